/-! ===== how a law is read ===== -/
abbrev Lr : Type := (Nat × Nat) ⊕ (Nat × List (Nat × Int32))
/-- which fact a word is; 7: none -/
def fcP (T : Nat → Nat) (e p : Nat) : Nat := if wis T e p [119, 104, 105, 115, 116, 108, 101] = true then 0 else if wis T e p [98, 108, 111, 119, 110] = true then 1 else if wis T e p [115, 97, 109, 101] = true then 2 else if wis T e p [102, 111, 103] = true then 3 else if wis T e p [109, 101, 110] = true then 4 else if wis T e p [110, 105, 103, 104, 116] = true then 5 else if wis T e p [98, 114, 101, 97, 116, 104] = true then 6 else 7
def isLe (T : Nat → Nat) (e p : Nat) : Bool := wis T e p [108, 101, 97, 115, 116]
def isMo (T : Nat → Nat) (e p : Nat) : Bool := wis T e p [109, 111, 115, 116]
/-- a sign that must stand there -/
def sgP (T : Nat → Nat) (e c p : Nat) : (Nat × Nat) ⊕ Nat := if nx T e p < e ∧ T (nx T e p) = c then .inr (nx T e p + 1) else .inl (1, nx T e p)
def twoP (T : Nat → Nat) (e : Nat) (S : Nat → Lr) (kd p : Nat) : Lr := match sgP T e 91 p with
  | .inl x => .inl x
  | .inr p1 => (match S p1 with
    | .inl x => .inl x
    | .inr (p2, c1) => (match sgP T e 44 p2 with
      | .inl x => .inl x
      | .inr p3 => (match S p3 with
        | .inl x => .inl x
        | .inr (p4, c2) => (match sgP T e 93 p4 with
          | .inl x => .inl x
          | .inr p5 => .inr (p5, c1 ++ c2 ++ [(kd, nI 0)])))))
def uP (T : Nat → Nat) (e : Nat) (S : Option (Nat → Lr)) (p : Nat) : Lr :=
  if nx T e p < e ∧ is_d T (nx T e p) = true then (match rdn T e p 0 1000 with
    | .inl x => .inl x
    | .inr (v, r) => .inr (r, [(0, nI v)]))
  else if nx T e p < e ∧ T (nx T e p) = 40 then (match S with
    | none => .inl (3, nx T e p)
    | some S => (match S (nx T e p + 1) with
      | .inl x => .inl x
      | .inr (r, c) => (match sgP T e 41 r with
        | .inl x => .inl x
        | .inr p5 => .inr (p5, c))))
  else if fcP T e (nx T e p) < 7 then .inr (we T e (nx T e p), [(1, nI (fcP T e (nx T e p)))])
  else if isLe T e (nx T e p) = true ∨ isMo T e (nx T e p) = true then (match S with
    | none => .inl (3, nx T e p)
    | some S => twoP T e S (if isLe T e (nx T e p) = true then 7 else 8) (we T e (nx T e p)))
  else .inl (1, nx T e p)
def opM (c : Nat) : Nat := if c = 42 then 4 else if c = 47 then 5 else if c = 37 then 6 else 0
def opA (c : Nat) : Nat := if c = 43 then 2 else if c = 45 then 3 else 0
def lpP (T : Nat → Nat) (e : Nat) (U : Nat → Lr) (op : Nat → Nat) : Nat → Nat → List (Nat × Int32) → Lr
  | 0, p, c => .inr (p, c)
  | k + 1, p, c => if nx T e p < e ∧ op (T (nx T e p)) ≠ 0 then (match U (nx T e p + 1) with
    | .inl x => .inl x
    | .inr (r, c2) => lpP T e U op k r (c ++ c2 ++ [(op (T (nx T e p)), nI 0)])) else .inr (nx T e p, c)
def prP (T : Nat → Nat) (e : Nat) (S : Option (Nat → Lr)) (p : Nat) : Lr := match uP T e S p with
  | .inl x => .inl x
  | .inr (r, c) => lpP T e (uP T e S) opM 150 r c
def smP (T : Nat → Nat) (e : Nat) (S : Option (Nat → Lr)) (p : Nat) : Lr := match prP T e S p with
  | .inl x => .inl x
  | .inr (r, c) => lpP T e (prP T e S) opA 150 r c
/-- so many may be opened yet -/
def sP (T : Nat → Nat) (e : Nat) : Nat → Nat → Lr
  | 0 => smP T e none
  | L + 1 => smP T e (some (sP T e L))
def sO (T : Nat → Nat) (e : Nat) : Nat → Option (Nat → Lr)
  | 0 => none
  | L + 1 => some (sP T e L)
theorem sP_eq (T : Nat → Nat) (e L : Nat) : sP T e L = smP T e (sO T e L) := by cases L <;> rfl
def lwP (T : Nat → Nat) (e : Nat) : (Nat × Nat) ⊕ List (Nat × Int32) := match sP T e 6 0 with
  | .inl x => .inl x
  | .inr (r, c) => if nx T e r < e then .inl (1, nx T e r) else .inr c
/-- what is read of a piece: it goes on, it isn't longer than what was read, it leaves one value -/
def gdC (c : List (Nat × Int32)) : Prop := (∀ s, ev_t c s = some (s + 1)) ∧ ∀ x, x ∈ c → x.1 ≤ 8 ∧ (x.1 = 1 → ∃ j, j < 7 ∧ x.2 = nI j)
def gdR (e : Nat) (U : Nat → Lr) : Prop := ∀ p, p ≤ e → (∀ k pl, U p = .inl (k, pl) → (1 ≤ k ∧ k ≤ 3)) ∧ ∀ r c, U p = .inr (r, c) → p < r ∧ r ≤ e ∧ c.length ≤ r - p ∧ 1 ≤ c.length ∧ gdC c
section
variable {T : Nat → Nat} {e : Nat}
theorem sgP_ok {c p r : Nat} (h : sgP T e c p = .inr r) (hp : p ≤ e) : p < r ∧ r ≤ e ∧ r = nx T e p + 1 ∧ nx T e p < e ∧ T (nx T e p) = c := by
  unfold sgP at h
  split at h
  · rename_i h1
    cases h
    have := nx_ge T e p
    exact ⟨by omega, by omega, rfl, h1.1, h1.2⟩
  · cases h
theorem sgP_no {c p k pl : Nat} (h : sgP T e c p = .inl (k, pl)) : k = 1 ∧ pl = nx T e p := by
  unfold sgP at h
  split at h
  · cases h
  · cases h; exact ⟨rfl, rfl⟩
theorem gd_op {c1 c2 : List (Nat × Int32)} {kd : Nat} (h1 : gdC c1) (h2 : gdC c2) (hk : 2 ≤ kd ∧ kd ≤ 8) : gdC (c1 ++ c2 ++ [(kd, nI 0)]) := by
  refine ⟨fun s => ?_, fun x hx => ?_⟩
  · rw [List.append_assoc, ev_t_app c1 _ s (s + 1) (h1.1 s), ev_t_app c2 _ (s + 1) (s + 1 + 1) (h2.1 (s + 1)), ev_t, if_neg (by show ¬ kd ≤ 1; omega), if_pos (by omega)]
    rfl
  · rw [List.mem_append, List.mem_append] at hx
    rcases hx with (hx | hx) | hx
    · exact h1.2 x hx
    · exact h2.2 x hx
    · rw [List.mem_singleton] at hx
      subst hx
      exact ⟨hk.2, fun q => absurd q (by show ¬ kd = 1; omega)⟩
theorem gd_1 {kd : Nat} {v : Int32} (h : kd = 0 ∨ (kd = 1 ∧ ∃ j, j < 7 ∧ v = nI j)) : gdC [(kd, v)] := by
  refine ⟨fun s => ?_, fun x hx => ?_⟩
  · rw [ev_t, if_pos (by show kd ≤ 1; omega)]
    rfl
  · rw [List.mem_singleton] at hx
    subst hx
    refine ⟨by show kd ≤ 8; omega, fun q => ?_⟩
    have q : kd = 1 := q
    rcases h with h | h
    · omega
    · exact h.2
theorem gd_loop {U : Nat → Lr} {op : Nat → Nat} (hU : gdR e U) (ho : ∀ c, op c = 0 ∨ (2 ≤ op c ∧ op c ≤ 8)) : ∀ n p c p0, p0 < p → p ≤ e → c.length ≤ p - p0 → 1 ≤ c.length → gdC c → (∀ k pl, lpP T e U op n p c = .inl (k, pl) → (1 ≤ k ∧ k ≤ 3)) ∧ ∀ r c2, lpP T e U op n p c = .inr (r, c2) → p0 < r ∧ r ≤ e ∧ c2.length ≤ r - p0 ∧ 1 ≤ c2.length ∧ gdC c2 ∧ p ≤ r
  | 0, p, c, p0, h1, h2, h3, h4, h5 => by
    refine ⟨fun k pl h => (by cases h), fun r c2 h => ?_⟩
    cases h
    exact ⟨h1, h2, h3, h4, h5, Nat.le_refl _⟩
  | n + 1, p, c, p0, h1, h2, h3, h4, h5 => by
    have hn := nx_ge T e p
    have hn2 := nx_le (T := T) h2
    rw [lpP]
    by_cases hc : nx T e p < e ∧ op (T (nx T e p)) ≠ 0
    · rw [if_pos hc]
      have hop := ho (T (nx T e p))
      obtain ⟨g1, g2⟩ := hU (nx T e p + 1) (by omega)
      cases hu : U (nx T e p + 1) with
      | inl x =>
        obtain ⟨k, pl⟩ := x
        refine ⟨fun k' pl' h => ?_, fun r c2 h => (by cases h)⟩
        cases h
        exact g1 k pl hu
      | inr x =>
        obtain ⟨r, c2⟩ := x
        obtain ⟨a1, a2, a3, a4, a5⟩ := g2 r c2 hu
        have := gd_loop hU ho n r (c ++ c2 ++ [(op (T (nx T e p)), nI 0)]) p0 (by omega) a2 (by simp only [List.length_append, List.length_cons, List.length_nil]; omega) (by simp only [List.length_append, List.length_cons, List.length_nil]; omega) (gd_op h5 a5 (by omega))
        refine ⟨this.1, fun r' c' h => ?_⟩
        obtain ⟨b1, b2, b3, b4, b5, b6⟩ := this.2 r' c' h
        exact ⟨b1, b2, b3, b4, b5, by omega⟩
    · rw [if_neg hc]
      refine ⟨fun k pl h => (by cases h), fun r c2 h => ?_⟩
      cases h
      exact ⟨by omega, hn2, by omega, h4, h5, hn⟩
theorem opM_ok : ∀ c, opM c = 0 ∨ (2 ≤ opM c ∧ opM c ≤ 8) := by
  intro c
  unfold opM
  split
  · omega
  · split
    · omega
    · split <;> omega
theorem opA_ok : ∀ c, opA c = 0 ∨ (2 ≤ opA c ∧ opA c ≤ 8) := by
  intro c
  unfold opA
  split
  · omega
  · split <;> omega
theorem gd_unit {S : Option (Nat → Lr)} (hS : ∀ s, S = some s → gdR e s) : gdR e (uP T e S) := by
  intro p hp
  have hn := nx_ge T e p
  have hn2 := nx_le (T := T) hp
  have hw := we_ge T e (nx T e p)
  have hw2 := we_le (T := T) hn2
  unfold uP
  split
  · split
    · rename_i x hr
      obtain ⟨k, pl⟩ := x
      refine ⟨fun k' pl' h => ?_, fun r c h => (by cases h)⟩
      cases h
      have := rdn_inl hr hp
      omega
    · rename_i v r hr
      refine ⟨fun k' pl' h => (by cases h), fun r c h => ?_⟩
      cases h
      obtain ⟨r1, r2, r3, r4, r5, r6⟩ := rdn_inr hr hp
      exact ⟨r3, r4, by show 1 ≤ _; omega, Nat.le_refl _, gd_1 (Or.inl rfl)⟩
  · split
    · rename_i h1
      split
      · refine ⟨fun k' pl' h => ?_, fun r c h => (by cases h)⟩
        cases h
        omega
      · rename_i s
        obtain ⟨g1, g2⟩ := hS s rfl (nx T e p + 1) (by omega)
        split
        · rename_i x hx
          obtain ⟨k, pl⟩ := x
          refine ⟨fun k' pl' h => ?_, fun r c h => (by cases h)⟩
          cases h
          exact g1 k pl hx
        · rename_i r c hx
          obtain ⟨a1, a2, a3, a4, a5⟩ := g2 r c hx
          split
          · rename_i x hx2
            obtain ⟨k, pl⟩ := x
            refine ⟨fun k' pl' h => ?_, fun r c h => (by cases h)⟩
            cases h
            have := (sgP_no hx2).1
            omega
          · rename_i p5 hx2
            refine ⟨fun k' pl' h => (by cases h), fun r c h => ?_⟩
            cases h
            obtain ⟨b1, b2, b3⟩ := sgP_ok hx2 a2
            exact ⟨by omega, b2, by omega, a4, a5⟩
    · split
      · rename_i h1
        refine ⟨fun k' pl' h => (by cases h), fun r c h => ?_⟩
        cases h
        have hlt : nx T e p < we T e (nx T e p) := by
          unfold fcP at h1
          rcases Nat.lt_or_ge (nx T e p) (we T e (nx T e p)) with q | q
          · exact q
          · exfalso
            have nw : ∀ l : List Nat, 0 < l.length → wis T e (nx T e p) l = true → False := by
              intro l hl hw3
              have := (wis_iff.mp hw3).1
              omega
            split at h1
            · rename_i h2; exact nw _ (by decide) h2
            · split at h1
              · rename_i h2; exact nw _ (by decide) h2
              · split at h1
                · rename_i h2; exact nw _ (by decide) h2
                · split at h1
                  · rename_i h2; exact nw _ (by decide) h2
                  · split at h1
                    · rename_i h2; exact nw _ (by decide) h2
                    · split at h1
                      · rename_i h2; exact nw _ (by decide) h2
                      · split at h1
                        · rename_i h2; exact nw _ (by decide) h2
                        · omega
        exact ⟨by omega, hw2, by show 1 ≤ _; omega, Nat.le_refl _, gd_1 (Or.inr ⟨rfl, _, h1, rfl⟩)⟩
      · split
        · rename_i h1
          split
          · refine ⟨fun k' pl' h => ?_, fun r c h => (by cases h)⟩
            cases h
            omega
          · rename_i s
            have hkd : 2 ≤ (if isLe T e (nx T e p) = true then 7 else 8) ∧ (if isLe T e (nx T e p) = true then 7 else 8) ≤ 8 := by split <;> omega
            generalize (if isLe T e (nx T e p) = true then 7 else 8) = kd at hkd
            unfold twoP
            split
            · rename_i x hx2
              obtain ⟨k, pl⟩ := x
              refine ⟨fun k' pl' h => ?_, fun r c h => (by cases h)⟩
              cases h
              have := (sgP_no hx2).1
              omega
            · rename_i p1 hx1
              obtain ⟨b1, b2, b3⟩ := sgP_ok hx1 hw2
              obtain ⟨g1, g2⟩ := hS s rfl p1 (by omega)
              split
              · rename_i x hx
                obtain ⟨k, pl⟩ := x
                refine ⟨fun k' pl' h => ?_, fun r c h => (by cases h)⟩
                cases h
                exact g1 k pl hx
              · rename_i p2 c1 hx2
                obtain ⟨a1, a2, a3, a4, a5⟩ := g2 p2 c1 hx2
                split
                · rename_i x hx2
                  obtain ⟨k, pl⟩ := x
                  refine ⟨fun k' pl' h => ?_, fun r c h => (by cases h)⟩
                  cases h
                  have := (sgP_no hx2).1
                  omega
                · rename_i p3 hx3
                  obtain ⟨d1, d2, d3⟩ := sgP_ok hx3 a2
                  obtain ⟨g3, g4⟩ := hS s rfl p3 (by omega)
                  split
                  · rename_i x hx
                    obtain ⟨k, pl⟩ := x
                    refine ⟨fun k' pl' h => ?_, fun r c h => (by cases h)⟩
                    cases h
                    exact g3 k pl hx
                  · rename_i p4 c2 hx4
                    obtain ⟨e1, e2, e3, e4, e5⟩ := g4 p4 c2 hx4
                    split
                    · rename_i x hx2
                      obtain ⟨k, pl⟩ := x
                      refine ⟨fun k' pl' h => ?_, fun r c h => (by cases h)⟩
                      cases h
                      have := (sgP_no hx2).1
                      omega
                    · rename_i p5 hx5
                      obtain ⟨i1, i2, i3⟩ := sgP_ok hx5 e2
                      refine ⟨fun k' pl' h => (by cases h), fun r c h => ?_⟩
                      cases h
                      refine ⟨by omega, i2, ?_, ?_, gd_op a5 e5 hkd⟩
                      · simp only [List.length_append, List.length_cons, List.length_nil]; omega
                      · simp only [List.length_append, List.length_cons, List.length_nil]; omega
        · refine ⟨fun k' pl' h => ?_, fun r c h => (by cases h)⟩
          cases h
          omega
theorem gd_prod {S : Option (Nat → Lr)} (hS : ∀ s, S = some s → gdR e s) : gdR e (prP T e S) := by
  intro p hp
  obtain ⟨g1, g2⟩ := gd_unit (T := T) hS p hp
  unfold prP
  split
  · rename_i x hx
    obtain ⟨k, pl⟩ := x
    refine ⟨fun k' pl' h => ?_, fun r c h => (by cases h)⟩
    cases h
    exact g1 k pl hx
  · rename_i r c hx
    obtain ⟨a1, a2, a3, a4, a5⟩ := g2 r c hx
    obtain ⟨h1, h2⟩ := gd_loop (T := T) (gd_unit (T := T) hS) opM_ok 150 r c p a1 a2 a3 a4 a5
    refine ⟨h1, fun r' c' h => ?_⟩
    obtain ⟨b1, b2, b3, b4, b5, b6⟩ := h2 r' c' h
    exact ⟨b1, b2, b3, b4, b5⟩
theorem gd_sum {S : Option (Nat → Lr)} (hS : ∀ s, S = some s → gdR e s) : gdR e (smP T e S) := by
  intro p hp
  obtain ⟨g1, g2⟩ := gd_prod (T := T) hS p hp
  unfold smP
  split
  · rename_i x hx
    obtain ⟨k, pl⟩ := x
    refine ⟨fun k' pl' h => ?_, fun r c h => (by cases h)⟩
    cases h
    exact g1 k pl hx
  · rename_i r c hx
    obtain ⟨a1, a2, a3, a4, a5⟩ := g2 r c hx
    obtain ⟨h1, h2⟩ := gd_loop (T := T) (gd_prod (T := T) hS) opA_ok 150 r c p a1 a2 a3 a4 a5
    refine ⟨h1, fun r' c' h => ?_⟩
    obtain ⟨b1, b2, b3, b4, b5, b6⟩ := h2 r' c' h
    exact ⟨b1, b2, b3, b4, b5⟩
theorem gd_sP : ∀ L, gdR e (sP T e L)
  | 0 => gd_sum (fun s h => by cases h)
  | L + 1 => gd_sum (fun s h => by cases h; exact gd_sP L)
theorem gd_sO (L : Nat) : ∀ s, sO T e L = some s → gdR e s := by
  intro s h
  cases L with
  | zero => cases h
  | succ L => cases h; exact gd_sP L
theorem lwP_ok {c : List (Nat × Int32)} (he : e ≤ 150) (h : lwP T e = .inr c) : lw_ok c := by
  unfold lwP at h
  split at h
  · cases h
  · rename_i r c' hx
    split at h
    · cases h
    · cases h
      obtain ⟨a1, a2, a3, a4, a5⟩ := (gd_sP (T := T) 6 0 (Nat.zero_le _)).2 r c hx
      exact ⟨by omega, a5.1 0, a5.2⟩
end
