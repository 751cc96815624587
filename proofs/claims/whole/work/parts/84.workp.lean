/-! ===== how work is read, what it means ===== -/
/-- a scene, steps begun, done, refused -/
abbrev Xw : Type := Sn × Nat × Nat × Nat
def st1 (C : List (Nat × Int32)) (t : Tn) (kd a b : Nat) (s : Sn) : Sn × Bool :=
  if kd = 1 then (if s.br < sn_pr C t.m s a then (s, false) else (sn_bl C t s a, true))
  else if kd = 2 then (sn_fg s a, true)
  else if kd = 3 then (if nI 200 ≤ s.br then (s, false) else (sn_rs s a, true))
  else if kd = 4 then (if s.po a = b then (s, false) else (sn_wk s a b, true))
  else (if nI 400 ≤ s.ni then (s, false) else (sn_nt t.k s, true))
def gA (C : List (Nat × Int32)) (t : Tn) (kd a b : Nat) (x : Xw) : Xw := if 200 ≤ x.2.1 then x else ((st1 C t kd a b x.1).1, x.2.1 + 1, (if (st1 C t kd a b x.1).2 = true then x.2.2.1 + 1 else x.2.2.1), (if (st1 C t kd a b x.1).2 = true then x.2.2.2 else x.2.2.2 + 1))
def itX (G : Xw → Xw) : Nat → Xw → Xw
  | 0, x => x
  | n + 1, x => itX G n (G x)
def gL (N : Nat) (G : Xw → Xw) (x : Xw) : Xw := if 200 ≤ x.2.1 then x else itX G N (x.1, x.2.1 + 1, x.2.2.1, x.2.2.2)
/-- what a meaning must keep: scenes stay sound, steps are counted, nothing is done behind the 200th -/
def okG (t : Tn) (G : Xw → Xw) : Prop := ∀ x : Xw, (sn_ok t x.1 → sn_ok t (G x).1) ∧ (x.2.1 ≤ 200 → x.2.1 ≤ (G x).2.1 ∧ (G x).2.1 ≤ 200) ∧ (x.2.1 = 200 → G x = x)
theorem clp_n (x : Int32) : ∃ p, p ≤ 60 ∧ clp x = nI p := by
  unfold clp
  by_cases h1 : x < nI 60
  · rw [if_pos h1]
    by_cases h2 : (0 : Int32) < x
    · rw [if_pos h2]
      obtain ⟨j, j1, j2⟩ := nI_of (x := x) (k2_nlt (Int32.le_of_lt h2))
      refine ⟨j, ?_, j2⟩
      rw [j2] at h1
      have := (nI_ltI (by omega) (by omega)).mp h1
      omega
    · rw [if_neg h2]
      exact ⟨0, by omega, rfl⟩
  · rw [if_neg h1]
    exact ⟨60, by omega, rfl⟩
theorem sn_bl_ok {C : List (Nat × Int32)} {t : Tn} {s : Sn} {w : Nat} (tk : tn_ok t) (hs : sn_ok t s) (hw : w < 4) (hb : ¬ s.br < sn_pr C t.m s w) : sn_ok t (sn_bl C t s w) := by
  obtain ⟨⟨v, v1, v2⟩, h2, h3⟩ := hs
  obtain ⟨p, p1, p2⟩ := clp_n ((evL (fct (nI w) s.bl (if s.la = nI w then s.sa else nI 0) (nI (cn (fun i => s.fo.testBit i) 10)) (nI (crw s.po t.m)) s.ni s.br) C (0, fun _ => 0)).2 0)
  have e : sn_pr C t.m s w = nI p := p2
  rw [e, v2] at hb
  have hpv : p ≤ v := by
    rcases Nat.lt_or_ge v p with q | q
    · exact absurd (nI_lt q (by omega)) hb
    · exact q
  refine ⟨⟨v - p, by omega, ?_⟩, h2, fun m hm => ?_⟩
  · show s.br - sn_pr C t.m s w = nI (v - p)
    rw [e, v2, kk_sub hpv]
  · show (if s.fo.testBit (s.po m) = true then s.po m else t.wy (s.po m) w) < t.k
    split
    · exact h3 m hm
    · exact tk.2.2.2.2.1 _ (h3 m hm) w hw
theorem sn_fg_ok {t : Tn} {s : Sn} {c : Nat} (hs : sn_ok t s) (hc : c < t.k) : sn_ok t (sn_fg s c) := ⟨hs.1, Nat.xor_lt_two_pow hs.2.1 (Nat.pow_lt_pow_right (by omega) hc), hs.2.2⟩
theorem sn_nt_ok {t : Tn} {s : Sn} (hs : sn_ok t s) : sn_ok t (sn_nt t.k s) := ⟨hs.1, dr_lt, hs.2.2⟩
/-- a step's numbers fit -/
def stV (t : Tn) (kd a b : Nat) : Prop := (kd = 1 ∧ a < 4) ∨ (kd = 2 ∧ a < t.k) ∨ (kd = 3 ∧ 1 ≤ a ∧ a ≤ 60) ∨ (kd = 4 ∧ a < t.m ∧ b < t.k) ∨ kd = 5
theorem st1_ok {C : List (Nat × Int32)} {t : Tn} {kd a b : Nat} {s : Sn} (tk : tn_ok t) (hs : sn_ok t s) (hv : stV t kd a b) : sn_ok t (st1 C t kd a b s).1 := by
  unfold st1
  rcases hv with ⟨rfl, h⟩ | ⟨rfl, h⟩ | ⟨rfl, h1, h2⟩ | ⟨rfl, h1, h2⟩ | rfl
  · rw [if_pos rfl]
    split
    · exact hs
    · rename_i hb; exact sn_bl_ok tk hs h hb
  · exact sn_fg_ok hs h
  · rw [if_neg (by omega), if_neg (by omega), if_pos rfl]
    split
    · exact hs
    · rename_i hb
      obtain ⟨⟨v, v1, v2⟩, h3, h4⟩ := hs
      refine ⟨?_, h3, h4⟩
      show ∃ v, v ≤ 200 ∧ (if s.br + nI a < nI 200 then s.br + nI a else nI 200) = nI v
      split
      · rename_i hl
        rw [v2, nI_add] at hl ⊢
        have := (nI_ltI (by omega) (by omega)).mp hl
        exact ⟨v + a, by omega, rfl⟩
      · exact ⟨200, Nat.le_refl _, rfl⟩
  · rw [if_neg (by omega), if_neg (by omega), if_neg (by omega), if_pos rfl]
    split
    · exact hs
    · refine ⟨hs.1, hs.2.1, fun m hm => ?_⟩
      show (if m = a then b else s.po m) < t.k
      split
      · exact h2
      · exact hs.2.2 m hm
  · rw [if_neg (by omega), if_neg (by omega), if_neg (by omega), if_neg (by omega)]
    split
    · exact hs
    · exact sn_nt_ok hs
theorem gA_ok {C : List (Nat × Int32)} {t : Tn} {kd a b : Nat} (tk : tn_ok t) (hv : stV t kd a b) : okG t (gA C t kd a b) := by
  intro x
  unfold gA
  by_cases h : 200 ≤ x.2.1
  · rw [if_pos h]
    exact ⟨id, fun h2 => ⟨Nat.le_refl _, h2⟩, fun _ => rfl⟩
  · rw [if_neg h]
    exact ⟨fun hs => st1_ok tk hs hv, fun h2 => ⟨by show x.2.1 ≤ x.2.1 + 1; omega, by show x.2.1 + 1 ≤ 200; omega⟩, fun h2 => absurd h2 (by omega)⟩
theorem itX_ok {t : Tn} {G : Xw → Xw} (hG : okG t G) : ∀ n, okG t (itX G n)
  | 0 => fun x => ⟨id, fun h2 => ⟨Nat.le_refl _, h2⟩, fun _ => rfl⟩
  | n + 1 => fun x => by
    obtain ⟨h1, h2, h3⟩ := hG x
    obtain ⟨k1, k2, k3⟩ := itX_ok hG n (G x)
    refine ⟨fun h => k1 (h1 h), fun h => ?_, fun h => ?_⟩
    · have a1 := h2 h
      have a2 := k2 a1.2
      exact ⟨by show x.2.1 ≤ (itX G n (G x)).2.1; omega, a2.2⟩
    · rw [itX, h3 h]
      exact (itX_ok hG n x).2.2 h
theorem gL_ok {t : Tn} {G : Xw → Xw} {N : Nat} (hG : okG t G) : okG t (gL N G) := by
  intro x
  unfold gL
  by_cases h : 200 ≤ x.2.1
  · rw [if_pos h]
    exact ⟨id, fun h2 => ⟨Nat.le_refl _, h2⟩, fun _ => rfl⟩
  · rw [if_neg h]
    obtain ⟨k1, k2, k3⟩ := itX_ok hG N (x.1, x.2.1 + 1, x.2.2.1, x.2.2.2)
    refine ⟨k1, fun h2 => ?_, fun h2 => absurd h2 (by omega)⟩
    have := k2 (show x.2.1 + 1 ≤ 200 by omega)
    exact ⟨by have h9 := this.1; have h9 : x.2.1 + 1 ≤ _ := h9; omega, this.2⟩
theorem okG_comp {t : Tn} {G H : Xw → Xw} (hG : okG t G) (hH : okG t H) : okG t (fun x => H (G x)) := by
  intro x
  obtain ⟨h1, h2, h3⟩ := hG x
  obtain ⟨k1, k2, k3⟩ := hH (G x)
  refine ⟨fun h => k1 (h1 h), fun h => ?_, fun h => ?_⟩
  · have a1 := h2 h
    have a2 := k2 a1.2
    exact ⟨by show x.2.1 ≤ (H (G x)).2.1; omega, a2.2⟩
  · show H (G x) = x
    rw [h3 h]
    exact (hH x).2.2 h
/-- tokens: kind, first, second -/
abbrev Wt : Type := List (Nat × Nat × Nat)
/-- where it ends, the class's tokens, the reference's, what they mean -/
abbrev Wr : Type := (Nat × Nat) ⊕ (Nat × Wt × Wt × (Xw → Xw))
def kdS (T : Nat → Nat) (e p : Nat) : Nat := if wis T e p [98, 108, 111, 119] = true then 1 else if wis T e p [102, 111, 103] = true then 2 else if wis T e p [114, 101, 115, 116] = true then 3 else if wis T e p [119, 97, 108, 107] = true then 4 else if wis T e p [110, 105, 103, 104, 116] = true then 5 else if wis T e p [97, 103, 97, 105, 110] = true then 6 else 0
def agP (T : Nat → Nat) (e : Nat) (B : Nat → Nat → Nat → Wr) (w ic jm : Nat) : Wr := match rdn T e w 0 41 with
  | .inl x => .inl x
  | .inr (N, r) => (match sgP T e 91 r with
    | .inl x => .inl x
    | .inr r1 => (match B r1 (ic + 1) (jm + 1) with
      | .inl x => .inl x
      | .inr (r2, cl, ml, G) => (match sgP T e 93 r2 with
        | .inl x => .inl x
        | .inr r3 => .inr (r3, (6, N, ic + 1 + cl.length) :: cl ++ [(7, ic, 0)], (5, N, 3 * (jm + 1 + ml.length)) :: ml, gL N G))))
section
variable (T : Nat → Nat) (e : Nat) (C : List (Nat × Int32)) (t : Tn)
def stP (B : Option (Nat → Nat → Nat → Wr)) (q ic jm : Nat) : Wr :=
  if kdS T e q = 1 then (match rdn T e (we T e q) 0 4 with
    | .inl x => .inl x
    | .inr (v, r) => .inr (r, [(1, v, 0)], [(0, v, 0)], gA C t 1 v 0))
  else if kdS T e q = 2 then (match rdn T e (we T e q) 0 t.k with
    | .inl x => .inl x
    | .inr (v, r) => .inr (r, [(2, v, 0)], [(1, v, 0)], gA C t 2 v 0))
  else if kdS T e q = 3 then (match rdn T e (we T e q) 1 61 with
    | .inl x => .inl x
    | .inr (v, r) => .inr (r, [(3, v, 0)], [(2, v, 0)], gA C t 3 v 0))
  else if kdS T e q = 4 then (match rdn T e (we T e q) 0 t.m with
    | .inl x => .inl x
    | .inr (v, r) => (match rdn T e r 0 t.k with
      | .inl x => .inl x
      | .inr (w, r2) => .inr (r2, [(4, v, w)], [(3, v, w)], gA C t 4 v w)))
  else if kdS T e q = 5 then .inr (we T e q, [(5, 0, 0)], [(4, 0, 0)], gA C t 5 0 0)
  else if kdS T e q = 6 then (match B with
    | none => .inl (3, q)
    | some B => agP T e B (we T e q) ic jm)
  else .inl (1, q)
/-- steps one behind the other, up to the end (false) or to a bracket (true) -/
def lpB (U : Nat → Nat → Nat → Wr) (inn : Bool) : Nat → Nat → Nat → Nat → Wt → Wt → (Xw → Xw) → Wr
  | 0, p, _, _, cl, ml, G => .inr (p, cl, ml, G)
  | n + 1, p, ic, jm, cl, ml, G => if (if inn = true then nx T e p < e ∧ T (nx T e p) = 93 else ¬ nx T e p < e) then .inr (nx T e p, cl, ml, G) else (match U (nx T e p) (ic + cl.length) (jm + ml.length) with
    | .inl x => .inl x
    | .inr (r, cl2, ml2, G2) => (match sgP T e 59 r with
      | .inl x => .inl x
      | .inr r2 => lpB U inn n r2 ic jm (cl ++ cl2) (ml ++ ml2) (fun x => G2 (G x))))
/-- so many may be opened yet -/
def bkP (inn : Bool) : Nat → Nat → Nat → Nat → Wr
  | 0 => fun p ic jm => lpB T e (stP T e C t none) inn 150 p ic jm [] [] id
  | L + 1 => fun p ic jm => lpB T e (stP T e C t (some (bkP true L))) inn 150 p ic jm [] [] id
end
