/-! ===== more fuel, the same answer: so calls may be walked through by 'iff' ===== -/
def fx_ms (a b : Option fx_R) : Prop := ∀ r, a = some r → b = some r
theorem fx_ms.rf (a : Option fx_R) : fx_ms a a := fun _ h => h
theorem fx_ms.no (b : Option fx_R) : fx_ms none b := fun _ h => by cases h
theorem fx_ms.only {a b : Option fx_R} (h : fx_ms a b) (n : Nat) : fx_ms (fx_only n a) (fx_only n b) := by
  intro r hr
  unfold fx_only at hr ⊢
  split at hr
  · rename_i hn
    rw [if_pos hn]
    split at hr
    · rename_i v h1
      cases hr
      rw [h _ rfl]
    · cases hr
  · rename_i hn
    rw [if_neg hn]
    exact h _ hr
theorem fx_ms.thn {hn : Nat → Option (Nat × Nat)} {jump jump2 : fx_J} {go go2 : List Value → fx_H → Option fx_R} {ls rest : List Value} {a b : Option fx_R} (h : fx_ms a b) (hj : ∀ t ls st h, fx_ms (jump t ls st h) (jump2 t ls st h)) (hg : ∀ st h, fx_ms (go st h) (go2 st h)) : fx_ms (fx_then hn jump go ls rest a) (fx_then hn jump2 go2 ls rest b) := by
  intro r hr
  cases a with
  | none => simp [fx_then] at hr
  | some x =>
    rw [h x rfl]
    obtain ⟨v, h1⟩ := x
    rcases v with (_ | v) | t
    · exact hg _ _ _ hr
    · exact hg _ _ _ hr
    · simp only [fx_then] at hr ⊢
      split
      · rename_i tg htg
        rw [htg] at hr
        exact hj _ _ _ _ _ hr
      · rename_i htg
        rw [htg] at hr
        exact hr
set_option maxHeartbeats 4000000 in
theorem fx_1_ms {sc : Nat × (Nat → Int32)} {tx : List (List Int32)} {df : Nat → List Value} {call call2 : fx_C} {hn : Nat → Option (Nat × Nat)} {jump jump2 : fx_J} (h1 : ∀ k as h, fx_ms (call k as h) (call2 k as h)) (h2 : ∀ t ls st h, fx_ms (jump t ls st h) (jump2 t ls st h)) : ∀ (code : List Instr) (ls st : List Value) (h : fx_H), fx_ms (fx_1 sc tx df call hn jump code ls st h) (fx_1 sc tx df call2 hn jump2 code ls st h)
  | [], _, _, _ => fx_ms.rf _
  | ci :: k, ls, st, h => by
    have ih := fx_1_ms (sc := sc) (tx := tx) (df := df) (hn := hn) h1 h2 k
    cases ci <;> simp only [fx_1] <;> (try exact ih _ _ _) <;> (try exact fx_ms.rf _) <;> (repeat' split) <;> first
      | exact fx_ms.rf _
      | exact ih _ _ _
      | exact h2 _ _ _ _
      | exact fx_ms.no _
      | exact fx_ms.thn ((h1 _ _ _).only _) h2 (fun st h => ih _ _ _)
      | exact fx_ms.thn (h1 _ _ _) h2 (fun st h => ih _ _ _)
      | (simp only [*]; first | exact fx_ms.rf _ | exact ih _ _ _ | exact h2 _ _ _ _ | exact fx_ms.thn ((h1 _ _ _).only _) h2 (fun st h => ih _ _ _) | exact fx_ms.thn (h1 _ _ _) h2 (fun st h => ih _ _ _))
theorem fx_J1_ms {sc : Nat × (Nat → Int32)} {tx : List (List Int32)} {df : Nat → List Value} {call call2 : fx_C} {hn : Nat → Option (Nat × Nat)} {code : List Instr} (h1 : ∀ k as h, fx_ms (call k as h) (call2 k as h)) : ∀ (F G : Nat), F ≤ G → ∀ (t : Nat) (ls st : List Value) (h : fx_H), fx_ms (fx_J1 sc tx df call hn code F t ls st h) (fx_J1 sc tx df call2 hn code G t ls st h)
  | 0, _, _, _, _, _, _ => fx_ms.no _
  | F + 1, 0, hl, _, _, _, _ => absurd hl (by omega)
  | F + 1, G + 1, hl, t, ls, st, h => fx_1_ms h1 (fun t ls st h => fx_J1_ms h1 F G (by omega) t ls st h) (code.drop t) ls st h
theorem fx_M_ms {sc : Nat × (Nat → Int32)} {tx : List (List Int32)} {df : Nat → List Value} {cd : Nat → List Instr} {nl : Nat → Nat} {hd : Nat → Nat → Option (Nat × Nat)} {F G : Nat} (hl : F ≤ G) : ∀ (d k : Nat) (as : List Value) (h : fx_H), fx_ms (fx_M sc tx df cd nl hd F d k as h) (fx_M sc tx df cd nl hd G d k as h)
  | 0, _, _, _ => fx_ms.no _
  | d + 1, k, as, h => by
    simp only [fx_M]
    split
    · exact fx_J1_ms (fun k as h => fx_M_ms hl d k as h) F G hl _ _ _ _
    · exact fx_ms.no _
section
variable {sc : Nat × (Nat → Int32)} {d : Nat} {hn : Nat → Option (Nat × Nat)} {cdm k : List Instr} {ls st : List Value} {h : fx_H} {n cc ss : Nat} {f : Nat → va_E} {Q : fx_R → Prop}
/-- a call comes to just one answer -/
theorem wM_iff {m : Nat} {args : List Value} {r : fx_R} (hs : ∀ Q : fx_R → Prop, Q r → wM sc d m args h Q) : wM sc d m args h Q ↔ Q r := by
  constructor
  · rintro ⟨r2, hq, F0, h2⟩
    obtain ⟨r3, rfl, F1, h3⟩ := hs (fun x => x = r) rfl
    have e1 := h2 (F0 + F1) (by omega)
    have e2 := h3 (F0 + F1) (by omega)
    rw [e1] at e2
    cases e2
    exact hq
  · exact hs Q
theorem wM_in {m : Nat} {args : List Value} : wM sc (d + 1) m args h Q ↔ ((fx_words args).length ≤ pg_nl m ∧ wC sc d (pg_hd m) (pg_cd m) (pg_cd m) (fx_ent args (pg_nl m)) [] h Q) := by
  constructor
  · rintro ⟨r, hq, F0, h2⟩
    have h3 := h2 (F0 + 1) (by omega)
    simp only [fx_M] at h3
    split at h3
    · rename_i hl
      refine ⟨hl, r, hq, F0 + 1, fun F hF G hG => ?_⟩
      exact fx_1_ms (fun k as h => fx_M_ms (by omega) _ k as h) (fun t ls st h => fx_J1_ms (fun k as h => fx_M_ms (by omega) _ k as h) F0 G (by omega) t ls st h) _ _ _ _ _ h3
    · cases h3
  · rintro ⟨hl, hk⟩
    exact wM_enter hl hk
/-- a call's stack: what is called, its arguments, what lies below -/
def wi_i (x : Nat) (st : List Value) (F : Nat → List Value → List Value → Prop) : Prop := match st.drop (x / 64) with
  | .ref a :: rest => F a ((st.take (x / 64)).reverse) rest
  | _ => False
def wi_c (e : va_E) (c : Nat) : Prop := match e with
  | .inr (c2, _) => c2 = c
  | _ => False
theorem wi_c_ {c c2 : Nat} {fs : List Value} : wi_c (.inr (c2, fs)) c = (c2 = c) := rfl
theorem wi_i0 {x a : Nat} {F : Nat → List Value → List Value → Prop} (hx : x / 64 = 0) : wi_i x (.ref a :: st) F = F a [] st := by unfold wi_i; rw [hx]; rfl
theorem wi_i1 {x a : Nat} {v1 : Value} {F : Nat → List Value → List Value → Prop} (hx : x / 64 = 1) : wi_i x (v1 :: .ref a :: st) F = F a [v1] st := by unfold wi_i; rw [hx]; rfl
theorem wi_i2 {x a : Nat} {v1 v2 : Value} {F : Nat → List Value → List Value → Prop} (hx : x / 64 = 2) : wi_i x (v2 :: v1 :: .ref a :: st) F = F a [v1, v2] st := by unfold wi_i; rw [hx]; rfl
theorem wi_i3 {x a : Nat} {v1 v2 v3 : Value} {F : Nat → List Value → List Value → Prop} (hx : x / 64 = 3) : wi_i x (v3 :: v2 :: v1 :: .ref a :: st) F = F a [v1, v2, v3] st := by unfold wi_i; rw [hx]; rfl
theorem wi_i4 {x a : Nat} {v1 v2 v3 v4 : Value} {F : Nat → List Value → List Value → Prop} (hx : x / 64 = 4) : wi_i x (v4 :: v3 :: v2 :: v1 :: .ref a :: st) F = F a [v1, v2, v3, v4] st := by unfold wi_i; rw [hx]; rfl
theorem wi_i5 {x a : Nat} {v1 v2 v3 v4 v5 : Value} {F : Nat → List Value → List Value → Prop} (hx : x / 64 = 5) : wi_i x (v5 :: v4 :: v3 :: v2 :: v1 :: .ref a :: st) F = F a [v1, v2, v3, v4, v5] st := by unfold wi_i; rw [hx]; rfl
theorem wi_i6 {x a : Nat} {v1 v2 v3 v4 v5 v6 : Value} {F : Nat → List Value → List Value → Prop} (hx : x / 64 = 6) : wi_i x (v6 :: v5 :: v4 :: v3 :: v2 :: v1 :: .ref a :: st) F = F a [v1, v2, v3, v4, v5, v6] st := by unfold wi_i; rw [hx]; rfl
theorem wi_i7 {x a : Nat} {v1 v2 v3 v4 v5 v6 v7 : Value} {F : Nat → List Value → List Value → Prop} (hx : x / 64 = 7) : wi_i x (v7 :: v6 :: v5 :: v4 :: v3 :: v2 :: v1 :: .ref a :: st) F = F a [v1, v2, v3, v4, v5, v6, v7] st := by unfold wi_i; rw [hx]; rfl
def wi_s (x : Nat) (st : List Value) (F : List Value → List Value → Prop) : Prop := x / 2 ≤ st.length ∧ F ((st.take (x / 2)).reverse) (st.drop (x / 2))
theorem wi_s1 {x : Nat} {v1 : Value} {F : List Value → List Value → Prop} (hx : x / 2 = 1) : wi_s x (v1 :: st) F = F [v1] st := by unfold wi_s; rw [hx]; simp
theorem wi_s2 {x : Nat} {v1 v2 : Value} {F : List Value → List Value → Prop} (hx : x / 2 = 2) : wi_s x (v2 :: v1 :: st) F = F [v1, v2] st := by unfold wi_s; rw [hx]; simp
theorem wi_s3 {x : Nat} {v1 v2 v3 : Value} {F : List Value → List Value → Prop} (hx : x / 2 = 3) : wi_s x (v3 :: v2 :: v1 :: st) F = F [v1, v2, v3] st := by unfold wi_s; rw [hx]; simp
theorem wi_s4 {x : Nat} {v1 v2 v3 v4 : Value} {F : List Value → List Value → Prop} (hx : x / 2 = 4) : wi_s x (v4 :: v3 :: v2 :: v1 :: st) F = F [v1, v2, v3, v4] st := by unfold wi_s; rw [hx]; simp
theorem wi_s5 {x : Nat} {v1 v2 v3 v4 v5 : Value} {F : List Value → List Value → Prop} (hx : x / 2 = 5) : wi_s x (v5 :: v4 :: v3 :: v2 :: v1 :: st) F = F [v1, v2, v3, v4, v5] st := by unfold wi_s; rw [hx]; simp
theorem wX_then {rest : List Value} {sp m : Nat} {args : List Value} : wX (fun F G => fx_then hn (fx_J1 sc pg_tx pg_df (fx_M sc pg_tx pg_df pg_cd pg_nl pg_hd F d) hn cdm G) (fun st h => fx_1 sc pg_tx pg_df (fx_M sc pg_tx pg_df pg_cd pg_nl pg_hd F d) hn (fx_J1 sc pg_tx pg_df (fx_M sc pg_tx pg_df pg_cd pg_nl pg_hd F d) hn cdm G) k ls st h) ls rest (fx_only sp (fx_M sc pg_tx pg_df pg_cd pg_nl pg_hd F d m args h))) Q ↔ wM sc d m args h (wK sc d hn cdm k ls rest sp Q) := by
  constructor
  · rintro ⟨r, hq, F0, h2⟩
    have h3 := h2 F0 (Nat.le_refl _) F0 (Nat.le_refl _)
    dsimp only at h3
    cases hm : fx_M sc pg_tx pg_df pg_cd pg_nl pg_hd F0 d m args h with
    | none =>
      rw [hm] at h3
      have : fx_only sp (none : Option fx_R) = none := by unfold fx_only; split <;> rfl
      rw [this] at h3
      simp [fx_then] at h3
    | some r1 =>
      refine ⟨r1, ?_, F0, fun F hF => fx_M_ms hF _ _ _ _ _ hm⟩
      have hh : ∀ F, F0 ≤ F → ∀ G, F0 ≤ G → fx_then hn (fx_J1 sc pg_tx pg_df (fx_M sc pg_tx pg_df pg_cd pg_nl pg_hd F d) hn cdm G) (fun st h => fx_1 sc pg_tx pg_df (fx_M sc pg_tx pg_df pg_cd pg_nl pg_hd F d) hn (fx_J1 sc pg_tx pg_df (fx_M sc pg_tx pg_df pg_cd pg_nl pg_hd F d) hn cdm G) k ls st h) ls rest (fx_only sp (some r1)) = some r := by
        intro F hF G hG
        have := h2 F hF G hG
        dsimp only at this
        rw [fx_M_ms hF _ _ _ _ _ hm] at this
        exact this
      obtain ⟨v, h1⟩ := r1
      rcases v with (_ | v) | t
      · have e : fx_only sp (some ((.inl none, h1) : fx_R)) = some (.inl none, h1) := by unfold fx_only; split <;> rfl
        exact ⟨r, hq, F0, fun F hF G hG => by have := hh F hF G hG; rw [e] at this; exact this⟩
      · have e : fx_only sp (some ((.inl (some v), h1) : fx_R)) = some (.inl (some v), h1) := by unfold fx_only; split <;> rfl
        exact ⟨r, hq, F0, fun F hF G hG => by have := hh F hF G hG; rw [e] at this; exact this⟩
      · show (if sp = 1 then False else (match hn t with
          | some tg => wC sc d hn cdm (cdm.drop tg.1) (fx_set ls tg.2 fx_U) [] h1 Q
          | none => Q (.inr t, h1)))
        by_cases hsp : sp = 1
        · have := hh F0 (Nat.le_refl _) F0 (Nat.le_refl _)
          simp [fx_only, hsp, fx_then] at this
        · rw [if_neg hsp]
          have e : fx_only sp (some ((.inr t, h1) : fx_R)) = some (.inr t, h1) := by unfold fx_only; rw [if_neg hsp]
          rw [e] at hh
          cases ht : hn t with
          | none =>
            have := hh F0 (Nat.le_refl _) F0 (Nat.le_refl _)
            simp only [fx_then, ht] at this
            cases this
            exact hq
          | some tg =>
            refine ⟨r, hq, F0, fun F hF G hG => ?_⟩
            have := hh F hF (G + 1) (by omega)
            simp only [fx_then, ht] at this
            exact this
  · exact wC_then
theorem wC_ii {m x : Nat} : wC sc d hn cdm (.invokeinterface m x :: k) ls st (n, cc, ss, f) Q ↔ wi_i x st (fun a as rest => wi_c (f a) (x % 32) ∧ fx_low rest = true ∧ wM sc d m (.ref a :: as) (n, cc, ss, f) (wK sc d hn cdm k ls rest (x % 64 / 32) Q)) := by
  unfold wC wi_i
  simp only [fx_1]
  generalize st.drop (x / 64) = L
  rcases L with _ | ⟨v, rest⟩
  · simp only [wX_none]
  · cases v
    case ref a =>
      dsimp only
      cases he : f a with
      | inl q => simp only [wX_none, wi_c, false_and]
      | inr q =>
        obtain ⟨c, fs⟩ := q
        by_cases hc : c = x % 32
        · by_cases hl : fx_low rest = true
          · simp only [hc, hl, and_self, if_true, wi_c, true_and]
            exact wX_then
          · simp only [hl, and_false, if_false, wX_none, Bool.false_eq_true, false_and]
        · simp only [hc, false_and, if_false, wX_none, wi_c]
    all_goals simp only [wX_none]
theorem wC_is {m x : Nat} : wC sc d hn cdm (.multianewarray m x :: k) ls st h Q ↔ wi_s x st (fun as rest => fx_low rest = true ∧ wM sc d m as h (wK sc d hn cdm k ls rest (x % 2) Q)) := by
  unfold wC wi_s
  simp only [fx_1]
  by_cases hc : x / 2 ≤ st.length
  · by_cases hl : fx_low (st.drop (x / 2)) = true
    · simp only [hc, hl, and_self, if_true, true_and]
      exact wX_then
    · simp only [hl, and_false, if_false, wX_none, Bool.false_eq_true, false_and]
  · simp only [hc, false_and, if_false, wX_none]
end
