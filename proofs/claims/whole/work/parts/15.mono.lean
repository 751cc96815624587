/-! ===== the plain machine makes cells, it never takes one back; the shapes of its steps ===== -/
def fx_le (h h1 : fx_H) : Prop := h.2.1 ≤ h1.2.1 ∧ h.2.2.1 ≤ h1.2.2.1
theorem fx_le.rf (h : fx_H) : fx_le h h := ⟨Nat.le_refl _, Nat.le_refl _⟩
theorem fx_le.tr {a b c : fx_H} (h : fx_le a b) (h2 : fx_le b c) : fx_le a c := ⟨Nat.le_trans h.1 h2.1, Nat.le_trans h.2 h2.2⟩
theorem fx_then_mono {hn : Nat → Option (Nat × Nat)} {jump : fx_J} {go : List Value → fx_H → Option fx_R} {ls rest : List Value} {r : Option fx_R} {h : fx_H} {r2 : fx_R} (h1 : ∀ x, r = some x → fx_le h x.2) (h2 : ∀ t ls st h r, jump t ls st h = some r → fx_le h r.2) (h3 : ∀ st h r, go st h = some r → fx_le h r.2) (hr : fx_then hn jump go ls rest r = some r2) : fx_le h r2.2 := by
  unfold fx_then at hr
  split at hr
  · cases hr
  · exact (h1 _ rfl).tr (h3 _ _ _ hr)
  · exact (h1 _ rfl).tr (h3 _ _ _ hr)
  · split at hr
    · exact (h1 _ rfl).tr (h2 _ _ _ _ _ hr)
    · cases hr
      exact h1 _ rfl
theorem fx_only_some {b : Nat} {r : Option fx_R} {x : fx_R} (h : fx_only b r = some x) : r = some x ∧ (b = 1 → ∃ v, x.1 = .inl v) := by
  unfold fx_only at h
  split at h
  · split at h
    · cases h; exact ⟨rfl, fun _ => ⟨_, rfl⟩⟩
    · cases h
  · rename_i hb
    exact ⟨h, fun q => absurd q hb⟩
set_option maxHeartbeats 4000000 in
theorem fx_1_mono {sc : Nat × (Nat → Int32)} {tx : List (List Int32)} {df : Nat → List Value} {call : fx_C} {hn : Nat → Option (Nat × Nat)} {jump : fx_J} (h1 : ∀ k as h r, call k as h = some r → fx_le h r.2) (h2 : ∀ t ls st h r, jump t ls st h = some r → fx_le h r.2) : ∀ (code : List Instr) (ls st : List Value) (h : fx_H) (r : fx_R), fx_1 sc tx df call hn jump code ls st h = some r → fx_le h r.2
  | [], _, _, _, _, hr => by simp [fx_1] at hr
  | ci :: k, ls, st, h, r, hr => by
    have ih := fx_1_mono (sc := sc) (tx := tx) (df := df) (hn := hn) h1 h2 k
    cases ci <;> simp only [fx_1, reduceCtorEq] at hr <;> (repeat' (split at hr)) <;> first
      | (cases hr; done)
      | exact ih _ _ _ _ hr
      | exact h2 _ _ _ _ _ hr
      | exact (show fx_le h _ from ⟨by simp, by simp⟩).tr (ih _ _ _ _ hr)
      | exact fx_then_mono (fun x hx => h1 _ _ _ _ (fx_only_some hx).1) h2 (fun st h r hq => ih _ _ _ _ hq) hr
      | exact fx_then_mono (fun x hx => h1 _ _ _ _ hx) h2 (fun st h r hq => ih _ _ _ _ hq) hr
      | (cases hr; exact ⟨by simp, by simp⟩)
theorem fx_J1_mono {sc : Nat × (Nat → Int32)} {tx : List (List Int32)} {df : Nat → List Value} {call : fx_C} {hn : Nat → Option (Nat × Nat)} {code : List Instr} (h1 : ∀ k as h r, call k as h = some r → fx_le h r.2) : ∀ (F t : Nat) (ls st : List Value) (h : fx_H) (r : fx_R), fx_J1 sc tx df call hn code F t ls st h = some r → fx_le h r.2
  | 0, _, _, _, _, _, hr => by simp [fx_J1] at hr
  | F + 1, t, ls, st, h, r, hr => fx_1_mono h1 (fun t ls st h r hq => fx_J1_mono h1 F t ls st h r hq) (code.drop t) ls st h r hr
theorem fx_M_mono {sc : Nat × (Nat → Int32)} {tx : List (List Int32)} {df : Nat → List Value} {cd : Nat → List Instr} {nl : Nat → Nat} {hd : Nat → Nat → Option (Nat × Nat)} {F : Nat} : ∀ (d k : Nat) (as : List Value) (h : fx_H) (r : fx_R), fx_M sc tx df cd nl hd F d k as h = some r → fx_le h r.2
  | 0, _, _, _, _, hr => by simp [fx_M] at hr
  | d + 1, k, as, h, r, hr => by
    simp only [fx_M] at hr
    split at hr
    · exact fx_J1_mono (fun k as h r hq => fx_M_mono d k as h r hq) _ _ _ _ _ _ hr
    · cases hr
