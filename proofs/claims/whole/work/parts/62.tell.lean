/-! ===== two corners told apart: what it means ===== -/
section
variable (F : Nat → Nat → Nat) (B : Nat → Nat)
/-- so many whistles tell two -/
def rd : Nat → Nat → Nat → Bool
  | 0, a, c => !(B a == B c)
  | n + 1, a, c => any4 (fun w => rd n (F a w) (F c w))
/-- so many, and no fewer -/
def dm (m a c : Nat) : Prop := rd F B m a c = true ∧ ∀ j, j < m → rd F B j a c = false
/-- the fewest that tell two, or none -/
def isT (a c : Nat) (v : Int32) : Prop := (∃ m, dm F B m a c ∧ v = nI m) ∨ ((∀ m, rd F B m a c = false) ∧ v = -1)
/-- the same, as far as fewer than r do -/
def tval (r a c : Nat) (v : Int32) : Prop := (∃ m, m < r ∧ dm F B m a c ∧ v = nI m) ∨ ((∀ m, m < r → rd F B m a c = false) ∧ v = -1)
end
section
variable {F : Nat → Nat → Nat} {B : Nat → Nat}
theorem rd_sym : ∀ n a c, rd F B n a c = rd F B n c a
  | 0, a, c => by
    unfold rd
    congr 1
    rw [Bool.eq_iff_iff]
    simp only [beq_iff_eq]
    exact eq_comm
  | n + 1, a, c => by
    unfold rd
    congr 1
    funext w
    exact rd_sym n _ _
theorem dm_sym {m a c : Nat} (h : dm F B m a c) : dm F B m c a := ⟨by rw [rd_sym]; exact h.1, fun j hj => by rw [rd_sym]; exact h.2 j hj⟩
theorem tval_sym {r a c : Nat} {v : Int32} (h : tval F B r a c v) : tval F B r c a v := by
  rcases h with ⟨m, h1, h2, h3⟩ | ⟨h1, h2⟩
  · exact Or.inl ⟨m, h1, dm_sym h2, h3⟩
  · exact Or.inr ⟨fun m hm => by rw [rd_sym]; exact h1 m hm, h2⟩
theorem dm_uniq {m m' a c : Nat} (h : dm F B m a c) (h' : dm F B m' a c) : m = m' := by
  rcases Nat.lt_trichotomy m m' with q | q | q
  · have := h'.2 m q; rw [h.1] at this; cases this
  · exact q
  · have := h.2 m' q; rw [h'.1] at this; cases this
theorem isT_uniq {a c : Nat} {v v' : Int32} (h : isT F B a c v) (h' : isT F B a c v') : v = v' := by
  rcases h with ⟨m, h1, h2⟩ | ⟨h1, h2⟩ <;> rcases h' with ⟨m', h3, h4⟩ | ⟨h3, h4⟩
  · rw [h2, h4, dm_uniq h1 h3]
  · have := h3 m; rw [h1.1] at this; cases this
  · have := h1 m'; rw [h3.1] at this; cases this
  · rw [h2, h4]
theorem dm_of {a c : Nat} : ∀ m, rd F B m a c = true → ∃ m0, m0 ≤ m ∧ dm F B m0 a c := by
  intro m
  induction m using Nat.strongRecOn with
  | ind m ih =>
    intro h
    by_cases hq : ∀ j, j < m → rd F B j a c = false
    · exact ⟨m, Nat.le_refl _, h, hq⟩
    · obtain ⟨j, hj, hr⟩ : ∃ j, j < m ∧ rd F B j a c = true := by
        apply Classical.byContradiction
        intro hn
        exact hq (fun j hj => by
          cases hr : rd F B j a c
          · rfl
          · exact absurd ⟨j, hj, hr⟩ hn)
      obtain ⟨m0, h1, h2⟩ := ih j hj hr
      exact ⟨m0, by omega, h2⟩
theorem dm_step {m a c : Nat} (h : dm F B (m + 1) a c) : ∃ w, w < 4 ∧ dm F B m (F a w) (F c w) := by
  obtain ⟨h1, h2⟩ := h
  rw [rd] at h1
  obtain ⟨w, hw, h3⟩ := any4_iff.mp h1
  refine ⟨w, hw, h3, fun j hj => ?_⟩
  cases hr : rd F B j (F a w) (F c w)
  · rfl
  · have := h2 (j + 1) (by omega)
    rw [rd, any4_iff.mpr ⟨w, hw, hr⟩] at this
    cases this
theorem dm_back {m a c w : Nat} (h : ∀ j, j < m + 1 → rd F B j a c = false) (hw : w < 4) (h2 : dm F B m (F a w) (F c w)) : dm F B (m + 1) a c := ⟨by rw [rd]; exact any4_iff.mpr ⟨w, hw, h2.1⟩, h⟩
theorem tval_eq {r m a c : Nat} {v : Int32} (h : tval F B r a c v) (hm : m < r) (hr : r < 2147483648) : v = nI m ↔ dm F B m a c := by
  rcases h with ⟨m', h1, h2, h3⟩ | ⟨h1, h2⟩
  · constructor
    · intro q
      rw [h3] at q
      have := (nI_eq (by omega) (by omega)).mp q
      rw [← this]; exact h2
    · intro q
      rw [h3, dm_uniq h2 q]
  · constructor
    · intro q
      rw [h2] at q
      have := kk_m1 (a := m) (by omega)
      rw [q] at this
      exact (of_eq_false this rfl).elim
    · intro q
      have := h1 m hm
      rw [q.1] at this; cases this
theorem tval_m1 {r a c : Nat} {v : Int32} (h : tval F B r a c v) (hr : r < 2147483648) : v = -1 ↔ ∀ m, m < r → rd F B m a c = false := by
  rcases h with ⟨m', h1, h2, h3⟩ | ⟨h1, h2⟩
  · constructor
    · intro q
      rw [h3] at q
      have := kk_m1 (a := m') (by omega)
      rw [q] at this
      exact (of_eq_false this rfl).elim
    · intro q
      have := q m' h1
      rw [h2.1] at this; cases this
  · exact ⟨fun _ => h1, fun _ => h2⟩
/-- once nothing is new, nothing will be -/
theorem dm_stop {r k : Nat} (hF : ∀ a, a < k → ∀ w, w < 4 → F a w < k) (h : ∀ a c, a < k → c < k → ¬ dm F B r a c) : ∀ n a c, a < k → c < k → ¬ dm F B (r + n) a c
  | 0, a, c, ha, hc => h a c ha hc
  | n + 1, a, c, ha, hc => fun q => by
    obtain ⟨w, hw, q2⟩ := dm_step (m := r + n) q
    exact dm_stop hF h n _ _ (hF a ha w hw) (hF c hc w hw) q2
theorem tval_T {r k a c : Nat} {v : Int32} (hF : ∀ a, a < k → ∀ w, w < 4 → F a w < k) (h : ∀ a c, a < k → c < k → ¬ dm F B r a c) (ha : a < k) (hc : c < k) (hv : tval F B r a c v) : isT F B a c v := by
  rcases hv with ⟨m, h1, h2, h3⟩ | ⟨h1, h2⟩
  · exact Or.inl ⟨m, h2, h3⟩
  · refine Or.inr ⟨fun m => ?_, h2⟩
    cases hr : rd F B m a c
    · rfl
    · obtain ⟨m0, q1, q2⟩ := dm_of m hr
      rcases Nat.lt_or_ge m0 r with q | q
      · have := h1 m0 q; rw [q2.1] at this; cases this
      · have := dm_stop hF h (m0 - r) a c ha hc
        rw [show r + (m0 - r) = m0 by omega] at this
        exact absurd q2 this
theorem tval_T2 {r a c : Nat} {v : Int32} (hv : tval F B r a c v) (h : v ≠ -1) : isT F B a c v := by
  rcases hv with ⟨m, h1, h2, h3⟩ | ⟨h1, h2⟩
  · exact Or.inl ⟨m, h2, h3⟩
  · exact absurd h2 h
end
theorem cn_upd_lt {P R : Nat → Bool} {j : Nat} : ∀ n, (∀ i, i ≠ j → R i = P i) → P j = true → R j = false → j < n → cn R n + 1 = cn P n
  | 0, _, _, _, h => absurd h (by omega)
  | n + 1, h1, h2, h3, h => by
    rw [cn, cn]
    by_cases hj : j = n
    · subst hj
      rw [h2, h3]
      have : cn R j = cn P j := cn_cg j (fun i hi => h1 i (by omega))
      rw [this]
      simp
    · have := cn_upd_lt n h1 h2 h3 (by omega)
      rw [h1 n (by omega)]
      omega
theorem cn_imp {P R : Nat → Bool} : ∀ n, (∀ i, i < n → R i = true → P i = true) → cn R n ≤ cn P n
  | 0, _ => Nat.le_refl _
  | n + 1, h => by
    rw [cn, cn]
    have := cn_imp n (fun i hi => h i (by omega))
    have h2 := h n (by omega)
    cases hr : R n
    · simp; omega
    · rw [h2 hr]; omega
theorem cn_zero {P : Nat → Bool} : ∀ n, cn P n = 0 → ∀ i, i < n → P i = false
  | n + 1, h, i, hi => by
    rw [cn] at h
    rcases Nat.lt_or_ge i n with q | q
    · exact cn_zero n (by omega) i q
    · have : i = n := by omega
      subst this
      cases hp : P i
      · rfl
      · rw [hp] at h; simp at h
