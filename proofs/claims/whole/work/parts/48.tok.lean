/-! ===== what stands in a text: blanks, words, numbers ===== -/
/-- the first place from p on that is no P, or the end -/
def sw_k (P : Nat → Bool) (e : Nat) : Nat → Nat → Nat
  | 0, p => p
  | k + 1, p => if p < e ∧ P p = true then sw_k P e k (p + 1) else p
def sw (P : Nat → Bool) (e p : Nat) : Nat := sw_k P e (e - p) p
theorem sw_st {P : Nat → Bool} {e p : Nat} (h : p < e) (hp : P p = true) : sw P e p = sw P e (p + 1) := by
  unfold sw
  obtain ⟨k, hk⟩ : ∃ k, e - p = k + 1 := ⟨e - p - 1, by omega⟩
  rw [hk, sw_k, if_pos ⟨h, hp⟩, show e - (p + 1) = k by omega]
theorem sw_no {P : Nat → Bool} {e p : Nat} (h : ¬ (p < e ∧ P p = true)) : sw P e p = p := by
  unfold sw
  cases hk : e - p with
  | zero => rfl
  | succ k => rw [sw_k, if_neg h]
theorem sw_k_ge (P : Nat → Bool) (e : Nat) : ∀ k p, p ≤ sw_k P e k p
  | 0, p => Nat.le_refl _
  | k + 1, p => by
    rw [sw_k]
    split
    · have := sw_k_ge P e k (p + 1)
      omega
    · omega
theorem sw_k_le (P : Nat → Bool) (e : Nat) : ∀ k p, p ≤ e → sw_k P e k p ≤ e
  | 0, p, h => h
  | k + 1, p, h => by
    rw [sw_k]
    split
    · exact sw_k_le P e k (p + 1) (by omega)
    · omega
theorem sw_ge (P : Nat → Bool) (e p : Nat) : p ≤ sw P e p := sw_k_ge P e _ p
theorem sw_le (P : Nat → Bool) {e p : Nat} (h : p ≤ e) : sw P e p ≤ e := sw_k_le P e _ p h
theorem sw_in {P : Nat → Bool} {e : Nat} : ∀ k p, e - p ≤ k → ∀ i, p ≤ i → i < sw P e p → i < e ∧ P i = true
  | 0, p, hk, i, h1, h2 => by
    rw [sw_no (by omega)] at h2
    omega
  | k + 1, p, hk, i, h1, h2 => by
    by_cases h : p < e ∧ P p = true
    · rw [sw_st h.1 h.2] at h2
      rcases Nat.lt_or_ge p i with q | q
      · exact sw_in k (p + 1) (by omega) i (by omega) h2
      · have : i = p := by omega
        subst this
        exact h
    · rw [sw_no h] at h2
      omega
theorem sw_end {P : Nat → Bool} {e : Nat} : ∀ k p, e - p ≤ k → ¬ (sw P e p < e ∧ P (sw P e p) = true)
  | 0, p, hk, h => by
    have := sw_ge P e p
    omega
  | k + 1, p, hk, h => by
    by_cases q : p < e ∧ P p = true
    · rw [sw_st q.1 q.2] at h
      exact sw_end k (p + 1) (by omega) h
    · rw [sw_no q] at h
      exact q h
theorem sw_idem (P : Nat → Bool) (e p : Nat) : sw P e (sw P e p) = sw P e p := sw_no (sw_end _ p (Nat.le_refl _))
def is_b (T : Nat → Nat) (i : Nat) : Bool := T i == 32
def is_l (T : Nat → Nat) (i : Nat) : Bool := decide (97 ≤ T i) && decide (T i ≤ 122)
def is_d (T : Nat → Nat) (i : Nat) : Bool := decide (48 ≤ T i) && decide (T i ≤ 57)
/-- behind the blanks -/
def nx (T : Nat → Nat) (e p : Nat) : Nat := sw (is_b T) e p
theorem nx_ge (T : Nat → Nat) (e p : Nat) : p ≤ nx T e p := sw_ge _ _ _
theorem nx_le {T : Nat → Nat} {e p : Nat} (h : p ≤ e) : nx T e p ≤ e := sw_le _ h
theorem nx_nx (T : Nat → Nat) (e p : Nat) : nx T e (nx T e p) = nx T e p := sw_idem _ _ _
theorem nx_nb {T : Nat → Nat} {e p : Nat} (h : nx T e p < e) : T (nx T e p) ≠ 32 := by
  intro q
  exact sw_end (P := is_b T) _ p (Nat.le_refl _) ⟨h, (beq_iff_eq.mpr q : (T (nx T e p) == 32) = true)⟩
theorem nx_of {T : Nat → Nat} {e p : Nat} (h : T p ≠ 32) : nx T e p = p := sw_no (fun q => h (by have := q.2; unfold is_b at this; simpa using this))
theorem nx_at_end {T : Nat → Nat} {e p : Nat} (h : e ≤ p) : nx T e p = p := sw_no (by omega)
/-- the sign that stands next; 999: none -/
def sg (T : Nat → Nat) (e p : Nat) : Nat := if nx T e p < e then T (nx T e p) else 999
/-- the end of the word, of the number, from p on -/
def we (T : Nat → Nat) (e p : Nat) : Nat := sw (is_l T) e p
def de (T : Nat → Nat) (e p : Nat) : Nat := sw (is_d T) e p
/-- the number of so many digits from p on -/
def nv (T : Nat → Nat) : Nat → Nat → Nat → Nat
  | 0, _, v => v
  | k + 1, p, v => nv T k (p + 1) (10 * v + (T p - 48))
/-- the word from p on is this one -/
def wis (T : Nat → Nat) (e p : Nat) (l : List Nat) : Bool := decide (we T e p = p + l.length) && (List.range l.length).all (fun i => T (p + i) == l.getD i 0)
theorem wis_iff {T : Nat → Nat} {e p : Nat} {l : List Nat} : wis T e p l = true ↔ we T e p = p + l.length ∧ ∀ i, i < l.length → T (p + i) = l.getD i 0 := by
  unfold wis
  simp only [Bool.and_eq_true, decide_eq_true_eq, List.all_eq_true, List.mem_range, beq_iff_eq]
/-- a number from low on, below m: where it ends, or the fault and its place -/
def rdn (T : Nat → Nat) (e p low m : Nat) : (Nat × Nat) ⊕ (Nat × Nat) :=
  if nx T e p < e ∧ is_d T (nx T e p) = true then
    (if low ≤ nv T (de T e (nx T e p) - nx T e p) (nx T e p) 0 ∧ nv T (de T e (nx T e p) - nx T e p) (nx T e p) 0 < m then .inr (nv T (de T e (nx T e p) - nx T e p) (nx T e p) 0, de T e (nx T e p)) else .inl (2, nx T e p))
  else .inl (1, nx T e p)
theorem rdn_inr {T : Nat → Nat} {e p low m v q : Nat} (h : rdn T e p low m = .inr (v, q)) (hp : p ≤ e) : low ≤ v ∧ v < m ∧ p < q ∧ q ≤ e ∧ nx T e p < q ∧ is_d T (nx T e p) = true := by
  unfold rdn at h
  split at h
  · rename_i h1
    split at h
    · rename_i h2
      cases h
      have h3 : nx T e p < de T e (nx T e p) := by
        unfold de
        rw [sw_st h1.1 h1.2]
        have := sw_ge (is_d T) e (nx T e p + 1)
        omega
      have h4 := nx_ge T e p
      have h5 : de T e (nx T e p) ≤ e := sw_le _ (by omega)
      exact ⟨h2.1, h2.2, by omega, h5, h3, h1.2⟩
    · cases h
  · cases h
theorem rdn_inl {T : Nat → Nat} {e p low m k q : Nat} (h : rdn T e p low m = .inl (k, q)) (hp : p ≤ e) : (k = 1 ∨ k = 2) ∧ q = nx T e p := by
  unfold rdn at h
  split at h
  · split at h
    · cases h
    · cases h; exact ⟨Or.inr rfl, rfl⟩
  · cases h; exact ⟨Or.inl rfl, rfl⟩
