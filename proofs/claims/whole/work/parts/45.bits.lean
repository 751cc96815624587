/-! ===== sets as bits, counts ===== -/
/-- those below n for which P -/
def bs (P : Nat → Bool) : Nat → Nat
  | 0 => 0
  | n + 1 => bs P n ||| (if P n = true then 2 ^ n else 0)
theorem bs_tb (P : Nat → Bool) : ∀ n i, (bs P n).testBit i = (decide (i < n) && P i)
  | 0, i => by simp [bs]
  | n + 1, i => by
    rw [bs, Nat.testBit_or, bs_tb P n i]
    by_cases hp : P n = true
    · rw [if_pos hp, Nat.testBit_two_pow]
      by_cases h1 : n = i
      · subst h1; simp [hp]
      · have : decide (i < n + 1) = decide (i < n) := by apply decide_eq_decide.mpr; omega
        simp [h1, this]
    · rw [if_neg hp]
      by_cases h1 : n = i
      · subst h1; simp [hp]
      · have : decide (i < n + 1) = decide (i < n) := by apply decide_eq_decide.mpr; omega
        simp [this]
theorem bs_lt (P : Nat → Bool) : ∀ n, bs P n < 2 ^ n
  | 0 => by simp [bs]
  | n + 1 => by
    rw [bs]
    have h1 := bs_lt P n
    have h2 : 2 ^ n < 2 ^ (n + 1) := by rw [Nat.pow_succ]; omega
    refine Nat.or_lt_two_pow (by omega) ?_
    split
    · exact h2
    · exact Nat.lt_of_le_of_lt (Nat.zero_le _) h2
theorem bs_cg {P R : Nat → Bool} : ∀ n, (∀ i, i < n → P i = R i) → bs P n = bs R n
  | 0, _ => rfl
  | n + 1, h => by rw [bs, bs, bs_cg n (fun i hi => h i (by omega)), h n (by omega)]
/-- sets are alike if their bits are -/
theorem bs_ext {x y : Nat} (h : ∀ i, x.testBit i = y.testBit i) : x = y := Nat.eq_of_testBit_eq h
theorem bs_of {x n : Nat} (hx : x < 2 ^ n) : bs (fun i => x.testBit i) n = x := by
  apply bs_ext
  intro i
  rw [bs_tb]
  by_cases h : i < n
  · simp [h]
  · have : x < 2 ^ i := Nat.lt_of_lt_of_le hx (Nat.pow_le_pow_right (by omega) (by omega))
    simp [h, Nat.testBit_lt_two_pow this]
theorem tb_lt {x n i : Nat} (hx : x < 2 ^ n) (h : x.testBit i = true) : i < n := by
  rcases Nat.lt_or_ge i n with q | q
  · exact q
  · have : x < 2 ^ i := Nat.lt_of_lt_of_le hx (Nat.pow_le_pow_right (by omega) q)
    rw [Nat.testBit_lt_two_pow this] at h
    cases h
/-- how many below n -/
def cn (P : Nat → Bool) : Nat → Nat
  | 0 => 0
  | n + 1 => cn P n + (P n).toNat
theorem cn_cg {P R : Nat → Bool} : ∀ n, (∀ i, i < n → P i = R i) → cn P n = cn R n
  | 0, _ => rfl
  | n + 1, h => by rw [cn, cn, cn_cg n (fun i hi => h i (by omega)), h n (by omega)]
theorem cn_le (P : Nat → Bool) : ∀ n, cn P n ≤ n
  | 0 => Nat.le_refl _
  | n + 1 => by
    have := cn_le P n
    rw [cn]
    cases P n <;> simp <;> omega
theorem cn_mono (P : Nat → Bool) {n m : Nat} (h : n ≤ m) : cn P n ≤ cn P m := by
  induction h with
  | refl => exact Nat.le_refl _
  | step _ ih => rw [cn]; omega
theorem cn_none {P : Nat → Bool} : ∀ n, (∀ i, i < n → P i = false) → cn P n = 0
  | 0, _ => rfl
  | n + 1, h => by rw [cn, cn_none n (fun i hi => h i (by omega)), h n (by omega)]; rfl
theorem cn_bs (P : Nat → Bool) (n : Nat) : ∀ m, n ≤ m → cn (fun i => (bs P n).testBit i) m = cn P n := by
  intro m hm
  induction hm with
  | refl => exact cn_cg n (fun i hi => by simp [bs_tb, hi])
  | @step m hm ih =>
    rw [cn, ih]
    have hm : n ≤ m := hm
    have : (bs P n).testBit m = false := by rw [bs_tb, decide_eq_false (by omega)]; rfl
    rw [this]
    rfl
/-- the most over those below n -/
def mx (F : Nat → Nat) : Nat → Nat
  | 0 => 0
  | n + 1 => max (mx F n) (F n)
theorem mx_ge (F : Nat → Nat) : ∀ n i, i < n → F i ≤ mx F n
  | n + 1, i, h => by
    rw [mx]
    rcases Nat.lt_or_ge i n with q | q
    · have := mx_ge F n i q
      omega
    · have : i = n := by omega
      subst this
      omega
theorem mx_le {F : Nat → Nat} {b : Nat} : ∀ n, (∀ i, i < n → F i ≤ b) → mx F n ≤ b
  | 0, _ => Nat.zero_le _
  | n + 1, h => by
    rw [mx]
    have := mx_le n (fun i hi => h i (by omega))
    have := h n (by omega)
    omega
/-- how many of m are at c; where most are -/
def at_n (po : Nat → Nat) (c m : Nat) : Nat := cn (fun i => po i == c) m
def crw (po : Nat → Nat) : Nat → Nat
  | 0 => 0
  | m + 1 => max (crw po m) (at_n po (po m) (m + 1))
theorem crw_mx {po : Nat → Nat} {k mn : Nat} (h : ∀ m, m < mn → po m < k) : mx (fun c => at_n po c mn) k = crw po mn := by
  apply Nat.le_antisymm
  · apply mx_le
    intro c _
    have key : ∀ m, at_n po c m ≤ crw po m := by
      intro m
      induction m with
      | zero => exact Nat.zero_le _
      | succ m ih =>
        rw [crw]
        by_cases hc : po m = c
        · subst hc
          omega
        · have : at_n po c (m + 1) = at_n po c m := by
            unfold at_n
            rw [cn]
            simp [hc]
          omega
    exact key mn
  · have key : ∀ m, m ≤ mn → crw po m ≤ mx (fun c => at_n po c mn) k := by
      intro m
      induction m with
      | zero => intro _; exact Nat.zero_le _
      | succ m ih =>
        intro hm
        rw [crw]
        have h1 := ih (by omega)
        have h2 : at_n po (po m) (m + 1) ≤ at_n po (po m) mn := cn_mono _ hm
        have h3 := mx_ge (fun c => at_n po c mn) k (po m) (h m (by omega))
        omega
    exact key mn (Nat.le_refl _)
/-- digits by eights -/
def dg (F : Nat → Nat) : Nat → Nat
  | 0 => 0
  | n + 1 => dg F n + F n * 8 ^ n
theorem dg_lt {F : Nat → Nat} : ∀ n, (∀ c, c < n → F c < 8) → dg F n < 8 ^ n
  | 0, _ => by simp [dg]
  | n + 1, h => by
    rw [dg, Nat.pow_succ]
    have h1 := dg_lt n (fun c hc => h c (by omega))
    have h2 := h n (by omega)
    have h3 : F n * 8 ^ n ≤ 7 * 8 ^ n := Nat.mul_le_mul_right _ (by omega)
    omega
theorem dg_at {F : Nat → Nat} : ∀ n, (∀ c, c < n → F c < 8) → ∀ p, p < n → dg F n / 8 ^ p % 8 = F p
  | 0, _, p, hp => absurd hp (by omega)
  | n + 1, h, p, hp => by
    rw [dg]
    rcases Nat.lt_or_ge p n with q | q
    · have h1 := dg_at n (fun c hc => h c (by omega)) p q
      obtain ⟨e, rfl⟩ : ∃ e, n = p + (e + 1) := ⟨n - p - 1, by omega⟩
      have e1 : F (p + (e + 1)) * 8 ^ (p + (e + 1)) = 8 ^ p * (8 * (F (p + (e + 1)) * 8 ^ e)) := by
        rw [Nat.pow_add, Nat.pow_succ]
        simp only [Nat.mul_comm, Nat.mul_left_comm, Nat.mul_assoc]
      rw [e1, Nat.add_mul_div_left _ _ (Nat.pow_pos (by omega)), Nat.add_mul_mod_self_left]
      exact h1
    · have : p = n := by omega
      subst this
      have h1 := dg_lt p (fun c hc => h c (by omega))
      rw [Nat.mul_comm (F p), Nat.add_mul_div_left _ _ (Nat.pow_pos (by omega)), Nat.div_eq_of_lt h1, Nat.zero_add, Nat.mod_eq_of_lt (h p (by omega))]
theorem dg_add (F G : Nat → Nat) : ∀ n, dg (fun c => F c + G c) n = dg F n + dg G n
  | 0 => rfl
  | n + 1 => by
    rw [dg, dg, dg, dg_add F G n, Nat.add_mul]
    omega
theorem dg_0 : ∀ n, dg (fun _ => 0) n = 0
  | 0 => rfl
  | n + 1 => by rw [dg, dg_0 n, Nat.zero_mul]
theorem dg_one (p : Nat) : ∀ n, dg (fun c => (p == c).toNat) n = if p < n then 8 ^ p else 0
  | 0 => rfl
  | n + 1 => by
    rw [dg, dg_one p n]
    by_cases h1 : p = n
    · subst h1; simp
    · have : (p == n) = false := by simp [h1]
      rw [this]
      by_cases h2 : p < n
      · rw [if_pos h2, if_pos (by omega)]; simp
      · rw [if_neg h2, if_neg (by omega)]; simp
def dgs (po : Nat → Nat) : Nat → Nat
  | 0 => 0
  | m + 1 => dgs po m + 8 ^ po m
theorem dgs_dg {po : Nat → Nat} : ∀ m, (∀ i, i < m → po i < 10) → dgs po m = dg (fun c => at_n po c m) 10
  | 0, _ => by
    rw [dgs]
    have : (fun c => at_n po c 0) = (fun _ => 0) := rfl
    rw [this, dg_0]
  | m + 1, h => by
    rw [dgs, dgs_dg m (fun i hi => h i (by omega))]
    have : (fun c => at_n po c (m + 1)) = (fun c => at_n po c m + (po m == c).toNat) := rfl
    rw [this, dg_add, dg_one, if_pos (h m (by omega))]
theorem dgs_at {po : Nat → Nat} {m p : Nat} (h : ∀ i, i < m → po i < 10) (hm : m ≤ 5) (hp : p < 10) : dgs po m / 8 ^ p % 8 = at_n po p m := by
  rw [dgs_dg m h]
  refine dg_at 10 (fun c _ => ?_) p hp
  have := cn_le (fun i => po i == c) m
  show at_n po c m < 8
  unfold at_n
  omega
theorem dgs_lt {po : Nat → Nat} : ∀ m, (∀ i, i < m → po i < 10) → dgs po m ≤ m * 134217728
  | 0, _ => by simp [dgs]
  | m + 1, h => by
    rw [dgs]
    have h1 := dgs_lt m (fun i hi => h i (by omega))
    have h2 : 8 ^ po m ≤ 8 ^ 9 := Nat.pow_le_pow_right (by omega) (by have := h m (by omega); omega)
    have h3 : (8 : Nat) ^ 9 = 134217728 := rfl
    omega
theorem pw8 (p : Nat) : 2 ^ (3 * p) = 8 ^ p := by rw [Nat.pow_mul]
theorem an7 (x : Nat) : x &&& 7 = x % 8 := Nat.and_two_pow_sub_one_eq_mod x 3
