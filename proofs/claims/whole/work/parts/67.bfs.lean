/-! ===== sets gone on with, round by round ===== -/
/-- many, the row, how far (-1: not come to), before, by -/
abbrev Bf : Type := Nat × (Nat → Nat) × (Nat → Int32) × (Nat → Nat) × (Nat → Nat)
abbrev Bf.m (s : Bf) : Nat := s.1
abbrev Bf.q (s : Bf) : Nat → Nat := s.2.1
abbrev Bf.D (s : Bf) : Nat → Int32 := s.2.2.1
abbrev Bf.b (s : Bf) : Nat → Nat := s.2.2.2.1
abbrev Bf.y (s : Bf) : Nat → Nat := s.2.2.2.2
def bf0 (x : Nat) : Bf := (1, fun _ => x, upd (fun _ => -1) x (nI 0), fun _ => 0, fun _ => 0)
def bf1 (br : Nat → Nat → Nat) (i w : Nat) (s : Bf) : Bf := if s.D (br (s.q i) w) = -1 then (s.m + 1, va_up s.q s.m (br (s.q i) w), upd s.D (br (s.q i) w) (s.D (s.q i) + nI 1), va_up s.b (br (s.q i) w) (s.q i), va_up s.y (br (s.q i) w) w) else s
def bfN (br : Nat → Nat → Nat) (x : Nat) : Nat → Bf
  | 0 => bf0 x
  | n + 1 => if n / 4 < (bfN br x n).m then bf1 br (n / 4) (n % 4) (bfN br x n) else bfN br x n
/-- what holds of all of them -/
def bfI (x : Nat) (s : Bf) : Prop := 0 < s.m ∧ s.m + cn (fun z => s.D z == -1) 1024 = 1024 ∧ s.q 0 = x ∧ (∀ j, j < s.m → s.q j < 1024 ∧ ∃ d, d ≤ j ∧ s.D (s.q j) = nI d) ∧ (∀ z, s.D z ≠ -1 → ∃ j, j < s.m ∧ s.q j = z) ∧ (∀ z, s.D z ≠ -1 → (z = x ∧ s.D z = nI 0) ∨ ∃ d, d < 1024 ∧ s.D z = nI (d + 1) ∧ s.D (s.b z) = nI d ∧ s.y z < 4)
theorem nI_m1 {d : Nat} (h : d < 2147483648) : nI d ≠ -1 := fun q => of_eq_false (kk_m1 h) q
theorem bfI_0 {x : Nat} (hx : x < 1024) : bfI x (bf0 x) := by
  have h1 : cn (fun z => upd (fun _ => (-1 : Int32)) x (nI 0) z == -1) 1024 + 1 = cn (fun _ => true) 1024 := by
    refine cn_upd_lt (j := x) 1024 (fun i hi => ?_) rfl ?_ hx
    · rw [pk_un hi]; rfl
    · rw [pk_us]; decide
  have h2 : ∀ n, cn (fun _ => true) n = n := by
    intro n
    induction n with
    | zero => rfl
    | succ n ih => rw [cn, ih]; rfl
  rw [h2] at h1
  have e1 : (bf0 x).D x = nI 0 := pk_us (f := fun _ => (-1 : Int32)) (k := x) (x := nI 0)
  have e2 : ∀ z, (bf0 x).D z ≠ -1 → z = x := by
    intro z hz
    apply Classical.byContradiction
    intro hn
    exact hz (pk_un (f := fun _ => (-1 : Int32)) (k := x) (x := nI 0) hn)
  have h1 : cn (fun z => (bf0 x).D z == -1) 1024 + 1 = 1024 := h1
  refine ⟨by show 0 < 1; omega, by show 1 + cn (fun z => (bf0 x).D z == -1) 1024 = 1024; omega, rfl, fun j hj => ⟨hx, 0, Nat.zero_le _, e1⟩, fun z hz => ⟨0, by show 0 < 1; omega, (e2 z hz).symm⟩, fun z hz => Or.inl ⟨e2 z hz, by rw [e2 z hz]; exact e1⟩⟩
theorem bfI_m {x : Nat} {s : Bf} (h : bfI x s) : s.m ≤ 1024 := by have := h.2.1; omega
theorem bfI_1 {br : Nat → Nat → Nat} {x i w : Nat} {s : Bf} (h : bfI x s) (hb : ∀ j, j < s.m → br (s.q j) w < 1024) (hi : i < s.m) (hw : w < 4) : bfI x (bf1 br i w s) := by
  have hm := bfI_m h
  obtain ⟨h1, h2, h3, h4, h5, h6⟩ := h
  unfold bf1
  by_cases hd : s.D (br (s.q i) w) = -1
  · rw [if_pos hd]
    obtain ⟨a1, d, a2, a3⟩ := h4 i hi
    have hy := hb i hi
    have hne : ∀ z, s.D z ≠ -1 → z ≠ br (s.q i) w := fun z hz q => hz (by rw [q]; exact hd)
    have hcn := cn_upd_lt (P := fun z => s.D z == -1) (R := fun z => upd s.D (br (s.q i) w) (s.D (s.q i) + nI 1) z == -1) (j := br (s.q i) w) 1024 (fun z hz => by rw [pk_un hz]) (by rw [hd]; rfl) (by
      rw [pk_us, a3, nI_add]
      simp [nI_m1 (d := d + 1) (by omega)]) hy
    refine ⟨by show 0 < s.m + 1; omega, by show s.m + 1 + cn (fun z => upd s.D (br (s.q i) w) (s.D (s.q i) + nI 1) z == -1) 1024 = 1024; omega, ?_, fun j hj => ?_, fun z hz => ?_, fun z hz => ?_⟩
    · show va_up s.q s.m _ 0 = x
      rw [va_up_ne' (by omega)]; exact h3
    · have hj : j < s.m + 1 := hj
      show va_up s.q s.m (br (s.q i) w) j < 1024 ∧ ∃ d, d ≤ j ∧ upd s.D (br (s.q i) w) (s.D (s.q i) + nI 1) (va_up s.q s.m (br (s.q i) w) j) = nI d
      by_cases hjm : j = s.m
      · subst hjm
        rw [va_up_se, pk_us]
        exact ⟨hy, d + 1, by omega, by rw [a3, nI_add]⟩
      · rw [va_up_ne' hjm]
        obtain ⟨b1, e, b2, b3⟩ := h4 j (by omega)
        refine ⟨b1, e, b2, ?_⟩
        rw [pk_un (hne _ (by rw [b3]; exact nI_m1 (by omega)))]
        exact b3
    · have hz : upd s.D (br (s.q i) w) (s.D (s.q i) + nI 1) z ≠ -1 := hz
      by_cases hzy : z = br (s.q i) w
      · exact ⟨s.m, by show s.m < s.m + 1; omega, by show va_up s.q s.m (br (s.q i) w) s.m = z; rw [va_up_se, hzy]⟩
      · rw [pk_un hzy] at hz
        obtain ⟨j, j1, j2⟩ := h5 z hz
        exact ⟨j, by show j < s.m + 1; omega, by show va_up s.q s.m (br (s.q i) w) j = z; rw [va_up_ne' (by omega)]; exact j2⟩
    · have hz : upd s.D (br (s.q i) w) (s.D (s.q i) + nI 1) z ≠ -1 := hz
      show (z = x ∧ upd s.D (br (s.q i) w) (s.D (s.q i) + nI 1) z = nI 0) ∨ ∃ d, d < 1024 ∧ upd s.D (br (s.q i) w) (s.D (s.q i) + nI 1) z = nI (d + 1) ∧ upd s.D (br (s.q i) w) (s.D (s.q i) + nI 1) (va_up s.b (br (s.q i) w) (s.q i) z) = nI d ∧ va_up s.y (br (s.q i) w) w z < 4
      by_cases hzy : z = br (s.q i) w
      · subst hzy
        right
        refine ⟨d, by omega, by rw [pk_us, a3, nI_add], ?_, by rw [va_up_se]; exact hw⟩
        rw [va_up_se, pk_un (hne _ (by rw [a3]; exact nI_m1 (by omega)))]
        exact a3
      · rw [pk_un hzy] at hz ⊢
        rcases h6 z hz with q | ⟨e, q0, q1, q2, q3⟩
        · exact Or.inl q
        · right
          refine ⟨e, q0, q1, ?_, by rw [va_up_ne' hzy]; exact q3⟩
          rw [va_up_ne' hzy, pk_un (hne _ (by rw [q2]; exact nI_m1 (by omega)))]
          exact q2
  · rw [if_neg hd]
    exact ⟨h1, h2, h3, h4, h5, h6⟩
theorem bfI_br {br : Nat → Nat → Nat} {x M : Nat} (hx : x < M) (hM : M ≤ 1024) (hb : ∀ z, z < M → ∀ w, w < 4 → br z w < M) : ∀ n, bfI x (bfN br x n) ∧ ∀ j, j < (bfN br x n).m → (bfN br x n).q j < M
  | 0 => ⟨bfI_0 (by omega), fun j _ => hx⟩
  | n + 1 => by
    obtain ⟨h1, h2⟩ := bfI_br hx hM hb n
    rw [bfN]
    split
    · rename_i hl
      have hw : n % 4 < 4 := Nat.mod_lt _ (by omega)
      refine ⟨bfI_1 h1 (fun j hj => by have := hb _ (h2 j hj) _ hw; omega) hl hw, fun j hj => ?_⟩
      unfold bf1 at hj ⊢
      split at hj
      · rename_i hd
        rw [if_pos hd]
        show va_up _ _ _ j < M
        by_cases hjm : j = (bfN br x n).m
        · subst hjm; rw [va_up_se]; exact hb _ (h2 _ hl) _ hw
        · have hj : j < (bfN br x n).m + 1 := hj
          rw [va_up_ne' hjm]; exact h2 j (by omega)
      · rename_i hd
        rw [if_neg hd]
        exact h2 j hj
    · exact ⟨h1, h2⟩
/-- what was come to stays as it is -/
theorem bf_st1 {br : Nat → Nat → Nat} {x n : Nat} (hI : bfI x (bfN br x n)) : (bfN br x n).m ≤ (bfN br x (n + 1)).m ∧ (∀ j, j < (bfN br x n).m → (bfN br x (n + 1)).q j = (bfN br x n).q j) ∧ (∀ z, (bfN br x n).D z ≠ -1 → (bfN br x (n + 1)).D z = (bfN br x n).D z ∧ (bfN br x (n + 1)).b z = (bfN br x n).b z ∧ (bfN br x (n + 1)).y z = (bfN br x n).y z) := by
  rw [bfN]
  split
  · unfold bf1
    split
    · rename_i hd
      have hne : ∀ z, (bfN br x n).D z ≠ -1 → z ≠ br ((bfN br x n).q (n / 4)) (n % 4) := fun z hz q => hz (by rw [q]; exact hd)
      refine ⟨by show _ ≤ (bfN br x n).m + 1; omega, fun j hj => ?_, fun z hz => ⟨?_, ?_, ?_⟩⟩
      · show va_up _ _ _ j = _
        rw [va_up_ne' (by omega)]
      · show upd _ _ _ z = _
        rw [pk_un (hne z hz)]
      · show va_up _ _ _ z = _
        rw [va_up_ne' (hne z hz)]
      · show va_up _ _ _ z = _
        rw [va_up_ne' (hne z hz)]
    · exact ⟨Nat.le_refl _, fun _ _ => rfl, fun _ _ => ⟨rfl, rfl, rfl⟩⟩
  · exact ⟨Nat.le_refl _, fun _ _ => rfl, fun _ _ => ⟨rfl, rfl, rfl⟩⟩
theorem bf_st {br : Nat → Nat → Nat} {x : Nat} (hI : ∀ n, bfI x (bfN br x n)) {n : Nat} : ∀ e, (bfN br x n).m ≤ (bfN br x (n + e)).m ∧ (∀ j, j < (bfN br x n).m → (bfN br x (n + e)).q j = (bfN br x n).q j) ∧ (∀ z, (bfN br x n).D z ≠ -1 → (bfN br x (n + e)).D z = (bfN br x n).D z ∧ (bfN br x (n + e)).b z = (bfN br x n).b z ∧ (bfN br x (n + e)).y z = (bfN br x n).y z)
  | 0 => ⟨Nat.le_refl _, fun _ _ => rfl, fun _ _ => ⟨rfl, rfl, rfl⟩⟩
  | e + 1 => by
    obtain ⟨h1, h2, h3⟩ := bf_st hI (n := n) e
    obtain ⟨k1, k2, k3⟩ := bf_st1 (hI (n + e))
    rw [← Nat.add_assoc]
    refine ⟨by omega, fun j hj => by rw [k2 j (by omega), h2 j hj], fun z hz => ?_⟩
    obtain ⟨a1, a2, a3⟩ := h3 z hz
    obtain ⟨b1, b2, b3⟩ := k3 z (by rw [a1]; exact hz)
    exact ⟨by rw [b1, a1], by rw [b2, a2], by rw [b3, a3]⟩
/-- once all were left, nothing is new -/
theorem bf_end {br : Nat → Nat → Nat} {x n : Nat} (h : (bfN br x n).m * 4 ≤ n) : ∀ e, bfN br x (n + e) = bfN br x n
  | 0 => rfl
  | e + 1 => by
    rw [← Nat.add_assoc, bfN, bf_end h e, if_neg]
    omega
/-- what a search comes to: the place in the row of the first one that is wanted; none -/
def bfR (br : Nat → Nat → Nat) (x : Nat) (am : Nat → Bool) (n : Nat) (r : Option Nat) : Prop := match r with
  | none => (bfN br x n).m * 4 ≤ n ∧ ∀ j, j < (bfN br x n).m → am ((bfN br x n).q j) = false
  | some p => p < (bfN br x n).m ∧ am ((bfN br x n).q p) = true ∧ ∀ j, j < p → am ((bfN br x n).q j) = false
theorem bfR_mono {br : Nat → Nat → Nat} {x n e : Nat} {am : Nat → Bool} {r : Option Nat} (hI : ∀ n, bfI x (bfN br x n)) (h : bfR br x am n r) : bfR br x am (n + e) r := by
  obtain ⟨k1, k2, k3⟩ := bf_st hI (n := n) e
  cases r with
  | none =>
    obtain ⟨h1, h2⟩ := h
    have := bf_end h1 e
    refine ⟨by rw [this]; omega, ?_⟩
    rw [this]
    exact h2
  | some p =>
    obtain ⟨h1, h2, h3⟩ := h
    refine ⟨by omega, by rw [k2 p h1]; exact h2, fun j hj => by rw [k2 j (by omega)]; exact h3 j hj⟩
theorem bfR_uniq {br : Nat → Nat → Nat} {x n n' : Nat} {am : Nat → Bool} {r r' : Option Nat} (hI : ∀ n, bfI x (bfN br x n)) (h : bfR br x am n r) (h' : bfR br x am n' r') : r = r' := by
  have h := bfR_mono (e := n') hI h
  have h' := bfR_mono (e := n) hI h'
  rw [Nat.add_comm] at h'
  cases r with
  | none =>
    cases r' with
    | none => rfl
    | some p => have := h.2 p h'.1; rw [h'.2.1] at this; cases this
  | some p =>
    cases r' with
    | none => have := h'.2 p h.1; rw [h.2.1] at this; cases this
    | some p' =>
      rcases Nat.lt_trichotomy p p' with q | q | q
      · have := h'.2.2 p q; rw [h.2.1] at this; cases this
      · rw [q]
      · have := h.2.2 p' q; rw [h'.2.1] at this; cases this
/-- what lies behind: the set, how far, by what, some steps back -/
def bfS (br : Nat → Nat → Nat) (x N p : Nat) : Nat := (bfN br x N).q p
def bfB (s : Bf) : Nat → Nat → Nat
  | 0, z => z
  | n + 1, z => s.b (bfB s n z)
theorem bfB_D {x : Nat} {s : Bf} (h : bfI x s) {z : Nat} : ∀ n d, s.D z = nI (n + d) → n + d < 1024 → s.D (bfB s n z) = nI d
  | 0, d, h1, _ => by rw [Nat.zero_add] at h1; exact h1
  | n + 1, d, h1, h2 => by
    have ih := bfB_D h (z := z) n (d + 1) (by rw [h1]; congr 1; omega) (by omega)
    have hz : s.D (bfB s n z) ≠ -1 := by rw [ih]; exact nI_m1 (by omega)
    rcases h.2.2.2.2.2 _ hz with ⟨_, q⟩ | ⟨e, q0, q1, q2, q3⟩
    · rw [ih] at q
      have := (nI_eq (by omega) (by omega)).mp q
      omega
    · rw [ih] at q1
      have := (nI_eq (by omega) (by omega)).mp q1
      have : e = d := by omega
      subst this
      exact q2
theorem bfB_st {br : Nat → Nat → Nat} {x n e z : Nat} (hI : ∀ n, bfI x (bfN br x n)) : ∀ k d, (bfN br x n).D z = nI (k + d) → k + d < 1024 → bfB (bfN br x (n + e)) k z = bfB (bfN br x n) k z
  | 0, _, _, _ => rfl
  | k + 1, d, h1, h2 => by
    rw [bfB, bfB, bfB_st hI k (d + 1) (by rw [h1]; congr 1; omega) (by omega)]
    have := bfB_D (hI n) (z := z) k (d + 1) (by rw [h1]; congr 1; omega) (by omega)
    exact ((bf_st hI (n := n) e).2.2 _ (by rw [this]; exact nI_m1 (by omega))).2.1
