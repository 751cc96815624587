/-! ===== each call has one outcome ===== -/
def uq (R : Oc → Prop) : Prop := ∀ r r', R r → R r' → r = r'
theorem uq_eq {v : Oc} : uq (fun r => r = v) := fun r r' h h' => h.trans h'.symm
theorem uq_dR {x : Int32} {lo hi : Nat} {p : Pw} {K : Nat → Oc → Prop} (h : ∀ k, k < 2147483648 → k < hi → uq (K k)) : uq (dR x lo hi p K) := by
  intro r r' h1 h2
  rcases h1 with ⟨a1, a2⟩ | ⟨k, k0, k1, k2, k3, k4⟩
  · rcases h2 with ⟨b1, b2⟩ | ⟨k, k0, k1, k2, k3, k4⟩
    · rw [a2, b2]
    · exact absurd ⟨k, k0, k1, k2, k3⟩ a1
  · rcases h2 with ⟨b1, b2⟩ | ⟨m, m0, m1, m2, m3, m4⟩
    · exact absurd ⟨k, k0, k1, k2, k3⟩ b1
    · have e : k = m := (nI_eq k0 m0).mp (k1.symm.trans m1)
      subst e
      exact h k k0 k3 r r' k4 m4
theorem uq_dC {x : Int32} {p : Pw} {K : Nat → Oc → Prop} (hp : p.t.k ≤ 10) (h : ∀ k, k < p.t.k → uq (K k)) : uq (dC x p K) := by
  intro r r' h1 h2
  rcases h1 with ⟨a1, a2⟩ | ⟨k, k3, k1, k4⟩
  · rcases h2 with ⟨b1, b2⟩ | ⟨k, k3, k1, k4⟩
    · rw [a2, b2]
    · exact absurd ⟨k, k3, k1⟩ a1
  · rcases h2 with ⟨b1, b2⟩ | ⟨m, m3, m1, m4⟩
    · exact absurd ⟨k, k3, k1⟩ b1
    · have e : k = m := (nI_eq (by omega) (by omega)).mp (k1.symm.trans m1)
      subst e
      exact h k k3 r r' k4 m4
theorem uq_dM {x : Int32} {p : Pw} {K : Nat → Oc → Prop} (hp : p.t.m ≤ 5) (h : ∀ k, k < p.t.m → uq (K k)) : uq (dM x p K) := by
  intro r r' h1 h2
  rcases h1 with ⟨a1, a2⟩ | ⟨k, k3, k1, k4⟩
  · rcases h2 with ⟨b1, b2⟩ | ⟨k, k3, k1, k4⟩
    · rw [a2, b2]
    · exact absurd ⟨k, k3, k1⟩ a1
  · rcases h2 with ⟨b1, b2⟩ | ⟨m, m3, m1, m4⟩
    · exact absurd ⟨k, k3, k1⟩ b1
    · have e : k = m := (nI_eq (by omega) (by omega)).mp (k1.symm.trans m1)
      subst e
      exact h k k3 r r' k4 m4
theorem isT_u {F : Nat → Nat → Nat} {B : Nat → Nat} {a c : Nat} {v v' : Int32} (h : isT F B a c v) (h' : isT F B a c v') : v = v' := by
  rcases h with ⟨m, ⟨m1, m2⟩, m3⟩ | ⟨m1, m3⟩
  · rcases h' with ⟨k, ⟨k1, k2⟩, k3⟩ | ⟨k1, k3⟩
    · rcases Nat.lt_trichotomy m k with q | q | q
      · have := k2 m q; rw [m1] at this; cases this
      · rw [m3, k3, q]
      · have := m2 k q; rw [k1] at this; cases this
    · have := k1 m; rw [m1] at this; cases this
  · rcases h' with ⟨k, ⟨k1, k2⟩, k3⟩ | ⟨k1, k3⟩
    · have := m1 k; rw [k1] at this; cases this
    · rw [m3, k3]
theorem isC_u {br : Nat → Nat → Nat} {pr : Nat → Nat} {x K : Nat} {v v' : Int32} (h : isC br pr x K v) (h' : isC br pr x K v') : v = v' := by
  have mix : ∀ (P : Nat) (φ : Nat → Nat) (Z : Nat → Prop), (∀ ψ : Nat → Nat, ψ x = 0 → (∀ z, z < 2 ^ K → ∀ w, w < 4 → ψ (br z w) ≤ ψ z + pr w) → ∃ c, c < K ∧ ψ (2 ^ c) ≤ P) → Z x → (∀ z, z < 2 ^ K → Z z → ∀ w, w < 4 → Z (br z w)) → (∀ c, c < K → ¬ Z (2 ^ c)) → False := by
    intro P φ Z h1 h2 h3 h4
    obtain ⟨c, c1, c2⟩ := h1 (fun z => @ite _ (Z z) (Classical.propDecidable _) 0 (P + 1)) (by simp [h2]) (fun z hz w hw => by
      by_cases q : Z z
      · have := h3 z hz q w hw
        simp [q, this]
      · simp only [q, if_false]
        split <;> omega)
    have := h4 c c1
    simp [this] at c2
    omega
  rcases h with ⟨P, φ, p1, p2, p3, p4, p5, p6⟩ | ⟨p1, Z, p2, p3, p4⟩
  · rcases h' with ⟨P', φ', q1, q2, q3, q4, q5, q6⟩ | ⟨q1, Z', q2, q3, q4⟩
    · obtain ⟨c, c1, c2⟩ := q6 φ p3 p4
      obtain ⟨c', d1, d2⟩ := p6 φ' q3 q4
      have := p5 c c1
      have := q5 c' d1
      have e : P = P' := by omega
      rw [p1, q1, e]
    · exact (mix P φ Z' p6 q2 q3 q4).elim
  · rcases h' with ⟨P', φ', q1, q2, q3, q4, q5, q6⟩ | ⟨q1, Z', q2, q3, q4⟩
    · exact (mix P' φ' Z q6 p2 p3 p4).elim
    · rw [p1, q1]
theorem sr_st {p : Pw} (hp : pw_ok p) {s : Nat} (hs : s < 2 ^ p.t.k) {am : Nat → Bool} {n e : Nat} {rr : Option Nat} (h : bfR (brT p.t p.y.1.fo) s am n rr) (q : Nat) : ga_len (bfN (brT p.t p.y.1.fo) s (n + e)) rr = ga_len (bfN (brT p.t p.y.1.fo) s n) rr ∧ meetV (bfN (brT p.t p.y.1.fo) s (n + e)) rr = meetV (bfN (brT p.t p.y.1.fo) s n) rr ∧ ga_wh (bfN (brT p.t p.y.1.fo) s (n + e)) rr q = ga_wh (bfN (brT p.t p.y.1.fo) s n) rr q := by
  have hI := fun m => (bfI_T (fo := p.y.1.fo) hp.2.1.1 hs m).1
  cases rr with
  | none => exact ⟨rfl, rfl, rfl⟩
  | some j =>
    obtain ⟨h1, -, -⟩ := h
    obtain ⟨m1, m2, m3⟩ := bf_st hI (n := n) e
    have e1 := m2 j h1
    obtain ⟨dd, d1, d2⟩ := ((hI n).2.2.2.1 j h1).2
    have hm := bfI_m (hI n)
    have hD := (m3 ((bfN (brT p.t p.y.1.fo) s n).q j) (by rw [d2]; exact nI_m1 (by omega))).1
    refine ⟨?_, ?_, ?_⟩
    · show (bfN (brT p.t p.y.1.fo) s (n + e)).D ((bfN (brT p.t p.y.1.fo) s (n + e)).q j) = (bfN (brT p.t p.y.1.fo) s n).D ((bfN (brT p.t p.y.1.fo) s n).q j)
      rw [e1, hD]
    · show nI (cn (fun i => ((bfN (brT p.t p.y.1.fo) s (n + e)).q j - 1).testBit i) 10) = nI (cn (fun i => ((bfN (brT p.t p.y.1.fo) s n).q j - 1).testBit i) 10)
      rw [e1]
    · have ec : ((bfN (brT p.t p.y.1.fo) s n).D ((bfN (brT p.t p.y.1.fo) s n).q j)).toNatClampNeg = dd := by rw [d2]; exact nI_clamp (by omega)
      simp only [ga_wh]
      rw [e1, hD, ec]
      by_cases hq : dd ≤ q
      · rw [if_pos hq, if_pos hq]
      · rw [if_neg hq, if_neg hq]
        have b1 := bfB_st (e := e) hI (n := n) (z := (bfN (brT p.t p.y.1.fo) s n).q j) (dd - 1 - q) (q + 1) (by rw [d2]; congr 1; omega) (by omega)
        have b2 := bfB_D (hI n) (z := (bfN (brT p.t p.y.1.fo) s n).q j) (dd - 1 - q) (q + 1) (by rw [d2]; congr 1; omega) (by omega)
        rw [b1, (m3 _ (by rw [b2]; exact nI_m1 (by omega))).2.2]
theorem uq_sr {p : Pw} (hp : pw_ok p) {s av : Nat} (hs : s < 2 ^ p.t.k) {K : Bf → Option Nat → Int32} (hK : ∀ n e rr, bfR (brT p.t p.y.1.fo) s (am av) n rr → K (bfN (brT p.t p.y.1.fo) s (n + e)) rr = K (bfN (brT p.t p.y.1.fo) s n) rr) : uq (srR p s av K) := by
  have hI := fun m => (bfI_T (fo := p.y.1.fo) hp.2.1.1 hs m).1
  rintro r r' ⟨n, rr, h1, rfl⟩ ⟨n', rr', h1', rfl⟩
  have e := bfR_uniq hI h1 h1'
  subst e
  have a := hK n n' rr h1
  have b := hK n' n rr h1'
  rw [Nat.add_comm] at b
  rw [← a, ← b]
theorem uq_song {p : Pw} {e : Nat} : uq (songR p e) := by
  intro r r' h h'
  rcases h with ⟨k, pl, a, rfl⟩ | ⟨z, a, rfl⟩ <;> rcases h' with ⟨k', pl', b, rfl⟩ | ⟨z', b, rfl⟩ <;> rw [a] at b <;> cases b <;> rfl
theorem uq_book {p : Pw} {e : Nat} : uq (bookR p e) := by
  intro r r' h h'
  rcases h with ⟨k, pl, a, rfl⟩ | ⟨z, a, rfl⟩ <;> rcases h' with ⟨k', pl', b, rfl⟩ | ⟨z', b, rfl⟩ <;> rw [a] at b <;> cases b <;> rfl
theorem uq_law {p : Pw} {e : Nat} : uq (lawR p e) := by
  intro r r' h h'
  rcases h with ⟨k, pl, a, rfl⟩ | ⟨z, a, rfl⟩ <;> rcases h' with ⟨k', pl', b, rfl⟩ | ⟨z', b, rfl⟩ <;> rw [a] at b <;> cases b <;> rfl
theorem uq_town {p : Pw} {e : Nat} : uq (townR p e) := by
  intro r r' h h'
  rcases h with ⟨k, pl, a, rfl⟩ | ⟨z, a, rfl⟩ <;> rcases h' with ⟨k', pl', b, rfl⟩ | ⟨z', b, rfl⟩ <;> rw [a] at b <;> cases b <;> rfl
theorem uq_work {p : Pw} {e : Nat} : uq (workR p e) := by
  intro r r' h h'
  rcases h with ⟨x, rfl⟩ | ⟨x, k, pl, a, rfl⟩ | ⟨x, q, cl, ml, G, a, rfl⟩
  · rcases h' with ⟨y, rfl⟩ | ⟨y, -⟩ | ⟨y, -⟩
    · rfl
    · omega
    · omega
  · rcases h' with ⟨y, rfl⟩ | ⟨y, k', pl', b, rfl⟩ | ⟨y, q', cl', ml', G', b, rfl⟩
    · omega
    · rw [a] at b; cases b; rfl
    · rw [a] at b; cases b
  · rcases h' with ⟨y, rfl⟩ | ⟨y, k', pl', b, rfl⟩ | ⟨y, q', cl', ml', G', b, rfl⟩
    · omega
    · rw [a] at b; cases b
    · rw [a] at b; cases b; rfl
