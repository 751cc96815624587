/-! ===== what is read of work: how long it is, what it means ===== -/
/-- the class's tokens from a place on do what G does: each is a step, or a loop whose closing lies behind -/
def sgC (W : Nat → Nat × Nat × Nat) (C : List (Nat × Int32)) (t : Tn) : Nat → Nat → Nat → (Xw → Xw) → Prop
  | 0, i, i2, G => i2 = i ∧ ∀ x, G x = x
  | n + 1, i, i2, G => (i2 = i ∧ ∀ x, G x = x) ∨ (∃ kd a b H, W i = (kd, a, b) ∧ stV t kd a b ∧ sgC W C t n (i + 1) i2 H ∧ ∀ x, G x = H (gA C t kd a b x)) ∨ (∃ N j H K, N ≤ 40 ∧ W i = (6, N, j) ∧ W j = (7, i, 0) ∧ sgC W C t n (i + 1) j H ∧ sgC W C t n (j + 1) i2 K ∧ okG t H ∧ (∀ x, G x = K (gL N H x)))
/-- the reference's -/
def sgM (V : Nat → Nat × Nat × Nat) (C : List (Nat × Int32)) (t : Tn) : Nat → Nat → Nat → (Xw → Xw) → Prop
  | 0, i, i2, G => i2 = i ∧ ∀ x, G x = x
  | n + 1, i, i2, G => (i2 = i ∧ ∀ x, G x = x) ∨ (∃ kd a b H, V i = (kd - 1, a, b) ∧ stV t kd a b ∧ sgM V C t n (i + 1) i2 H ∧ ∀ x, G x = H (gA C t kd a b x)) ∨ (∃ N j H K, N ≤ 40 ∧ V i = (5, N, 3 * j) ∧ sgM V C t n (i + 1) j H ∧ sgM V C t n j i2 K ∧ okG t H ∧ (∀ x, G x = K (gL N H x)))
section
variable {W W2 V V2 : Nat → Nat × Nat × Nat} {C : List (Nat × Int32)} {t : Tn}
theorem sgC_le : ∀ n i i2 G, sgC W C t n i i2 G → i ≤ i2
  | 0, i, i2, G, h => by have := h.1; omega
  | n + 1, i, i2, G, h => by
    rcases h with h | ⟨kd, a, b, H, h1, h2, h3, h4⟩ | ⟨N, j, H, K, h0, h1, h2, h3, h4, h5, h6⟩
    · have := h.1; omega
    · have := sgC_le n _ _ _ h3; omega
    · have := sgC_le n _ _ _ h3
      have := sgC_le n _ _ _ h4; omega
theorem sgM_le : ∀ n i i2 G, sgM V C t n i i2 G → i ≤ i2
  | 0, i, i2, G, h => by have := h.1; omega
  | n + 1, i, i2, G, h => by
    rcases h with h | ⟨kd, a, b, H, h1, h2, h3, h4⟩ | ⟨N, j, H, K, h0, h1, h3, h4, h5, h6⟩
    · have := h.1; omega
    · have := sgM_le n _ _ _ h3; omega
    · have := sgM_le n _ _ _ h3
      have := sgM_le n _ _ _ h4; omega
theorem sgC_cg : ∀ n i i2 G, (∀ k, i ≤ k → k < i2 → W k = W2 k) → sgC W C t n i i2 G → sgC W2 C t n i i2 G
  | 0, i, i2, G, _, h => h
  | n + 1, i, i2, G, hc, h => by
    rcases h with h | ⟨kd, a, b, H, h1, h2, h3, h4⟩ | ⟨N, j, H, K, h0, h1, h2, h3, h4, h5, h6⟩
    · exact Or.inl h
    · have l3 := sgC_le n _ _ _ h3
      exact Or.inr (Or.inl ⟨kd, a, b, H, by rw [← hc i (by omega) (by omega)]; exact h1, h2, sgC_cg n _ _ _ (fun k k1 k2 => hc k (by omega) k2) h3, h4⟩)
    · have l3 := sgC_le n _ _ _ h3
      have l4 := sgC_le n _ _ _ h4
      exact Or.inr (Or.inr ⟨N, j, H, K, h0, by rw [← hc i (by omega) (by omega)]; exact h1, by rw [← hc j (by omega) (by omega)]; exact h2, sgC_cg n _ _ _ (fun k k1 k2 => hc k (by omega) (by omega)) h3, sgC_cg n _ _ _ (fun k k1 k2 => hc k (by omega) k2) h4, h5, h6⟩)
theorem sgM_cg : ∀ n i i2 G, (∀ k, i ≤ k → k < i2 → V k = V2 k) → sgM V C t n i i2 G → sgM V2 C t n i i2 G
  | 0, i, i2, G, _, h => h
  | n + 1, i, i2, G, hc, h => by
    rcases h with h | ⟨kd, a, b, H, h1, h2, h3, h4⟩ | ⟨N, j, H, K, h0, h1, h3, h4, h5, h6⟩
    · exact Or.inl h
    · have l3 := sgM_le n _ _ _ h3
      exact Or.inr (Or.inl ⟨kd, a, b, H, by rw [← hc i (by omega) (by omega)]; exact h1, h2, sgM_cg n _ _ _ (fun k k1 k2 => hc k (by omega) k2) h3, h4⟩)
    · have l3 := sgM_le n _ _ _ h3
      have l4 := sgM_le n _ _ _ h4
      exact Or.inr (Or.inr ⟨N, j, H, K, h0, by rw [← hc i (by omega) (by omega)]; exact h1, sgM_cg n _ _ _ (fun k k1 k2 => hc k (by omega) (by omega)) h3, sgM_cg n _ _ _ (fun k k1 k2 => hc k (by omega) k2) h4, h5, h6⟩)
theorem sgC_mono1 : ∀ n i i2 G, sgC W C t n i i2 G → sgC W C t (n + 1) i i2 G
  | 0, i, i2, G, h => Or.inl h
  | n + 1, i, i2, G, h => by
    rcases h with h | ⟨kd, a, b, H, h1, h2, h3, h4⟩ | ⟨N, j, H, K, h0, h1, h2, h3, h4, h5, h6⟩
    · exact Or.inl h
    · exact Or.inr (Or.inl ⟨kd, a, b, H, h1, h2, sgC_mono1 n _ _ _ h3, h4⟩)
    · exact Or.inr (Or.inr ⟨N, j, H, K, h0, h1, h2, sgC_mono1 n _ _ _ h3, sgC_mono1 n _ _ _ h4, h5, h6⟩)
theorem sgM_mono1 : ∀ n i i2 G, sgM V C t n i i2 G → sgM V C t (n + 1) i i2 G
  | 0, i, i2, G, h => Or.inl h
  | n + 1, i, i2, G, h => by
    rcases h with h | ⟨kd, a, b, H, h1, h2, h3, h4⟩ | ⟨N, j, H, K, h0, h1, h3, h4, h5, h6⟩
    · exact Or.inl h
    · exact Or.inr (Or.inl ⟨kd, a, b, H, h1, h2, sgM_mono1 n _ _ _ h3, h4⟩)
    · exact Or.inr (Or.inr ⟨N, j, H, K, h0, h1, sgM_mono1 n _ _ _ h3, sgM_mono1 n _ _ _ h4, h5, h6⟩)
theorem sgC_mono {n m i i2 : Nat} {G : Xw → Xw} (hl : n ≤ m) (h : sgC W C t n i i2 G) : sgC W C t m i i2 G := by
  induction hl with
  | refl => exact h
  | step _ ih => exact sgC_mono1 _ _ _ _ ih
theorem sgM_mono {n m i i2 : Nat} {G : Xw → Xw} (hl : n ≤ m) (h : sgM V C t n i i2 G) : sgM V C t m i i2 G := by
  induction hl with
  | refl => exact h
  | step _ ih => exact sgM_mono1 _ _ _ _ ih
theorem sgC_ext : ∀ n i i2 G G2, (∀ x, G x = G2 x) → sgC W C t n i i2 G → sgC W C t n i i2 G2
  | 0, i, i2, G, G2, hg, h => ⟨h.1, fun x => by rw [← hg]; exact h.2 x⟩
  | n + 1, i, i2, G, G2, hg, h => by
    rcases h with h | ⟨kd, a, b, H, h1, h2, h3, h4⟩ | ⟨N, j, H, K, h0, h1, h2, h3, h4, h5, h6⟩
    · exact Or.inl ⟨h.1, fun x => by rw [← hg]; exact h.2 x⟩
    · exact Or.inr (Or.inl ⟨kd, a, b, H, h1, h2, h3, fun x => by rw [← hg]; exact h4 x⟩)
    · exact Or.inr (Or.inr ⟨N, j, H, K, h0, h1, h2, h3, h4, h5, fun x => by rw [← hg]; exact h6 x⟩)
theorem sgM_ext : ∀ n i i2 G G2, (∀ x, G x = G2 x) → sgM V C t n i i2 G → sgM V C t n i i2 G2
  | 0, i, i2, G, G2, hg, h => ⟨h.1, fun x => by rw [← hg]; exact h.2 x⟩
  | n + 1, i, i2, G, G2, hg, h => by
    rcases h with h | ⟨kd, a, b, H, h1, h2, h3, h4⟩ | ⟨N, j, H, K, h0, h1, h3, h4, h5, h6⟩
    · exact Or.inl ⟨h.1, fun x => by rw [← hg]; exact h.2 x⟩
    · exact Or.inr (Or.inl ⟨kd, a, b, H, h1, h2, h3, fun x => by rw [← hg]; exact h4 x⟩)
    · exact Or.inr (Or.inr ⟨N, j, H, K, h0, h1, h3, h4, h5, fun x => by rw [← hg]; exact h6 x⟩)
/-- one behind the other -/
theorem sgC_app : ∀ n m i i2 i3 G H, sgC W C t n i i2 G → sgC W C t m i2 i3 H → sgC W C t (n + m) i i3 (fun x => H (G x))
  | 0, m, i, i2, i3, G, H, h, k => by
    obtain ⟨h1, h2⟩ := h
    subst h1
    rw [Nat.zero_add]
    exact sgC_ext m _ _ H _ (fun x => by rw [h2]) k
  | n + 1, m, i, i2, i3, G, H, h, k => by
    rw [show n + 1 + m = (n + m) + 1 by omega]
    rcases h with ⟨h1, h2⟩ | ⟨kd, a, b, J, h1, h2, h3, h4⟩ | ⟨N, j, J, K, h0, h1, h2, h3, h4, h5, h6⟩
    · subst h1
      exact sgC_mono (by omega) (sgC_ext m _ _ H _ (fun x => by rw [h2]) k)
    · exact Or.inr (Or.inl ⟨kd, a, b, _, h1, h2, sgC_app n m _ _ _ J H h3 k, fun x => by show H (G x) = _; rw [h4]⟩)
    · exact Or.inr (Or.inr ⟨N, j, J, _, h0, h1, h2, sgC_mono (by omega) h3, sgC_app n m _ _ _ K H h4 k, h5, fun x => by show H (G x) = _; rw [h6]⟩)
theorem sgM_app : ∀ n m i i2 i3 G H, sgM V C t n i i2 G → sgM V C t m i2 i3 H → sgM V C t (n + m) i i3 (fun x => H (G x))
  | 0, m, i, i2, i3, G, H, h, k => by
    obtain ⟨h1, h2⟩ := h
    subst h1
    rw [Nat.zero_add]
    exact sgM_ext m _ _ H _ (fun x => by rw [h2]) k
  | n + 1, m, i, i2, i3, G, H, h, k => by
    rw [show n + 1 + m = (n + m) + 1 by omega]
    rcases h with ⟨h1, h2⟩ | ⟨kd, a, b, J, h1, h2, h3, h4⟩ | ⟨N, j, J, K, h0, h1, h3, h4, h5, h6⟩
    · subst h1
      exact sgM_mono (by omega) (sgM_ext m _ _ H _ (fun x => by rw [h2]) k)
    · exact Or.inr (Or.inl ⟨kd, a, b, _, h1, h2, sgM_app n m _ _ _ J H h3 k, fun x => by show H (G x) = _; rw [h4]⟩)
    · exact Or.inr (Or.inr ⟨N, j, J, _, h0, h1, sgM_mono (by omega) h3, sgM_app n m _ _ _ K H h4 k, h5, fun x => by show H (G x) = _; rw [h6]⟩)
end
/-- W holds the tokens from a place on -/
def hlds (W : Nat → Nat × Nat × Nat) (ic : Nat) (cl : Wt) : Prop := ∀ x y, cl[x]? = some y → W (ic + x) = y
theorem hlds_l {W : Nat → Nat × Nat × Nat} {ic : Nat} {a b : Wt} (h : hlds W ic (a ++ b)) : hlds W ic a := fun x y hx => h x y (by rw [List.getElem?_append_left (List.getElem?_eq_some_iff.mp hx).1]; exact hx)
theorem hlds_r {W : Nat → Nat × Nat × Nat} {ic : Nat} {a b : Wt} (h : hlds W ic (a ++ b)) : hlds W (ic + a.length) b := fun x y hx => by
  rw [Nat.add_assoc]
  exact h (a.length + x) y (by rw [List.getElem?_append_right (by omega), show a.length + x - a.length = x by omega]; exact hx)
theorem hlds_c {W : Nat → Nat × Nat × Nat} {ic : Nat} {a : Nat × Nat × Nat} {b : Wt} (h : hlds W ic (a :: b)) : W ic = a ∧ hlds W (ic + 1) b := ⟨h 0 a rfl, fun x y hx => by rw [Nat.add_assoc, Nat.add_comm 1 x]; exact h (x + 1) y hx⟩
/-- what is read of a piece of work -/
def gdW (C : List (Nat × Int32)) (t : Tn) (e lo : Nat) (U : Nat → Nat → Nat → Wr) : Prop := ∀ q ic jm, q ≤ e → (∀ k pl, U q ic jm = .inl (k, pl) → (1 ≤ k ∧ k ≤ 3)) ∧ ∀ r cl ml G, U q ic jm = .inr (r, cl, ml, G) → q + lo ≤ r ∧ r ≤ e ∧ cl.length ≤ r - q ∧ 3 * ml.length ≤ r - q ∧ okG t G ∧ (∀ W, hlds W ic cl → ∃ n, sgC W C t n ic (ic + cl.length) G) ∧ (∀ V, hlds V jm ml → ∃ n, sgM V C t n jm (jm + ml.length) G)
section
variable {T : Nat → Nat} {e : Nat} {C : List (Nat × Int32)} {t : Tn}
theorem wis_len {q : Nat} {l : List Nat} (h : wis T e q l = true) : we T e q = q + l.length := (wis_iff.mp h).1
theorem kdS_len {q : Nat} (h : kdS T e q ≠ 0) : q + 3 ≤ we T e q := by
  unfold kdS at h
  split at h
  · rename_i h1; have := wis_len h1; simp at this; omega
  · split at h
    · rename_i h1; have := wis_len h1; simp at this; omega
    · split at h
      · rename_i h1; have := wis_len h1; simp at this; omega
      · split at h
        · rename_i h1; have := wis_len h1; simp at this; omega
        · split at h
          · rename_i h1; have := wis_len h1; simp at this; omega
          · split at h
            · rename_i h1; have := wis_len h1; simp at this; omega
            · exact absurd rfl h
theorem gd_atom (tk : tn_ok t) {q r ic jm kd a b : Nat} (hv : stV t kd a b) (h1 : q + 3 ≤ r) (h2 : r ≤ e) : q + 3 ≤ r ∧ r ≤ e ∧ [(kd, a, b)].length ≤ r - q ∧ 3 * [(kd - 1, a, b)].length ≤ r - q ∧ okG t (gA C t kd a b) ∧ (∀ W, hlds W ic [(kd, a, b)] → ∃ n, sgC W C t n ic (ic + [(kd, a, b)].length) (gA C t kd a b)) ∧ (∀ V, hlds V jm [(kd - 1, a, b)] → ∃ n, sgM V C t n jm (jm + [(kd - 1, a, b)].length) (gA C t kd a b)) := by
  refine ⟨h1, h2, by show 1 ≤ _; omega, by show 3 * 1 ≤ _; omega, gA_ok tk hv, fun W hW => ⟨1, Or.inr (Or.inl ⟨kd, a, b, id, (hlds_c hW).1, hv, ⟨rfl, fun _ => rfl⟩, fun _ => rfl⟩)⟩, fun V hV => ⟨1, Or.inr (Or.inl ⟨kd, a, b, id, (hlds_c hV).1, hv, ⟨rfl, fun _ => rfl⟩, fun _ => rfl⟩)⟩⟩
set_option maxHeartbeats 1000000 in
theorem gd_again (tk : tn_ok t) {B : Nat → Nat → Nat → Wr} (hB : gdW C t e 0 B) {w ic jm : Nat} (hw : w ≤ e) : (∀ k pl, agP T e B w ic jm = .inl (k, pl) → (1 ≤ k ∧ k ≤ 3)) ∧ ∀ r cl ml G, agP T e B w ic jm = .inr (r, cl, ml, G) → w + 3 ≤ r ∧ r ≤ e ∧ cl.length ≤ r - w ∧ 3 * ml.length ≤ r - w + 3 ∧ okG t G ∧ (∀ W, hlds W ic cl → ∃ n, sgC W C t n ic (ic + cl.length) G) ∧ (∀ V, hlds V jm ml → ∃ n, sgM V C t n jm (jm + ml.length) G) := by
  unfold agP
  cases hr : rdn T e w 0 41 with
  | inl x =>
    obtain ⟨k, pl⟩ := x
    refine ⟨fun k' pl' h => ?_, fun r cl ml G h => (by cases h)⟩
    cases h
    have := rdn_inl hr hw
    omega
  | inr x =>
    obtain ⟨N, r0⟩ := x
    obtain ⟨a1, a2, a3, a4, a5, a6⟩ := rdn_inr hr hw
    dsimp only
    cases h91 : sgP T e 91 r0 with
    | inl x =>
      obtain ⟨k, pl⟩ := x
      refine ⟨fun k' pl' h => ?_, fun r cl ml G h => (by cases h)⟩
      cases h
      have := (sgP_no h91).1
      omega
    | inr r1 =>
      have b1 := sgP_ok h91 a4
      obtain ⟨g1, g2⟩ := hB r1 (ic + 1) (jm + 1) b1.2.1
      dsimp only
      cases hb : B r1 (ic + 1) (jm + 1) with
      | inl x =>
        obtain ⟨k, pl⟩ := x
        refine ⟨fun k' pl' h => ?_, fun r cl ml G h => (by cases h)⟩
        cases h
        exact g1 k pl hb
      | inr x =>
        obtain ⟨r2, cl, ml, G⟩ := x
        obtain ⟨c1, c2, c3, c4, c5, c6, c7⟩ := g2 r2 cl ml G hb
        dsimp only
        cases h93 : sgP T e 93 r2 with
        | inl x =>
          obtain ⟨k, pl⟩ := x
          refine ⟨fun k' pl' h => ?_, fun r cl ml G h => (by cases h)⟩
          cases h
          have := (sgP_no h93).1
          omega
        | inr r3 =>
          have d1 := sgP_ok h93 c2
          refine ⟨fun k' pl' h => (by cases h), fun r cl' ml' G' h => ?_⟩
          cases h
          refine ⟨by omega, d1.2.1, ?_, ?_, gL_ok c5, fun W hW => ?_, fun V hV => ?_⟩
          · simp only [List.length_append, List.length_cons, List.length_nil]; omega
          · simp only [List.length_cons]; omega
          · rw [List.cons_append] at hW
            obtain ⟨w1, w2⟩ := hlds_c hW
            have w3 := hlds_l w2
            have w4 := (hlds_c (hlds_r w2)).1
            obtain ⟨n, hn⟩ := c6 W w3
            refine ⟨n + 1, Or.inr (Or.inr ⟨N, ic + 1 + cl.length, G, id, by omega, w1, w4, hn, ?_, c5, fun x => rfl⟩)⟩
            have : sgC W C t 0 (ic + 1 + cl.length + 1) (ic + 1 + cl.length + 1) id := ⟨rfl, fun _ => rfl⟩
            have := sgC_mono (Nat.zero_le n) this
            simp only [List.length_append, List.length_cons, List.length_nil]
            rw [show ic + (cl.length + 1 + (0 + 1)) = ic + 1 + cl.length + 1 by omega]
            exact this
          · obtain ⟨w1, w2⟩ := hlds_c hV
            obtain ⟨n, hn⟩ := c7 V w2
            refine ⟨n + 1, Or.inr (Or.inr ⟨N, jm + 1 + ml.length, G, id, by omega, w1, hn, ?_, c5, fun x => rfl⟩)⟩
            have : sgM V C t 0 (jm + 1 + ml.length) (jm + 1 + ml.length) id := ⟨rfl, fun _ => rfl⟩
            have := sgM_mono (Nat.zero_le n) this
            simp only [List.length_cons]
            rw [show jm + (ml.length + 1) = jm + 1 + ml.length by omega]
            exact this
set_option maxHeartbeats 1000000 in
theorem gd_step (tk : tn_ok t) {B : Option (Nat → Nat → Nat → Wr)} (hB : ∀ b, B = some b → gdW C t e 0 b) : gdW C t e 3 (stP T e C t B) := by
  intro q ic jm hq
  have hw2 := we_le (T := T) hq
  have hw := we_ge T e q
  unfold stP
  split
  · rename_i hk
    have hl := kdS_len (T := T) (e := e) (q := q) (by omega)
    split
    · rename_i x hr
      obtain ⟨k, pl⟩ := x
      refine ⟨fun k' pl' h => ?_, fun r cl ml G h => (by cases h)⟩
      cases h
      have := rdn_inl hr hw2
      omega
    · rename_i v r hr
      obtain ⟨a1, a2, a3, a4, a5, a6⟩ := rdn_inr hr hw2
      refine ⟨fun k' pl' h => (by cases h), fun r cl ml G h => ?_⟩
      cases h
      exact gd_atom tk (kd := 1) (Or.inl ⟨rfl, a2⟩) (by omega) a4
  · split
    · rename_i hk
      have hl := kdS_len (T := T) (e := e) (q := q) (by omega)
      split
      · rename_i x hr
        obtain ⟨k, pl⟩ := x
        refine ⟨fun k' pl' h => ?_, fun r cl ml G h => (by cases h)⟩
        cases h
        have := rdn_inl hr hw2
        omega
      · rename_i v r hr
        obtain ⟨a1, a2, a3, a4, a5, a6⟩ := rdn_inr hr hw2
        refine ⟨fun k' pl' h => (by cases h), fun r cl ml G h => ?_⟩
        cases h
        exact gd_atom tk (kd := 2) (Or.inr (Or.inl ⟨rfl, a2⟩)) (by omega) a4
    · split
      · rename_i hk
        have hl := kdS_len (T := T) (e := e) (q := q) (by omega)
        split
        · rename_i x hr
          obtain ⟨k, pl⟩ := x
          refine ⟨fun k' pl' h => ?_, fun r cl ml G h => (by cases h)⟩
          cases h
          have := rdn_inl hr hw2
          omega
        · rename_i v r hr
          obtain ⟨a1, a2, a3, a4, a5, a6⟩ := rdn_inr hr hw2
          refine ⟨fun k' pl' h => (by cases h), fun r cl ml G h => ?_⟩
          cases h
          exact gd_atom tk (kd := 3) (Or.inr (Or.inr (Or.inl ⟨rfl, a1, by omega⟩))) (by omega) a4
      · split
        · rename_i hk
          have hl := kdS_len (T := T) (e := e) (q := q) (by omega)
          split
          · rename_i x hr
            obtain ⟨k, pl⟩ := x
            refine ⟨fun k' pl' h => ?_, fun r cl ml G h => (by cases h)⟩
            cases h
            have := rdn_inl hr hw2
            omega
          · rename_i v r hr
            obtain ⟨a1, a2, a3, a4, a5, a6⟩ := rdn_inr hr hw2
            split
            · rename_i x hr2
              obtain ⟨k, pl⟩ := x
              refine ⟨fun k' pl' h => ?_, fun r cl ml G h => (by cases h)⟩
              cases h
              have := rdn_inl hr2 a4
              omega
            · rename_i w r2 hr2
              obtain ⟨b1, b2, b3, b4, b5, b6⟩ := rdn_inr hr2 a4
              refine ⟨fun k' pl' h => (by cases h), fun r cl ml G h => ?_⟩
              cases h
              exact gd_atom tk (kd := 4) (Or.inr (Or.inr (Or.inr (Or.inl ⟨rfl, a2, b2⟩)))) (by omega) b4
        · split
          · rename_i hk
            have hl := kdS_len (T := T) (e := e) (q := q) (by omega)
            refine ⟨fun k' pl' h => (by cases h), fun r cl ml G h => ?_⟩
            cases h
            exact gd_atom tk (kd := 5) (Or.inr (Or.inr (Or.inr (Or.inr rfl)))) (by omega) hw2
          · split
            · rename_i hk
              have hl := kdS_len (T := T) (e := e) (q := q) (by omega)
              split
              · refine ⟨fun k' pl' h => ?_, fun r cl ml G h => (by cases h)⟩
                cases h
                omega
              · rename_i b
                obtain ⟨g1, g2⟩ := gd_again (T := T) (ic := ic) (jm := jm) tk (hB b rfl) hw2
                refine ⟨g1, fun r cl ml G h => ?_⟩
                obtain ⟨c1, c2, c3, c4, c5, c6, c7⟩ := g2 r cl ml G h
                exact ⟨by omega, c2, by omega, by omega, c5, c6, c7⟩
            · refine ⟨fun k' pl' h => ?_, fun r cl ml G h => (by cases h)⟩
              cases h
              omega
set_option maxHeartbeats 1000000 in
theorem gd_lpB {U : Nat → Nat → Nat → Wr} (hU : gdW C t e 3 U) {inn : Bool} {p0 ic jm : Nat} : ∀ n p cl ml G, p0 ≤ p → p ≤ e → cl.length ≤ p - p0 → 3 * ml.length ≤ p - p0 → okG t G → (∀ W, hlds W ic cl → ∃ n, sgC W C t n ic (ic + cl.length) G) → (∀ V, hlds V jm ml → ∃ n, sgM V C t n jm (jm + ml.length) G) → (∀ k pl, lpB T e U inn n p ic jm cl ml G = .inl (k, pl) → (1 ≤ k ∧ k ≤ 3)) ∧ ∀ r cl2 ml2 G2, lpB T e U inn n p ic jm cl ml G = .inr (r, cl2, ml2, G2) → p0 ≤ r ∧ r ≤ e ∧ cl2.length ≤ r - p0 ∧ 3 * ml2.length ≤ r - p0 ∧ okG t G2 ∧ (∀ W, hlds W ic cl2 → ∃ n, sgC W C t n ic (ic + cl2.length) G2) ∧ (∀ V, hlds V jm ml2 → ∃ n, sgM V C t n jm (jm + ml2.length) G2)
  | 0, p, cl, ml, G, h1, h2, h3, h4, h5, h6, h7 => by
    refine ⟨fun k pl h => (by cases h), fun r cl2 ml2 G2 h => ?_⟩
    cases h
    exact ⟨h1, h2, h3, h4, h5, h6, h7⟩
  | n + 1, p, cl, ml, G, h1, h2, h3, h4, h5, h6, h7 => by
    have hn := nx_ge T e p
    have hn2 := nx_le (T := T) h2
    rw [lpB]
    by_cases hst : (if inn = true then nx T e p < e ∧ T (nx T e p) = 93 else ¬ nx T e p < e)
    · rw [if_pos hst]
      refine ⟨fun k pl h => (by cases h), fun r cl2 ml2 G2 h => ?_⟩
      cases h
      exact ⟨by omega, hn2, by omega, by omega, h5, h6, h7⟩
    · rw [if_neg hst]
      obtain ⟨g1, g2⟩ := hU (nx T e p) (ic + cl.length) (jm + ml.length) hn2
      cases hu : U (nx T e p) (ic + cl.length) (jm + ml.length) with
      | inl x =>
        obtain ⟨k, pl⟩ := x
        refine ⟨fun k' pl' h => ?_, fun r cl ml G h => (by cases h)⟩
        cases h
        exact g1 k pl hu
      | inr x =>
        obtain ⟨r, cl2, ml2, G2⟩ := x
        obtain ⟨c1, c2, c3, c4, c5, c6, c7⟩ := g2 r cl2 ml2 G2 hu
        dsimp only
        cases h59 : sgP T e 59 r with
        | inl x =>
          obtain ⟨k, pl⟩ := x
          refine ⟨fun k' pl' h => ?_, fun r cl ml G h => (by cases h)⟩
          cases h
          have := (sgP_no h59).1
          omega
        | inr r2 =>
          have d1 := sgP_ok h59 c2
          refine gd_lpB hU n r2 (cl ++ cl2) (ml ++ ml2) (fun x => G2 (G x)) (by omega) d1.2.1 ?_ ?_ (okG_comp h5 c5) (fun W hW => ?_) (fun V hV => ?_)
          · rw [List.length_append]; omega
          · rw [List.length_append]; omega
          · obtain ⟨n1, s1⟩ := h6 W (hlds_l hW)
            obtain ⟨n2, s2⟩ := c6 W (hlds_r hW)
            refine ⟨n1 + n2, ?_⟩
            rw [List.length_append, ← Nat.add_assoc]
            exact sgC_app n1 n2 _ _ _ _ _ s1 s2
          · obtain ⟨n1, s1⟩ := h7 V (hlds_l hV)
            obtain ⟨n2, s2⟩ := c7 V (hlds_r hV)
            refine ⟨n1 + n2, ?_⟩
            rw [List.length_append, ← Nat.add_assoc]
            exact sgM_app n1 n2 _ _ _ _ _ s1 s2
theorem okG_id : okG t id := fun x => ⟨id, fun h => ⟨Nat.le_refl _, h⟩, fun _ => rfl⟩
theorem gd_bk (tk : tn_ok t) : ∀ L inn, gdW C t e 0 (bkP T e C t inn L)
  | 0, inn => fun q ic jm hq => by
    have := gd_lpB (T := T) (C := C) (t := t) (ic := ic) (jm := jm) (inn := inn) (p0 := q) (gd_step (T := T) (C := C) tk (B := none) (fun b h => by cases h)) 150 q [] [] id (Nat.le_refl _) hq (Nat.zero_le _) (Nat.zero_le _) okG_id (fun W _ => ⟨0, rfl, fun _ => rfl⟩) (fun V _ => ⟨0, rfl, fun _ => rfl⟩)
    exact this
  | L + 1, inn => fun q ic jm hq => by
    have := gd_lpB (T := T) (C := C) (t := t) (ic := ic) (jm := jm) (inn := inn) (p0 := q) (gd_step (T := T) (C := C) tk (B := some (bkP T e C t true L)) (fun b h => by cases h; exact gd_bk tk L true)) 150 q [] [] id (Nat.le_refl _) hq (Nat.zero_le _) (Nat.zero_le _) okG_id (fun W _ => ⟨0, rfl, fun _ => rfl⟩) (fun V _ => ⟨0, rfl, fun _ => rfl⟩)
    exact this
end
