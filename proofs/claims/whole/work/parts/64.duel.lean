/-! ===== two who blow by turns ===== -/
section
variable (F : Nat → Nat → Nat)
/-- who is to blow loses within so many turns -/
def dl2 : Nat → Nat → Nat → Bool
  | 0, a, c => a == c
  | n + 1, a, c => (a == c) || all4 (fun w => !(F a w == F c w) && any4 (fun v => dl2 n (F (F a w) v) (F (F c w) v)))
def dw1 (n a c : Nat) : Bool := !(a == c) && any4 (fun w => dl2 F n (F a w) (F c w))
def isD (a c : Nat) (v : Int32) : Prop := (v = nI 2 ∧ ∃ n, dl2 F n a c = true) ∨ (v = nI 1 ∧ ∃ n, dw1 F n a c = true) ∨ (v = nI 0 ∧ (∀ n, dl2 F n a c = false) ∧ ∀ n, dw1 F n a c = false)
/-- a mark that is sound so far -/
def dsnd (a c : Nat) (v : Int32) : Prop := (v = nI 2 ∧ ∃ n, dl2 F n a c = true) ∨ (v = nI 1 ∧ ∃ n, dw1 F n a c = true) ∨ (v = nI 0 ∧ a ≠ c)
end
section
variable {F : Nat → Nat → Nat}
theorem dl2_s (n a c : Nat) : dl2 F (n + 1) a c = ((a == c) || all4 (fun w => dw1 F n (F a w) (F c w))) := rfl
theorem beq_c (a c : Nat) : (a == c) = (c == a) := by
  rw [Bool.eq_iff_iff]
  simp only [beq_iff_eq]
  exact eq_comm
theorem dl2_sym : ∀ n a c, dl2 F n a c = dl2 F n c a
  | 0, a, c => beq_c a c
  | n + 1, a, c => by
    rw [dl2, dl2, beq_c a c]
    congr 2
    funext w
    rw [beq_c (F a w)]
    congr 2
    funext v
    exact dl2_sym n _ _
theorem dw1_sym (n a c : Nat) : dw1 F n a c = dw1 F n c a := by
  unfold dw1
  rw [beq_c a c]
  congr 2
  funext w
  exact dl2_sym n _ _
theorem d_excl : ∀ s n m a c, n + m ≤ s → dl2 F n a c = true → dw1 F m a c = true → False
  | s, n, m, a, c, hs, h1, h2 => by
    unfold dw1 at h2
    rw [Bool.and_eq_true] at h2
    obtain ⟨h3, h4⟩ := h2
    obtain ⟨w, hw, h5⟩ := any4_iff.mp h4
    cases n with
    | zero =>
      have h1 : (a == c) = true := h1
      rw [h1] at h3
      cases h3
    | succ n =>
      rw [dl2_s, Bool.or_eq_true] at h1
      rcases h1 with q | q
      · rw [q] at h3
        cases h3
      · have h6 := all4_iff.mp q w hw
        cases s with
        | zero => omega
        | succ s => exact d_excl s m n _ _ (by omega) h5 h6
theorem isD_uniq {a c : Nat} {v v' : Int32} (h : isD F a c v) (h' : isD F a c v') : v = v' := by
  rcases h with ⟨h1, n, h2⟩ | ⟨h1, n, h2⟩ | ⟨h1, h2, h3⟩ <;> rcases h' with ⟨k1, m, k2⟩ | ⟨k1, m, k2⟩ | ⟨k1, k2, k3⟩
  · rw [h1, k1]
  · exact (d_excl _ n m a c (Nat.le_refl _) h2 k2).elim
  · rw [k2 n] at h2; cases h2
  · exact (d_excl _ m n a c (Nat.le_refl _) k2 h2).elim
  · rw [h1, k1]
  · rw [k3 n] at h2; cases h2
  · rw [h2 m] at k2; cases k2
  · rw [h3 m] at k2; cases k2
  · rw [h1, k1]
theorem n012 : nI 0 ≠ nI 1 ∧ nI 0 ≠ nI 2 ∧ nI 1 ≠ nI 2 := by decide
theorem d_fix {k : Nat} {V : Nat → Nat → Int32} (hF : ∀ a, a < k → ∀ w, w < 4 → F a w < k) (hs : ∀ a c, a < k → c < k → dsnd F a c (V a c)) (hx : ∀ a c, a < k → c < k → V a c = nI 0 → any4 (fun w => V (F a w) (F c w) == nI 2) = false ∧ all4 (fun w => V (F a w) (F c w) == nI 1) = false) : ∀ n, (∀ a c, a < k → c < k → dl2 F n a c = true → V a c = nI 2) ∧ (∀ a c, a < k → c < k → dw1 F n a c = true → V a c = nI 1) := by
  have two : ∀ n, (∀ a c, a < k → c < k → dl2 F n a c = true → V a c = nI 2) → (∀ a c, a < k → c < k → dw1 F n a c = true → V a c = nI 1) := by
    intro n hl a c ha hc h
    have h0 := h
    unfold dw1 at h0
    rw [Bool.and_eq_true] at h0
    obtain ⟨w, hw, h5⟩ := any4_iff.mp h0.2
    have e := hl _ _ (hF a ha w hw) (hF c hc w hw) h5
    rcases hs a c ha hc with ⟨q1, m, q2⟩ | ⟨q1, _⟩ | ⟨q1, _⟩
    · exact (d_excl _ m n a c (Nat.le_refl _) q2 h).elim
    · exact q1
    · have := (hx a c ha hc q1).1
      rw [any4_iff.mpr ⟨w, hw, by simp [e]⟩] at this
      cases this
  intro n
  induction n with
  | zero =>
    have hl : ∀ a c, a < k → c < k → dl2 F 0 a c = true → V a c = nI 2 := by
      intro a c ha hc h
      have h : a = c := by simpa [dl2] using h
      rcases hs a c ha hc with ⟨q1, _⟩ | ⟨_, m, q2⟩ | ⟨_, q2⟩
      · exact q1
      · unfold dw1 at q2; simp [h] at q2
      · exact absurd h q2
    exact ⟨hl, two 0 hl⟩
  | succ n ih =>
    have hl : ∀ a c, a < k → c < k → dl2 F (n + 1) a c = true → V a c = nI 2 := by
      intro a c ha hc h
      rcases hs a c ha hc with ⟨q1, _⟩ | ⟨_, m, q2⟩ | ⟨q1, q2⟩
      · exact q1
      · exact (d_excl _ (n + 1) m a c (Nat.le_refl _) h q2).elim
      · have := (hx a c ha hc q1).2
        rw [dl2_s, Bool.or_eq_true] at h
        rcases h with q | q
        · exact absurd (by simpa using q) q2
        · rw [all4_iff.mpr (fun w hw => by simp [ih.2 _ _ (hF a ha w hw) (hF c hc w hw) (all4_iff.mp q w hw)])] at this
          cases this
    exact ⟨hl, two (n + 1) hl⟩
theorem d_isD {k a c : Nat} {V : Nat → Nat → Int32} (hF : ∀ a, a < k → ∀ w, w < 4 → F a w < k) (hs : ∀ a c, a < k → c < k → dsnd F a c (V a c)) (hx : ∀ a c, a < k → c < k → V a c = nI 0 → any4 (fun w => V (F a w) (F c w) == nI 2) = false ∧ all4 (fun w => V (F a w) (F c w) == nI 1) = false) (ha : a < k) (hc : c < k) : isD F a c (V a c) := by
  have key := d_fix hF hs hx
  rcases hs a c ha hc with q | q | ⟨q1, q2⟩
  · exact Or.inl q
  · exact Or.inr (Or.inl q)
  · refine Or.inr (Or.inr ⟨q1, fun n => ?_, fun n => ?_⟩)
    · cases h : dl2 F n a c
      · rfl
      · have := (key n).1 a c ha hc h
        rw [q1] at this
        exact absurd this n012.2.1
    · cases h : dw1 F n a c
      · rfl
      · have := (key n).2 a c ha hc h
        rw [q1] at this
        exact absurd this n012.1
/-- what is found of sound marks is sound -/
theorem d_win {k a c : Nat} {V : Nat → Nat → Int32} (hF : ∀ a, a < k → ∀ w, w < 4 → F a w < k) (hs : ∀ a c, a < k → c < k → dsnd F a c (V a c)) (ha : a < k) (hc : c < k) (hac : a ≠ c) (h : any4 (fun w => V (F a w) (F c w) == nI 2) = true) : ∃ n, dw1 F n a c = true := by
  obtain ⟨w, hw, e⟩ := any4_iff.mp h
  have e : V (F a w) (F c w) = nI 2 := by simpa using e
  rcases hs _ _ (hF a ha w hw) (hF c hc w hw) with ⟨_, n, q⟩ | ⟨q1, _⟩ | ⟨q1, _⟩
  · refine ⟨n, ?_⟩
    unfold dw1
    rw [any4_iff.mpr ⟨w, hw, q⟩]
    simp [hac]
  · rw [q1] at e; exact absurd e n012.2.2
  · rw [q1] at e; exact absurd e n012.2.1
theorem dl2_mono : ∀ n a c, dl2 F n a c = true → dl2 F (n + 1) a c = true
  | 0, a, c, h => by
    have h : (a == c) = true := h
    rw [dl2_s, h]
    rfl
  | n + 1, a, c, h => by
    rw [dl2_s, Bool.or_eq_true] at h
    rw [dl2_s, Bool.or_eq_true]
    rcases h with q | q
    · exact Or.inl q
    · right
      refine all4_iff.mpr (fun w hw => ?_)
      have := all4_iff.mp q w hw
      unfold dw1 at this ⊢
      rw [Bool.and_eq_true] at this ⊢
      refine ⟨this.1, ?_⟩
      obtain ⟨v, hv, e⟩ := any4_iff.mp this.2
      exact any4_iff.mpr ⟨v, hv, dl2_mono n _ _ e⟩
theorem dl2_le {n m a c : Nat} (hl : n ≤ m) (h : dl2 F n a c = true) : dl2 F m a c = true := by
  induction hl with
  | refl => exact h
  | step _ ih => exact dl2_mono _ _ _ ih
theorem dw1_le {n m a c : Nat} (hl : n ≤ m) (h : dw1 F n a c = true) : dw1 F m a c = true := by
  unfold dw1 at h ⊢
  rw [Bool.and_eq_true] at h ⊢
  refine ⟨h.1, ?_⟩
  obtain ⟨v, hv, e⟩ := any4_iff.mp h.2
  exact any4_iff.mpr ⟨v, hv, dl2_le hl e⟩
theorem d_lose {k a c : Nat} {V : Nat → Nat → Int32} (hF : ∀ a, a < k → ∀ w, w < 4 → F a w < k) (hs : ∀ a c, a < k → c < k → dsnd F a c (V a c)) (ha : a < k) (hc : c < k) (h : all4 (fun w => V (F a w) (F c w) == nI 1) = true) : ∃ n, dl2 F n a c = true := by
  have key : ∀ w, w < 4 → ∃ n, dw1 F n (F a w) (F c w) = true := by
    intro w hw
    have e : V (F a w) (F c w) = nI 1 := by simpa using all4_iff.mp h w hw
    rcases hs _ _ (hF a ha w hw) (hF c hc w hw) with ⟨q1, _⟩ | ⟨_, n, q⟩ | ⟨q1, _⟩
    · rw [q1] at e; exact absurd e.symm n012.2.2
    · exact ⟨n, q⟩
    · rw [q1] at e; exact absurd e n012.1
  obtain ⟨n0, h0⟩ := key 0 (by omega)
  obtain ⟨n1, h1⟩ := key 1 (by omega)
  obtain ⟨n2, h2⟩ := key 2 (by omega)
  obtain ⟨n3, h3⟩ := key 3 (by omega)
  refine ⟨n0 + n1 + n2 + n3 + 1, ?_⟩
  rw [dl2_s, Bool.or_eq_true]
  right
  refine all4_iff.mpr (fun w hw => ?_)
  rcases (show w = 0 ∨ w = 1 ∨ w = 2 ∨ w = 3 by omega) with rfl | rfl | rfl | rfl
  · exact dw1_le (by omega) h0
  · exact dw1_le (by omega) h1
  · exact dw1_le (by omega) h2
  · exact dw1_le (by omega) h3
end
/-- how many marks are open -/
def nz0 (g : Nat → Int32) : Nat := cn (fun x => g x == nI 0) 100
theorem nz0_set {g : Nat → Int32} {a c : Nat} {v : Int32} (ha : a < 10) (hc : c < 10) (hg : g (a * 10 + c) = nI 0) (hv : v ≠ nI 0) : nz0 (upd (upd g (a * 10 + c) v) (c * 10 + a) v) + 1 ≤ nz0 g := by
  have hz : (v == nI 0) = false := by simp [hv]
  have h1 : cn (fun x => upd g (a * 10 + c) v x == nI 0) 100 + 1 = nz0 g := by
    unfold nz0
    refine cn_upd_lt (j := a * 10 + c) 100 (fun i hi => by rw [pk_un hi]) (by rw [hg]; rfl) (by rw [pk_us]; exact hz) (by omega)
  have h2 : nz0 (upd (upd g (a * 10 + c) v) (c * 10 + a) v) ≤ cn (fun x => upd g (a * 10 + c) v x == nI 0) 100 := by
    unfold nz0
    refine cn_imp 100 (fun i _ hi => ?_)
    by_cases hic : i = c * 10 + a
    · subst hic
      rw [pk_us, hz] at hi
      cases hi
    · rw [pk_un hic] at hi
      exact hi
  omega
theorem upd_id {g : Nat → Int32} {j : Nat} {v : Int32} (h : g j = v) : upd g j v = g := by
  funext i
  unfold upd
  split
  · rename_i q; rw [q, h]
  · rfl
def dS (t : Tn) (fo : Nat) (g : Nat → Int32) : Prop := ∀ a c, a < t.k → c < t.k → dsnd (fun c w => stp t fo c w) a c (g (a * 10 + c)) ∧ g (a * 10 + c) = g (c * 10 + a)
def dX (t : Tn) (fo : Nat) (g : Nat → Int32) (a c : Nat) : Prop := g (a * 10 + c) = nI 0 → any4 (fun w => g (stp t fo a w * 10 + stp t fo c w) == nI 2) = false ∧ all4 (fun w => g (stp t fo a w * 10 + stp t fo c w) == nI 1) = false
section
variable {sc : Nat × (Nat → Int32)} {d n cc ss : Nat} {h : fx_H} {f : Nat → va_E} {Q : fx_R → Prop} {hn : Nat → Option (Nat × Nat)} {cdm k : List Instr} {ls st : List Value}
variable {b fo : Nat} {t : Tn} {lf : Int32} {w1 w2 : Nat} {g : Nat → Int32}
set_option maxHeartbeats 2000000 in
theorem sp_settle (h69 : f 69 = st_O (nI t.k) lf w1 w2) (htb : st_tab f t fo) (h82 : f 82 = pa_O) (h83 : f 83 = ar_I 100 g) (tk : tn_ok t) (hv : dS t fo g)
    (hq : ∀ g' z, dS t fo g' → z ≤ 1 → (z = 0 → ∀ a c, a < t.k → c < t.k → dX t fo g' a c) → nz0 g' + z ≤ nz0 g → Q (.inl (some (.int (nI z))), (n, cc, ss, va_up f 83 (ar_I 100 g')))) : wM sc (d + 5) 130 [.ref 82, .ref 69] (n, cc, ss, f) Q := by
  have tk1 := tk.1
  have hFk : ∀ a, a < t.k → ∀ w, w < 4 → (fun c w => stp t fo c w) a w < t.k := fun a ha w hw => stp_lt tk ha hw
  have inner : ∀ (i : Nat) (hi : i < t.k) (hx : ∀ g' z, dS t fo g' → z ≤ 1 → (z = 0 → ∀ a c, a < t.k → c < t.k → prd (i + 1) 0 a c → dX t fo g' a c) → nz0 g' + z ≤ nz0 g → ∀ v4 v5, wC sc (d + 4) (pg_hd 130) cm_130 cb_130_39 [.ref 82, .ref 69, .int (nI z), .int (nI i), v4, v5] [] (n, cc, ss, va_up f 83 (ar_I 100 g')) Q)
      (j jj : Nat) (g' : Nat → Int32) (z : Nat) (v5 : Value), jj + j = i + 1 → dS t fo g' → z ≤ 1 → (z = 0 → ∀ a c, a < t.k → c < t.k → prd i jj a c → dX t fo g' a c) → nz0 g' + z ≤ nz0 g → wC sc (d + 4) (pg_hd 130) cm_130 cb_130_10 [.ref 82, .ref 69, .int (nI z), .int (nI i), .int (nI jj), v5] [] (n, cc, ss, va_up f 83 (ar_I 100 g')) Q := by
    intro i hi hx j
    induction j with
    | zero =>
      intro jj g' z v5 hj k1 k2 k3 k4
      have : jj = i + 1 := by omega
      subst this
      have hp : ∀ a c, prd i (i + 1) a c ↔ prd (i + 1) 0 a c := by intro a c; unfold prd; omega
      unfold cb_130_10
      simp (disch := omega) only [cb_130_0, cb_130_8, cb_130_13, cb_130_18, cb_130_31, cb_130_33, cb_130_35, cb_130_36, cb_130_37, cb_130_41, jb_130_4, jb_130_8, jb_130_10, jb_130_13, jb_130_18, jb_130_31, jb_130_33, jb_130_35, jb_130_36, jb_130_37, jb_130_39, jb_130_41, wC_goto, wC_iconst, wC_ldc2, wC_ldc, wC_getstatic, wC_iadd, wC_isub, wC_imul, wC_iand, wC_ior, wC_ixor, wC_ishl, wC_ishr, wC_iushr, wC_ladd, wC_lmul, wC_land, wC_lcmp, wC_lshl, wC_lshr, wC_i2l, wC_i2b, wC_i2c, wC_popi, wC_popa, wC_dupi, wC_dupa, wC_dup2, wC_idiv, wC_irem, wC_ldiv, wC_lrem, wr_iload, wr_lload, wr_aload, wC_istore, wC_astore, wC_lstore, wr_iinc, wC_icmp_eq, wC_icmp_ne, wC_icmp_lt, wC_icmp_ge, wC_icmp_gt, wC_icmp_le, wC_ifc_eq, wC_ifc_ne, wC_ifc_lt, wC_ifc_ge, wC_ifc_gt, wC_ifc_le, wC_tab, wr_getf, wr_putf, wr_iaload, wr_baload, wr_laload, wr_iastore, wr_bastore, wr_lastore, wr_aaload, wr_alen, wC_slen, wC_sald, wC_new, wC_newa, wC_newq, wC_oinit, wC_math, wC_iret, wC_lret, wC_vret, wC_zret, wC_cret, wC_jsr, wi_c_, fx_low, List.map_cons, List.map_nil, List.sum_cons, List.sum_nil, fl_int, fl_ref, fl_ra, fl_long, decide_eq_true_eq, decide_true, kk_ltT, kk_ltF, kk_leT, kk_leF, kk_eqT, kk_eqF, kk_0T, kk_0F, kk_g0T, kk_g0F, kk_l0T, kk_l0F, kk_inT, kk_lt0, kk_ge0, kk_m1, kk_m1', kk_m1lt, kk_m1le, kk_m1ltF, kk_m1leT, kk_mm, kk_mm2, kk_mm3, kk_mm4, kk_mm5, kk_cl, kk_sub, kk_p1, kk_shl, kk_shr, kk_and, kk_or, kk_xor, kk_rem2, kk_div, kk_len, kk_z1, kk_ln, kk_i2l, lN_add, lN_mul, kk_tb, kk_b0, kk_b1, nI_add, pk_mul, va_up_ne', va_up_se, va_up_up, ne_eq, not_false_eq_true, not_true_eq_false, false_or, or_false, eq_self, Nat.reducePow, Nat.reduceSub, Nat.reduceBEq, Nat.one_mul, Nat.zero_add, Nat.add_zero, Nat.zero_mul, Nat.mul_zero, cn_m20, cn_m8, cn_m1, cn_0, cn_1, cn_2, cn_3, cn_4, cn_5, cn_6, cn_7, cn_8, cn_9, cn_10, cn_11, cn_12, cn_15, cn_16, cn_20, cn_24, cn_30, cn_31, cn_32, cn_33, cn_34, cn_35, cn_37, cn_40, cn_41, cn_42, cn_43, cn_44, cn_45, cn_47, cn_48, cn_57, cn_59, cn_60, cn_63, cn_91, cn_93, cn_96, cn_97, cn_99, cn_100, cn_122, cn_128, cn_150, cn_200, cn_255, cn_400, cn_560, cn_596, cn_600, cn_999, cn_1024, cn_1788, cn_4096, cn_8400, cn_9999, cn_10000, cn_12345, cn_32767, cn_999999, cn_252645135, cn_858993459, cn_1103515245, cn_1431655765, cn_2147483647, wK_v, wK_r, List.getElem?_cons_zero, List.getElem?_cons_succ, Int.reduceToNat, Nat.reduceDiv, Nat.reduceMod, Nat.reduceMul, Nat.reduceAdd, Nat.reduceLT, Nat.reduceLeDiff, Nat.reduceEqDiff, fx_set, fx_fix, fx_fit, List.length_cons, List.length_nil, List.set_cons_zero, List.set_cons_succ, and_true, true_and, if_true, if_false, ↓reduceIte, and_self, true_or, or_true, not_false_iff, not_true, wr_ii, wr_is, wr_iv, wg_i_, wg_l_, wg_a1, wg_a2, wg_o_, wg_n_, wg_f_, wg_s_, wg_I_, wg_L_, wg_A_, wg_si_, wg_sb_, wg_sl_, wg_m_, wg_c_, wg_t_, List.drop_succ_cons, List.drop_zero, List.take_succ_cons, List.take_zero, List.reverse_cons, List.reverse_nil, List.nil_append, List.cons_append]
      exact hx g' z k1 k2 (fun hz a c ha hc hpp => k3 hz a c ha hc ((hp a c).mpr hpp)) k4 _ _
    | succ j ih =>
      intro jj g' z v5 hj k1 k2 k3 k4
      have hp : ∀ a c, prd i (jj + 1) a c ↔ (prd i jj a c ∨ (a = i ∧ c = jj) ∨ (a = jj ∧ c = i)) := by intro a c; unfold prd; omega
      have e69 : va_up f 83 (ar_I 100 g') 69 = st_O (nI t.k) lf w1 w2 := by rw [va_up_ne' (by omega)]; exact h69
      have etb : st_tab (va_up f 83 (ar_I 100 g')) t fo := by
        obtain ⟨p, q, r⟩ := htb
        exact ⟨by rw [va_up_ne' (by omega)]; exact p, by rw [va_up_ne' (by omega)]; exact q, by rw [va_up_ne' (by omega)]; exact r⟩
      have e82 : va_up f 83 (ar_I 100 g') 82 = pa_O := by rw [va_up_ne' (by omega)]; exact h82
      have A := fun Q => sp_leadsTo (sc := sc) (d := d) (n := n) (cc := cc) (ss := ss) (Q := Q) (mk := nI 2) e69 etb e82 va_up_se tk (show i < 10 by omega) (show jj < 10 by omega)
      have B := fun Q => sp_allLead (sc := sc) (d := d) (n := n) (cc := cc) (ss := ss) (Q := Q) (mk := nI 1) e69 etb e82 va_up_se tk (show i < 10 by omega) (show jj < 10 by omega)
      have hs := fun a c ha hc => (k1 a c ha hc).1
      have sy : all4 (fun w => g' (stp t fo i w * 10 + stp t fo jj w) == nI 1) = all4 (fun w => g' (stp t fo jj w * 10 + stp t fo i w) == nI 1) := by
        rw [Bool.eq_iff_iff, all4_iff, all4_iff]
        constructor
        · intro q w hw
          rw [← (k1 _ _ (stp_lt (fo := fo) tk hi hw) (stp_lt (fo := fo) tk (show jj < t.k by omega) hw)).2]; exact q w hw
        · intro q w hw
          rw [(k1 _ _ (stp_lt (fo := fo) tk hi hw) (stp_lt (fo := fo) tk (show jj < t.k by omega) hw)).2]; exact q w hw
      have sy2 : any4 (fun w => g' (stp t fo i w * 10 + stp t fo jj w) == nI 2) = any4 (fun w => g' (stp t fo jj w * 10 + stp t fo i w) == nI 2) := by
        rw [Bool.eq_iff_iff, any4_iff, any4_iff]
        constructor
        · rintro ⟨w, hw, q⟩
          refine ⟨w, hw, ?_⟩
          rw [← (k1 _ _ (stp_lt (fo := fo) tk hi hw) (stp_lt (fo := fo) tk (show jj < t.k by omega) hw)).2]; exact q
        · rintro ⟨w, hw, q⟩
          refine ⟨w, hw, ?_⟩
          rw [(k1 _ _ (stp_lt (fo := fo) tk hi hw) (stp_lt (fo := fo) tk (show jj < t.k by omega) hw)).2]; exact q
      have keep : ∀ v5, dX t fo g' i jj → wC sc (d + 4) (pg_hd 130) cm_130 cb_130_10 [.ref 82, .ref 69, .int (nI z), .int (nI i), .int (nI (jj + 1)), v5] [] (n, cc, ss, va_up f 83 (ar_I 100 g')) Q := by
        intro v5 hnd
        refine ih (jj + 1) g' z _ (by omega) k1 k2 (fun hz a c ha hc hpp => ?_) k4
        rcases (hp a c).mp hpp with q | ⟨rfl, rfl⟩ | ⟨rfl, rfl⟩
        · exact k3 hz a c ha hc q
        · exact hnd
        · intro q
          rw [(k1 _ _ ha hc).2] at q
          rw [← sy, ← sy2]
          exact hnd q
      have put : ∀ v v5, g' (i * 10 + jj) = nI 0 → v ≠ nI 0 → (dsnd (fun c w => stp t fo c w) i jj v) → wC sc (d + 4) (pg_hd 130) cm_130 cb_130_10 [.ref 82, .ref 69, .int (nI 1), .int (nI i), .int (nI (jj + 1)), v5] [] (n, cc, ss, va_up f 83 (ar_I 100 (upd (upd g' (i * 10 + jj) v) (jj * 10 + i) v))) Q := by
        intro v v5 g0 hv0 hsd
        have hsd2 : dsnd (fun c w => stp t fo c w) jj i v := by
          rcases hsd with ⟨q1, m, q2⟩ | ⟨q1, m, q2⟩ | ⟨q1, q2⟩
          · exact Or.inl ⟨q1, m, by rw [dl2_sym]; exact q2⟩
          · exact Or.inr (Or.inl ⟨q1, m, by rw [dw1_sym]; exact q2⟩)
          · exact absurd q1 hv0
        have hval : ∀ a c, a < t.k → c < t.k → upd (upd g' (i * 10 + jj) v) (jj * 10 + i) v (a * 10 + c) = (if (a = i ∧ c = jj) ∨ (a = jj ∧ c = i) then v else g' (a * 10 + c)) := by
          intro a c ha hc
          by_cases q1 : a = jj ∧ c = i
          · obtain ⟨rfl, rfl⟩ := q1
            rw [pk_us, if_pos (Or.inr ⟨rfl, rfl⟩)]
          · rw [pk_un (by omega)]
            by_cases q2 : a = i ∧ c = jj
            · obtain ⟨rfl, rfl⟩ := q2
              rw [pk_us, if_pos (Or.inl ⟨rfl, rfl⟩)]
            · rw [pk_un (by omega), if_neg (fun q => q.elim q2 q1)]
        refine ih (jj + 1) _ 1 _ (by omega) (fun a c ha hc => ?_) (by omega) (fun hz => absurd hz (by omega)) ?_
        · rw [hval a c ha hc, hval c a hc ha]
          by_cases q : (a = i ∧ c = jj) ∨ (a = jj ∧ c = i)
          · rw [if_pos q, if_pos (by omega)]
            refine ⟨?_, rfl⟩
            rcases q with ⟨rfl, rfl⟩ | ⟨rfl, rfl⟩
            · exact hsd
            · exact hsd2
          · rw [if_neg q, if_neg (by omega)]
            exact k1 a c ha hc
        · have := nz0_set (g := g') (a := i) (c := jj) (v := v) (by omega) (by omega) g0 hv0
          omega
      unfold cb_130_10
      by_cases hm : g' (i * 10 + jj) = nI 0
      · have hne : i ≠ jj := by
          intro q
          subst q
          rcases hs i i hi hi with ⟨q1, _⟩ | ⟨q1, _⟩ | ⟨_, q2⟩
          · rw [q1] at hm; exact n012.2.1 hm.symm
          · rw [q1] at hm; exact n012.1 hm.symm
          · exact q2 rfl
        have hm2 : g' (jj * 10 + i) = nI 0 := by rw [← (k1 i jj hi (by omega)).2]; exact hm
        by_cases ha4 : any4 (fun w => g' (stp t fo i w * 10 + stp t fo jj w) == nI 2) = true
        · rw [ha4] at A
          have hw := d_win (F := fun c w => stp t fo c w) (V := fun a c => g' (a * 10 + c)) hFk hs hi (show jj < t.k by omega) hne ha4
          have fin := put (nI 1) (.int (nI 1)) hm (fun q => n012.1 q.symm) (Or.inr (Or.inl ⟨rfl, hw⟩))
          rcases (show z = 0 ∨ z = 1 by omega) with rfl | rfl
          · simp (disch := omega) only [cb_130_0, cb_130_8, cb_130_13, cb_130_18, cb_130_31, cb_130_33, cb_130_35, cb_130_36, cb_130_37, cb_130_41, jb_130_4, jb_130_8, jb_130_10, jb_130_13, jb_130_18, jb_130_31, jb_130_33, jb_130_35, jb_130_36, jb_130_37, jb_130_39, jb_130_41, cb_120_0, cb_120_8, cb_120_13, cb_120_18, cb_120_19, jb_120_8, jb_120_13, jb_120_18, jb_120_19, ei_120, wt_120, cb_121_0, ei_121, wt_121, cb_122_0, cb_122_8, cb_122_13, cb_122_18, jb_122_8, jb_122_13, jb_122_18, ei_122, wt_122, cb_131_0, cb_131_7, cb_131_9, cb_131_16, cb_131_18, cb_131_19, jb_131_7, jb_131_9, jb_131_16, jb_131_18, jb_131_19, ei_131, wt_131, wC_goto, wC_iconst, wC_ldc2, wC_ldc, wC_getstatic, wC_iadd, wC_isub, wC_imul, wC_iand, wC_ior, wC_ixor, wC_ishl, wC_ishr, wC_iushr, wC_ladd, wC_lmul, wC_land, wC_lcmp, wC_lshl, wC_lshr, wC_i2l, wC_i2b, wC_i2c, wC_popi, wC_popa, wC_dupi, wC_dupa, wC_dup2, wC_idiv, wC_irem, wC_ldiv, wC_lrem, wr_iload, wr_lload, wr_aload, wC_istore, wC_astore, wC_lstore, wr_iinc, wC_icmp_eq, wC_icmp_ne, wC_icmp_lt, wC_icmp_ge, wC_icmp_gt, wC_icmp_le, wC_ifc_eq, wC_ifc_ne, wC_ifc_lt, wC_ifc_ge, wC_ifc_gt, wC_ifc_le, wC_tab, wr_getf, wr_putf, wr_iaload, wr_baload, wr_laload, wr_iastore, wr_bastore, wr_lastore, wr_aaload, wr_alen, wC_slen, wC_sald, wC_new, wC_newa, wC_newq, wC_oinit, wC_math, wC_iret, wC_lret, wC_vret, wC_zret, wC_cret, wC_jsr, wi_c_, fx_low, List.map_cons, List.map_nil, List.sum_cons, List.sum_nil, fl_int, fl_ref, fl_ra, fl_long, decide_eq_true_eq, decide_true, kk_ltT, kk_ltF, kk_leT, kk_leF, kk_eqT, kk_eqF, kk_0T, kk_0F, kk_g0T, kk_g0F, kk_l0T, kk_l0F, kk_inT, kk_lt0, kk_ge0, kk_m1, kk_m1', kk_m1lt, kk_m1le, kk_m1ltF, kk_m1leT, kk_mm, kk_mm2, kk_mm3, kk_mm4, kk_mm5, kk_cl, kk_sub, kk_p1, kk_shl, kk_shr, kk_and, kk_or, kk_xor, kk_rem2, kk_div, kk_len, kk_z1, kk_ln, kk_i2l, lN_add, lN_mul, kk_tb, kk_b0, kk_b1, nI_add, pk_mul, va_up_ne', va_up_se, va_up_up, ne_eq, not_false_eq_true, not_true_eq_false, false_or, or_false, eq_self, Nat.reducePow, Nat.reduceSub, Nat.reduceBEq, Nat.one_mul, Nat.zero_add, Nat.add_zero, Nat.zero_mul, Nat.mul_zero, cn_m20, cn_m8, cn_m1, cn_0, cn_1, cn_2, cn_3, cn_4, cn_5, cn_6, cn_7, cn_8, cn_9, cn_10, cn_11, cn_12, cn_15, cn_16, cn_20, cn_24, cn_30, cn_31, cn_32, cn_33, cn_34, cn_35, cn_37, cn_40, cn_41, cn_42, cn_43, cn_44, cn_45, cn_47, cn_48, cn_57, cn_59, cn_60, cn_63, cn_91, cn_93, cn_96, cn_97, cn_99, cn_100, cn_122, cn_128, cn_150, cn_200, cn_255, cn_400, cn_560, cn_596, cn_600, cn_999, cn_1024, cn_1788, cn_4096, cn_8400, cn_9999, cn_10000, cn_12345, cn_32767, cn_999999, cn_252645135, cn_858993459, cn_1103515245, cn_1431655765, cn_2147483647, wK_v, wK_r, List.getElem?_cons_zero, List.getElem?_cons_succ, Int.reduceToNat, Nat.reduceDiv, Nat.reduceMod, Nat.reduceMul, Nat.reduceAdd, Nat.reduceLT, Nat.reduceLeDiff, Nat.reduceEqDiff, fx_set, fx_fix, fx_fit, List.length_cons, List.length_nil, List.set_cons_zero, List.set_cons_succ, and_true, true_and, if_true, if_false, ↓reduceIte, and_self, true_or, or_true, not_false_iff, not_true, wr_ii, wr_is, wr_iv, wg_i_, wg_l_, wg_a1, wg_a2, wg_o_, wg_n_, wg_f_, wg_s_, wg_I_, wg_L_, wg_A_, wg_si_, wg_sb_, wg_sl_, wg_m_, wg_c_, wg_t_, List.drop_succ_cons, List.drop_zero, List.take_succ_cons, List.take_zero, List.reverse_cons, List.reverse_nil, List.nil_append, List.cons_append, h82, hm, A, Bool.toNat_true]
            exact fin
          · simp (disch := omega) only [cb_130_0, cb_130_8, cb_130_13, cb_130_18, cb_130_31, cb_130_33, cb_130_35, cb_130_36, cb_130_37, cb_130_41, jb_130_4, jb_130_8, jb_130_10, jb_130_13, jb_130_18, jb_130_31, jb_130_33, jb_130_35, jb_130_36, jb_130_37, jb_130_39, jb_130_41, cb_120_0, cb_120_8, cb_120_13, cb_120_18, cb_120_19, jb_120_8, jb_120_13, jb_120_18, jb_120_19, ei_120, wt_120, cb_121_0, ei_121, wt_121, cb_122_0, cb_122_8, cb_122_13, cb_122_18, jb_122_8, jb_122_13, jb_122_18, ei_122, wt_122, cb_131_0, cb_131_7, cb_131_9, cb_131_16, cb_131_18, cb_131_19, jb_131_7, jb_131_9, jb_131_16, jb_131_18, jb_131_19, ei_131, wt_131, wC_goto, wC_iconst, wC_ldc2, wC_ldc, wC_getstatic, wC_iadd, wC_isub, wC_imul, wC_iand, wC_ior, wC_ixor, wC_ishl, wC_ishr, wC_iushr, wC_ladd, wC_lmul, wC_land, wC_lcmp, wC_lshl, wC_lshr, wC_i2l, wC_i2b, wC_i2c, wC_popi, wC_popa, wC_dupi, wC_dupa, wC_dup2, wC_idiv, wC_irem, wC_ldiv, wC_lrem, wr_iload, wr_lload, wr_aload, wC_istore, wC_astore, wC_lstore, wr_iinc, wC_icmp_eq, wC_icmp_ne, wC_icmp_lt, wC_icmp_ge, wC_icmp_gt, wC_icmp_le, wC_ifc_eq, wC_ifc_ne, wC_ifc_lt, wC_ifc_ge, wC_ifc_gt, wC_ifc_le, wC_tab, wr_getf, wr_putf, wr_iaload, wr_baload, wr_laload, wr_iastore, wr_bastore, wr_lastore, wr_aaload, wr_alen, wC_slen, wC_sald, wC_new, wC_newa, wC_newq, wC_oinit, wC_math, wC_iret, wC_lret, wC_vret, wC_zret, wC_cret, wC_jsr, wi_c_, fx_low, List.map_cons, List.map_nil, List.sum_cons, List.sum_nil, fl_int, fl_ref, fl_ra, fl_long, decide_eq_true_eq, decide_true, kk_ltT, kk_ltF, kk_leT, kk_leF, kk_eqT, kk_eqF, kk_0T, kk_0F, kk_g0T, kk_g0F, kk_l0T, kk_l0F, kk_inT, kk_lt0, kk_ge0, kk_m1, kk_m1', kk_m1lt, kk_m1le, kk_m1ltF, kk_m1leT, kk_mm, kk_mm2, kk_mm3, kk_mm4, kk_mm5, kk_cl, kk_sub, kk_p1, kk_shl, kk_shr, kk_and, kk_or, kk_xor, kk_rem2, kk_div, kk_len, kk_z1, kk_ln, kk_i2l, lN_add, lN_mul, kk_tb, kk_b0, kk_b1, nI_add, pk_mul, va_up_ne', va_up_se, va_up_up, ne_eq, not_false_eq_true, not_true_eq_false, false_or, or_false, eq_self, Nat.reducePow, Nat.reduceSub, Nat.reduceBEq, Nat.one_mul, Nat.zero_add, Nat.add_zero, Nat.zero_mul, Nat.mul_zero, cn_m20, cn_m8, cn_m1, cn_0, cn_1, cn_2, cn_3, cn_4, cn_5, cn_6, cn_7, cn_8, cn_9, cn_10, cn_11, cn_12, cn_15, cn_16, cn_20, cn_24, cn_30, cn_31, cn_32, cn_33, cn_34, cn_35, cn_37, cn_40, cn_41, cn_42, cn_43, cn_44, cn_45, cn_47, cn_48, cn_57, cn_59, cn_60, cn_63, cn_91, cn_93, cn_96, cn_97, cn_99, cn_100, cn_122, cn_128, cn_150, cn_200, cn_255, cn_400, cn_560, cn_596, cn_600, cn_999, cn_1024, cn_1788, cn_4096, cn_8400, cn_9999, cn_10000, cn_12345, cn_32767, cn_999999, cn_252645135, cn_858993459, cn_1103515245, cn_1431655765, cn_2147483647, wK_v, wK_r, List.getElem?_cons_zero, List.getElem?_cons_succ, Int.reduceToNat, Nat.reduceDiv, Nat.reduceMod, Nat.reduceMul, Nat.reduceAdd, Nat.reduceLT, Nat.reduceLeDiff, Nat.reduceEqDiff, fx_set, fx_fix, fx_fit, List.length_cons, List.length_nil, List.set_cons_zero, List.set_cons_succ, and_true, true_and, if_true, if_false, ↓reduceIte, and_self, true_or, or_true, not_false_iff, not_true, wr_ii, wr_is, wr_iv, wg_i_, wg_l_, wg_a1, wg_a2, wg_o_, wg_n_, wg_f_, wg_s_, wg_I_, wg_L_, wg_A_, wg_si_, wg_sb_, wg_sl_, wg_m_, wg_c_, wg_t_, List.drop_succ_cons, List.drop_zero, List.take_succ_cons, List.take_zero, List.reverse_cons, List.reverse_nil, List.nil_append, List.cons_append, h82, hm, A, Bool.toNat_true]
            exact fin
        · rw [Bool.not_eq_true] at ha4
          rw [ha4] at A
          by_cases hb4 : all4 (fun w => g' (stp t fo i w * 10 + stp t fo jj w) == nI 1) = true
          · rw [hb4] at B
            have hw := d_lose (F := fun c w => stp t fo c w) (V := fun a c => g' (a * 10 + c)) hFk hs hi (show jj < t.k by omega) hb4
            have fin := put (nI 2) (.int (nI 2)) hm (fun q => n012.2.1 q.symm) (Or.inl ⟨rfl, hw⟩)
            rcases (show z = 0 ∨ z = 1 by omega) with rfl | rfl
            · simp (disch := omega) only [cb_130_0, cb_130_8, cb_130_13, cb_130_18, cb_130_31, cb_130_33, cb_130_35, cb_130_36, cb_130_37, cb_130_41, jb_130_4, jb_130_8, jb_130_10, jb_130_13, jb_130_18, jb_130_31, jb_130_33, jb_130_35, jb_130_36, jb_130_37, jb_130_39, jb_130_41, cb_120_0, cb_120_8, cb_120_13, cb_120_18, cb_120_19, jb_120_8, jb_120_13, jb_120_18, jb_120_19, ei_120, wt_120, cb_121_0, ei_121, wt_121, cb_122_0, cb_122_8, cb_122_13, cb_122_18, jb_122_8, jb_122_13, jb_122_18, ei_122, wt_122, cb_131_0, cb_131_7, cb_131_9, cb_131_16, cb_131_18, cb_131_19, jb_131_7, jb_131_9, jb_131_16, jb_131_18, jb_131_19, ei_131, wt_131, wC_goto, wC_iconst, wC_ldc2, wC_ldc, wC_getstatic, wC_iadd, wC_isub, wC_imul, wC_iand, wC_ior, wC_ixor, wC_ishl, wC_ishr, wC_iushr, wC_ladd, wC_lmul, wC_land, wC_lcmp, wC_lshl, wC_lshr, wC_i2l, wC_i2b, wC_i2c, wC_popi, wC_popa, wC_dupi, wC_dupa, wC_dup2, wC_idiv, wC_irem, wC_ldiv, wC_lrem, wr_iload, wr_lload, wr_aload, wC_istore, wC_astore, wC_lstore, wr_iinc, wC_icmp_eq, wC_icmp_ne, wC_icmp_lt, wC_icmp_ge, wC_icmp_gt, wC_icmp_le, wC_ifc_eq, wC_ifc_ne, wC_ifc_lt, wC_ifc_ge, wC_ifc_gt, wC_ifc_le, wC_tab, wr_getf, wr_putf, wr_iaload, wr_baload, wr_laload, wr_iastore, wr_bastore, wr_lastore, wr_aaload, wr_alen, wC_slen, wC_sald, wC_new, wC_newa, wC_newq, wC_oinit, wC_math, wC_iret, wC_lret, wC_vret, wC_zret, wC_cret, wC_jsr, wi_c_, fx_low, List.map_cons, List.map_nil, List.sum_cons, List.sum_nil, fl_int, fl_ref, fl_ra, fl_long, decide_eq_true_eq, decide_true, kk_ltT, kk_ltF, kk_leT, kk_leF, kk_eqT, kk_eqF, kk_0T, kk_0F, kk_g0T, kk_g0F, kk_l0T, kk_l0F, kk_inT, kk_lt0, kk_ge0, kk_m1, kk_m1', kk_m1lt, kk_m1le, kk_m1ltF, kk_m1leT, kk_mm, kk_mm2, kk_mm3, kk_mm4, kk_mm5, kk_cl, kk_sub, kk_p1, kk_shl, kk_shr, kk_and, kk_or, kk_xor, kk_rem2, kk_div, kk_len, kk_z1, kk_ln, kk_i2l, lN_add, lN_mul, kk_tb, kk_b0, kk_b1, nI_add, pk_mul, va_up_ne', va_up_se, va_up_up, ne_eq, not_false_eq_true, not_true_eq_false, false_or, or_false, eq_self, Nat.reducePow, Nat.reduceSub, Nat.reduceBEq, Nat.one_mul, Nat.zero_add, Nat.add_zero, Nat.zero_mul, Nat.mul_zero, cn_m20, cn_m8, cn_m1, cn_0, cn_1, cn_2, cn_3, cn_4, cn_5, cn_6, cn_7, cn_8, cn_9, cn_10, cn_11, cn_12, cn_15, cn_16, cn_20, cn_24, cn_30, cn_31, cn_32, cn_33, cn_34, cn_35, cn_37, cn_40, cn_41, cn_42, cn_43, cn_44, cn_45, cn_47, cn_48, cn_57, cn_59, cn_60, cn_63, cn_91, cn_93, cn_96, cn_97, cn_99, cn_100, cn_122, cn_128, cn_150, cn_200, cn_255, cn_400, cn_560, cn_596, cn_600, cn_999, cn_1024, cn_1788, cn_4096, cn_8400, cn_9999, cn_10000, cn_12345, cn_32767, cn_999999, cn_252645135, cn_858993459, cn_1103515245, cn_1431655765, cn_2147483647, wK_v, wK_r, List.getElem?_cons_zero, List.getElem?_cons_succ, Int.reduceToNat, Nat.reduceDiv, Nat.reduceMod, Nat.reduceMul, Nat.reduceAdd, Nat.reduceLT, Nat.reduceLeDiff, Nat.reduceEqDiff, fx_set, fx_fix, fx_fit, List.length_cons, List.length_nil, List.set_cons_zero, List.set_cons_succ, and_true, true_and, if_true, if_false, ↓reduceIte, and_self, true_or, or_true, not_false_iff, not_true, wr_ii, wr_is, wr_iv, wg_i_, wg_l_, wg_a1, wg_a2, wg_o_, wg_n_, wg_f_, wg_s_, wg_I_, wg_L_, wg_A_, wg_si_, wg_sb_, wg_sl_, wg_m_, wg_c_, wg_t_, List.drop_succ_cons, List.drop_zero, List.take_succ_cons, List.take_zero, List.reverse_cons, List.reverse_nil, List.nil_append, List.cons_append, h82, hm, A, B, Bool.toNat_true, Bool.toNat_false]
              exact fin
            · simp (disch := omega) only [cb_130_0, cb_130_8, cb_130_13, cb_130_18, cb_130_31, cb_130_33, cb_130_35, cb_130_36, cb_130_37, cb_130_41, jb_130_4, jb_130_8, jb_130_10, jb_130_13, jb_130_18, jb_130_31, jb_130_33, jb_130_35, jb_130_36, jb_130_37, jb_130_39, jb_130_41, cb_120_0, cb_120_8, cb_120_13, cb_120_18, cb_120_19, jb_120_8, jb_120_13, jb_120_18, jb_120_19, ei_120, wt_120, cb_121_0, ei_121, wt_121, cb_122_0, cb_122_8, cb_122_13, cb_122_18, jb_122_8, jb_122_13, jb_122_18, ei_122, wt_122, cb_131_0, cb_131_7, cb_131_9, cb_131_16, cb_131_18, cb_131_19, jb_131_7, jb_131_9, jb_131_16, jb_131_18, jb_131_19, ei_131, wt_131, wC_goto, wC_iconst, wC_ldc2, wC_ldc, wC_getstatic, wC_iadd, wC_isub, wC_imul, wC_iand, wC_ior, wC_ixor, wC_ishl, wC_ishr, wC_iushr, wC_ladd, wC_lmul, wC_land, wC_lcmp, wC_lshl, wC_lshr, wC_i2l, wC_i2b, wC_i2c, wC_popi, wC_popa, wC_dupi, wC_dupa, wC_dup2, wC_idiv, wC_irem, wC_ldiv, wC_lrem, wr_iload, wr_lload, wr_aload, wC_istore, wC_astore, wC_lstore, wr_iinc, wC_icmp_eq, wC_icmp_ne, wC_icmp_lt, wC_icmp_ge, wC_icmp_gt, wC_icmp_le, wC_ifc_eq, wC_ifc_ne, wC_ifc_lt, wC_ifc_ge, wC_ifc_gt, wC_ifc_le, wC_tab, wr_getf, wr_putf, wr_iaload, wr_baload, wr_laload, wr_iastore, wr_bastore, wr_lastore, wr_aaload, wr_alen, wC_slen, wC_sald, wC_new, wC_newa, wC_newq, wC_oinit, wC_math, wC_iret, wC_lret, wC_vret, wC_zret, wC_cret, wC_jsr, wi_c_, fx_low, List.map_cons, List.map_nil, List.sum_cons, List.sum_nil, fl_int, fl_ref, fl_ra, fl_long, decide_eq_true_eq, decide_true, kk_ltT, kk_ltF, kk_leT, kk_leF, kk_eqT, kk_eqF, kk_0T, kk_0F, kk_g0T, kk_g0F, kk_l0T, kk_l0F, kk_inT, kk_lt0, kk_ge0, kk_m1, kk_m1', kk_m1lt, kk_m1le, kk_m1ltF, kk_m1leT, kk_mm, kk_mm2, kk_mm3, kk_mm4, kk_mm5, kk_cl, kk_sub, kk_p1, kk_shl, kk_shr, kk_and, kk_or, kk_xor, kk_rem2, kk_div, kk_len, kk_z1, kk_ln, kk_i2l, lN_add, lN_mul, kk_tb, kk_b0, kk_b1, nI_add, pk_mul, va_up_ne', va_up_se, va_up_up, ne_eq, not_false_eq_true, not_true_eq_false, false_or, or_false, eq_self, Nat.reducePow, Nat.reduceSub, Nat.reduceBEq, Nat.one_mul, Nat.zero_add, Nat.add_zero, Nat.zero_mul, Nat.mul_zero, cn_m20, cn_m8, cn_m1, cn_0, cn_1, cn_2, cn_3, cn_4, cn_5, cn_6, cn_7, cn_8, cn_9, cn_10, cn_11, cn_12, cn_15, cn_16, cn_20, cn_24, cn_30, cn_31, cn_32, cn_33, cn_34, cn_35, cn_37, cn_40, cn_41, cn_42, cn_43, cn_44, cn_45, cn_47, cn_48, cn_57, cn_59, cn_60, cn_63, cn_91, cn_93, cn_96, cn_97, cn_99, cn_100, cn_122, cn_128, cn_150, cn_200, cn_255, cn_400, cn_560, cn_596, cn_600, cn_999, cn_1024, cn_1788, cn_4096, cn_8400, cn_9999, cn_10000, cn_12345, cn_32767, cn_999999, cn_252645135, cn_858993459, cn_1103515245, cn_1431655765, cn_2147483647, wK_v, wK_r, List.getElem?_cons_zero, List.getElem?_cons_succ, Int.reduceToNat, Nat.reduceDiv, Nat.reduceMod, Nat.reduceMul, Nat.reduceAdd, Nat.reduceLT, Nat.reduceLeDiff, Nat.reduceEqDiff, fx_set, fx_fix, fx_fit, List.length_cons, List.length_nil, List.set_cons_zero, List.set_cons_succ, and_true, true_and, if_true, if_false, ↓reduceIte, and_self, true_or, or_true, not_false_iff, not_true, wr_ii, wr_is, wr_iv, wg_i_, wg_l_, wg_a1, wg_a2, wg_o_, wg_n_, wg_f_, wg_s_, wg_I_, wg_L_, wg_A_, wg_si_, wg_sb_, wg_sl_, wg_m_, wg_c_, wg_t_, List.drop_succ_cons, List.drop_zero, List.take_succ_cons, List.take_zero, List.reverse_cons, List.reverse_nil, List.nil_append, List.cons_append, h82, hm, A, B, Bool.toNat_true, Bool.toNat_false]
              exact fin
          · rw [Bool.not_eq_true] at hb4
            rw [hb4] at B
            have fin := keep (.int (nI 0)) (fun _ => ⟨ha4, hb4⟩)
            have e1 : upd (upd g' (i * 10 + jj) (nI 0)) (jj * 10 + i) (nI 0) = g' := by rw [upd_id hm, upd_id hm2]
            rcases (show z = 0 ∨ z = 1 by omega) with rfl | rfl
            · simp (disch := omega) only [cb_130_0, cb_130_8, cb_130_13, cb_130_18, cb_130_31, cb_130_33, cb_130_35, cb_130_36, cb_130_37, cb_130_41, jb_130_4, jb_130_8, jb_130_10, jb_130_13, jb_130_18, jb_130_31, jb_130_33, jb_130_35, jb_130_36, jb_130_37, jb_130_39, jb_130_41, cb_120_0, cb_120_8, cb_120_13, cb_120_18, cb_120_19, jb_120_8, jb_120_13, jb_120_18, jb_120_19, ei_120, wt_120, cb_121_0, ei_121, wt_121, cb_122_0, cb_122_8, cb_122_13, cb_122_18, jb_122_8, jb_122_13, jb_122_18, ei_122, wt_122, cb_131_0, cb_131_7, cb_131_9, cb_131_16, cb_131_18, cb_131_19, jb_131_7, jb_131_9, jb_131_16, jb_131_18, jb_131_19, ei_131, wt_131, wC_goto, wC_iconst, wC_ldc2, wC_ldc, wC_getstatic, wC_iadd, wC_isub, wC_imul, wC_iand, wC_ior, wC_ixor, wC_ishl, wC_ishr, wC_iushr, wC_ladd, wC_lmul, wC_land, wC_lcmp, wC_lshl, wC_lshr, wC_i2l, wC_i2b, wC_i2c, wC_popi, wC_popa, wC_dupi, wC_dupa, wC_dup2, wC_idiv, wC_irem, wC_ldiv, wC_lrem, wr_iload, wr_lload, wr_aload, wC_istore, wC_astore, wC_lstore, wr_iinc, wC_icmp_eq, wC_icmp_ne, wC_icmp_lt, wC_icmp_ge, wC_icmp_gt, wC_icmp_le, wC_ifc_eq, wC_ifc_ne, wC_ifc_lt, wC_ifc_ge, wC_ifc_gt, wC_ifc_le, wC_tab, wr_getf, wr_putf, wr_iaload, wr_baload, wr_laload, wr_iastore, wr_bastore, wr_lastore, wr_aaload, wr_alen, wC_slen, wC_sald, wC_new, wC_newa, wC_newq, wC_oinit, wC_math, wC_iret, wC_lret, wC_vret, wC_zret, wC_cret, wC_jsr, wi_c_, fx_low, List.map_cons, List.map_nil, List.sum_cons, List.sum_nil, fl_int, fl_ref, fl_ra, fl_long, decide_eq_true_eq, decide_true, kk_ltT, kk_ltF, kk_leT, kk_leF, kk_eqT, kk_eqF, kk_0T, kk_0F, kk_g0T, kk_g0F, kk_l0T, kk_l0F, kk_inT, kk_lt0, kk_ge0, kk_m1, kk_m1', kk_m1lt, kk_m1le, kk_m1ltF, kk_m1leT, kk_mm, kk_mm2, kk_mm3, kk_mm4, kk_mm5, kk_cl, kk_sub, kk_p1, kk_shl, kk_shr, kk_and, kk_or, kk_xor, kk_rem2, kk_div, kk_len, kk_z1, kk_ln, kk_i2l, lN_add, lN_mul, kk_tb, kk_b0, kk_b1, nI_add, pk_mul, va_up_ne', va_up_se, va_up_up, ne_eq, not_false_eq_true, not_true_eq_false, false_or, or_false, eq_self, Nat.reducePow, Nat.reduceSub, Nat.reduceBEq, Nat.one_mul, Nat.zero_add, Nat.add_zero, Nat.zero_mul, Nat.mul_zero, cn_m20, cn_m8, cn_m1, cn_0, cn_1, cn_2, cn_3, cn_4, cn_5, cn_6, cn_7, cn_8, cn_9, cn_10, cn_11, cn_12, cn_15, cn_16, cn_20, cn_24, cn_30, cn_31, cn_32, cn_33, cn_34, cn_35, cn_37, cn_40, cn_41, cn_42, cn_43, cn_44, cn_45, cn_47, cn_48, cn_57, cn_59, cn_60, cn_63, cn_91, cn_93, cn_96, cn_97, cn_99, cn_100, cn_122, cn_128, cn_150, cn_200, cn_255, cn_400, cn_560, cn_596, cn_600, cn_999, cn_1024, cn_1788, cn_4096, cn_8400, cn_9999, cn_10000, cn_12345, cn_32767, cn_999999, cn_252645135, cn_858993459, cn_1103515245, cn_1431655765, cn_2147483647, wK_v, wK_r, List.getElem?_cons_zero, List.getElem?_cons_succ, Int.reduceToNat, Nat.reduceDiv, Nat.reduceMod, Nat.reduceMul, Nat.reduceAdd, Nat.reduceLT, Nat.reduceLeDiff, Nat.reduceEqDiff, fx_set, fx_fix, fx_fit, List.length_cons, List.length_nil, List.set_cons_zero, List.set_cons_succ, and_true, true_and, if_true, if_false, ↓reduceIte, and_self, true_or, or_true, not_false_iff, not_true, wr_ii, wr_is, wr_iv, wg_i_, wg_l_, wg_a1, wg_a2, wg_o_, wg_n_, wg_f_, wg_s_, wg_I_, wg_L_, wg_A_, wg_si_, wg_sb_, wg_sl_, wg_m_, wg_c_, wg_t_, List.drop_succ_cons, List.drop_zero, List.take_succ_cons, List.take_zero, List.reverse_cons, List.reverse_nil, List.nil_append, List.cons_append, h82, hm, A, B, Bool.toNat_false, e1]
              exact fin
            · simp (disch := omega) only [cb_130_0, cb_130_8, cb_130_13, cb_130_18, cb_130_31, cb_130_33, cb_130_35, cb_130_36, cb_130_37, cb_130_41, jb_130_4, jb_130_8, jb_130_10, jb_130_13, jb_130_18, jb_130_31, jb_130_33, jb_130_35, jb_130_36, jb_130_37, jb_130_39, jb_130_41, cb_120_0, cb_120_8, cb_120_13, cb_120_18, cb_120_19, jb_120_8, jb_120_13, jb_120_18, jb_120_19, ei_120, wt_120, cb_121_0, ei_121, wt_121, cb_122_0, cb_122_8, cb_122_13, cb_122_18, jb_122_8, jb_122_13, jb_122_18, ei_122, wt_122, cb_131_0, cb_131_7, cb_131_9, cb_131_16, cb_131_18, cb_131_19, jb_131_7, jb_131_9, jb_131_16, jb_131_18, jb_131_19, ei_131, wt_131, wC_goto, wC_iconst, wC_ldc2, wC_ldc, wC_getstatic, wC_iadd, wC_isub, wC_imul, wC_iand, wC_ior, wC_ixor, wC_ishl, wC_ishr, wC_iushr, wC_ladd, wC_lmul, wC_land, wC_lcmp, wC_lshl, wC_lshr, wC_i2l, wC_i2b, wC_i2c, wC_popi, wC_popa, wC_dupi, wC_dupa, wC_dup2, wC_idiv, wC_irem, wC_ldiv, wC_lrem, wr_iload, wr_lload, wr_aload, wC_istore, wC_astore, wC_lstore, wr_iinc, wC_icmp_eq, wC_icmp_ne, wC_icmp_lt, wC_icmp_ge, wC_icmp_gt, wC_icmp_le, wC_ifc_eq, wC_ifc_ne, wC_ifc_lt, wC_ifc_ge, wC_ifc_gt, wC_ifc_le, wC_tab, wr_getf, wr_putf, wr_iaload, wr_baload, wr_laload, wr_iastore, wr_bastore, wr_lastore, wr_aaload, wr_alen, wC_slen, wC_sald, wC_new, wC_newa, wC_newq, wC_oinit, wC_math, wC_iret, wC_lret, wC_vret, wC_zret, wC_cret, wC_jsr, wi_c_, fx_low, List.map_cons, List.map_nil, List.sum_cons, List.sum_nil, fl_int, fl_ref, fl_ra, fl_long, decide_eq_true_eq, decide_true, kk_ltT, kk_ltF, kk_leT, kk_leF, kk_eqT, kk_eqF, kk_0T, kk_0F, kk_g0T, kk_g0F, kk_l0T, kk_l0F, kk_inT, kk_lt0, kk_ge0, kk_m1, kk_m1', kk_m1lt, kk_m1le, kk_m1ltF, kk_m1leT, kk_mm, kk_mm2, kk_mm3, kk_mm4, kk_mm5, kk_cl, kk_sub, kk_p1, kk_shl, kk_shr, kk_and, kk_or, kk_xor, kk_rem2, kk_div, kk_len, kk_z1, kk_ln, kk_i2l, lN_add, lN_mul, kk_tb, kk_b0, kk_b1, nI_add, pk_mul, va_up_ne', va_up_se, va_up_up, ne_eq, not_false_eq_true, not_true_eq_false, false_or, or_false, eq_self, Nat.reducePow, Nat.reduceSub, Nat.reduceBEq, Nat.one_mul, Nat.zero_add, Nat.add_zero, Nat.zero_mul, Nat.mul_zero, cn_m20, cn_m8, cn_m1, cn_0, cn_1, cn_2, cn_3, cn_4, cn_5, cn_6, cn_7, cn_8, cn_9, cn_10, cn_11, cn_12, cn_15, cn_16, cn_20, cn_24, cn_30, cn_31, cn_32, cn_33, cn_34, cn_35, cn_37, cn_40, cn_41, cn_42, cn_43, cn_44, cn_45, cn_47, cn_48, cn_57, cn_59, cn_60, cn_63, cn_91, cn_93, cn_96, cn_97, cn_99, cn_100, cn_122, cn_128, cn_150, cn_200, cn_255, cn_400, cn_560, cn_596, cn_600, cn_999, cn_1024, cn_1788, cn_4096, cn_8400, cn_9999, cn_10000, cn_12345, cn_32767, cn_999999, cn_252645135, cn_858993459, cn_1103515245, cn_1431655765, cn_2147483647, wK_v, wK_r, List.getElem?_cons_zero, List.getElem?_cons_succ, Int.reduceToNat, Nat.reduceDiv, Nat.reduceMod, Nat.reduceMul, Nat.reduceAdd, Nat.reduceLT, Nat.reduceLeDiff, Nat.reduceEqDiff, fx_set, fx_fix, fx_fit, List.length_cons, List.length_nil, List.set_cons_zero, List.set_cons_succ, and_true, true_and, if_true, if_false, ↓reduceIte, and_self, true_or, or_true, not_false_iff, not_true, wr_ii, wr_is, wr_iv, wg_i_, wg_l_, wg_a1, wg_a2, wg_o_, wg_n_, wg_f_, wg_s_, wg_I_, wg_L_, wg_A_, wg_si_, wg_sb_, wg_sl_, wg_m_, wg_c_, wg_t_, List.drop_succ_cons, List.drop_zero, List.take_succ_cons, List.take_zero, List.reverse_cons, List.reverse_nil, List.nil_append, List.cons_append, h82, hm, A, B, Bool.toNat_false, e1]
              exact fin
      · have hm0 : ¬ g' (i * 10 + jj) = 0 := hm
        simp (disch := omega) only [cb_130_0, cb_130_8, cb_130_13, cb_130_18, cb_130_31, cb_130_33, cb_130_35, cb_130_36, cb_130_37, cb_130_41, jb_130_4, jb_130_8, jb_130_10, jb_130_13, jb_130_18, jb_130_31, jb_130_33, jb_130_35, jb_130_36, jb_130_37, jb_130_39, jb_130_41, cb_120_0, cb_120_8, cb_120_13, cb_120_18, cb_120_19, jb_120_8, jb_120_13, jb_120_18, jb_120_19, ei_120, wt_120, cb_121_0, ei_121, wt_121, cb_122_0, cb_122_8, cb_122_13, cb_122_18, jb_122_8, jb_122_13, jb_122_18, ei_122, wt_122, cb_131_0, cb_131_7, cb_131_9, cb_131_16, cb_131_18, cb_131_19, jb_131_7, jb_131_9, jb_131_16, jb_131_18, jb_131_19, ei_131, wt_131, wC_goto, wC_iconst, wC_ldc2, wC_ldc, wC_getstatic, wC_iadd, wC_isub, wC_imul, wC_iand, wC_ior, wC_ixor, wC_ishl, wC_ishr, wC_iushr, wC_ladd, wC_lmul, wC_land, wC_lcmp, wC_lshl, wC_lshr, wC_i2l, wC_i2b, wC_i2c, wC_popi, wC_popa, wC_dupi, wC_dupa, wC_dup2, wC_idiv, wC_irem, wC_ldiv, wC_lrem, wr_iload, wr_lload, wr_aload, wC_istore, wC_astore, wC_lstore, wr_iinc, wC_icmp_eq, wC_icmp_ne, wC_icmp_lt, wC_icmp_ge, wC_icmp_gt, wC_icmp_le, wC_ifc_eq, wC_ifc_ne, wC_ifc_lt, wC_ifc_ge, wC_ifc_gt, wC_ifc_le, wC_tab, wr_getf, wr_putf, wr_iaload, wr_baload, wr_laload, wr_iastore, wr_bastore, wr_lastore, wr_aaload, wr_alen, wC_slen, wC_sald, wC_new, wC_newa, wC_newq, wC_oinit, wC_math, wC_iret, wC_lret, wC_vret, wC_zret, wC_cret, wC_jsr, wi_c_, fx_low, List.map_cons, List.map_nil, List.sum_cons, List.sum_nil, fl_int, fl_ref, fl_ra, fl_long, decide_eq_true_eq, decide_true, kk_ltT, kk_ltF, kk_leT, kk_leF, kk_eqT, kk_eqF, kk_0T, kk_0F, kk_g0T, kk_g0F, kk_l0T, kk_l0F, kk_inT, kk_lt0, kk_ge0, kk_m1, kk_m1', kk_m1lt, kk_m1le, kk_m1ltF, kk_m1leT, kk_mm, kk_mm2, kk_mm3, kk_mm4, kk_mm5, kk_cl, kk_sub, kk_p1, kk_shl, kk_shr, kk_and, kk_or, kk_xor, kk_rem2, kk_div, kk_len, kk_z1, kk_ln, kk_i2l, lN_add, lN_mul, kk_tb, kk_b0, kk_b1, nI_add, pk_mul, va_up_ne', va_up_se, va_up_up, ne_eq, not_false_eq_true, not_true_eq_false, false_or, or_false, eq_self, Nat.reducePow, Nat.reduceSub, Nat.reduceBEq, Nat.one_mul, Nat.zero_add, Nat.add_zero, Nat.zero_mul, Nat.mul_zero, cn_m20, cn_m8, cn_m1, cn_0, cn_1, cn_2, cn_3, cn_4, cn_5, cn_6, cn_7, cn_8, cn_9, cn_10, cn_11, cn_12, cn_15, cn_16, cn_20, cn_24, cn_30, cn_31, cn_32, cn_33, cn_34, cn_35, cn_37, cn_40, cn_41, cn_42, cn_43, cn_44, cn_45, cn_47, cn_48, cn_57, cn_59, cn_60, cn_63, cn_91, cn_93, cn_96, cn_97, cn_99, cn_100, cn_122, cn_128, cn_150, cn_200, cn_255, cn_400, cn_560, cn_596, cn_600, cn_999, cn_1024, cn_1788, cn_4096, cn_8400, cn_9999, cn_10000, cn_12345, cn_32767, cn_999999, cn_252645135, cn_858993459, cn_1103515245, cn_1431655765, cn_2147483647, wK_v, wK_r, List.getElem?_cons_zero, List.getElem?_cons_succ, Int.reduceToNat, Nat.reduceDiv, Nat.reduceMod, Nat.reduceMul, Nat.reduceAdd, Nat.reduceLT, Nat.reduceLeDiff, Nat.reduceEqDiff, fx_set, fx_fix, fx_fit, List.length_cons, List.length_nil, List.set_cons_zero, List.set_cons_succ, and_true, true_and, if_true, if_false, ↓reduceIte, and_self, true_or, or_true, not_false_iff, not_true, wr_ii, wr_is, wr_iv, wg_i_, wg_l_, wg_a1, wg_a2, wg_o_, wg_n_, wg_f_, wg_s_, wg_I_, wg_L_, wg_A_, wg_si_, wg_sb_, wg_sl_, wg_m_, wg_c_, wg_t_, List.drop_succ_cons, List.drop_zero, List.take_succ_cons, List.take_zero, List.reverse_cons, List.reverse_nil, List.nil_append, List.cons_append, h82, hm0]
        exact keep _ (fun q => absurd q hm)
  have outer : ∀ (j i : Nat) (g' : Nat → Int32) (z : Nat) (v4 v5 : Value), i + j = t.k → dS t fo g' → z ≤ 1 → (z = 0 → ∀ a c, a < t.k → c < t.k → prd i 0 a c → dX t fo g' a c) → nz0 g' + z ≤ nz0 g → wC sc (d + 4) (pg_hd 130) cm_130 cb_130_4 [.ref 82, .ref 69, .int (nI z), .int (nI i), v4, v5] [] (n, cc, ss, va_up f 83 (ar_I 100 g')) Q := by
    intro j
    induction j with
    | zero =>
      intro i g' z v4 v5 hi k1 k2 k3 k4
      have : i = t.k := by omega
      subst this
      have hp : ∀ a c, a < t.k → c < t.k → prd t.k 0 a c := by intro a c ha hc; unfold prd; omega
      rcases (show z = 0 ∨ z = 1 by omega) with rfl | rfl
      all_goals
        unfold cb_130_4
        simp (disch := omega) only [cb_130_0, cb_130_8, cb_130_13, cb_130_18, cb_130_31, cb_130_33, cb_130_35, cb_130_36, cb_130_37, cb_130_41, jb_130_4, jb_130_8, jb_130_10, jb_130_13, jb_130_18, jb_130_31, jb_130_33, jb_130_35, jb_130_36, jb_130_37, jb_130_39, jb_130_41, wC_goto, wC_iconst, wC_ldc2, wC_ldc, wC_getstatic, wC_iadd, wC_isub, wC_imul, wC_iand, wC_ior, wC_ixor, wC_ishl, wC_ishr, wC_iushr, wC_ladd, wC_lmul, wC_land, wC_lcmp, wC_lshl, wC_lshr, wC_i2l, wC_i2b, wC_i2c, wC_popi, wC_popa, wC_dupi, wC_dupa, wC_dup2, wC_idiv, wC_irem, wC_ldiv, wC_lrem, wr_iload, wr_lload, wr_aload, wC_istore, wC_astore, wC_lstore, wr_iinc, wC_icmp_eq, wC_icmp_ne, wC_icmp_lt, wC_icmp_ge, wC_icmp_gt, wC_icmp_le, wC_ifc_eq, wC_ifc_ne, wC_ifc_lt, wC_ifc_ge, wC_ifc_gt, wC_ifc_le, wC_tab, wr_getf, wr_putf, wr_iaload, wr_baload, wr_laload, wr_iastore, wr_bastore, wr_lastore, wr_aaload, wr_alen, wC_slen, wC_sald, wC_new, wC_newa, wC_newq, wC_oinit, wC_math, wC_iret, wC_lret, wC_vret, wC_zret, wC_cret, wC_jsr, wi_c_, fx_low, List.map_cons, List.map_nil, List.sum_cons, List.sum_nil, fl_int, fl_ref, fl_ra, fl_long, decide_eq_true_eq, decide_true, kk_ltT, kk_ltF, kk_leT, kk_leF, kk_eqT, kk_eqF, kk_0T, kk_0F, kk_g0T, kk_g0F, kk_l0T, kk_l0F, kk_inT, kk_lt0, kk_ge0, kk_m1, kk_m1', kk_m1lt, kk_m1le, kk_m1ltF, kk_m1leT, kk_mm, kk_mm2, kk_mm3, kk_mm4, kk_mm5, kk_cl, kk_sub, kk_p1, kk_shl, kk_shr, kk_and, kk_or, kk_xor, kk_rem2, kk_div, kk_len, kk_z1, kk_ln, kk_i2l, lN_add, lN_mul, kk_tb, kk_b0, kk_b1, nI_add, pk_mul, va_up_ne', va_up_se, va_up_up, ne_eq, not_false_eq_true, not_true_eq_false, false_or, or_false, eq_self, Nat.reducePow, Nat.reduceSub, Nat.reduceBEq, Nat.one_mul, Nat.zero_add, Nat.add_zero, Nat.zero_mul, Nat.mul_zero, cn_m20, cn_m8, cn_m1, cn_0, cn_1, cn_2, cn_3, cn_4, cn_5, cn_6, cn_7, cn_8, cn_9, cn_10, cn_11, cn_12, cn_15, cn_16, cn_20, cn_24, cn_30, cn_31, cn_32, cn_33, cn_34, cn_35, cn_37, cn_40, cn_41, cn_42, cn_43, cn_44, cn_45, cn_47, cn_48, cn_57, cn_59, cn_60, cn_63, cn_91, cn_93, cn_96, cn_97, cn_99, cn_100, cn_122, cn_128, cn_150, cn_200, cn_255, cn_400, cn_560, cn_596, cn_600, cn_999, cn_1024, cn_1788, cn_4096, cn_8400, cn_9999, cn_10000, cn_12345, cn_32767, cn_999999, cn_252645135, cn_858993459, cn_1103515245, cn_1431655765, cn_2147483647, wK_v, wK_r, List.getElem?_cons_zero, List.getElem?_cons_succ, Int.reduceToNat, Nat.reduceDiv, Nat.reduceMod, Nat.reduceMul, Nat.reduceAdd, Nat.reduceLT, Nat.reduceLeDiff, Nat.reduceEqDiff, fx_set, fx_fix, fx_fit, List.length_cons, List.length_nil, List.set_cons_zero, List.set_cons_succ, and_true, true_and, if_true, if_false, ↓reduceIte, and_self, true_or, or_true, not_false_iff, not_true, wr_ii, wr_is, wr_iv, wg_i_, wg_l_, wg_a1, wg_a2, wg_o_, wg_n_, wg_f_, wg_s_, wg_I_, wg_L_, wg_A_, wg_si_, wg_sb_, wg_sl_, wg_m_, wg_c_, wg_t_, List.drop_succ_cons, List.drop_zero, List.take_succ_cons, List.take_zero, List.reverse_cons, List.reverse_nil, List.nil_append, List.cons_append, h69]
        exact hq g' _ k1 k2 (fun hz a c ha hc => k3 hz a c ha hc (hp a c ha hc)) k4
    | succ j ih =>
      intro i g' z v4 v5 hi k1 k2 k3 k4
      unfold cb_130_4
      simp (disch := omega) only [cb_130_0, cb_130_8, cb_130_13, cb_130_18, cb_130_31, cb_130_33, cb_130_35, cb_130_36, cb_130_37, cb_130_41, jb_130_4, jb_130_8, jb_130_10, jb_130_13, jb_130_18, jb_130_31, jb_130_33, jb_130_35, jb_130_36, jb_130_37, jb_130_39, jb_130_41, wC_goto, wC_iconst, wC_ldc2, wC_ldc, wC_getstatic, wC_iadd, wC_isub, wC_imul, wC_iand, wC_ior, wC_ixor, wC_ishl, wC_ishr, wC_iushr, wC_ladd, wC_lmul, wC_land, wC_lcmp, wC_lshl, wC_lshr, wC_i2l, wC_i2b, wC_i2c, wC_popi, wC_popa, wC_dupi, wC_dupa, wC_dup2, wC_idiv, wC_irem, wC_ldiv, wC_lrem, wr_iload, wr_lload, wr_aload, wC_istore, wC_astore, wC_lstore, wr_iinc, wC_icmp_eq, wC_icmp_ne, wC_icmp_lt, wC_icmp_ge, wC_icmp_gt, wC_icmp_le, wC_ifc_eq, wC_ifc_ne, wC_ifc_lt, wC_ifc_ge, wC_ifc_gt, wC_ifc_le, wC_tab, wr_getf, wr_putf, wr_iaload, wr_baload, wr_laload, wr_iastore, wr_bastore, wr_lastore, wr_aaload, wr_alen, wC_slen, wC_sald, wC_new, wC_newa, wC_newq, wC_oinit, wC_math, wC_iret, wC_lret, wC_vret, wC_zret, wC_cret, wC_jsr, wi_c_, fx_low, List.map_cons, List.map_nil, List.sum_cons, List.sum_nil, fl_int, fl_ref, fl_ra, fl_long, decide_eq_true_eq, decide_true, kk_ltT, kk_ltF, kk_leT, kk_leF, kk_eqT, kk_eqF, kk_0T, kk_0F, kk_g0T, kk_g0F, kk_l0T, kk_l0F, kk_inT, kk_lt0, kk_ge0, kk_m1, kk_m1', kk_m1lt, kk_m1le, kk_m1ltF, kk_m1leT, kk_mm, kk_mm2, kk_mm3, kk_mm4, kk_mm5, kk_cl, kk_sub, kk_p1, kk_shl, kk_shr, kk_and, kk_or, kk_xor, kk_rem2, kk_div, kk_len, kk_z1, kk_ln, kk_i2l, lN_add, lN_mul, kk_tb, kk_b0, kk_b1, nI_add, pk_mul, va_up_ne', va_up_se, va_up_up, ne_eq, not_false_eq_true, not_true_eq_false, false_or, or_false, eq_self, Nat.reducePow, Nat.reduceSub, Nat.reduceBEq, Nat.one_mul, Nat.zero_add, Nat.add_zero, Nat.zero_mul, Nat.mul_zero, cn_m20, cn_m8, cn_m1, cn_0, cn_1, cn_2, cn_3, cn_4, cn_5, cn_6, cn_7, cn_8, cn_9, cn_10, cn_11, cn_12, cn_15, cn_16, cn_20, cn_24, cn_30, cn_31, cn_32, cn_33, cn_34, cn_35, cn_37, cn_40, cn_41, cn_42, cn_43, cn_44, cn_45, cn_47, cn_48, cn_57, cn_59, cn_60, cn_63, cn_91, cn_93, cn_96, cn_97, cn_99, cn_100, cn_122, cn_128, cn_150, cn_200, cn_255, cn_400, cn_560, cn_596, cn_600, cn_999, cn_1024, cn_1788, cn_4096, cn_8400, cn_9999, cn_10000, cn_12345, cn_32767, cn_999999, cn_252645135, cn_858993459, cn_1103515245, cn_1431655765, cn_2147483647, wK_v, wK_r, List.getElem?_cons_zero, List.getElem?_cons_succ, Int.reduceToNat, Nat.reduceDiv, Nat.reduceMod, Nat.reduceMul, Nat.reduceAdd, Nat.reduceLT, Nat.reduceLeDiff, Nat.reduceEqDiff, fx_set, fx_fix, fx_fit, List.length_cons, List.length_nil, List.set_cons_zero, List.set_cons_succ, and_true, true_and, if_true, if_false, ↓reduceIte, and_self, true_or, or_true, not_false_iff, not_true, wr_ii, wr_is, wr_iv, wg_i_, wg_l_, wg_a1, wg_a2, wg_o_, wg_n_, wg_f_, wg_s_, wg_I_, wg_L_, wg_A_, wg_si_, wg_sb_, wg_sl_, wg_m_, wg_c_, wg_t_, List.drop_succ_cons, List.drop_zero, List.take_succ_cons, List.take_zero, List.reverse_cons, List.reverse_nil, List.nil_append, List.cons_append, h69]
      refine inner i (by omega) ?_ (i + 1) 0 g' z _ (by omega) k1 k2 k3 k4
      intro g2 z2 m1 m2 m3 m4 v4 v5
      simp (disch := omega) only [cb_130_0, cb_130_8, cb_130_13, cb_130_18, cb_130_31, cb_130_33, cb_130_35, cb_130_36, cb_130_37, cb_130_39, cb_130_41, jb_130_4, jb_130_8, jb_130_10, jb_130_13, jb_130_18, jb_130_31, jb_130_33, jb_130_35, jb_130_36, jb_130_37, jb_130_39, jb_130_41, wC_goto, wC_iconst, wC_ldc2, wC_ldc, wC_getstatic, wC_iadd, wC_isub, wC_imul, wC_iand, wC_ior, wC_ixor, wC_ishl, wC_ishr, wC_iushr, wC_ladd, wC_lmul, wC_land, wC_lcmp, wC_lshl, wC_lshr, wC_i2l, wC_i2b, wC_i2c, wC_popi, wC_popa, wC_dupi, wC_dupa, wC_dup2, wC_idiv, wC_irem, wC_ldiv, wC_lrem, wr_iload, wr_lload, wr_aload, wC_istore, wC_astore, wC_lstore, wr_iinc, wC_icmp_eq, wC_icmp_ne, wC_icmp_lt, wC_icmp_ge, wC_icmp_gt, wC_icmp_le, wC_ifc_eq, wC_ifc_ne, wC_ifc_lt, wC_ifc_ge, wC_ifc_gt, wC_ifc_le, wC_tab, wr_getf, wr_putf, wr_iaload, wr_baload, wr_laload, wr_iastore, wr_bastore, wr_lastore, wr_aaload, wr_alen, wC_slen, wC_sald, wC_new, wC_newa, wC_newq, wC_oinit, wC_math, wC_iret, wC_lret, wC_vret, wC_zret, wC_cret, wC_jsr, wi_c_, fx_low, List.map_cons, List.map_nil, List.sum_cons, List.sum_nil, fl_int, fl_ref, fl_ra, fl_long, decide_eq_true_eq, decide_true, kk_ltT, kk_ltF, kk_leT, kk_leF, kk_eqT, kk_eqF, kk_0T, kk_0F, kk_g0T, kk_g0F, kk_l0T, kk_l0F, kk_inT, kk_lt0, kk_ge0, kk_m1, kk_m1', kk_m1lt, kk_m1le, kk_m1ltF, kk_m1leT, kk_mm, kk_mm2, kk_mm3, kk_mm4, kk_mm5, kk_cl, kk_sub, kk_p1, kk_shl, kk_shr, kk_and, kk_or, kk_xor, kk_rem2, kk_div, kk_len, kk_z1, kk_ln, kk_i2l, lN_add, lN_mul, kk_tb, kk_b0, kk_b1, nI_add, pk_mul, va_up_ne', va_up_se, va_up_up, ne_eq, not_false_eq_true, not_true_eq_false, false_or, or_false, eq_self, Nat.reducePow, Nat.reduceSub, Nat.reduceBEq, Nat.one_mul, Nat.zero_add, Nat.add_zero, Nat.zero_mul, Nat.mul_zero, cn_m20, cn_m8, cn_m1, cn_0, cn_1, cn_2, cn_3, cn_4, cn_5, cn_6, cn_7, cn_8, cn_9, cn_10, cn_11, cn_12, cn_15, cn_16, cn_20, cn_24, cn_30, cn_31, cn_32, cn_33, cn_34, cn_35, cn_37, cn_40, cn_41, cn_42, cn_43, cn_44, cn_45, cn_47, cn_48, cn_57, cn_59, cn_60, cn_63, cn_91, cn_93, cn_96, cn_97, cn_99, cn_100, cn_122, cn_128, cn_150, cn_200, cn_255, cn_400, cn_560, cn_596, cn_600, cn_999, cn_1024, cn_1788, cn_4096, cn_8400, cn_9999, cn_10000, cn_12345, cn_32767, cn_999999, cn_252645135, cn_858993459, cn_1103515245, cn_1431655765, cn_2147483647, wK_v, wK_r, List.getElem?_cons_zero, List.getElem?_cons_succ, Int.reduceToNat, Nat.reduceDiv, Nat.reduceMod, Nat.reduceMul, Nat.reduceAdd, Nat.reduceLT, Nat.reduceLeDiff, Nat.reduceEqDiff, fx_set, fx_fix, fx_fit, List.length_cons, List.length_nil, List.set_cons_zero, List.set_cons_succ, and_true, true_and, if_true, if_false, ↓reduceIte, and_self, true_or, or_true, not_false_iff, not_true, wr_ii, wr_is, wr_iv, wg_i_, wg_l_, wg_a1, wg_a2, wg_o_, wg_n_, wg_f_, wg_s_, wg_I_, wg_L_, wg_A_, wg_si_, wg_sb_, wg_sl_, wg_m_, wg_c_, wg_t_, List.drop_succ_cons, List.drop_zero, List.take_succ_cons, List.take_zero, List.reverse_cons, List.reverse_nil, List.nil_append, List.cons_append]
      exact ih (i + 1) g2 z2 _ _ (by omega) m1 m2 m3 m4
  simp (disch := omega) only [ei_130, cb_130_0, wC_goto, wC_iconst, wC_ldc2, wC_ldc, wC_getstatic, wC_iadd, wC_isub, wC_imul, wC_iand, wC_ior, wC_ixor, wC_ishl, wC_ishr, wC_iushr, wC_ladd, wC_lmul, wC_land, wC_lcmp, wC_lshl, wC_lshr, wC_i2l, wC_i2b, wC_i2c, wC_popi, wC_popa, wC_dupi, wC_dupa, wC_dup2, wC_idiv, wC_irem, wC_ldiv, wC_lrem, wr_iload, wr_lload, wr_aload, wC_istore, wC_astore, wC_lstore, wr_iinc, wC_icmp_eq, wC_icmp_ne, wC_icmp_lt, wC_icmp_ge, wC_icmp_gt, wC_icmp_le, wC_ifc_eq, wC_ifc_ne, wC_ifc_lt, wC_ifc_ge, wC_ifc_gt, wC_ifc_le, wC_tab, wr_getf, wr_putf, wr_iaload, wr_baload, wr_laload, wr_iastore, wr_bastore, wr_lastore, wr_aaload, wr_alen, wC_slen, wC_sald, wC_new, wC_newa, wC_newq, wC_oinit, wC_math, wC_iret, wC_lret, wC_vret, wC_zret, wC_cret, wC_jsr, wi_c_, fx_low, List.map_cons, List.map_nil, List.sum_cons, List.sum_nil, fl_int, fl_ref, fl_ra, fl_long, decide_eq_true_eq, decide_true, kk_ltT, kk_ltF, kk_leT, kk_leF, kk_eqT, kk_eqF, kk_0T, kk_0F, kk_g0T, kk_g0F, kk_l0T, kk_l0F, kk_inT, kk_lt0, kk_ge0, kk_m1, kk_m1', kk_m1lt, kk_m1le, kk_m1ltF, kk_m1leT, kk_mm, kk_mm2, kk_mm3, kk_mm4, kk_mm5, kk_cl, kk_sub, kk_p1, kk_shl, kk_shr, kk_and, kk_or, kk_xor, kk_rem2, kk_div, kk_len, kk_z1, kk_ln, kk_i2l, lN_add, lN_mul, kk_tb, kk_b0, kk_b1, nI_add, pk_mul, va_up_ne', va_up_se, va_up_up, ne_eq, not_false_eq_true, not_true_eq_false, false_or, or_false, eq_self, Nat.reducePow, Nat.reduceSub, Nat.reduceBEq, Nat.one_mul, Nat.zero_add, Nat.add_zero, Nat.zero_mul, Nat.mul_zero, cn_m20, cn_m8, cn_m1, cn_0, cn_1, cn_2, cn_3, cn_4, cn_5, cn_6, cn_7, cn_8, cn_9, cn_10, cn_11, cn_12, cn_15, cn_16, cn_20, cn_24, cn_30, cn_31, cn_32, cn_33, cn_34, cn_35, cn_37, cn_40, cn_41, cn_42, cn_43, cn_44, cn_45, cn_47, cn_48, cn_57, cn_59, cn_60, cn_63, cn_91, cn_93, cn_96, cn_97, cn_99, cn_100, cn_122, cn_128, cn_150, cn_200, cn_255, cn_400, cn_560, cn_596, cn_600, cn_999, cn_1024, cn_1788, cn_4096, cn_8400, cn_9999, cn_10000, cn_12345, cn_32767, cn_999999, cn_252645135, cn_858993459, cn_1103515245, cn_1431655765, cn_2147483647, wK_v, wK_r, List.getElem?_cons_zero, List.getElem?_cons_succ, Int.reduceToNat, Nat.reduceDiv, Nat.reduceMod, Nat.reduceMul, Nat.reduceAdd, Nat.reduceLT, Nat.reduceLeDiff, Nat.reduceEqDiff, fx_set, fx_fix, fx_fit, List.length_cons, List.length_nil, List.set_cons_zero, List.set_cons_succ, and_true, true_and, if_true, if_false, ↓reduceIte, and_self, true_or, or_true, not_false_iff, not_true, wr_ii, wr_is, wr_iv, wg_i_, wg_l_, wg_a1, wg_a2, wg_o_, wg_n_, wg_f_, wg_s_, wg_I_, wg_L_, wg_A_, wg_si_, wg_sb_, wg_sl_, wg_m_, wg_c_, wg_t_, List.drop_succ_cons, List.drop_zero, List.take_succ_cons, List.take_zero, List.reverse_cons, List.reverse_nil, List.nil_append, List.cons_append]
  rw [(va_up_id f 83 (ar_I 100 g) h83).symm]
  refine outer t.k 0 g 0 _ _ (by omega) hv (by omega) (fun _ a c ha hc hpp => ?_) (by omega)
  exfalso; unfold prd at hpp; omega
end
