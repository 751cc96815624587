/-! ===== constructors: a story ===== -/
def ro (n i : Nat) : Nat → Option Nat := fun j => if j < i then some (n + 4 + 2 * j) else none
theorem ro_up {n i : Nat} : va_up (ro n i) i (some (n + 4 + 2 * i)) = ro n (i + 1) := by
  funext j
  unfold va_up ro
  by_cases h : j = i
  · subst h; rw [if_pos rfl, if_pos (by omega)]
  · rw [if_neg h]
    by_cases h2 : j < i
    · rw [if_pos h2, if_pos (by omega)]
    · rw [if_neg h2, if_neg (by omega)]
abbrev roE (n i : Nat) : va_E := .inl (3, 16, .inr (.inr (.inr (.inr (ro n i)))))
def scs (n : Nat) : Nat → List va_E
  | 0 => []
  | i + 1 => scs n i ++ ct_Scene (n + 4 + 2 * i)
theorem scs_n {n : Nat} : ∀ i, (scs n i).length = 2 * i
  | 0 => rfl
  | i + 1 => by
    show (scs n i ++ ct_Scene (n + 4 + 2 * i)).length = _
    rw [List.length_append, scs_n i]
    show 2 * i + 2 = _
    omega
theorem scs_at {n : Nat} : ∀ j i, i < j → (scs n j)[2 * i]? = some (sn_O (nI 60) (nI 0) 0 (nI 0) (-1) (nI 0) (n + 4 + 2 * i + 1)) ∧ (scs n j)[2 * i + 1]? = some (ar_I 20 (fun _ => 0))
  | 0, _, h => absurd h (by omega)
  | j + 1, i, h => by
    show (scs n j ++ ct_Scene (n + 4 + 2 * j))[2 * i]? = _ ∧ (scs n j ++ ct_Scene (n + 4 + 2 * j))[2 * i + 1]? = _
    by_cases h1 : i < j
    · have := scs_at (n := n) j i h1
      rw [List.getElem?_append_left (by rw [scs_n]; omega), List.getElem?_append_left (by rw [scs_n]; omega)]
      exact this
    · have e : i = j := by omega
      subst e
      rw [List.getElem?_append_right (by rw [scs_n]; omega), List.getElem?_append_right (by rw [scs_n]; omega), scs_n, Nat.sub_self, show 2 * i + 1 - 2 * i = 1 by omega]
      exact ⟨rfl, rfl⟩
abbrev ct_Story (n : Nat) : List va_E := .inr (6, [.ref (n + 1), .ref (n + 3), .int (nI 0)]) :: sn_O (nI 60) (nI 0) 0 (nI 0) (-1) (nI 0) (n + 2) :: ar_I 20 (fun _ => 0) :: roE n 16 :: scs n 16
theorem st_nx {n i : Nat} {a b c : va_E} {f : Nat → va_E} : hl (n + 4 + 2 * i) (ct_Scene (n + 4 + 2 * i)) (hl n (a :: b :: c :: .inl (3, 16, .inr (.inr (.inr (.inr (va_up (ro n i) i (some (n + 4 + 2 * i))))))) :: scs n i) f) = hl n (a :: b :: c :: roE n (i + 1) :: scs n (i + 1)) f := by
  rw [ro_up, hl_hl (by simp only [List.length_cons, scs_n]; omega)]
  rfl
theorem hl_sc {n : Nat} {o : va_E} {f : Nat → va_E} : hl (n + 1) (ct_Scene (n + 1)) (hl n [o] f) = hl n [o, sn_O (nI 60) (nI 0) 0 (nI 0) (-1) (nI 0) (n + 2), ar_I 20 (fun _ => 0)] f := hl_hl rfl
theorem ro_0 {n : Nat} : ro n 0 = fun _ => none := by
  funext j
  unfold ro
  rw [if_neg (by omega)]
set_option maxHeartbeats 1000000 in
theorem in_Story {sc : Nat × (Nat → Int32)} {d n N ss : Nat} {f : Nat → va_E} {Q : fx_R → Prop} (hN : N = n + 1) : wM sc (d + 2) 85 [.ref n] (N, N, ss, hl n [.inr (6, [.null, .null, .int 0])] f) Q ↔ Q (.inl none, (n + 36, n + 36, ss + 475, hl n (ct_Story n) f)) := by
  subst hN
  refine wM_iff (fun Q hq => ?_)
  have loop : ∀ (j i N S : Nat), i + j = 16 → N = n + 4 + 2 * i → S = ss + 43 + 27 * i → wC sc (d + 1) (pg_hd 85) cm_85 cb_85_16 [.ref n, .int (nI i)] [] (N, N, S, hl n (.inr (6, [.ref (n + 1), .ref (n + 3), .int (nI 0)]) :: sn_O (nI 60) (nI 0) 0 (nI 0) (-1) (nI 0) (n + 2) :: ar_I 20 (fun _ => 0) :: roE n i :: scs n i) f) Q := by
    intro j
    induction j with
    | zero =>
      intro i N S hi hN hS
      have hi : i = 16 := by omega
      subst hi hN hS
      unfold cb_85_16
      simp (disch := omega) only [cb_85_0, cb_85_21, cb_85_30, jb_85_16, jb_85_21, jb_85_30, wC_goto, wC_iconst, wC_ldc2, wC_ldc, wC_getstatic, wC_iadd, wC_isub, wC_imul, wC_iand, wC_ior, wC_ixor, wC_ishl, wC_ishr, wC_iushr, wC_ladd, wC_lmul, wC_land, wC_lcmp, wC_lshl, wC_lshr, wC_i2l, wC_i2b, wC_i2c, wC_popi, wC_popa, wC_dupi, wC_dupa, wC_dup2, wC_idiv, wC_irem, wC_ldiv, wC_lrem, wr_iload, wr_lload, wr_aload, wC_istore, wC_astore, wC_lstore, wr_iinc, wC_icmp_eq, wC_icmp_ne, wC_icmp_lt, wC_icmp_ge, wC_icmp_gt, wC_icmp_le, wC_ifc_eq, wC_ifc_ne, wC_ifc_lt, wC_ifc_ge, wC_ifc_gt, wC_ifc_le, wC_tab, wr_getf, wr_putf, wr_iaload, wr_baload, wr_laload, wr_iastore, wr_bastore, wr_lastore, wr_aaload, wr_alen, wC_slen, wC_sald, wC_oinit, wC_math, wC_iret, wC_lret, wC_vret, wC_zret, wC_cret, wC_jsr, wi_c_, fx_low, List.map_cons, List.map_nil, List.sum_cons, List.sum_nil, fl_int, fl_ref, fl_ra, fl_long, decide_eq_true_eq, decide_true, kk_ltT, kk_ltF, kk_leT, kk_leF, kk_eqT, kk_eqF, kk_0T, kk_0F, kk_g0T, kk_g0F, kk_l0T, kk_l0F, kk_inT, kk_lt0, kk_ge0, kk_m1, kk_m1', kk_m1lt, kk_m1le, kk_m1ltF, kk_m1leT, kk_mm, kk_mm2, kk_mm3, kk_mm4, kk_mm5, kk_cl, kk_sub, kk_p1, kk_shl, kk_shr, kk_and, kk_or, kk_xor, kk_rem2, kk_div, kk_len, kk_z1, kk_ln, kk_i2l, lN_add, lN_mul, kk_tb, kk_b0, kk_b1, nI_add, pk_mul, va_up_ne', va_up_se, va_up_up, ne_eq, not_false_eq_true, not_true_eq_false, false_or, or_false, eq_self, Nat.reducePow, Nat.reduceSub, Nat.reduceBEq, Nat.one_mul, Nat.zero_add, Nat.add_zero, Nat.zero_mul, Nat.mul_zero, cn_m20, cn_m8, cn_m1, cn_0, cn_1, cn_2, cn_3, cn_4, cn_5, cn_6, cn_7, cn_8, cn_9, cn_10, cn_11, cn_12, cn_15, cn_16, cn_20, cn_24, cn_30, cn_31, cn_32, cn_33, cn_34, cn_35, cn_37, cn_40, cn_41, cn_42, cn_43, cn_44, cn_45, cn_47, cn_48, cn_57, cn_59, cn_60, cn_63, cn_91, cn_93, cn_96, cn_97, cn_99, cn_100, cn_122, cn_128, cn_150, cn_200, cn_255, cn_400, cn_560, cn_596, cn_600, cn_999, cn_1024, cn_1788, cn_4096, cn_8400, cn_9999, cn_10000, cn_12345, cn_32767, cn_999999, cn_252645135, cn_858993459, cn_1103515245, cn_1431655765, cn_2147483647, wK_v, wK_r, List.getElem?_cons_zero, List.getElem?_cons_succ, Int.reduceToNat, Nat.reduceDiv, Nat.reduceMod, Nat.reduceMul, Nat.reduceAdd, Nat.reduceLT, Nat.reduceLeDiff, Nat.reduceEqDiff, fx_set, fx_fix, fx_fit, List.length_cons, List.length_nil, List.set_cons_zero, List.set_cons_succ, and_true, true_and, if_true, if_false, ↓reduceIte, and_self, true_or, or_true, not_false_iff, not_true, wr_ii, wr_is, wr_iv, wg_i_, wg_l_, wg_a1, wg_a2, wg_o_, wg_n_, wg_f_, wg_s_, wg_I_, wg_L_, wg_A_, wg_si_, wg_sb_, wg_sl_, wg_m_, wg_c_, wg_t_, List.drop_succ_cons, List.drop_zero, List.take_succ_cons, List.take_zero, List.reverse_cons, List.reverse_nil, List.nil_append, List.cons_append, wr_new, wr_newI, wr_newB, wr_newL, wr_newQ, wr_aast, wg_q_, hl_1, hl_2, hl_3, hl_4, hl_5, hl_6, hl_0, hl_lt, hl_ult, hl_u0, hl_u3, hl_3g, df_0, df_1, df_2, df_3, df_4, df_5, df_6, df_7, df_8, df_9, df_10, df_11, hl_3g]
      exact hq
    | succ j ih =>
      intro i N S hi hN hS
      subst hN hS
      unfold cb_85_16
      simp (disch := omega) only [cb_85_0, cb_85_21, cb_85_30, jb_85_16, jb_85_21, jb_85_30, wC_goto, wC_iconst, wC_ldc2, wC_ldc, wC_getstatic, wC_iadd, wC_isub, wC_imul, wC_iand, wC_ior, wC_ixor, wC_ishl, wC_ishr, wC_iushr, wC_ladd, wC_lmul, wC_land, wC_lcmp, wC_lshl, wC_lshr, wC_i2l, wC_i2b, wC_i2c, wC_popi, wC_popa, wC_dupi, wC_dupa, wC_dup2, wC_idiv, wC_irem, wC_ldiv, wC_lrem, wr_iload, wr_lload, wr_aload, wC_istore, wC_astore, wC_lstore, wr_iinc, wC_icmp_eq, wC_icmp_ne, wC_icmp_lt, wC_icmp_ge, wC_icmp_gt, wC_icmp_le, wC_ifc_eq, wC_ifc_ne, wC_ifc_lt, wC_ifc_ge, wC_ifc_gt, wC_ifc_le, wC_tab, wr_getf, wr_putf, wr_iaload, wr_baload, wr_laload, wr_iastore, wr_bastore, wr_lastore, wr_aaload, wr_alen, wC_slen, wC_sald, wC_oinit, wC_math, wC_iret, wC_lret, wC_vret, wC_zret, wC_cret, wC_jsr, wi_c_, fx_low, List.map_cons, List.map_nil, List.sum_cons, List.sum_nil, fl_int, fl_ref, fl_ra, fl_long, decide_eq_true_eq, decide_true, kk_ltT, kk_ltF, kk_leT, kk_leF, kk_eqT, kk_eqF, kk_0T, kk_0F, kk_g0T, kk_g0F, kk_l0T, kk_l0F, kk_inT, kk_lt0, kk_ge0, kk_m1, kk_m1', kk_m1lt, kk_m1le, kk_m1ltF, kk_m1leT, kk_mm, kk_mm2, kk_mm3, kk_mm4, kk_mm5, kk_cl, kk_sub, kk_p1, kk_shl, kk_shr, kk_and, kk_or, kk_xor, kk_rem2, kk_div, kk_len, kk_z1, kk_ln, kk_i2l, lN_add, lN_mul, kk_tb, kk_b0, kk_b1, nI_add, pk_mul, va_up_ne', va_up_se, va_up_up, ne_eq, not_false_eq_true, not_true_eq_false, false_or, or_false, eq_self, Nat.reducePow, Nat.reduceSub, Nat.reduceBEq, Nat.one_mul, Nat.zero_add, Nat.add_zero, Nat.zero_mul, Nat.mul_zero, cn_m20, cn_m8, cn_m1, cn_0, cn_1, cn_2, cn_3, cn_4, cn_5, cn_6, cn_7, cn_8, cn_9, cn_10, cn_11, cn_12, cn_15, cn_16, cn_20, cn_24, cn_30, cn_31, cn_32, cn_33, cn_34, cn_35, cn_37, cn_40, cn_41, cn_42, cn_43, cn_44, cn_45, cn_47, cn_48, cn_57, cn_59, cn_60, cn_63, cn_91, cn_93, cn_96, cn_97, cn_99, cn_100, cn_122, cn_128, cn_150, cn_200, cn_255, cn_400, cn_560, cn_596, cn_600, cn_999, cn_1024, cn_1788, cn_4096, cn_8400, cn_9999, cn_10000, cn_12345, cn_32767, cn_999999, cn_252645135, cn_858993459, cn_1103515245, cn_1431655765, cn_2147483647, wK_v, wK_r, List.getElem?_cons_zero, List.getElem?_cons_succ, Int.reduceToNat, Nat.reduceDiv, Nat.reduceMod, Nat.reduceMul, Nat.reduceAdd, Nat.reduceLT, Nat.reduceLeDiff, Nat.reduceEqDiff, fx_set, fx_fix, fx_fit, List.length_cons, List.length_nil, List.set_cons_zero, List.set_cons_succ, and_true, true_and, if_true, if_false, ↓reduceIte, and_self, true_or, or_true, not_false_iff, not_true, wr_ii, wr_is, wr_iv, wg_i_, wg_l_, wg_a1, wg_a2, wg_o_, wg_n_, wg_f_, wg_s_, wg_I_, wg_L_, wg_A_, wg_si_, wg_sb_, wg_sl_, wg_m_, wg_c_, wg_t_, List.drop_succ_cons, List.drop_zero, List.take_succ_cons, List.take_zero, List.reverse_cons, List.reverse_nil, List.nil_append, List.cons_append, wr_new, wr_newI, wr_newB, wr_newL, wr_newQ, wr_aast, wg_q_, hl_1, hl_2, hl_3, hl_4, hl_5, hl_6, hl_0, hl_lt, hl_ult, hl_u0, hl_u3, hl_3g, df_0, df_1, df_2, df_3, df_4, df_5, df_6, df_7, df_8, df_9, df_10, df_11, hl_3g, in_Scene, fx_elt]
      rw [st_nx]
      exact ih (i + 1) _ _ (by omega) (by omega) (by omega)
  simp (disch := omega) only [ei_85, cb_85_0, wC_goto, wC_iconst, wC_ldc2, wC_ldc, wC_getstatic, wC_iadd, wC_isub, wC_imul, wC_iand, wC_ior, wC_ixor, wC_ishl, wC_ishr, wC_iushr, wC_ladd, wC_lmul, wC_land, wC_lcmp, wC_lshl, wC_lshr, wC_i2l, wC_i2b, wC_i2c, wC_popi, wC_popa, wC_dupi, wC_dupa, wC_dup2, wC_idiv, wC_irem, wC_ldiv, wC_lrem, wr_iload, wr_lload, wr_aload, wC_istore, wC_astore, wC_lstore, wr_iinc, wC_icmp_eq, wC_icmp_ne, wC_icmp_lt, wC_icmp_ge, wC_icmp_gt, wC_icmp_le, wC_ifc_eq, wC_ifc_ne, wC_ifc_lt, wC_ifc_ge, wC_ifc_gt, wC_ifc_le, wC_tab, wr_getf, wr_putf, wr_iaload, wr_baload, wr_laload, wr_iastore, wr_bastore, wr_lastore, wr_aaload, wr_alen, wC_slen, wC_sald, wC_oinit, wC_math, wC_iret, wC_lret, wC_vret, wC_zret, wC_cret, wC_jsr, wi_c_, fx_low, List.map_cons, List.map_nil, List.sum_cons, List.sum_nil, fl_int, fl_ref, fl_ra, fl_long, decide_eq_true_eq, decide_true, kk_ltT, kk_ltF, kk_leT, kk_leF, kk_eqT, kk_eqF, kk_0T, kk_0F, kk_g0T, kk_g0F, kk_l0T, kk_l0F, kk_inT, kk_lt0, kk_ge0, kk_m1, kk_m1', kk_m1lt, kk_m1le, kk_m1ltF, kk_m1leT, kk_mm, kk_mm2, kk_mm3, kk_mm4, kk_mm5, kk_cl, kk_sub, kk_p1, kk_shl, kk_shr, kk_and, kk_or, kk_xor, kk_rem2, kk_div, kk_len, kk_z1, kk_ln, kk_i2l, lN_add, lN_mul, kk_tb, kk_b0, kk_b1, nI_add, pk_mul, va_up_ne', va_up_se, va_up_up, ne_eq, not_false_eq_true, not_true_eq_false, false_or, or_false, eq_self, Nat.reducePow, Nat.reduceSub, Nat.reduceBEq, Nat.one_mul, Nat.zero_add, Nat.add_zero, Nat.zero_mul, Nat.mul_zero, cn_m20, cn_m8, cn_m1, cn_0, cn_1, cn_2, cn_3, cn_4, cn_5, cn_6, cn_7, cn_8, cn_9, cn_10, cn_11, cn_12, cn_15, cn_16, cn_20, cn_24, cn_30, cn_31, cn_32, cn_33, cn_34, cn_35, cn_37, cn_40, cn_41, cn_42, cn_43, cn_44, cn_45, cn_47, cn_48, cn_57, cn_59, cn_60, cn_63, cn_91, cn_93, cn_96, cn_97, cn_99, cn_100, cn_122, cn_128, cn_150, cn_200, cn_255, cn_400, cn_560, cn_596, cn_600, cn_999, cn_1024, cn_1788, cn_4096, cn_8400, cn_9999, cn_10000, cn_12345, cn_32767, cn_999999, cn_252645135, cn_858993459, cn_1103515245, cn_1431655765, cn_2147483647, wK_v, wK_r, List.getElem?_cons_zero, List.getElem?_cons_succ, Int.reduceToNat, Nat.reduceDiv, Nat.reduceMod, Nat.reduceMul, Nat.reduceAdd, Nat.reduceLT, Nat.reduceLeDiff, Nat.reduceEqDiff, fx_set, fx_fix, fx_fit, List.length_cons, List.length_nil, List.set_cons_zero, List.set_cons_succ, and_true, true_and, if_true, if_false, ↓reduceIte, and_self, true_or, or_true, not_false_iff, not_true, wr_ii, wr_is, wr_iv, wg_i_, wg_l_, wg_a1, wg_a2, wg_o_, wg_n_, wg_f_, wg_s_, wg_I_, wg_L_, wg_A_, wg_si_, wg_sb_, wg_sl_, wg_m_, wg_c_, wg_t_, List.drop_succ_cons, List.drop_zero, List.take_succ_cons, List.take_zero, List.reverse_cons, List.reverse_nil, List.nil_append, List.cons_append, wr_new, wr_newI, wr_newB, wr_newL, wr_newQ, wr_aast, wg_q_, hl_1, hl_2, hl_3, hl_4, hl_5, hl_6, hl_0, hl_lt, hl_ult, hl_u0, hl_u3, hl_3g, df_0, df_1, df_2, df_3, df_4, df_5, df_6, df_7, df_8, df_9, df_10, df_11, in_Scene, hl_sc, na_1, na_2, na_3]
  rw [← ro_0 (n := n)]
  exact loop 16 0 _ _ rfl rfl rfl
