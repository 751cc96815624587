/-! ===== the class reads work: loops, steps ===== -/
section
variable {sc : Nat × (Nat → Int32)} {d n cc ss : Nat} {h : fx_H} {f : Nat → va_E} {Q : fx_R → Prop} {hn : Nat → Option (Nat × Nat)} {cdm k : List Instr} {ls st : List Value}
variable {T : Nat → Nat} {e op b jm : Nat} {z : Zt} {W : Wt} {rf : Int32} {C : List (Nat × Int32)} {t : Tn} {B : Option (Nat → Nat → Nat → Wr)}
theorem sgz_inr {c p mq : Nat} {z : Zt} (h : sgz T e c z = .inr (p, mq)) : ∃ p0, z = .inr (p0, mq) ∧ sgP T e c p0 = .inr p := by
  rcases z with x | ⟨p0, mq0⟩
  · cases h
  · rw [sgz_P] at h
    cases h9 : sgP T e c p0 with
    | inl x => rw [h9] at h; cases h
    | inr r => rw [h9] at h; cases h; exact ⟨p0, rfl, h9⟩
set_option maxHeartbeats 2000000 in
theorem sp_again {bb : Nat → Nat → Nat → Wr} {q : Nat} (hb2 : 2 < b) (hb3 : b + 3 < 21) (he : e ≤ 150) (hg : gdW C t e 0 bb) (hs : wkS sc (d + 5) 77 (op + 1) b T e t bb) (hop : op < 6) (hz : ct f T e (.inr (we T e q, q))) (hw : ws_at f rf W) (ht : tn_at f b t) (hC : W.length ≤ q) (hq5 : q + 3 ≤ we T e q)
    (hq : ∀ f' z' W', (∀ c, c ≠ 1 → c < 21 ∨ 24 < c → f' c = f c) → ct f' T e z' → wsz f' rf z' W' → (match agP T e bb (we T e q) W.length jm with
      | .inl x => z' = .inl x
      | .inr (r, cl, _, _) => (∃ mq, z' = .inr (r, mq)) ∧ W' = W ++ cl) → Q (.inl none, (n, cc, ss, f'))) :
    wM sc (d + 6) 81 [.ref 21, .ref 1, .ref b, .int (nI op)] (n, cc, ss, f) Q := by
  obtain ⟨fs, ho⟩ := ct_o hz
  have hwe : we T e q ≤ e := hz.2.2.1
  simp (disch := omega) only [cb_81_0, cb_81_3, cb_81_9, cb_81_39, cb_81_42, cb_81_47, jb_81_3, jb_81_9, jb_81_39, jb_81_42, jb_81_47, ei_81, wC_goto, wC_iconst, wC_ldc2, wC_ldc, wC_getstatic, wC_iadd, wC_isub, wC_imul, wC_iand, wC_ior, wC_ixor, wC_ishl, wC_ishr, wC_iushr, wC_ladd, wC_lmul, wC_land, wC_lcmp, wC_lshl, wC_lshr, wC_i2l, wC_i2b, wC_i2c, wC_popi, wC_popa, wC_dupi, wC_dupa, wC_dup2, wC_idiv, wC_irem, wC_ldiv, wC_lrem, wr_iload, wr_lload, wr_aload, wC_istore, wC_astore, wC_lstore, wr_iinc, wC_icmp_eq, wC_icmp_ne, wC_icmp_lt, wC_icmp_ge, wC_icmp_gt, wC_icmp_le, wC_ifc_eq, wC_ifc_ne, wC_ifc_lt, wC_ifc_ge, wC_ifc_gt, wC_ifc_le, wC_tab, wr_getf, wr_putf, wr_iaload, wr_baload, wr_laload, wr_iastore, wr_bastore, wr_lastore, wr_aaload, wr_alen, wC_slen, wC_sald, wC_new, wC_newa, wC_newq, wC_oinit, wC_math, wC_iret, wC_lret, wC_vret, wC_zret, wC_cret, wC_jsr, wi_c_, fx_low, List.map_cons, List.map_nil, List.sum_cons, List.sum_nil, fl_int, fl_ref, fl_ra, fl_long, decide_eq_true_eq, decide_true, kk_ltT, kk_ltF, kk_leT, kk_leF, kk_eqT, kk_eqF, kk_0T, kk_0F, kk_g0T, kk_g0F, kk_l0T, kk_l0F, kk_inT, kk_lt0, kk_ge0, kk_m1, kk_m1', kk_m1lt, kk_m1le, kk_m1ltF, kk_m1leT, kk_mm, kk_mm2, kk_mm3, kk_mm4, kk_mm5, kk_cl, kk_sub, kk_p1, kk_shl, kk_shr, kk_and, kk_or, kk_xor, kk_rem2, kk_div, kk_len, kk_z1, kk_ln, kk_i2l, lN_add, lN_mul, kk_tb, kk_b0, kk_b1, nI_add, pk_mul, va_up_ne', va_up_se, va_up_up, ne_eq, not_false_eq_true, not_true_eq_false, false_or, or_false, eq_self, Nat.reducePow, Nat.reduceSub, Nat.reduceBEq, Nat.one_mul, Nat.zero_add, Nat.add_zero, Nat.zero_mul, Nat.mul_zero, cn_m20, cn_m8, cn_m1, cn_0, cn_1, cn_2, cn_3, cn_4, cn_5, cn_6, cn_7, cn_8, cn_9, cn_10, cn_11, cn_12, cn_15, cn_16, cn_20, cn_24, cn_30, cn_31, cn_32, cn_33, cn_34, cn_35, cn_37, cn_40, cn_41, cn_42, cn_43, cn_44, cn_45, cn_47, cn_48, cn_57, cn_59, cn_60, cn_63, cn_91, cn_93, cn_96, cn_97, cn_99, cn_100, cn_122, cn_128, cn_150, cn_200, cn_255, cn_400, cn_560, cn_596, cn_600, cn_999, cn_1024, cn_1788, cn_4096, cn_8400, cn_9999, cn_10000, cn_12345, cn_32767, cn_999999, cn_252645135, cn_858993459, cn_1103515245, cn_1431655765, cn_2147483647, wK_v, wK_r, List.getElem?_cons_zero, List.getElem?_cons_succ, Int.reduceToNat, Nat.reduceDiv, Nat.reduceMod, Nat.reduceMul, Nat.reduceAdd, Nat.reduceLT, Nat.reduceLeDiff, Nat.reduceEqDiff, fx_set, fx_fix, fx_fit, List.length_cons, List.length_nil, List.set_cons_zero, List.set_cons_succ, and_true, true_and, if_true, if_false, ↓reduceIte, and_self, true_or, or_true, not_false_iff, not_true, wr_ii, wr_is, wr_iv, wg_i_, wg_l_, wg_a1, wg_a2, wg_o_, wg_n_, wg_f_, wg_s_, wg_I_, wg_L_, wg_A_, wg_si_, wg_sb_, wg_sl_, wg_m_, wg_c_, wg_t_, List.drop_succ_cons, List.drop_zero, List.take_succ_cons, List.take_zero, List.reverse_cons, List.reverse_nil, List.nil_append, List.cons_append, ho]
  refine sp_rn (d := d + 3) (lo := 0) (m := 41) (by omega) (by omega) (hh_n (a := 40) (by omega)) hz (fun f1 fr1 hz1 => ?_)
  have w1 := ws_at_fr hw (fun c c1 _ => fr1 c (by omega))
  have w11 := w1.1
  simp (disch := omega) only [wC_goto, wC_iconst, wC_ldc2, wC_ldc, wC_getstatic, wC_iadd, wC_isub, wC_imul, wC_iand, wC_ior, wC_ixor, wC_ishl, wC_ishr, wC_iushr, wC_ladd, wC_lmul, wC_land, wC_lcmp, wC_lshl, wC_lshr, wC_i2l, wC_i2b, wC_i2c, wC_popi, wC_popa, wC_dupi, wC_dupa, wC_dup2, wC_idiv, wC_irem, wC_ldiv, wC_lrem, wr_iload, wr_lload, wr_aload, wC_istore, wC_astore, wC_lstore, wr_iinc, wC_icmp_eq, wC_icmp_ne, wC_icmp_lt, wC_icmp_ge, wC_icmp_gt, wC_icmp_le, wC_ifc_eq, wC_ifc_ne, wC_ifc_lt, wC_ifc_ge, wC_ifc_gt, wC_ifc_le, wC_tab, wr_getf, wr_putf, wr_iaload, wr_baload, wr_laload, wr_iastore, wr_bastore, wr_lastore, wr_aaload, wr_alen, wC_slen, wC_sald, wC_new, wC_newa, wC_newq, wC_oinit, wC_math, wC_iret, wC_lret, wC_vret, wC_zret, wC_cret, wC_jsr, wi_c_, fx_low, List.map_cons, List.map_nil, List.sum_cons, List.sum_nil, fl_int, fl_ref, fl_ra, fl_long, decide_eq_true_eq, decide_true, kk_ltT, kk_ltF, kk_leT, kk_leF, kk_eqT, kk_eqF, kk_0T, kk_0F, kk_g0T, kk_g0F, kk_l0T, kk_l0F, kk_inT, kk_lt0, kk_ge0, kk_m1, kk_m1', kk_m1lt, kk_m1le, kk_m1ltF, kk_m1leT, kk_mm, kk_mm2, kk_mm3, kk_mm4, kk_mm5, kk_cl, kk_sub, kk_p1, kk_shl, kk_shr, kk_and, kk_or, kk_xor, kk_rem2, kk_div, kk_len, kk_z1, kk_ln, kk_i2l, lN_add, lN_mul, kk_tb, kk_b0, kk_b1, nI_add, pk_mul, va_up_ne', va_up_se, va_up_up, ne_eq, not_false_eq_true, not_true_eq_false, false_or, or_false, eq_self, Nat.reducePow, Nat.reduceSub, Nat.reduceBEq, Nat.one_mul, Nat.zero_add, Nat.add_zero, Nat.zero_mul, Nat.mul_zero, cn_m20, cn_m8, cn_m1, cn_0, cn_1, cn_2, cn_3, cn_4, cn_5, cn_6, cn_7, cn_8, cn_9, cn_10, cn_11, cn_12, cn_15, cn_16, cn_20, cn_24, cn_30, cn_31, cn_32, cn_33, cn_34, cn_35, cn_37, cn_40, cn_41, cn_42, cn_43, cn_44, cn_45, cn_47, cn_48, cn_57, cn_59, cn_60, cn_63, cn_91, cn_93, cn_96, cn_97, cn_99, cn_100, cn_122, cn_128, cn_150, cn_200, cn_255, cn_400, cn_560, cn_596, cn_600, cn_999, cn_1024, cn_1788, cn_4096, cn_8400, cn_9999, cn_10000, cn_12345, cn_32767, cn_999999, cn_252645135, cn_858993459, cn_1103515245, cn_1431655765, cn_2147483647, wK_v, wK_r, List.getElem?_cons_zero, List.getElem?_cons_succ, Int.reduceToNat, Nat.reduceDiv, Nat.reduceMod, Nat.reduceMul, Nat.reduceAdd, Nat.reduceLT, Nat.reduceLeDiff, Nat.reduceEqDiff, fx_set, fx_fix, fx_fit, List.length_cons, List.length_nil, List.set_cons_zero, List.set_cons_succ, and_true, true_and, if_true, if_false, ↓reduceIte, and_self, true_or, or_true, not_false_iff, not_true, wr_ii, wr_is, wr_iv, wg_i_, wg_l_, wg_a1, wg_a2, wg_o_, wg_n_, wg_f_, wg_s_, wg_I_, wg_L_, wg_A_, wg_si_, wg_sb_, wg_sl_, wg_m_, wg_c_, wg_t_, List.drop_succ_cons, List.drop_zero, List.take_succ_cons, List.take_zero, List.reverse_cons, List.reverse_nil, List.nil_append, List.cons_append, w11]
  -- from the bracket on
  have tail : ∀ (f2 : Nat → va_E) (z1 : Zt) (W1 : Wt) (v4 : Int32) (v5 : Value), (∀ c, c ≠ 1 → c < 21 ∨ 24 < c → f2 c = f c) → ct f2 T e z1 → wsz f2 rf z1 W1 → (v4 = -1 ∨ ∃ i, i < 150 ∧ v4 = nI i) → (match rdn T e (we T e q) 0 41 with
      | .inl x => z1 = .inl x
      | .inr (N, r) => (∃ mq, z1 = .inr (r, mq)) ∧ W1 = W ++ [(6, N, 0)] ∧ v4 = nI W.length) → wC sc (d + 5) (pg_hd 81) cm_81 (.aload 1 :: .iconst 91 :: .invokeinterface 20 72 :: .aload 0 :: .aload 1 :: .aload 2 :: .iload 3 :: .iconst 1 :: .iadd :: .invokeinterface 77 197 :: .aload 1 :: .iconst 93 :: .invokeinterface 20 72 :: .aload 0 :: .iconst 7 :: .iload 4 :: .iconst 0 :: .invokeinterface 75 197 :: .istore 5 :: .iload 4 :: .ifCond .lt 47 :: cb_81_39) [.ref 21, .ref 1, .ref b, .int (nI op), .int v4, v5] [] (n, cc, ss, f2) Q := by
    intro f2 z1 W1 v4 v5 fr2 hz1 wz1 hv4 hR
    obtain ⟨fs2, ho2⟩ := ct_o hz1
    simp (disch := omega) only [wC_goto, wC_iconst, wC_ldc2, wC_ldc, wC_getstatic, wC_iadd, wC_isub, wC_imul, wC_iand, wC_ior, wC_ixor, wC_ishl, wC_ishr, wC_iushr, wC_ladd, wC_lmul, wC_land, wC_lcmp, wC_lshl, wC_lshr, wC_i2l, wC_i2b, wC_i2c, wC_popi, wC_popa, wC_dupi, wC_dupa, wC_dup2, wC_idiv, wC_irem, wC_ldiv, wC_lrem, wr_iload, wr_lload, wr_aload, wC_istore, wC_astore, wC_lstore, wr_iinc, wC_icmp_eq, wC_icmp_ne, wC_icmp_lt, wC_icmp_ge, wC_icmp_gt, wC_icmp_le, wC_ifc_eq, wC_ifc_ne, wC_ifc_lt, wC_ifc_ge, wC_ifc_gt, wC_ifc_le, wC_tab, wr_getf, wr_putf, wr_iaload, wr_baload, wr_laload, wr_iastore, wr_bastore, wr_lastore, wr_aaload, wr_alen, wC_slen, wC_sald, wC_new, wC_newa, wC_newq, wC_oinit, wC_math, wC_iret, wC_lret, wC_vret, wC_zret, wC_cret, wC_jsr, wi_c_, fx_low, List.map_cons, List.map_nil, List.sum_cons, List.sum_nil, fl_int, fl_ref, fl_ra, fl_long, decide_eq_true_eq, decide_true, kk_ltT, kk_ltF, kk_leT, kk_leF, kk_eqT, kk_eqF, kk_0T, kk_0F, kk_g0T, kk_g0F, kk_l0T, kk_l0F, kk_inT, kk_lt0, kk_ge0, kk_m1, kk_m1', kk_m1lt, kk_m1le, kk_m1ltF, kk_m1leT, kk_mm, kk_mm2, kk_mm3, kk_mm4, kk_mm5, kk_cl, kk_sub, kk_p1, kk_shl, kk_shr, kk_and, kk_or, kk_xor, kk_rem2, kk_div, kk_len, kk_z1, kk_ln, kk_i2l, lN_add, lN_mul, kk_tb, kk_b0, kk_b1, nI_add, pk_mul, va_up_ne', va_up_se, va_up_up, ne_eq, not_false_eq_true, not_true_eq_false, false_or, or_false, eq_self, Nat.reducePow, Nat.reduceSub, Nat.reduceBEq, Nat.one_mul, Nat.zero_add, Nat.add_zero, Nat.zero_mul, Nat.mul_zero, cn_m20, cn_m8, cn_m1, cn_0, cn_1, cn_2, cn_3, cn_4, cn_5, cn_6, cn_7, cn_8, cn_9, cn_10, cn_11, cn_12, cn_15, cn_16, cn_20, cn_24, cn_30, cn_31, cn_32, cn_33, cn_34, cn_35, cn_37, cn_40, cn_41, cn_42, cn_43, cn_44, cn_45, cn_47, cn_48, cn_57, cn_59, cn_60, cn_63, cn_91, cn_93, cn_96, cn_97, cn_99, cn_100, cn_122, cn_128, cn_150, cn_200, cn_255, cn_400, cn_560, cn_596, cn_600, cn_999, cn_1024, cn_1788, cn_4096, cn_8400, cn_9999, cn_10000, cn_12345, cn_32767, cn_999999, cn_252645135, cn_858993459, cn_1103515245, cn_1431655765, cn_2147483647, wK_v, wK_r, List.getElem?_cons_zero, List.getElem?_cons_succ, Int.reduceToNat, Nat.reduceDiv, Nat.reduceMod, Nat.reduceMul, Nat.reduceAdd, Nat.reduceLT, Nat.reduceLeDiff, Nat.reduceEqDiff, fx_set, fx_fix, fx_fit, List.length_cons, List.length_nil, List.set_cons_zero, List.set_cons_succ, and_true, true_and, if_true, if_false, ↓reduceIte, and_self, true_or, or_true, not_false_iff, not_true, wr_ii, wr_is, wr_iv, wg_i_, wg_l_, wg_a1, wg_a2, wg_o_, wg_n_, wg_f_, wg_s_, wg_I_, wg_L_, wg_A_, wg_si_, wg_sb_, wg_sl_, wg_m_, wg_c_, wg_t_, List.drop_succ_cons, List.drop_zero, List.take_succ_cons, List.take_zero, List.reverse_cons, List.reverse_nil, List.nil_append, List.cons_append, ho2]
    refine sp_sg (d := d + 3) (by omega) hz1 (fun f3 fr3 hz3 => ?_)
    have wz3 : wsz f3 rf (sgz T e 91 z1) W1 := by
      rcases z1 with x | ⟨p1, mq1⟩
      · exact ws_sh_fr wz1 (fun c _ _ => fr3 c (by omega))
      · rw [sgz_P]
        cases sgP T e 91 p1 with
        | inl x => exact ws_at_sh (ws_at_fr wz1 (fun c _ _ => fr3 c (by omega)))
        | inr r => exact ws_at_fr wz1 (fun c _ _ => fr3 c (by omega))
    have t3 := tn_at_fr (f' := f3) ht (fun c c1 c2 => by rw [fr3 c (by omega), fr2 c (by omega) (by omega)])
    obtain ⟨z9, _, w31, _⟩ := wsz_sh wz3
    simp (disch := omega) only [wC_goto, wC_iconst, wC_ldc2, wC_ldc, wC_getstatic, wC_iadd, wC_isub, wC_imul, wC_iand, wC_ior, wC_ixor, wC_ishl, wC_ishr, wC_iushr, wC_ladd, wC_lmul, wC_land, wC_lcmp, wC_lshl, wC_lshr, wC_i2l, wC_i2b, wC_i2c, wC_popi, wC_popa, wC_dupi, wC_dupa, wC_dup2, wC_idiv, wC_irem, wC_ldiv, wC_lrem, wr_iload, wr_lload, wr_aload, wC_istore, wC_astore, wC_lstore, wr_iinc, wC_icmp_eq, wC_icmp_ne, wC_icmp_lt, wC_icmp_ge, wC_icmp_gt, wC_icmp_le, wC_ifc_eq, wC_ifc_ne, wC_ifc_lt, wC_ifc_ge, wC_ifc_gt, wC_ifc_le, wC_tab, wr_getf, wr_putf, wr_iaload, wr_baload, wr_laload, wr_iastore, wr_bastore, wr_lastore, wr_aaload, wr_alen, wC_slen, wC_sald, wC_new, wC_newa, wC_newq, wC_oinit, wC_math, wC_iret, wC_lret, wC_vret, wC_zret, wC_cret, wC_jsr, wi_c_, fx_low, List.map_cons, List.map_nil, List.sum_cons, List.sum_nil, fl_int, fl_ref, fl_ra, fl_long, decide_eq_true_eq, decide_true, kk_ltT, kk_ltF, kk_leT, kk_leF, kk_eqT, kk_eqF, kk_0T, kk_0F, kk_g0T, kk_g0F, kk_l0T, kk_l0F, kk_inT, kk_lt0, kk_ge0, kk_m1, kk_m1', kk_m1lt, kk_m1le, kk_m1ltF, kk_m1leT, kk_mm, kk_mm2, kk_mm3, kk_mm4, kk_mm5, kk_cl, kk_sub, kk_p1, kk_shl, kk_shr, kk_and, kk_or, kk_xor, kk_rem2, kk_div, kk_len, kk_z1, kk_ln, kk_i2l, lN_add, lN_mul, kk_tb, kk_b0, kk_b1, nI_add, pk_mul, va_up_ne', va_up_se, va_up_up, ne_eq, not_false_eq_true, not_true_eq_false, false_or, or_false, eq_self, Nat.reducePow, Nat.reduceSub, Nat.reduceBEq, Nat.one_mul, Nat.zero_add, Nat.add_zero, Nat.zero_mul, Nat.mul_zero, cn_m20, cn_m8, cn_m1, cn_0, cn_1, cn_2, cn_3, cn_4, cn_5, cn_6, cn_7, cn_8, cn_9, cn_10, cn_11, cn_12, cn_15, cn_16, cn_20, cn_24, cn_30, cn_31, cn_32, cn_33, cn_34, cn_35, cn_37, cn_40, cn_41, cn_42, cn_43, cn_44, cn_45, cn_47, cn_48, cn_57, cn_59, cn_60, cn_63, cn_91, cn_93, cn_96, cn_97, cn_99, cn_100, cn_122, cn_128, cn_150, cn_200, cn_255, cn_400, cn_560, cn_596, cn_600, cn_999, cn_1024, cn_1788, cn_4096, cn_8400, cn_9999, cn_10000, cn_12345, cn_32767, cn_999999, cn_252645135, cn_858993459, cn_1103515245, cn_1431655765, cn_2147483647, wK_v, wK_r, List.getElem?_cons_zero, List.getElem?_cons_succ, Int.reduceToNat, Nat.reduceDiv, Nat.reduceMod, Nat.reduceMul, Nat.reduceAdd, Nat.reduceLT, Nat.reduceLeDiff, Nat.reduceEqDiff, fx_set, fx_fix, fx_fit, List.length_cons, List.length_nil, List.set_cons_zero, List.set_cons_succ, and_true, true_and, if_true, if_false, ↓reduceIte, and_self, true_or, or_true, not_false_iff, not_true, wr_ii, wr_is, wr_iv, wg_i_, wg_l_, wg_a1, wg_a2, wg_o_, wg_n_, wg_f_, wg_s_, wg_I_, wg_L_, wg_A_, wg_si_, wg_sb_, wg_sl_, wg_m_, wg_c_, wg_t_, List.drop_succ_cons, List.drop_zero, List.take_succ_cons, List.take_zero, List.reverse_cons, List.reverse_nil, List.nil_append, List.cons_append, w31]
    have c3 : ∀ p mq, sgz T e 91 z1 = .inr (p, mq) → W1.length ≤ p := by
      intro p mq h9
      obtain ⟨p0, e1, e2⟩ := sgz_inr h9
      subst e1
      cases hr : rdn T e (we T e q) 0 41 with
      | inl x => rw [hr] at hR; cases hR
      | inr x =>
        obtain ⟨N, r⟩ := x
        rw [hr] at hR
        dsimp only at hR
        obtain ⟨⟨mq9, e3⟩, e4, e5⟩ := hR
        cases e3
        have a1 := rdn_inr hr hwe
        have a2 := sgP_ok e2 a1.2.2.2.1
        rw [e4, List.length_append]
        show W.length + 1 ≤ p
        omega
    refine hs n cc ss (jm + 1) f3 _ W1 rf _ hz3 wz3 t3 c3 (fun f4 z4 W4 fr4 hz4 wz4 R4 => ?_)
    obtain ⟨fs4, ho4⟩ := ct_o hz4
    simp (disch := omega) only [wC_goto, wC_iconst, wC_ldc2, wC_ldc, wC_getstatic, wC_iadd, wC_isub, wC_imul, wC_iand, wC_ior, wC_ixor, wC_ishl, wC_ishr, wC_iushr, wC_ladd, wC_lmul, wC_land, wC_lcmp, wC_lshl, wC_lshr, wC_i2l, wC_i2b, wC_i2c, wC_popi, wC_popa, wC_dupi, wC_dupa, wC_dup2, wC_idiv, wC_irem, wC_ldiv, wC_lrem, wr_iload, wr_lload, wr_aload, wC_istore, wC_astore, wC_lstore, wr_iinc, wC_icmp_eq, wC_icmp_ne, wC_icmp_lt, wC_icmp_ge, wC_icmp_gt, wC_icmp_le, wC_ifc_eq, wC_ifc_ne, wC_ifc_lt, wC_ifc_ge, wC_ifc_gt, wC_ifc_le, wC_tab, wr_getf, wr_putf, wr_iaload, wr_baload, wr_laload, wr_iastore, wr_bastore, wr_lastore, wr_aaload, wr_alen, wC_slen, wC_sald, wC_new, wC_newa, wC_newq, wC_oinit, wC_math, wC_iret, wC_lret, wC_vret, wC_zret, wC_cret, wC_jsr, wi_c_, fx_low, List.map_cons, List.map_nil, List.sum_cons, List.sum_nil, fl_int, fl_ref, fl_ra, fl_long, decide_eq_true_eq, decide_true, kk_ltT, kk_ltF, kk_leT, kk_leF, kk_eqT, kk_eqF, kk_0T, kk_0F, kk_g0T, kk_g0F, kk_l0T, kk_l0F, kk_inT, kk_lt0, kk_ge0, kk_m1, kk_m1', kk_m1lt, kk_m1le, kk_m1ltF, kk_m1leT, kk_mm, kk_mm2, kk_mm3, kk_mm4, kk_mm5, kk_cl, kk_sub, kk_p1, kk_shl, kk_shr, kk_and, kk_or, kk_xor, kk_rem2, kk_div, kk_len, kk_z1, kk_ln, kk_i2l, lN_add, lN_mul, kk_tb, kk_b0, kk_b1, nI_add, pk_mul, va_up_ne', va_up_se, va_up_up, ne_eq, not_false_eq_true, not_true_eq_false, false_or, or_false, eq_self, Nat.reducePow, Nat.reduceSub, Nat.reduceBEq, Nat.one_mul, Nat.zero_add, Nat.add_zero, Nat.zero_mul, Nat.mul_zero, cn_m20, cn_m8, cn_m1, cn_0, cn_1, cn_2, cn_3, cn_4, cn_5, cn_6, cn_7, cn_8, cn_9, cn_10, cn_11, cn_12, cn_15, cn_16, cn_20, cn_24, cn_30, cn_31, cn_32, cn_33, cn_34, cn_35, cn_37, cn_40, cn_41, cn_42, cn_43, cn_44, cn_45, cn_47, cn_48, cn_57, cn_59, cn_60, cn_63, cn_91, cn_93, cn_96, cn_97, cn_99, cn_100, cn_122, cn_128, cn_150, cn_200, cn_255, cn_400, cn_560, cn_596, cn_600, cn_999, cn_1024, cn_1788, cn_4096, cn_8400, cn_9999, cn_10000, cn_12345, cn_32767, cn_999999, cn_252645135, cn_858993459, cn_1103515245, cn_1431655765, cn_2147483647, wK_v, wK_r, List.getElem?_cons_zero, List.getElem?_cons_succ, Int.reduceToNat, Nat.reduceDiv, Nat.reduceMod, Nat.reduceMul, Nat.reduceAdd, Nat.reduceLT, Nat.reduceLeDiff, Nat.reduceEqDiff, fx_set, fx_fix, fx_fit, List.length_cons, List.length_nil, List.set_cons_zero, List.set_cons_succ, and_true, true_and, if_true, if_false, ↓reduceIte, and_self, true_or, or_true, not_false_iff, not_true, wr_ii, wr_is, wr_iv, wg_i_, wg_l_, wg_a1, wg_a2, wg_o_, wg_n_, wg_f_, wg_s_, wg_I_, wg_L_, wg_A_, wg_si_, wg_sb_, wg_sl_, wg_m_, wg_c_, wg_t_, List.drop_succ_cons, List.drop_zero, List.take_succ_cons, List.take_zero, List.reverse_cons, List.reverse_nil, List.nil_append, List.cons_append, ho4]
    refine sp_sg (d := d + 3) (by omega) hz4 (fun f5 fr5 hz5 => ?_)
    have fr5' : ∀ c, c ≠ 1 → c < 21 ∨ 24 < c → f5 c = f c := fun c a1 a2 => by rw [fr5 c a1, fr4 c a1 a2, fr3 c a1, fr2 c a1 a2]
    have sh5 : ws_sh f5 rf := ws_sh_fr (wsz_sh wz4) (fun c _ _ => fr5 c (by omega))
    obtain ⟨z9, _, w51, _⟩ := id sh5
    -- what the reading comes to
    have dead : ∀ x, sgz T e 93 z4 = .inl x → (match agP T e bb (we T e q) W.length jm with
        | .inl x => sgz T e 93 z4 = .inl x
        | .inr (r, cl, _, _) => (∃ mq, sgz T e 93 z4 = .inr (r, mq)) ∧ ([] : Wt) = W ++ cl) := by
      intro x hx
      unfold agP
      cases hr : rdn T e (we T e q) 0 41 with
      | inl y =>
        rw [hr] at hR
        dsimp only at hR ⊢
        subst hR
        simp only [wkR, sgz] at R4
        subst R4
        rfl
      | inr y =>
        obtain ⟨N, r⟩ := y
        rw [hr] at hR
        dsimp only at hR ⊢
        obtain ⟨⟨mq9, e3⟩, e4, e5⟩ := hR
        subst e3
        rw [sgz_P] at R4
        cases h91 : sgP T e 91 r with
        | inl y =>
          rw [h91] at R4
          simp only [wkR] at R4
          subst R4
          rfl
        | inr r1 =>
          rw [h91] at R4
          simp only [wkR] at R4
          have hl1 : W1.length = W.length + 1 := by rw [e4, List.length_append]; rfl
          rw [hl1] at R4
          cases hbb : bb r1 (W.length + 1) (jm + 1) with
          | inl y =>
            rw [hbb] at R4
            dsimp only at R4 ⊢
            subst R4
            simp only [hbb, sgz]
          | inr y =>
            obtain ⟨r2, cl, ml, G⟩ := y
            rw [hbb] at R4
            dsimp only at R4 ⊢
            obtain ⟨⟨mq8, e6⟩, e7⟩ := R4
            subst e6
            rw [sgz_P] at hx ⊢
            cases h93 : sgP T e 93 r2 with
            | inl y => simp only [hbb, h93]
            | inr r3 => rw [h93] at hx; cases hx
    cases h5 : sgz T e 93 z4 with
    | inl x =>
      simp (disch := omega) only [wC_goto, wC_iconst, wC_ldc2, wC_ldc, wC_getstatic, wC_iadd, wC_isub, wC_imul, wC_iand, wC_ior, wC_ixor, wC_ishl, wC_ishr, wC_iushr, wC_ladd, wC_lmul, wC_land, wC_lcmp, wC_lshl, wC_lshr, wC_i2l, wC_i2b, wC_i2c, wC_popi, wC_popa, wC_dupi, wC_dupa, wC_dup2, wC_idiv, wC_irem, wC_ldiv, wC_lrem, wr_iload, wr_lload, wr_aload, wC_istore, wC_astore, wC_lstore, wr_iinc, wC_icmp_eq, wC_icmp_ne, wC_icmp_lt, wC_icmp_ge, wC_icmp_gt, wC_icmp_le, wC_ifc_eq, wC_ifc_ne, wC_ifc_lt, wC_ifc_ge, wC_ifc_gt, wC_ifc_le, wC_tab, wr_getf, wr_putf, wr_iaload, wr_baload, wr_laload, wr_iastore, wr_bastore, wr_lastore, wr_aaload, wr_alen, wC_slen, wC_sald, wC_new, wC_newa, wC_newq, wC_oinit, wC_math, wC_iret, wC_lret, wC_vret, wC_zret, wC_cret, wC_jsr, wi_c_, fx_low, List.map_cons, List.map_nil, List.sum_cons, List.sum_nil, fl_int, fl_ref, fl_ra, fl_long, decide_eq_true_eq, decide_true, kk_ltT, kk_ltF, kk_leT, kk_leF, kk_eqT, kk_eqF, kk_0T, kk_0F, kk_g0T, kk_g0F, kk_l0T, kk_l0F, kk_inT, kk_lt0, kk_ge0, kk_m1, kk_m1', kk_m1lt, kk_m1le, kk_m1ltF, kk_m1leT, kk_mm, kk_mm2, kk_mm3, kk_mm4, kk_mm5, kk_cl, kk_sub, kk_p1, kk_shl, kk_shr, kk_and, kk_or, kk_xor, kk_rem2, kk_div, kk_len, kk_z1, kk_ln, kk_i2l, lN_add, lN_mul, kk_tb, kk_b0, kk_b1, nI_add, pk_mul, va_up_ne', va_up_se, va_up_up, ne_eq, not_false_eq_true, not_true_eq_false, false_or, or_false, eq_self, Nat.reducePow, Nat.reduceSub, Nat.reduceBEq, Nat.one_mul, Nat.zero_add, Nat.add_zero, Nat.zero_mul, Nat.mul_zero, cn_m20, cn_m8, cn_m1, cn_0, cn_1, cn_2, cn_3, cn_4, cn_5, cn_6, cn_7, cn_8, cn_9, cn_10, cn_11, cn_12, cn_15, cn_16, cn_20, cn_24, cn_30, cn_31, cn_32, cn_33, cn_34, cn_35, cn_37, cn_40, cn_41, cn_42, cn_43, cn_44, cn_45, cn_47, cn_48, cn_57, cn_59, cn_60, cn_63, cn_91, cn_93, cn_96, cn_97, cn_99, cn_100, cn_122, cn_128, cn_150, cn_200, cn_255, cn_400, cn_560, cn_596, cn_600, cn_999, cn_1024, cn_1788, cn_4096, cn_8400, cn_9999, cn_10000, cn_12345, cn_32767, cn_999999, cn_252645135, cn_858993459, cn_1103515245, cn_1431655765, cn_2147483647, wK_v, wK_r, List.getElem?_cons_zero, List.getElem?_cons_succ, Int.reduceToNat, Nat.reduceDiv, Nat.reduceMod, Nat.reduceMul, Nat.reduceAdd, Nat.reduceLT, Nat.reduceLeDiff, Nat.reduceEqDiff, fx_set, fx_fix, fx_fit, List.length_cons, List.length_nil, List.set_cons_zero, List.set_cons_succ, and_true, true_and, if_true, if_false, ↓reduceIte, and_self, true_or, or_true, not_false_iff, not_true, wr_ii, wr_is, wr_iv, wg_i_, wg_l_, wg_a1, wg_a2, wg_o_, wg_n_, wg_f_, wg_s_, wg_I_, wg_L_, wg_A_, wg_si_, wg_sb_, wg_sl_, wg_m_, wg_c_, wg_t_, List.drop_succ_cons, List.drop_zero, List.take_succ_cons, List.take_zero, List.reverse_cons, List.reverse_nil, List.nil_append, List.cons_append, w51]
      refine sp_sputS (d := d + 4) sh5 (fun f6 r6 fr6 sh6 hr6 => ?_)
      have D := dead x h5
      have fin : ∀ f7, (∀ c, c < 21 ∨ 24 < c → f7 c = f6 c) → ws_sh f7 rf → Q (.inl none, (n, cc, ss, f7)) := by
        intro f7 fr7 sh7
        refine hq f7 (.inl x) [] (fun c a1 a2 => by rw [fr7 c a2, fr6 c a2, fr5' c a1 a2]) (ct_fr (by rw [h5] at hz5; exact hz5) (by rw [fr7 _ (by omega), fr6 _ (by omega)]) (by rw [fr7 _ (by omega), fr6 _ (by omega)])) sh7 ?_
        rw [h5] at D
        exact D
      obtain ⟨z8, z81, z82, ⟨g8, z83⟩, ⟨g9, z84⟩, ⟨g10, z85⟩⟩ := id sh6
      rcases hv4 with rfl | ⟨i, i1, rfl⟩
      · simp (disch := omega) only [cb_81_0, cb_81_3, cb_81_9, cb_81_39, cb_81_42, cb_81_47, jb_81_3, jb_81_9, jb_81_39, jb_81_42, jb_81_47, wC_goto, wC_iconst, wC_ldc2, wC_ldc, wC_getstatic, wC_iadd, wC_isub, wC_imul, wC_iand, wC_ior, wC_ixor, wC_ishl, wC_ishr, wC_iushr, wC_ladd, wC_lmul, wC_land, wC_lcmp, wC_lshl, wC_lshr, wC_i2l, wC_i2b, wC_i2c, wC_popi, wC_popa, wC_dupi, wC_dupa, wC_dup2, wC_idiv, wC_irem, wC_ldiv, wC_lrem, wr_iload, wr_lload, wr_aload, wC_istore, wC_astore, wC_lstore, wr_iinc, wC_icmp_eq, wC_icmp_ne, wC_icmp_lt, wC_icmp_ge, wC_icmp_gt, wC_icmp_le, wC_ifc_eq, wC_ifc_ne, wC_ifc_lt, wC_ifc_ge, wC_ifc_gt, wC_ifc_le, wC_tab, wr_getf, wr_putf, wr_iaload, wr_baload, wr_laload, wr_iastore, wr_bastore, wr_lastore, wr_aaload, wr_alen, wC_slen, wC_sald, wC_new, wC_newa, wC_newq, wC_oinit, wC_math, wC_iret, wC_lret, wC_vret, wC_zret, wC_cret, wC_jsr, wi_c_, fx_low, List.map_cons, List.map_nil, List.sum_cons, List.sum_nil, fl_int, fl_ref, fl_ra, fl_long, decide_eq_true_eq, decide_true, kk_ltT, kk_ltF, kk_leT, kk_leF, kk_eqT, kk_eqF, kk_0T, kk_0F, kk_g0T, kk_g0F, kk_l0T, kk_l0F, kk_inT, kk_lt0, kk_ge0, kk_m1, kk_m1', kk_m1lt, kk_m1le, kk_m1ltF, kk_m1leT, kk_mm, kk_mm2, kk_mm3, kk_mm4, kk_mm5, kk_cl, kk_sub, kk_p1, kk_shl, kk_shr, kk_and, kk_or, kk_xor, kk_rem2, kk_div, kk_len, kk_z1, kk_ln, kk_i2l, lN_add, lN_mul, kk_tb, kk_b0, kk_b1, nI_add, pk_mul, va_up_ne', va_up_se, va_up_up, ne_eq, not_false_eq_true, not_true_eq_false, false_or, or_false, eq_self, Nat.reducePow, Nat.reduceSub, Nat.reduceBEq, Nat.one_mul, Nat.zero_add, Nat.add_zero, Nat.zero_mul, Nat.mul_zero, cn_m20, cn_m8, cn_m1, cn_0, cn_1, cn_2, cn_3, cn_4, cn_5, cn_6, cn_7, cn_8, cn_9, cn_10, cn_11, cn_12, cn_15, cn_16, cn_20, cn_24, cn_30, cn_31, cn_32, cn_33, cn_34, cn_35, cn_37, cn_40, cn_41, cn_42, cn_43, cn_44, cn_45, cn_47, cn_48, cn_57, cn_59, cn_60, cn_63, cn_91, cn_93, cn_96, cn_97, cn_99, cn_100, cn_122, cn_128, cn_150, cn_200, cn_255, cn_400, cn_560, cn_596, cn_600, cn_999, cn_1024, cn_1788, cn_4096, cn_8400, cn_9999, cn_10000, cn_12345, cn_32767, cn_999999, cn_252645135, cn_858993459, cn_1103515245, cn_1431655765, cn_2147483647, wK_v, wK_r, List.getElem?_cons_zero, List.getElem?_cons_succ, Int.reduceToNat, Nat.reduceDiv, Nat.reduceMod, Nat.reduceMul, Nat.reduceAdd, Nat.reduceLT, Nat.reduceLeDiff, Nat.reduceEqDiff, fx_set, fx_fix, fx_fit, List.length_cons, List.length_nil, List.set_cons_zero, List.set_cons_succ, and_true, true_and, if_true, if_false, ↓reduceIte, and_self, true_or, or_true, not_false_iff, not_true, wr_ii, wr_is, wr_iv, wg_i_, wg_l_, wg_a1, wg_a2, wg_o_, wg_n_, wg_f_, wg_s_, wg_I_, wg_L_, wg_A_, wg_si_, wg_sb_, wg_sl_, wg_m_, wg_c_, wg_t_, List.drop_succ_cons, List.drop_zero, List.take_succ_cons, List.take_zero, List.reverse_cons, List.reverse_nil, List.nil_append, List.cons_append]
        exact fin f6 (fun _ _ => rfl) sh6
      · simp (disch := omega) only [cb_81_0, cb_81_3, cb_81_9, cb_81_39, cb_81_42, cb_81_47, jb_81_3, jb_81_9, jb_81_39, jb_81_42, jb_81_47, wC_goto, wC_iconst, wC_ldc2, wC_ldc, wC_getstatic, wC_iadd, wC_isub, wC_imul, wC_iand, wC_ior, wC_ixor, wC_ishl, wC_ishr, wC_iushr, wC_ladd, wC_lmul, wC_land, wC_lcmp, wC_lshl, wC_lshr, wC_i2l, wC_i2b, wC_i2c, wC_popi, wC_popa, wC_dupi, wC_dupa, wC_dup2, wC_idiv, wC_irem, wC_ldiv, wC_lrem, wr_iload, wr_lload, wr_aload, wC_istore, wC_astore, wC_lstore, wr_iinc, wC_icmp_eq, wC_icmp_ne, wC_icmp_lt, wC_icmp_ge, wC_icmp_gt, wC_icmp_le, wC_ifc_eq, wC_ifc_ne, wC_ifc_lt, wC_ifc_ge, wC_ifc_gt, wC_ifc_le, wC_tab, wr_getf, wr_putf, wr_iaload, wr_baload, wr_laload, wr_iastore, wr_bastore, wr_lastore, wr_aaload, wr_alen, wC_slen, wC_sald, wC_new, wC_newa, wC_newq, wC_oinit, wC_math, wC_iret, wC_lret, wC_vret, wC_zret, wC_cret, wC_jsr, wi_c_, fx_low, List.map_cons, List.map_nil, List.sum_cons, List.sum_nil, fl_int, fl_ref, fl_ra, fl_long, decide_eq_true_eq, decide_true, kk_ltT, kk_ltF, kk_leT, kk_leF, kk_eqT, kk_eqF, kk_0T, kk_0F, kk_g0T, kk_g0F, kk_l0T, kk_l0F, kk_inT, kk_lt0, kk_ge0, kk_m1, kk_m1', kk_m1lt, kk_m1le, kk_m1ltF, kk_m1leT, kk_mm, kk_mm2, kk_mm3, kk_mm4, kk_mm5, kk_cl, kk_sub, kk_p1, kk_shl, kk_shr, kk_and, kk_or, kk_xor, kk_rem2, kk_div, kk_len, kk_z1, kk_ln, kk_i2l, lN_add, lN_mul, kk_tb, kk_b0, kk_b1, nI_add, pk_mul, va_up_ne', va_up_se, va_up_up, ne_eq, not_false_eq_true, not_true_eq_false, false_or, or_false, eq_self, Nat.reducePow, Nat.reduceSub, Nat.reduceBEq, Nat.one_mul, Nat.zero_add, Nat.add_zero, Nat.zero_mul, Nat.mul_zero, cn_m20, cn_m8, cn_m1, cn_0, cn_1, cn_2, cn_3, cn_4, cn_5, cn_6, cn_7, cn_8, cn_9, cn_10, cn_11, cn_12, cn_15, cn_16, cn_20, cn_24, cn_30, cn_31, cn_32, cn_33, cn_34, cn_35, cn_37, cn_40, cn_41, cn_42, cn_43, cn_44, cn_45, cn_47, cn_48, cn_57, cn_59, cn_60, cn_63, cn_91, cn_93, cn_96, cn_97, cn_99, cn_100, cn_122, cn_128, cn_150, cn_200, cn_255, cn_400, cn_560, cn_596, cn_600, cn_999, cn_1024, cn_1788, cn_4096, cn_8400, cn_9999, cn_10000, cn_12345, cn_32767, cn_999999, cn_252645135, cn_858993459, cn_1103515245, cn_1431655765, cn_2147483647, wK_v, wK_r, List.getElem?_cons_zero, List.getElem?_cons_succ, Int.reduceToNat, Nat.reduceDiv, Nat.reduceMod, Nat.reduceMul, Nat.reduceAdd, Nat.reduceLT, Nat.reduceLeDiff, Nat.reduceEqDiff, fx_set, fx_fix, fx_fit, List.length_cons, List.length_nil, List.set_cons_zero, List.set_cons_succ, and_true, true_and, if_true, if_false, ↓reduceIte, and_self, true_or, or_true, not_false_iff, not_true, wr_ii, wr_is, wr_iv, wg_i_, wg_l_, wg_a1, wg_a2, wg_o_, wg_n_, wg_f_, wg_s_, wg_I_, wg_L_, wg_A_, wg_si_, wg_sb_, wg_sl_, wg_m_, wg_c_, wg_t_, List.drop_succ_cons, List.drop_zero, List.take_succ_cons, List.take_zero, List.reverse_cons, List.reverse_nil, List.nil_append, List.cons_append, z82, z85]
        exact fin _ (fun c hc => va_up_ne' (by omega)) ⟨z8, z81, by rw [va_up_ne' (by omega)]; exact z82, ⟨g8, by rw [va_up_ne' (by omega)]; exact z83⟩, ⟨g9, by rw [va_up_ne' (by omega)]; exact z84⟩, ⟨_, va_up_se⟩⟩
    | inr x =>
      obtain ⟨p5, mq5⟩ := x
      obtain ⟨p4, e41, e42⟩ := sgz_inr h5
      subst e41
      unfold wkR at R4
      cases hr : rdn T e (we T e q) 0 41 with
      | inl y =>
        rw [hr] at hR
        dsimp only at hR
        subst hR
        simp only [sgz] at R4
        cases R4
      | inr y =>
        obtain ⟨N, r⟩ := y
        rw [hr] at hR
        dsimp only at hR
        obtain ⟨⟨mq9, e3⟩, e4, e5⟩ := hR
        subst e3
        subst e5
        have a1 := rdn_inr hr hwe
        rw [sgz_P] at R4
        cases h91 : sgP T e 91 r with
        | inl y => rw [h91] at R4; cases R4
        | inr r1 =>
          rw [h91] at R4
          dsimp only at R4
          have a2 := sgP_ok h91 a1.2.2.2.1
          have hl1 : W1.length = W.length + 1 := by rw [e4, List.length_append]; rfl
          rw [hl1] at R4
          cases hbb : bb r1 (W.length + 1) (jm + 1) with
          | inl y => rw [hbb] at R4; cases R4
          | inr y =>
            obtain ⟨r2, cl, ml, G⟩ := y
            rw [hbb] at R4
            dsimp only at R4
            obtain ⟨⟨mq8, e6⟩, e7⟩ := R4
            cases e6
            obtain ⟨g1, g2, g3, g4, g5, g6, g7⟩ := (hg r1 (W.length + 1) (jm + 1) a2.2.1).2 _ _ _ _ hbb
            have hl4 : W4.length = W.length + 1 + cl.length := by rw [e7, List.length_append, hl1]
            have w5 : ws_at f5 rf W4 := ws_at_fr wz4 (fun c _ _ => fr5 c (by omega))
            simp (disch := omega) only [wC_goto, wC_iconst, wC_ldc2, wC_ldc, wC_getstatic, wC_iadd, wC_isub, wC_imul, wC_iand, wC_ior, wC_ixor, wC_ishl, wC_ishr, wC_iushr, wC_ladd, wC_lmul, wC_land, wC_lcmp, wC_lshl, wC_lshr, wC_i2l, wC_i2b, wC_i2c, wC_popi, wC_popa, wC_dupi, wC_dupa, wC_dup2, wC_idiv, wC_irem, wC_ldiv, wC_lrem, wr_iload, wr_lload, wr_aload, wC_istore, wC_astore, wC_lstore, wr_iinc, wC_icmp_eq, wC_icmp_ne, wC_icmp_lt, wC_icmp_ge, wC_icmp_gt, wC_icmp_le, wC_ifc_eq, wC_ifc_ne, wC_ifc_lt, wC_ifc_ge, wC_ifc_gt, wC_ifc_le, wC_tab, wr_getf, wr_putf, wr_iaload, wr_baload, wr_laload, wr_iastore, wr_bastore, wr_lastore, wr_aaload, wr_alen, wC_slen, wC_sald, wC_new, wC_newa, wC_newq, wC_oinit, wC_math, wC_iret, wC_lret, wC_vret, wC_zret, wC_cret, wC_jsr, wi_c_, fx_low, List.map_cons, List.map_nil, List.sum_cons, List.sum_nil, fl_int, fl_ref, fl_ra, fl_long, decide_eq_true_eq, decide_true, kk_ltT, kk_ltF, kk_leT, kk_leF, kk_eqT, kk_eqF, kk_0T, kk_0F, kk_g0T, kk_g0F, kk_l0T, kk_l0F, kk_inT, kk_lt0, kk_ge0, kk_m1, kk_m1', kk_m1lt, kk_m1le, kk_m1ltF, kk_m1leT, kk_mm, kk_mm2, kk_mm3, kk_mm4, kk_mm5, kk_cl, kk_sub, kk_p1, kk_shl, kk_shr, kk_and, kk_or, kk_xor, kk_rem2, kk_div, kk_len, kk_z1, kk_ln, kk_i2l, lN_add, lN_mul, kk_tb, kk_b0, kk_b1, nI_add, pk_mul, va_up_ne', va_up_se, va_up_up, ne_eq, not_false_eq_true, not_true_eq_false, false_or, or_false, eq_self, Nat.reducePow, Nat.reduceSub, Nat.reduceBEq, Nat.one_mul, Nat.zero_add, Nat.add_zero, Nat.zero_mul, Nat.mul_zero, cn_m20, cn_m8, cn_m1, cn_0, cn_1, cn_2, cn_3, cn_4, cn_5, cn_6, cn_7, cn_8, cn_9, cn_10, cn_11, cn_12, cn_15, cn_16, cn_20, cn_24, cn_30, cn_31, cn_32, cn_33, cn_34, cn_35, cn_37, cn_40, cn_41, cn_42, cn_43, cn_44, cn_45, cn_47, cn_48, cn_57, cn_59, cn_60, cn_63, cn_91, cn_93, cn_96, cn_97, cn_99, cn_100, cn_122, cn_128, cn_150, cn_200, cn_255, cn_400, cn_560, cn_596, cn_600, cn_999, cn_1024, cn_1788, cn_4096, cn_8400, cn_9999, cn_10000, cn_12345, cn_32767, cn_999999, cn_252645135, cn_858993459, cn_1103515245, cn_1431655765, cn_2147483647, wK_v, wK_r, List.getElem?_cons_zero, List.getElem?_cons_succ, Int.reduceToNat, Nat.reduceDiv, Nat.reduceMod, Nat.reduceMul, Nat.reduceAdd, Nat.reduceLT, Nat.reduceLeDiff, Nat.reduceEqDiff, fx_set, fx_fix, fx_fit, List.length_cons, List.length_nil, List.set_cons_zero, List.set_cons_succ, and_true, true_and, if_true, if_false, ↓reduceIte, and_self, true_or, or_true, not_false_iff, not_true, wr_ii, wr_is, wr_iv, wg_i_, wg_l_, wg_a1, wg_a2, wg_o_, wg_n_, wg_f_, wg_s_, wg_I_, wg_L_, wg_A_, wg_si_, wg_sb_, wg_sl_, wg_m_, wg_c_, wg_t_, List.drop_succ_cons, List.drop_zero, List.take_succ_cons, List.take_zero, List.reverse_cons, List.reverse_nil, List.nil_append, List.cons_append, w51]
            refine sp_sput (d := d + 4) (kd := 7) (a := W.length) (b := 0) w5 (by omega) (fun f6 fr6 w6 => ?_)
            obtain ⟨y1, y2, ⟨g8, y3, k3⟩, ⟨g9, y4, k4⟩, ⟨g10, y5, k5⟩⟩ := id w6
            simp (disch := omega) only [cb_81_0, cb_81_3, cb_81_9, cb_81_39, cb_81_42, cb_81_47, jb_81_3, jb_81_9, jb_81_39, jb_81_42, jb_81_47, wC_goto, wC_iconst, wC_ldc2, wC_ldc, wC_getstatic, wC_iadd, wC_isub, wC_imul, wC_iand, wC_ior, wC_ixor, wC_ishl, wC_ishr, wC_iushr, wC_ladd, wC_lmul, wC_land, wC_lcmp, wC_lshl, wC_lshr, wC_i2l, wC_i2b, wC_i2c, wC_popi, wC_popa, wC_dupi, wC_dupa, wC_dup2, wC_idiv, wC_irem, wC_ldiv, wC_lrem, wr_iload, wr_lload, wr_aload, wC_istore, wC_astore, wC_lstore, wr_iinc, wC_icmp_eq, wC_icmp_ne, wC_icmp_lt, wC_icmp_ge, wC_icmp_gt, wC_icmp_le, wC_ifc_eq, wC_ifc_ne, wC_ifc_lt, wC_ifc_ge, wC_ifc_gt, wC_ifc_le, wC_tab, wr_getf, wr_putf, wr_iaload, wr_baload, wr_laload, wr_iastore, wr_bastore, wr_lastore, wr_aaload, wr_alen, wC_slen, wC_sald, wC_new, wC_newa, wC_newq, wC_oinit, wC_math, wC_iret, wC_lret, wC_vret, wC_zret, wC_cret, wC_jsr, wi_c_, fx_low, List.map_cons, List.map_nil, List.sum_cons, List.sum_nil, fl_int, fl_ref, fl_ra, fl_long, decide_eq_true_eq, decide_true, kk_ltT, kk_ltF, kk_leT, kk_leF, kk_eqT, kk_eqF, kk_0T, kk_0F, kk_g0T, kk_g0F, kk_l0T, kk_l0F, kk_inT, kk_lt0, kk_ge0, kk_m1, kk_m1', kk_m1lt, kk_m1le, kk_m1ltF, kk_m1leT, kk_mm, kk_mm2, kk_mm3, kk_mm4, kk_mm5, kk_cl, kk_sub, kk_p1, kk_shl, kk_shr, kk_and, kk_or, kk_xor, kk_rem2, kk_div, kk_len, kk_z1, kk_ln, kk_i2l, lN_add, lN_mul, kk_tb, kk_b0, kk_b1, nI_add, pk_mul, va_up_ne', va_up_se, va_up_up, ne_eq, not_false_eq_true, not_true_eq_false, false_or, or_false, eq_self, Nat.reducePow, Nat.reduceSub, Nat.reduceBEq, Nat.one_mul, Nat.zero_add, Nat.add_zero, Nat.zero_mul, Nat.mul_zero, cn_m20, cn_m8, cn_m1, cn_0, cn_1, cn_2, cn_3, cn_4, cn_5, cn_6, cn_7, cn_8, cn_9, cn_10, cn_11, cn_12, cn_15, cn_16, cn_20, cn_24, cn_30, cn_31, cn_32, cn_33, cn_34, cn_35, cn_37, cn_40, cn_41, cn_42, cn_43, cn_44, cn_45, cn_47, cn_48, cn_57, cn_59, cn_60, cn_63, cn_91, cn_93, cn_96, cn_97, cn_99, cn_100, cn_122, cn_128, cn_150, cn_200, cn_255, cn_400, cn_560, cn_596, cn_600, cn_999, cn_1024, cn_1788, cn_4096, cn_8400, cn_9999, cn_10000, cn_12345, cn_32767, cn_999999, cn_252645135, cn_858993459, cn_1103515245, cn_1431655765, cn_2147483647, wK_v, wK_r, List.getElem?_cons_zero, List.getElem?_cons_succ, Int.reduceToNat, Nat.reduceDiv, Nat.reduceMod, Nat.reduceMul, Nat.reduceAdd, Nat.reduceLT, Nat.reduceLeDiff, Nat.reduceEqDiff, fx_set, fx_fix, fx_fit, List.length_cons, List.length_nil, List.set_cons_zero, List.set_cons_succ, and_true, true_and, if_true, if_false, ↓reduceIte, and_self, true_or, or_true, not_false_iff, not_true, wr_ii, wr_is, wr_iv, wg_i_, wg_l_, wg_a1, wg_a2, wg_o_, wg_n_, wg_f_, wg_s_, wg_I_, wg_L_, wg_A_, wg_si_, wg_sb_, wg_sl_, wg_m_, wg_c_, wg_t_, List.drop_succ_cons, List.drop_zero, List.take_succ_cons, List.take_zero, List.reverse_cons, List.reverse_nil, List.nil_append, List.cons_append, y1, y5]
            have hQ := hq (va_up f6 24 (ar_I 150 (upd g10 W.length (nI W4.length)))) (.inr (p5, mq5)) (W ++ ((6, N, W.length + 1 + cl.length) :: cl ++ [(7, W.length, 0)])) (fun c a1 a2 => by rw [va_up_ne' (by omega), fr6 c a2, fr5' c a1 a2]) (ct_fr (by rw [h5] at hz5; exact hz5) (by rw [va_up_ne' (by omega), fr6 _ (by omega)]) (by rw [va_up_ne' (by omega), fr6 _ (by omega)]))
            have hag : agP T e bb (we T e q) W.length jm = .inr (p5, (6, N, W.length + 1 + cl.length) :: cl ++ [(7, W.length, 0)], (5, N, 3 * (jm + 1 + ml.length)) :: ml, gL N G) := by
              unfold agP
              simp only [hr, h91, hbb, e42]
            refine hQ ?_ (by rw [hag]; exact ⟨⟨mq5, rfl⟩, rfl⟩)
            have hlen : (W ++ ((6, N, W.length + 1 + cl.length) :: cl ++ [(7, W.length, 0)])).length = (W4 ++ [(7, W.length, 0)]).length := by
              simp only [List.length_append, List.length_cons, List.length_nil]
              omega
            have hW4 : W4 ++ [(7, W.length, 0)] = W ++ ((6, N, 0) :: (cl ++ [(7, W.length, 0)])) := by
              rw [e7, e4]
              simp [List.append_assoc]
            have key : ∀ i y, (W ++ ((6, N, W.length + 1 + cl.length) :: cl ++ [(7, W.length, 0)]))[i]? = some y → (i = W.length ∧ y = (6, N, W4.length)) ∨ (i ≠ W.length ∧ (W4 ++ [(7, W.length, 0)])[i]? = some y) := by
              intro i y hy
              rw [hW4]
              rcases Nat.lt_trichotomy i W.length with q1 | q1 | q1
              · rw [List.getElem?_append_left q1] at hy
                exact Or.inr ⟨by omega, by rw [List.getElem?_append_left q1]; exact hy⟩
              · subst q1
                rw [List.getElem?_append_right (Nat.le_refl _), Nat.sub_self] at hy
                simp at hy
                exact Or.inl ⟨rfl, by rw [← hy, hl4]⟩
              · rw [List.getElem?_append_right (by omega)] at hy
                obtain ⟨x, hx⟩ : ∃ x, i - W.length = x + 1 := ⟨i - W.length - 1, by omega⟩
                rw [hx] at hy
                refine Or.inr ⟨by omega, ?_⟩
                rw [List.getElem?_append_right (by omega), hx]
                exact hy
            refine ⟨by rw [va_up_ne' (by omega), y1, hlen], by rw [hlen]; exact y2, ⟨g8, by rw [va_up_ne' (by omega)]; exact y3, fun i y hy => ?_⟩, ⟨g9, by rw [va_up_ne' (by omega)]; exact y4, fun i y hy => ?_⟩, ⟨_, va_up_se, fun i y hy => ?_⟩⟩
            · rcases key i y hy with ⟨q1, q2⟩ | ⟨q1, q2⟩
              · have := k3 W.length (6, N, 0) (by rw [hW4, List.getElem?_append_right (Nat.le_refl _), Nat.sub_self]; rfl)
                rw [q1, this, q2]
              · exact k3 i y q2
            · rcases key i y hy with ⟨q1, q2⟩ | ⟨q1, q2⟩
              · have := k4 W.length (6, N, 0) (by rw [hW4, List.getElem?_append_right (Nat.le_refl _), Nat.sub_self]; rfl)
                rw [q1, this, q2]
              · exact k4 i y q2
            · rcases key i y hy with ⟨q1, q2⟩ | ⟨q1, q2⟩
              · rw [q1, pk_us, q2]
              · rw [pk_un q1]; exact k5 i y q2
  simp only [rnz, rnv] at hz1 ⊢
  cases hr : rdn T e (we T e q) 0 41 with
  | inl x =>
    rw [hr] at hz1 tail
    dsimp only at hz1 ⊢
    refine sp_sputS (d := d + 4) (ws_at_sh w1) (fun f2 r2 fr2 sh2 hr2 => ?_)
    have := tail f2 (.inl x) [] r2 fx_U (fun c a1 a2 => by rw [fr2 c a2, fr1 c a1]) (ct_fr hz1 (fr2 _ (by omega)) (fr2 _ (by omega))) sh2 hr2 rfl
    simp (disch := omega) only [cb_81_39, cb_81_42, cb_81_47, wC_goto, wC_iconst, wC_ldc2, wC_ldc, wC_getstatic, wC_iadd, wC_isub, wC_imul, wC_iand, wC_ior, wC_ixor, wC_ishl, wC_ishr, wC_iushr, wC_ladd, wC_lmul, wC_land, wC_lcmp, wC_lshl, wC_lshr, wC_i2l, wC_i2b, wC_i2c, wC_popi, wC_popa, wC_dupi, wC_dupa, wC_dup2, wC_idiv, wC_irem, wC_ldiv, wC_lrem, wr_iload, wr_lload, wr_aload, wC_istore, wC_astore, wC_lstore, wr_iinc, wC_icmp_eq, wC_icmp_ne, wC_icmp_lt, wC_icmp_ge, wC_icmp_gt, wC_icmp_le, wC_ifc_eq, wC_ifc_ne, wC_ifc_lt, wC_ifc_ge, wC_ifc_gt, wC_ifc_le, wC_tab, wr_getf, wr_putf, wr_iaload, wr_baload, wr_laload, wr_iastore, wr_bastore, wr_lastore, wr_aaload, wr_alen, wC_slen, wC_sald, wC_new, wC_newa, wC_newq, wC_oinit, wC_math, wC_iret, wC_lret, wC_vret, wC_zret, wC_cret, wC_jsr, wi_c_, fx_low, List.map_cons, List.map_nil, List.sum_cons, List.sum_nil, fl_int, fl_ref, fl_ra, fl_long, decide_eq_true_eq, decide_true, kk_ltT, kk_ltF, kk_leT, kk_leF, kk_eqT, kk_eqF, kk_0T, kk_0F, kk_g0T, kk_g0F, kk_l0T, kk_l0F, kk_inT, kk_lt0, kk_ge0, kk_m1, kk_m1', kk_m1lt, kk_m1le, kk_m1ltF, kk_m1leT, kk_mm, kk_mm2, kk_mm3, kk_mm4, kk_mm5, kk_cl, kk_sub, kk_p1, kk_shl, kk_shr, kk_and, kk_or, kk_xor, kk_rem2, kk_div, kk_len, kk_z1, kk_ln, kk_i2l, lN_add, lN_mul, kk_tb, kk_b0, kk_b1, nI_add, pk_mul, va_up_ne', va_up_se, va_up_up, ne_eq, not_false_eq_true, not_true_eq_false, false_or, or_false, eq_self, Nat.reducePow, Nat.reduceSub, Nat.reduceBEq, Nat.one_mul, Nat.zero_add, Nat.add_zero, Nat.zero_mul, Nat.mul_zero, cn_m20, cn_m8, cn_m1, cn_0, cn_1, cn_2, cn_3, cn_4, cn_5, cn_6, cn_7, cn_8, cn_9, cn_10, cn_11, cn_12, cn_15, cn_16, cn_20, cn_24, cn_30, cn_31, cn_32, cn_33, cn_34, cn_35, cn_37, cn_40, cn_41, cn_42, cn_43, cn_44, cn_45, cn_47, cn_48, cn_57, cn_59, cn_60, cn_63, cn_91, cn_93, cn_96, cn_97, cn_99, cn_100, cn_122, cn_128, cn_150, cn_200, cn_255, cn_400, cn_560, cn_596, cn_600, cn_999, cn_1024, cn_1788, cn_4096, cn_8400, cn_9999, cn_10000, cn_12345, cn_32767, cn_999999, cn_252645135, cn_858993459, cn_1103515245, cn_1431655765, cn_2147483647, wK_v, wK_r, List.getElem?_cons_zero, List.getElem?_cons_succ, Int.reduceToNat, Nat.reduceDiv, Nat.reduceMod, Nat.reduceMul, Nat.reduceAdd, Nat.reduceLT, Nat.reduceLeDiff, Nat.reduceEqDiff, fx_set, fx_fix, fx_fit, List.length_cons, List.length_nil, List.set_cons_zero, List.set_cons_succ, and_true, true_and, if_true, if_false, ↓reduceIte, and_self, true_or, or_true, not_false_iff, not_true, wr_ii, wr_is, wr_iv, wg_i_, wg_l_, wg_a1, wg_a2, wg_o_, wg_n_, wg_f_, wg_s_, wg_I_, wg_L_, wg_A_, wg_si_, wg_sb_, wg_sl_, wg_m_, wg_c_, wg_t_, List.drop_succ_cons, List.drop_zero, List.take_succ_cons, List.take_zero, List.reverse_cons, List.reverse_nil, List.nil_append, List.cons_append] at this ⊢
    exact this
  | inr x =>
    obtain ⟨N, r⟩ := x
    rw [hr] at hz1 tail
    dsimp only at hz1 ⊢
    have a1 := rdn_inr hr hwe
    refine sp_sput (d := d + 4) (kd := 6) (a := N) (b := 0) w1 (by omega) (fun f2 fr2 w2 => ?_)
    have := tail f2 (.inr (r, nx T e (we T e q))) (W ++ [(6, N, 0)]) (nI W.length) fx_U (fun c a1 a2 => by rw [fr2 c a2, fr1 c a1]) (ct_fr hz1 (fr2 _ (by omega)) (fr2 _ (by omega))) w2 (Or.inr ⟨W.length, by omega, rfl⟩) ⟨⟨_, rfl⟩, rfl, rfl⟩
    simp (disch := omega) only [cb_81_39, cb_81_42, cb_81_47, wC_goto, wC_iconst, wC_ldc2, wC_ldc, wC_getstatic, wC_iadd, wC_isub, wC_imul, wC_iand, wC_ior, wC_ixor, wC_ishl, wC_ishr, wC_iushr, wC_ladd, wC_lmul, wC_land, wC_lcmp, wC_lshl, wC_lshr, wC_i2l, wC_i2b, wC_i2c, wC_popi, wC_popa, wC_dupi, wC_dupa, wC_dup2, wC_idiv, wC_irem, wC_ldiv, wC_lrem, wr_iload, wr_lload, wr_aload, wC_istore, wC_astore, wC_lstore, wr_iinc, wC_icmp_eq, wC_icmp_ne, wC_icmp_lt, wC_icmp_ge, wC_icmp_gt, wC_icmp_le, wC_ifc_eq, wC_ifc_ne, wC_ifc_lt, wC_ifc_ge, wC_ifc_gt, wC_ifc_le, wC_tab, wr_getf, wr_putf, wr_iaload, wr_baload, wr_laload, wr_iastore, wr_bastore, wr_lastore, wr_aaload, wr_alen, wC_slen, wC_sald, wC_new, wC_newa, wC_newq, wC_oinit, wC_math, wC_iret, wC_lret, wC_vret, wC_zret, wC_cret, wC_jsr, wi_c_, fx_low, List.map_cons, List.map_nil, List.sum_cons, List.sum_nil, fl_int, fl_ref, fl_ra, fl_long, decide_eq_true_eq, decide_true, kk_ltT, kk_ltF, kk_leT, kk_leF, kk_eqT, kk_eqF, kk_0T, kk_0F, kk_g0T, kk_g0F, kk_l0T, kk_l0F, kk_inT, kk_lt0, kk_ge0, kk_m1, kk_m1', kk_m1lt, kk_m1le, kk_m1ltF, kk_m1leT, kk_mm, kk_mm2, kk_mm3, kk_mm4, kk_mm5, kk_cl, kk_sub, kk_p1, kk_shl, kk_shr, kk_and, kk_or, kk_xor, kk_rem2, kk_div, kk_len, kk_z1, kk_ln, kk_i2l, lN_add, lN_mul, kk_tb, kk_b0, kk_b1, nI_add, pk_mul, va_up_ne', va_up_se, va_up_up, ne_eq, not_false_eq_true, not_true_eq_false, false_or, or_false, eq_self, Nat.reducePow, Nat.reduceSub, Nat.reduceBEq, Nat.one_mul, Nat.zero_add, Nat.add_zero, Nat.zero_mul, Nat.mul_zero, cn_m20, cn_m8, cn_m1, cn_0, cn_1, cn_2, cn_3, cn_4, cn_5, cn_6, cn_7, cn_8, cn_9, cn_10, cn_11, cn_12, cn_15, cn_16, cn_20, cn_24, cn_30, cn_31, cn_32, cn_33, cn_34, cn_35, cn_37, cn_40, cn_41, cn_42, cn_43, cn_44, cn_45, cn_47, cn_48, cn_57, cn_59, cn_60, cn_63, cn_91, cn_93, cn_96, cn_97, cn_99, cn_100, cn_122, cn_128, cn_150, cn_200, cn_255, cn_400, cn_560, cn_596, cn_600, cn_999, cn_1024, cn_1788, cn_4096, cn_8400, cn_9999, cn_10000, cn_12345, cn_32767, cn_999999, cn_252645135, cn_858993459, cn_1103515245, cn_1431655765, cn_2147483647, wK_v, wK_r, List.getElem?_cons_zero, List.getElem?_cons_succ, Int.reduceToNat, Nat.reduceDiv, Nat.reduceMod, Nat.reduceMul, Nat.reduceAdd, Nat.reduceLT, Nat.reduceLeDiff, Nat.reduceEqDiff, fx_set, fx_fix, fx_fit, List.length_cons, List.length_nil, List.set_cons_zero, List.set_cons_succ, and_true, true_and, if_true, if_false, ↓reduceIte, and_self, true_or, or_true, not_false_iff, not_true, wr_ii, wr_is, wr_iv, wg_i_, wg_l_, wg_a1, wg_a2, wg_o_, wg_n_, wg_f_, wg_s_, wg_I_, wg_L_, wg_A_, wg_si_, wg_sb_, wg_sl_, wg_m_, wg_c_, wg_t_, List.drop_succ_cons, List.drop_zero, List.take_succ_cons, List.take_zero, List.reverse_cons, List.reverse_nil, List.nil_append, List.cons_append] at this ⊢
    exact this
end
