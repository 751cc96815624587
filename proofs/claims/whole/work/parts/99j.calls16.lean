/-! ===== the class's calls: draws ===== -/
theorem and15 (y : Int32) : ∃ b, b < 32768 ∧ y &&& nI 32767 = nI b := by
  have hlt : y.toBitVec.toNat &&& 32767 < 32768 := Nat.lt_of_le_of_lt Nat.and_le_right (by omega)
  refine ⟨y.toBitVec.toNat &&& 32767, hlt, ?_⟩
  apply Int32.toBitVec_inj.mp
  apply BitVec.eq_of_toNat_eq
  show (y.toBitVec &&& (32767#32)).toNat = (BitVec.ofNat 32 (y.toBitVec.toNat &&& 32767)).toNat
  rw [BitVec.toNat_and, BitVec.toNat_ofNat, Nat.mod_eq_of_lt (by omega), BitVec.toNat_ofNat, Nat.mod_eq_of_lt (by omega)]
/-- the seed behind a draw -/
def sdN (s : Int32) : Int32 := s * nI 1103515245 + nI 12345
/-- what a draw's bits are -/
def sdB (s : Int32) : Int32 := (s.toUInt32 >>> ((nI 16).toUInt32 &&& Int32.toUInt32 31)).toInt32 &&& nI 32767
def drN (s : Int32) (m : Nat) : Nat := (sdB (sdN s)).toNatClampNeg % m
section
variable {sc : Nat × (Nat → Int32)} {d n cc ss : Nat} {h : fx_H} {f : Nat → va_E} {Q : fx_R → Prop} {p : Pw}
variable {P P2 L L2 u v w im : Nat} {ds ms il : Int32}
theorem sp_draw {m : Nat} (h0 : f 0 = fw_O P P2 L L2 u v w im ds ms il) (hm : 0 < m) (hm2 : m ≤ 16) (hq : Q (.inl (some (.int (nI (drN ds m)))), (n, cc, ss, va_up f 0 (fw_O P P2 L L2 u v w im (sdN ds) ms il)))) : wM sc (d + 1) 193 [.ref 0, .int (nI m)] (n, cc, ss, f) Q := by
  have hs : sdN ds = ds * nI 1103515245 + nI 12345 := rfl
  obtain ⟨b, b1, b2⟩ := and15 ((sdN ds).toUInt32 >>> ((nI 16).toUInt32 &&& Int32.toUInt32 31)).toInt32
  have e : drN ds m = b % m := by unfold drN sdB; rw [b2, kk_cl (by omega)]
  rw [e] at hq
  simp (disch := omega) only [cb_193_0, cb_193_10, cb_193_19, cb_193_20, jb_193_10, jb_193_19, jb_193_20, ei_193, wt_193, wC_goto, wC_iconst, wC_ldc2, wC_ldc, wC_getstatic, wC_iadd, wC_isub, wC_imul, wC_iand, wC_ior, wC_ixor, wC_ishl, wC_ishr, wC_iushr, wC_ladd, wC_lmul, wC_land, wC_lcmp, wC_lshl, wC_lshr, wC_i2l, wC_i2b, wC_i2c, wC_popi, wC_popa, wC_dupi, wC_dupa, wC_dup2, wC_idiv, wC_irem, wC_ldiv, wC_lrem, wr_iload, wr_lload, wr_aload, wC_istore, wC_astore, wC_lstore, wr_iinc, wC_icmp_eq, wC_icmp_ne, wC_icmp_lt, wC_icmp_ge, wC_icmp_gt, wC_icmp_le, wC_ifc_eq, wC_ifc_ne, wC_ifc_lt, wC_ifc_ge, wC_ifc_gt, wC_ifc_le, wC_tab, wr_getf, wr_putf, wr_iaload, wr_baload, wr_laload, wr_iastore, wr_bastore, wr_lastore, wr_aaload, wr_alen, wC_slen, wC_sald, wC_new, wC_newa, wC_newq, wC_oinit, wC_math, wC_iret, wC_lret, wC_vret, wC_zret, wC_cret, wC_jsr, wi_c_, fx_low, List.map_cons, List.map_nil, List.sum_cons, List.sum_nil, fl_int, fl_ref, fl_ra, fl_long, decide_eq_true_eq, decide_true, kk_ltT, kk_ltF, kk_leT, kk_leF, kk_eqT, kk_eqF, kk_0T, kk_0F, kk_g0T, kk_g0F, kk_l0T, kk_l0F, kk_inT, kk_lt0, kk_ge0, kk_m1, kk_m1', kk_m1lt, kk_m1le, kk_m1ltF, kk_m1leT, kk_mm, kk_mm2, kk_mm3, kk_mm4, kk_mm5, kk_cl, kk_sub, kk_p1, kk_shl, kk_shr, kk_and, kk_or, kk_xor, kk_rem2, kk_div, kk_len, kk_z1, kk_ln, kk_i2l, lN_add, lN_mul, kk_tb, kk_b0, kk_b1, nI_add, pk_mul, va_up_ne', va_up_se, va_up_up, ne_eq, not_false_eq_true, not_true_eq_false, false_or, or_false, eq_self, Nat.reducePow, Nat.reduceSub, Nat.reduceBEq, Nat.one_mul, Nat.zero_add, Nat.add_zero, Nat.zero_mul, Nat.mul_zero, cn_m20, cn_m8, cn_m1, cn_0, cn_1, cn_2, cn_3, cn_4, cn_5, cn_6, cn_7, cn_8, cn_9, cn_10, cn_11, cn_12, cn_15, cn_16, cn_20, cn_24, cn_30, cn_31, cn_32, cn_33, cn_34, cn_35, cn_37, cn_40, cn_41, cn_42, cn_43, cn_44, cn_45, cn_47, cn_48, cn_57, cn_59, cn_60, cn_63, cn_91, cn_93, cn_96, cn_97, cn_99, cn_100, cn_122, cn_128, cn_150, cn_200, cn_255, cn_400, cn_560, cn_596, cn_600, cn_999, cn_1024, cn_1788, cn_4096, cn_8400, cn_9999, cn_10000, cn_12345, cn_32767, cn_999999, cn_252645135, cn_858993459, cn_1103515245, cn_1431655765, cn_2147483647, wK_v, wK_r, List.getElem?_cons_zero, List.getElem?_cons_succ, Int.reduceToNat, Nat.reduceDiv, Nat.reduceMod, Nat.reduceMul, Nat.reduceAdd, Nat.reduceLT, Nat.reduceLeDiff, Nat.reduceEqDiff, fx_set, fx_fix, fx_fit, List.length_cons, List.length_nil, List.set_cons_zero, List.set_cons_succ, and_true, true_and, if_true, if_false, ↓reduceIte, and_self, true_or, or_true, not_false_iff, not_true, wr_ii, wr_is, wr_iv, wg_i_, wg_l_, wg_a1, wg_a2, wg_o_, wg_n_, wg_f_, wg_s_, wg_I_, wg_L_, wg_A_, wg_si_, wg_sb_, wg_sl_, wg_m_, wg_c_, wg_t_, List.drop_succ_cons, List.drop_zero, List.take_succ_cons, List.take_zero, List.reverse_cons, List.reverse_nil, List.nil_append, List.cons_append, h0, ← hs, b2]
  exact hq
end
