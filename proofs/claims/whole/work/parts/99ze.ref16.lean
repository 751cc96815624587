/-! ===== the reference: watches by seeds ===== -/
theorem shr16 (s : Int32) : (s >>> (nI 16 &&& 31)) &&& nI 32767 = sdB s := by
  unfold sdB
  apply Int32.toBitVec_inj.mp
  have e1 : (s >>> (nI 16 &&& 31)).toBitVec = s.toBitVec.sshiftRight 16 := by
    show s.toBitVec.sshiftRight ((nI 16 &&& 31).toBitVec.smod 32).toNat = _
    rw [kk_sh31 16 (by omega)]
  have e2 : ((s.toUInt32 >>> ((nI 16).toUInt32 &&& Int32.toUInt32 31)).toInt32).toBitVec = s.toBitVec >>> 16 := by
    have e3 : ((nI 16).toUInt32 &&& Int32.toUInt32 31) = (16 : UInt32) := by decide
    rw [e3]
    rfl
  show (s >>> (nI 16 &&& 31)).toBitVec &&& (nI 32767).toBitVec = ((s.toUInt32 >>> ((nI 16).toUInt32 &&& Int32.toUInt32 31)).toInt32).toBitVec &&& (nI 32767).toBitVec
  rw [e1, e2]
  have e4 : (nI 32767).toBitVec = BitVec.ofNat 32 (2 ^ 15 - 1) := rfl
  rw [e4]
  apply BitVec.eq_of_getLsbD_eq
  intro i hi
  rw [BitVec.getLsbD_and, BitVec.getLsbD_and, BitVec.getLsbD_ofNat, Nat.testBit_two_pow_sub_one, BitVec.getLsbD_sshiftRight, BitVec.getLsbD_ushiftRight]
  by_cases h : i < 15
  · have h2 : 16 + i < 32 := by omega
    have h3 : ¬ 32 ≤ i := by omega
    simp [h2, h3]
  · simp [h]
theorem hfB_ok {p : Pw} {s : Sn} {w : Nat} (tk : tn_ok p.t) (h : sn_ok p.t s) (hw : w < 4) : sn_ok p.t (hfB p s w) := by
  unfold hfB
  split
  · exact h
  · rename_i hb
    exact sn_bl_ok tk h hw hb
theorem hfN_ok {p : Pw} {q : Nat} {x : Sn × Int32} (tk : tn_ok p.t) (hk : 0 < p.t.k) (h : sn_ok p.t x.1) : sn_ok p.t (hfN p q x).1 := by
  unfold hfN
  split
  · exact sn_fg_ok (hfB_ok tk h (drN_lt (by omega))) (drN_lt hk)
  · exact hfB_ok tk h (drN_lt (by omega))
theorem ngN_ok {p : Pw} {q : Nat} {x : Sn × Int32} (tk : tn_ok p.t) (h : sn_ok p.t x.1) : sn_ok p.t (ngN p q x).1 := by
  unfold ngN ngH
  refine sn_nt_ok (t := p.t) ?_
  split
  · rename_i hk
    exact hfN_ok tk hk (hfN_ok tk hk h)
  · exact h
theorem dmN_ok {p : Pw} {q : Nat} {x : Sn × Int32} (tk : tn_ok p.t) (h : sn_ok p.t x.1) : ∀ m, sn_ok p.t (dmN p q x m).1
  | 0 => h
  | m + 1 => by
    rw [dmN]
    exact ngN_ok tk (dmN_ok tk h m)
theorem hfN_bl {p : Pw} {q : Nat} {x : Sn × Int32} : ∃ j, j ≤ 1 ∧ (hfN p q x).1.bl = x.1.bl + nI j := by
  have hB : ∀ w, ∃ j, j ≤ 1 ∧ (hfB p x.1 w).bl = x.1.bl + nI j := by
    intro w
    unfold hfB
    split
    · exact ⟨0, by omega, (Int32.add_zero _).symm⟩
    · exact ⟨1, by omega, rfl⟩
  have key := hB (drN x.2 4)
  by_cases hl : drN (sdN x.2) 16 < q
  · have e : hfN p q x = (sn_fg (hfB p x.1 (drN x.2 4)) (drN (sdN (sdN x.2)) p.t.k), sdN (sdN (sdN x.2))) := by unfold hfN; rw [if_pos hl]
    rw [e]
    generalize hfB p x.1 (drN x.2 4) = z at key ⊢
    generalize drN (sdN (sdN x.2)) p.t.k = c
    generalize sdN (sdN (sdN x.2)) = s3
    exact key
  · have e : hfN p q x = (hfB p x.1 (drN x.2 4), sdN (sdN x.2)) := by unfold hfN; rw [if_neg hl]
    rw [e]
    generalize hfB p x.1 (drN x.2 4) = z at key ⊢
    generalize sdN (sdN x.2) = s3
    exact key
theorem dmN_bl {p : Pw} {q : Nat} {x : Sn × Int32} : ∀ m, ∃ j, j ≤ 2 * m ∧ (dmN p q x m).1.bl = x.1.bl + nI j
  | 0 => ⟨0, by omega, (Int32.add_zero _).symm⟩
  | m + 1 => by
    obtain ⟨j, j1, j2⟩ := dmN_bl (p := p) (q := q) (x := x) m
    rw [dmN]
    have e : (ngN p q (dmN p q x m)).1.bl = (ngH p q (dmN p q x m)).1.bl := rfl
    rw [e]
    unfold ngH
    split
    · obtain ⟨a, a1, a2⟩ := hfN_bl (p := p) (q := q) (x := dmN p q x m)
      obtain ⟨b, b1, b2⟩ := hfN_bl (p := p) (q := q) (x := hfN p q (dmN p q x m))
      refine ⟨j + a + b, by omega, ?_⟩
      rw [b2, a2, j2, ← nI_add, ← nI_add, Int32.add_assoc, Int32.add_assoc]
      rw [Int32.add_assoc]
    · exact ⟨j, by omega, j2⟩
theorem ppl_tb {po : Nat → Nat} {c : Nat} : ∀ m, (ppl po m).testBit c = decide (bs (fun i => po i == c) m ≠ 0)
  | 0 => by rw [ppl, bs]; simp
  | m + 1 => by
    rw [ppl, bs, Nat.testBit_or, ppl_tb m, Nat.testBit_two_pow]
    by_cases h : po m = c
    · have h2 : (po m == c) = true := by simp [h]
      have h3 : bs (fun i => po i == c) m ||| 2 ^ m ≠ 0 := by
        intro e
        have := congrArg (fun x => x.testBit m) e
        simp [Nat.testBit_or] at this
      rw [if_pos h2, decide_eq_true h, decide_eq_true h3, Bool.or_true]
    · have h2 : ¬ (po m == c) = true := by simp [h]
      rw [if_neg h2, decide_eq_false h, Bool.or_false, Nat.or_zero]
section
variable {sc : Nat × (Nat → Int32)} {d n cc ss : Nat} {h : fx_H} {f : Nat → va_E} {Q : fx_R → Prop} {I : Nat → Int32} {A : Nat → Nat → Int32} {L : Nat → Nat → Int64} {t : Tn} {s : Sn} {p : Pw}
theorem mo_draws {m : Nat} (hm : 0 < m) (hm2 : m ≤ 16) : wM sc (d + 1) 302 [.ref 198, .int (nI m)] (n, cc, ss, mh f I A L) Q ↔ Q (.inl (some (.int (nI (drN (I 56) m)))), (n, cc, ss, mh f (va_up I 56 (sdN (I 56))) A L)) := by
  have hs : sdN (I 56) = I 56 * nI 1103515245 + nI 12345 := rfl
  obtain ⟨b, b1, b2⟩ := and15 ((sdN (I 56)).toUInt32 >>> ((nI 16).toUInt32 &&& Int32.toUInt32 31)).toInt32
  have b2' : sdB (sdN (I 56)) = nI b := b2
  have e : drN (I 56) m = b % m := by unfold drN; rw [b2', kk_cl (by omega)]
  rw [e]
  simp (disch := omega) only [cb_302_0, ei_302, wt_302, wC_goto, wC_iconst, wC_ldc2, wC_ldc, wC_getstatic, wC_iadd, wC_isub, wC_imul, wC_iand, wC_ior, wC_ixor, wC_ishl, wC_ishr, wC_iushr, wC_ladd, wC_lmul, wC_land, wC_lcmp, wC_lshl, wC_lshr, wC_i2l, wC_i2b, wC_i2c, wC_popi, wC_popa, wC_dupi, wC_dupa, wC_dup2, wC_idiv, wC_irem, wC_ldiv, wC_lrem, wr_iload, wr_lload, wr_aload, wC_istore, wC_astore, wC_lstore, wr_iinc, wC_icmp_eq, wC_icmp_ne, wC_icmp_lt, wC_icmp_ge, wC_icmp_gt, wC_icmp_le, wC_ifc_eq, wC_ifc_ne, wC_ifc_lt, wC_ifc_ge, wC_ifc_gt, wC_ifc_le, wC_tab, wr_getf, wr_putf, wr_iaload, wr_baload, wr_laload, wr_iastore, wr_bastore, wr_lastore, wr_aaload, wr_alen, wC_slen, wC_sald, wC_new, wC_newa, wC_newq, wC_oinit, wC_math, wC_iret, wC_lret, wC_vret, wC_zret, wC_cret, wC_jsr, wi_c_, fx_low, List.map_cons, List.map_nil, List.sum_cons, List.sum_nil, fl_int, fl_ref, fl_ra, fl_long, decide_eq_true_eq, decide_true, kk_ltT, kk_ltF, kk_leT, kk_leF, kk_eqT, kk_eqF, kk_0T, kk_0F, kk_g0T, kk_g0F, kk_l0T, kk_l0F, kk_inT, kk_lt0, kk_ge0, kk_m1, kk_m1', kk_m1lt, kk_m1le, kk_m1ltF, kk_m1leT, kk_mm, kk_mm2, kk_mm3, kk_mm4, kk_mm5, kk_cl, kk_sub, kk_p1, kk_shl, kk_shr, kk_and, kk_or, kk_xor, kk_rem2, kk_div, kk_len, kk_z1, kk_ln, kk_i2l, lN_add, lN_mul, kk_tb, kk_b0, kk_b1, nI_add, pk_mul, va_up_ne', va_up_se, va_up_up, ne_eq, not_false_eq_true, not_true_eq_false, false_or, or_false, eq_self, Nat.reducePow, Nat.reduceSub, Nat.reduceBEq, Nat.one_mul, Nat.zero_add, Nat.add_zero, Nat.zero_mul, Nat.mul_zero, cn_m20, cn_m8, cn_m1, cn_0, cn_1, cn_2, cn_3, cn_4, cn_5, cn_6, cn_7, cn_8, cn_9, cn_10, cn_11, cn_12, cn_15, cn_16, cn_20, cn_24, cn_30, cn_31, cn_32, cn_33, cn_34, cn_35, cn_37, cn_40, cn_41, cn_42, cn_43, cn_44, cn_45, cn_47, cn_48, cn_57, cn_59, cn_60, cn_63, cn_91, cn_93, cn_96, cn_97, cn_99, cn_100, cn_122, cn_128, cn_150, cn_200, cn_255, cn_400, cn_560, cn_596, cn_600, cn_999, cn_1024, cn_1788, cn_4096, cn_8400, cn_9999, cn_10000, cn_12345, cn_32767, cn_999999, cn_252645135, cn_858993459, cn_1103515245, cn_1431655765, cn_2147483647, wK_v, wK_r, List.getElem?_cons_zero, List.getElem?_cons_succ, Int.reduceToNat, Nat.reduceDiv, Nat.reduceMod, Nat.reduceMul, Nat.reduceAdd, Nat.reduceLT, Nat.reduceLeDiff, Nat.reduceEqDiff, fx_set, fx_fix, fx_fit, List.length_cons, List.length_nil, List.set_cons_zero, List.set_cons_succ, and_true, true_and, if_true, if_false, ↓reduceIte, and_self, true_or, or_true, not_false_iff, not_true, wr_ii, wr_is, wr_iv, wg_i_, wg_l_, wg_a1, wg_a2, wg_o_, wg_n_, wg_f_, wg_s_, wg_I_, wg_L_, wg_A_, wg_si_, wg_sb_, wg_sl_, wg_m_, wg_c_, wg_t_, List.drop_succ_cons, List.drop_zero, List.take_succ_cons, List.take_zero, List.reverse_cons, List.reverse_nil, List.nil_append, List.cons_append, mh_o, MF_n, mh_uo, mh_199, mw_199, mh_200, mw_200, mh_201, mw_201, mh_202, mw_202, mh_203, mw_203, mh_204, mw_204, mh_205, mw_205, mh_206, mw_206, mh_207, mw_207, mh_208, mw_208, mh_209, mw_209, mh_210, mw_210, mh_211, mw_211, mh_212, mw_212, mh_213, mw_213, mh_214, mw_214, mh_215, mw_215, mh_216, mw_216, mh_217, mw_217, mh_218, mw_218, mh_219, mw_219, mh_220, mw_220, mh_221, mw_221, mh_222, mw_222, mh_223, mw_223, mh_224, mw_224, mh_225, mw_225, mh_226, mw_226, mh_227, mw_227, mh_228, mw_228, mh_229, mw_229, mh_230, mw_230, mh_231, mw_231, mf_0, ms_0, mf_1, mf_2, ms_2, mf_3, ms_3, mf_4, ms_4, mf_5, ms_5, mf_6, ms_6, mf_7, ms_7, mf_8, ms_8, mf_9, mf_10, mf_11, mf_12, mf_13, mf_14, mf_15, mf_16, ms_16, mf_17, ms_17, mf_18, ms_18, mf_19, ms_19, mf_20, ms_20, mf_21, ms_21, mf_22, mf_23, mf_24, mf_25, mf_26, mf_27, ms_27, mf_28, ms_28, mf_29, mf_30, mf_31, mf_32, ms_32, mf_33, ms_33, mf_34, ms_34, mf_35, ms_35, mf_36, ms_36, mf_37, ms_37, mf_38, mf_39, mf_40, mf_41, ms_41, mf_42, ms_42, mf_43, mf_44, mf_45, mf_46, mf_47, mf_48, mf_49, mf_50, mf_51, mf_52, mf_53, mf_54, mf_55, mf_56, ms_56, mf_57, mf_58, ms_58, ← hs, shr16, b2']
set_option maxHeartbeats 4000000 in
theorem mo_half {q : Nat} {x : Sn × Int32} {v4 : Value} {m : Int32} {sd : Int32} (hM : MI I A p) (hS : mS p.t.m (A 219) x.1) (ho : sn_ok p.t x.1) (hI : I 56 = x.2) (hk : 0 < p.t.k) (hq16 : q ≤ 16) (hq : ∀ I' A', MI I' A' p → I' 0 = I 0 → mS p.t.m (A' 219) (hfN p q x).1 → I' 56 = (hfN p q x).2 → wC sc (d + 8) (pg_hd 303) cm_303 cb_303_35 [.ref 198, .int sd, .int (nI q), .int m, v4] [] (n, cc, ss, mh f I' A' L) Q) : wC sc (d + 8) (pg_hd 303) cm_303 cb_303_15 [.ref 198, .int sd, .int (nI q), .int m, v4] [] (n, cc, ss, mh f I A L) Q := by
  have hp := hM.1
  have tk := hp.2.1.1
  have hk10 := tk.1
  have i19 := hM.2.2.1.1
  have d4 := drN_lt (s := x.2) (show 0 < 4 by omega)
  have d16 := drN_lt (s := sdN x.2) (show 0 < 16 by omega)
  have dk := drN_lt (s := sdN (sdN x.2)) hk
  have w1 := fun Q => mo_draws (sc := sc) (d := d + 7) (n := n) (cc := cc) (ss := ss) (f := f) (I := I) (A := A) (L := L) (Q := Q) (m := 4) (by omega) (by omega)
  rw [hI] at w1
  have hT1 : ∀ z, mT (va_up I 56 z) A p.t := fun z => hM.2.2.1
  have hC1 : ∀ z, mC (va_up I 56 z) A p.C := fun z => hM.2.2.2.1
  have hM1 : ∀ z A', (∀ c, c ≠ 211 → c ≠ 212 → c ≠ 219 → A' c = A c) → MI (va_up I 56 z) A' p := fun z A' fr => MI_fr hM (fun k hk => va_up_ne' (by omega)) (fun c hc => fr c (by omega) (by omega) (by omega))
  have go2 : ∀ A', (∀ c, c ≠ 211 → c ≠ 212 → c ≠ 219 → A' c = A c) → mS p.t.m (A' 219) (hfB p x.1 (drN x.2 4)) → wC sc (d + 8) (pg_hd 303) cm_303 (cm_303.drop 21) [.ref 198, .int sd, .int (nI q), .int m, v4] [] (n, cc, ss, mh f (va_up I 56 (sdN x.2)) A' L) Q := by
    intro A' fr hS'
    have hoB := hfB_ok (p := p) tk ho d4
    have w2 := fun Q => mo_draws (sc := sc) (d := d + 7) (n := n) (cc := cc) (ss := ss) (f := f) (I := va_up I 56 (sdN x.2)) (A := A') (L := L) (Q := Q) (m := 16) (by omega) (by omega)
    have w3 := fun Q => mo_draws (sc := sc) (d := d + 7) (n := n) (cc := cc) (ss := ss) (f := f) (I := va_up I 56 (sdN (sdN x.2))) (A := A') (L := L) (Q := Q) (m := p.t.k) hk (by omega)
    simp only [va_up_se, va_up_up] at w2 w3
    show wC sc (d + 8) (pg_hd 303) cm_303 (.aload 0 :: .iconst 16 :: .invokeinterface 302 76 :: .iload 2 :: .if_icmp .ge 35 :: cb_303_26) _ _ _ _
    by_cases hl : drN (sdN x.2) 16 < q
    · have e : hfN p q x = (sn_fg (hfB p x.1 (drN x.2 4)) (drN (sdN (sdN x.2)) p.t.k), sdN (sdN (sdN x.2))) := by unfold hfN; rw [if_pos hl]
      rw [e] at hq
      simp (disch := omega) only [cb_303_0, cb_303_12, cb_303_15, cb_303_26, cb_303_40, cb_303_42, cb_303_44, jb_303_7, jb_303_12, jb_303_15, jb_303_26, jb_303_35, jb_303_40, jb_303_42, jb_303_44, wC_goto, wC_iconst, wC_ldc2, wC_ldc, wC_getstatic, wC_iadd, wC_isub, wC_imul, wC_iand, wC_ior, wC_ixor, wC_ishl, wC_ishr, wC_iushr, wC_ladd, wC_lmul, wC_land, wC_lcmp, wC_lshl, wC_lshr, wC_i2l, wC_i2b, wC_i2c, wC_popi, wC_popa, wC_dupi, wC_dupa, wC_dup2, wC_idiv, wC_irem, wC_ldiv, wC_lrem, wr_iload, wr_lload, wr_aload, wC_istore, wC_astore, wC_lstore, wr_iinc, wC_icmp_eq, wC_icmp_ne, wC_icmp_lt, wC_icmp_ge, wC_icmp_gt, wC_icmp_le, wC_ifc_eq, wC_ifc_ne, wC_ifc_lt, wC_ifc_ge, wC_ifc_gt, wC_ifc_le, wC_tab, wr_getf, wr_putf, wr_iaload, wr_baload, wr_laload, wr_iastore, wr_bastore, wr_lastore, wr_aaload, wr_alen, wC_slen, wC_sald, wC_new, wC_newa, wC_newq, wC_oinit, wC_math, wC_iret, wC_lret, wC_vret, wC_zret, wC_cret, wC_jsr, wi_c_, fx_low, List.map_cons, List.map_nil, List.sum_cons, List.sum_nil, fl_int, fl_ref, fl_ra, fl_long, decide_eq_true_eq, decide_true, kk_ltT, kk_ltF, kk_leT, kk_leF, kk_eqT, kk_eqF, kk_0T, kk_0F, kk_g0T, kk_g0F, kk_l0T, kk_l0F, kk_inT, kk_lt0, kk_ge0, kk_m1, kk_m1', kk_m1lt, kk_m1le, kk_m1ltF, kk_m1leT, kk_mm, kk_mm2, kk_mm3, kk_mm4, kk_mm5, kk_cl, kk_sub, kk_p1, kk_shl, kk_shr, kk_and, kk_or, kk_xor, kk_rem2, kk_div, kk_len, kk_z1, kk_ln, kk_i2l, lN_add, lN_mul, kk_tb, kk_b0, kk_b1, nI_add, pk_mul, va_up_ne', va_up_se, va_up_up, ne_eq, not_false_eq_true, not_true_eq_false, false_or, or_false, eq_self, Nat.reducePow, Nat.reduceSub, Nat.reduceBEq, Nat.one_mul, Nat.zero_add, Nat.add_zero, Nat.zero_mul, Nat.mul_zero, cn_m20, cn_m8, cn_m1, cn_0, cn_1, cn_2, cn_3, cn_4, cn_5, cn_6, cn_7, cn_8, cn_9, cn_10, cn_11, cn_12, cn_15, cn_16, cn_20, cn_24, cn_30, cn_31, cn_32, cn_33, cn_34, cn_35, cn_37, cn_40, cn_41, cn_42, cn_43, cn_44, cn_45, cn_47, cn_48, cn_57, cn_59, cn_60, cn_63, cn_91, cn_93, cn_96, cn_97, cn_99, cn_100, cn_122, cn_128, cn_150, cn_200, cn_255, cn_400, cn_560, cn_596, cn_600, cn_999, cn_1024, cn_1788, cn_4096, cn_8400, cn_9999, cn_10000, cn_12345, cn_32767, cn_999999, cn_252645135, cn_858993459, cn_1103515245, cn_1431655765, cn_2147483647, wK_v, wK_r, List.getElem?_cons_zero, List.getElem?_cons_succ, Int.reduceToNat, Nat.reduceDiv, Nat.reduceMod, Nat.reduceMul, Nat.reduceAdd, Nat.reduceLT, Nat.reduceLeDiff, Nat.reduceEqDiff, fx_set, fx_fix, fx_fit, List.length_cons, List.length_nil, List.set_cons_zero, List.set_cons_succ, and_true, true_and, if_true, if_false, ↓reduceIte, and_self, true_or, or_true, not_false_iff, not_true, wr_ii, wr_is, wr_iv, wg_i_, wg_l_, wg_a1, wg_a2, wg_o_, wg_n_, wg_f_, wg_s_, wg_I_, wg_L_, wg_A_, wg_si_, wg_sb_, wg_sl_, wg_m_, wg_c_, wg_t_, List.drop_succ_cons, List.drop_zero, List.take_succ_cons, List.take_zero, List.reverse_cons, List.reverse_nil, List.nil_append, List.cons_append, mh_o, MF_n, mh_uo, mh_199, mw_199, mh_200, mw_200, mh_201, mw_201, mh_202, mw_202, mh_203, mw_203, mh_204, mw_204, mh_205, mw_205, mh_206, mw_206, mh_207, mw_207, mh_208, mw_208, mh_209, mw_209, mh_210, mw_210, mh_211, mw_211, mh_212, mw_212, mh_213, mw_213, mh_214, mw_214, mh_215, mw_215, mh_216, mw_216, mh_217, mw_217, mh_218, mw_218, mh_219, mw_219, mh_220, mw_220, mh_221, mw_221, mh_222, mw_222, mh_223, mw_223, mh_224, mw_224, mh_225, mw_225, mh_226, mw_226, mh_227, mw_227, mh_228, mw_228, mh_229, mw_229, mh_230, mw_230, mh_231, mw_231, mf_0, ms_0, mf_1, mf_2, ms_2, mf_3, ms_3, mf_4, ms_4, mf_5, ms_5, mf_6, ms_6, mf_7, ms_7, mf_8, ms_8, mf_9, mf_10, mf_11, mf_12, mf_13, mf_14, mf_15, mf_16, ms_16, mf_17, ms_17, mf_18, ms_18, mf_19, ms_19, mf_20, ms_20, mf_21, ms_21, mf_22, mf_23, mf_24, mf_25, mf_26, mf_27, ms_27, mf_28, ms_28, mf_29, mf_30, mf_31, mf_32, ms_32, mf_33, ms_33, mf_34, ms_34, mf_35, ms_35, mf_36, ms_36, mf_37, ms_37, mf_38, mf_39, mf_40, mf_41, ms_41, mf_42, ms_42, mf_43, mf_44, mf_45, mf_46, mf_47, mf_48, mf_49, mf_50, mf_51, mf_52, mf_53, mf_54, mf_55, mf_56, ms_56, mf_57, mf_58, ms_58, w2, i19, w3]
      refine mo_isDone (d := d + 1) (kd := 2) (C := p.C) tk (hM1 _ A' fr).2.2.1 hS' hoB (hM1 _ A' fr).2.2.2.1 hp.2.2.1 (.inr (.inl ⟨rfl, dk⟩)) (by omega) (by omega) (fun A2 fr2 hS2 => ?_)
      simp (disch := omega) only [cb_303_0, cb_303_12, cb_303_15, cb_303_26, cb_303_40, cb_303_42, cb_303_44, jb_303_7, jb_303_12, jb_303_15, jb_303_26, jb_303_35, jb_303_40, jb_303_42, jb_303_44, wC_goto, wC_iconst, wC_ldc2, wC_ldc, wC_getstatic, wC_iadd, wC_isub, wC_imul, wC_iand, wC_ior, wC_ixor, wC_ishl, wC_ishr, wC_iushr, wC_ladd, wC_lmul, wC_land, wC_lcmp, wC_lshl, wC_lshr, wC_i2l, wC_i2b, wC_i2c, wC_popi, wC_popa, wC_dupi, wC_dupa, wC_dup2, wC_idiv, wC_irem, wC_ldiv, wC_lrem, wr_iload, wr_lload, wr_aload, wC_istore, wC_astore, wC_lstore, wr_iinc, wC_icmp_eq, wC_icmp_ne, wC_icmp_lt, wC_icmp_ge, wC_icmp_gt, wC_icmp_le, wC_ifc_eq, wC_ifc_ne, wC_ifc_lt, wC_ifc_ge, wC_ifc_gt, wC_ifc_le, wC_tab, wr_getf, wr_putf, wr_iaload, wr_baload, wr_laload, wr_iastore, wr_bastore, wr_lastore, wr_aaload, wr_alen, wC_slen, wC_sald, wC_new, wC_newa, wC_newq, wC_oinit, wC_math, wC_iret, wC_lret, wC_vret, wC_zret, wC_cret, wC_jsr, wi_c_, fx_low, List.map_cons, List.map_nil, List.sum_cons, List.sum_nil, fl_int, fl_ref, fl_ra, fl_long, decide_eq_true_eq, decide_true, kk_ltT, kk_ltF, kk_leT, kk_leF, kk_eqT, kk_eqF, kk_0T, kk_0F, kk_g0T, kk_g0F, kk_l0T, kk_l0F, kk_inT, kk_lt0, kk_ge0, kk_m1, kk_m1', kk_m1lt, kk_m1le, kk_m1ltF, kk_m1leT, kk_mm, kk_mm2, kk_mm3, kk_mm4, kk_mm5, kk_cl, kk_sub, kk_p1, kk_shl, kk_shr, kk_and, kk_or, kk_xor, kk_rem2, kk_div, kk_len, kk_z1, kk_ln, kk_i2l, lN_add, lN_mul, kk_tb, kk_b0, kk_b1, nI_add, pk_mul, va_up_ne', va_up_se, va_up_up, ne_eq, not_false_eq_true, not_true_eq_false, false_or, or_false, eq_self, Nat.reducePow, Nat.reduceSub, Nat.reduceBEq, Nat.one_mul, Nat.zero_add, Nat.add_zero, Nat.zero_mul, Nat.mul_zero, cn_m20, cn_m8, cn_m1, cn_0, cn_1, cn_2, cn_3, cn_4, cn_5, cn_6, cn_7, cn_8, cn_9, cn_10, cn_11, cn_12, cn_15, cn_16, cn_20, cn_24, cn_30, cn_31, cn_32, cn_33, cn_34, cn_35, cn_37, cn_40, cn_41, cn_42, cn_43, cn_44, cn_45, cn_47, cn_48, cn_57, cn_59, cn_60, cn_63, cn_91, cn_93, cn_96, cn_97, cn_99, cn_100, cn_122, cn_128, cn_150, cn_200, cn_255, cn_400, cn_560, cn_596, cn_600, cn_999, cn_1024, cn_1788, cn_4096, cn_8400, cn_9999, cn_10000, cn_12345, cn_32767, cn_999999, cn_252645135, cn_858993459, cn_1103515245, cn_1431655765, cn_2147483647, wK_v, wK_r, List.getElem?_cons_zero, List.getElem?_cons_succ, Int.reduceToNat, Nat.reduceDiv, Nat.reduceMod, Nat.reduceMul, Nat.reduceAdd, Nat.reduceLT, Nat.reduceLeDiff, Nat.reduceEqDiff, fx_set, fx_fix, fx_fit, List.length_cons, List.length_nil, List.set_cons_zero, List.set_cons_succ, and_true, true_and, if_true, if_false, ↓reduceIte, and_self, true_or, or_true, not_false_iff, not_true, wr_ii, wr_is, wr_iv, wg_i_, wg_l_, wg_a1, wg_a2, wg_o_, wg_n_, wg_f_, wg_s_, wg_I_, wg_L_, wg_A_, wg_si_, wg_sb_, wg_sl_, wg_m_, wg_c_, wg_t_, List.drop_succ_cons, List.drop_zero, List.take_succ_cons, List.take_zero, List.reverse_cons, List.reverse_nil, List.nil_append, List.cons_append, mh_o, MF_n, mh_uo, mh_199, mw_199, mh_200, mw_200, mh_201, mw_201, mh_202, mw_202, mh_203, mw_203, mh_204, mw_204, mh_205, mw_205, mh_206, mw_206, mh_207, mw_207, mh_208, mw_208, mh_209, mw_209, mh_210, mw_210, mh_211, mw_211, mh_212, mw_212, mh_213, mw_213, mh_214, mw_214, mh_215, mw_215, mh_216, mw_216, mh_217, mw_217, mh_218, mw_218, mh_219, mw_219, mh_220, mw_220, mh_221, mw_221, mh_222, mw_222, mh_223, mw_223, mh_224, mw_224, mh_225, mw_225, mh_226, mw_226, mh_227, mw_227, mh_228, mw_228, mh_229, mw_229, mh_230, mw_230, mh_231, mw_231, mf_0, ms_0, mf_1, mf_2, ms_2, mf_3, ms_3, mf_4, ms_4, mf_5, ms_5, mf_6, ms_6, mf_7, ms_7, mf_8, ms_8, mf_9, mf_10, mf_11, mf_12, mf_13, mf_14, mf_15, mf_16, ms_16, mf_17, ms_17, mf_18, ms_18, mf_19, ms_19, mf_20, ms_20, mf_21, ms_21, mf_22, mf_23, mf_24, mf_25, mf_26, mf_27, ms_27, mf_28, ms_28, mf_29, mf_30, mf_31, mf_32, ms_32, mf_33, ms_33, mf_34, ms_34, mf_35, ms_35, mf_36, ms_36, mf_37, ms_37, mf_38, mf_39, mf_40, mf_41, ms_41, mf_42, ms_42, mf_43, mf_44, mf_45, mf_46, mf_47, mf_48, mf_49, mf_50, mf_51, mf_52, mf_53, mf_54, mf_55, mf_56, ms_56, mf_57, mf_58, ms_58]
      exact hq _ A2 (hM1 _ A2 (fun c c1 c2 c3 => (fr2 c c1 c2 c3).trans (fr c c1 c2 c3))) (va_up_ne' (by omega)) hS2 va_up_se
    · have e : hfN p q x = (hfB p x.1 (drN x.2 4), sdN (sdN x.2)) := by unfold hfN; rw [if_neg hl]
      rw [e] at hq
      simp (disch := omega) only [cb_303_0, cb_303_12, cb_303_15, cb_303_26, cb_303_40, cb_303_42, cb_303_44, jb_303_7, jb_303_12, jb_303_15, jb_303_26, jb_303_35, jb_303_40, jb_303_42, jb_303_44, wC_goto, wC_iconst, wC_ldc2, wC_ldc, wC_getstatic, wC_iadd, wC_isub, wC_imul, wC_iand, wC_ior, wC_ixor, wC_ishl, wC_ishr, wC_iushr, wC_ladd, wC_lmul, wC_land, wC_lcmp, wC_lshl, wC_lshr, wC_i2l, wC_i2b, wC_i2c, wC_popi, wC_popa, wC_dupi, wC_dupa, wC_dup2, wC_idiv, wC_irem, wC_ldiv, wC_lrem, wr_iload, wr_lload, wr_aload, wC_istore, wC_astore, wC_lstore, wr_iinc, wC_icmp_eq, wC_icmp_ne, wC_icmp_lt, wC_icmp_ge, wC_icmp_gt, wC_icmp_le, wC_ifc_eq, wC_ifc_ne, wC_ifc_lt, wC_ifc_ge, wC_ifc_gt, wC_ifc_le, wC_tab, wr_getf, wr_putf, wr_iaload, wr_baload, wr_laload, wr_iastore, wr_bastore, wr_lastore, wr_aaload, wr_alen, wC_slen, wC_sald, wC_new, wC_newa, wC_newq, wC_oinit, wC_math, wC_iret, wC_lret, wC_vret, wC_zret, wC_cret, wC_jsr, wi_c_, fx_low, List.map_cons, List.map_nil, List.sum_cons, List.sum_nil, fl_int, fl_ref, fl_ra, fl_long, decide_eq_true_eq, decide_true, kk_ltT, kk_ltF, kk_leT, kk_leF, kk_eqT, kk_eqF, kk_0T, kk_0F, kk_g0T, kk_g0F, kk_l0T, kk_l0F, kk_inT, kk_lt0, kk_ge0, kk_m1, kk_m1', kk_m1lt, kk_m1le, kk_m1ltF, kk_m1leT, kk_mm, kk_mm2, kk_mm3, kk_mm4, kk_mm5, kk_cl, kk_sub, kk_p1, kk_shl, kk_shr, kk_and, kk_or, kk_xor, kk_rem2, kk_div, kk_len, kk_z1, kk_ln, kk_i2l, lN_add, lN_mul, kk_tb, kk_b0, kk_b1, nI_add, pk_mul, va_up_ne', va_up_se, va_up_up, ne_eq, not_false_eq_true, not_true_eq_false, false_or, or_false, eq_self, Nat.reducePow, Nat.reduceSub, Nat.reduceBEq, Nat.one_mul, Nat.zero_add, Nat.add_zero, Nat.zero_mul, Nat.mul_zero, cn_m20, cn_m8, cn_m1, cn_0, cn_1, cn_2, cn_3, cn_4, cn_5, cn_6, cn_7, cn_8, cn_9, cn_10, cn_11, cn_12, cn_15, cn_16, cn_20, cn_24, cn_30, cn_31, cn_32, cn_33, cn_34, cn_35, cn_37, cn_40, cn_41, cn_42, cn_43, cn_44, cn_45, cn_47, cn_48, cn_57, cn_59, cn_60, cn_63, cn_91, cn_93, cn_96, cn_97, cn_99, cn_100, cn_122, cn_128, cn_150, cn_200, cn_255, cn_400, cn_560, cn_596, cn_600, cn_999, cn_1024, cn_1788, cn_4096, cn_8400, cn_9999, cn_10000, cn_12345, cn_32767, cn_999999, cn_252645135, cn_858993459, cn_1103515245, cn_1431655765, cn_2147483647, wK_v, wK_r, List.getElem?_cons_zero, List.getElem?_cons_succ, Int.reduceToNat, Nat.reduceDiv, Nat.reduceMod, Nat.reduceMul, Nat.reduceAdd, Nat.reduceLT, Nat.reduceLeDiff, Nat.reduceEqDiff, fx_set, fx_fix, fx_fit, List.length_cons, List.length_nil, List.set_cons_zero, List.set_cons_succ, and_true, true_and, if_true, if_false, ↓reduceIte, and_self, true_or, or_true, not_false_iff, not_true, wr_ii, wr_is, wr_iv, wg_i_, wg_l_, wg_a1, wg_a2, wg_o_, wg_n_, wg_f_, wg_s_, wg_I_, wg_L_, wg_A_, wg_si_, wg_sb_, wg_sl_, wg_m_, wg_c_, wg_t_, List.drop_succ_cons, List.drop_zero, List.take_succ_cons, List.take_zero, List.reverse_cons, List.reverse_nil, List.nil_append, List.cons_append, mh_o, MF_n, mh_uo, mh_199, mw_199, mh_200, mw_200, mh_201, mw_201, mh_202, mw_202, mh_203, mw_203, mh_204, mw_204, mh_205, mw_205, mh_206, mw_206, mh_207, mw_207, mh_208, mw_208, mh_209, mw_209, mh_210, mw_210, mh_211, mw_211, mh_212, mw_212, mh_213, mw_213, mh_214, mw_214, mh_215, mw_215, mh_216, mw_216, mh_217, mw_217, mh_218, mw_218, mh_219, mw_219, mh_220, mw_220, mh_221, mw_221, mh_222, mw_222, mh_223, mw_223, mh_224, mw_224, mh_225, mw_225, mh_226, mw_226, mh_227, mw_227, mh_228, mw_228, mh_229, mw_229, mh_230, mw_230, mh_231, mw_231, mf_0, ms_0, mf_1, mf_2, ms_2, mf_3, ms_3, mf_4, ms_4, mf_5, ms_5, mf_6, ms_6, mf_7, ms_7, mf_8, ms_8, mf_9, mf_10, mf_11, mf_12, mf_13, mf_14, mf_15, mf_16, ms_16, mf_17, ms_17, mf_18, ms_18, mf_19, ms_19, mf_20, ms_20, mf_21, ms_21, mf_22, mf_23, mf_24, mf_25, mf_26, mf_27, ms_27, mf_28, ms_28, mf_29, mf_30, mf_31, mf_32, ms_32, mf_33, ms_33, mf_34, ms_34, mf_35, ms_35, mf_36, ms_36, mf_37, ms_37, mf_38, mf_39, mf_40, mf_41, ms_41, mf_42, ms_42, mf_43, mf_44, mf_45, mf_46, mf_47, mf_48, mf_49, mf_50, mf_51, mf_52, mf_53, mf_54, mf_55, mf_56, ms_56, mf_57, mf_58, ms_58, w2]
      exact hq _ A' (hM1 _ A' fr) (va_up_ne' (by omega)) hS' va_up_se
  simp (disch := omega) only [cb_303_0, cb_303_12, cb_303_15, cb_303_26, cb_303_40, cb_303_42, cb_303_44, jb_303_7, jb_303_12, jb_303_15, jb_303_26, jb_303_35, jb_303_40, jb_303_42, jb_303_44, wC_goto, wC_iconst, wC_ldc2, wC_ldc, wC_getstatic, wC_iadd, wC_isub, wC_imul, wC_iand, wC_ior, wC_ixor, wC_ishl, wC_ishr, wC_iushr, wC_ladd, wC_lmul, wC_land, wC_lcmp, wC_lshl, wC_lshr, wC_i2l, wC_i2b, wC_i2c, wC_popi, wC_popa, wC_dupi, wC_dupa, wC_dup2, wC_idiv, wC_irem, wC_ldiv, wC_lrem, wr_iload, wr_lload, wr_aload, wC_istore, wC_astore, wC_lstore, wr_iinc, wC_icmp_eq, wC_icmp_ne, wC_icmp_lt, wC_icmp_ge, wC_icmp_gt, wC_icmp_le, wC_ifc_eq, wC_ifc_ne, wC_ifc_lt, wC_ifc_ge, wC_ifc_gt, wC_ifc_le, wC_tab, wr_getf, wr_putf, wr_iaload, wr_baload, wr_laload, wr_iastore, wr_bastore, wr_lastore, wr_aaload, wr_alen, wC_slen, wC_sald, wC_new, wC_newa, wC_newq, wC_oinit, wC_math, wC_iret, wC_lret, wC_vret, wC_zret, wC_cret, wC_jsr, wi_c_, fx_low, List.map_cons, List.map_nil, List.sum_cons, List.sum_nil, fl_int, fl_ref, fl_ra, fl_long, decide_eq_true_eq, decide_true, kk_ltT, kk_ltF, kk_leT, kk_leF, kk_eqT, kk_eqF, kk_0T, kk_0F, kk_g0T, kk_g0F, kk_l0T, kk_l0F, kk_inT, kk_lt0, kk_ge0, kk_m1, kk_m1', kk_m1lt, kk_m1le, kk_m1ltF, kk_m1leT, kk_mm, kk_mm2, kk_mm3, kk_mm4, kk_mm5, kk_cl, kk_sub, kk_p1, kk_shl, kk_shr, kk_and, kk_or, kk_xor, kk_rem2, kk_div, kk_len, kk_z1, kk_ln, kk_i2l, lN_add, lN_mul, kk_tb, kk_b0, kk_b1, nI_add, pk_mul, va_up_ne', va_up_se, va_up_up, ne_eq, not_false_eq_true, not_true_eq_false, false_or, or_false, eq_self, Nat.reducePow, Nat.reduceSub, Nat.reduceBEq, Nat.one_mul, Nat.zero_add, Nat.add_zero, Nat.zero_mul, Nat.mul_zero, cn_m20, cn_m8, cn_m1, cn_0, cn_1, cn_2, cn_3, cn_4, cn_5, cn_6, cn_7, cn_8, cn_9, cn_10, cn_11, cn_12, cn_15, cn_16, cn_20, cn_24, cn_30, cn_31, cn_32, cn_33, cn_34, cn_35, cn_37, cn_40, cn_41, cn_42, cn_43, cn_44, cn_45, cn_47, cn_48, cn_57, cn_59, cn_60, cn_63, cn_91, cn_93, cn_96, cn_97, cn_99, cn_100, cn_122, cn_128, cn_150, cn_200, cn_255, cn_400, cn_560, cn_596, cn_600, cn_999, cn_1024, cn_1788, cn_4096, cn_8400, cn_9999, cn_10000, cn_12345, cn_32767, cn_999999, cn_252645135, cn_858993459, cn_1103515245, cn_1431655765, cn_2147483647, wK_v, wK_r, List.getElem?_cons_zero, List.getElem?_cons_succ, Int.reduceToNat, Nat.reduceDiv, Nat.reduceMod, Nat.reduceMul, Nat.reduceAdd, Nat.reduceLT, Nat.reduceLeDiff, Nat.reduceEqDiff, fx_set, fx_fix, fx_fit, List.length_cons, List.length_nil, List.set_cons_zero, List.set_cons_succ, and_true, true_and, if_true, if_false, ↓reduceIte, and_self, true_or, or_true, not_false_iff, not_true, wr_ii, wr_is, wr_iv, wg_i_, wg_l_, wg_a1, wg_a2, wg_o_, wg_n_, wg_f_, wg_s_, wg_I_, wg_L_, wg_A_, wg_si_, wg_sb_, wg_sl_, wg_m_, wg_c_, wg_t_, List.drop_succ_cons, List.drop_zero, List.take_succ_cons, List.take_zero, List.reverse_cons, List.reverse_nil, List.nil_append, List.cons_append, mh_o, MF_n, mh_uo, mh_199, mw_199, mh_200, mw_200, mh_201, mw_201, mh_202, mw_202, mh_203, mw_203, mh_204, mw_204, mh_205, mw_205, mh_206, mw_206, mh_207, mw_207, mh_208, mw_208, mh_209, mw_209, mh_210, mw_210, mh_211, mw_211, mh_212, mw_212, mh_213, mw_213, mh_214, mw_214, mh_215, mw_215, mh_216, mw_216, mh_217, mw_217, mh_218, mw_218, mh_219, mw_219, mh_220, mw_220, mh_221, mw_221, mh_222, mw_222, mh_223, mw_223, mh_224, mw_224, mh_225, mw_225, mh_226, mw_226, mh_227, mw_227, mh_228, mw_228, mh_229, mw_229, mh_230, mw_230, mh_231, mw_231, mf_0, ms_0, mf_1, mf_2, ms_2, mf_3, ms_3, mf_4, ms_4, mf_5, ms_5, mf_6, ms_6, mf_7, ms_7, mf_8, ms_8, mf_9, mf_10, mf_11, mf_12, mf_13, mf_14, mf_15, mf_16, ms_16, mf_17, ms_17, mf_18, ms_18, mf_19, ms_19, mf_20, ms_20, mf_21, ms_21, mf_22, mf_23, mf_24, mf_25, mf_26, mf_27, ms_27, mf_28, ms_28, mf_29, mf_30, mf_31, mf_32, ms_32, mf_33, ms_33, mf_34, ms_34, mf_35, ms_35, mf_36, ms_36, mf_37, ms_37, mf_38, mf_39, mf_40, mf_41, ms_41, mf_42, ms_42, mf_43, mf_44, mf_45, mf_46, mf_47, mf_48, mf_49, mf_50, mf_51, mf_52, mf_53, mf_54, mf_55, mf_56, ms_56, mf_57, mf_58, ms_58, w1]
  refine mo_isBlown (d := d + 2) (C := p.C) tk (hT1 _) hS ho (hC1 _) hp.2.2.1 d4 (fun hb A' fr => ?_) (fun hb A' fr hS' => ?_)
  · have := go2 A' (fun c c1 c2 c3 => fr c c1 c2) (by rw [fr 219 (by omega) (by omega)]; unfold hfB; rw [if_pos hb]; exact hS)
    exact this
  · have := go2 A' fr (by unfold hfB; rw [if_neg hb]; exact hS')
    exact this
end
