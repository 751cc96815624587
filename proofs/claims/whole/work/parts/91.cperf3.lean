/-! ===== the class does work, whole ===== -/
theorem sgC_k {W : Nat → Nat × Nat × Nat} {C : List (Nat × Int32)} {t : Tn} : ∀ n i i2 G, sgC W C t n i i2 G → ∀ k, i ≤ k → k < i2 → (W k).1 < 100
  | 0, i, i2, G, h, k, h1, h2 => by have := h.1; omega
  | n + 1, i, i2, G, h, k, h1, h2 => by
    rcases h with h | ⟨kd, a, b, H, e1, e2, e3, e4⟩ | ⟨N, j, H, K, e0, e1, e2, e3, e4, e5, e6⟩
    · have := h.1; omega
    · by_cases hk : k = i
      · subst hk
        rw [e1]
        show kd < 100
        unfold stV at e2
        omega
      · exact sgC_k n _ _ _ e3 k (by omega) h2
    · have l3 := sgC_le n _ _ _ e3
      have l4 := sgC_le n _ _ _ e4
      by_cases hk : k = i
      · subst hk
        rw [e1]
        show 6 < 100
        omega
      · by_cases hj : k = j
        · subst hj
          rw [e2]
          show 7 < 100
          omega
        · by_cases hlt : k < j
          · exact sgC_k n _ _ _ e3 k (by omega) hlt
          · exact sgC_k n _ _ _ e4 k (by omega) h2
section
variable {sc : Nat × (Nat → Int32)} {d n cc ss : Nat} {h : fx_H} {f : Nat → va_E} {Q : fx_R → Prop} {hn : Nat → Option (Nat × Nat)} {cdm k : List Instr} {ls st : List Value}
variable {b a l : Nat} {C : List (Nat × Int32)} {t : Tn} {gl : Nat → Int32} {rf : Int32} {s : Sn} {cl : Wt} {G : Xw → Xw}
set_option maxHeartbeats 1000000 in
theorem sp_perform (hw : ws_at f rf cl) (h25 : f 25 = ar_I 150 gl) (ha : 25 < a) (hl : l + 4 < 21) (hbl : b + 3 < l) (htn : tn_at f b t) (tk : tn_ok t) (hC : lw_ok C) (hsn : sn_at t.m f a s) (ho : sn_ok t s) (hlw : lw_at f l C) (hG : ∀ W, hlds W 0 cl → ∃ n, sgC W C t n 0 (0 + cl.length) G)
    (hq : ∀ f2 gl2, (∀ c, c ≠ 21 → c ≠ 25 → c ≠ a → c ≠ a + 1 → c ≠ l + 3 → c ≠ l + 4 → f2 c = f c) → f2 21 = ws_O cl.length (nI (G (s, 0, 0, 0)).2.2.2) → f2 25 = ar_I 150 gl2 → sn_at t.m f2 a (G (s, 0, 0, 0)).1 → sn_ok t (G (s, 0, 0, 0)).1 → lw_at f2 l C → (G (s, 0, 0, 0)).2.2.1 ≤ 200 → (G (s, 0, 0, 0)).2.2.2 ≤ 200 → Q (.inl (some (.int (nI (G (s, 0, 0, 0)).2.2.1))), (n, cc, ss, f2))) :
    wM sc (d + 7) 82 [.ref 21, .ref a, .ref b, .ref l] (n, cc, ss, f) Q := by
  obtain ⟨h1, h2, ⟨g3, h3, h3'⟩, ⟨g4, h4, h4'⟩, ⟨g5, h5, h5'⟩⟩ := hw
  obtain ⟨N, hS⟩ := hG (fun i => cl.getD i (0, 0, 0)) (fun x y hx => by rw [Nat.zero_add]; simp [List.getD, hx])
  rw [Nat.zero_add] at hS
  have hW : ∀ i, i < cl.length → cl[i]? = some (cl.getD i (0, 0, 0)) := fun i hi => by simp [List.getD, hi]
  simp (disch := omega) only [ei_82, cb_82_0, wC_goto, wC_iconst, wC_ldc2, wC_ldc, wC_getstatic, wC_iadd, wC_isub, wC_imul, wC_iand, wC_ior, wC_ixor, wC_ishl, wC_ishr, wC_iushr, wC_ladd, wC_lmul, wC_land, wC_lcmp, wC_lshl, wC_lshr, wC_i2l, wC_i2b, wC_i2c, wC_popi, wC_popa, wC_dupi, wC_dupa, wC_dup2, wC_idiv, wC_irem, wC_ldiv, wC_lrem, wr_iload, wr_lload, wr_aload, wC_istore, wC_astore, wC_lstore, wr_iinc, wC_icmp_eq, wC_icmp_ne, wC_icmp_lt, wC_icmp_ge, wC_icmp_gt, wC_icmp_le, wC_ifc_eq, wC_ifc_ne, wC_ifc_lt, wC_ifc_ge, wC_ifc_gt, wC_ifc_le, wC_tab, wr_getf, wr_putf, wr_iaload, wr_baload, wr_laload, wr_iastore, wr_bastore, wr_lastore, wr_aaload, wr_alen, wC_slen, wC_sald, wC_new, wC_newa, wC_newq, wC_oinit, wC_math, wC_iret, wC_lret, wC_vret, wC_zret, wC_cret, wC_jsr, wi_c_, fx_low, List.map_cons, List.map_nil, List.sum_cons, List.sum_nil, fl_int, fl_ref, fl_ra, fl_long, decide_eq_true_eq, decide_true, kk_ltT, kk_ltF, kk_leT, kk_leF, kk_eqT, kk_eqF, kk_0T, kk_0F, kk_g0T, kk_g0F, kk_l0T, kk_l0F, kk_inT, kk_lt0, kk_ge0, kk_m1, kk_m1', kk_m1lt, kk_m1le, kk_m1ltF, kk_m1leT, kk_mm, kk_mm2, kk_mm3, kk_mm4, kk_mm5, kk_cl, kk_sub, kk_p1, kk_shl, kk_shr, kk_and, kk_or, kk_xor, kk_rem2, kk_div, kk_len, kk_z1, kk_ln, kk_i2l, lN_add, lN_mul, kk_tb, kk_b0, kk_b1, nI_add, pk_mul, va_up_ne', va_up_se, va_up_up, ne_eq, not_false_eq_true, not_true_eq_false, false_or, or_false, eq_self, Nat.reducePow, Nat.reduceSub, Nat.reduceBEq, Nat.one_mul, Nat.zero_add, Nat.add_zero, Nat.zero_mul, Nat.mul_zero, cn_m20, cn_m8, cn_m1, cn_0, cn_1, cn_2, cn_3, cn_4, cn_5, cn_6, cn_7, cn_8, cn_9, cn_10, cn_11, cn_12, cn_15, cn_16, cn_20, cn_24, cn_30, cn_31, cn_32, cn_33, cn_34, cn_35, cn_37, cn_40, cn_41, cn_42, cn_43, cn_44, cn_45, cn_47, cn_48, cn_57, cn_59, cn_60, cn_63, cn_91, cn_93, cn_96, cn_97, cn_99, cn_100, cn_122, cn_128, cn_150, cn_200, cn_255, cn_400, cn_560, cn_596, cn_600, cn_999, cn_1024, cn_1788, cn_4096, cn_8400, cn_9999, cn_10000, cn_12345, cn_32767, cn_999999, cn_252645135, cn_858993459, cn_1103515245, cn_1431655765, cn_2147483647, wK_v, wK_r, List.getElem?_cons_zero, List.getElem?_cons_succ, Int.reduceToNat, Nat.reduceDiv, Nat.reduceMod, Nat.reduceMul, Nat.reduceAdd, Nat.reduceLT, Nat.reduceLeDiff, Nat.reduceEqDiff, fx_set, fx_fix, fx_fit, List.length_cons, List.length_nil, List.set_cons_zero, List.set_cons_succ, and_true, true_and, if_true, if_false, ↓reduceIte, and_self, true_or, or_true, not_false_iff, not_true, wr_ii, wr_is, wr_iv, wg_i_, wg_l_, wg_a1, wg_a2, wg_o_, wg_n_, wg_f_, wg_s_, wg_I_, wg_L_, wg_A_, wg_si_, wg_sb_, wg_sl_, wg_m_, wg_c_, wg_t_, List.drop_succ_cons, List.drop_zero, List.take_succ_cons, List.take_zero, List.reverse_cons, List.reverse_nil, List.nil_append, List.cons_append, h1]
  have I0 : pfI (va_up f 21 (ws_O cl.length (nI 0))) (va_up f 21 (ws_O cl.length (nI 0))) C t a l cl.length gl (s, 0, 0, 0) := ⟨fun _ _ _ _ _ _ _ => rfl, va_up_se, by rw [va_up_ne' (by omega)]; exact h25, sn_at_fr hsn (va_up_ne' (by omega)) (va_up_ne' (by omega)), lw_at_fr hlw (fun c _ _ => va_up_ne' (by omega))⟩
  refine pf_seg (d := d) (gk := g3) (gf := g4) (gs := g5) (W := fun i => cl.getD i (0, 0, 0)) (C := C) (t := t) (len := cl.length) (by rw [va_up_ne' (by omega)]; exact h3) (by rw [va_up_ne' (by omega)]; exact h4) (by rw [va_up_ne' (by omega)]; exact h5) h2 ha hl hbl (tn_at_fr htn (fun c _ _ => va_up_ne' (by omega))) tk hC (fun i hi => ⟨h3' i _ (hW i hi), h4' i _ (hW i hi), sgC_k N _ _ _ hS i (Nat.zero_le _) hi⟩) (fun i hi h7 => sgC_7 N _ _ _ hS i (Nat.zero_le _) hi h7) (fun i hi => h5' i _ (hW i hi)) N 0 cl.length G hS (Nat.le_refl _) (s, 0, 0, 0) 0 gl _ (show 0 < 200 by decide) (Nat.le_refl 0) (Nat.le_refl 0) ho (show 0 + 41 * (200 - 0) ≤ 8300 by decide) I0 (fun f3 gl3 turn3 a1 a2 a3 a4 a5 a6 a7 => ?_) (fun f3 gl3 a1 a2 a3 a4 a5 => ?_)
  · obtain ⟨p1, p2, p3, p4, p5⟩ := a7
    have a5 : turn3 + 41 * (200 - (G (s, 0, 0, 0)).2.1) ≤ 0 + 41 * (200 - 0) := a5
    unfold cb_82_11
    simp (disch := omega) only [cb_82_0, cb_82_14, cb_82_16, cb_82_20, cb_82_26, cb_82_31, cb_82_34, cb_82_36, cb_82_43, cb_82_56, cb_82_60, cb_82_66, cb_82_68, cb_82_75, cb_82_77, cb_82_83, cb_82_84, cb_82_86, jb_82_11, jb_82_14, jb_82_16, jb_82_20, jb_82_26, jb_82_31, jb_82_34, jb_82_36, jb_82_43, jb_82_56, jb_82_60, jb_82_66, jb_82_68, jb_82_75, jb_82_77, jb_82_83, jb_82_84, jb_82_86, wC_goto, wC_iconst, wC_ldc2, wC_ldc, wC_getstatic, wC_iadd, wC_isub, wC_imul, wC_iand, wC_ior, wC_ixor, wC_ishl, wC_ishr, wC_iushr, wC_ladd, wC_lmul, wC_land, wC_lcmp, wC_lshl, wC_lshr, wC_i2l, wC_i2b, wC_i2c, wC_popi, wC_popa, wC_dupi, wC_dupa, wC_dup2, wC_idiv, wC_irem, wC_ldiv, wC_lrem, wr_iload, wr_lload, wr_aload, wC_istore, wC_astore, wC_lstore, wr_iinc, wC_icmp_eq, wC_icmp_ne, wC_icmp_lt, wC_icmp_ge, wC_icmp_gt, wC_icmp_le, wC_ifc_eq, wC_ifc_ne, wC_ifc_lt, wC_ifc_ge, wC_ifc_gt, wC_ifc_le, wC_tab, wr_getf, wr_putf, wr_iaload, wr_baload, wr_laload, wr_iastore, wr_bastore, wr_lastore, wr_aaload, wr_alen, wC_slen, wC_sald, wC_new, wC_newa, wC_newq, wC_oinit, wC_math, wC_iret, wC_lret, wC_vret, wC_zret, wC_cret, wC_jsr, wi_c_, fx_low, List.map_cons, List.map_nil, List.sum_cons, List.sum_nil, fl_int, fl_ref, fl_ra, fl_long, decide_eq_true_eq, decide_true, kk_ltT, kk_ltF, kk_leT, kk_leF, kk_eqT, kk_eqF, kk_0T, kk_0F, kk_g0T, kk_g0F, kk_l0T, kk_l0F, kk_inT, kk_lt0, kk_ge0, kk_m1, kk_m1', kk_m1lt, kk_m1le, kk_m1ltF, kk_m1leT, kk_mm, kk_mm2, kk_mm3, kk_mm4, kk_mm5, kk_cl, kk_sub, kk_p1, kk_shl, kk_shr, kk_and, kk_or, kk_xor, kk_rem2, kk_div, kk_len, kk_z1, kk_ln, kk_i2l, lN_add, lN_mul, kk_tb, kk_b0, kk_b1, nI_add, pk_mul, va_up_ne', va_up_se, va_up_up, ne_eq, not_false_eq_true, not_true_eq_false, false_or, or_false, eq_self, Nat.reducePow, Nat.reduceSub, Nat.reduceBEq, Nat.one_mul, Nat.zero_add, Nat.add_zero, Nat.zero_mul, Nat.mul_zero, cn_m20, cn_m8, cn_m1, cn_0, cn_1, cn_2, cn_3, cn_4, cn_5, cn_6, cn_7, cn_8, cn_9, cn_10, cn_11, cn_12, cn_15, cn_16, cn_20, cn_24, cn_30, cn_31, cn_32, cn_33, cn_34, cn_35, cn_37, cn_40, cn_41, cn_42, cn_43, cn_44, cn_45, cn_47, cn_48, cn_57, cn_59, cn_60, cn_63, cn_91, cn_93, cn_96, cn_97, cn_99, cn_100, cn_122, cn_128, cn_150, cn_200, cn_255, cn_400, cn_560, cn_596, cn_600, cn_999, cn_1024, cn_1788, cn_4096, cn_8400, cn_9999, cn_10000, cn_12345, cn_32767, cn_999999, cn_252645135, cn_858993459, cn_1103515245, cn_1431655765, cn_2147483647, wK_v, wK_r, List.getElem?_cons_zero, List.getElem?_cons_succ, Int.reduceToNat, Nat.reduceDiv, Nat.reduceMod, Nat.reduceMul, Nat.reduceAdd, Nat.reduceLT, Nat.reduceLeDiff, Nat.reduceEqDiff, fx_set, fx_fix, fx_fit, List.length_cons, List.length_nil, List.set_cons_zero, List.set_cons_succ, and_true, true_and, if_true, if_false, ↓reduceIte, and_self, true_or, or_true, not_false_iff, not_true, wr_ii, wr_is, wr_iv, wg_i_, wg_l_, wg_a1, wg_a2, wg_o_, wg_n_, wg_f_, wg_s_, wg_I_, wg_L_, wg_A_, wg_si_, wg_sb_, wg_sl_, wg_m_, wg_c_, wg_t_, List.drop_succ_cons, List.drop_zero, List.take_succ_cons, List.take_zero, List.reverse_cons, List.reverse_nil, List.nil_append, List.cons_append, p2]
    exact hq f3 gl3 (fun c c1 c2 c3 c4 c5 c6 => (p1 c c1 c2 c3 c4 c5 c6).trans (va_up_ne' c1)) p2 p3 p4 a4 p5 (by omega) (by omega)
  · obtain ⟨p1, p2, p3, p4, p5⟩ := a5
    exact hq f3 gl3 (fun c c1 c2 c3 c4 c5 c6 => (p1 c c1 c2 c3 c4 c5 c6).trans (va_up_ne' c1)) p2 p3 p4 a4 p5 (by omega) (by omega)
end
