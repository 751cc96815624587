/-! ===== constructors: the class ===== -/
theorem hl_q {L : List va_E} {f : Nat → va_E} {e : va_E} : va_up (hl 32 L f) 68 e = hl 68 [e] (hl 32 L f) := hl_one
def fw0 (f0 : Nat → va_E) (q : Nat → Option Nat) : Nat → va_E := hl 162 (ct_Story 162) (hl 126 (ct_Story 126) (hl 90 (ct_Story 90) (hl 88 (ct_Scene 88) (hl 84 (ct_Listener 84) (hl 82 (ct_Pairs 82) (hl 75 (ct_Gather 75) (hl 69 (ct_Streets 69) (hl 68 [.inl (4, 3, .inr (.inr (.inr (.inr q))))] (hl 32 (ct_Story 32) (hl 30 (ct_Tune 30) (hl 28 (ct_Tune 28) (hl 26 (ct_Tune 26) (hl 21 (ct_Steps 21) (hl 16 (ct_Law 16) (hl 11 (ct_Law 11) (hl 7 (ct_Town 7) (hl 3 (ct_Town 3) (hl 1 (ct_Tape 1) (hl 0 [fw_O 3 7 11 16 26 28 30 0 (nI 0) (nI 0) (nI 0)] f0)))))))))))))))))))
set_option maxRecDepth 100000 in
set_option maxHeartbeats 4000000 in
theorem in_Fog1 {sc : Nat × (Nat → Int32)} {d ss : Nat} {f0 : Nat → va_E} {Q : fx_R → Prop} (hq : ∀ S, S ≤ ss + 30000 → wM sc (d + 4) 86 [.ref 32, .ref 3] (198, 198, S, fw0 f0 (va_up (va_up (va_up (fun _ => none) 0 (some 90)) 1 (some 126)) 2 (some 162))) (wK sc (d + 4) (pg_hd 141) cm_141 [.return_] [.ref 0, .int (nI 3)] [] 0 Q)) : wM sc (d + 5) 141 [.ref 0] (1, 1, ss, hl 0 [.inr (11, [.null, .null, .null, .null, .null, .null, .null, .null, .null, .null, .null, .int 0, .null, .null, .null, .null, .null, .int 0, .int 0, .int 0])] f0) Q := by
  simp (disch := omega) only [cb_141_0, cb_141_95, cb_141_100, cb_141_109, jb_141_95, jb_141_100, jb_141_109, ei_141, wt_141, wC_goto, wC_iconst, wC_ldc2, wC_ldc, wC_getstatic, wC_iadd, wC_isub, wC_imul, wC_iand, wC_ior, wC_ixor, wC_ishl, wC_ishr, wC_iushr, wC_ladd, wC_lmul, wC_land, wC_lcmp, wC_lshl, wC_lshr, wC_i2l, wC_i2b, wC_i2c, wC_popi, wC_popa, wC_dupi, wC_dupa, wC_dup2, wC_idiv, wC_irem, wC_ldiv, wC_lrem, wr_iload, wr_lload, wr_aload, wC_istore, wC_astore, wC_lstore, wr_iinc, wC_icmp_eq, wC_icmp_ne, wC_icmp_lt, wC_icmp_ge, wC_icmp_gt, wC_icmp_le, wC_ifc_eq, wC_ifc_ne, wC_ifc_lt, wC_ifc_ge, wC_ifc_gt, wC_ifc_le, wC_tab, wr_getf, wr_putf, wr_iaload, wr_baload, wr_laload, wr_iastore, wr_bastore, wr_lastore, wr_aaload, wr_alen, wC_slen, wC_sald, wC_oinit, wC_math, wC_iret, wC_lret, wC_vret, wC_zret, wC_cret, wC_jsr, wi_c_, fx_low, List.map_cons, List.map_nil, List.sum_cons, List.sum_nil, fl_int, fl_ref, fl_ra, fl_long, decide_eq_true_eq, decide_true, kk_ltT, kk_ltF, kk_leT, kk_leF, kk_eqT, kk_eqF, kk_0T, kk_0F, kk_g0T, kk_g0F, kk_l0T, kk_l0F, kk_inT, kk_lt0, kk_ge0, kk_m1, kk_m1', kk_m1lt, kk_m1le, kk_m1ltF, kk_m1leT, kk_mm, kk_mm2, kk_mm3, kk_mm4, kk_mm5, kk_cl, kk_sub, kk_p1, kk_shl, kk_shr, kk_and, kk_or, kk_xor, kk_rem2, kk_div, kk_len, kk_z1, kk_ln, kk_i2l, lN_add, lN_mul, kk_tb, kk_b0, kk_b1, nI_add, pk_mul, va_up_ne', va_up_se, va_up_up, ne_eq, not_false_eq_true, not_true_eq_false, false_or, or_false, eq_self, Nat.reducePow, Nat.reduceSub, Nat.reduceBEq, Nat.one_mul, Nat.zero_add, Nat.add_zero, Nat.zero_mul, Nat.mul_zero, cn_m20, cn_m8, cn_m1, cn_0, cn_1, cn_2, cn_3, cn_4, cn_5, cn_6, cn_7, cn_8, cn_9, cn_10, cn_11, cn_12, cn_15, cn_16, cn_20, cn_24, cn_30, cn_31, cn_32, cn_33, cn_34, cn_35, cn_37, cn_40, cn_41, cn_42, cn_43, cn_44, cn_45, cn_47, cn_48, cn_57, cn_59, cn_60, cn_63, cn_91, cn_93, cn_96, cn_97, cn_99, cn_100, cn_122, cn_128, cn_150, cn_200, cn_255, cn_400, cn_560, cn_596, cn_600, cn_999, cn_1024, cn_1788, cn_4096, cn_8400, cn_9999, cn_10000, cn_12345, cn_32767, cn_999999, cn_252645135, cn_858993459, cn_1103515245, cn_1431655765, cn_2147483647, wK_v, wK_r, List.getElem?_cons_zero, List.getElem?_cons_succ, Int.reduceToNat, Nat.reduceDiv, Nat.reduceMod, Nat.reduceMul, Nat.reduceAdd, Nat.reduceLT, Nat.reduceLeDiff, Nat.reduceEqDiff, fx_set, fx_fix, fx_fit, List.length_cons, List.length_nil, List.set_cons_zero, List.set_cons_succ, and_true, true_and, if_true, if_false, ↓reduceIte, and_self, true_or, or_true, not_false_iff, not_true, wr_ii, wr_is, wr_iv, wg_i_, wg_l_, wg_a1, wg_a2, wg_o_, wg_n_, wg_f_, wg_s_, wg_I_, wg_L_, wg_A_, wg_si_, wg_sb_, wg_sl_, wg_m_, wg_c_, wg_t_, List.drop_succ_cons, List.drop_zero, List.take_succ_cons, List.take_zero, List.reverse_cons, List.reverse_nil, List.nil_append, List.cons_append, wr_new, wr_newI, wr_newB, wr_newL, wr_newQ, wr_aast, wg_q_, hl_1, hl_2, hl_3, hl_4, hl_5, hl_6, hl_0, hl_lt, hl_ult, hl_u0, hl_u3, hl_3g, df_0, df_1, df_2, df_3, df_4, df_5, df_6, df_7, df_8, df_9, df_10, df_11, in_Tape, in_Town, in_Law, in_Steps, in_Tune, in_Story, in_Streets, in_Gather, in_Pairs, in_Listener, in_Scene, hl_q, fx_elt]
  exact hq _ (by omega)
abbrev sy00 : Sy := (sn_0 tw0, 0, fun _ => sn_0 tw0)
def pw0 : Pw := (0, fun _ => 0, -1, tw0, lwD, (0, fun _ => 0), (0, fun _ => 0), sy00, 0, fun _ => sy00, 0, nI 0, nI 0)
theorem sn_O0 {f : Nat → va_E} {a : Nat} (h1 : f a = sn_O (nI 60) (nI 0) 0 (nI 0) (-1) (nI 0) (a + 1)) (h2 : f (a + 1) = ar_I 20 (fun _ => 0)) : sn_at 0 f a (sn_0 tw0) := ⟨h1, _, h2, fun m hm => absurd hm (Nat.not_lt_zero m)⟩
theorem st_sy1 {g f : Nat → va_E} {n : Nat} {S : List va_E} (hS : ∀ i, i < 16 → S[2 * i]? = some (sn_O (nI 60) (nI 0) 0 (nI 0) (-1) (nI 0) (n + 4 + 2 * i + 1)) ∧ S[2 * i + 1]? = some (ar_I 20 (fun _ => 0))) (h : ∀ c, n ≤ c → c < n + 36 → g c = hl n (.inr (6, [.ref (n + 1), .ref (n + 3), .int (nI 0)]) :: sn_O (nI 60) (nI 0) 0 (nI 0) (-1) (nI 0) (n + 2) :: ar_I 20 (fun _ => 0) :: roE n 16 :: S) f c) : sy_at 0 g n sy00 := by
  have hx : ∀ i, i < 32 → ∀ e, S[i]? = some e → g (n + (i + 4)) = e := fun i hi e he => by
    rw [h (n + (i + 4)) (by omega) (by omega)]
    refine hl_ix ?_
    simp only [List.getElem?_cons_succ]
    exact he
  have hs : ∀ i, i < 16 → sn_at 0 g (n + 4 + 2 * i) (sn_0 tw0) := by
    intro i hi
    obtain ⟨a1, a2⟩ := hS i hi
    have b1 := hx (2 * i) (by omega) _ a1
    have b2 := hx (2 * i + 1) (by omega) _ a2
    rw [show n + (2 * i + 4) = n + 4 + 2 * i by omega] at b1
    rw [show n + (2 * i + 1 + 4) = n + 4 + 2 * i + 1 by omega] at b2
    exact sn_O0 b1 b2
  have c0 := h n (by omega) (by omega)
  have c1 := h (n + 1) (by omega) (by omega)
  have c2 := h (n + 2) (by omega) (by omega)
  have c3 := h (n + 3) (by omega) (by omega)
  rw [hl_0] at c0
  rw [hl_1g] at c1
  rw [hl_2g] at c2
  rw [hl_3g] at c3
  exact ⟨c0, by show 0 ≤ 16; omega, ⟨ro n 16, c3, fun i hi => if_pos hi⟩, sn_O0 c1 c2, fun i hi => absurd hi (Nat.not_lt_zero i), fun i hi => ⟨_, hs i hi⟩⟩
theorem st_sy {g f : Nat → va_E} {n : Nat} (h : ∀ c, n ≤ c → c < n + 36 → g c = hl n (ct_Story n) f c) : sy_at 0 g n sy00 := st_sy1 (scs_at 16) h
theorem pw0_ok : pw_ok pw0 := ⟨by decide, tn_p0, lwD_ok, ⟨sn_0_ok tn_p0.1, fun i hi => absurd hi (Nat.not_lt_zero i)⟩, by decide, fun i hi => absurd hi (Nat.not_lt_zero i), by decide⟩
theorem lw_a0 {f : Nat → va_E} {l : Nat} (h0 : f l = lw_O l 3) (h1 : f (l + 1) = ar_I 150 (upd (upd (upd (fun _ => 0) 0 (nI 0)) 1 (nI 1)) 2 (nI 2))) (h2 : f (l + 2) = ar_I 150 (upd (upd (upd (fun _ => 0) 0 (nI 1)) 1 (nI 2)) 2 (nI 0))) (h3 : f (l + 3) = ar_I 150 (fun _ => 0)) (h4 : f (l + 4) = ar_I 7 (fun _ => 0)) : lw_at f l lwD := by
  refine ⟨h0, ⟨_, h1, fun i x hx => ?_⟩, ⟨_, h2, fun i x hx => ?_⟩, ⟨_, h3⟩, ⟨_, h4⟩⟩
  · rcases i with _ | _ | _ | i
    · cases hx; rfl
    · cases hx; rfl
    · cases hx; rfl
    · cases hx
  · rcases i with _ | _ | _ | i
    · cases hx; rfl
    · cases hx; rfl
    · cases hx; rfl
    · cases hx
theorem fw_CI {f f0 : Nat → va_E} {q : Nat → Option Nat} (hq : ∀ i, i < 3 → q i = some (90 + 36 * i)) (hf : ∀ c, c < 32 ∨ 67 < c → f c = fw0 f0 q c) (hs : sy_at tw0.m f 32 sy00) : CI f pw0 := by
  have H : ∀ c e, (c < 32 ∨ 67 < c) → fw0 f0 q c = e → f c = e := fun c e h1 h2 => (hf c h1).trans h2
  refine ⟨pw0_ok, 3, 7, 11, 16, 26, 28, 30, nI 0, H 0 _ (by omega) rfl, ?_, ?_, ?_, ?_, ?_, hs, ?_, ?_, ?_, ?_⟩
  · exact ⟨⟨_, H 2 _ (by omega) rfl, fun i hi => ⟨rfl, show (0 : Nat) < 256 by omega⟩⟩, nI 0, nI 0, nI 0, nI 0, H 1 _ (by omega) rfl⟩
  · exact ⟨.inl ⟨rfl, rfl⟩, ⟨H 3 _ (by omega) rfl, ⟨_, H 4 _ (by omega) rfl, fun c hc => absurd hc (Nat.not_lt_zero c)⟩, ⟨_, H 5 _ (by omega) rfl, fun c hc => absurd hc (Nat.not_lt_zero c)⟩, ⟨_, H 6 _ (by omega) rfl, fun c hc => absurd hc (Nat.not_lt_zero c)⟩⟩, 0, 0, nI 60, by omega, by omega, H 7 _ (by omega) rfl, ⟨_, H 8 _ (by omega) rfl⟩, ⟨_, H 9 _ (by omega) rfl⟩, ⟨_, H 10 _ (by omega) rfl⟩⟩
  · exact ⟨.inl ⟨rfl, rfl⟩, lw_a0 (H 11 _ (by omega) rfl) (H 12 _ (by omega) rfl) (H 13 _ (by omega) rfl) (H 14 _ (by omega) rfl) (H 15 _ (by omega) rfl), lwD, by decide, lw_a0 (H 16 _ (by omega) rfl) (H 17 _ (by omega) rfl) (H 18 _ (by omega) rfl) (H 19 _ (by omega) rfl) (H 20 _ (by omega) rfl)⟩
  · exact ⟨⟨0, by omega, H 21 _ (by omega) rfl, ⟨_, H 22 _ (by omega) rfl⟩, ⟨_, H 23 _ (by omega) rfl⟩, ⟨_, H 24 _ (by omega) rfl⟩⟩, _, H 25 _ (by omega) rfl⟩
  · exact ⟨by decide, ⟨H 26 _ (by omega) rfl, by decide, fun i hi => absurd hi (Nat.not_lt_zero i), _, H 27 _ (by omega) rfl, fun i hi => absurd hi (Nat.not_lt_zero i)⟩, ⟨H 28 _ (by omega) rfl, by decide, fun i hi => absurd hi (Nat.not_lt_zero i), _, H 29 _ (by omega) rfl, fun i hi => absurd hi (Nat.not_lt_zero i)⟩, 0, trivial, H 30 _ (by omega) rfl, _, H 31 _ (by omega) rfl⟩
  · refine ⟨⟨q, H 68 _ (by omega) rfl, hq⟩, fun i hi => absurd hi (Nat.not_lt_zero i), fun i hi => ⟨sy00, ?_⟩⟩
    rcases (show i = 0 ∨ i = 1 ∨ i = 2 by omega) with rfl | rfl | rfl
    · exact st_sy (fun c h1 h2 => by rw [hf c (by omega)]; simp (disch := omega) only [fw0, hl_lt]; rfl)
    · exact st_sy (fun c h1 h2 => by rw [hf c (by omega)]; simp (disch := omega) only [fw0, hl_lt]; rfl)
    · exact st_sy (fun c h1 h2 => by rw [hf c (by omega)]; simp (disch := omega) only [fw0, hl_lt]; rfl)
  · exact ⟨none, ⟨nI 0, -1, 73, 74, H 69 _ (by omega) rfl, .inl ⟨rfl, rfl⟩, ⟨_, H 70 _ (by omega) rfl⟩, ⟨_, H 71 _ (by omega) rfl⟩, ⟨_, H 72 _ (by omega) rfl⟩, ⟨_, H 73 _ (by omega) rfl⟩, ⟨_, H 74 _ (by omega) rfl⟩, rfl⟩, ⟨tw0, none, nI 0, -1, -1, -1, H 75 _ (by omega) rfl, ⟨_, H 76 _ (by omega) rfl⟩, ⟨_, H 77 _ (by omega) rfl⟩, ⟨_, H 78 _ (by omega) rfl⟩, ⟨_, H 79 _ (by omega) rfl⟩, ⟨_, H 80 _ (by omega) rfl⟩, ⟨_, H 81 _ (by omega) rfl⟩, .inl rfl⟩, fun fo h => by cases h⟩
  · exact ⟨H 82 _ (by omega) rfl, ⟨_, H 83 _ (by omega) rfl⟩, ⟨-1, -1, H 84 _ (by omega) rfl⟩, ⟨_, H 85 _ (by omega) rfl⟩, ⟨_, H 86 _ (by omega) rfl⟩, ⟨_, H 87 _ (by omega) rfl⟩⟩
  · exact ⟨_, sn_O0 (H 88 _ (by omega) rfl) (H 89 _ (by omega) rfl)⟩
theorem in_Fog {sc : Nat × (Nat → Int32)} {d ss : Nat} {f0 : Nat → va_E} {Q : fx_R → Prop} (hq : ∀ f' S, CI f' pw0 → (∀ c, 198 ≤ c → f' c = f0 c) → S ≤ ss + 30000 → Q (.inl none, (198, 198, S, f'))) : wM sc (d + 5) 141 [.ref 0] (1, 1, ss, hl 0 [.inr (11, [.null, .null, .null, .null, .null, .null, .null, .null, .null, .null, .null, .int 0, .null, .null, .null, .null, .null, .int 0, .int 0, .int 0])] f0) Q := by
  refine in_Fog1 (fun S hS => ?_)
  refine sp_syBegin (b := 3) (t := tw0) (mn := 0) (z := sy00) ⟨rfl, ⟨_, rfl, fun c hc => absurd hc (Nat.not_lt_zero c)⟩, ⟨_, rfl, fun c hc => absurd hc (Nat.not_lt_zero c)⟩, ⟨_, rfl, fun c hc => absurd hc (Nat.not_lt_zero c)⟩⟩ tn_p0.1 (by omega) (st_sy (fun c h1 h2 => by simp (disch := omega) only [fw0, hl_lt]; rfl)) (fun f' hfr hs' => ?_)
  simp (disch := omega) only [wC_goto, wC_iconst, wC_ldc2, wC_ldc, wC_getstatic, wC_iadd, wC_isub, wC_imul, wC_iand, wC_ior, wC_ixor, wC_ishl, wC_ishr, wC_iushr, wC_ladd, wC_lmul, wC_land, wC_lcmp, wC_lshl, wC_lshr, wC_i2l, wC_i2b, wC_i2c, wC_popi, wC_popa, wC_dupi, wC_dupa, wC_dup2, wC_idiv, wC_irem, wC_ldiv, wC_lrem, wr_iload, wr_lload, wr_aload, wC_istore, wC_astore, wC_lstore, wr_iinc, wC_icmp_eq, wC_icmp_ne, wC_icmp_lt, wC_icmp_ge, wC_icmp_gt, wC_icmp_le, wC_ifc_eq, wC_ifc_ne, wC_ifc_lt, wC_ifc_ge, wC_ifc_gt, wC_ifc_le, wC_tab, wr_getf, wr_putf, wr_iaload, wr_baload, wr_laload, wr_iastore, wr_bastore, wr_lastore, wr_aaload, wr_alen, wC_slen, wC_sald, wC_new, wC_newa, wC_newq, wC_oinit, wC_math, wC_iret, wC_lret, wC_vret, wC_zret, wC_cret, wC_jsr, wi_c_, fx_low, List.map_cons, List.map_nil, List.sum_cons, List.sum_nil, fl_int, fl_ref, fl_ra, fl_long, decide_eq_true_eq, decide_true, kk_ltT, kk_ltF, kk_leT, kk_leF, kk_eqT, kk_eqF, kk_0T, kk_0F, kk_g0T, kk_g0F, kk_l0T, kk_l0F, kk_inT, kk_lt0, kk_ge0, kk_m1, kk_m1', kk_m1lt, kk_m1le, kk_m1ltF, kk_m1leT, kk_mm, kk_mm2, kk_mm3, kk_mm4, kk_mm5, kk_cl, kk_sub, kk_p1, kk_shl, kk_shr, kk_and, kk_or, kk_xor, kk_rem2, kk_div, kk_len, kk_z1, kk_ln, kk_i2l, lN_add, lN_mul, kk_tb, kk_b0, kk_b1, nI_add, pk_mul, va_up_ne', va_up_se, va_up_up, ne_eq, not_false_eq_true, not_true_eq_false, false_or, or_false, eq_self, Nat.reducePow, Nat.reduceSub, Nat.reduceBEq, Nat.one_mul, Nat.zero_add, Nat.add_zero, Nat.zero_mul, Nat.mul_zero, cn_m20, cn_m8, cn_m1, cn_0, cn_1, cn_2, cn_3, cn_4, cn_5, cn_6, cn_7, cn_8, cn_9, cn_10, cn_11, cn_12, cn_15, cn_16, cn_20, cn_24, cn_30, cn_31, cn_32, cn_33, cn_34, cn_35, cn_37, cn_40, cn_41, cn_42, cn_43, cn_44, cn_45, cn_47, cn_48, cn_57, cn_59, cn_60, cn_63, cn_91, cn_93, cn_96, cn_97, cn_99, cn_100, cn_122, cn_128, cn_150, cn_200, cn_255, cn_400, cn_560, cn_596, cn_600, cn_999, cn_1024, cn_1788, cn_4096, cn_8400, cn_9999, cn_10000, cn_12345, cn_32767, cn_999999, cn_252645135, cn_858993459, cn_1103515245, cn_1431655765, cn_2147483647, wK_v, wK_r, List.getElem?_cons_zero, List.getElem?_cons_succ, Int.reduceToNat, Nat.reduceDiv, Nat.reduceMod, Nat.reduceMul, Nat.reduceAdd, Nat.reduceLT, Nat.reduceLeDiff, Nat.reduceEqDiff, fx_set, fx_fix, fx_fit, List.length_cons, List.length_nil, List.set_cons_zero, List.set_cons_succ, and_true, true_and, if_true, if_false, ↓reduceIte, and_self, true_or, or_true, not_false_iff, not_true, wr_ii, wr_is, wr_iv, wg_i_, wg_l_, wg_a1, wg_a2, wg_o_, wg_n_, wg_f_, wg_s_, wg_I_, wg_L_, wg_A_, wg_si_, wg_sb_, wg_sl_, wg_m_, wg_c_, wg_t_, List.drop_succ_cons, List.drop_zero, List.take_succ_cons, List.take_zero, List.reverse_cons, List.reverse_nil, List.nil_append, List.cons_append]
  refine hq f' S (fw_CI (fun i hi => ?_) (fun c hc => hfr c (by omega)) hs') (fun c hc => ?_) hS
  · rcases (show i = 0 ∨ i = 1 ∨ i = 2 by omega) with rfl | rfl | rfl <;> rfl
  · rw [hfr c (by omega)]
    unfold fw0
    repeat first
      | rw [hl_gt (by simp only [List.length_cons, List.length_nil]; omega)]
      | rw [hl_gt (by simp only [List.length_cons, scs_n]; omega)]
