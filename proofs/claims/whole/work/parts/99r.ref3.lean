/-! ===== the reference: a scene goes on ===== -/
theorem mS_po {mn : Nat} {R : Nat → Int32} {s : Sn} {i : Nat} {x : Nat} (hm : mn ≤ 5) (h : mS mn R s) (hi : i < 5) : mS mn (upd R (i) (nI x)) (s.br, s.ni, s.fo, s.bl, s.la, s.sa, va_up s.po i x, s.hb, s.hn, s.st) := by
  obtain ⟨h1, h2, h3, h4, h5, h6, h7⟩ := h
  refine ⟨fun m hmm => ?_, fun c hc => ?_, ?_, ?_, ?_, ?_, ?_⟩
  · obtain ⟨a1, a2, a3, a4⟩ := h1 m hmm
    refine ⟨?_, ?_, ?_, ?_⟩
    · by_cases e : m = i
      · subst e
        rw [pk_us]
        exact (congrArg nI (va_up_se (f := s.po)).symm)
      · rw [pk_un (by omega)]
        exact a1.trans (congrArg nI (va_up_ne' (f := s.po) e).symm)
    · rw [pk_un (by omega)]; exact a2
    · rw [pk_un (by omega)]; exact a3
    · rw [pk_un (by omega)]; exact a4
  · rw [pk_un (by omega)]; exact h2 c hc
  · rw [pk_un (by omega)]; exact h3
  · rw [pk_un (by omega)]; exact h4
  · rw [pk_un (by omega)]; exact h5
  · rw [pk_un (by omega)]; exact h6
  · rw [pk_un (by omega)]; exact h7
theorem mS_hb {mn : Nat} {R : Nat → Int32} {s : Sn} {i : Nat} {x : Int32} (hm : mn ≤ 5) (h : mS mn R s) (hi : i < 5) : mS mn (upd R (5 + i) (x)) (s.br, s.ni, s.fo, s.bl, s.la, s.sa, s.po, va_up s.hb i x, s.hn, s.st) := by
  obtain ⟨h1, h2, h3, h4, h5, h6, h7⟩ := h
  refine ⟨fun m hmm => ?_, fun c hc => ?_, ?_, ?_, ?_, ?_, ?_⟩
  · obtain ⟨a1, a2, a3, a4⟩ := h1 m hmm
    refine ⟨?_, ?_, ?_, ?_⟩
    · rw [pk_un (by omega)]; exact a1
    · by_cases e : m = i
      · subst e
        rw [pk_us]
        exact (congrArg (fun y => y) (va_up_se (f := s.hb)).symm)
      · rw [pk_un (by omega)]
        exact a2.trans (congrArg (fun y => y) (va_up_ne' (f := s.hb) e).symm)
    · rw [pk_un (by omega)]; exact a3
    · rw [pk_un (by omega)]; exact a4
  · rw [pk_un (by omega)]; exact h2 c hc
  · rw [pk_un (by omega)]; exact h3
  · rw [pk_un (by omega)]; exact h4
  · rw [pk_un (by omega)]; exact h5
  · rw [pk_un (by omega)]; exact h6
  · rw [pk_un (by omega)]; exact h7
theorem mS_hn {mn : Nat} {R : Nat → Int32} {s : Sn} {i : Nat} {x : Int32} (hm : mn ≤ 5) (h : mS mn R s) (hi : i < 5) : mS mn (upd R (10 + i) (x)) (s.br, s.ni, s.fo, s.bl, s.la, s.sa, s.po, s.hb, va_up s.hn i x, s.st) := by
  obtain ⟨h1, h2, h3, h4, h5, h6, h7⟩ := h
  refine ⟨fun m hmm => ?_, fun c hc => ?_, ?_, ?_, ?_, ?_, ?_⟩
  · obtain ⟨a1, a2, a3, a4⟩ := h1 m hmm
    refine ⟨?_, ?_, ?_, ?_⟩
    · rw [pk_un (by omega)]; exact a1
    · rw [pk_un (by omega)]; exact a2
    · by_cases e : m = i
      · subst e
        rw [pk_us]
        exact (congrArg (fun y => y) (va_up_se (f := s.hn)).symm)
      · rw [pk_un (by omega)]
        exact a3.trans (congrArg (fun y => y) (va_up_ne' (f := s.hn) e).symm)
    · rw [pk_un (by omega)]; exact a4
  · rw [pk_un (by omega)]; exact h2 c hc
  · rw [pk_un (by omega)]; exact h3
  · rw [pk_un (by omega)]; exact h4
  · rw [pk_un (by omega)]; exact h5
  · rw [pk_un (by omega)]; exact h6
  · rw [pk_un (by omega)]; exact h7
theorem mS_st {mn : Nat} {R : Nat → Int32} {s : Sn} {i : Nat} {x : Int32} (hm : mn ≤ 5) (h : mS mn R s) (hi : i < 5) : mS mn (upd R (15 + i) (x)) (s.br, s.ni, s.fo, s.bl, s.la, s.sa, s.po, s.hb, s.hn, va_up s.st i x) := by
  obtain ⟨h1, h2, h3, h4, h5, h6, h7⟩ := h
  refine ⟨fun m hmm => ?_, fun c hc => ?_, ?_, ?_, ?_, ?_, ?_⟩
  · obtain ⟨a1, a2, a3, a4⟩ := h1 m hmm
    refine ⟨?_, ?_, ?_, ?_⟩
    · rw [pk_un (by omega)]; exact a1
    · rw [pk_un (by omega)]; exact a2
    · rw [pk_un (by omega)]; exact a3
    · by_cases e : m = i
      · subst e
        rw [pk_us]
        exact (congrArg (fun y => y) (va_up_se (f := s.st)).symm)
      · rw [pk_un (by omega)]
        exact a4.trans (congrArg (fun y => y) (va_up_ne' (f := s.st) e).symm)
  · rw [pk_un (by omega)]; exact h2 c hc
  · rw [pk_un (by omega)]; exact h3
  · rw [pk_un (by omega)]; exact h4
  · rw [pk_un (by omega)]; exact h5
  · rw [pk_un (by omega)]; exact h6
  · rw [pk_un (by omega)]; exact h7
theorem mS_br {mn : Nat} {R : Nat → Int32} {s : Sn} {x : Int32} (hm : mn ≤ 5) (h : mS mn R s)  : mS mn (upd R (30) (x)) (x, s.ni, s.fo, s.bl, s.la, s.sa, s.po, s.hb, s.hn, s.st) := by
  obtain ⟨h1, h2, h3, h4, h5, h6, h7⟩ := h
  refine ⟨fun m hmm => ?_, fun c hc => ?_, ?_, ?_, ?_, ?_, ?_⟩
  · obtain ⟨a1, a2, a3, a4⟩ := h1 m hmm
    exact ⟨by rw [pk_un (by omega)]; exact a1, by rw [pk_un (by omega)]; exact a2, by rw [pk_un (by omega)]; exact a3, by rw [pk_un (by omega)]; exact a4⟩
  · rw [pk_un (by omega)]; exact h2 c hc
  · rw [pk_us]
  · rw [pk_un (by omega)]; exact h4
  · rw [pk_un (by omega)]; exact h5
  · rw [pk_un (by omega)]; exact h6
  · rw [pk_un (by omega)]; exact h7
theorem mS_bl {mn : Nat} {R : Nat → Int32} {s : Sn} {x : Int32} (hm : mn ≤ 5) (h : mS mn R s)  : mS mn (upd R (31) (x)) (s.br, s.ni, s.fo, x, s.la, s.sa, s.po, s.hb, s.hn, s.st) := by
  obtain ⟨h1, h2, h3, h4, h5, h6, h7⟩ := h
  refine ⟨fun m hmm => ?_, fun c hc => ?_, ?_, ?_, ?_, ?_, ?_⟩
  · obtain ⟨a1, a2, a3, a4⟩ := h1 m hmm
    exact ⟨by rw [pk_un (by omega)]; exact a1, by rw [pk_un (by omega)]; exact a2, by rw [pk_un (by omega)]; exact a3, by rw [pk_un (by omega)]; exact a4⟩
  · rw [pk_un (by omega)]; exact h2 c hc
  · rw [pk_un (by omega)]; exact h3
  · rw [pk_us]
  · rw [pk_un (by omega)]; exact h5
  · rw [pk_un (by omega)]; exact h6
  · rw [pk_un (by omega)]; exact h7
theorem mS_la {mn : Nat} {R : Nat → Int32} {s : Sn} {x : Int32} (hm : mn ≤ 5) (h : mS mn R s)  : mS mn (upd R (32) (x)) (s.br, s.ni, s.fo, s.bl, x, s.sa, s.po, s.hb, s.hn, s.st) := by
  obtain ⟨h1, h2, h3, h4, h5, h6, h7⟩ := h
  refine ⟨fun m hmm => ?_, fun c hc => ?_, ?_, ?_, ?_, ?_, ?_⟩
  · obtain ⟨a1, a2, a3, a4⟩ := h1 m hmm
    exact ⟨by rw [pk_un (by omega)]; exact a1, by rw [pk_un (by omega)]; exact a2, by rw [pk_un (by omega)]; exact a3, by rw [pk_un (by omega)]; exact a4⟩
  · rw [pk_un (by omega)]; exact h2 c hc
  · rw [pk_un (by omega)]; exact h3
  · rw [pk_un (by omega)]; exact h4
  · rw [pk_us]
  · rw [pk_un (by omega)]; exact h6
  · rw [pk_un (by omega)]; exact h7
theorem mS_sa {mn : Nat} {R : Nat → Int32} {s : Sn} {x : Int32} (hm : mn ≤ 5) (h : mS mn R s)  : mS mn (upd R (33) (x)) (s.br, s.ni, s.fo, s.bl, s.la, x, s.po, s.hb, s.hn, s.st) := by
  obtain ⟨h1, h2, h3, h4, h5, h6, h7⟩ := h
  refine ⟨fun m hmm => ?_, fun c hc => ?_, ?_, ?_, ?_, ?_, ?_⟩
  · obtain ⟨a1, a2, a3, a4⟩ := h1 m hmm
    exact ⟨by rw [pk_un (by omega)]; exact a1, by rw [pk_un (by omega)]; exact a2, by rw [pk_un (by omega)]; exact a3, by rw [pk_un (by omega)]; exact a4⟩
  · rw [pk_un (by omega)]; exact h2 c hc
  · rw [pk_un (by omega)]; exact h3
  · rw [pk_un (by omega)]; exact h4
  · rw [pk_un (by omega)]; exact h5
  · rw [pk_us]
  · rw [pk_un (by omega)]; exact h7
theorem mS_ni {mn : Nat} {R : Nat → Int32} {s : Sn} {x : Int32} (hm : mn ≤ 5) (h : mS mn R s)  : mS mn (upd R (34) (x)) (s.br, x, s.fo, s.bl, s.la, s.sa, s.po, s.hb, s.hn, s.st) := by
  obtain ⟨h1, h2, h3, h4, h5, h6, h7⟩ := h
  refine ⟨fun m hmm => ?_, fun c hc => ?_, ?_, ?_, ?_, ?_, ?_⟩
  · obtain ⟨a1, a2, a3, a4⟩ := h1 m hmm
    exact ⟨by rw [pk_un (by omega)]; exact a1, by rw [pk_un (by omega)]; exact a2, by rw [pk_un (by omega)]; exact a3, by rw [pk_un (by omega)]; exact a4⟩
  · rw [pk_un (by omega)]; exact h2 c hc
  · rw [pk_un (by omega)]; exact h3
  · rw [pk_un (by omega)]; exact h4
  · rw [pk_un (by omega)]; exact h5
  · rw [pk_un (by omega)]; exact h6
  · rw [pk_us]
theorem mS_fo {mn : Nat} {R : Nat → Int32} {s : Sn} {i x : Nat} {v : Int32} (hm : mn ≤ 5) (h : mS mn R s) (hi : i < 10) (hv : v = nI (x.testBit i).toNat) (hx : ∀ c, c < 10 → c ≠ i → x.testBit c = s.fo.testBit c) : mS mn (upd R (20 + i) v) (s.br, s.ni, x, s.bl, s.la, s.sa, s.po, s.hb, s.hn, s.st) := by
  obtain ⟨h1, h2, h3, h4, h5, h6, h7⟩ := h
  refine ⟨fun m hmm => ?_, fun c hc => ?_, ?_, ?_, ?_, ?_, ?_⟩
  · obtain ⟨a1, a2, a3, a4⟩ := h1 m hmm
    exact ⟨by rw [pk_un (by omega)]; exact a1, by rw [pk_un (by omega)]; exact a2, by rw [pk_un (by omega)]; exact a3, by rw [pk_un (by omega)]; exact a4⟩
  · by_cases e : c = i
    · subst e
      rw [pk_us]
      exact hv
    · rw [pk_un (by omega), h2 c hc]
      show nI (s.fo.testBit c).toNat = nI (x.testBit c).toNat
      rw [hx c hc e]
  · rw [pk_un (by omega)]; exact h3
  · rw [pk_un (by omega)]; exact h4
  · rw [pk_un (by omega)]; exact h5
  · rw [pk_un (by omega)]; exact h6
  · rw [pk_un (by omega)]; exact h7
theorem mS_sn {mn : Nat} {R : Nat → Int32} {s s' : Sn} (h : mS mn R s) (h1 : ∀ m, m < mn → s'.po m = s.po m ∧ s'.hb m = s.hb m ∧ s'.hn m = s.hn m ∧ s'.st m = s.st m) (h2 : s'.fo = s.fo) (h3 : s'.br = s.br) (h4 : s'.bl = s.bl) (h5 : s'.la = s.la) (h6 : s'.sa = s.sa) (h7 : s'.ni = s.ni) : mS mn R s' := by
  obtain ⟨a1, a2, a3, a4, a5, a6, a7⟩ := h
  refine ⟨fun m hm => ?_, fun c hc => ?_, a3.trans h3.symm, a4.trans h4.symm, a5.trans h5.symm, a6.trans h6.symm, a7.trans h7.symm⟩
  · obtain ⟨b1, b2, b3, b4⟩ := a1 m hm
    obtain ⟨e1, e2, e3, e4⟩ := h1 m hm
    exact ⟨by rw [b1, e1], b2.trans e2.symm, b3.trans e3.symm, b4.trans e4.symm⟩
  · rw [a2 c hc, h2]
/-- some men have gone, the others not yet -/
def mxs (t : Tn) (s : Sn) (w : Nat) (br : Int32) (i : Nat) : Sn := (br, s.ni, s.fo, s.bl, s.la, s.sa, (fun m => if m < i then (sn_mv t s w).po m else s.po m), (fun m => if m < i then (sn_mv t s w).hb m else s.hb m), (fun m => if m < i then (sn_mv t s w).hn m else s.hn m), (fun m => if m < i then (sn_mv t s w).st m else s.st m))
theorem mx_if {α : Type} {a b x : Nat → α} {i m : Nat} (h : m = i → x m = a m) (h2 : m ≠ i → x m = if m < i then a m else b m) : (if m < i + 1 then a m else b m) = x m := by
  by_cases e : m = i
  · rw [if_pos (by omega), h e]
  · rw [h2 e]
    by_cases e2 : m < i
    · rw [if_pos (by omega), if_pos e2]
    · rw [if_neg (by omega), if_neg e2]
section
variable {sc : Nat × (Nat → Int32)} {d n cc ss : Nat} {h : fx_H} {f : Nat → va_E} {Q : fx_R → Prop} {I : Nat → Int32} {A : Nat → Nat → Int32} {L : Nat → Nat → Int64} {t : Tn} {s : Sn} {p : Pw}
set_option maxHeartbeats 2000000 in
theorem lp_isBlown {w : Nat} {br cost : Int32} (tk : tn_ok t) (ho : sn_ok t s) (hw : w < 4) (hx : ∀ A', (∀ c, c ≠ 219 → A' c = A c) → mS t.m (A' 219) (br, s.ni, s.fo, s.bl + nI 1, nI w, (if s.la = nI w then s.sa + nI 1 else nI 1), (sn_mv t s w).po, (sn_mv t s w).hb, (sn_mv t s w).hn, (sn_mv t s w).st) → Q (.inl (some (.int (nI 1))), (n, cc, ss, mh f I A' L))) :
    ∀ (j i : Nat) (R : Nat → Int32), i + j = t.m → mT I A t → mS t.m R (mxs t s w br i) →
    wC sc d (pg_hd 254) cm_254 cb_254_22 [.ref 198, .int (nI w), .int cost, .int (nI i)] [] (n, cc, ss, mh f I (va_up A 219 R) L) Q := by
  have h5 := tk.2.1
  have hk := tk.1
  intro j
  induction j with
  | zero =>
    intro i R hi hT hS
    have hiN : i = t.m := by omega
    subst hiN
    obtain ⟨i19, i20, t3, t4⟩ := hT
    obtain ⟨-, -, r0, r1, r2, r3, r4⟩ := id hS
    have fin : ∀ sa', sa' = (if s.la = nI w then s.sa + nI 1 else nI 1) → Q (.inl (some (.int (nI 1))), (n, cc, ss, mh f I (va_up A 219 (upd (upd (upd R 33 sa') 32 (nI w)) 31 (s.bl + nI 1))) L)) := by
      intro sa' hsa
      refine hx _ (fun c hc => va_up_ne' hc) ?_
      rw [va_up_se]
      refine mS_sn (mS_bl h5 (mS_la h5 (mS_sa h5 hS))) (fun m hm => ?_) rfl rfl rfl rfl hsa.symm rfl
      refine ⟨?_, ?_, ?_, ?_⟩ <;> exact (if_pos hm).symm
    by_cases he : s.la = nI w
    · have := fin (s.sa + nI 1) (by rw [if_pos he])
      unfold cb_254_22
      simp (disch := omega) only [cb_254_0, cb_254_10, cb_254_12, cb_254_26, cb_254_39, cb_254_50, cb_254_94, cb_254_96, cb_254_105, cb_254_112, cb_254_113, jb_254_10, jb_254_12, jb_254_22, jb_254_26, jb_254_39, jb_254_50, jb_254_94, jb_254_96, jb_254_105, jb_254_112, jb_254_113, wC_goto, wC_iconst, wC_ldc2, wC_ldc, wC_getstatic, wC_iadd, wC_isub, wC_imul, wC_iand, wC_ior, wC_ixor, wC_ishl, wC_ishr, wC_iushr, wC_ladd, wC_lmul, wC_land, wC_lcmp, wC_lshl, wC_lshr, wC_i2l, wC_i2b, wC_i2c, wC_popi, wC_popa, wC_dupi, wC_dupa, wC_dup2, wC_idiv, wC_irem, wC_ldiv, wC_lrem, wr_iload, wr_lload, wr_aload, wC_istore, wC_astore, wC_lstore, wr_iinc, wC_icmp_eq, wC_icmp_ne, wC_icmp_lt, wC_icmp_ge, wC_icmp_gt, wC_icmp_le, wC_ifc_eq, wC_ifc_ne, wC_ifc_lt, wC_ifc_ge, wC_ifc_gt, wC_ifc_le, wC_tab, wr_getf, wr_putf, wr_iaload, wr_baload, wr_laload, wr_iastore, wr_bastore, wr_lastore, wr_aaload, wr_alen, wC_slen, wC_sald, wC_new, wC_newa, wC_newq, wC_oinit, wC_math, wC_iret, wC_lret, wC_vret, wC_zret, wC_cret, wC_jsr, wi_c_, fx_low, List.map_cons, List.map_nil, List.sum_cons, List.sum_nil, fl_int, fl_ref, fl_ra, fl_long, decide_eq_true_eq, decide_true, kk_ltT, kk_ltF, kk_leT, kk_leF, kk_eqT, kk_eqF, kk_0T, kk_0F, kk_g0T, kk_g0F, kk_l0T, kk_l0F, kk_inT, kk_lt0, kk_ge0, kk_m1, kk_m1', kk_m1lt, kk_m1le, kk_m1ltF, kk_m1leT, kk_mm, kk_mm2, kk_mm3, kk_mm4, kk_mm5, kk_cl, kk_sub, kk_p1, kk_shl, kk_shr, kk_and, kk_or, kk_xor, kk_rem2, kk_div, kk_len, kk_z1, kk_ln, kk_i2l, lN_add, lN_mul, kk_tb, kk_b0, kk_b1, nI_add, pk_mul, va_up_ne', va_up_se, va_up_up, ne_eq, not_false_eq_true, not_true_eq_false, false_or, or_false, eq_self, Nat.reducePow, Nat.reduceSub, Nat.reduceBEq, Nat.one_mul, Nat.zero_add, Nat.add_zero, Nat.zero_mul, Nat.mul_zero, cn_m20, cn_m8, cn_m1, cn_0, cn_1, cn_2, cn_3, cn_4, cn_5, cn_6, cn_7, cn_8, cn_9, cn_10, cn_11, cn_12, cn_15, cn_16, cn_20, cn_24, cn_30, cn_31, cn_32, cn_33, cn_34, cn_35, cn_37, cn_40, cn_41, cn_42, cn_43, cn_44, cn_45, cn_47, cn_48, cn_57, cn_59, cn_60, cn_63, cn_91, cn_93, cn_96, cn_97, cn_99, cn_100, cn_122, cn_128, cn_150, cn_200, cn_255, cn_400, cn_560, cn_596, cn_600, cn_999, cn_1024, cn_1788, cn_4096, cn_8400, cn_9999, cn_10000, cn_12345, cn_32767, cn_999999, cn_252645135, cn_858993459, cn_1103515245, cn_1431655765, cn_2147483647, wK_v, wK_r, List.getElem?_cons_zero, List.getElem?_cons_succ, Int.reduceToNat, Nat.reduceDiv, Nat.reduceMod, Nat.reduceMul, Nat.reduceAdd, Nat.reduceLT, Nat.reduceLeDiff, Nat.reduceEqDiff, fx_set, fx_fix, fx_fit, List.length_cons, List.length_nil, List.set_cons_zero, List.set_cons_succ, and_true, true_and, if_true, if_false, ↓reduceIte, and_self, true_or, or_true, not_false_iff, not_true, wr_ii, wr_is, wr_iv, wg_i_, wg_l_, wg_a1, wg_a2, wg_o_, wg_n_, wg_f_, wg_s_, wg_I_, wg_L_, wg_A_, wg_si_, wg_sb_, wg_sl_, wg_m_, wg_c_, wg_t_, List.drop_succ_cons, List.drop_zero, List.take_succ_cons, List.take_zero, List.reverse_cons, List.reverse_nil, List.nil_append, List.cons_append, mh_o, MF_n, mh_uo, mh_199, mw_199, mh_200, mw_200, mh_201, mw_201, mh_202, mw_202, mh_203, mw_203, mh_204, mw_204, mh_205, mw_205, mh_206, mw_206, mh_207, mw_207, mh_208, mw_208, mh_209, mw_209, mh_210, mw_210, mh_211, mw_211, mh_212, mw_212, mh_213, mw_213, mh_214, mw_214, mh_215, mw_215, mh_216, mw_216, mh_217, mw_217, mh_218, mw_218, mh_219, mw_219, mh_220, mw_220, mh_221, mw_221, mh_222, mw_222, mh_223, mw_223, mh_224, mw_224, mh_225, mw_225, mh_226, mw_226, mh_227, mw_227, mh_228, mw_228, mh_229, mw_229, mh_230, mw_230, mh_231, mw_231, mf_0, ms_0, mf_1, mf_2, ms_2, mf_3, ms_3, mf_4, ms_4, mf_5, ms_5, mf_6, ms_6, mf_7, ms_7, mf_8, ms_8, mf_9, mf_10, mf_11, mf_12, mf_13, mf_14, mf_15, mf_16, ms_16, mf_17, ms_17, mf_18, ms_18, mf_19, ms_19, mf_20, ms_20, mf_21, ms_21, mf_22, mf_23, mf_24, mf_25, mf_26, mf_27, ms_27, mf_28, ms_28, mf_29, mf_30, mf_31, mf_32, ms_32, mf_33, ms_33, mf_34, ms_34, mf_35, ms_35, mf_36, ms_36, mf_37, ms_37, mf_38, mf_39, mf_40, mf_41, ms_41, mf_42, ms_42, mf_43, mf_44, mf_45, mf_46, mf_47, mf_48, mf_49, mf_50, mf_51, mf_52, mf_53, mf_54, mf_55, mf_56, ms_56, mf_57, mf_58, ms_58, i20, pk_un, pk_us, r0, r1, r2, r3, r4, mxs, he]
      exact this
    · have := fin (nI 1) (by rw [if_neg he])
      unfold cb_254_22
      simp (disch := omega) only [cb_254_0, cb_254_10, cb_254_12, cb_254_26, cb_254_39, cb_254_50, cb_254_94, cb_254_96, cb_254_105, cb_254_112, cb_254_113, jb_254_10, jb_254_12, jb_254_22, jb_254_26, jb_254_39, jb_254_50, jb_254_94, jb_254_96, jb_254_105, jb_254_112, jb_254_113, wC_goto, wC_iconst, wC_ldc2, wC_ldc, wC_getstatic, wC_iadd, wC_isub, wC_imul, wC_iand, wC_ior, wC_ixor, wC_ishl, wC_ishr, wC_iushr, wC_ladd, wC_lmul, wC_land, wC_lcmp, wC_lshl, wC_lshr, wC_i2l, wC_i2b, wC_i2c, wC_popi, wC_popa, wC_dupi, wC_dupa, wC_dup2, wC_idiv, wC_irem, wC_ldiv, wC_lrem, wr_iload, wr_lload, wr_aload, wC_istore, wC_astore, wC_lstore, wr_iinc, wC_icmp_eq, wC_icmp_ne, wC_icmp_lt, wC_icmp_ge, wC_icmp_gt, wC_icmp_le, wC_ifc_eq, wC_ifc_ne, wC_ifc_lt, wC_ifc_ge, wC_ifc_gt, wC_ifc_le, wC_tab, wr_getf, wr_putf, wr_iaload, wr_baload, wr_laload, wr_iastore, wr_bastore, wr_lastore, wr_aaload, wr_alen, wC_slen, wC_sald, wC_new, wC_newa, wC_newq, wC_oinit, wC_math, wC_iret, wC_lret, wC_vret, wC_zret, wC_cret, wC_jsr, wi_c_, fx_low, List.map_cons, List.map_nil, List.sum_cons, List.sum_nil, fl_int, fl_ref, fl_ra, fl_long, decide_eq_true_eq, decide_true, kk_ltT, kk_ltF, kk_leT, kk_leF, kk_eqT, kk_eqF, kk_0T, kk_0F, kk_g0T, kk_g0F, kk_l0T, kk_l0F, kk_inT, kk_lt0, kk_ge0, kk_m1, kk_m1', kk_m1lt, kk_m1le, kk_m1ltF, kk_m1leT, kk_mm, kk_mm2, kk_mm3, kk_mm4, kk_mm5, kk_cl, kk_sub, kk_p1, kk_shl, kk_shr, kk_and, kk_or, kk_xor, kk_rem2, kk_div, kk_len, kk_z1, kk_ln, kk_i2l, lN_add, lN_mul, kk_tb, kk_b0, kk_b1, nI_add, pk_mul, va_up_ne', va_up_se, va_up_up, ne_eq, not_false_eq_true, not_true_eq_false, false_or, or_false, eq_self, Nat.reducePow, Nat.reduceSub, Nat.reduceBEq, Nat.one_mul, Nat.zero_add, Nat.add_zero, Nat.zero_mul, Nat.mul_zero, cn_m20, cn_m8, cn_m1, cn_0, cn_1, cn_2, cn_3, cn_4, cn_5, cn_6, cn_7, cn_8, cn_9, cn_10, cn_11, cn_12, cn_15, cn_16, cn_20, cn_24, cn_30, cn_31, cn_32, cn_33, cn_34, cn_35, cn_37, cn_40, cn_41, cn_42, cn_43, cn_44, cn_45, cn_47, cn_48, cn_57, cn_59, cn_60, cn_63, cn_91, cn_93, cn_96, cn_97, cn_99, cn_100, cn_122, cn_128, cn_150, cn_200, cn_255, cn_400, cn_560, cn_596, cn_600, cn_999, cn_1024, cn_1788, cn_4096, cn_8400, cn_9999, cn_10000, cn_12345, cn_32767, cn_999999, cn_252645135, cn_858993459, cn_1103515245, cn_1431655765, cn_2147483647, wK_v, wK_r, List.getElem?_cons_zero, List.getElem?_cons_succ, Int.reduceToNat, Nat.reduceDiv, Nat.reduceMod, Nat.reduceMul, Nat.reduceAdd, Nat.reduceLT, Nat.reduceLeDiff, Nat.reduceEqDiff, fx_set, fx_fix, fx_fit, List.length_cons, List.length_nil, List.set_cons_zero, List.set_cons_succ, and_true, true_and, if_true, if_false, ↓reduceIte, and_self, true_or, or_true, not_false_iff, not_true, wr_ii, wr_is, wr_iv, wg_i_, wg_l_, wg_a1, wg_a2, wg_o_, wg_n_, wg_f_, wg_s_, wg_I_, wg_L_, wg_A_, wg_si_, wg_sb_, wg_sl_, wg_m_, wg_c_, wg_t_, List.drop_succ_cons, List.drop_zero, List.take_succ_cons, List.take_zero, List.reverse_cons, List.reverse_nil, List.nil_append, List.cons_append, mh_o, MF_n, mh_uo, mh_199, mw_199, mh_200, mw_200, mh_201, mw_201, mh_202, mw_202, mh_203, mw_203, mh_204, mw_204, mh_205, mw_205, mh_206, mw_206, mh_207, mw_207, mh_208, mw_208, mh_209, mw_209, mh_210, mw_210, mh_211, mw_211, mh_212, mw_212, mh_213, mw_213, mh_214, mw_214, mh_215, mw_215, mh_216, mw_216, mh_217, mw_217, mh_218, mw_218, mh_219, mw_219, mh_220, mw_220, mh_221, mw_221, mh_222, mw_222, mh_223, mw_223, mh_224, mw_224, mh_225, mw_225, mh_226, mw_226, mh_227, mw_227, mh_228, mw_228, mh_229, mw_229, mh_230, mw_230, mh_231, mw_231, mf_0, ms_0, mf_1, mf_2, ms_2, mf_3, ms_3, mf_4, ms_4, mf_5, ms_5, mf_6, ms_6, mf_7, ms_7, mf_8, ms_8, mf_9, mf_10, mf_11, mf_12, mf_13, mf_14, mf_15, mf_16, ms_16, mf_17, ms_17, mf_18, ms_18, mf_19, ms_19, mf_20, ms_20, mf_21, ms_21, mf_22, mf_23, mf_24, mf_25, mf_26, mf_27, ms_27, mf_28, ms_28, mf_29, mf_30, mf_31, mf_32, ms_32, mf_33, ms_33, mf_34, ms_34, mf_35, ms_35, mf_36, ms_36, mf_37, ms_37, mf_38, mf_39, mf_40, mf_41, ms_41, mf_42, ms_42, mf_43, mf_44, mf_45, mf_46, mf_47, mf_48, mf_49, mf_50, mf_51, mf_52, mf_53, mf_54, mf_55, mf_56, ms_56, mf_57, mf_58, ms_58, i20, pk_un, pk_us, r0, r1, r2, r3, r4, mxs, he]
      exact this
  | succ j ih =>
    intro i R hi hT hS
    obtain ⟨i19, i20, t3, t4⟩ := id hT
    obtain ⟨q1, q2, q3, q4⟩ := hS.1 i (by omega)
    have e1 : (mxs t s w br i).po i = s.po i := if_neg (Nat.lt_irrefl i)
    have e2 : (mxs t s w br i).hb i = s.hb i := if_neg (Nat.lt_irrefl i)
    have e3 : (mxs t s w br i).hn i = s.hn i := if_neg (Nat.lt_irrefl i)
    have e4 : (mxs t s w br i).st i = s.st i := if_neg (Nat.lt_irrefl i)
    rw [e1] at q1
    rw [e2] at q2
    rw [e3] at q3
    rw [e4] at q4
    have p1 := ho.2.2 i (by omega)
    have p2 := tk.2.2.2.2.1 (s.po i) p1 w hw
    have p3 := tk.2.2.2.1 _ p2
    have k1 := hS.2.1 (s.po i) (by omega)
    have k2 := t4 (s.po i) p1 w hw
    have k3 := t3 _ p2
    have kf : (mxs t s w br i).fo = s.fo := rfl
    rw [kf] at k1
    by_cases hf : s.fo.testBit (s.po i) = true
    · rw [hf] at k1
      have nx := ih (i + 1) (upd R (15 + i) (s.st i + nI 1)) (by omega) hT (by
        refine mS_sn (mS_st h5 hS (by omega)) (fun m hm => ?_) rfl rfl rfl rfl rfl rfl
        refine ⟨mx_if (fun e => ?_) (fun e => rfl), mx_if (fun e => ?_) (fun e => rfl), mx_if (fun e => ?_) (fun e => rfl), mx_if (fun e => ?_) (fun e => va_up_ne' e)⟩
        · subst e; exact e1.trans (if_pos hf).symm
        · subst e; exact e2.trans (if_pos hf).symm
        · subst e; exact e3.trans (if_pos hf).symm
        · subst e; exact va_up_se.trans (if_pos hf).symm)
      unfold cb_254_22
      simp (disch := omega) only [cb_254_0, cb_254_10, cb_254_12, cb_254_26, cb_254_39, cb_254_50, cb_254_94, cb_254_96, cb_254_105, cb_254_112, cb_254_113, jb_254_10, jb_254_12, jb_254_22, jb_254_26, jb_254_39, jb_254_50, jb_254_94, jb_254_96, jb_254_105, jb_254_112, jb_254_113, wC_goto, wC_iconst, wC_ldc2, wC_ldc, wC_getstatic, wC_iadd, wC_isub, wC_imul, wC_iand, wC_ior, wC_ixor, wC_ishl, wC_ishr, wC_iushr, wC_ladd, wC_lmul, wC_land, wC_lcmp, wC_lshl, wC_lshr, wC_i2l, wC_i2b, wC_i2c, wC_popi, wC_popa, wC_dupi, wC_dupa, wC_dup2, wC_idiv, wC_irem, wC_ldiv, wC_lrem, wr_iload, wr_lload, wr_aload, wC_istore, wC_astore, wC_lstore, wr_iinc, wC_icmp_eq, wC_icmp_ne, wC_icmp_lt, wC_icmp_ge, wC_icmp_gt, wC_icmp_le, wC_ifc_eq, wC_ifc_ne, wC_ifc_lt, wC_ifc_ge, wC_ifc_gt, wC_ifc_le, wC_tab, wr_getf, wr_putf, wr_iaload, wr_baload, wr_laload, wr_iastore, wr_bastore, wr_lastore, wr_aaload, wr_alen, wC_slen, wC_sald, wC_new, wC_newa, wC_newq, wC_oinit, wC_math, wC_iret, wC_lret, wC_vret, wC_zret, wC_cret, wC_jsr, wi_c_, fx_low, List.map_cons, List.map_nil, List.sum_cons, List.sum_nil, fl_int, fl_ref, fl_ra, fl_long, decide_eq_true_eq, decide_true, kk_ltT, kk_ltF, kk_leT, kk_leF, kk_eqT, kk_eqF, kk_0T, kk_0F, kk_g0T, kk_g0F, kk_l0T, kk_l0F, kk_inT, kk_lt0, kk_ge0, kk_m1, kk_m1', kk_m1lt, kk_m1le, kk_m1ltF, kk_m1leT, kk_mm, kk_mm2, kk_mm3, kk_mm4, kk_mm5, kk_cl, kk_sub, kk_p1, kk_shl, kk_shr, kk_and, kk_or, kk_xor, kk_rem2, kk_div, kk_len, kk_z1, kk_ln, kk_i2l, lN_add, lN_mul, kk_tb, kk_b0, kk_b1, nI_add, pk_mul, va_up_ne', va_up_se, va_up_up, ne_eq, not_false_eq_true, not_true_eq_false, false_or, or_false, eq_self, Nat.reducePow, Nat.reduceSub, Nat.reduceBEq, Nat.one_mul, Nat.zero_add, Nat.add_zero, Nat.zero_mul, Nat.mul_zero, cn_m20, cn_m8, cn_m1, cn_0, cn_1, cn_2, cn_3, cn_4, cn_5, cn_6, cn_7, cn_8, cn_9, cn_10, cn_11, cn_12, cn_15, cn_16, cn_20, cn_24, cn_30, cn_31, cn_32, cn_33, cn_34, cn_35, cn_37, cn_40, cn_41, cn_42, cn_43, cn_44, cn_45, cn_47, cn_48, cn_57, cn_59, cn_60, cn_63, cn_91, cn_93, cn_96, cn_97, cn_99, cn_100, cn_122, cn_128, cn_150, cn_200, cn_255, cn_400, cn_560, cn_596, cn_600, cn_999, cn_1024, cn_1788, cn_4096, cn_8400, cn_9999, cn_10000, cn_12345, cn_32767, cn_999999, cn_252645135, cn_858993459, cn_1103515245, cn_1431655765, cn_2147483647, wK_v, wK_r, List.getElem?_cons_zero, List.getElem?_cons_succ, Int.reduceToNat, Nat.reduceDiv, Nat.reduceMod, Nat.reduceMul, Nat.reduceAdd, Nat.reduceLT, Nat.reduceLeDiff, Nat.reduceEqDiff, fx_set, fx_fix, fx_fit, List.length_cons, List.length_nil, List.set_cons_zero, List.set_cons_succ, and_true, true_and, if_true, if_false, ↓reduceIte, and_self, true_or, or_true, not_false_iff, not_true, wr_ii, wr_is, wr_iv, wg_i_, wg_l_, wg_a1, wg_a2, wg_o_, wg_n_, wg_f_, wg_s_, wg_I_, wg_L_, wg_A_, wg_si_, wg_sb_, wg_sl_, wg_m_, wg_c_, wg_t_, List.drop_succ_cons, List.drop_zero, List.take_succ_cons, List.take_zero, List.reverse_cons, List.reverse_nil, List.nil_append, List.cons_append, mh_o, MF_n, mh_uo, mh_199, mw_199, mh_200, mw_200, mh_201, mw_201, mh_202, mw_202, mh_203, mw_203, mh_204, mw_204, mh_205, mw_205, mh_206, mw_206, mh_207, mw_207, mh_208, mw_208, mh_209, mw_209, mh_210, mw_210, mh_211, mw_211, mh_212, mw_212, mh_213, mw_213, mh_214, mw_214, mh_215, mw_215, mh_216, mw_216, mh_217, mw_217, mh_218, mw_218, mh_219, mw_219, mh_220, mw_220, mh_221, mw_221, mh_222, mw_222, mh_223, mw_223, mh_224, mw_224, mh_225, mw_225, mh_226, mw_226, mh_227, mw_227, mh_228, mw_228, mh_229, mw_229, mh_230, mw_230, mh_231, mw_231, mf_0, ms_0, mf_1, mf_2, ms_2, mf_3, ms_3, mf_4, ms_4, mf_5, ms_5, mf_6, ms_6, mf_7, ms_7, mf_8, ms_8, mf_9, mf_10, mf_11, mf_12, mf_13, mf_14, mf_15, mf_16, ms_16, mf_17, ms_17, mf_18, ms_18, mf_19, ms_19, mf_20, ms_20, mf_21, ms_21, mf_22, mf_23, mf_24, mf_25, mf_26, mf_27, ms_27, mf_28, ms_28, mf_29, mf_30, mf_31, mf_32, ms_32, mf_33, ms_33, mf_34, ms_34, mf_35, ms_35, mf_36, ms_36, mf_37, ms_37, mf_38, mf_39, mf_40, mf_41, ms_41, mf_42, ms_42, mf_43, mf_44, mf_45, mf_46, mf_47, mf_48, mf_49, mf_50, mf_51, mf_52, mf_53, mf_54, mf_55, mf_56, ms_56, mf_57, mf_58, ms_58, i20, q1, q2, q3, q4, k1, Bool.toNat_true]
      exact nx
    · have hf2 : s.fo.testBit (s.po i) = false := by simpa using hf
      rw [hf2] at k1
      have nx := ih (i + 1) (upd (upd (upd R i (nI (t.wy (s.po i) w))) (5 + i) (nI (t.bl (t.wy (s.po i) w)))) (10 + i) (s.hn i + nI 1)) (by omega) hT (by
        refine mS_sn (mS_hn h5 (mS_hb h5 (mS_po h5 hS (by omega)) (by omega)) (by omega)) (fun m hm => ?_) rfl rfl rfl rfl rfl rfl
        refine ⟨mx_if (fun e => ?_) (fun e => va_up_ne' e), mx_if (fun e => ?_) (fun e => va_up_ne' e), mx_if (fun e => ?_) (fun e => va_up_ne' e), mx_if (fun e => ?_) (fun e => rfl)⟩
        · subst e; exact va_up_se.trans (if_neg hf).symm
        · subst e; exact va_up_se.trans (if_neg hf).symm
        · subst e; exact va_up_se.trans (if_neg hf).symm
        · subst e; exact e4.trans (if_neg hf).symm)
      unfold cb_254_22
      simp (disch := omega) only [cb_254_0, cb_254_10, cb_254_12, cb_254_26, cb_254_39, cb_254_50, cb_254_94, cb_254_96, cb_254_105, cb_254_112, cb_254_113, jb_254_10, jb_254_12, jb_254_22, jb_254_26, jb_254_39, jb_254_50, jb_254_94, jb_254_96, jb_254_105, jb_254_112, jb_254_113, wC_goto, wC_iconst, wC_ldc2, wC_ldc, wC_getstatic, wC_iadd, wC_isub, wC_imul, wC_iand, wC_ior, wC_ixor, wC_ishl, wC_ishr, wC_iushr, wC_ladd, wC_lmul, wC_land, wC_lcmp, wC_lshl, wC_lshr, wC_i2l, wC_i2b, wC_i2c, wC_popi, wC_popa, wC_dupi, wC_dupa, wC_dup2, wC_idiv, wC_irem, wC_ldiv, wC_lrem, wr_iload, wr_lload, wr_aload, wC_istore, wC_astore, wC_lstore, wr_iinc, wC_icmp_eq, wC_icmp_ne, wC_icmp_lt, wC_icmp_ge, wC_icmp_gt, wC_icmp_le, wC_ifc_eq, wC_ifc_ne, wC_ifc_lt, wC_ifc_ge, wC_ifc_gt, wC_ifc_le, wC_tab, wr_getf, wr_putf, wr_iaload, wr_baload, wr_laload, wr_iastore, wr_bastore, wr_lastore, wr_aaload, wr_alen, wC_slen, wC_sald, wC_new, wC_newa, wC_newq, wC_oinit, wC_math, wC_iret, wC_lret, wC_vret, wC_zret, wC_cret, wC_jsr, wi_c_, fx_low, List.map_cons, List.map_nil, List.sum_cons, List.sum_nil, fl_int, fl_ref, fl_ra, fl_long, decide_eq_true_eq, decide_true, kk_ltT, kk_ltF, kk_leT, kk_leF, kk_eqT, kk_eqF, kk_0T, kk_0F, kk_g0T, kk_g0F, kk_l0T, kk_l0F, kk_inT, kk_lt0, kk_ge0, kk_m1, kk_m1', kk_m1lt, kk_m1le, kk_m1ltF, kk_m1leT, kk_mm, kk_mm2, kk_mm3, kk_mm4, kk_mm5, kk_cl, kk_sub, kk_p1, kk_shl, kk_shr, kk_and, kk_or, kk_xor, kk_rem2, kk_div, kk_len, kk_z1, kk_ln, kk_i2l, lN_add, lN_mul, kk_tb, kk_b0, kk_b1, nI_add, pk_mul, va_up_ne', va_up_se, va_up_up, ne_eq, not_false_eq_true, not_true_eq_false, false_or, or_false, eq_self, Nat.reducePow, Nat.reduceSub, Nat.reduceBEq, Nat.one_mul, Nat.zero_add, Nat.add_zero, Nat.zero_mul, Nat.mul_zero, cn_m20, cn_m8, cn_m1, cn_0, cn_1, cn_2, cn_3, cn_4, cn_5, cn_6, cn_7, cn_8, cn_9, cn_10, cn_11, cn_12, cn_15, cn_16, cn_20, cn_24, cn_30, cn_31, cn_32, cn_33, cn_34, cn_35, cn_37, cn_40, cn_41, cn_42, cn_43, cn_44, cn_45, cn_47, cn_48, cn_57, cn_59, cn_60, cn_63, cn_91, cn_93, cn_96, cn_97, cn_99, cn_100, cn_122, cn_128, cn_150, cn_200, cn_255, cn_400, cn_560, cn_596, cn_600, cn_999, cn_1024, cn_1788, cn_4096, cn_8400, cn_9999, cn_10000, cn_12345, cn_32767, cn_999999, cn_252645135, cn_858993459, cn_1103515245, cn_1431655765, cn_2147483647, wK_v, wK_r, List.getElem?_cons_zero, List.getElem?_cons_succ, Int.reduceToNat, Nat.reduceDiv, Nat.reduceMod, Nat.reduceMul, Nat.reduceAdd, Nat.reduceLT, Nat.reduceLeDiff, Nat.reduceEqDiff, fx_set, fx_fix, fx_fit, List.length_cons, List.length_nil, List.set_cons_zero, List.set_cons_succ, and_true, true_and, if_true, if_false, ↓reduceIte, and_self, true_or, or_true, not_false_iff, not_true, wr_ii, wr_is, wr_iv, wg_i_, wg_l_, wg_a1, wg_a2, wg_o_, wg_n_, wg_f_, wg_s_, wg_I_, wg_L_, wg_A_, wg_si_, wg_sb_, wg_sl_, wg_m_, wg_c_, wg_t_, List.drop_succ_cons, List.drop_zero, List.take_succ_cons, List.take_zero, List.reverse_cons, List.reverse_nil, List.nil_append, List.cons_append, mh_o, MF_n, mh_uo, mh_199, mw_199, mh_200, mw_200, mh_201, mw_201, mh_202, mw_202, mh_203, mw_203, mh_204, mw_204, mh_205, mw_205, mh_206, mw_206, mh_207, mw_207, mh_208, mw_208, mh_209, mw_209, mh_210, mw_210, mh_211, mw_211, mh_212, mw_212, mh_213, mw_213, mh_214, mw_214, mh_215, mw_215, mh_216, mw_216, mh_217, mw_217, mh_218, mw_218, mh_219, mw_219, mh_220, mw_220, mh_221, mw_221, mh_222, mw_222, mh_223, mw_223, mh_224, mw_224, mh_225, mw_225, mh_226, mw_226, mh_227, mw_227, mh_228, mw_228, mh_229, mw_229, mh_230, mw_230, mh_231, mw_231, mf_0, ms_0, mf_1, mf_2, ms_2, mf_3, ms_3, mf_4, ms_4, mf_5, ms_5, mf_6, ms_6, mf_7, ms_7, mf_8, ms_8, mf_9, mf_10, mf_11, mf_12, mf_13, mf_14, mf_15, mf_16, ms_16, mf_17, ms_17, mf_18, ms_18, mf_19, ms_19, mf_20, ms_20, mf_21, ms_21, mf_22, mf_23, mf_24, mf_25, mf_26, mf_27, ms_27, mf_28, ms_28, mf_29, mf_30, mf_31, mf_32, ms_32, mf_33, ms_33, mf_34, ms_34, mf_35, ms_35, mf_36, ms_36, mf_37, ms_37, mf_38, mf_39, mf_40, mf_41, ms_41, mf_42, ms_42, mf_43, mf_44, mf_45, mf_46, mf_47, mf_48, mf_49, mf_50, mf_51, mf_52, mf_53, mf_54, mf_55, mf_56, ms_56, mf_57, mf_58, ms_58, i20, pk_un, pk_us, q1, q2, q3, q4, k1, k2, k3, Bool.toNat_false]
      exact nx
set_option maxHeartbeats 2000000 in
theorem mo_isBlown {C : List (Nat × Int32)} {w : Nat} (tk : tn_ok t) (hT : mT I A t) (hS : mS t.m (A 219) s) (ho : sn_ok t s) (hC : mC I A C) (lk : lw_ok C) (hw : w < 4)
    (h0 : s.br < sn_pr C t.m s w → ∀ A', (∀ c, c ≠ 211 → c ≠ 212 → A' c = A c) → Q (.inl (some (.int (nI 0))), (n, cc, ss, mh f I A' L)))
    (h1 : ¬ s.br < sn_pr C t.m s w → ∀ A', (∀ c, c ≠ 211 → c ≠ 212 → c ≠ 219 → A' c = A c) → mS t.m (A' 219) (sn_bl C t s w) → Q (.inl (some (.int (nI 1))), (n, cc, ss, mh f I A' L))) :
    wM sc (d + 6) 254 [.ref 198, .int (nI w)] (n, cc, ss, mh f I A L) Q := by
  have tmm := tk.2.1
  simp (disch := omega) only [ei_254, cb_254_0, wC_goto, wC_iconst, wC_ldc2, wC_ldc, wC_getstatic, wC_iadd, wC_isub, wC_imul, wC_iand, wC_ior, wC_ixor, wC_ishl, wC_ishr, wC_iushr, wC_ladd, wC_lmul, wC_land, wC_lcmp, wC_lshl, wC_lshr, wC_i2l, wC_i2b, wC_i2c, wC_popi, wC_popa, wC_dupi, wC_dupa, wC_dup2, wC_idiv, wC_irem, wC_ldiv, wC_lrem, wr_iload, wr_lload, wr_aload, wC_istore, wC_astore, wC_lstore, wr_iinc, wC_icmp_eq, wC_icmp_ne, wC_icmp_lt, wC_icmp_ge, wC_icmp_gt, wC_icmp_le, wC_ifc_eq, wC_ifc_ne, wC_ifc_lt, wC_ifc_ge, wC_ifc_gt, wC_ifc_le, wC_tab, wr_getf, wr_putf, wr_iaload, wr_baload, wr_laload, wr_iastore, wr_bastore, wr_lastore, wr_aaload, wr_alen, wC_slen, wC_sald, wC_new, wC_newa, wC_newq, wC_oinit, wC_math, wC_iret, wC_lret, wC_vret, wC_zret, wC_cret, wC_jsr, wi_c_, fx_low, List.map_cons, List.map_nil, List.sum_cons, List.sum_nil, fl_int, fl_ref, fl_ra, fl_long, decide_eq_true_eq, decide_true, kk_ltT, kk_ltF, kk_leT, kk_leF, kk_eqT, kk_eqF, kk_0T, kk_0F, kk_g0T, kk_g0F, kk_l0T, kk_l0F, kk_inT, kk_lt0, kk_ge0, kk_m1, kk_m1', kk_m1lt, kk_m1le, kk_m1ltF, kk_m1leT, kk_mm, kk_mm2, kk_mm3, kk_mm4, kk_mm5, kk_cl, kk_sub, kk_p1, kk_shl, kk_shr, kk_and, kk_or, kk_xor, kk_rem2, kk_div, kk_len, kk_z1, kk_ln, kk_i2l, lN_add, lN_mul, kk_tb, kk_b0, kk_b1, nI_add, pk_mul, va_up_ne', va_up_se, va_up_up, ne_eq, not_false_eq_true, not_true_eq_false, false_or, or_false, eq_self, Nat.reducePow, Nat.reduceSub, Nat.reduceBEq, Nat.one_mul, Nat.zero_add, Nat.add_zero, Nat.zero_mul, Nat.mul_zero, cn_m20, cn_m8, cn_m1, cn_0, cn_1, cn_2, cn_3, cn_4, cn_5, cn_6, cn_7, cn_8, cn_9, cn_10, cn_11, cn_12, cn_15, cn_16, cn_20, cn_24, cn_30, cn_31, cn_32, cn_33, cn_34, cn_35, cn_37, cn_40, cn_41, cn_42, cn_43, cn_44, cn_45, cn_47, cn_48, cn_57, cn_59, cn_60, cn_63, cn_91, cn_93, cn_96, cn_97, cn_99, cn_100, cn_122, cn_128, cn_150, cn_200, cn_255, cn_400, cn_560, cn_596, cn_600, cn_999, cn_1024, cn_1788, cn_4096, cn_8400, cn_9999, cn_10000, cn_12345, cn_32767, cn_999999, cn_252645135, cn_858993459, cn_1103515245, cn_1431655765, cn_2147483647, wK_v, wK_r, List.getElem?_cons_zero, List.getElem?_cons_succ, Int.reduceToNat, Nat.reduceDiv, Nat.reduceMod, Nat.reduceMul, Nat.reduceAdd, Nat.reduceLT, Nat.reduceLeDiff, Nat.reduceEqDiff, fx_set, fx_fix, fx_fit, List.length_cons, List.length_nil, List.set_cons_zero, List.set_cons_succ, and_true, true_and, if_true, if_false, ↓reduceIte, and_self, true_or, or_true, not_false_iff, not_true, wr_ii, wr_is, wr_iv, wg_i_, wg_l_, wg_a1, wg_a2, wg_o_, wg_n_, wg_f_, wg_s_, wg_I_, wg_L_, wg_A_, wg_si_, wg_sb_, wg_sl_, wg_m_, wg_c_, wg_t_, List.drop_succ_cons, List.drop_zero, List.take_succ_cons, List.take_zero, List.reverse_cons, List.reverse_nil, List.nil_append, List.cons_append, mh_o, MF_n, mh_uo, mh_199, mw_199, mh_200, mw_200, mh_201, mw_201, mh_202, mw_202, mh_203, mw_203, mh_204, mw_204, mh_205, mw_205, mh_206, mw_206, mh_207, mw_207, mh_208, mw_208, mh_209, mw_209, mh_210, mw_210, mh_211, mw_211, mh_212, mw_212, mh_213, mw_213, mh_214, mw_214, mh_215, mw_215, mh_216, mw_216, mh_217, mw_217, mh_218, mw_218, mh_219, mw_219, mh_220, mw_220, mh_221, mw_221, mh_222, mw_222, mh_223, mw_223, mh_224, mw_224, mh_225, mw_225, mh_226, mw_226, mh_227, mw_227, mh_228, mw_228, mh_229, mw_229, mh_230, mw_230, mh_231, mw_231, mf_0, ms_0, mf_1, mf_2, ms_2, mf_3, ms_3, mf_4, ms_4, mf_5, ms_5, mf_6, ms_6, mf_7, ms_7, mf_8, ms_8, mf_9, mf_10, mf_11, mf_12, mf_13, mf_14, mf_15, mf_16, ms_16, mf_17, ms_17, mf_18, ms_18, mf_19, ms_19, mf_20, ms_20, mf_21, ms_21, mf_22, mf_23, mf_24, mf_25, mf_26, mf_27, ms_27, mf_28, ms_28, mf_29, mf_30, mf_31, mf_32, ms_32, mf_33, ms_33, mf_34, ms_34, mf_35, ms_35, mf_36, ms_36, mf_37, ms_37, mf_38, mf_39, mf_40, mf_41, ms_41, mf_42, ms_42, mf_43, mf_44, mf_45, mf_46, mf_47, mf_48, mf_49, mf_50, mf_51, mf_52, mf_53, mf_54, mf_55, mf_56, ms_56, mf_57, mf_58, ms_58]
  refine mo_costBy tk hT hS ho hC lk (fun A' fr => ?_)
  have r219 := fr 219 (by omega) (by omega)
  have r30 := hS.2.2.1
  by_cases hp : s.br < sn_pr C t.m s w
  · have hp2 : ¬ sn_pr C t.m s w ≤ s.br := fun q => k2_nle hp q
    simp (disch := omega) only [cb_254_0, cb_254_10, cb_254_12, cb_254_26, cb_254_39, cb_254_50, cb_254_94, cb_254_96, cb_254_105, cb_254_112, cb_254_113, jb_254_10, jb_254_12, jb_254_22, jb_254_26, jb_254_39, jb_254_50, jb_254_94, jb_254_96, jb_254_105, jb_254_112, jb_254_113, wC_goto, wC_iconst, wC_ldc2, wC_ldc, wC_getstatic, wC_iadd, wC_isub, wC_imul, wC_iand, wC_ior, wC_ixor, wC_ishl, wC_ishr, wC_iushr, wC_ladd, wC_lmul, wC_land, wC_lcmp, wC_lshl, wC_lshr, wC_i2l, wC_i2b, wC_i2c, wC_popi, wC_popa, wC_dupi, wC_dupa, wC_dup2, wC_idiv, wC_irem, wC_ldiv, wC_lrem, wr_iload, wr_lload, wr_aload, wC_istore, wC_astore, wC_lstore, wr_iinc, wC_icmp_eq, wC_icmp_ne, wC_icmp_lt, wC_icmp_ge, wC_icmp_gt, wC_icmp_le, wC_ifc_eq, wC_ifc_ne, wC_ifc_lt, wC_ifc_ge, wC_ifc_gt, wC_ifc_le, wC_tab, wr_getf, wr_putf, wr_iaload, wr_baload, wr_laload, wr_iastore, wr_bastore, wr_lastore, wr_aaload, wr_alen, wC_slen, wC_sald, wC_new, wC_newa, wC_newq, wC_oinit, wC_math, wC_iret, wC_lret, wC_vret, wC_zret, wC_cret, wC_jsr, wi_c_, fx_low, List.map_cons, List.map_nil, List.sum_cons, List.sum_nil, fl_int, fl_ref, fl_ra, fl_long, decide_eq_true_eq, decide_true, kk_ltT, kk_ltF, kk_leT, kk_leF, kk_eqT, kk_eqF, kk_0T, kk_0F, kk_g0T, kk_g0F, kk_l0T, kk_l0F, kk_inT, kk_lt0, kk_ge0, kk_m1, kk_m1', kk_m1lt, kk_m1le, kk_m1ltF, kk_m1leT, kk_mm, kk_mm2, kk_mm3, kk_mm4, kk_mm5, kk_cl, kk_sub, kk_p1, kk_shl, kk_shr, kk_and, kk_or, kk_xor, kk_rem2, kk_div, kk_len, kk_z1, kk_ln, kk_i2l, lN_add, lN_mul, kk_tb, kk_b0, kk_b1, nI_add, pk_mul, va_up_ne', va_up_se, va_up_up, ne_eq, not_false_eq_true, not_true_eq_false, false_or, or_false, eq_self, Nat.reducePow, Nat.reduceSub, Nat.reduceBEq, Nat.one_mul, Nat.zero_add, Nat.add_zero, Nat.zero_mul, Nat.mul_zero, cn_m20, cn_m8, cn_m1, cn_0, cn_1, cn_2, cn_3, cn_4, cn_5, cn_6, cn_7, cn_8, cn_9, cn_10, cn_11, cn_12, cn_15, cn_16, cn_20, cn_24, cn_30, cn_31, cn_32, cn_33, cn_34, cn_35, cn_37, cn_40, cn_41, cn_42, cn_43, cn_44, cn_45, cn_47, cn_48, cn_57, cn_59, cn_60, cn_63, cn_91, cn_93, cn_96, cn_97, cn_99, cn_100, cn_122, cn_128, cn_150, cn_200, cn_255, cn_400, cn_560, cn_596, cn_600, cn_999, cn_1024, cn_1788, cn_4096, cn_8400, cn_9999, cn_10000, cn_12345, cn_32767, cn_999999, cn_252645135, cn_858993459, cn_1103515245, cn_1431655765, cn_2147483647, wK_v, wK_r, List.getElem?_cons_zero, List.getElem?_cons_succ, Int.reduceToNat, Nat.reduceDiv, Nat.reduceMod, Nat.reduceMul, Nat.reduceAdd, Nat.reduceLT, Nat.reduceLeDiff, Nat.reduceEqDiff, fx_set, fx_fix, fx_fit, List.length_cons, List.length_nil, List.set_cons_zero, List.set_cons_succ, and_true, true_and, if_true, if_false, ↓reduceIte, and_self, true_or, or_true, not_false_iff, not_true, wr_ii, wr_is, wr_iv, wg_i_, wg_l_, wg_a1, wg_a2, wg_o_, wg_n_, wg_f_, wg_s_, wg_I_, wg_L_, wg_A_, wg_si_, wg_sb_, wg_sl_, wg_m_, wg_c_, wg_t_, List.drop_succ_cons, List.drop_zero, List.take_succ_cons, List.take_zero, List.reverse_cons, List.reverse_nil, List.nil_append, List.cons_append, mh_o, MF_n, mh_uo, mh_199, mw_199, mh_200, mw_200, mh_201, mw_201, mh_202, mw_202, mh_203, mw_203, mh_204, mw_204, mh_205, mw_205, mh_206, mw_206, mh_207, mw_207, mh_208, mw_208, mh_209, mw_209, mh_210, mw_210, mh_211, mw_211, mh_212, mw_212, mh_213, mw_213, mh_214, mw_214, mh_215, mw_215, mh_216, mw_216, mh_217, mw_217, mh_218, mw_218, mh_219, mw_219, mh_220, mw_220, mh_221, mw_221, mh_222, mw_222, mh_223, mw_223, mh_224, mw_224, mh_225, mw_225, mh_226, mw_226, mh_227, mw_227, mh_228, mw_228, mh_229, mw_229, mh_230, mw_230, mh_231, mw_231, mf_0, ms_0, mf_1, mf_2, ms_2, mf_3, ms_3, mf_4, ms_4, mf_5, ms_5, mf_6, ms_6, mf_7, ms_7, mf_8, ms_8, mf_9, mf_10, mf_11, mf_12, mf_13, mf_14, mf_15, mf_16, ms_16, mf_17, ms_17, mf_18, ms_18, mf_19, ms_19, mf_20, ms_20, mf_21, ms_21, mf_22, mf_23, mf_24, mf_25, mf_26, mf_27, ms_27, mf_28, ms_28, mf_29, mf_30, mf_31, mf_32, ms_32, mf_33, ms_33, mf_34, ms_34, mf_35, ms_35, mf_36, ms_36, mf_37, ms_37, mf_38, mf_39, mf_40, mf_41, ms_41, mf_42, ms_42, mf_43, mf_44, mf_45, mf_46, mf_47, mf_48, mf_49, mf_50, mf_51, mf_52, mf_53, mf_54, mf_55, mf_56, ms_56, mf_57, mf_58, ms_58, r219, r30, hp2]
    exact h0 hp A' fr
  · have hp2 : sn_pr C t.m s w ≤ s.br := k2_le hp
    simp (disch := omega) only [cb_254_0, cb_254_10, cb_254_12, cb_254_26, cb_254_39, cb_254_50, cb_254_94, cb_254_96, cb_254_105, cb_254_112, cb_254_113, jb_254_10, jb_254_12, jb_254_22, jb_254_26, jb_254_39, jb_254_50, jb_254_94, jb_254_96, jb_254_105, jb_254_112, jb_254_113, wC_goto, wC_iconst, wC_ldc2, wC_ldc, wC_getstatic, wC_iadd, wC_isub, wC_imul, wC_iand, wC_ior, wC_ixor, wC_ishl, wC_ishr, wC_iushr, wC_ladd, wC_lmul, wC_land, wC_lcmp, wC_lshl, wC_lshr, wC_i2l, wC_i2b, wC_i2c, wC_popi, wC_popa, wC_dupi, wC_dupa, wC_dup2, wC_idiv, wC_irem, wC_ldiv, wC_lrem, wr_iload, wr_lload, wr_aload, wC_istore, wC_astore, wC_lstore, wr_iinc, wC_icmp_eq, wC_icmp_ne, wC_icmp_lt, wC_icmp_ge, wC_icmp_gt, wC_icmp_le, wC_ifc_eq, wC_ifc_ne, wC_ifc_lt, wC_ifc_ge, wC_ifc_gt, wC_ifc_le, wC_tab, wr_getf, wr_putf, wr_iaload, wr_baload, wr_laload, wr_iastore, wr_bastore, wr_lastore, wr_aaload, wr_alen, wC_slen, wC_sald, wC_new, wC_newa, wC_newq, wC_oinit, wC_math, wC_iret, wC_lret, wC_vret, wC_zret, wC_cret, wC_jsr, wi_c_, fx_low, List.map_cons, List.map_nil, List.sum_cons, List.sum_nil, fl_int, fl_ref, fl_ra, fl_long, decide_eq_true_eq, decide_true, kk_ltT, kk_ltF, kk_leT, kk_leF, kk_eqT, kk_eqF, kk_0T, kk_0F, kk_g0T, kk_g0F, kk_l0T, kk_l0F, kk_inT, kk_lt0, kk_ge0, kk_m1, kk_m1', kk_m1lt, kk_m1le, kk_m1ltF, kk_m1leT, kk_mm, kk_mm2, kk_mm3, kk_mm4, kk_mm5, kk_cl, kk_sub, kk_p1, kk_shl, kk_shr, kk_and, kk_or, kk_xor, kk_rem2, kk_div, kk_len, kk_z1, kk_ln, kk_i2l, lN_add, lN_mul, kk_tb, kk_b0, kk_b1, nI_add, pk_mul, va_up_ne', va_up_se, va_up_up, ne_eq, not_false_eq_true, not_true_eq_false, false_or, or_false, eq_self, Nat.reducePow, Nat.reduceSub, Nat.reduceBEq, Nat.one_mul, Nat.zero_add, Nat.add_zero, Nat.zero_mul, Nat.mul_zero, cn_m20, cn_m8, cn_m1, cn_0, cn_1, cn_2, cn_3, cn_4, cn_5, cn_6, cn_7, cn_8, cn_9, cn_10, cn_11, cn_12, cn_15, cn_16, cn_20, cn_24, cn_30, cn_31, cn_32, cn_33, cn_34, cn_35, cn_37, cn_40, cn_41, cn_42, cn_43, cn_44, cn_45, cn_47, cn_48, cn_57, cn_59, cn_60, cn_63, cn_91, cn_93, cn_96, cn_97, cn_99, cn_100, cn_122, cn_128, cn_150, cn_200, cn_255, cn_400, cn_560, cn_596, cn_600, cn_999, cn_1024, cn_1788, cn_4096, cn_8400, cn_9999, cn_10000, cn_12345, cn_32767, cn_999999, cn_252645135, cn_858993459, cn_1103515245, cn_1431655765, cn_2147483647, wK_v, wK_r, List.getElem?_cons_zero, List.getElem?_cons_succ, Int.reduceToNat, Nat.reduceDiv, Nat.reduceMod, Nat.reduceMul, Nat.reduceAdd, Nat.reduceLT, Nat.reduceLeDiff, Nat.reduceEqDiff, fx_set, fx_fix, fx_fit, List.length_cons, List.length_nil, List.set_cons_zero, List.set_cons_succ, and_true, true_and, if_true, if_false, ↓reduceIte, and_self, true_or, or_true, not_false_iff, not_true, wr_ii, wr_is, wr_iv, wg_i_, wg_l_, wg_a1, wg_a2, wg_o_, wg_n_, wg_f_, wg_s_, wg_I_, wg_L_, wg_A_, wg_si_, wg_sb_, wg_sl_, wg_m_, wg_c_, wg_t_, List.drop_succ_cons, List.drop_zero, List.take_succ_cons, List.take_zero, List.reverse_cons, List.reverse_nil, List.nil_append, List.cons_append, mh_o, MF_n, mh_uo, mh_199, mw_199, mh_200, mw_200, mh_201, mw_201, mh_202, mw_202, mh_203, mw_203, mh_204, mw_204, mh_205, mw_205, mh_206, mw_206, mh_207, mw_207, mh_208, mw_208, mh_209, mw_209, mh_210, mw_210, mh_211, mw_211, mh_212, mw_212, mh_213, mw_213, mh_214, mw_214, mh_215, mw_215, mh_216, mw_216, mh_217, mw_217, mh_218, mw_218, mh_219, mw_219, mh_220, mw_220, mh_221, mw_221, mh_222, mw_222, mh_223, mw_223, mh_224, mw_224, mh_225, mw_225, mh_226, mw_226, mh_227, mw_227, mh_228, mw_228, mh_229, mw_229, mh_230, mw_230, mh_231, mw_231, mf_0, ms_0, mf_1, mf_2, ms_2, mf_3, ms_3, mf_4, ms_4, mf_5, ms_5, mf_6, ms_6, mf_7, ms_7, mf_8, ms_8, mf_9, mf_10, mf_11, mf_12, mf_13, mf_14, mf_15, mf_16, ms_16, mf_17, ms_17, mf_18, ms_18, mf_19, ms_19, mf_20, ms_20, mf_21, ms_21, mf_22, mf_23, mf_24, mf_25, mf_26, mf_27, ms_27, mf_28, ms_28, mf_29, mf_30, mf_31, mf_32, ms_32, mf_33, ms_33, mf_34, ms_34, mf_35, ms_35, mf_36, ms_36, mf_37, ms_37, mf_38, mf_39, mf_40, mf_41, ms_41, mf_42, ms_42, mf_43, mf_44, mf_45, mf_46, mf_47, mf_48, mf_49, mf_50, mf_51, mf_52, mf_53, mf_54, mf_55, mf_56, ms_56, mf_57, mf_58, ms_58, r219, r30, hp2]
    have hT' : mT I A' t := by
      unfold mT
      rw [fr 204 (by omega) (by omega), fr 205 (by omega) (by omega)]
      exact hT
    refine lp_isBlown (A := A') (br := s.br - sn_pr C t.m s w) tk ho hw (fun A2 fr2 hS2 => ?_) t.m 0 _ (by omega) hT' ?_
    · exact h1 hp A2 (fun c c1 c2 c3 => (fr2 c c3).trans (fr c c1 c2)) hS2
    · refine mS_sn (mS_br tmm hS) (fun m hm => ⟨rfl, rfl, rfl, rfl⟩) rfl rfl rfl rfl rfl rfl
end
