/-! ===== gathering: the cheapest ===== -/
/-- the least cost by which all are at one corner: held by a potential from below, by every potential from above; or a closed set without one -/
def isC (br : Nat → Nat → Nat) (pr : Nat → Nat) (x K : Nat) (v : Int32) : Prop := (∃ (P : Nat) (φ : Nat → Nat), v = nI P ∧ P < 999999 ∧ φ x = 0 ∧ (∀ z, z < 2 ^ K → ∀ w, w < 4 → φ (br z w) ≤ φ z + pr w) ∧ (∀ c, c < K → P ≤ φ (2 ^ c)) ∧ (∀ ψ : Nat → Nat, ψ x = 0 → (∀ z, z < 2 ^ K → ∀ w, w < 4 → ψ (br z w) ≤ ψ z + pr w) → ∃ c, c < K ∧ ψ (2 ^ c) ≤ P)) ∨ (v = -1 ∧ ∃ Z : Nat → Prop, Z x ∧ (∀ z, z < 2 ^ K → Z z → ∀ w, w < 4 → Z (br z w)) ∧ ∀ c, c < K → ¬ Z (2 ^ c))
theorem is1_pow : ∀ z, z < 1024 → is1 z = true → (List.range 10).any (fun c => z == 2 ^ c) = true := by decide +kernel
theorem is1_ex {z K : Nat} (hz : z < 2 ^ K) (hK : K ≤ 10) (h : is1 z = true) : ∃ c, c < K ∧ z = 2 ^ c := by
  have := is1_pow z (by have := p2_10 hK; omega) h
  obtain ⟨c, h1, h2⟩ := List.any_eq_true.mp this
  have h2 : z = 2 ^ c := by simpa using h2
  refine ⟨c, ?_, h2⟩
  rcases Nat.lt_or_ge c K with q | q
  · exact q
  · have := p2_le q
    omega
theorem pow_is1 : ∀ c, c < 10 → is1 (2 ^ c) = true := by decide
/-- a row that grows by what is spent; each whistle's head -/
def chI (br : Nat → Nat → Nat) (pr : Nat → Nat) (x K T m : Nat) (q c hd : Nat → Nat) : Prop := (0 < m ∧ q 0 = x ∧ c 0 = 0) ∧ (∀ j, j < m → q j < 2 ^ K) ∧ (∀ i j, i ≤ j → j < m → c i ≤ c j) ∧ (∀ j, j < m → c j ≤ 60 * j) ∧ (∀ w, w < 4 → hd w ≤ m) ∧ (∀ w, w < 4 → ∀ j, j < hd w → ∃ i, i < m ∧ br (q j) w = q i ∧ c i ≤ c j + pr w) ∧ (∀ w, w < 4 → ∀ j, hd w ≤ j → j < m → T ≤ c j + pr w) ∧ (∀ j, j < m → c j ≤ T) ∧ (∀ ψ : Nat → Nat, ψ x = 0 → (∀ z, z < 2 ^ K → ∀ w, w < 4 → ψ (br z w) ≤ ψ z + pr w) → ∀ j, j < m → ψ (q j) ≤ c j) ∧ (∀ j, j < m → is1 (q j) = false)
def chS (m : Nat) (q c : Nat → Nat) (gs : Nat → Int32) : Prop := m + cn (fun z => gs z == -1) 1024 = 1024 ∧ (∀ j, j < m → gs (q j) = nI (c j)) ∧ ∀ z, z < 1024 → gs z ≠ -1 → ∃ j, j < m ∧ q j = z
/-- what is behind a head -/
def pv (pr : Nat → Nat) (m : Nat) (c hd : Nat → Nat) (w : Nat) : Nat := if hd w < m then c (hd w) + pr w else 2147483647
section
variable {sc : Nat × (Nat → Int32)} {d n cc ss : Nat} {h : fx_H} {f : Nat → va_E} {Q : fx_R → Prop} {hn : Nat → Option (Nat × Nat)} {cdm k : List Instr} {ls st : List Value}
variable {b fo u v : Nat} {t : Tn} {co lf : Int32} {w1 w2 : Nat} {g : Nat → Int32}
variable {m x : Nat} {q c hd pr : Nat → Nat} {sf sa fd : Int32} {gq gs gh gp : Nat → Int32}
theorem sp_pbh {w : Nat} (hw : w < 4) (h75 : f 75 = ga_O (nI m) sf sa fd) (h76 : f 76 = ar_I 1024 gq) (h77 : f 77 = ar_I 1024 gs) (h80 : f 80 = ar_I 4 gh) (h81 : f 81 = ar_I 4 gp) (eq : ∀ j, j < m → gq j = nI (q j) ∧ q j < 1024) (es : ∀ j, j < m → gs (q j) = nI (c j)) (eh : gh w = nI (hd w)) (ep : gp w = nI (pr w)) (hm : m ≤ 1024) (hh : hd w ≤ m) : wM sc (d + 1) 118 [.ref 75, .int (nI w)] (n, cc, ss, f) Q ↔ Q (.inl (some (.int (nI (pv pr m c hd w)))), (n, cc, ss, f)) := by
  unfold pv
  by_cases hl : hd w < m
  · obtain ⟨e1, e2⟩ := eq _ hl
    have e3 := es _ hl
    rw [if_pos hl]
    simp (disch := omega) only [cb_118_0, cb_118_7, cb_118_11, cb_118_14, cb_118_16, jb_118_7, jb_118_11, jb_118_14, jb_118_16, ei_118, wt_118, wC_goto, wC_iconst, wC_ldc2, wC_ldc, wC_getstatic, wC_iadd, wC_isub, wC_imul, wC_iand, wC_ior, wC_ixor, wC_ishl, wC_ishr, wC_iushr, wC_ladd, wC_lmul, wC_land, wC_lcmp, wC_lshl, wC_lshr, wC_i2l, wC_i2b, wC_i2c, wC_popi, wC_popa, wC_dupi, wC_dupa, wC_dup2, wC_idiv, wC_irem, wC_ldiv, wC_lrem, wr_iload, wr_lload, wr_aload, wC_istore, wC_astore, wC_lstore, wr_iinc, wC_icmp_eq, wC_icmp_ne, wC_icmp_lt, wC_icmp_ge, wC_icmp_gt, wC_icmp_le, wC_ifc_eq, wC_ifc_ne, wC_ifc_lt, wC_ifc_ge, wC_ifc_gt, wC_ifc_le, wC_tab, wr_getf, wr_putf, wr_iaload, wr_baload, wr_laload, wr_iastore, wr_bastore, wr_lastore, wr_aaload, wr_alen, wC_slen, wC_sald, wC_new, wC_newa, wC_newq, wC_oinit, wC_math, wC_iret, wC_lret, wC_vret, wC_zret, wC_cret, wC_jsr, wi_c_, fx_low, List.map_cons, List.map_nil, List.sum_cons, List.sum_nil, fl_int, fl_ref, fl_ra, fl_long, decide_eq_true_eq, decide_true, kk_ltT, kk_ltF, kk_leT, kk_leF, kk_eqT, kk_eqF, kk_0T, kk_0F, kk_g0T, kk_g0F, kk_l0T, kk_l0F, kk_inT, kk_lt0, kk_ge0, kk_m1, kk_m1', kk_m1lt, kk_m1le, kk_m1ltF, kk_m1leT, kk_mm, kk_mm2, kk_mm3, kk_mm4, kk_mm5, kk_cl, kk_sub, kk_p1, kk_shl, kk_shr, kk_and, kk_or, kk_xor, kk_rem2, kk_div, kk_len, kk_z1, kk_ln, kk_i2l, lN_add, lN_mul, kk_tb, kk_b0, kk_b1, nI_add, pk_mul, va_up_ne', va_up_se, va_up_up, ne_eq, not_false_eq_true, not_true_eq_false, false_or, or_false, eq_self, Nat.reducePow, Nat.reduceSub, Nat.reduceBEq, Nat.one_mul, Nat.zero_add, Nat.add_zero, Nat.zero_mul, Nat.mul_zero, cn_m20, cn_m8, cn_m1, cn_0, cn_1, cn_2, cn_3, cn_4, cn_5, cn_6, cn_7, cn_8, cn_9, cn_10, cn_11, cn_12, cn_15, cn_16, cn_20, cn_24, cn_30, cn_31, cn_32, cn_33, cn_34, cn_35, cn_37, cn_40, cn_41, cn_42, cn_43, cn_44, cn_45, cn_47, cn_48, cn_57, cn_59, cn_60, cn_63, cn_91, cn_93, cn_96, cn_97, cn_99, cn_100, cn_122, cn_128, cn_150, cn_200, cn_255, cn_400, cn_560, cn_596, cn_600, cn_999, cn_1024, cn_1788, cn_4096, cn_8400, cn_9999, cn_10000, cn_12345, cn_32767, cn_999999, cn_252645135, cn_858993459, cn_1103515245, cn_1431655765, cn_2147483647, wK_v, wK_r, List.getElem?_cons_zero, List.getElem?_cons_succ, Int.reduceToNat, Nat.reduceDiv, Nat.reduceMod, Nat.reduceMul, Nat.reduceAdd, Nat.reduceLT, Nat.reduceLeDiff, Nat.reduceEqDiff, fx_set, fx_fix, fx_fit, List.length_cons, List.length_nil, List.set_cons_zero, List.set_cons_succ, and_true, true_and, if_true, if_false, ↓reduceIte, and_self, true_or, or_true, not_false_iff, not_true, wr_ii, wr_is, wr_iv, wg_i_, wg_l_, wg_a1, wg_a2, wg_o_, wg_n_, wg_f_, wg_s_, wg_I_, wg_L_, wg_A_, wg_si_, wg_sb_, wg_sl_, wg_m_, wg_c_, wg_t_, List.drop_succ_cons, List.drop_zero, List.take_succ_cons, List.take_zero, List.reverse_cons, List.reverse_nil, List.nil_append, List.cons_append, h75, h76, h77, h80, h81, eh, ep, e1, e3]
  · rw [if_neg hl]
    simp (disch := omega) only [cb_118_0, cb_118_7, cb_118_11, cb_118_14, cb_118_16, jb_118_7, jb_118_11, jb_118_14, jb_118_16, ei_118, wt_118, wC_goto, wC_iconst, wC_ldc2, wC_ldc, wC_getstatic, wC_iadd, wC_isub, wC_imul, wC_iand, wC_ior, wC_ixor, wC_ishl, wC_ishr, wC_iushr, wC_ladd, wC_lmul, wC_land, wC_lcmp, wC_lshl, wC_lshr, wC_i2l, wC_i2b, wC_i2c, wC_popi, wC_popa, wC_dupi, wC_dupa, wC_dup2, wC_idiv, wC_irem, wC_ldiv, wC_lrem, wr_iload, wr_lload, wr_aload, wC_istore, wC_astore, wC_lstore, wr_iinc, wC_icmp_eq, wC_icmp_ne, wC_icmp_lt, wC_icmp_ge, wC_icmp_gt, wC_icmp_le, wC_ifc_eq, wC_ifc_ne, wC_ifc_lt, wC_ifc_ge, wC_ifc_gt, wC_ifc_le, wC_tab, wr_getf, wr_putf, wr_iaload, wr_baload, wr_laload, wr_iastore, wr_bastore, wr_lastore, wr_aaload, wr_alen, wC_slen, wC_sald, wC_new, wC_newa, wC_newq, wC_oinit, wC_math, wC_iret, wC_lret, wC_vret, wC_zret, wC_cret, wC_jsr, wi_c_, fx_low, List.map_cons, List.map_nil, List.sum_cons, List.sum_nil, fl_int, fl_ref, fl_ra, fl_long, decide_eq_true_eq, decide_true, kk_ltT, kk_ltF, kk_leT, kk_leF, kk_eqT, kk_eqF, kk_0T, kk_0F, kk_g0T, kk_g0F, kk_l0T, kk_l0F, kk_inT, kk_lt0, kk_ge0, kk_m1, kk_m1', kk_m1lt, kk_m1le, kk_m1ltF, kk_m1leT, kk_mm, kk_mm2, kk_mm3, kk_mm4, kk_mm5, kk_cl, kk_sub, kk_p1, kk_shl, kk_shr, kk_and, kk_or, kk_xor, kk_rem2, kk_div, kk_len, kk_z1, kk_ln, kk_i2l, lN_add, lN_mul, kk_tb, kk_b0, kk_b1, nI_add, pk_mul, va_up_ne', va_up_se, va_up_up, ne_eq, not_false_eq_true, not_true_eq_false, false_or, or_false, eq_self, Nat.reducePow, Nat.reduceSub, Nat.reduceBEq, Nat.one_mul, Nat.zero_add, Nat.add_zero, Nat.zero_mul, Nat.mul_zero, cn_m20, cn_m8, cn_m1, cn_0, cn_1, cn_2, cn_3, cn_4, cn_5, cn_6, cn_7, cn_8, cn_9, cn_10, cn_11, cn_12, cn_15, cn_16, cn_20, cn_24, cn_30, cn_31, cn_32, cn_33, cn_34, cn_35, cn_37, cn_40, cn_41, cn_42, cn_43, cn_44, cn_45, cn_47, cn_48, cn_57, cn_59, cn_60, cn_63, cn_91, cn_93, cn_96, cn_97, cn_99, cn_100, cn_122, cn_128, cn_150, cn_200, cn_255, cn_400, cn_560, cn_596, cn_600, cn_999, cn_1024, cn_1788, cn_4096, cn_8400, cn_9999, cn_10000, cn_12345, cn_32767, cn_999999, cn_252645135, cn_858993459, cn_1103515245, cn_1431655765, cn_2147483647, wK_v, wK_r, List.getElem?_cons_zero, List.getElem?_cons_succ, Int.reduceToNat, Nat.reduceDiv, Nat.reduceMod, Nat.reduceMul, Nat.reduceAdd, Nat.reduceLT, Nat.reduceLeDiff, Nat.reduceEqDiff, fx_set, fx_fix, fx_fit, List.length_cons, List.length_nil, List.set_cons_zero, List.set_cons_succ, and_true, true_and, if_true, if_false, ↓reduceIte, and_self, true_or, or_true, not_false_iff, not_true, wr_ii, wr_is, wr_iv, wg_i_, wg_l_, wg_a1, wg_a2, wg_o_, wg_n_, wg_f_, wg_s_, wg_I_, wg_L_, wg_A_, wg_si_, wg_sb_, wg_sl_, wg_m_, wg_c_, wg_t_, List.drop_succ_cons, List.drop_zero, List.take_succ_cons, List.take_zero, List.reverse_cons, List.reverse_nil, List.nil_append, List.cons_append, h75, h76, h77, h80, h81, eh, ep]
set_option maxHeartbeats 1000000 in
theorem sp_chw (h75 : f 75 = ga_O (nI m) sf sa fd) (h76 : f 76 = ar_I 1024 gq) (h77 : f 77 = ar_I 1024 gs) (h80 : f 80 = ar_I 4 gh) (h81 : f 81 = ar_I 4 gp) (eq : ∀ j, j < m → gq j = nI (q j) ∧ q j < 1024) (es : ∀ j, j < m → gs (q j) = nI (c j)) (eh : ∀ w, w < 4 → gh w = nI (hd w)) (ep : ∀ w, w < 4 → gp w = nI (pr w)) (hm : m ≤ 1024) (hh : ∀ w, w < 4 → hd w ≤ m) (hpv : ∀ w, w < 4 → pv pr m c hd w ≤ 2147483647)
    (h0 : (∀ w, w < 4 → pv pr m c hd w = 2147483647) → Q (.inl (some (.int (-1))), (n, cc, ss, f))) (h1 : ∀ w, w < 4 → pv pr m c hd w < 2147483647 → (∀ v, v < 4 → pv pr m c hd w ≤ pv pr m c hd v) → Q (.inl (some (.int (nI w))), (n, cc, ss, f))) : wM sc (d + 2) 117 [.ref 75] (n, cc, ss, f) Q := by
  have A := fun Q w hw => sp_pbh (sc := sc) (d := d) (n := n) (cc := cc) (ss := ss) (Q := Q) (w := w) (pr := pr) (hd := hd) hw h75 h76 h77 h80 h81 eq es (eh w hw) (ep w hw) hm (hh w hw)
  have loop : ∀ (j i : Nat) (bw : Int32) (bp : Nat) (v4 : Value), i + j = 4 → ((bw = -1 ∧ bp = 2147483647 ∧ ∀ w, w < i → pv pr m c hd w = 2147483647) ∨ ∃ w, w < i ∧ bw = nI w ∧ bp = pv pr m c hd w ∧ bp < 2147483647 ∧ ∀ v, v < i → pv pr m c hd w ≤ pv pr m c hd v) → wC sc (d + 1) (pg_hd 117) cm_117 cb_117_6 [.ref 75, .int bw, .int (nI bp), .int (nI i), v4] [] (n, cc, ss, f) Q := by
    intro j
    induction j with
    | zero =>
      intro i bw bp v4 hi hk
      have : i = 4 := by omega
      subst this
      unfold cb_117_6
      simp (disch := omega) only [cb_117_0, cb_117_9, cb_117_16, cb_117_20, cb_117_22, jb_117_6, jb_117_9, jb_117_16, jb_117_20, jb_117_22, wC_goto, wC_iconst, wC_ldc2, wC_ldc, wC_getstatic, wC_iadd, wC_isub, wC_imul, wC_iand, wC_ior, wC_ixor, wC_ishl, wC_ishr, wC_iushr, wC_ladd, wC_lmul, wC_land, wC_lcmp, wC_lshl, wC_lshr, wC_i2l, wC_i2b, wC_i2c, wC_popi, wC_popa, wC_dupi, wC_dupa, wC_dup2, wC_idiv, wC_irem, wC_ldiv, wC_lrem, wr_iload, wr_lload, wr_aload, wC_istore, wC_astore, wC_lstore, wr_iinc, wC_icmp_eq, wC_icmp_ne, wC_icmp_lt, wC_icmp_ge, wC_icmp_gt, wC_icmp_le, wC_ifc_eq, wC_ifc_ne, wC_ifc_lt, wC_ifc_ge, wC_ifc_gt, wC_ifc_le, wC_tab, wr_getf, wr_putf, wr_iaload, wr_baload, wr_laload, wr_iastore, wr_bastore, wr_lastore, wr_aaload, wr_alen, wC_slen, wC_sald, wC_new, wC_newa, wC_newq, wC_oinit, wC_math, wC_iret, wC_lret, wC_vret, wC_zret, wC_cret, wC_jsr, wi_c_, fx_low, List.map_cons, List.map_nil, List.sum_cons, List.sum_nil, fl_int, fl_ref, fl_ra, fl_long, decide_eq_true_eq, decide_true, kk_ltT, kk_ltF, kk_leT, kk_leF, kk_eqT, kk_eqF, kk_0T, kk_0F, kk_g0T, kk_g0F, kk_l0T, kk_l0F, kk_inT, kk_lt0, kk_ge0, kk_m1, kk_m1', kk_m1lt, kk_m1le, kk_m1ltF, kk_m1leT, kk_mm, kk_mm2, kk_mm3, kk_mm4, kk_mm5, kk_cl, kk_sub, kk_p1, kk_shl, kk_shr, kk_and, kk_or, kk_xor, kk_rem2, kk_div, kk_len, kk_z1, kk_ln, kk_i2l, lN_add, lN_mul, kk_tb, kk_b0, kk_b1, nI_add, pk_mul, va_up_ne', va_up_se, va_up_up, ne_eq, not_false_eq_true, not_true_eq_false, false_or, or_false, eq_self, Nat.reducePow, Nat.reduceSub, Nat.reduceBEq, Nat.one_mul, Nat.zero_add, Nat.add_zero, Nat.zero_mul, Nat.mul_zero, cn_m20, cn_m8, cn_m1, cn_0, cn_1, cn_2, cn_3, cn_4, cn_5, cn_6, cn_7, cn_8, cn_9, cn_10, cn_11, cn_12, cn_15, cn_16, cn_20, cn_24, cn_30, cn_31, cn_32, cn_33, cn_34, cn_35, cn_37, cn_40, cn_41, cn_42, cn_43, cn_44, cn_45, cn_47, cn_48, cn_57, cn_59, cn_60, cn_63, cn_91, cn_93, cn_96, cn_97, cn_99, cn_100, cn_122, cn_128, cn_150, cn_200, cn_255, cn_400, cn_560, cn_596, cn_600, cn_999, cn_1024, cn_1788, cn_4096, cn_8400, cn_9999, cn_10000, cn_12345, cn_32767, cn_999999, cn_252645135, cn_858993459, cn_1103515245, cn_1431655765, cn_2147483647, wK_v, wK_r, List.getElem?_cons_zero, List.getElem?_cons_succ, Int.reduceToNat, Nat.reduceDiv, Nat.reduceMod, Nat.reduceMul, Nat.reduceAdd, Nat.reduceLT, Nat.reduceLeDiff, Nat.reduceEqDiff, fx_set, fx_fix, fx_fit, List.length_cons, List.length_nil, List.set_cons_zero, List.set_cons_succ, and_true, true_and, if_true, if_false, ↓reduceIte, and_self, true_or, or_true, not_false_iff, not_true, wr_ii, wr_is, wr_iv, wg_i_, wg_l_, wg_a1, wg_a2, wg_o_, wg_n_, wg_f_, wg_s_, wg_I_, wg_L_, wg_A_, wg_si_, wg_sb_, wg_sl_, wg_m_, wg_c_, wg_t_, List.drop_succ_cons, List.drop_zero, List.take_succ_cons, List.take_zero, List.reverse_cons, List.reverse_nil, List.nil_append, List.cons_append]
      rcases hk with ⟨e1, e2, e3⟩ | ⟨w, e1, e2, e3, e4, e5⟩
      · rw [e1]; exact h0 e3
      · rw [e2]; exact h1 w e1 (by omega) e5
    | succ j ih =>
      intro i bw bp v4 hi hk
      have hp := hpv i (by omega)
      have A := fun Q => A Q i (by omega)
      have hbp : bp ≤ 2147483647 := by
        rcases hk with ⟨_, e, _⟩ | ⟨_, _, _, _, e, _⟩ <;> omega
      unfold cb_117_6
      by_cases hl : pv pr m c hd i < bp
      · simp (disch := omega) only [cb_117_0, cb_117_9, cb_117_16, cb_117_20, cb_117_22, jb_117_6, jb_117_9, jb_117_16, jb_117_20, jb_117_22, wC_goto, wC_iconst, wC_ldc2, wC_ldc, wC_getstatic, wC_iadd, wC_isub, wC_imul, wC_iand, wC_ior, wC_ixor, wC_ishl, wC_ishr, wC_iushr, wC_ladd, wC_lmul, wC_land, wC_lcmp, wC_lshl, wC_lshr, wC_i2l, wC_i2b, wC_i2c, wC_popi, wC_popa, wC_dupi, wC_dupa, wC_dup2, wC_idiv, wC_irem, wC_ldiv, wC_lrem, wr_iload, wr_lload, wr_aload, wC_istore, wC_astore, wC_lstore, wr_iinc, wC_icmp_eq, wC_icmp_ne, wC_icmp_lt, wC_icmp_ge, wC_icmp_gt, wC_icmp_le, wC_ifc_eq, wC_ifc_ne, wC_ifc_lt, wC_ifc_ge, wC_ifc_gt, wC_ifc_le, wC_tab, wr_getf, wr_putf, wr_iaload, wr_baload, wr_laload, wr_iastore, wr_bastore, wr_lastore, wr_aaload, wr_alen, wC_slen, wC_sald, wC_new, wC_newa, wC_newq, wC_oinit, wC_math, wC_iret, wC_lret, wC_vret, wC_zret, wC_cret, wC_jsr, wi_c_, fx_low, List.map_cons, List.map_nil, List.sum_cons, List.sum_nil, fl_int, fl_ref, fl_ra, fl_long, decide_eq_true_eq, decide_true, kk_ltT, kk_ltF, kk_leT, kk_leF, kk_eqT, kk_eqF, kk_0T, kk_0F, kk_g0T, kk_g0F, kk_l0T, kk_l0F, kk_inT, kk_lt0, kk_ge0, kk_m1, kk_m1', kk_m1lt, kk_m1le, kk_m1ltF, kk_m1leT, kk_mm, kk_mm2, kk_mm3, kk_mm4, kk_mm5, kk_cl, kk_sub, kk_p1, kk_shl, kk_shr, kk_and, kk_or, kk_xor, kk_rem2, kk_div, kk_len, kk_z1, kk_ln, kk_i2l, lN_add, lN_mul, kk_tb, kk_b0, kk_b1, nI_add, pk_mul, va_up_ne', va_up_se, va_up_up, ne_eq, not_false_eq_true, not_true_eq_false, false_or, or_false, eq_self, Nat.reducePow, Nat.reduceSub, Nat.reduceBEq, Nat.one_mul, Nat.zero_add, Nat.add_zero, Nat.zero_mul, Nat.mul_zero, cn_m20, cn_m8, cn_m1, cn_0, cn_1, cn_2, cn_3, cn_4, cn_5, cn_6, cn_7, cn_8, cn_9, cn_10, cn_11, cn_12, cn_15, cn_16, cn_20, cn_24, cn_30, cn_31, cn_32, cn_33, cn_34, cn_35, cn_37, cn_40, cn_41, cn_42, cn_43, cn_44, cn_45, cn_47, cn_48, cn_57, cn_59, cn_60, cn_63, cn_91, cn_93, cn_96, cn_97, cn_99, cn_100, cn_122, cn_128, cn_150, cn_200, cn_255, cn_400, cn_560, cn_596, cn_600, cn_999, cn_1024, cn_1788, cn_4096, cn_8400, cn_9999, cn_10000, cn_12345, cn_32767, cn_999999, cn_252645135, cn_858993459, cn_1103515245, cn_1431655765, cn_2147483647, wK_v, wK_r, List.getElem?_cons_zero, List.getElem?_cons_succ, Int.reduceToNat, Nat.reduceDiv, Nat.reduceMod, Nat.reduceMul, Nat.reduceAdd, Nat.reduceLT, Nat.reduceLeDiff, Nat.reduceEqDiff, fx_set, fx_fix, fx_fit, List.length_cons, List.length_nil, List.set_cons_zero, List.set_cons_succ, and_true, true_and, if_true, if_false, ↓reduceIte, and_self, true_or, or_true, not_false_iff, not_true, wr_ii, wr_is, wr_iv, wg_i_, wg_l_, wg_a1, wg_a2, wg_o_, wg_n_, wg_f_, wg_s_, wg_I_, wg_L_, wg_A_, wg_si_, wg_sb_, wg_sl_, wg_m_, wg_c_, wg_t_, List.drop_succ_cons, List.drop_zero, List.take_succ_cons, List.take_zero, List.reverse_cons, List.reverse_nil, List.nil_append, List.cons_append, h75, A]
        refine ih (i + 1) _ _ _ (by omega) (Or.inr ⟨i, by omega, rfl, rfl, by omega, fun v hv => ?_⟩)
        rcases Nat.lt_or_ge v i with hvi | hvi
        · rcases hk with ⟨e1, e2, e3⟩ | ⟨w, e1, e2, e3, e4, e5⟩
          · rw [e3 v hvi]; omega
          · have := e5 v hvi; omega
        · rw [show v = i by omega]; exact Nat.le_refl _
      · simp (disch := omega) only [cb_117_0, cb_117_9, cb_117_16, cb_117_20, cb_117_22, jb_117_6, jb_117_9, jb_117_16, jb_117_20, jb_117_22, wC_goto, wC_iconst, wC_ldc2, wC_ldc, wC_getstatic, wC_iadd, wC_isub, wC_imul, wC_iand, wC_ior, wC_ixor, wC_ishl, wC_ishr, wC_iushr, wC_ladd, wC_lmul, wC_land, wC_lcmp, wC_lshl, wC_lshr, wC_i2l, wC_i2b, wC_i2c, wC_popi, wC_popa, wC_dupi, wC_dupa, wC_dup2, wC_idiv, wC_irem, wC_ldiv, wC_lrem, wr_iload, wr_lload, wr_aload, wC_istore, wC_astore, wC_lstore, wr_iinc, wC_icmp_eq, wC_icmp_ne, wC_icmp_lt, wC_icmp_ge, wC_icmp_gt, wC_icmp_le, wC_ifc_eq, wC_ifc_ne, wC_ifc_lt, wC_ifc_ge, wC_ifc_gt, wC_ifc_le, wC_tab, wr_getf, wr_putf, wr_iaload, wr_baload, wr_laload, wr_iastore, wr_bastore, wr_lastore, wr_aaload, wr_alen, wC_slen, wC_sald, wC_new, wC_newa, wC_newq, wC_oinit, wC_math, wC_iret, wC_lret, wC_vret, wC_zret, wC_cret, wC_jsr, wi_c_, fx_low, List.map_cons, List.map_nil, List.sum_cons, List.sum_nil, fl_int, fl_ref, fl_ra, fl_long, decide_eq_true_eq, decide_true, kk_ltT, kk_ltF, kk_leT, kk_leF, kk_eqT, kk_eqF, kk_0T, kk_0F, kk_g0T, kk_g0F, kk_l0T, kk_l0F, kk_inT, kk_lt0, kk_ge0, kk_m1, kk_m1', kk_m1lt, kk_m1le, kk_m1ltF, kk_m1leT, kk_mm, kk_mm2, kk_mm3, kk_mm4, kk_mm5, kk_cl, kk_sub, kk_p1, kk_shl, kk_shr, kk_and, kk_or, kk_xor, kk_rem2, kk_div, kk_len, kk_z1, kk_ln, kk_i2l, lN_add, lN_mul, kk_tb, kk_b0, kk_b1, nI_add, pk_mul, va_up_ne', va_up_se, va_up_up, ne_eq, not_false_eq_true, not_true_eq_false, false_or, or_false, eq_self, Nat.reducePow, Nat.reduceSub, Nat.reduceBEq, Nat.one_mul, Nat.zero_add, Nat.add_zero, Nat.zero_mul, Nat.mul_zero, cn_m20, cn_m8, cn_m1, cn_0, cn_1, cn_2, cn_3, cn_4, cn_5, cn_6, cn_7, cn_8, cn_9, cn_10, cn_11, cn_12, cn_15, cn_16, cn_20, cn_24, cn_30, cn_31, cn_32, cn_33, cn_34, cn_35, cn_37, cn_40, cn_41, cn_42, cn_43, cn_44, cn_45, cn_47, cn_48, cn_57, cn_59, cn_60, cn_63, cn_91, cn_93, cn_96, cn_97, cn_99, cn_100, cn_122, cn_128, cn_150, cn_200, cn_255, cn_400, cn_560, cn_596, cn_600, cn_999, cn_1024, cn_1788, cn_4096, cn_8400, cn_9999, cn_10000, cn_12345, cn_32767, cn_999999, cn_252645135, cn_858993459, cn_1103515245, cn_1431655765, cn_2147483647, wK_v, wK_r, List.getElem?_cons_zero, List.getElem?_cons_succ, Int.reduceToNat, Nat.reduceDiv, Nat.reduceMod, Nat.reduceMul, Nat.reduceAdd, Nat.reduceLT, Nat.reduceLeDiff, Nat.reduceEqDiff, fx_set, fx_fix, fx_fit, List.length_cons, List.length_nil, List.set_cons_zero, List.set_cons_succ, and_true, true_and, if_true, if_false, ↓reduceIte, and_self, true_or, or_true, not_false_iff, not_true, wr_ii, wr_is, wr_iv, wg_i_, wg_l_, wg_a1, wg_a2, wg_o_, wg_n_, wg_f_, wg_s_, wg_I_, wg_L_, wg_A_, wg_si_, wg_sb_, wg_sl_, wg_m_, wg_c_, wg_t_, List.drop_succ_cons, List.drop_zero, List.take_succ_cons, List.take_zero, List.reverse_cons, List.reverse_nil, List.nil_append, List.cons_append, h75, A]
        refine ih (i + 1) _ _ _ (by omega) ?_
        rcases hk with ⟨e1, e2, e3⟩ | ⟨w, e1, e2, e3, e4, e5⟩
        · refine Or.inl ⟨e1, e2, fun v hv => ?_⟩
          rcases Nat.lt_or_ge v i with hvi | hvi
          · exact e3 v hvi
          · rw [show v = i by omega]; omega
        · refine Or.inr ⟨w, by omega, e2, e3, e4, fun v hv => ?_⟩
          rcases Nat.lt_or_ge v i with hvi | hvi
          · exact e5 v hvi
          · rw [show v = i by omega]; omega
  simp (disch := omega) only [ei_117, cb_117_0, wC_goto, wC_iconst, wC_ldc2, wC_ldc, wC_getstatic, wC_iadd, wC_isub, wC_imul, wC_iand, wC_ior, wC_ixor, wC_ishl, wC_ishr, wC_iushr, wC_ladd, wC_lmul, wC_land, wC_lcmp, wC_lshl, wC_lshr, wC_i2l, wC_i2b, wC_i2c, wC_popi, wC_popa, wC_dupi, wC_dupa, wC_dup2, wC_idiv, wC_irem, wC_ldiv, wC_lrem, wr_iload, wr_lload, wr_aload, wC_istore, wC_astore, wC_lstore, wr_iinc, wC_icmp_eq, wC_icmp_ne, wC_icmp_lt, wC_icmp_ge, wC_icmp_gt, wC_icmp_le, wC_ifc_eq, wC_ifc_ne, wC_ifc_lt, wC_ifc_ge, wC_ifc_gt, wC_ifc_le, wC_tab, wr_getf, wr_putf, wr_iaload, wr_baload, wr_laload, wr_iastore, wr_bastore, wr_lastore, wr_aaload, wr_alen, wC_slen, wC_sald, wC_new, wC_newa, wC_newq, wC_oinit, wC_math, wC_iret, wC_lret, wC_vret, wC_zret, wC_cret, wC_jsr, wi_c_, fx_low, List.map_cons, List.map_nil, List.sum_cons, List.sum_nil, fl_int, fl_ref, fl_ra, fl_long, decide_eq_true_eq, decide_true, kk_ltT, kk_ltF, kk_leT, kk_leF, kk_eqT, kk_eqF, kk_0T, kk_0F, kk_g0T, kk_g0F, kk_l0T, kk_l0F, kk_inT, kk_lt0, kk_ge0, kk_m1, kk_m1', kk_m1lt, kk_m1le, kk_m1ltF, kk_m1leT, kk_mm, kk_mm2, kk_mm3, kk_mm4, kk_mm5, kk_cl, kk_sub, kk_p1, kk_shl, kk_shr, kk_and, kk_or, kk_xor, kk_rem2, kk_div, kk_len, kk_z1, kk_ln, kk_i2l, lN_add, lN_mul, kk_tb, kk_b0, kk_b1, nI_add, pk_mul, va_up_ne', va_up_se, va_up_up, ne_eq, not_false_eq_true, not_true_eq_false, false_or, or_false, eq_self, Nat.reducePow, Nat.reduceSub, Nat.reduceBEq, Nat.one_mul, Nat.zero_add, Nat.add_zero, Nat.zero_mul, Nat.mul_zero, cn_m20, cn_m8, cn_m1, cn_0, cn_1, cn_2, cn_3, cn_4, cn_5, cn_6, cn_7, cn_8, cn_9, cn_10, cn_11, cn_12, cn_15, cn_16, cn_20, cn_24, cn_30, cn_31, cn_32, cn_33, cn_34, cn_35, cn_37, cn_40, cn_41, cn_42, cn_43, cn_44, cn_45, cn_47, cn_48, cn_57, cn_59, cn_60, cn_63, cn_91, cn_93, cn_96, cn_97, cn_99, cn_100, cn_122, cn_128, cn_150, cn_200, cn_255, cn_400, cn_560, cn_596, cn_600, cn_999, cn_1024, cn_1788, cn_4096, cn_8400, cn_9999, cn_10000, cn_12345, cn_32767, cn_999999, cn_252645135, cn_858993459, cn_1103515245, cn_1431655765, cn_2147483647, wK_v, wK_r, List.getElem?_cons_zero, List.getElem?_cons_succ, Int.reduceToNat, Nat.reduceDiv, Nat.reduceMod, Nat.reduceMul, Nat.reduceAdd, Nat.reduceLT, Nat.reduceLeDiff, Nat.reduceEqDiff, fx_set, fx_fix, fx_fit, List.length_cons, List.length_nil, List.set_cons_zero, List.set_cons_succ, and_true, true_and, if_true, if_false, ↓reduceIte, and_self, true_or, or_true, not_false_iff, not_true, wr_ii, wr_is, wr_iv, wg_i_, wg_l_, wg_a1, wg_a2, wg_o_, wg_n_, wg_f_, wg_s_, wg_I_, wg_L_, wg_A_, wg_si_, wg_sb_, wg_sl_, wg_m_, wg_c_, wg_t_, List.drop_succ_cons, List.drop_zero, List.take_succ_cons, List.take_zero, List.reverse_cons, List.reverse_nil, List.nil_append, List.cons_append]
  exact loop 4 0 _ _ _ (by omega) (Or.inl ⟨rfl, rfl, fun w hw => absurd hw (by omega)⟩)
end
section
variable {br : Nat → Nat → Nat} {pr : Nat → Nat} {x K T m : Nat} {q c hd : Nat → Nat} {gs : Nat → Int32}
theorem ch_pv (h : chI br pr x K T m q c hd) (hp : ∀ w, w < 4 → pr w ≤ 60) (hm : m ≤ 1024) {w : Nat} (hw : w < 4) : pv pr m c hd w ≤ 2147483647 ∧ (hd w < m → pv pr m c hd w < 999999 ∧ pv pr m c hd w = c (hd w) + pr w) := by
  unfold pv
  by_cases hl : hd w < m
  · rw [if_pos hl]
    have h1 := h.2.2.2.1 _ hl
    have h2 := hp w hw
    exact ⟨by omega, fun _ => ⟨by omega, rfl⟩⟩
  · rw [if_neg hl]
    exact ⟨by omega, fun q => absurd q hl⟩
/-- the head that is cheapest is gone on with; what comes of it was come to -/
theorem ch_old (h : chI br pr x K T m q c hd) {w : Nat} (hw : w < 4) (hl : hd w < m) (hmin : ∀ v, v < 4 → hd v < m → c (hd w) + pr w ≤ c (hd v) + pr v) {i : Nat} (hi : i < m) (he : br (q (hd w)) w = q i) : chI br pr x K (c (hd w) + pr w) m q c (va_up hd w (hd w + 1)) := by
  obtain ⟨h1, h2, h3, h4, h5, h6, h7, h8, h9, h10⟩ := h
  have hT : T ≤ c (hd w) + pr w := h7 w hw _ (Nat.le_refl _) hl
  refine ⟨h1, h2, h3, h4, fun v hv => ?_, fun v hv j hj => ?_, fun v hv j hj1 hj2 => ?_, fun j hj => by have := h8 j hj; omega, h9, h10⟩
  · by_cases e : v = w
    · subst e; rw [va_up_se]; omega
    · rw [va_up_ne' e]; exact h5 v hv
  · by_cases e : v = w
    · subst e
      rw [va_up_se] at hj
      by_cases ej : j = hd v
      · subst ej
        exact ⟨i, hi, he, by have := h8 i hi; omega⟩
      · exact h6 v hv j (by omega)
    · rw [va_up_ne' e] at hj
      exact h6 v hv j hj
  · have hdv : hd v ≤ j := by
      by_cases e : v = w
      · subst e; rw [va_up_se] at hj1; omega
      · rw [va_up_ne' e] at hj1; exact hj1
    have := hmin v hv (by omega)
    have := h3 _ _ hdv hj2
    omega
theorem ch_new (h : chI br pr x K T m q c hd) (hbr : ∀ z, z < 2 ^ K → ∀ w, w < 4 → br z w < 2 ^ K) (hp : ∀ w, w < 4 → pr w ≤ 60) {w : Nat} (hw : w < 4) (hl : hd w < m) (hmin : ∀ v, v < 4 → hd v < m → c (hd w) + pr w ≤ c (hd v) + pr v) (h1n : is1 (br (q (hd w)) w) = false) : chI br pr x K (c (hd w) + pr w) (m + 1) (va_up q m (br (q (hd w)) w)) (va_up c m (c (hd w) + pr w)) (va_up hd w (hd w + 1)) := by
  obtain ⟨h1, h2, h3, h4, h5, h6, h7, h8, h9, h10⟩ := h
  have hT : T ≤ c (hd w) + pr w := h7 w hw _ (Nat.le_refl _) hl
  have qo : ∀ j, j < m → va_up q m (br (q (hd w)) w) j = q j := fun j hj => va_up_ne' (by omega)
  have co : ∀ j, j < m → va_up c m (c (hd w) + pr w) j = c j := fun j hj => va_up_ne' (by omega)
  have h5' := h5 w hw
  refine ⟨⟨by omega, by rw [qo 0 h1.1]; exact h1.2.1, by rw [co 0 h1.1]; exact h1.2.2⟩, fun j hj => ?_, fun i j hij hj => ?_, fun j hj => ?_, fun v hv => ?_, fun v hv j hj => ?_, fun v hv j hj1 hj2 => ?_, fun j hj => ?_, fun ψ p1 p2 j hj => ?_, fun j hj => ?_⟩
  · by_cases e : j = m
    · subst e; rw [va_up_se]; exact hbr _ (h2 _ hl) w hw
    · rw [qo j (by omega)]; exact h2 j (by omega)
  · by_cases e : j = m
    · subst e
      rw [va_up_se]
      by_cases e2 : i = j
      · subst e2; rw [va_up_se]; exact Nat.le_refl _
      · rw [co i (by omega)]; have := h8 i (by omega); omega
    · rw [co j (by omega), co i (by omega)]; exact h3 i j hij (by omega)
  · by_cases e : j = m
    · subst e; rw [va_up_se]
      have := h4 _ hl
      have := hp w hw
      omega
    · rw [co j (by omega)]; exact h4 j (by omega)
  · by_cases e : v = w
    · subst e; rw [va_up_se]; omega
    · rw [va_up_ne' e]; have := h5 v hv; omega
  · by_cases e : v = w
    · subst e
      rw [va_up_se] at hj
      by_cases ej : j = hd v
      · subst ej
        refine ⟨m, by omega, ?_, ?_⟩
        · rw [qo _ hl, va_up_se]
        · rw [va_up_se, co _ hl]; exact Nat.le_refl _
      · obtain ⟨i, i1, i2, i3⟩ := h6 v hv j (by omega)
        exact ⟨i, by omega, by rw [qo j (by omega), qo i i1]; exact i2, by rw [co i i1, co j (by omega)]; exact i3⟩
    · rw [va_up_ne' e] at hj
      have := h5 v hv
      obtain ⟨i, i1, i2, i3⟩ := h6 v hv j hj
      exact ⟨i, by omega, by rw [qo j (by omega), qo i i1]; exact i2, by rw [co i i1, co j (by omega)]; exact i3⟩
  · by_cases ej : j = m
    · subst ej
      rw [va_up_se]; omega
    · rw [co j (by omega)]
      have hdv : hd v ≤ j := by
        by_cases e : v = w
        · subst e; rw [va_up_se] at hj1; omega
        · rw [va_up_ne' e] at hj1; exact hj1
      have := hmin v hv (by omega)
      have := h3 _ _ hdv (show j < m by omega)
      omega
  · by_cases e : j = m
    · subst e; rw [va_up_se]; exact Nat.le_refl _
    · rw [co j (by omega)]; have := h8 j (by omega); omega
  · by_cases e : j = m
    · subst e; rw [va_up_se, va_up_se]
      have a1 := h9 ψ p1 p2 _ hl
      have a2 := p2 _ (h2 _ hl) w hw
      omega
    · rw [qo j (by omega), co j (by omega)]; exact h9 ψ p1 p2 j (by omega)
  · by_cases e : j = m
    · subst e; rw [va_up_se]; exact h1n
    · rw [qo j (by omega)]; exact h10 j (by omega)
/-- one corner is come to: it is the cheapest -/
theorem ch_found (h : chI br pr x K T m q c hd) (hs : chS m q c gs) (hbr : ∀ z, z < 2 ^ K → ∀ w, w < 4 → br z w < 2 ^ K) (hK : K ≤ 10) (hp : ∀ w, w < 4 → pr w ≤ 60) (hm : m ≤ 1024) {w : Nat} (hw : w < 4) (hl : hd w < m) (hmin : ∀ v, v < 4 → hd v < m → c (hd w) + pr w ≤ c (hd v) + pr v) (h1n : is1 (br (q (hd w)) w) = true) : isC br pr x K (nI (c (hd w) + pr w)) := by
  obtain ⟨s1, s2, s3⟩ := hs
  obtain ⟨h1, h2, h3, h4, h5, h6, h7, h8, h9, h10⟩ := h
  have hk := p2_10 hK
  have hT : T ≤ c (hd w) + pr w := h7 w hw _ (Nat.le_refl _) hl
  have hcb : ∀ j, j < m → c j < 2147483648 := fun j hj => by have := h4 j hj; omega
  have phi : ∀ j, j < m → (if gs (q j) = -1 then c (hd w) + pr w else (gs (q j)).toNatClampNeg) = c j := by
    intro j hj
    rw [s2 j hj, if_neg (nI_m1 (hcb j hj)), nI_clamp (hcb j hj)]
  refine Or.inl ⟨c (hd w) + pr w, fun z => if gs z = -1 then c (hd w) + pr w else (gs z).toNatClampNeg, rfl, ?_, ?_, fun z hz v hv => ?_, fun cc hc => ?_, fun ψ p1 p2 => ?_⟩
  · have := h4 _ hl
    have := hp w hw
    omega
  · have := phi 0 h1.1
    rw [h1.2.1, h1.2.2] at this
    exact this
  · have hle : ∀ y, y < 1024 → (if gs y = -1 then c (hd w) + pr w else (gs y).toNatClampNeg) ≤ c (hd w) + pr w := by
      intro y hy
      by_cases e : gs y = -1
      · rw [if_pos e]; exact Nat.le_refl _
      · obtain ⟨i, i1, i2⟩ := s3 y hy e
        have := phi i i1
        rw [i2] at this
        rw [this]
        have := h8 i i1
        omega
    have hy := hbr z hz v hv
    by_cases e : gs z = -1
    · have h9 := hle (br z v) (by omega)
      dsimp only
      rw [if_pos e]
      omega
    · obtain ⟨j, j1, j2⟩ := s3 z (by omega) e
      have ez := phi j j1
      rw [j2] at ez
      dsimp only
      rw [ez]
      rcases Nat.lt_or_ge j (hd v) with hj | hj
      · obtain ⟨i, i1, i2, i3⟩ := h6 v hv j hj
        rw [j2] at i2
        have ey := phi i i1
        rw [← i2] at ey
        rw [ey]
        exact i3
      · have a1 := hle (br z v) (by omega)
        have a2 := hmin v hv (by omega)
        have a3 := h3 _ _ hj j1
        omega
  · have : gs (2 ^ cc) = -1 := by
      apply Classical.byContradiction
      intro hne
      obtain ⟨j, j1, j2⟩ := s3 (2 ^ cc) (by have := p2_le (show cc ≤ 9 by omega); omega) hne
      have := h10 j j1
      rw [j2, pow_is1 cc (by omega)] at this
      cases this
    dsimp only
    rw [if_pos this]
    exact Nat.le_refl _
  · obtain ⟨cc, c1, c2⟩ := is1_ex (hbr _ (h2 _ hl) w hw) hK h1n
    refine ⟨cc, c1, ?_⟩
    rw [← c2]
    have a1 := h9 ψ p1 p2 _ hl
    have a2 := p2 _ (h2 _ hl) w hw
    omega
theorem ch_none (h : chI br pr x K T m q c hd) (hK : K ≤ 10) (hall : ∀ w, w < 4 → ¬ hd w < m) : isC br pr x K (-1) := by
  obtain ⟨h1, h2, h3, h4, h5, h6, h7, h8, h9, h10⟩ := h
  refine Or.inr ⟨rfl, fun z => ∃ j, j < m ∧ q j = z, ⟨0, h1.1, h1.2.1⟩, fun z _ hz w hw => ?_, fun cc hc hz => ?_⟩
  · obtain ⟨j, j1, j2⟩ := hz
    have := hall w hw
    obtain ⟨i, i1, i2, i3⟩ := h6 w hw j (by omega)
    exact ⟨i, i1, by rw [← i2, j2]⟩
  · obtain ⟨j, j1, j2⟩ := hz
    have := h10 j j1
    rw [j2, pow_is1 cc (by omega)] at this
    cases this
end
