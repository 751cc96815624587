/-! ===== texts: length, charAt ===== -/
def txN : List (List Nat) := [[97, 110, 32, 97, 114, 103, 117, 109, 101, 110, 116, 32, 105, 115, 32, 111, 117, 116, 32, 111, 102, 32, 105, 116, 115, 32, 114, 97, 110, 103, 101], [99, 111, 114, 110, 101, 114], [119, 97, 121], [109, 97, 110], [98, 114, 101, 97, 116, 104], [119, 104, 105, 115, 116, 108, 101], [98, 108, 111, 119, 110], [115, 97, 109, 101], [102, 111, 103], [109, 101, 110], [110, 105, 103, 104, 116], [108, 101, 97, 115, 116], [109, 111, 115, 116], [98, 108, 111, 119], [114, 101, 115, 116], [119, 97, 108, 107], [97, 103, 97, 105, 110], [110, 111, 32, 115, 117, 99, 104, 32, 99, 111, 114, 110, 101, 114, 32, 111, 114, 32, 109, 97, 110]]
theorem tx_eq : pg_tx = txN.map (fun l => l.map nI) := rfl
theorem tx_at {j : Nat} {l : List Nat} (hj : txN[j]? = some l) : pg_tx[j]? = some (l.map nI) := by rw [tx_eq, List.getElem?_map, hj]; rfl
theorem tx_jlt {j : Nat} {l : List Nat} (hj : txN[j]? = some l) : j < 18 := (List.getElem?_eq_some_iff.mp hj).1
theorem tx_len {j : Nat} {l : List Nat} (hj : txN[j]? = some l) : fx_tlen pg_tx (2 * j + 1 + 1) = some l.length := by
  unfold fx_tlen
  rw [if_neg (by omega), if_neg (by omega), show (2 * j + 1 + 1) / 2 - 1 = j by omega, tx_at hj]
  simp
theorem tx_get {j i b : Nat} {l : List Nat} (hj : txN[j]? = some l) (hi : l[i]? = some b) (hn : i < 2147483648) : fx_tget pg_tx (2 * j + 1 + 1) (nI i) = some (nI b) := by
  unfold fx_tget
  rw [if_neg (by omega), if_neg (by omega), show (2 * j + 1 + 1) / 2 - 1 = j by omega, tx_at hj]
  have h1 : i < l.length := (List.getElem?_eq_some_iff.mp hi).1
  have h2 : fx_in (nI i) (l.map nI).length = true := by rw [kk_in hn]; simpa using h1
  simp only [h2, if_true, nI_clamp hn, List.getElem?_map, hi]
  rfl
theorem kk_10 : ((1 : Int32) = 0) = False := by decide
section
variable {sc : Nat × (Nat → Int32)} {d : Nat} {hn : Nat → Option (Nat × Nat)} {cdm k : List Instr} {ls st : List Value} {h : fx_H} {n cc ss : Nat} {f : Nat → va_E} {Q : fx_R → Prop}
def wi_v (x : Nat) (st : List Value) (F : Nat → List Value → List Value → Prop) : Prop := match st.drop (x % 16) with
  | .retAddr a :: rest => F a ((st.take (x % 16)).reverse) rest
  | _ => False
theorem wi_v0 {x a : Nat} {F : Nat → List Value → List Value → Prop} (hx : x % 16 = 0) : wi_v x (.retAddr a :: st) F = F a [] st := by unfold wi_v; rw [hx]; rfl
theorem wi_v1 {x a : Nat} {v1 : Value} {F : Nat → List Value → List Value → Prop} (hx : x % 16 = 1) : wi_v x (v1 :: .retAddr a :: st) F = F a [v1] st := by unfold wi_v; rw [hx]; rfl
theorem wC_iv {x : Nat} : wC sc d hn cdm (.invokevirtual x :: k) ls st h Q ↔ wi_v x st (fun a as rest => (a % 2 = 1 ∧ a / 2 < 18) ∧ fx_low rest = true ∧ wM sc d (x / 16) (.retAddr a :: as) h (wK sc d hn cdm k ls rest 0 Q)) := by
  unfold wC wi_v
  simp only [fx_1]
  generalize hL : st.drop (x % 16) = L
  rcases L with _ | ⟨v, rest⟩
  · simp only [wX_none]
  · cases v
    case retAddr a =>
      dsimp only
      by_cases hc : a % 2 = 1 ∧ a / 2 < 18
      · by_cases hl : fx_low rest = true
        · have h9 : a % 2 = 1 ∧ a / 2 < pg_tx.length ∧ fx_low rest = true := ⟨hc.1, hc.2, hl⟩
          simp only [h9, if_true, hc, hl, true_and, and_self]
          have := wX_then (sc := sc) (d := d) (hn := hn) (cdm := cdm) (k := k) (ls := ls) (h := h) (Q := Q) (rest := rest) (sp := 0) (m := x / 16) (args := .retAddr a :: (st.take (x % 16)).reverse)
          simp only [fx_only, Nat.zero_ne_one, if_false] at this
          exact this
        · simp only [hl, and_false, if_false, wX_none, Bool.false_eq_true, false_and]
      · have h9 : ¬ (a % 2 = 1 ∧ a / 2 < pg_tx.length ∧ fx_low rest = true) := fun q => hc ⟨q.1, q.2.1⟩
        simp only [h9, if_false, wX_none, hc, false_and]
    all_goals simp only [wX_none]
theorem wC_cc0 {a : Nat} : wC sc d hn cdm (.checkcast 0 :: k) ls (.retAddr a :: st) h Q ↔ ((a % 2 = 1 ∧ a / 2 < 18) ∧ wC sc d hn cdm k ls (.retAddr (a + 1) :: st) h Q) := by
  unfold wC
  simp only [fx_1]
  by_cases hc : a % 2 = 1 ∧ a / 2 < 18
  · have h9 : a % 2 = 1 ∧ a / 2 < pg_tx.length := hc
    simp only [h9, and_self, if_true, true_and, hc]
  · have h9 : ¬ (a % 2 = 1 ∧ a / 2 < pg_tx.length) := hc
    simp only [h9, if_false, wX_none, hc, false_and]
theorem wC_cc1 {a : Nat} : wC sc d hn cdm (.checkcast 1 :: k) ls (.retAddr a :: st) h Q ↔ ((a % 2 = 1 ∧ a / 2 < 18) ∧ wC sc d hn cdm k ls (.int 0 :: st) h Q) := by
  unfold wC
  simp only [fx_1]
  by_cases hc : a % 2 = 1 ∧ a / 2 < 18
  · have h9 : a % 2 = 1 ∧ a / 2 < pg_tx.length := hc
    simp only [h9, and_self, if_true, true_and, hc, Nat.one_ne_zero, if_false]
  · have h9 : ¬ (a % 2 = 1 ∧ a / 2 < pg_tx.length) := hc
    simp only [h9, if_false, wX_none, hc, false_and]
theorem wC_tlen {a m : Nat} (ha : fx_tlen pg_tx a = some m) : wC sc d hn cdm (.arraylength :: k) ls (.retAddr a :: st) h Q ↔ wC sc d hn cdm k ls (.int (nI m) :: st) h Q := by
  have h0 : a ≠ 0 := by intro q; subst q; simp [fx_tlen] at ha
  unfold wC
  obtain ⟨a, rfl⟩ : ∃ b, a = b + 1 := ⟨a - 1, by omega⟩
  simp only [fx_1, ha]
  exact Iff.rfl
theorem wC_tget {a : Nat} {i v : Int32} (ha : fx_tget pg_tx a i = some v) : wC sc d hn cdm (.baload :: k) ls (.int i :: .retAddr a :: st) h Q ↔ wC sc d hn cdm k ls (.int v :: st) h Q := by
  unfold wC
  simp only [fx_1, ha]
theorem sp_strlen {j : Nat} {l : List Nat} (hj : txN[j]? = some l) (hl : l.length < 1000) : wM sc (d + 2) 4 [.retAddr (2 * j + 1)] h Q ↔ Q (.inl (some (.int (nI l.length))), h) := by
  have h1 := tx_jlt hj
  have h2 := tx_len hj
  have h3 : (2 * j + 1) % 2 = 1 ∧ (2 * j + 1) / 2 < 18 := by omega
  simp (disch := omega) only [cb_4_0, ei_4, wt_4, cb_6_0, cb_6_2, cb_6_5, cb_6_6, jb_6_2, jb_6_5, jb_6_6, ei_6, wt_6, wC_goto, wC_iconst, wC_ldc2, wC_ldc, wC_getstatic, wC_iadd, wC_isub, wC_imul, wC_iand, wC_ior, wC_ixor, wC_ishl, wC_ishr, wC_iushr, wC_ladd, wC_lmul, wC_land, wC_lcmp, wC_lshl, wC_lshr, wC_i2l, wC_i2b, wC_i2c, wC_popi, wC_popa, wC_dupi, wC_dupa, wC_dup2, wC_idiv, wC_irem, wC_ldiv, wC_lrem, wC_iload, wC_lload, wC_aload, wC_istore, wC_astore, wC_lstore, wC_iinc, wC_icmp_eq, wC_icmp_ne, wC_icmp_lt, wC_icmp_ge, wC_icmp_gt, wC_icmp_le, wC_ifc_eq, wC_ifc_ne, wC_ifc_lt, wC_ifc_ge, wC_ifc_gt, wC_ifc_le, wC_tab, wC_getf, wC_putf, wC_iaload, wC_baload, wC_laload, wC_iastore, wC_bastore, wC_lastore, wC_aaload, wC_alen, wC_slen, wC_sald, wC_new, wC_newa, wC_newq, wC_oinit, wC_math, wC_iret, wC_lret, wC_vret, wC_zret, wC_cret, wC_jsr, wC_ii, wC_is, wi_i0, wi_i1, wi_i2, wi_i3, wi_i4, wi_i5, wi_i6, wi_i7, wi_s1, wi_s2, wi_s3, wi_s4, wi_s5, wi_c_, fx_low, List.map_cons, List.map_nil, List.sum_cons, List.sum_nil, fl_int, fl_ref, fl_ra, fl_long, decide_eq_true_eq, decide_true, kk_ltT, kk_ltF, kk_leT, kk_leF, kk_eqT, kk_eqF, kk_0T, kk_0F, kk_g0T, kk_g0F, kk_l0T, kk_l0F, kk_inT, kk_lt0, kk_ge0, kk_m1, kk_m1', kk_m1lt, kk_m1le, kk_m1ltF, kk_m1leT, kk_mm, kk_mm2, kk_mm3, kk_mm4, kk_mm5, kk_cl, kk_sub, kk_p1, kk_shl, kk_shr, kk_and, kk_or, kk_xor, kk_rem2, kk_div, kk_len, kk_z1, kk_ln, kk_i2l, lN_add, lN_mul, kk_tb, kk_b0, kk_b1, nI_add, pk_mul, va_up_ne', va_up_se, va_up_up, ne_eq, not_false_eq_true, not_true_eq_false, false_or, or_false, eq_self, Nat.reducePow, Nat.reduceSub, Nat.reduceBEq, Nat.one_mul, Nat.zero_add, Nat.add_zero, Nat.zero_mul, Nat.mul_zero, cn_m20, cn_m8, cn_m1, cn_0, cn_1, cn_2, cn_3, cn_4, cn_5, cn_6, cn_7, cn_8, cn_9, cn_10, cn_11, cn_12, cn_15, cn_16, cn_20, cn_24, cn_30, cn_31, cn_32, cn_33, cn_34, cn_35, cn_37, cn_40, cn_41, cn_42, cn_43, cn_44, cn_45, cn_47, cn_48, cn_57, cn_59, cn_60, cn_63, cn_91, cn_93, cn_96, cn_97, cn_99, cn_100, cn_122, cn_128, cn_150, cn_200, cn_255, cn_400, cn_560, cn_596, cn_600, cn_999, cn_1024, cn_1788, cn_4096, cn_8400, cn_9999, cn_10000, cn_12345, cn_32767, cn_999999, cn_252645135, cn_858993459, cn_1103515245, cn_1431655765, cn_2147483647, wl_i_, wl_l_, wl_a1, wl_a2, wl_o_, wl_f_, wl_I_, wl_L_, wl_A_, wl_n_, wK_v, wK_r, List.getElem?_cons_zero, List.getElem?_cons_succ, Int.reduceToNat, Nat.reduceDiv, Nat.reduceMod, Nat.reduceMul, Nat.reduceAdd, Nat.reduceLT, Nat.reduceLeDiff, Nat.reduceEqDiff, fx_set, fx_fix, fx_fit, List.length_cons, List.length_nil, List.set_cons_zero, List.set_cons_succ, and_true, true_and, if_true, if_false, ↓reduceIte, and_self, true_or, or_true, not_false_iff, not_true, wC_iv, wi_v0, wC_cc0, wC_cc1, wC_tlen h2, h3, kk_10]
  rw [show nI l.length >>> ((0 : Int32) &&& 31) = nI l.length from kk_shr (c := 0) (by omega) (by omega) |>.trans (by simp)]
theorem sp_charAt {j i b : Nat} {l : List Nat} (hj : txN[j]? = some l) (hi : l[i]? = some b) (hb : b < 128) (hl : l.length < 1000) : wM sc (d + 4) 5 [.retAddr (2 * j + 1), .int (nI i)] h Q ↔ Q (.inl (some (.int (nI b))), h) := by
  have h1 := tx_jlt hj
  have h0 : i < l.length := (List.getElem?_eq_some_iff.mp hi).1
  have h2 := tx_len hj
  have h4 := tx_get hj hi (by omega)
  have h3 : (2 * j + 1) % 2 = 1 ∧ (2 * j + 1) / 2 < 18 := by omega
  have h5 : nI b &&& nI 255 = nI b := by
    rw [kk_and, show (255 : Nat) = 2 ^ 8 - 1 from rfl, Nat.and_two_pow_sub_one_eq_mod, Nat.mod_eq_of_lt (by omega)]
  have h6 : ((nI b).toUInt32 % 65536).toInt32 = nI b := by
    rw [pk_char, pk_tn (by omega), Nat.mod_eq_of_lt (by omega)]
  have h7 := (pk_charN (q := b) (by omega)).1
  simp (disch := omega) only [cb_5_0, cb_5_3, cb_5_8, jb_5_3, jb_5_8, ei_5, wt_5, cb_7_0, cb_7_2, cb_7_5, cb_7_7, cb_7_8, jb_7_2, jb_7_5, jb_7_7, jb_7_8, ei_7, wt_7, cb_9_0, ei_9, wt_9, cb_8_0, ei_8, wt_8, cb_3_0, cb_3_2, cb_3_5, cb_3_10, jb_3_2, jb_3_5, jb_3_10, ei_3, wt_3, wC_goto, wC_iconst, wC_ldc2, wC_ldc, wC_getstatic, wC_iadd, wC_isub, wC_imul, wC_iand, wC_ior, wC_ixor, wC_ishl, wC_ishr, wC_iushr, wC_ladd, wC_lmul, wC_land, wC_lcmp, wC_lshl, wC_lshr, wC_i2l, wC_i2b, wC_i2c, wC_popi, wC_popa, wC_dupi, wC_dupa, wC_dup2, wC_idiv, wC_irem, wC_ldiv, wC_lrem, wC_iload, wC_lload, wC_aload, wC_istore, wC_astore, wC_lstore, wC_iinc, wC_icmp_eq, wC_icmp_ne, wC_icmp_lt, wC_icmp_ge, wC_icmp_gt, wC_icmp_le, wC_ifc_eq, wC_ifc_ne, wC_ifc_lt, wC_ifc_ge, wC_ifc_gt, wC_ifc_le, wC_tab, wC_getf, wC_putf, wC_iaload, wC_baload, wC_laload, wC_iastore, wC_bastore, wC_lastore, wC_aaload, wC_alen, wC_slen, wC_sald, wC_new, wC_newa, wC_newq, wC_oinit, wC_math, wC_iret, wC_lret, wC_vret, wC_zret, wC_cret, wC_jsr, wC_ii, wC_is, wi_i0, wi_i1, wi_i2, wi_i3, wi_i4, wi_i5, wi_i6, wi_i7, wi_s1, wi_s2, wi_s3, wi_s4, wi_s5, wi_c_, fx_low, List.map_cons, List.map_nil, List.sum_cons, List.sum_nil, fl_int, fl_ref, fl_ra, fl_long, decide_eq_true_eq, decide_true, kk_ltT, kk_ltF, kk_leT, kk_leF, kk_eqT, kk_eqF, kk_0T, kk_0F, kk_g0T, kk_g0F, kk_l0T, kk_l0F, kk_inT, kk_lt0, kk_ge0, kk_m1, kk_m1', kk_m1lt, kk_m1le, kk_m1ltF, kk_m1leT, kk_mm, kk_mm2, kk_mm3, kk_mm4, kk_mm5, kk_cl, kk_sub, kk_p1, kk_shl, kk_shr, kk_and, kk_or, kk_xor, kk_rem2, kk_div, kk_len, kk_z1, kk_ln, kk_i2l, lN_add, lN_mul, kk_tb, kk_b0, kk_b1, nI_add, pk_mul, va_up_ne', va_up_se, va_up_up, ne_eq, not_false_eq_true, not_true_eq_false, false_or, or_false, eq_self, Nat.reducePow, Nat.reduceSub, Nat.reduceBEq, Nat.one_mul, Nat.zero_add, Nat.add_zero, Nat.zero_mul, Nat.mul_zero, cn_m20, cn_m8, cn_m1, cn_0, cn_1, cn_2, cn_3, cn_4, cn_5, cn_6, cn_7, cn_8, cn_9, cn_10, cn_11, cn_12, cn_15, cn_16, cn_20, cn_24, cn_30, cn_31, cn_32, cn_33, cn_34, cn_35, cn_37, cn_40, cn_41, cn_42, cn_43, cn_44, cn_45, cn_47, cn_48, cn_57, cn_59, cn_60, cn_63, cn_91, cn_93, cn_96, cn_97, cn_99, cn_100, cn_122, cn_128, cn_150, cn_200, cn_255, cn_400, cn_560, cn_596, cn_600, cn_999, cn_1024, cn_1788, cn_4096, cn_8400, cn_9999, cn_10000, cn_12345, cn_32767, cn_999999, cn_252645135, cn_858993459, cn_1103515245, cn_1431655765, cn_2147483647, wl_i_, wl_l_, wl_a1, wl_a2, wl_o_, wl_f_, wl_I_, wl_L_, wl_A_, wl_n_, wK_v, wK_r, List.getElem?_cons_zero, List.getElem?_cons_succ, Int.reduceToNat, Nat.reduceDiv, Nat.reduceMod, Nat.reduceMul, Nat.reduceAdd, Nat.reduceLT, Nat.reduceLeDiff, Nat.reduceEqDiff, fx_set, fx_fix, fx_fit, List.length_cons, List.length_nil, List.set_cons_zero, List.set_cons_succ, and_true, true_and, if_true, if_false, ↓reduceIte, and_self, true_or, or_true, not_false_iff, not_true, wC_iv, wi_v0, wi_v1, wC_cc0, wC_cc1, wC_tlen h2, wC_tget h4, h3, kk_10, h5, h6, h7]

end
