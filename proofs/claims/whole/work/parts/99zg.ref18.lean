/-! ===== the reference: chances, bytes fed ===== -/
theorem lq_i {a : Nat} (h : a < 2 ^ 63) : (lN a).toInt = a := Int64.toInt_ofNat_of_lt h
theorem lq_inj {a b : Nat} (ha : a < 2 ^ 63) (hb : b < 2 ^ 63) : (lN a = lN b) ↔ a = b := by
  constructor
  · intro h
    have := congrArg Int64.toInt h
    rw [lq_i ha, lq_i hb] at this
    omega
  · intro h; rw [h]
theorem lq_div {a b : Nat} (ha : a < 2 ^ 63) (hb : b < 2 ^ 63) : lN a / lN b = lN (a / b) := by
  apply Int64.toInt_inj.mp
  have h1 : a / b ≤ a := Nat.div_le_self _ _
  rw [Int64.toInt_div, lq_i ha, lq_i hb, lq_i (by omega)]
  rw [show ((a : Int).tdiv b) = ((a / b : Nat) : Int) from Int.ofNat_tdiv a b]
  generalize a / b = c at *
  apply Int.bmod_eq_of_le <;> omega
theorem lq_sub {a b : Nat} (h : b ≤ a) : lN a - lN b = lN (a - b) := by
  have h1 : lN (a - b) + lN b = lN a := by rw [lN_add]; congr 1; omega
  rw [← h1, Int64.add_sub_cancel]
theorem lq_rem {a b : Nat} (ha : a < 2 ^ 63) (hb : b < 2 ^ 63) : lN a - lN a / lN b * lN b = lN (a % b) := by
  have h2 : a / b * b ≤ a := Nat.div_mul_le_self _ _
  rw [lq_div ha hb, lN_mul, lq_sub h2]
  congr 1
  have := Nat.div_add_mod a b
  rw [Nat.mul_comm] at this
  omega
theorem lq_bv {a : Nat} : (lN a).toBitVec = BitVec.ofNat 64 a := rfl
theorem lq_and1 {a : Nat} (ha : a < 2 ^ 63) : lN a &&& lN 1 = lN (a % 2) := by
  apply Int64.toBitVec_inj.mp
  show (lN a).toBitVec &&& (lN 1).toBitVec = (lN (a % 2)).toBitVec
  rw [lq_bv, lq_bv, lq_bv]
  apply BitVec.eq_of_toNat_eq
  rw [BitVec.toNat_and, BitVec.toNat_ofNat, BitVec.toNat_ofNat, BitVec.toNat_ofNat, Nat.mod_eq_of_lt (show a < 2 ^ 64 by omega), Nat.mod_eq_of_lt (show 1 < 2 ^ 64 by omega), Nat.and_one_is_mod, Nat.mod_eq_of_lt (show a % 2 < 2 ^ 64 by omega)]
theorem lq_shr1 {a : Nat} (ha : a < 2 ^ 63) : lN a >>> (lN 1 &&& 63) = lN (a / 2) := by
  apply Int64.toBitVec_inj.mp
  have e0 : ((lN 1 &&& 63).toBitVec.smod 64).toNat = 1 := by decide
  show (lN a).toBitVec.sshiftRight ((lN 1 &&& 63).toBitVec.smod 64).toNat = (lN (a / 2)).toBitVec
  rw [e0]
  apply BitVec.eq_of_toInt_eq
  rw [BitVec.toInt_sshiftRight]
  show (lN a).toInt >>> 1 = (lN (a / 2)).toInt
  rw [lq_i ha, lq_i (by omega), Int.shiftRight_eq_div_pow]
  omega
theorem lq_shl : ∀ m, m ≤ 48 → lN 1 <<< (lN m &&& 63) = lN (2 ^ m) := by decide +kernel
theorem ltX_g : ∀ n u, u < 2 ^ 62 → n ≤ 48 → ltX n (lN u) (lN (2 ^ n)) = (lN (u / Nat.gcd u (2 ^ n)), lN (2 ^ n / Nat.gcd u (2 ^ n)))
  | 0, u, hu, _ => by
    rw [ltX, Nat.pow_zero, Nat.gcd_one_right, Nat.div_one, Nat.div_one]
  | n + 1, u, hu, hn => by
    have hp : 2 ^ (n + 1) ≤ 2 ^ 48 := Nat.pow_le_pow_right (by omega) hn
    have hp2 : 2 ^ (n + 1) = 2 * 2 ^ n := by rw [Nat.pow_succ]; omega
    rw [ltX, lq_and1 (by omega)]
    have hc : (lg_cmp (lN (u % 2)) (lN 0) = 0) ↔ u % 2 = 0 := by rw [lg_cmp_eq, lq_inj (by omega) (by omega)]
    by_cases h : u % 2 = 0
    · rw [if_pos (hc.mpr h), lq_shr1 (by omega), lq_shr1 (by omega), show 2 ^ (n + 1) / 2 = 2 ^ n by omega, ltX_g n (u / 2) (by omega) (by omega)]
      have hu2 : u = 2 * (u / 2) := by omega
      have hg : Nat.gcd u (2 ^ (n + 1)) = 2 * Nat.gcd (u / 2) (2 ^ n) := by
        rw [hp2]
        conv => lhs; rw [hu2]
        exact Nat.gcd_mul_left _ _ _
      have e1 : u / Nat.gcd u (2 ^ (n + 1)) = u / 2 / Nat.gcd (u / 2) (2 ^ n) := by rw [hg, Nat.div_div_eq_div_mul]
      have e2 : 2 ^ (n + 1) / Nat.gcd u (2 ^ (n + 1)) = 2 ^ n / Nat.gcd (u / 2) (2 ^ n) := by
        rw [hg, ← Nat.div_div_eq_div_mul]
        congr 1
        omega
      rw [e1, e2]
    · rw [if_neg (fun q => h (hc.mp q))]
      have hg : Nat.gcd u (2 ^ (n + 1)) = 1 := by
        have h1 : Nat.Coprime u 2 := by
          have h3 : Nat.gcd u 2 = 1 := by
            rw [Nat.gcd_comm, Nat.gcd_rec, show u % 2 = 1 by omega]
            rfl
          exact h3
        exact Nat.Coprime.pow_right (n + 1) h1
      rw [hg, Nat.div_one, Nat.div_one]
def rfC (F : Nat → Nat) (q : Nat) (W : Nat → Nat) : Nat → Nat → Nat
  | 0 => fun i => W i * q
  | c + 1 => ad1 (rfC F q W c) (F c) (W c * (16 - q))
theorem rfC_ch {F : Nat → Nat} {q : Nat} {W : Nat → Nat} : ∀ c i, rfC F q W c i = chA F q W c i + (if c ≤ i then W i * q else 0)
  | 0, i => by
    rw [rfC, chA, if_pos (Nat.zero_le _)]
    show W i * q = 0 + W i * q
    omega
  | c + 1, i => by
    rw [rfC, chA]
    unfold ad1
    rw [rfC_ch c i]
    by_cases h1 : i = c
    · subst h1
      have h4 : ¬ (i + 1 ≤ i) := by omega
      have h5 : i ≤ i := Nat.le_refl _
      by_cases h2 : i = F i
      · simp only [if_pos h2, if_pos h5, if_neg h4, if_true]; omega
      · simp only [if_neg h2, if_pos h5, if_neg h4, if_true]; omega
    · by_cases h3 : c ≤ i
      · have h4 : c + 1 ≤ i := by omega
        by_cases h2 : i = F c
        · simp only [if_pos h2, if_pos h3, if_pos h4, if_neg h1]; omega
        · simp only [if_neg h2, if_pos h3, if_pos h4, if_neg h1]
      · have h4 : ¬ c + 1 ≤ i := by omega
        by_cases h2 : i = F c
        · simp only [if_pos h2, if_neg h3, if_neg h4, if_neg h1]; omega
        · simp only [if_neg h2, if_neg h3, if_neg h4, if_neg h1]
theorem chA_hi {F : Nat → Nat} {q k : Nat} {W : Nat → Nat} (hF : ∀ c, c < k → F c < k) : ∀ c, c ≤ k → ∀ i, k ≤ i → chA F q W c i = 0
  | 0, _, _, _ => rfl
  | c + 1, hc, i, hi => by
    have := hF c (by omega)
    rw [chA]
    unfold ad1
    rw [if_neg (by omega), if_neg (by omega)]
    exact chA_hi hF c (by omega) i hi
theorem chN_hi {F : Nat → Nat → Nat} {z : Nat → Nat} {q k a : Nat} (ha : a < k) : ∀ m, (∀ j, j < m → ∀ c, c < k → F c (z j) < k) → ∀ i, k ≤ i → chN F z q k a m i = 0
  | 0, _, i, hi => by
    show (if i = a then 1 else 0) = 0
    rw [if_neg (by omega)]
  | m + 1, h, i, hi => by
    rw [chN]
    exact chA_hi (h m (by omega)) k (Nat.le_refl _) i hi
theorem sm_ad {S : Nat → Nat} {j v : Nat} : ∀ n, j < n → sm (ad1 S j v) n = sm S n + v
  | 0, h => absurd h (by omega)
  | n + 1, h => by
    rw [sm, sm]
    by_cases e : j = n
    · subst e
      have : sm (ad1 S j v) j = sm S j := sm_cg j (fun i hi => by unfold ad1; rw [if_neg (by omega)])
      rw [this]
      unfold ad1
      rw [if_pos rfl]
      omega
    · rw [sm_ad n (by omega)]
      unfold ad1
      rw [if_neg (fun q => e q.symm)]
      omega
theorem sm_z : ∀ n, sm (fun _ => 0) n = 0
  | 0 => rfl
  | n + 1 => by rw [sm, sm_z n]
theorem sm_chA {F : Nat → Nat} {q k : Nat} {W : Nat → Nat} (hq : q ≤ 16) (hF : ∀ c, c < k → F c < k) : ∀ c, c ≤ k → sm (chA F q W c) k = 16 * sm W c
  | 0, _ => by rw [chA, sm, sm_z]
  | c + 1, hc => by
    rw [chA, sm_ad k (hF c (by omega)), sm_ad k (by omega), sm_chA hq hF c (by omega), sm]
    have : W c * q + W c * (16 - q) = W c * 16 := by rw [← Nat.mul_add]; congr 1; omega
    omega
theorem sm_chN {F : Nat → Nat → Nat} {z : Nat → Nat} {q k a : Nat} (hq : q ≤ 16) (ha : a < k) : ∀ m, (∀ j, j < m → ∀ c, c < k → F c (z j) < k) → sm (chN F z q k a m) k = 16 ^ m
  | 0, _ => by
    rw [chN]
    have : (fun i => if i = a then 1 else 0) = ad1 (fun _ => 0) a 1 := by
      funext i
      unfold ad1
      split <;> rfl
    rw [this, sm_ad k ha, sm_z]
  | m + 1, h => by
    rw [chN, sm_chA hq (h m (by omega)) k (Nat.le_refl _), sm_chN hq ha m (fun j hj => h j (by omega)), Nat.pow_succ]
    omega
theorem sm_ge {D : Nat → Nat} : ∀ n i, i < n → D i ≤ sm D n
  | 0, i, h => absurd h (by omega)
  | n + 1, i, h => by
    rw [sm]
    by_cases e : i = n
    · subst e; omega
    · have := sm_ge (D := D) n i (by omega)
      omega
section
variable {sc : Nat × (Nat → Int32)} {d n cc ss : Nat} {h : fx_H} {f : Nat → va_E} {Q : fx_R → Prop} {I : Nat → Int32} {A : Nat → Nat → Int32} {L : Nat → Nat → Int64} {t : Tn} {s : Sn} {p : Pw}
set_option maxHeartbeats 1000000 in
theorem mo_least {u b hf : Nat} (hu : u < 2 ^ 62) (hb : b < 2 ^ 62) (hb0 : 0 < b) (hh : hf ≤ 1) (hq : Q (.inl (some (.long (if hf = 0 then lN (u / Nat.gcd u b) else lN (b / Nat.gcd u b)))), h)) : wM sc (d + 1) 294 [.long (lN u), .long (lN b), .int (nI hf)] h Q := by
  have g0 : 0 < Nat.gcd u b := Nat.gcd_pos_of_pos_right _ hb0
  have gle : Nat.gcd u b ≤ b := Nat.gcd_le_right _ hb0
  have loop : ∀ (N x y : Nat) (v9 v10 : Value), y < N → x < 2 ^ 62 → y < 2 ^ 62 → Nat.gcd x y = Nat.gcd u b → wC sc d (pg_hd 294) cm_294 cb_294_4 [.long (lN u), fx_U, .long (lN b), fx_U, .int (nI hf), .long (lN x), fx_U, .long (lN y), fx_U, v9, v10] [] h Q := by
    intro N
    induction N with
    | zero => intro x y v9 v10 hN; omega
    | succ N ih =>
      intro x y v9 v10 hN hx hy hg
      by_cases hy0 : y = 0
      · subst hy0
        rw [Nat.gcd_zero_right] at hg
        have c1 : (lg_cmp (lN 0) (lN 0) = 0) = True := eq_true ((lg_cmp_eq _ _).mpr rfl)
        have nz : ¬ lN (Nat.gcd u b) = 0 := fun e => by
          have := (lq_inj (a := Nat.gcd u b) (b := 0) (by omega) (by omega)).mp e
          omega
        have d1 : lN u / lN (Nat.gcd u b) = lN (u / Nat.gcd u b) := lq_div (by omega) (by omega)
        have d2 : lN b / lN (Nat.gcd u b) = lN (b / Nat.gcd u b) := lq_div (by omega) (by omega)
        rw [hg]
        unfold cb_294_4
        rcases (show hf = 0 ∨ hf = 1 by omega) with rfl | rfl
        · rw [if_pos rfl] at hq
          simp (disch := omega) only [cb_294_0, cb_294_8, cb_294_17, cb_294_19, cb_294_21, cb_294_22, jb_294_4, jb_294_8, jb_294_17, jb_294_19, jb_294_21, jb_294_22, wC_goto, wC_iconst, wC_ldc2, wC_ldc, wC_getstatic, wC_iadd, wC_isub, wC_imul, wC_iand, wC_ior, wC_ixor, wC_ishl, wC_ishr, wC_iushr, wC_ladd, wC_lmul, wC_land, wC_lcmp, wC_lshl, wC_lshr, wC_i2l, wC_i2b, wC_i2c, wC_popi, wC_popa, wC_dupi, wC_dupa, wC_dup2, wC_idiv, wC_irem, wC_ldiv, wC_lrem, wr_iload, wr_lload, wr_aload, wC_istore, wC_astore, wC_lstore, wr_iinc, wC_icmp_eq, wC_icmp_ne, wC_icmp_lt, wC_icmp_ge, wC_icmp_gt, wC_icmp_le, wC_ifc_eq, wC_ifc_ne, wC_ifc_lt, wC_ifc_ge, wC_ifc_gt, wC_ifc_le, wC_tab, wr_getf, wr_putf, wr_iaload, wr_baload, wr_laload, wr_iastore, wr_bastore, wr_lastore, wr_aaload, wr_alen, wC_slen, wC_sald, wC_new, wC_newa, wC_newq, wC_oinit, wC_math, wC_iret, wC_lret, wC_vret, wC_zret, wC_cret, wC_jsr, wi_c_, fx_low, List.map_cons, List.map_nil, List.sum_cons, List.sum_nil, fl_int, fl_ref, fl_ra, fl_long, decide_eq_true_eq, decide_true, kk_ltT, kk_ltF, kk_leT, kk_leF, kk_eqT, kk_eqF, kk_0T, kk_0F, kk_g0T, kk_g0F, kk_l0T, kk_l0F, kk_inT, kk_lt0, kk_ge0, kk_m1, kk_m1', kk_m1lt, kk_m1le, kk_m1ltF, kk_m1leT, kk_mm, kk_mm2, kk_mm3, kk_mm4, kk_mm5, kk_cl, kk_sub, kk_p1, kk_shl, kk_shr, kk_and, kk_or, kk_xor, kk_rem2, kk_div, kk_len, kk_z1, kk_ln, kk_i2l, lN_add, lN_mul, kk_tb, kk_b0, kk_b1, nI_add, pk_mul, va_up_ne', va_up_se, va_up_up, ne_eq, not_false_eq_true, not_true_eq_false, false_or, or_false, eq_self, Nat.reducePow, Nat.reduceSub, Nat.reduceBEq, Nat.one_mul, Nat.zero_add, Nat.add_zero, Nat.zero_mul, Nat.mul_zero, cn_m20, cn_m8, cn_m1, cn_0, cn_1, cn_2, cn_3, cn_4, cn_5, cn_6, cn_7, cn_8, cn_9, cn_10, cn_11, cn_12, cn_15, cn_16, cn_20, cn_24, cn_30, cn_31, cn_32, cn_33, cn_34, cn_35, cn_37, cn_40, cn_41, cn_42, cn_43, cn_44, cn_45, cn_47, cn_48, cn_57, cn_59, cn_60, cn_63, cn_91, cn_93, cn_96, cn_97, cn_99, cn_100, cn_122, cn_128, cn_150, cn_200, cn_255, cn_400, cn_560, cn_596, cn_600, cn_999, cn_1024, cn_1788, cn_4096, cn_8400, cn_9999, cn_10000, cn_12345, cn_32767, cn_999999, cn_252645135, cn_858993459, cn_1103515245, cn_1431655765, cn_2147483647, wK_v, wK_r, List.getElem?_cons_zero, List.getElem?_cons_succ, Int.reduceToNat, Nat.reduceDiv, Nat.reduceMod, Nat.reduceMul, Nat.reduceAdd, Nat.reduceLT, Nat.reduceLeDiff, Nat.reduceEqDiff, fx_set, fx_fix, fx_fit, List.length_cons, List.length_nil, List.set_cons_zero, List.set_cons_succ, and_true, true_and, if_true, if_false, ↓reduceIte, and_self, true_or, or_true, not_false_iff, not_true, wr_ii, wr_is, wr_iv, wg_i_, wg_l_, wg_a1, wg_a2, wg_o_, wg_n_, wg_f_, wg_s_, wg_I_, wg_L_, wg_A_, wg_si_, wg_sb_, wg_sl_, wg_m_, wg_c_, wg_t_, List.drop_succ_cons, List.drop_zero, List.take_succ_cons, List.take_zero, List.reverse_cons, List.reverse_nil, List.nil_append, List.cons_append, c1, nz, d1]
          exact hq
        · rw [if_neg (by omega)] at hq
          simp (disch := omega) only [cb_294_0, cb_294_8, cb_294_17, cb_294_19, cb_294_21, cb_294_22, jb_294_4, jb_294_8, jb_294_17, jb_294_19, jb_294_21, jb_294_22, wC_goto, wC_iconst, wC_ldc2, wC_ldc, wC_getstatic, wC_iadd, wC_isub, wC_imul, wC_iand, wC_ior, wC_ixor, wC_ishl, wC_ishr, wC_iushr, wC_ladd, wC_lmul, wC_land, wC_lcmp, wC_lshl, wC_lshr, wC_i2l, wC_i2b, wC_i2c, wC_popi, wC_popa, wC_dupi, wC_dupa, wC_dup2, wC_idiv, wC_irem, wC_ldiv, wC_lrem, wr_iload, wr_lload, wr_aload, wC_istore, wC_astore, wC_lstore, wr_iinc, wC_icmp_eq, wC_icmp_ne, wC_icmp_lt, wC_icmp_ge, wC_icmp_gt, wC_icmp_le, wC_ifc_eq, wC_ifc_ne, wC_ifc_lt, wC_ifc_ge, wC_ifc_gt, wC_ifc_le, wC_tab, wr_getf, wr_putf, wr_iaload, wr_baload, wr_laload, wr_iastore, wr_bastore, wr_lastore, wr_aaload, wr_alen, wC_slen, wC_sald, wC_new, wC_newa, wC_newq, wC_oinit, wC_math, wC_iret, wC_lret, wC_vret, wC_zret, wC_cret, wC_jsr, wi_c_, fx_low, List.map_cons, List.map_nil, List.sum_cons, List.sum_nil, fl_int, fl_ref, fl_ra, fl_long, decide_eq_true_eq, decide_true, kk_ltT, kk_ltF, kk_leT, kk_leF, kk_eqT, kk_eqF, kk_0T, kk_0F, kk_g0T, kk_g0F, kk_l0T, kk_l0F, kk_inT, kk_lt0, kk_ge0, kk_m1, kk_m1', kk_m1lt, kk_m1le, kk_m1ltF, kk_m1leT, kk_mm, kk_mm2, kk_mm3, kk_mm4, kk_mm5, kk_cl, kk_sub, kk_p1, kk_shl, kk_shr, kk_and, kk_or, kk_xor, kk_rem2, kk_div, kk_len, kk_z1, kk_ln, kk_i2l, lN_add, lN_mul, kk_tb, kk_b0, kk_b1, nI_add, pk_mul, va_up_ne', va_up_se, va_up_up, ne_eq, not_false_eq_true, not_true_eq_false, false_or, or_false, eq_self, Nat.reducePow, Nat.reduceSub, Nat.reduceBEq, Nat.one_mul, Nat.zero_add, Nat.add_zero, Nat.zero_mul, Nat.mul_zero, cn_m20, cn_m8, cn_m1, cn_0, cn_1, cn_2, cn_3, cn_4, cn_5, cn_6, cn_7, cn_8, cn_9, cn_10, cn_11, cn_12, cn_15, cn_16, cn_20, cn_24, cn_30, cn_31, cn_32, cn_33, cn_34, cn_35, cn_37, cn_40, cn_41, cn_42, cn_43, cn_44, cn_45, cn_47, cn_48, cn_57, cn_59, cn_60, cn_63, cn_91, cn_93, cn_96, cn_97, cn_99, cn_100, cn_122, cn_128, cn_150, cn_200, cn_255, cn_400, cn_560, cn_596, cn_600, cn_999, cn_1024, cn_1788, cn_4096, cn_8400, cn_9999, cn_10000, cn_12345, cn_32767, cn_999999, cn_252645135, cn_858993459, cn_1103515245, cn_1431655765, cn_2147483647, wK_v, wK_r, List.getElem?_cons_zero, List.getElem?_cons_succ, Int.reduceToNat, Nat.reduceDiv, Nat.reduceMod, Nat.reduceMul, Nat.reduceAdd, Nat.reduceLT, Nat.reduceLeDiff, Nat.reduceEqDiff, fx_set, fx_fix, fx_fit, List.length_cons, List.length_nil, List.set_cons_zero, List.set_cons_succ, and_true, true_and, if_true, if_false, ↓reduceIte, and_self, true_or, or_true, not_false_iff, not_true, wr_ii, wr_is, wr_iv, wg_i_, wg_l_, wg_a1, wg_a2, wg_o_, wg_n_, wg_f_, wg_s_, wg_I_, wg_L_, wg_A_, wg_si_, wg_sb_, wg_sl_, wg_m_, wg_c_, wg_t_, List.drop_succ_cons, List.drop_zero, List.take_succ_cons, List.take_zero, List.reverse_cons, List.reverse_nil, List.nil_append, List.cons_append, c1, nz, d2]
          exact hq
      · have c1 : (lg_cmp (lN y) (lN 0) = 0) = False := eq_false (fun e => by
          have := (lq_inj (a := y) (b := 0) (by omega) (by omega)).mp ((lg_cmp_eq _ _).mp e)
          omega)
        have nz : ¬ lN y = 0 := fun e => by
          have := (lq_inj (a := y) (b := 0) (by omega) (by omega)).mp e
          omega
        have r1 : lN x - lN x / lN y * lN y = lN (x % y) := lq_rem (by omega) (by omega)
        have lt := Nat.mod_lt x (show y > 0 by omega)
        have nx := ih y (x % y) (.long (lN (x % y))) fx_U (by omega) hy (by omega) (by rw [← hg, Nat.gcd_comm x y, Nat.gcd_rec y x, Nat.gcd_comm])
        unfold cb_294_4
        simp (disch := omega) only [cb_294_0, cb_294_8, cb_294_17, cb_294_19, cb_294_21, cb_294_22, jb_294_4, jb_294_8, jb_294_17, jb_294_19, jb_294_21, jb_294_22, wC_goto, wC_iconst, wC_ldc2, wC_ldc, wC_getstatic, wC_iadd, wC_isub, wC_imul, wC_iand, wC_ior, wC_ixor, wC_ishl, wC_ishr, wC_iushr, wC_ladd, wC_lmul, wC_land, wC_lcmp, wC_lshl, wC_lshr, wC_i2l, wC_i2b, wC_i2c, wC_popi, wC_popa, wC_dupi, wC_dupa, wC_dup2, wC_idiv, wC_irem, wC_ldiv, wC_lrem, wr_iload, wr_lload, wr_aload, wC_istore, wC_astore, wC_lstore, wr_iinc, wC_icmp_eq, wC_icmp_ne, wC_icmp_lt, wC_icmp_ge, wC_icmp_gt, wC_icmp_le, wC_ifc_eq, wC_ifc_ne, wC_ifc_lt, wC_ifc_ge, wC_ifc_gt, wC_ifc_le, wC_tab, wr_getf, wr_putf, wr_iaload, wr_baload, wr_laload, wr_iastore, wr_bastore, wr_lastore, wr_aaload, wr_alen, wC_slen, wC_sald, wC_new, wC_newa, wC_newq, wC_oinit, wC_math, wC_iret, wC_lret, wC_vret, wC_zret, wC_cret, wC_jsr, wi_c_, fx_low, List.map_cons, List.map_nil, List.sum_cons, List.sum_nil, fl_int, fl_ref, fl_ra, fl_long, decide_eq_true_eq, decide_true, kk_ltT, kk_ltF, kk_leT, kk_leF, kk_eqT, kk_eqF, kk_0T, kk_0F, kk_g0T, kk_g0F, kk_l0T, kk_l0F, kk_inT, kk_lt0, kk_ge0, kk_m1, kk_m1', kk_m1lt, kk_m1le, kk_m1ltF, kk_m1leT, kk_mm, kk_mm2, kk_mm3, kk_mm4, kk_mm5, kk_cl, kk_sub, kk_p1, kk_shl, kk_shr, kk_and, kk_or, kk_xor, kk_rem2, kk_div, kk_len, kk_z1, kk_ln, kk_i2l, lN_add, lN_mul, kk_tb, kk_b0, kk_b1, nI_add, pk_mul, va_up_ne', va_up_se, va_up_up, ne_eq, not_false_eq_true, not_true_eq_false, false_or, or_false, eq_self, Nat.reducePow, Nat.reduceSub, Nat.reduceBEq, Nat.one_mul, Nat.zero_add, Nat.add_zero, Nat.zero_mul, Nat.mul_zero, cn_m20, cn_m8, cn_m1, cn_0, cn_1, cn_2, cn_3, cn_4, cn_5, cn_6, cn_7, cn_8, cn_9, cn_10, cn_11, cn_12, cn_15, cn_16, cn_20, cn_24, cn_30, cn_31, cn_32, cn_33, cn_34, cn_35, cn_37, cn_40, cn_41, cn_42, cn_43, cn_44, cn_45, cn_47, cn_48, cn_57, cn_59, cn_60, cn_63, cn_91, cn_93, cn_96, cn_97, cn_99, cn_100, cn_122, cn_128, cn_150, cn_200, cn_255, cn_400, cn_560, cn_596, cn_600, cn_999, cn_1024, cn_1788, cn_4096, cn_8400, cn_9999, cn_10000, cn_12345, cn_32767, cn_999999, cn_252645135, cn_858993459, cn_1103515245, cn_1431655765, cn_2147483647, wK_v, wK_r, List.getElem?_cons_zero, List.getElem?_cons_succ, Int.reduceToNat, Nat.reduceDiv, Nat.reduceMod, Nat.reduceMul, Nat.reduceAdd, Nat.reduceLT, Nat.reduceLeDiff, Nat.reduceEqDiff, fx_set, fx_fix, fx_fit, List.length_cons, List.length_nil, List.set_cons_zero, List.set_cons_succ, and_true, true_and, if_true, if_false, ↓reduceIte, and_self, true_or, or_true, not_false_iff, not_true, wr_ii, wr_is, wr_iv, wg_i_, wg_l_, wg_a1, wg_a2, wg_o_, wg_n_, wg_f_, wg_s_, wg_I_, wg_L_, wg_A_, wg_si_, wg_sb_, wg_sl_, wg_m_, wg_c_, wg_t_, List.drop_succ_cons, List.drop_zero, List.take_succ_cons, List.take_zero, List.reverse_cons, List.reverse_nil, List.nil_append, List.cons_append, c1, nz, r1]
        exact nx
  simp (disch := omega) only [ei_294, cb_294_0, wC_goto, wC_iconst, wC_ldc2, wC_ldc, wC_getstatic, wC_iadd, wC_isub, wC_imul, wC_iand, wC_ior, wC_ixor, wC_ishl, wC_ishr, wC_iushr, wC_ladd, wC_lmul, wC_land, wC_lcmp, wC_lshl, wC_lshr, wC_i2l, wC_i2b, wC_i2c, wC_popi, wC_popa, wC_dupi, wC_dupa, wC_dup2, wC_idiv, wC_irem, wC_ldiv, wC_lrem, wr_iload, wr_lload, wr_aload, wC_istore, wC_astore, wC_lstore, wr_iinc, wC_icmp_eq, wC_icmp_ne, wC_icmp_lt, wC_icmp_ge, wC_icmp_gt, wC_icmp_le, wC_ifc_eq, wC_ifc_ne, wC_ifc_lt, wC_ifc_ge, wC_ifc_gt, wC_ifc_le, wC_tab, wr_getf, wr_putf, wr_iaload, wr_baload, wr_laload, wr_iastore, wr_bastore, wr_lastore, wr_aaload, wr_alen, wC_slen, wC_sald, wC_new, wC_newa, wC_newq, wC_oinit, wC_math, wC_iret, wC_lret, wC_vret, wC_zret, wC_cret, wC_jsr, wi_c_, fx_low, List.map_cons, List.map_nil, List.sum_cons, List.sum_nil, fl_int, fl_ref, fl_ra, fl_long, decide_eq_true_eq, decide_true, kk_ltT, kk_ltF, kk_leT, kk_leF, kk_eqT, kk_eqF, kk_0T, kk_0F, kk_g0T, kk_g0F, kk_l0T, kk_l0F, kk_inT, kk_lt0, kk_ge0, kk_m1, kk_m1', kk_m1lt, kk_m1le, kk_m1ltF, kk_m1leT, kk_mm, kk_mm2, kk_mm3, kk_mm4, kk_mm5, kk_cl, kk_sub, kk_p1, kk_shl, kk_shr, kk_and, kk_or, kk_xor, kk_rem2, kk_div, kk_len, kk_z1, kk_ln, kk_i2l, lN_add, lN_mul, kk_tb, kk_b0, kk_b1, nI_add, pk_mul, va_up_ne', va_up_se, va_up_up, ne_eq, not_false_eq_true, not_true_eq_false, false_or, or_false, eq_self, Nat.reducePow, Nat.reduceSub, Nat.reduceBEq, Nat.one_mul, Nat.zero_add, Nat.add_zero, Nat.zero_mul, Nat.mul_zero, cn_m20, cn_m8, cn_m1, cn_0, cn_1, cn_2, cn_3, cn_4, cn_5, cn_6, cn_7, cn_8, cn_9, cn_10, cn_11, cn_12, cn_15, cn_16, cn_20, cn_24, cn_30, cn_31, cn_32, cn_33, cn_34, cn_35, cn_37, cn_40, cn_41, cn_42, cn_43, cn_44, cn_45, cn_47, cn_48, cn_57, cn_59, cn_60, cn_63, cn_91, cn_93, cn_96, cn_97, cn_99, cn_100, cn_122, cn_128, cn_150, cn_200, cn_255, cn_400, cn_560, cn_596, cn_600, cn_999, cn_1024, cn_1788, cn_4096, cn_8400, cn_9999, cn_10000, cn_12345, cn_32767, cn_999999, cn_252645135, cn_858993459, cn_1103515245, cn_1431655765, cn_2147483647, wK_v, wK_r, List.getElem?_cons_zero, List.getElem?_cons_succ, Int.reduceToNat, Nat.reduceDiv, Nat.reduceMod, Nat.reduceMul, Nat.reduceAdd, Nat.reduceLT, Nat.reduceLeDiff, Nat.reduceEqDiff, fx_set, fx_fix, fx_fit, List.length_cons, List.length_nil, List.set_cons_zero, List.set_cons_succ, and_true, true_and, if_true, if_false, ↓reduceIte, and_self, true_or, or_true, not_false_iff, not_true, wr_ii, wr_is, wr_iv, wg_i_, wg_l_, wg_a1, wg_a2, wg_o_, wg_n_, wg_f_, wg_s_, wg_I_, wg_L_, wg_A_, wg_si_, wg_sb_, wg_sl_, wg_m_, wg_c_, wg_t_, List.drop_succ_cons, List.drop_zero, List.take_succ_cons, List.take_zero, List.reverse_cons, List.reverse_nil, List.nil_append, List.cons_append]
  exact loop (b + 1) u b _ _ (by omega) hu hb rfl
end
