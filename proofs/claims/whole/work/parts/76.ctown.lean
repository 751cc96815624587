/-! ===== the class reads a town ===== -/
/-- which clause the word is -/
def kdT (T : Nat → Nat) (e p : Nat) : Nat := if wis T e p [99, 111, 114, 110, 101, 114] = true then 1 else if wis T e p [119, 97, 121] = true then 2 else if wis T e p [109, 97, 110] = true then 3 else if wis T e p [98, 114, 101, 97, 116, 104] = true then 4 else 0
/-- a clause behind its word: where it ends, what is told then -/
def clP (T : Nat → Nat) (e : Nat) (fl : Bool) (q : Nat) (a : Tn) : (Nat × Nat) ⊕ (Nat × Tn) :=
  if kdT T e q = 0 then .inl (1, q) else if fl = true ∨ (kdT T e q = 1 ∧ a.k = 10) ∨ (kdT T e q = 3 ∧ a.m = 5) then .inl (3, q)
  else if kdT T e q = 1 then (match rdn T e (we T e q) 0 10 with
    | .inl x => .inl x
    | .inr (v, r) => .inr (r, (a.k + 1, a.m, a.air, va_up a.bl a.k v, a.wy, a.st)))
  else if kdT T e q = 2 then (match rdn T e (we T e q) 0 4 with
    | .inl x => .inl x
    | .inr (w, r) => (match rdn T e r 0 a.k with
      | .inl x => .inl x
      | .inr (b, r2) => (match rdn T e r2 0 a.k with
        | .inl x => .inl x
        | .inr (c, r3) => .inr (r3, (a.k, a.m, a.air, a.bl, (fun x v => if x = b ∧ v = w then c else a.wy x v), a.st)))))
  else if kdT T e q = 3 then (match rdn T e (we T e q) 0 a.k with
    | .inl x => .inl x
    | .inr (v, r) => .inr (r, (a.k, a.m + 1, a.air, a.bl, a.wy, va_up a.st a.m v)))
  else (match rdn T e (we T e q) 0 201 with
    | .inl x => .inl x
    | .inr (v, r) => .inr (r, (a.k, a.m, nI v, a.bl, a.wy, a.st)))
def twP (T : Nat → Nat) (e : Nat) : Nat → Nat → Tn → (Nat × Nat) ⊕ Tn
  | 0, _, a => .inr a
  | j + 1, p, a => if nx T e p < e then (match clP T e (j == 0) (nx T e p) a with
    | .inl x => .inl x
    | .inr (r, a2) => if nx T e r < e ∧ T (nx T e r) = 59 then twP T e j (nx T e r + 1) a2 else .inl (1, nx T e r)) else .inr a
def tw0 : Tn := (0, 0, nI 60, fun _ => 0, fun c _ => c, fun _ => 0)
def tn_p (a : Tn) : Prop := tn_ok a ∧ ∀ c w, a.k ≤ c → a.wy c w = c
theorem tn_p0 : tn_p tw0 := ⟨⟨Nat.zero_le _, Nat.zero_le _, ⟨60, by omega, rfl⟩, fun c hc => absurd hc (Nat.not_lt_zero c), fun c hc => absurd hc (Nat.not_lt_zero c), fun c hc => absurd hc (Nat.not_lt_zero c)⟩, fun c w _ => rfl⟩
theorem clP_ok {T : Nat → Nat} {e q r : Nat} {fl : Bool} {a a2 : Tn} (h : clP T e fl q a = .inr (r, a2)) (ha : tn_p a) (hq : q ≤ e) : tn_p a2 ∧ q ≤ r ∧ r ≤ e := by
  have hw := we_le (T := T) hq
  have hw2 := we_ge T e q
  obtain ⟨⟨a1, a2', a3, a4, a5, a6⟩, a7⟩ := ha
  unfold clP at h
  split at h
  · cases h
  · split at h
    · cases h
    · rename_i h0 h1
      split at h
      · rename_i h2
        split at h
        · cases h
        · rename_i v r' hr
          cases h
          obtain ⟨r1, r2, r3, r4, r5, r6⟩ := rdn_inr hr hw
          have hk : a.k < 10 := by
            rcases Nat.lt_or_ge a.k 10 with z | z
            · exact z
            · exact absurd (Or.inr (Or.inl ⟨h2, by omega⟩)) h1
          refine ⟨⟨⟨by show a.k + 1 ≤ 10; omega, a2', a3, fun c hc => ?_, fun c hc w hw4 => ?_, fun m hm => ?_⟩, fun c w hc => ?_⟩, by omega, r4⟩
          · have hc : c < a.k + 1 := hc
            show va_up a.bl a.k v c < 10
            by_cases hck : c = a.k
            · rw [hck, va_up_se]; exact r2
            · rw [va_up_ne' hck]; exact a4 c (by omega)
          · have hc : c < a.k + 1 := hc
            show a.wy c w < a.k + 1
            by_cases hck : c = a.k
            · rw [a7 c w (by omega)]; omega
            · have := a5 c (by omega) w hw4; omega
          · have := a6 m hm
            show a.st m < a.k + 1
            omega
          · have hc : a.k + 1 ≤ c := hc
            exact a7 c w (by omega)
      · split at h
        · split at h
          · cases h
          · rename_i w r' hr
            split at h
            · cases h
            · rename_i b r2' hr2
              split at h
              · cases h
              · rename_i c r3' hr3
                cases h
                obtain ⟨r1, r2, r3, r4, r5, r6⟩ := rdn_inr hr hw
                obtain ⟨s1, s2, s3, s4, s5, s6⟩ := rdn_inr hr2 (by omega)
                obtain ⟨t1, t2, t3, t4, t5, t6⟩ := rdn_inr hr3 (by omega)
                refine ⟨⟨⟨a1, a2', a3, a4, fun x hx v hv => ?_, a6⟩, fun x v hx => ?_⟩, by omega, t4⟩
                · show (if x = b ∧ v = w then c else a.wy x v) < a.k
                  split
                  · exact t2
                  · exact a5 x hx v hv
                · have hx : a.k ≤ x := hx
                  show (if x = b ∧ v = w then c else a.wy x v) = x
                  rw [if_neg (by omega)]
                  exact a7 x v hx
        · split at h
          · rename_i h3
            split at h
            · cases h
            · rename_i v r' hr
              cases h
              obtain ⟨r1, r2, r3, r4, r5, r6⟩ := rdn_inr hr hw
              have hm5 : a.m < 5 := by
                rcases Nat.lt_or_ge a.m 5 with z | z
                · exact z
                · exact absurd (Or.inr (Or.inr ⟨h3, by omega⟩)) h1
              refine ⟨⟨⟨a1, by show a.m + 1 ≤ 5; omega, a3, a4, a5, fun m hm => ?_⟩, a7⟩, by omega, r4⟩
              have hm : m < a.m + 1 := hm
              show va_up a.st a.m v m < a.k
              by_cases hmm : m = a.m
              · rw [hmm, va_up_se]; exact r2
              · rw [va_up_ne' hmm]; exact a6 m (by omega)
          · split at h
            · cases h
            · rename_i v r' hr
              cases h
              obtain ⟨r1, r2, r3, r4, r5, r6⟩ := rdn_inr hr hw
              exact ⟨⟨⟨a1, a2', ⟨v, by omega, rfl⟩, a4, a5, a6⟩, a7⟩, by omega, r4⟩
/-- a town's cells, whatever they hold -/
def tn_sh (f : Nat → va_E) (b : Nat) : Prop := ∃ k m br, k ≤ 10 ∧ m ≤ 5 ∧ f b = tn_O k m br (b + 1) (b + 2) (b + 3) ∧ (∃ g, f (b + 1) = ar_I 10 g) ∧ (∃ g, f (b + 2) = ar_I 40 g) ∧ (∃ g, f (b + 3) = ar_I 5 g)
theorem tn_at_sh {f : Nat → va_E} {b : Nat} {t : Tn} (h : tn_at f b t) (hk : tn_ok t) : tn_sh f b := by
  obtain ⟨h1, ⟨g2, h2, _⟩, ⟨g3, h3, _⟩, ⟨g4, h4, _⟩⟩ := h
  exact ⟨_, _, _, hk.1, hk.2.1, h1, ⟨g2, h2⟩, ⟨g3, h3⟩, ⟨g4, h4⟩⟩
theorem tn_sh_fr {f f' : Nat → va_E} {b : Nat} (h : tn_sh f b) (hf : ∀ c, b ≤ c → c ≤ b + 3 → f' c = f c) : tn_sh f' b := by
  obtain ⟨k, m, br, h1, h2, h3, h4, h5, h6⟩ := h
  exact ⟨k, m, br, h1, h2, by rw [hf _ (by omega) (by omega)]; exact h3, by rw [hf _ (by omega) (by omega)]; exact h4, by rw [hf _ (by omega) (by omega)]; exact h5, by rw [hf _ (by omega) (by omega)]; exact h6⟩
section
variable {sc : Nat × (Nat → Int32)} {d n cc ss : Nat} {h : fx_H} {f : Nat → va_E} {Q : fx_R → Prop} {hn : Nat → Option (Nat × Nat)} {cdm k : List Instr} {ls st : List Value}
variable {T : Nat → Nat} {e : Nat} {z : Zt}
set_option maxHeartbeats 1000000 in
theorem sp_kindT {q : Nat} (hz : ct f T e (.inr (we T e q, q))) : wM sc (d + 6) 46 [.ref 1] (n, cc, ss, f) Q ↔ Q (.inl (some (.int (nI (kdT T e q)))), (n, cc, ss, f)) := by
  obtain ⟨fs, ho⟩ := ct_o hz
  have hw : ∀ p mq, (.inr (we T e q, q) : Zt) = .inr (p, mq) → p = we T e mq := by intro p mq h; cases h; rfl
  have A1 := fun Q => sp_wi (sc := sc) (d := d) (n := n) (cc := cc) (ss := ss) (Q := Q) (j := 1) rfl (by decide) (by decide) hz hw
  have A2 := fun Q => sp_wi (sc := sc) (d := d) (n := n) (cc := cc) (ss := ss) (Q := Q) (j := 2) rfl (by decide) (by decide) hz hw
  have A3 := fun Q => sp_wi (sc := sc) (d := d) (n := n) (cc := cc) (ss := ss) (Q := Q) (j := 3) rfl (by decide) (by decide) hz hw
  have A4 := fun Q => sp_wi (sc := sc) (d := d) (n := n) (cc := cc) (ss := ss) (Q := Q) (j := 4) rfl (by decide) (by decide) hz hw
  simp only [wiz, Nat.reduceMul, Nat.reduceAdd] at A1 A2 A3 A4
  unfold kdT
  cases w1 : wis T e q [99, 111, 114, 110, 101, 114]
  · rw [w1] at A1
    cases w2 : wis T e q [119, 97, 121]
    · rw [w2] at A2
      cases w3 : wis T e q [109, 97, 110]
      · rw [w3] at A3
        cases w4 : wis T e q [98, 114, 101, 97, 116, 104]
        · rw [w4] at A4
          simp (disch := omega) only [cb_46_0, cb_46_4, cb_46_6, cb_46_10, cb_46_12, cb_46_16, cb_46_18, cb_46_22, cb_46_24, cb_46_25, jb_46_4, jb_46_6, jb_46_10, jb_46_12, jb_46_16, jb_46_18, jb_46_22, jb_46_24, jb_46_25, ei_46, wt_46, wC_goto, wC_iconst, wC_ldc2, wC_ldc, wC_getstatic, wC_iadd, wC_isub, wC_imul, wC_iand, wC_ior, wC_ixor, wC_ishl, wC_ishr, wC_iushr, wC_ladd, wC_lmul, wC_land, wC_lcmp, wC_lshl, wC_lshr, wC_i2l, wC_i2b, wC_i2c, wC_popi, wC_popa, wC_dupi, wC_dupa, wC_dup2, wC_idiv, wC_irem, wC_ldiv, wC_lrem, wr_iload, wr_lload, wr_aload, wC_istore, wC_astore, wC_lstore, wr_iinc, wC_icmp_eq, wC_icmp_ne, wC_icmp_lt, wC_icmp_ge, wC_icmp_gt, wC_icmp_le, wC_ifc_eq, wC_ifc_ne, wC_ifc_lt, wC_ifc_ge, wC_ifc_gt, wC_ifc_le, wC_tab, wr_getf, wr_putf, wr_iaload, wr_baload, wr_laload, wr_iastore, wr_bastore, wr_lastore, wr_aaload, wr_alen, wC_slen, wC_sald, wC_new, wC_newa, wC_newq, wC_oinit, wC_math, wC_iret, wC_lret, wC_vret, wC_zret, wC_cret, wC_jsr, wi_c_, fx_low, List.map_cons, List.map_nil, List.sum_cons, List.sum_nil, fl_int, fl_ref, fl_ra, fl_long, decide_eq_true_eq, decide_true, kk_ltT, kk_ltF, kk_leT, kk_leF, kk_eqT, kk_eqF, kk_0T, kk_0F, kk_g0T, kk_g0F, kk_l0T, kk_l0F, kk_inT, kk_lt0, kk_ge0, kk_m1, kk_m1', kk_m1lt, kk_m1le, kk_m1ltF, kk_m1leT, kk_mm, kk_mm2, kk_mm3, kk_mm4, kk_mm5, kk_cl, kk_sub, kk_p1, kk_shl, kk_shr, kk_and, kk_or, kk_xor, kk_rem2, kk_div, kk_len, kk_z1, kk_ln, kk_i2l, lN_add, lN_mul, kk_tb, kk_b0, kk_b1, nI_add, pk_mul, va_up_ne', va_up_se, va_up_up, ne_eq, not_false_eq_true, not_true_eq_false, false_or, or_false, eq_self, Nat.reducePow, Nat.reduceSub, Nat.reduceBEq, Nat.one_mul, Nat.zero_add, Nat.add_zero, Nat.zero_mul, Nat.mul_zero, cn_m20, cn_m8, cn_m1, cn_0, cn_1, cn_2, cn_3, cn_4, cn_5, cn_6, cn_7, cn_8, cn_9, cn_10, cn_11, cn_12, cn_15, cn_16, cn_20, cn_24, cn_30, cn_31, cn_32, cn_33, cn_34, cn_35, cn_37, cn_40, cn_41, cn_42, cn_43, cn_44, cn_45, cn_47, cn_48, cn_57, cn_59, cn_60, cn_63, cn_91, cn_93, cn_96, cn_97, cn_99, cn_100, cn_122, cn_128, cn_150, cn_200, cn_255, cn_400, cn_560, cn_596, cn_600, cn_999, cn_1024, cn_1788, cn_4096, cn_8400, cn_9999, cn_10000, cn_12345, cn_32767, cn_999999, cn_252645135, cn_858993459, cn_1103515245, cn_1431655765, cn_2147483647, wK_v, wK_r, List.getElem?_cons_zero, List.getElem?_cons_succ, Int.reduceToNat, Nat.reduceDiv, Nat.reduceMod, Nat.reduceMul, Nat.reduceAdd, Nat.reduceLT, Nat.reduceLeDiff, Nat.reduceEqDiff, fx_set, fx_fix, fx_fit, List.length_cons, List.length_nil, List.set_cons_zero, List.set_cons_succ, and_true, true_and, if_true, if_false, ↓reduceIte, and_self, true_or, or_true, not_false_iff, not_true, wr_ii, wr_is, wr_iv, wg_i_, wg_l_, wg_a1, wg_a2, wg_o_, wg_n_, wg_f_, wg_s_, wg_I_, wg_L_, wg_A_, wg_si_, wg_sb_, wg_sl_, wg_m_, wg_c_, wg_t_, List.drop_succ_cons, List.drop_zero, List.take_succ_cons, List.take_zero, List.reverse_cons, List.reverse_nil, List.nil_append, List.cons_append, ho, A1, A2, A3, A4, Bool.toNat_false, Bool.false_eq_true]
        · rw [w4] at A4
          simp (disch := omega) only [cb_46_0, cb_46_4, cb_46_6, cb_46_10, cb_46_12, cb_46_16, cb_46_18, cb_46_22, cb_46_24, cb_46_25, jb_46_4, jb_46_6, jb_46_10, jb_46_12, jb_46_16, jb_46_18, jb_46_22, jb_46_24, jb_46_25, ei_46, wt_46, wC_goto, wC_iconst, wC_ldc2, wC_ldc, wC_getstatic, wC_iadd, wC_isub, wC_imul, wC_iand, wC_ior, wC_ixor, wC_ishl, wC_ishr, wC_iushr, wC_ladd, wC_lmul, wC_land, wC_lcmp, wC_lshl, wC_lshr, wC_i2l, wC_i2b, wC_i2c, wC_popi, wC_popa, wC_dupi, wC_dupa, wC_dup2, wC_idiv, wC_irem, wC_ldiv, wC_lrem, wr_iload, wr_lload, wr_aload, wC_istore, wC_astore, wC_lstore, wr_iinc, wC_icmp_eq, wC_icmp_ne, wC_icmp_lt, wC_icmp_ge, wC_icmp_gt, wC_icmp_le, wC_ifc_eq, wC_ifc_ne, wC_ifc_lt, wC_ifc_ge, wC_ifc_gt, wC_ifc_le, wC_tab, wr_getf, wr_putf, wr_iaload, wr_baload, wr_laload, wr_iastore, wr_bastore, wr_lastore, wr_aaload, wr_alen, wC_slen, wC_sald, wC_new, wC_newa, wC_newq, wC_oinit, wC_math, wC_iret, wC_lret, wC_vret, wC_zret, wC_cret, wC_jsr, wi_c_, fx_low, List.map_cons, List.map_nil, List.sum_cons, List.sum_nil, fl_int, fl_ref, fl_ra, fl_long, decide_eq_true_eq, decide_true, kk_ltT, kk_ltF, kk_leT, kk_leF, kk_eqT, kk_eqF, kk_0T, kk_0F, kk_g0T, kk_g0F, kk_l0T, kk_l0F, kk_inT, kk_lt0, kk_ge0, kk_m1, kk_m1', kk_m1lt, kk_m1le, kk_m1ltF, kk_m1leT, kk_mm, kk_mm2, kk_mm3, kk_mm4, kk_mm5, kk_cl, kk_sub, kk_p1, kk_shl, kk_shr, kk_and, kk_or, kk_xor, kk_rem2, kk_div, kk_len, kk_z1, kk_ln, kk_i2l, lN_add, lN_mul, kk_tb, kk_b0, kk_b1, nI_add, pk_mul, va_up_ne', va_up_se, va_up_up, ne_eq, not_false_eq_true, not_true_eq_false, false_or, or_false, eq_self, Nat.reducePow, Nat.reduceSub, Nat.reduceBEq, Nat.one_mul, Nat.zero_add, Nat.add_zero, Nat.zero_mul, Nat.mul_zero, cn_m20, cn_m8, cn_m1, cn_0, cn_1, cn_2, cn_3, cn_4, cn_5, cn_6, cn_7, cn_8, cn_9, cn_10, cn_11, cn_12, cn_15, cn_16, cn_20, cn_24, cn_30, cn_31, cn_32, cn_33, cn_34, cn_35, cn_37, cn_40, cn_41, cn_42, cn_43, cn_44, cn_45, cn_47, cn_48, cn_57, cn_59, cn_60, cn_63, cn_91, cn_93, cn_96, cn_97, cn_99, cn_100, cn_122, cn_128, cn_150, cn_200, cn_255, cn_400, cn_560, cn_596, cn_600, cn_999, cn_1024, cn_1788, cn_4096, cn_8400, cn_9999, cn_10000, cn_12345, cn_32767, cn_999999, cn_252645135, cn_858993459, cn_1103515245, cn_1431655765, cn_2147483647, wK_v, wK_r, List.getElem?_cons_zero, List.getElem?_cons_succ, Int.reduceToNat, Nat.reduceDiv, Nat.reduceMod, Nat.reduceMul, Nat.reduceAdd, Nat.reduceLT, Nat.reduceLeDiff, Nat.reduceEqDiff, fx_set, fx_fix, fx_fit, List.length_cons, List.length_nil, List.set_cons_zero, List.set_cons_succ, and_true, true_and, if_true, if_false, ↓reduceIte, and_self, true_or, or_true, not_false_iff, not_true, wr_ii, wr_is, wr_iv, wg_i_, wg_l_, wg_a1, wg_a2, wg_o_, wg_n_, wg_f_, wg_s_, wg_I_, wg_L_, wg_A_, wg_si_, wg_sb_, wg_sl_, wg_m_, wg_c_, wg_t_, List.drop_succ_cons, List.drop_zero, List.take_succ_cons, List.take_zero, List.reverse_cons, List.reverse_nil, List.nil_append, List.cons_append, ho, A1, A2, A3, A4, Bool.toNat_false, Bool.toNat_true, Bool.false_eq_true]
      · rw [w3] at A3
        simp (disch := omega) only [cb_46_0, cb_46_4, cb_46_6, cb_46_10, cb_46_12, cb_46_16, cb_46_18, cb_46_22, cb_46_24, cb_46_25, jb_46_4, jb_46_6, jb_46_10, jb_46_12, jb_46_16, jb_46_18, jb_46_22, jb_46_24, jb_46_25, ei_46, wt_46, wC_goto, wC_iconst, wC_ldc2, wC_ldc, wC_getstatic, wC_iadd, wC_isub, wC_imul, wC_iand, wC_ior, wC_ixor, wC_ishl, wC_ishr, wC_iushr, wC_ladd, wC_lmul, wC_land, wC_lcmp, wC_lshl, wC_lshr, wC_i2l, wC_i2b, wC_i2c, wC_popi, wC_popa, wC_dupi, wC_dupa, wC_dup2, wC_idiv, wC_irem, wC_ldiv, wC_lrem, wr_iload, wr_lload, wr_aload, wC_istore, wC_astore, wC_lstore, wr_iinc, wC_icmp_eq, wC_icmp_ne, wC_icmp_lt, wC_icmp_ge, wC_icmp_gt, wC_icmp_le, wC_ifc_eq, wC_ifc_ne, wC_ifc_lt, wC_ifc_ge, wC_ifc_gt, wC_ifc_le, wC_tab, wr_getf, wr_putf, wr_iaload, wr_baload, wr_laload, wr_iastore, wr_bastore, wr_lastore, wr_aaload, wr_alen, wC_slen, wC_sald, wC_new, wC_newa, wC_newq, wC_oinit, wC_math, wC_iret, wC_lret, wC_vret, wC_zret, wC_cret, wC_jsr, wi_c_, fx_low, List.map_cons, List.map_nil, List.sum_cons, List.sum_nil, fl_int, fl_ref, fl_ra, fl_long, decide_eq_true_eq, decide_true, kk_ltT, kk_ltF, kk_leT, kk_leF, kk_eqT, kk_eqF, kk_0T, kk_0F, kk_g0T, kk_g0F, kk_l0T, kk_l0F, kk_inT, kk_lt0, kk_ge0, kk_m1, kk_m1', kk_m1lt, kk_m1le, kk_m1ltF, kk_m1leT, kk_mm, kk_mm2, kk_mm3, kk_mm4, kk_mm5, kk_cl, kk_sub, kk_p1, kk_shl, kk_shr, kk_and, kk_or, kk_xor, kk_rem2, kk_div, kk_len, kk_z1, kk_ln, kk_i2l, lN_add, lN_mul, kk_tb, kk_b0, kk_b1, nI_add, pk_mul, va_up_ne', va_up_se, va_up_up, ne_eq, not_false_eq_true, not_true_eq_false, false_or, or_false, eq_self, Nat.reducePow, Nat.reduceSub, Nat.reduceBEq, Nat.one_mul, Nat.zero_add, Nat.add_zero, Nat.zero_mul, Nat.mul_zero, cn_m20, cn_m8, cn_m1, cn_0, cn_1, cn_2, cn_3, cn_4, cn_5, cn_6, cn_7, cn_8, cn_9, cn_10, cn_11, cn_12, cn_15, cn_16, cn_20, cn_24, cn_30, cn_31, cn_32, cn_33, cn_34, cn_35, cn_37, cn_40, cn_41, cn_42, cn_43, cn_44, cn_45, cn_47, cn_48, cn_57, cn_59, cn_60, cn_63, cn_91, cn_93, cn_96, cn_97, cn_99, cn_100, cn_122, cn_128, cn_150, cn_200, cn_255, cn_400, cn_560, cn_596, cn_600, cn_999, cn_1024, cn_1788, cn_4096, cn_8400, cn_9999, cn_10000, cn_12345, cn_32767, cn_999999, cn_252645135, cn_858993459, cn_1103515245, cn_1431655765, cn_2147483647, wK_v, wK_r, List.getElem?_cons_zero, List.getElem?_cons_succ, Int.reduceToNat, Nat.reduceDiv, Nat.reduceMod, Nat.reduceMul, Nat.reduceAdd, Nat.reduceLT, Nat.reduceLeDiff, Nat.reduceEqDiff, fx_set, fx_fix, fx_fit, List.length_cons, List.length_nil, List.set_cons_zero, List.set_cons_succ, and_true, true_and, if_true, if_false, ↓reduceIte, and_self, true_or, or_true, not_false_iff, not_true, wr_ii, wr_is, wr_iv, wg_i_, wg_l_, wg_a1, wg_a2, wg_o_, wg_n_, wg_f_, wg_s_, wg_I_, wg_L_, wg_A_, wg_si_, wg_sb_, wg_sl_, wg_m_, wg_c_, wg_t_, List.drop_succ_cons, List.drop_zero, List.take_succ_cons, List.take_zero, List.reverse_cons, List.reverse_nil, List.nil_append, List.cons_append, ho, A1, A2, A3, Bool.toNat_false, Bool.toNat_true, Bool.false_eq_true]
    · rw [w2] at A2
      simp (disch := omega) only [cb_46_0, cb_46_4, cb_46_6, cb_46_10, cb_46_12, cb_46_16, cb_46_18, cb_46_22, cb_46_24, cb_46_25, jb_46_4, jb_46_6, jb_46_10, jb_46_12, jb_46_16, jb_46_18, jb_46_22, jb_46_24, jb_46_25, ei_46, wt_46, wC_goto, wC_iconst, wC_ldc2, wC_ldc, wC_getstatic, wC_iadd, wC_isub, wC_imul, wC_iand, wC_ior, wC_ixor, wC_ishl, wC_ishr, wC_iushr, wC_ladd, wC_lmul, wC_land, wC_lcmp, wC_lshl, wC_lshr, wC_i2l, wC_i2b, wC_i2c, wC_popi, wC_popa, wC_dupi, wC_dupa, wC_dup2, wC_idiv, wC_irem, wC_ldiv, wC_lrem, wr_iload, wr_lload, wr_aload, wC_istore, wC_astore, wC_lstore, wr_iinc, wC_icmp_eq, wC_icmp_ne, wC_icmp_lt, wC_icmp_ge, wC_icmp_gt, wC_icmp_le, wC_ifc_eq, wC_ifc_ne, wC_ifc_lt, wC_ifc_ge, wC_ifc_gt, wC_ifc_le, wC_tab, wr_getf, wr_putf, wr_iaload, wr_baload, wr_laload, wr_iastore, wr_bastore, wr_lastore, wr_aaload, wr_alen, wC_slen, wC_sald, wC_new, wC_newa, wC_newq, wC_oinit, wC_math, wC_iret, wC_lret, wC_vret, wC_zret, wC_cret, wC_jsr, wi_c_, fx_low, List.map_cons, List.map_nil, List.sum_cons, List.sum_nil, fl_int, fl_ref, fl_ra, fl_long, decide_eq_true_eq, decide_true, kk_ltT, kk_ltF, kk_leT, kk_leF, kk_eqT, kk_eqF, kk_0T, kk_0F, kk_g0T, kk_g0F, kk_l0T, kk_l0F, kk_inT, kk_lt0, kk_ge0, kk_m1, kk_m1', kk_m1lt, kk_m1le, kk_m1ltF, kk_m1leT, kk_mm, kk_mm2, kk_mm3, kk_mm4, kk_mm5, kk_cl, kk_sub, kk_p1, kk_shl, kk_shr, kk_and, kk_or, kk_xor, kk_rem2, kk_div, kk_len, kk_z1, kk_ln, kk_i2l, lN_add, lN_mul, kk_tb, kk_b0, kk_b1, nI_add, pk_mul, va_up_ne', va_up_se, va_up_up, ne_eq, not_false_eq_true, not_true_eq_false, false_or, or_false, eq_self, Nat.reducePow, Nat.reduceSub, Nat.reduceBEq, Nat.one_mul, Nat.zero_add, Nat.add_zero, Nat.zero_mul, Nat.mul_zero, cn_m20, cn_m8, cn_m1, cn_0, cn_1, cn_2, cn_3, cn_4, cn_5, cn_6, cn_7, cn_8, cn_9, cn_10, cn_11, cn_12, cn_15, cn_16, cn_20, cn_24, cn_30, cn_31, cn_32, cn_33, cn_34, cn_35, cn_37, cn_40, cn_41, cn_42, cn_43, cn_44, cn_45, cn_47, cn_48, cn_57, cn_59, cn_60, cn_63, cn_91, cn_93, cn_96, cn_97, cn_99, cn_100, cn_122, cn_128, cn_150, cn_200, cn_255, cn_400, cn_560, cn_596, cn_600, cn_999, cn_1024, cn_1788, cn_4096, cn_8400, cn_9999, cn_10000, cn_12345, cn_32767, cn_999999, cn_252645135, cn_858993459, cn_1103515245, cn_1431655765, cn_2147483647, wK_v, wK_r, List.getElem?_cons_zero, List.getElem?_cons_succ, Int.reduceToNat, Nat.reduceDiv, Nat.reduceMod, Nat.reduceMul, Nat.reduceAdd, Nat.reduceLT, Nat.reduceLeDiff, Nat.reduceEqDiff, fx_set, fx_fix, fx_fit, List.length_cons, List.length_nil, List.set_cons_zero, List.set_cons_succ, and_true, true_and, if_true, if_false, ↓reduceIte, and_self, true_or, or_true, not_false_iff, not_true, wr_ii, wr_is, wr_iv, wg_i_, wg_l_, wg_a1, wg_a2, wg_o_, wg_n_, wg_f_, wg_s_, wg_I_, wg_L_, wg_A_, wg_si_, wg_sb_, wg_sl_, wg_m_, wg_c_, wg_t_, List.drop_succ_cons, List.drop_zero, List.take_succ_cons, List.take_zero, List.reverse_cons, List.reverse_nil, List.nil_append, List.cons_append, ho, A1, A2, Bool.toNat_false, Bool.toNat_true, Bool.false_eq_true]
  · rw [w1] at A1
    simp (disch := omega) only [cb_46_0, cb_46_4, cb_46_6, cb_46_10, cb_46_12, cb_46_16, cb_46_18, cb_46_22, cb_46_24, cb_46_25, jb_46_4, jb_46_6, jb_46_10, jb_46_12, jb_46_16, jb_46_18, jb_46_22, jb_46_24, jb_46_25, ei_46, wt_46, wC_goto, wC_iconst, wC_ldc2, wC_ldc, wC_getstatic, wC_iadd, wC_isub, wC_imul, wC_iand, wC_ior, wC_ixor, wC_ishl, wC_ishr, wC_iushr, wC_ladd, wC_lmul, wC_land, wC_lcmp, wC_lshl, wC_lshr, wC_i2l, wC_i2b, wC_i2c, wC_popi, wC_popa, wC_dupi, wC_dupa, wC_dup2, wC_idiv, wC_irem, wC_ldiv, wC_lrem, wr_iload, wr_lload, wr_aload, wC_istore, wC_astore, wC_lstore, wr_iinc, wC_icmp_eq, wC_icmp_ne, wC_icmp_lt, wC_icmp_ge, wC_icmp_gt, wC_icmp_le, wC_ifc_eq, wC_ifc_ne, wC_ifc_lt, wC_ifc_ge, wC_ifc_gt, wC_ifc_le, wC_tab, wr_getf, wr_putf, wr_iaload, wr_baload, wr_laload, wr_iastore, wr_bastore, wr_lastore, wr_aaload, wr_alen, wC_slen, wC_sald, wC_new, wC_newa, wC_newq, wC_oinit, wC_math, wC_iret, wC_lret, wC_vret, wC_zret, wC_cret, wC_jsr, wi_c_, fx_low, List.map_cons, List.map_nil, List.sum_cons, List.sum_nil, fl_int, fl_ref, fl_ra, fl_long, decide_eq_true_eq, decide_true, kk_ltT, kk_ltF, kk_leT, kk_leF, kk_eqT, kk_eqF, kk_0T, kk_0F, kk_g0T, kk_g0F, kk_l0T, kk_l0F, kk_inT, kk_lt0, kk_ge0, kk_m1, kk_m1', kk_m1lt, kk_m1le, kk_m1ltF, kk_m1leT, kk_mm, kk_mm2, kk_mm3, kk_mm4, kk_mm5, kk_cl, kk_sub, kk_p1, kk_shl, kk_shr, kk_and, kk_or, kk_xor, kk_rem2, kk_div, kk_len, kk_z1, kk_ln, kk_i2l, lN_add, lN_mul, kk_tb, kk_b0, kk_b1, nI_add, pk_mul, va_up_ne', va_up_se, va_up_up, ne_eq, not_false_eq_true, not_true_eq_false, false_or, or_false, eq_self, Nat.reducePow, Nat.reduceSub, Nat.reduceBEq, Nat.one_mul, Nat.zero_add, Nat.add_zero, Nat.zero_mul, Nat.mul_zero, cn_m20, cn_m8, cn_m1, cn_0, cn_1, cn_2, cn_3, cn_4, cn_5, cn_6, cn_7, cn_8, cn_9, cn_10, cn_11, cn_12, cn_15, cn_16, cn_20, cn_24, cn_30, cn_31, cn_32, cn_33, cn_34, cn_35, cn_37, cn_40, cn_41, cn_42, cn_43, cn_44, cn_45, cn_47, cn_48, cn_57, cn_59, cn_60, cn_63, cn_91, cn_93, cn_96, cn_97, cn_99, cn_100, cn_122, cn_128, cn_150, cn_200, cn_255, cn_400, cn_560, cn_596, cn_600, cn_999, cn_1024, cn_1788, cn_4096, cn_8400, cn_9999, cn_10000, cn_12345, cn_32767, cn_999999, cn_252645135, cn_858993459, cn_1103515245, cn_1431655765, cn_2147483647, wK_v, wK_r, List.getElem?_cons_zero, List.getElem?_cons_succ, Int.reduceToNat, Nat.reduceDiv, Nat.reduceMod, Nat.reduceMul, Nat.reduceAdd, Nat.reduceLT, Nat.reduceLeDiff, Nat.reduceEqDiff, fx_set, fx_fix, fx_fit, List.length_cons, List.length_nil, List.set_cons_zero, List.set_cons_succ, and_true, true_and, if_true, if_false, ↓reduceIte, and_self, true_or, or_true, not_false_iff, not_true, wr_ii, wr_is, wr_iv, wg_i_, wg_l_, wg_a1, wg_a2, wg_o_, wg_n_, wg_f_, wg_s_, wg_I_, wg_L_, wg_A_, wg_si_, wg_sb_, wg_sl_, wg_m_, wg_c_, wg_t_, List.drop_succ_cons, List.drop_zero, List.take_succ_cons, List.take_zero, List.reverse_cons, List.reverse_nil, List.nil_append, List.cons_append, ho, A1, Bool.toNat_true]
end
