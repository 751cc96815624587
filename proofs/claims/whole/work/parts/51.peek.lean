/-- blanks are passed -/
def tp_sk (g : Nat → Int32) (e : Nat) : Nat → Nat → Nat
  | 0, p => p
  | k + 1, p => if p < e ∧ g p = 32 then tp_sk g e k (p + 1) else p
section
variable {sc : Nat × (Nat → Int32)} {d n cc ss : Nat} {h : fx_H} {f : Nat → va_E} {Q : fx_R → Prop} {hn : Nat → Option (Nat × Nat)}
theorem fx_in_nI {i m : Nat} (h : i < m) (hm : m < 2 ^ 31) : fx_in (nI i) m = true := by
  simp only [fx_in, Bool.and_eq_true, decide_eq_true_eq]
  exact ⟨nI_pos (by omega), by rw [nI_clamp (by omega)]; exact h⟩
set_option maxHeartbeats 1000000 in
theorem lp_peek {a b e : Nat} {g : Nat → Int32} {fi ee mk fp : Int32} (hab : b ≠ a) (hb : f b = .inl (0, 600, .inl g)) (he : e ≤ 600) : ∀ (k q : Nat), e - q ≤ k → q ≤ 600 →
    wC sc d hn cm_17 cb_17_31 [.ref a, .int (nI e), .int (nI (tp_sk g e k q))] [] (n, cc, ss, va_up f a (tp_O b fi ee (nI (tp_sk g e k q)) mk 0 fp)) Q →
    wC sc d hn cm_17 cb_17_15 [.ref a, .int (nI e), .int (nI q)] [] (n, cc, ss, va_up f a (tp_O b fi ee (nI q) mk 0 fp)) Q
  | 0, q, hq, hq2, hk => by
    unfold cb_17_15
    simp only [jb_17_3, jb_17_5, jb_17_15, jb_17_18, jb_17_24, jb_17_31, jb_17_35, jb_17_43, jb_17_44, wC_goto, wC_iconst, wC_ldc2, wC_ldc, wC_getstatic, wC_iadd, wC_isub, wC_imul, wC_iand, wC_ior, wC_ixor, wC_ishl, wC_ishr, wC_iushr, wC_ladd, wC_lmul, wC_land, wC_lcmp, wC_lshl, wC_lshr, wC_i2l, wC_i2b, wC_i2c, wC_popi, wC_popa, wC_dupi, wC_dupa, wC_dup2, wC_idiv, wC_irem, wC_ldiv, wC_lrem, wC_iload, wC_lload, wC_aload, wC_istore, wC_astore, wC_lstore, wC_iinc, wC_icmp_eq, wC_icmp_ne, wC_icmp_lt, wC_icmp_ge, wC_icmp_gt, wC_icmp_le, wC_ifc_eq, wC_ifc_ne, wC_ifc_lt, wC_ifc_ge, wC_ifc_gt, wC_ifc_le, wC_tab, wC_getf, wC_putf, wC_iaload, wC_baload, wC_laload, wC_iastore, wC_bastore, wC_lastore, wC_aaload, wC_alen, wC_slen, wC_sald, wC_new, wC_newa, wC_newq, wC_oinit, wC_math, wC_iret, wC_lret, wC_vret, wC_zret, wC_cret, wC_jsr, ci_m20, ci_m8, ci_m1, ci_0, ci_1, ci_2, ci_3, ci_4, ci_5, ci_6, ci_7, ci_8, ci_9, ci_10, ci_11, ci_12, ci_15, ci_16, ci_20, ci_24, ci_30, ci_31, ci_32, ci_33, ci_34, ci_35, ci_37, ci_40, ci_41, ci_42, ci_43, ci_44, ci_45, ci_47, ci_48, ci_57, ci_59, ci_60, ci_63, ci_91, ci_93, ci_96, ci_97, ci_99, ci_100, ci_122, ci_128, ci_150, ci_200, ci_255, ci_400, ci_560, ci_596, ci_600, ci_999, ci_1024, ci_1788, ci_4096, ci_8400, ci_9999, ci_10000, ci_12345, ci_32767, ci_999999, ci_252645135, ci_858993459, ci_1103515245, ci_1431655765, ci_2147483647, wl_i_, wl_l_, wl_a1, wl_a2, wl_o_, wl_f_, wl_I_, wl_L_, wl_A_, wl_n_, wK_v, wK_r, List.getElem?_cons_zero, List.getElem?_cons_succ, Int.reduceToNat, Nat.reduceDiv, Nat.reduceMod, Nat.reduceMul, Nat.reduceAdd, Nat.reduceLT, Nat.reduceLeDiff, Nat.reduceEqDiff, fx_set, fx_fix, fx_fit, List.length_cons, List.length_nil, List.set_cons_zero, List.set_cons_succ, and_true, true_and, if_true, if_false, ↓reduceIte, and_self, true_or, or_true, not_false_iff, not_true]
    rw [if_pos (nI_le (by omega) (by omega))]
    exact hk
  | k + 1, q, hq, hq2, hk => by
    unfold cb_17_15
    simp only [cb_17_18, cb_17_24, jb_17_3, jb_17_5, jb_17_15, jb_17_18, jb_17_24, jb_17_31, jb_17_35, jb_17_43, jb_17_44, wC_goto, wC_iconst, wC_ldc2, wC_ldc, wC_getstatic, wC_iadd, wC_isub, wC_imul, wC_iand, wC_ior, wC_ixor, wC_ishl, wC_ishr, wC_iushr, wC_ladd, wC_lmul, wC_land, wC_lcmp, wC_lshl, wC_lshr, wC_i2l, wC_i2b, wC_i2c, wC_popi, wC_popa, wC_dupi, wC_dupa, wC_dup2, wC_idiv, wC_irem, wC_ldiv, wC_lrem, wC_iload, wC_lload, wC_aload, wC_istore, wC_astore, wC_lstore, wC_iinc, wC_icmp_eq, wC_icmp_ne, wC_icmp_lt, wC_icmp_ge, wC_icmp_gt, wC_icmp_le, wC_ifc_eq, wC_ifc_ne, wC_ifc_lt, wC_ifc_ge, wC_ifc_gt, wC_ifc_le, wC_tab, wC_getf, wC_putf, wC_iaload, wC_baload, wC_laload, wC_iastore, wC_bastore, wC_lastore, wC_aaload, wC_alen, wC_slen, wC_sald, wC_new, wC_newa, wC_newq, wC_oinit, wC_math, wC_iret, wC_lret, wC_vret, wC_zret, wC_cret, wC_jsr, ci_m20, ci_m8, ci_m1, ci_0, ci_1, ci_2, ci_3, ci_4, ci_5, ci_6, ci_7, ci_8, ci_9, ci_10, ci_11, ci_12, ci_15, ci_16, ci_20, ci_24, ci_30, ci_31, ci_32, ci_33, ci_34, ci_35, ci_37, ci_40, ci_41, ci_42, ci_43, ci_44, ci_45, ci_47, ci_48, ci_57, ci_59, ci_60, ci_63, ci_91, ci_93, ci_96, ci_97, ci_99, ci_100, ci_122, ci_128, ci_150, ci_200, ci_255, ci_400, ci_560, ci_596, ci_600, ci_999, ci_1024, ci_1788, ci_4096, ci_8400, ci_9999, ci_10000, ci_12345, ci_32767, ci_999999, ci_252645135, ci_858993459, ci_1103515245, ci_1431655765, ci_2147483647, wl_i_, wl_l_, wl_a1, wl_a2, wl_o_, wl_f_, wl_I_, wl_L_, wl_A_, wl_n_, wK_v, wK_r, List.getElem?_cons_zero, List.getElem?_cons_succ, Int.reduceToNat, Nat.reduceDiv, Nat.reduceMod, Nat.reduceMul, Nat.reduceAdd, Nat.reduceLT, Nat.reduceLeDiff, Nat.reduceEqDiff, fx_set, fx_fix, fx_fit, List.length_cons, List.length_nil, List.set_cons_zero, List.set_cons_succ, and_true, true_and, if_true, if_false, ↓reduceIte, and_self, true_or, or_true, not_false_iff, not_true, va_up_self, va_up_ne _ _ hab, hb, bx_uu]
    by_cases h1 : e ≤ q
    · rw [if_pos (nI_le h1 (by omega))]
      have : tp_sk g e (k + 1) q = q := by rw [tp_sk, if_neg (by omega)]
      rw [this] at hk
      exact hk
    · rw [if_neg (nI_ge (by omega) (by omega)), nI_clamp (by omega)]
      refine ⟨fx_in_nI (by omega) (by decide), ?_⟩
      by_cases h2 : g q = 32
      · simp only [h2, ne_eq, not_true, if_false]
        rw [nI_1]
        refine lp_peek hab hb he k (q + 1) (by omega) (by omega) ?_
        have : tp_sk g e (k + 1) q = tp_sk g e k (q + 1) := by rw [tp_sk, if_pos ⟨by omega, h2⟩]
        rw [this] at hk
        exact hk
      · simp only [h2, ne_eq, not_false_iff, if_true]
        have : tp_sk g e (k + 1) q = q := by rw [tp_sk, if_neg (fun z => h2 z.2)]
        rw [this] at hk
        exact hk
theorem va_up_id {α : Type} (f : Nat → α) (a : Nat) (v : α) (h : f a = v) : va_up f a v = f := by
  funext j
  unfold va_up
  split
  · rename_i q; rw [q, h]
  · rfl
/-- where the next sign stands -/
def tp_nx (g : Nat → Int32) (e p : Nat) : Nat := tp_sk g e (e - p) p
theorem tp_sk_le (g : Nat → Int32) (e : Nat) : ∀ k p, tp_sk g e k p ≤ max p e
  | 0, p => by simp only [tp_sk]; omega
  | k + 1, p => by
    rw [tp_sk]
    split
    · have := tp_sk_le g e k (p + 1)
      omega
    · omega
theorem tp_nx_le {g : Nat → Int32} {e p : Nat} (h : p ≤ 600) (he : e ≤ 600) : tp_nx g e p ≤ 600 := by
  have := tp_sk_le g e (e - p) p
  unfold tp_nx
  omega
set_option maxHeartbeats 1000000 in
/-- peek: behind a fault nothing; else blanks are passed, the next sign or -1 -/
theorem sp_peek {a b e p : Nat} {g : Nat → Int32} {fi mk fk fp : Int32} (ha : f a = tp_O b fi (nI e) (nI p) mk fk fp) (hab : b ≠ a) (hb : f b = .inl (0, 600, .inl g)) (he : e ≤ 600) (hp : p ≤ 600)
    (h1 : fk ≠ 0 → Q (.inl (some (.int (-1))), (n, cc, ss, f)))
    (h2 : fk = 0 → Q (.inl (some (.int (if tp_nx g e p < e then g (tp_nx g e p) &&& 255 else -1))), (n, cc, ss, va_up f a (tp_O b fi (nI e) (nI (tp_nx g e p)) mk 0 fp)))) : wM sc (d + 1) 17 [.ref a] (n, cc, ss, f) Q := by
  refine en_17 ?_
  simp only [cb_17_0, cb_17_3, cb_17_5, jb_17_3, jb_17_5, jb_17_15, jb_17_18, jb_17_24, jb_17_31, jb_17_35, jb_17_43, jb_17_44, wC_goto, wC_iconst, wC_ldc2, wC_ldc, wC_getstatic, wC_iadd, wC_isub, wC_imul, wC_iand, wC_ior, wC_ixor, wC_ishl, wC_ishr, wC_iushr, wC_ladd, wC_lmul, wC_land, wC_lcmp, wC_lshl, wC_lshr, wC_i2l, wC_i2b, wC_i2c, wC_popi, wC_popa, wC_dupi, wC_dupa, wC_dup2, wC_idiv, wC_irem, wC_ldiv, wC_lrem, wC_iload, wC_lload, wC_aload, wC_istore, wC_astore, wC_lstore, wC_iinc, wC_icmp_eq, wC_icmp_ne, wC_icmp_lt, wC_icmp_ge, wC_icmp_gt, wC_icmp_le, wC_ifc_eq, wC_ifc_ne, wC_ifc_lt, wC_ifc_ge, wC_ifc_gt, wC_ifc_le, wC_tab, wC_getf, wC_putf, wC_iaload, wC_baload, wC_laload, wC_iastore, wC_bastore, wC_lastore, wC_aaload, wC_alen, wC_slen, wC_sald, wC_new, wC_newa, wC_newq, wC_oinit, wC_math, wC_iret, wC_lret, wC_vret, wC_zret, wC_cret, wC_jsr, ci_m20, ci_m8, ci_m1, ci_0, ci_1, ci_2, ci_3, ci_4, ci_5, ci_6, ci_7, ci_8, ci_9, ci_10, ci_11, ci_12, ci_15, ci_16, ci_20, ci_24, ci_30, ci_31, ci_32, ci_33, ci_34, ci_35, ci_37, ci_40, ci_41, ci_42, ci_43, ci_44, ci_45, ci_47, ci_48, ci_57, ci_59, ci_60, ci_63, ci_91, ci_93, ci_96, ci_97, ci_99, ci_100, ci_122, ci_128, ci_150, ci_200, ci_255, ci_400, ci_560, ci_596, ci_600, ci_999, ci_1024, ci_1788, ci_4096, ci_8400, ci_9999, ci_10000, ci_12345, ci_32767, ci_999999, ci_252645135, ci_858993459, ci_1103515245, ci_1431655765, ci_2147483647, wl_i_, wl_l_, wl_a1, wl_a2, wl_o_, wl_f_, wl_I_, wl_L_, wl_A_, wl_n_, wK_v, wK_r, List.getElem?_cons_zero, List.getElem?_cons_succ, Int.reduceToNat, Nat.reduceDiv, Nat.reduceMod, Nat.reduceMul, Nat.reduceAdd, Nat.reduceLT, Nat.reduceLeDiff, Nat.reduceEqDiff, fx_set, fx_fix, fx_fit, List.length_cons, List.length_nil, List.set_cons_zero, List.set_cons_succ, and_true, true_and, if_true, if_false, ↓reduceIte, and_self, true_or, or_true, not_false_iff, not_true, ha, hb]
  by_cases h0 : fk = 0
  · subst h0
    simp only [if_true]
    refine ⟨rfl, ?_⟩
    have e1 : (if Int32.ofNat 600 < nI e then Int32.ofNat 600 else nI e) = nI e := if_neg (fun q => nI_nlt (a := 600) (b := e) he (by omega) q)
    simp only [Nat.one_ne_zero, if_false, e1]
    have e2 : f = va_up f a (tp_O b fi (nI e) (nI p) mk 0 fp) := (va_up_id f a _ ha).symm
    rw [e2]
    refine lp_peek hab hb he (e - p) p (Nat.le_refl _) hp ?_
    have h2 := h2 rfl
    have h3 := tp_nx_le (g := g) hp he
    change wC sc d _ _ _ [.ref a, .int (nI e), .int (nI (tp_nx g e p))] [] (n, cc, ss, va_up f a (tp_O b fi (nI e) (nI (tp_nx g e p)) mk 0 fp)) Q
    generalize tp_nx g e p = q at h2 h3 ⊢
    simp only [cb_17_31, cb_17_35, cb_17_43, cb_17_44, jb_17_3, jb_17_5, jb_17_15, jb_17_18, jb_17_24, jb_17_31, jb_17_35, jb_17_43, jb_17_44, wC_goto, wC_iconst, wC_ldc2, wC_ldc, wC_getstatic, wC_iadd, wC_isub, wC_imul, wC_iand, wC_ior, wC_ixor, wC_ishl, wC_ishr, wC_iushr, wC_ladd, wC_lmul, wC_land, wC_lcmp, wC_lshl, wC_lshr, wC_i2l, wC_i2b, wC_i2c, wC_popi, wC_popa, wC_dupi, wC_dupa, wC_dup2, wC_idiv, wC_irem, wC_ldiv, wC_lrem, wC_iload, wC_lload, wC_aload, wC_istore, wC_astore, wC_lstore, wC_iinc, wC_icmp_eq, wC_icmp_ne, wC_icmp_lt, wC_icmp_ge, wC_icmp_gt, wC_icmp_le, wC_ifc_eq, wC_ifc_ne, wC_ifc_lt, wC_ifc_ge, wC_ifc_gt, wC_ifc_le, wC_tab, wC_getf, wC_putf, wC_iaload, wC_baload, wC_laload, wC_iastore, wC_bastore, wC_lastore, wC_aaload, wC_alen, wC_slen, wC_sald, wC_new, wC_newa, wC_newq, wC_oinit, wC_math, wC_iret, wC_lret, wC_vret, wC_zret, wC_cret, wC_jsr, ci_m20, ci_m8, ci_m1, ci_0, ci_1, ci_2, ci_3, ci_4, ci_5, ci_6, ci_7, ci_8, ci_9, ci_10, ci_11, ci_12, ci_15, ci_16, ci_20, ci_24, ci_30, ci_31, ci_32, ci_33, ci_34, ci_35, ci_37, ci_40, ci_41, ci_42, ci_43, ci_44, ci_45, ci_47, ci_48, ci_57, ci_59, ci_60, ci_63, ci_91, ci_93, ci_96, ci_97, ci_99, ci_100, ci_122, ci_128, ci_150, ci_200, ci_255, ci_400, ci_560, ci_596, ci_600, ci_999, ci_1024, ci_1788, ci_4096, ci_8400, ci_9999, ci_10000, ci_12345, ci_32767, ci_999999, ci_252645135, ci_858993459, ci_1103515245, ci_1431655765, ci_2147483647, wl_i_, wl_l_, wl_a1, wl_a2, wl_o_, wl_f_, wl_I_, wl_L_, wl_A_, wl_n_, wK_v, wK_r, List.getElem?_cons_zero, List.getElem?_cons_succ, Int.reduceToNat, Nat.reduceDiv, Nat.reduceMod, Nat.reduceMul, Nat.reduceAdd, Nat.reduceLT, Nat.reduceLeDiff, Nat.reduceEqDiff, fx_set, fx_fix, fx_fit, List.length_cons, List.length_nil, List.set_cons_zero, List.set_cons_succ, and_true, true_and, if_true, if_false, ↓reduceIte, and_self, true_or, or_true, not_false_iff, not_true, va_up_self, va_up_ne _ _ hab, hb]
    by_cases h4 : q < e
    · rw [if_pos h4] at h2
      rw [if_neg (nI_ge h4 (by omega)), nI_clamp (by omega)]
      exact ⟨fx_in_nI (by omega) (by decide), h2⟩
    · rw [if_neg h4] at h2
      rw [if_pos (nI_le (by omega) (by omega))]
      exact h2
  · simp only [h0, if_false]
    exact h1 h0
end
