section
variable {sc : Nat × (Nat → Int32)} {d n cc ss : Nat} {h : fx_H} {f : Nat → va_E} {Q : fx_R → Prop} {hn : Nat → Option (Nat × Nat)}
set_option maxHeartbeats 1000000 in
/-- byteAt: the byte at a place before the end, else -1 -/
theorem sp_byteAt {a b e q : Nat} {g : Nat → Int32} {fi pl mk fk fp : Int32} (ha : f a = tp_O b fi (nI e) pl mk fk fp) (hb : f b = .inl (0, 600, .inl g)) (he : e ≤ 600) (hp : q ≤ 600)
    (h2 : Q (.inl (some (.int (tp_at g e q))), (n, cc, ss, f))) : wM sc (d + 1) 16 [.ref a, .int (nI q)] (n, cc, ss, f) Q := by
  refine en_16 ?_
  simp only [cb_16_0, cb_16_2, cb_16_6, cb_16_11, cb_16_18, cb_16_19, jb_16_2, jb_16_6, jb_16_11, jb_16_18, jb_16_19, wC_goto, wC_iconst, wC_ldc2, wC_ldc, wC_getstatic, wC_iadd, wC_isub, wC_imul, wC_iand, wC_ior, wC_ixor, wC_ishl, wC_ishr, wC_iushr, wC_ladd, wC_lmul, wC_land, wC_lcmp, wC_lshl, wC_lshr, wC_i2l, wC_i2b, wC_i2c, wC_popi, wC_popa, wC_dupi, wC_dupa, wC_dup2, wC_idiv, wC_irem, wC_ldiv, wC_lrem, wC_iload, wC_lload, wC_aload, wC_istore, wC_astore, wC_lstore, wC_iinc, wC_icmp_eq, wC_icmp_ne, wC_icmp_lt, wC_icmp_ge, wC_icmp_gt, wC_icmp_le, wC_ifc_eq, wC_ifc_ne, wC_ifc_lt, wC_ifc_ge, wC_ifc_gt, wC_ifc_le, wC_tab, wC_getf, wC_putf, wC_iaload, wC_baload, wC_laload, wC_iastore, wC_bastore, wC_lastore, wC_aaload, wC_alen, wC_slen, wC_sald, wC_new, wC_newa, wC_newq, wC_oinit, wC_math, wC_iret, wC_lret, wC_vret, wC_zret, wC_cret, wC_jsr, ci_m20, ci_m8, ci_m1, ci_0, ci_1, ci_2, ci_3, ci_4, ci_5, ci_6, ci_7, ci_8, ci_9, ci_10, ci_11, ci_12, ci_15, ci_16, ci_20, ci_24, ci_30, ci_31, ci_32, ci_33, ci_34, ci_35, ci_37, ci_40, ci_41, ci_42, ci_43, ci_44, ci_45, ci_47, ci_48, ci_57, ci_59, ci_60, ci_63, ci_91, ci_93, ci_96, ci_97, ci_99, ci_100, ci_122, ci_128, ci_150, ci_200, ci_255, ci_400, ci_560, ci_596, ci_600, ci_999, ci_1024, ci_1788, ci_4096, ci_8400, ci_9999, ci_10000, ci_12345, ci_32767, ci_999999, ci_252645135, ci_858993459, ci_1103515245, ci_1431655765, ci_2147483647, wl_i_, wl_l_, wl_a1, wl_a2, wl_o_, wl_f_, wl_I_, wl_L_, wl_A_, wl_n_, wK_v, wK_r, List.getElem?_cons_zero, List.getElem?_cons_succ, Int.reduceToNat, Nat.reduceDiv, Nat.reduceMod, Nat.reduceMul, Nat.reduceAdd, Nat.reduceLT, Nat.reduceLeDiff, Nat.reduceEqDiff, fx_set, fx_fix, fx_fit, List.length_cons, List.length_nil, List.set_cons_zero, List.set_cons_succ, and_true, true_and, if_true, if_false, ↓reduceIte, and_self, true_or, or_true, not_false_iff, not_true, ha, hb]
  rw [if_neg (nI_pos (by omega))]
  unfold tp_at at h2
  by_cases h3 : q < e
  · rw [if_pos h3] at h2
    rw [if_neg (nI_ge h3 (by omega))]
    have e1 : ¬ Int32.ofNat 600 ≤ nI q := nI_ge (a := q) (b := 600) (by omega) (by omega)
    rw [if_neg e1, nI_clamp (by omega)]
    exact ⟨fx_in_nI (by omega) (by decide), h2⟩
  · rw [if_neg h3] at h2
    rw [if_pos (nI_le (by omega) (by omega))]
    exact h2
end
