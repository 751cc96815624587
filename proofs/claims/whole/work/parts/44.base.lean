/-! ===== small numbers: what the walk makes of them ===== -/
section
variable {a b c m : Nat}
theorem kk_lt (ha : a < 2147483648) (hb : b < 2147483648) : (nI a < nI b) = (a < b) := propext (nI_ltI ha hb)
theorem kk_le (ha : a < 2147483648) (hb : b < 2147483648) : (nI a ≤ nI b) = (a ≤ b) := propext (nI_leI ha hb)
theorem kk_eq (ha : a < 2147483648) (hb : b < 2147483648) : (nI a = nI b) = (a = b) := propext (nI_eq ha hb)
theorem kk_ltT (h : a < b ∧ b < 2147483648) : (nI a < nI b) = True := eq_true (nI_lt h.1 h.2)
theorem kk_ltF (h : b ≤ a ∧ a < 2147483648) : (nI a < nI b) = False := eq_false (nI_nlt h.1 h.2)
theorem kk_leT (h : a ≤ b ∧ b < 2147483648) : (nI a ≤ nI b) = True := eq_true (nI_le h.1 h.2)
theorem kk_leF (h : b < a ∧ a < 2147483648) : (nI a ≤ nI b) = False := eq_false (nI_ge h.1 h.2)
theorem kk_eqF (h : (a < b ∨ b < a) ∧ a < 2147483648 ∧ b < 2147483648) : (nI a = nI b) = False := eq_false (fun q => by have := (nI_eq h.2.1 h.2.2).mp q; omega)
theorem kk_eqT (h : a = b) : (nI a = nI b) = True := eq_true (by rw [h])
theorem kk_0F (h : 0 < a ∧ a < 2147483648) : (nI a = 0) = False := eq_false (nI_ne0 h.1 h.2)
theorem kk_0T (h : a = 0) : (nI a = 0) = True := eq_true (by rw [h]; rfl)
theorem kk_g0T (h : 0 < a ∧ a < 2147483648) : ((0 : Int32) < nI a) = True := eq_true (nI_lt (a := 0) h.1 h.2)
theorem kk_g0F (h : a = 0) : ((0 : Int32) < nI a) = False := eq_false (by rw [h]; decide)
theorem kk_l0T (h : a = 0) : (nI a ≤ 0) = True := eq_true (by rw [h]; decide)
theorem kk_l0F (h : 0 < a ∧ a < 2147483648) : (nI a ≤ 0) = False := eq_false (nI_nle h.1 h.2)
theorem kk_inT (h : a < m ∧ m < 2147483648) : (fx_in (nI a) m = true) = True := eq_true (by
  have ha : a < 2 ^ 31 := by omega
  simp only [fx_in, Bool.and_eq_true, decide_eq_true_eq, nI_clamp ha]
  exact ⟨nI_pos ha, h.1⟩)
theorem kk_lt0 (ha : a < 2147483648) : (nI a < 0) = False := eq_false (nI_pos ha)
theorem kk_ge0 (ha : a < 2147483648) : ((0 : Int32) ≤ nI a) = True := eq_true (nI_pos' ha)
theorem kk_eq0 (ha : a < 2147483648) : (nI a = 0) = (a = 0) := propext (nI_eq (b := 0) ha (by omega))
theorem kk_gt0 (ha : a < 2147483648) : ((0 : Int32) < nI a) = (0 < a) := propext (nI_ltI (a := 0) (by omega) ha)
theorem kk_le0 (ha : a < 2147483648) : (nI a ≤ 0) = (a = 0) := by
  have := kk_le (b := 0) ha (by omega)
  rw [show (nI 0) = 0 from rfl] at this
  rw [this]
  exact propext ⟨fun h => by omega, fun h => by omega⟩
theorem kk_m1 (ha : a < 2147483648) : (nI a = -1) = False := by
  refine eq_false (fun h => ?_)
  have := nI_toInt ha
  rw [h] at this
  have e : (-1 : Int32).toInt = -1 := rfl
  rw [e] at this
  omega
theorem kk_m1' (ha : a < 2147483648) : (-1 = nI a) = False := (propext ⟨fun q => q.symm, fun q => q.symm⟩ : (-1 = nI a) = (nI a = -1)).trans (kk_m1 ha)
theorem kk_m1lt (ha : a < 2147483648) : (-1 < nI a) = True := by
  refine eq_true (Int32.lt_iff_toInt_lt.mpr ?_)
  rw [nI_toInt ha, show (-1 : Int32).toInt = -1 from rfl]
  omega
theorem kk_m1le (ha : a < 2147483648) : (nI a ≤ -1) = False := by
  refine eq_false (fun h => ?_)
  have h := Int32.le_iff_toInt_le.mp h
  rw [nI_toInt ha, show (-1 : Int32).toInt = -1 from rfl] at h
  omega
theorem kk_m1ltF (ha : a < 2147483648) : (nI a < -1) = False := by
  refine eq_false (fun h => ?_)
  have h := Int32.lt_iff_toInt_lt.mp h
  rw [nI_toInt ha, show (-1 : Int32).toInt = -1 from rfl] at h
  omega
theorem kk_m1leT (ha : a < 2147483648) : (-1 ≤ nI a) = True := by
  refine eq_true (Int32.le_iff_toInt_le.mpr ?_)
  rw [nI_toInt ha, show (-1 : Int32).toInt = -1 from rfl]
  omega
theorem kk_mm : ((-1 : Int32) = 0) = False := by decide
theorem kk_mm2 : ((-1 : Int32) < 0) = True := by decide
theorem kk_mm3 : ((0 : Int32) ≤ -1) = False := by decide
theorem kk_mm4 : ((0 : Int32) < -1) = False := by decide
theorem kk_mm5 : ((-1 : Int32) ≤ 0) = True := by decide
theorem kk_cl (ha : a < 2147483648) : (nI a).toNatClampNeg = a := nI_clamp ha
theorem kk_in (ha : a < 2147483648) : (fx_in (nI a) m = true) = (a < m) := by
  apply propext
  simp only [fx_in, Bool.and_eq_true, decide_eq_true_eq, nI_clamp ha]
  exact ⟨fun h => h.2, fun h => ⟨nI_pos ha, h⟩⟩
theorem kk_sub (h : b ≤ a) : nI a - nI b = nI (a - b) := pk_sub h
theorem kk_p1 (h : 0 < a) : nI a + (-1) = nI (a - 1) := sb_m1 h
theorem kk_sh31 : ∀ n, n < 32 → ((nI n &&& 31).toBitVec.smod 32).toNat = n := by decide +kernel
theorem kk_shl (hc : c < 32) : nI a <<< (nI c &&& 31) = nI (a * 2 ^ c) := by
  apply Int32.toBitVec_inj.1
  apply BitVec.eq_of_toNat_eq
  rw [pk_shl _ _ c (kk_sh31 c hc)]
  show (BitVec.ofNat 32 a).toNat * 2 ^ c % 2 ^ 32 = (BitVec.ofNat 32 (a * 2 ^ c)).toNat
  simp only [BitVec.toNat_ofNat]
  rw [Nat.mod_mul_mod]
theorem kk_shr (ha : a < 2147483648) (hc : c < 32) : nI a >>> (nI c &&& 31) = nI (a / 2 ^ c) := pk_shrN ha _ c (kk_sh31 c hc)
theorem kk_and : nI a &&& nI b = nI (a &&& b) := by
  apply Int32.toBitVec_inj.1
  show BitVec.ofNat 32 a &&& BitVec.ofNat 32 b = BitVec.ofNat 32 (a &&& b)
  apply BitVec.eq_of_getLsbD_eq
  intro i hi
  simp [hi]
theorem kk_or : nI a ||| nI b = nI (a ||| b) := by
  apply Int32.toBitVec_inj.1
  show BitVec.ofNat 32 a ||| BitVec.ofNat 32 b = BitVec.ofNat 32 (a ||| b)
  apply BitVec.eq_of_getLsbD_eq
  intro i hi
  simp [hi]
theorem kk_xor : nI a ^^^ nI b = nI (a ^^^ b) := by
  apply Int32.toBitVec_inj.1
  show BitVec.ofNat 32 a ^^^ BitVec.ofNat 32 b = BitVec.ofNat 32 (a ^^^ b)
  apply BitVec.eq_of_getLsbD_eq
  intro i hi
  simp [hi]
theorem kk_rem (ha : a < 2147483648) (h0 : 0 < b) (hb : b < 2147483648) : nI a - nI a / nI b * nI b = nI (a % b) := pk_rem ha h0 hb
theorem kk_rem2 : nI a - nI (a / b * b) = nI (a % b) := by
  rw [pk_sub (Nat.div_mul_le_self a b)]
  congr 1
  have := Nat.div_add_mod a b
  rw [Nat.mul_comm] at this
  omega
theorem kk_div (ha : a < 2147483648) (h0 : 0 < b) (hb : b < 2147483648) : nI a / nI b = nI (a / b) := pk_div ha h0 hb
theorem kk_z1 : (nI 1 = 1) = True := eq_true rfl
theorem kk_len : Int32.ofNat m = nI m := rfl
theorem kk_tb : a / 2 ^ c &&& 1 = (a.testBit c).toNat := by rw [Nat.and_one_is_mod, Nat.toNat_testBit]
theorem kk_b0 {x : Bool} : (nI x.toNat = 0) = (x = false) := by cases x <;> simp <;> decide
theorem kk_b1 {x : Bool} : (nI x.toNat = nI 1) = (x = true) := by cases x <;> simp <;> decide
theorem kk_max (ha : a < 2147483648) (hb : b < 2147483648) : (if nI a < nI b then nI b else nI a) = nI (max a b) := by
  by_cases h : a < b
  · rw [if_pos (nI_lt h hb), Nat.max_eq_right (by omega)]
  · rw [if_neg (nI_nlt (by omega) ha), Nat.max_eq_left (by omega)]
theorem kk_min (ha : a < 2147483648) (hb : b < 2147483648) : (if nI b < nI a then nI b else nI a) = nI (min a b) := by
  by_cases h : b < a
  · rw [if_pos (nI_lt h ha), Nat.min_eq_right (by omega)]
  · rw [if_neg (nI_nlt (by omega) hb), Nat.min_eq_left (by omega)]
theorem kk_ln : Int64.ofNat m = lN m := rfl
theorem kk_i2l (h : a < 2147483648) : (nI a).toInt64 = lN a := nI_l h
theorem kk_tI (ha : a < 2147483648) : (nI a).toInt = (a : Int) := nI_toInt ha
end
theorem fl_int {x : Int32} : (Value.int x).category = 1 := rfl
theorem fl_ref {x : Nat} : (Value.ref x).category = 1 := rfl
theorem fl_ra {x : Nat} : (Value.retAddr x).category = 1 := rfl
theorem fl_long {x : Int64} : (Value.long x).category = 2 := rfl
section
variable {sc : Nat × (Nat → Int32)} {d : Nat} {hn : Nat → Option (Nat × Nat)} {cdm k : List Instr} {ls st : List Value} {h : fx_H} {Q : fx_R → Prop}
theorem wK_t {rest : List Value} {sp g : Nat} (h1 : hn g = none) (h2 : sp ≠ 1) : wK sc d hn cdm k ls rest sp Q (.inr g, h) = Q (.inr g, h) := by
  show (if sp = 1 then False else (match hn g with
    | some tg => wC sc d hn cdm (cdm.drop tg.1) (fx_set ls tg.2 fx_U) [] h Q
    | none => Q (.inr g, h))) = _
  rw [if_neg h2, h1]
end
theorem va_up_ne' {α : Type} {f : Nat → α} {a b : Nat} {v : α} (h : b ≠ a) : va_up f a v b = f b := by
  unfold va_up
  rw [if_neg h]
theorem va_up_se {α : Type} {f : Nat → α} {a : Nat} {v : α} : va_up f a v a = v := va_up_self _ _ _
theorem va_up_up {α : Type} {f : Nat → α} {a : Nat} {v w : α} : va_up (va_up f a v) a w = va_up f a w := by
  funext j
  unfold va_up
  split <;> rfl
/-- a row of ints, of longs -/
abbrev ar_I (n : Nat) (g : Nat → Int32) : va_E := .inl (1, n, .inl g)
abbrev ar_L (n : Nat) (g : Nat → Int64) : va_E := .inl (2, n, .inr (.inl g))
