/-! ===== the reference: its cells as a function of its numbers (by field) and rows (by cell); by wip/whole/mk_mod.py ===== -/
def MF (I : Nat → Int32) : List Value := [.int (I 0), .ref 199, .int (I 2), .int (I 3), .int (I 4), .int (I 5), .int (I 6), .int (I 7), .int (I 8), .ref 200, .ref 201, .ref 202, .ref 203, .ref 204, .ref 205, .ref 206, .int (I 16), .int (I 17), .int (I 18), .int (I 19), .int (I 20), .int (I 21), .ref 207, .ref 208, .ref 209, .ref 210, .ref 211, .int (I 27), .int (I 28), .ref 212, .ref 213, .ref 214, .int (I 32), .int (I 33), .int (I 34), .int (I 35), .int (I 36), .int (I 37), .ref 215, .ref 216, .ref 217, .int (I 41), .int (I 42), .ref 218, .ref 219, .ref 220, .ref 221, .ref 222, .ref 223, .ref 224, .ref 225, .ref 226, .ref 227, .ref 228, .ref 229, .ref 230, .int (I 56), .ref 231, .int (I 58)]
def mo_n (c : Nat) : Nat := ([2, 600, 10, 40, 5, 10, 40, 5, 150, 150, 150, 150, 150, 7, 150, 150, 20, 20, 20, 35, 35, 560, 1024, 1024, 1024, 1024, 100, 10, 10, 10, 11, 100, 1788] : List Nat).getD (c - 199) 0
def mh (f : Nat → va_E) (I : Nat → Int32) (A : Nat → Nat → Int32) (L : Nat → Nat → Int64) : Nat → va_E := fun c => if c < 198 then f c else if c = 198 then .inr (12, MF I) else if c = 226 ∨ c = 227 then ar_L 10 (L c) else if c < 232 then ar_I (mo_n c) (A c) else f c
section
variable {f : Nat → va_E} {I I2 : Nat → Int32} {A : Nat → Nat → Int32} {L : Nat → Nat → Int64} {x : Int32} {g : Nat → Int32} {gl : Nat → Int64} {c n : Nat} {e : va_E}
theorem mh_o : mh f I A L 198 = .inr (12, MF I) := rfl
theorem mh_f (h : c < 198 ∨ 231 < c) : mh f I A L c = f c := by
  unfold mh
  split
  · rfl
  · rw [if_neg (by omega), if_neg (by omega), if_neg (by omega)]
theorem MF_n : (MF I).length = 59 := rfl
theorem mh_uo : va_up (mh f I A L) 198 (.inr (12, MF I2)) = mh f I2 A L := by
  funext j
  by_cases h : j = 198
  · subst h; rfl
  · rw [va_up_ne' h]; unfold mh; rw [if_neg h, if_neg h]
theorem mh_uf (h : c < 198 ∨ 231 < c) : va_up (mh f I A L) c e = mh (va_up f c e) I A L := by
  funext j
  by_cases hj : j = c
  · subst hj; rw [va_up_se, mh_f h, va_up_se]
  · rw [va_up_ne' hj]; unfold mh; rw [va_up_ne' hj]
theorem mh_ua (h1 : 198 < c) (h2 : c < 232) (h3 : ¬ (c = 226 ∨ c = 227)) (hn : n = mo_n c) : va_up (mh f I A L) c (.inl (1, n, .inl g)) = mh f I (va_up A c g) L := by
  funext j
  rw [hn]
  by_cases hj : j = c
  · subst hj; rw [va_up_se]; unfold mh; rw [if_neg (by omega), if_neg (by omega), if_neg h3, if_pos h2, va_up_se]
  · rw [va_up_ne' hj]; unfold mh; rw [va_up_ne' hj]
theorem mh_ul (h3 : c = 226 ∨ c = 227) : va_up (mh f I A L) c (.inl (2, 10, .inr (.inl gl))) = mh f I A (va_up L c gl) := by
  funext j
  by_cases hj : j = c
  · subst hj; rw [va_up_se]; unfold mh; rw [if_neg (by omega), if_neg (by omega), if_pos h3, va_up_se]
  · rw [va_up_ne' hj]; unfold mh; rw [va_up_ne' hj]
theorem mh_199 : mh f I A L 199 = .inl (1, 2, .inl (A 199)) := rfl
theorem mw_199 : va_up (mh f I A L) 199 (.inl (1, 2, .inl g)) = mh f I (va_up A 199 g) L := mh_ua (by omega) (by omega) (by omega) rfl
theorem mh_200 : mh f I A L 200 = .inl (1, 600, .inl (A 200)) := rfl
theorem mw_200 : va_up (mh f I A L) 200 (.inl (1, 600, .inl g)) = mh f I (va_up A 200 g) L := mh_ua (by omega) (by omega) (by omega) rfl
theorem mh_201 : mh f I A L 201 = .inl (1, 10, .inl (A 201)) := rfl
theorem mw_201 : va_up (mh f I A L) 201 (.inl (1, 10, .inl g)) = mh f I (va_up A 201 g) L := mh_ua (by omega) (by omega) (by omega) rfl
theorem mh_202 : mh f I A L 202 = .inl (1, 40, .inl (A 202)) := rfl
theorem mw_202 : va_up (mh f I A L) 202 (.inl (1, 40, .inl g)) = mh f I (va_up A 202 g) L := mh_ua (by omega) (by omega) (by omega) rfl
theorem mh_203 : mh f I A L 203 = .inl (1, 5, .inl (A 203)) := rfl
theorem mw_203 : va_up (mh f I A L) 203 (.inl (1, 5, .inl g)) = mh f I (va_up A 203 g) L := mh_ua (by omega) (by omega) (by omega) rfl
theorem mh_204 : mh f I A L 204 = .inl (1, 10, .inl (A 204)) := rfl
theorem mw_204 : va_up (mh f I A L) 204 (.inl (1, 10, .inl g)) = mh f I (va_up A 204 g) L := mh_ua (by omega) (by omega) (by omega) rfl
theorem mh_205 : mh f I A L 205 = .inl (1, 40, .inl (A 205)) := rfl
theorem mw_205 : va_up (mh f I A L) 205 (.inl (1, 40, .inl g)) = mh f I (va_up A 205 g) L := mh_ua (by omega) (by omega) (by omega) rfl
theorem mh_206 : mh f I A L 206 = .inl (1, 5, .inl (A 206)) := rfl
theorem mw_206 : va_up (mh f I A L) 206 (.inl (1, 5, .inl g)) = mh f I (va_up A 206 g) L := mh_ua (by omega) (by omega) (by omega) rfl
theorem mh_207 : mh f I A L 207 = .inl (1, 150, .inl (A 207)) := rfl
theorem mw_207 : va_up (mh f I A L) 207 (.inl (1, 150, .inl g)) = mh f I (va_up A 207 g) L := mh_ua (by omega) (by omega) (by omega) rfl
theorem mh_208 : mh f I A L 208 = .inl (1, 150, .inl (A 208)) := rfl
theorem mw_208 : va_up (mh f I A L) 208 (.inl (1, 150, .inl g)) = mh f I (va_up A 208 g) L := mh_ua (by omega) (by omega) (by omega) rfl
theorem mh_209 : mh f I A L 209 = .inl (1, 150, .inl (A 209)) := rfl
theorem mw_209 : va_up (mh f I A L) 209 (.inl (1, 150, .inl g)) = mh f I (va_up A 209 g) L := mh_ua (by omega) (by omega) (by omega) rfl
theorem mh_210 : mh f I A L 210 = .inl (1, 150, .inl (A 210)) := rfl
theorem mw_210 : va_up (mh f I A L) 210 (.inl (1, 150, .inl g)) = mh f I (va_up A 210 g) L := mh_ua (by omega) (by omega) (by omega) rfl
theorem mh_211 : mh f I A L 211 = .inl (1, 150, .inl (A 211)) := rfl
theorem mw_211 : va_up (mh f I A L) 211 (.inl (1, 150, .inl g)) = mh f I (va_up A 211 g) L := mh_ua (by omega) (by omega) (by omega) rfl
theorem mh_212 : mh f I A L 212 = .inl (1, 7, .inl (A 212)) := rfl
theorem mw_212 : va_up (mh f I A L) 212 (.inl (1, 7, .inl g)) = mh f I (va_up A 212 g) L := mh_ua (by omega) (by omega) (by omega) rfl
theorem mh_213 : mh f I A L 213 = .inl (1, 150, .inl (A 213)) := rfl
theorem mw_213 : va_up (mh f I A L) 213 (.inl (1, 150, .inl g)) = mh f I (va_up A 213 g) L := mh_ua (by omega) (by omega) (by omega) rfl
theorem mh_214 : mh f I A L 214 = .inl (1, 150, .inl (A 214)) := rfl
theorem mw_214 : va_up (mh f I A L) 214 (.inl (1, 150, .inl g)) = mh f I (va_up A 214 g) L := mh_ua (by omega) (by omega) (by omega) rfl
theorem mh_215 : mh f I A L 215 = .inl (1, 20, .inl (A 215)) := rfl
theorem mw_215 : va_up (mh f I A L) 215 (.inl (1, 20, .inl g)) = mh f I (va_up A 215 g) L := mh_ua (by omega) (by omega) (by omega) rfl
theorem mh_216 : mh f I A L 216 = .inl (1, 20, .inl (A 216)) := rfl
theorem mw_216 : va_up (mh f I A L) 216 (.inl (1, 20, .inl g)) = mh f I (va_up A 216 g) L := mh_ua (by omega) (by omega) (by omega) rfl
theorem mh_217 : mh f I A L 217 = .inl (1, 20, .inl (A 217)) := rfl
theorem mw_217 : va_up (mh f I A L) 217 (.inl (1, 20, .inl g)) = mh f I (va_up A 217 g) L := mh_ua (by omega) (by omega) (by omega) rfl
theorem mh_218 : mh f I A L 218 = .inl (1, 35, .inl (A 218)) := rfl
theorem mw_218 : va_up (mh f I A L) 218 (.inl (1, 35, .inl g)) = mh f I (va_up A 218 g) L := mh_ua (by omega) (by omega) (by omega) rfl
theorem mh_219 : mh f I A L 219 = .inl (1, 35, .inl (A 219)) := rfl
theorem mw_219 : va_up (mh f I A L) 219 (.inl (1, 35, .inl g)) = mh f I (va_up A 219 g) L := mh_ua (by omega) (by omega) (by omega) rfl
theorem mh_220 : mh f I A L 220 = .inl (1, 560, .inl (A 220)) := rfl
theorem mw_220 : va_up (mh f I A L) 220 (.inl (1, 560, .inl g)) = mh f I (va_up A 220 g) L := mh_ua (by omega) (by omega) (by omega) rfl
theorem mh_221 : mh f I A L 221 = .inl (1, 1024, .inl (A 221)) := rfl
theorem mw_221 : va_up (mh f I A L) 221 (.inl (1, 1024, .inl g)) = mh f I (va_up A 221 g) L := mh_ua (by omega) (by omega) (by omega) rfl
theorem mh_222 : mh f I A L 222 = .inl (1, 1024, .inl (A 222)) := rfl
theorem mw_222 : va_up (mh f I A L) 222 (.inl (1, 1024, .inl g)) = mh f I (va_up A 222 g) L := mh_ua (by omega) (by omega) (by omega) rfl
theorem mh_223 : mh f I A L 223 = .inl (1, 1024, .inl (A 223)) := rfl
theorem mw_223 : va_up (mh f I A L) 223 (.inl (1, 1024, .inl g)) = mh f I (va_up A 223 g) L := mh_ua (by omega) (by omega) (by omega) rfl
theorem mh_224 : mh f I A L 224 = .inl (1, 1024, .inl (A 224)) := rfl
theorem mw_224 : va_up (mh f I A L) 224 (.inl (1, 1024, .inl g)) = mh f I (va_up A 224 g) L := mh_ua (by omega) (by omega) (by omega) rfl
theorem mh_225 : mh f I A L 225 = .inl (1, 100, .inl (A 225)) := rfl
theorem mw_225 : va_up (mh f I A L) 225 (.inl (1, 100, .inl g)) = mh f I (va_up A 225 g) L := mh_ua (by omega) (by omega) (by omega) rfl
theorem mh_226 : mh f I A L 226 = .inl (2, 10, .inr (.inl (L 226))) := rfl
theorem mw_226 : va_up (mh f I A L) 226 (.inl (2, 10, .inr (.inl gl))) = mh f I A (va_up L 226 gl) := mh_ul (by omega)
theorem mh_227 : mh f I A L 227 = .inl (2, 10, .inr (.inl (L 227))) := rfl
theorem mw_227 : va_up (mh f I A L) 227 (.inl (2, 10, .inr (.inl gl))) = mh f I A (va_up L 227 gl) := mh_ul (by omega)
theorem mh_228 : mh f I A L 228 = .inl (1, 10, .inl (A 228)) := rfl
theorem mw_228 : va_up (mh f I A L) 228 (.inl (1, 10, .inl g)) = mh f I (va_up A 228 g) L := mh_ua (by omega) (by omega) (by omega) rfl
theorem mh_229 : mh f I A L 229 = .inl (1, 11, .inl (A 229)) := rfl
theorem mw_229 : va_up (mh f I A L) 229 (.inl (1, 11, .inl g)) = mh f I (va_up A 229 g) L := mh_ua (by omega) (by omega) (by omega) rfl
theorem mh_230 : mh f I A L 230 = .inl (1, 100, .inl (A 230)) := rfl
theorem mw_230 : va_up (mh f I A L) 230 (.inl (1, 100, .inl g)) = mh f I (va_up A 230 g) L := mh_ua (by omega) (by omega) (by omega) rfl
theorem mh_231 : mh f I A L 231 = .inl (1, 1788, .inl (A 231)) := rfl
theorem mw_231 : va_up (mh f I A L) 231 (.inl (1, 1788, .inl g)) = mh f I (va_up A 231 g) L := mh_ua (by omega) (by omega) (by omega) rfl
theorem mf_0 : (MF I)[0]? = some (.int (I 0)) := rfl
theorem ms_0 : (MF I).set 0 (.int x) = MF (va_up I 0 x) := rfl
theorem mf_1 : (MF I)[1]? = some (.ref 199) := rfl
theorem mf_2 : (MF I)[2]? = some (.int (I 2)) := rfl
theorem ms_2 : (MF I).set 2 (.int x) = MF (va_up I 2 x) := rfl
theorem mf_3 : (MF I)[3]? = some (.int (I 3)) := rfl
theorem ms_3 : (MF I).set 3 (.int x) = MF (va_up I 3 x) := rfl
theorem mf_4 : (MF I)[4]? = some (.int (I 4)) := rfl
theorem ms_4 : (MF I).set 4 (.int x) = MF (va_up I 4 x) := rfl
theorem mf_5 : (MF I)[5]? = some (.int (I 5)) := rfl
theorem ms_5 : (MF I).set 5 (.int x) = MF (va_up I 5 x) := rfl
theorem mf_6 : (MF I)[6]? = some (.int (I 6)) := rfl
theorem ms_6 : (MF I).set 6 (.int x) = MF (va_up I 6 x) := rfl
theorem mf_7 : (MF I)[7]? = some (.int (I 7)) := rfl
theorem ms_7 : (MF I).set 7 (.int x) = MF (va_up I 7 x) := rfl
theorem mf_8 : (MF I)[8]? = some (.int (I 8)) := rfl
theorem ms_8 : (MF I).set 8 (.int x) = MF (va_up I 8 x) := rfl
theorem mf_9 : (MF I)[9]? = some (.ref 200) := rfl
theorem mf_10 : (MF I)[10]? = some (.ref 201) := rfl
theorem mf_11 : (MF I)[11]? = some (.ref 202) := rfl
theorem mf_12 : (MF I)[12]? = some (.ref 203) := rfl
theorem mf_13 : (MF I)[13]? = some (.ref 204) := rfl
theorem mf_14 : (MF I)[14]? = some (.ref 205) := rfl
theorem mf_15 : (MF I)[15]? = some (.ref 206) := rfl
theorem mf_16 : (MF I)[16]? = some (.int (I 16)) := rfl
theorem ms_16 : (MF I).set 16 (.int x) = MF (va_up I 16 x) := rfl
theorem mf_17 : (MF I)[17]? = some (.int (I 17)) := rfl
theorem ms_17 : (MF I).set 17 (.int x) = MF (va_up I 17 x) := rfl
theorem mf_18 : (MF I)[18]? = some (.int (I 18)) := rfl
theorem ms_18 : (MF I).set 18 (.int x) = MF (va_up I 18 x) := rfl
theorem mf_19 : (MF I)[19]? = some (.int (I 19)) := rfl
theorem ms_19 : (MF I).set 19 (.int x) = MF (va_up I 19 x) := rfl
theorem mf_20 : (MF I)[20]? = some (.int (I 20)) := rfl
theorem ms_20 : (MF I).set 20 (.int x) = MF (va_up I 20 x) := rfl
theorem mf_21 : (MF I)[21]? = some (.int (I 21)) := rfl
theorem ms_21 : (MF I).set 21 (.int x) = MF (va_up I 21 x) := rfl
theorem mf_22 : (MF I)[22]? = some (.ref 207) := rfl
theorem mf_23 : (MF I)[23]? = some (.ref 208) := rfl
theorem mf_24 : (MF I)[24]? = some (.ref 209) := rfl
theorem mf_25 : (MF I)[25]? = some (.ref 210) := rfl
theorem mf_26 : (MF I)[26]? = some (.ref 211) := rfl
theorem mf_27 : (MF I)[27]? = some (.int (I 27)) := rfl
theorem ms_27 : (MF I).set 27 (.int x) = MF (va_up I 27 x) := rfl
theorem mf_28 : (MF I)[28]? = some (.int (I 28)) := rfl
theorem ms_28 : (MF I).set 28 (.int x) = MF (va_up I 28 x) := rfl
theorem mf_29 : (MF I)[29]? = some (.ref 212) := rfl
theorem mf_30 : (MF I)[30]? = some (.ref 213) := rfl
theorem mf_31 : (MF I)[31]? = some (.ref 214) := rfl
theorem mf_32 : (MF I)[32]? = some (.int (I 32)) := rfl
theorem ms_32 : (MF I).set 32 (.int x) = MF (va_up I 32 x) := rfl
theorem mf_33 : (MF I)[33]? = some (.int (I 33)) := rfl
theorem ms_33 : (MF I).set 33 (.int x) = MF (va_up I 33 x) := rfl
theorem mf_34 : (MF I)[34]? = some (.int (I 34)) := rfl
theorem ms_34 : (MF I).set 34 (.int x) = MF (va_up I 34 x) := rfl
theorem mf_35 : (MF I)[35]? = some (.int (I 35)) := rfl
theorem ms_35 : (MF I).set 35 (.int x) = MF (va_up I 35 x) := rfl
theorem mf_36 : (MF I)[36]? = some (.int (I 36)) := rfl
theorem ms_36 : (MF I).set 36 (.int x) = MF (va_up I 36 x) := rfl
theorem mf_37 : (MF I)[37]? = some (.int (I 37)) := rfl
theorem ms_37 : (MF I).set 37 (.int x) = MF (va_up I 37 x) := rfl
theorem mf_38 : (MF I)[38]? = some (.ref 215) := rfl
theorem mf_39 : (MF I)[39]? = some (.ref 216) := rfl
theorem mf_40 : (MF I)[40]? = some (.ref 217) := rfl
theorem mf_41 : (MF I)[41]? = some (.int (I 41)) := rfl
theorem ms_41 : (MF I).set 41 (.int x) = MF (va_up I 41 x) := rfl
theorem mf_42 : (MF I)[42]? = some (.int (I 42)) := rfl
theorem ms_42 : (MF I).set 42 (.int x) = MF (va_up I 42 x) := rfl
theorem mf_43 : (MF I)[43]? = some (.ref 218) := rfl
theorem mf_44 : (MF I)[44]? = some (.ref 219) := rfl
theorem mf_45 : (MF I)[45]? = some (.ref 220) := rfl
theorem mf_46 : (MF I)[46]? = some (.ref 221) := rfl
theorem mf_47 : (MF I)[47]? = some (.ref 222) := rfl
theorem mf_48 : (MF I)[48]? = some (.ref 223) := rfl
theorem mf_49 : (MF I)[49]? = some (.ref 224) := rfl
theorem mf_50 : (MF I)[50]? = some (.ref 225) := rfl
theorem mf_51 : (MF I)[51]? = some (.ref 226) := rfl
theorem mf_52 : (MF I)[52]? = some (.ref 227) := rfl
theorem mf_53 : (MF I)[53]? = some (.ref 228) := rfl
theorem mf_54 : (MF I)[54]? = some (.ref 229) := rfl
theorem mf_55 : (MF I)[55]? = some (.ref 230) := rfl
theorem mf_56 : (MF I)[56]? = some (.int (I 56)) := rfl
theorem ms_56 : (MF I).set 56 (.int x) = MF (va_up I 56 x) := rfl
theorem mf_57 : (MF I)[57]? = some (.ref 231) := rfl
theorem mf_58 : (MF I)[58]? = some (.int (I 58)) := rfl
theorem ms_58 : (MF I).set 58 (.int x) = MF (va_up I 58 x) := rfl
end
