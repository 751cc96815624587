/-! ===== the start: what stays as it is ===== -/
noncomputable def gv_L : List Cond := flatC (Jvm.Cond.and given_1 narrow_1)
theorem gv_in (ws : List Cond) (ps : List Nat) (hp : ws = ps.filterMap (fun i => gv_L[i]?)) : ∀ w ∈ ws, w ∈ gv_L := by
  intro w hw
  rw [hp] at hw
  obtain ⟨i, -, hi⟩ := List.mem_filterMap.mp hw
  exact List.mem_of_getElem? hi
theorem tb_in (ws : List Cond) (ps : List Nat) (hp : ws = ps.filterMap (fun i => tables_1[i]?)) : ∀ w ∈ ws, w ∈ lw_tbl := by
  intro w hw
  rw [hp] at hw
  obtain ⟨i, -, hi⟩ := List.mem_filterMap.mp hw
  exact List.mem_append_right _ (List.mem_of_getElem? hi)
/-- a text's first constant -/
noncomputable def tx_t (j : Nat) : Term := ([.string "FogWatch" 366, .string "FogWatch$Town" 80, .string "FogWatch$Town" 86, .string "FogWatch$Town" 88, .string "FogWatch$Town" 90, .string "FogWatch$Law" 100, .string "FogWatch$Law" 102, .string "FogWatch$Law" 104, .string "FogWatch$Law" 106, .string "FogWatch$Law" 108, .string "FogWatch$Law" 110, .string "FogWatch$Law" 89, .string "FogWatch$Law" 95, .string "FogWatch$Steps" 86, .string "FogWatch$Steps" 94, .string "FogWatch$Steps" 96, .string "FogWatch$Steps" 100, .string "FogWatch" 359] : List Term).getD j (.int 0)
noncomputable def tx_f (j : Nat) : Term := .field (tx_t j) "java/lang/String" "value" "[B"
noncomputable def tx_w (j : Nat) (l : List Int32) : List Cond := [Cond.exactly (tx_t j) "java/lang/String", Cond.eq (.field (tx_t j) "java/lang/String" "coder" "B") (.int 0), Cond.arrayOf (tx_f j) .byte, Cond.eq (.length (tx_f j)) (.int (Int32.ofNat l.length))] ++ (List.range l.length).map (fun k => Cond.eq (.elem (tx_f j) (.int (Int32.ofNat k))) (.int (l.getD k 0)))
set_option maxRecDepth 100000 in
theorem tx_i0 : ∀ w ∈ tx_w 0 (pg_tx.getD 0 []), w ∈ gv_L := gv_in _ [39, 40, 41, 42, 43, 44, 45, 46, 47, 48, 49, 50, 51, 52, 53, 54, 55, 56, 57, 58, 59, 60, 61, 62, 63, 64, 65, 66, 67, 68, 69, 70, 71, 72, 73] (by decide +kernel)
set_option maxRecDepth 100000 in
theorem tx_i1 : ∀ w ∈ tx_w 1 (pg_tx.getD 1 []), w ∈ gv_L := gv_in _ [74, 75, 76, 77, 78, 79, 80, 81, 82, 83] (by decide +kernel)
set_option maxRecDepth 100000 in
theorem tx_i2 : ∀ w ∈ tx_w 2 (pg_tx.getD 2 []), w ∈ gv_L := gv_in _ [84, 85, 86, 87, 88, 89, 90] (by decide +kernel)
set_option maxRecDepth 100000 in
theorem tx_i3 : ∀ w ∈ tx_w 3 (pg_tx.getD 3 []), w ∈ gv_L := gv_in _ [91, 92, 93, 94, 95, 96, 97] (by decide +kernel)
set_option maxRecDepth 100000 in
theorem tx_i4 : ∀ w ∈ tx_w 4 (pg_tx.getD 4 []), w ∈ gv_L := gv_in _ [98, 99, 100, 101, 102, 103, 104, 105, 106, 107] (by decide +kernel)
set_option maxRecDepth 100000 in
theorem tx_i5 : ∀ w ∈ tx_w 5 (pg_tx.getD 5 []), w ∈ gv_L := gv_in _ [108, 109, 110, 111, 112, 113, 114, 115, 116, 117, 118] (by decide +kernel)
set_option maxRecDepth 100000 in
theorem tx_i6 : ∀ w ∈ tx_w 6 (pg_tx.getD 6 []), w ∈ gv_L := gv_in _ [119, 120, 121, 122, 123, 124, 125, 126, 127] (by decide +kernel)
set_option maxRecDepth 100000 in
theorem tx_i7 : ∀ w ∈ tx_w 7 (pg_tx.getD 7 []), w ∈ gv_L := gv_in _ [128, 129, 130, 131, 132, 133, 134, 135] (by decide +kernel)
set_option maxRecDepth 100000 in
theorem tx_i8 : ∀ w ∈ tx_w 8 (pg_tx.getD 8 []), w ∈ gv_L := gv_in _ [136, 137, 138, 139, 140, 141, 142] (by decide +kernel)
set_option maxRecDepth 100000 in
theorem tx_i9 : ∀ w ∈ tx_w 9 (pg_tx.getD 9 []), w ∈ gv_L := gv_in _ [143, 144, 145, 146, 147, 148, 149] (by decide +kernel)
set_option maxRecDepth 100000 in
theorem tx_i10 : ∀ w ∈ tx_w 10 (pg_tx.getD 10 []), w ∈ gv_L := gv_in _ [150, 151, 152, 153, 154, 155, 156, 157, 158] (by decide +kernel)
set_option maxRecDepth 100000 in
theorem tx_i11 : ∀ w ∈ tx_w 11 (pg_tx.getD 11 []), w ∈ gv_L := gv_in _ [170, 171, 172, 173, 174, 175, 176, 177, 178] (by decide +kernel)
set_option maxRecDepth 100000 in
theorem tx_i12 : ∀ w ∈ tx_w 12 (pg_tx.getD 12 []), w ∈ gv_L := gv_in _ [179, 180, 181, 182, 183, 184, 185, 186] (by decide +kernel)
set_option maxRecDepth 100000 in
theorem tx_i13 : ∀ w ∈ tx_w 13 (pg_tx.getD 13 []), w ∈ gv_L := gv_in _ [187, 188, 189, 190, 191, 192, 193, 194] (by decide +kernel)
set_option maxRecDepth 100000 in
theorem tx_i14 : ∀ w ∈ tx_w 14 (pg_tx.getD 14 []), w ∈ gv_L := gv_in _ [203, 204, 205, 206, 207, 208, 209, 210] (by decide +kernel)
set_option maxRecDepth 100000 in
theorem tx_i15 : ∀ w ∈ tx_w 15 (pg_tx.getD 15 []), w ∈ gv_L := gv_in _ [211, 212, 213, 214, 215, 216, 217, 218] (by decide +kernel)
set_option maxRecDepth 100000 in
theorem tx_i16 : ∀ w ∈ tx_w 16 (pg_tx.getD 16 []), w ∈ gv_L := gv_in _ [229, 230, 231, 232, 233, 234, 235, 236, 237] (by decide +kernel)
set_option maxRecDepth 100000 in
theorem tx_i17 : ∀ w ∈ tx_w 17 (pg_tx.getD 17 []), w ∈ gv_L := gv_in _ [238, 239, 240, 241, 242, 243, 244, 245, 246, 247, 248, 249, 250, 251, 252, 253, 254, 255, 256, 257, 258, 259, 260, 261, 262] (by decide +kernel)
theorem tx_in (j : Nat) (hj : j < 18) : ∀ w ∈ tx_w j (pg_tx.getD j []), w ∈ gv_L := by
  rcases (show j = 0 ∨ j = 1 ∨ j = 2 ∨ j = 3 ∨ j = 4 ∨ j = 5 ∨ j = 6 ∨ j = 7 ∨ j = 8 ∨ j = 9 ∨ j = 10 ∨ j = 11 ∨ j = 12 ∨ j = 13 ∨ j = 14 ∨ j = 15 ∨ j = 16 ∨ j = 17 by omega) with rfl | rfl | rfl | rfl | rfl | rfl | rfl | rfl | rfl | rfl | rfl | rfl | rfl | rfl | rfl | rfl | rfl | rfl
  · exact tx_i0
  · exact tx_i1
  · exact tx_i2
  · exact tx_i3
  · exact tx_i4
  · exact tx_i5
  · exact tx_i6
  · exact tx_i7
  · exact tx_i8
  · exact tx_i9
  · exact tx_i10
  · exact tx_i11
  · exact tx_i12
  · exact tx_i13
  · exact tx_i14
  · exact tx_i15
  · exact tx_i16
  · exact tx_i17
noncomputable def tx_o : List (Nat × Nat × Nat) := [(1, 112, 4), (5, 92, 8), (5, 98, 10), (12, 209, 1), (12, 215, 2), (12, 216, 3), (12, 217, 4), (12, 292, 11), (12, 297, 12), (12, 277, 5), (12, 283, 6), (12, 285, 7), (12, 287, 8), (12, 289, 9), (12, 290, 10), (12, 312, 13), (12, 314, 14), (12, 316, 15), (12, 318, 16)]
set_option maxRecDepth 100000 in
theorem tx_oi : ∀ w ∈ tx_o.map (fun q => Cond.eq (tx_t q.2.2) (.string (pg_R q.1) q.2.1)), w ∈ gv_L := gv_in _ [169, 202, 228, 273, 281, 289, 300, 311, 320, 332, 342, 351, 359, 368, 378, 388, 397, 406, 416] (by decide +kernel)
set_option maxRecDepth 100000 in
theorem tx_ri : ∀ w ∈ pg_SL.map (fun q => Cond.stringRef q.1 q.2.1 q.2.2.1), w ∈ lw_tbl := tb_in _ [675, 736, 789, 790, 791, 875, 877, 878, 879, 880, 881, 882, 883, 884, 918, 920, 921, 922, 923, 924, 1060, 1626, 1632, 1633, 1634, 1694, 1699, 1704, 1709, 1710, 1711, 1712, 1713, 1725, 1726, 1727, 1728] (by decide +kernel)
set_option maxRecDepth 100000 in
theorem tx_sp : ∀ q ∈ pg_ST, q.2.2 < 18 ∧ (tx_t q.2.2 = .string (pg_R q.1) q.2.1 ∨ q ∈ tx_o) := by
  unfold pg_ST
  simp only [List.forall_mem_cons, List.not_mem_nil, false_imp_iff, implies_true, and_true]
  refine ⟨⟨by decide, .inl rfl⟩, ⟨by decide, .inl rfl⟩, ⟨by decide, .inl rfl⟩, ⟨by decide, .inl rfl⟩, ⟨by decide, .inl rfl⟩, ⟨by decide, .inl rfl⟩, ⟨by decide, .inl rfl⟩, ⟨by decide, .inl rfl⟩, ⟨by decide, .inl rfl⟩, ⟨by decide, .inl rfl⟩, ⟨by decide, .inl rfl⟩, ⟨by decide, .inr (List.mem_of_getElem? (i := 0) rfl)⟩, ⟨by decide, .inl rfl⟩, ⟨by decide, .inl rfl⟩, ⟨by decide, .inl rfl⟩, ⟨by decide, .inr (List.mem_of_getElem? (i := 1) rfl)⟩, ⟨by decide, .inl rfl⟩, ⟨by decide, .inl rfl⟩, ⟨by decide, .inr (List.mem_of_getElem? (i := 2) rfl)⟩, ⟨by decide, .inl rfl⟩, ⟨by decide, .inl rfl⟩, ⟨by decide, .inr (List.mem_of_getElem? (i := 3) rfl)⟩, ⟨by decide, .inr (List.mem_of_getElem? (i := 4) rfl)⟩, ⟨by decide, .inr (List.mem_of_getElem? (i := 5) rfl)⟩, ⟨by decide, .inr (List.mem_of_getElem? (i := 6) rfl)⟩, ⟨by decide, .inr (List.mem_of_getElem? (i := 7) rfl)⟩, ⟨by decide, .inr (List.mem_of_getElem? (i := 8) rfl)⟩, ⟨by decide, .inr (List.mem_of_getElem? (i := 9) rfl)⟩, ⟨by decide, .inr (List.mem_of_getElem? (i := 10) rfl)⟩, ⟨by decide, .inr (List.mem_of_getElem? (i := 11) rfl)⟩, ⟨by decide, .inr (List.mem_of_getElem? (i := 12) rfl)⟩, ⟨by decide, .inr (List.mem_of_getElem? (i := 13) rfl)⟩, ⟨by decide, .inr (List.mem_of_getElem? (i := 14) rfl)⟩, ⟨by decide, .inr (List.mem_of_getElem? (i := 15) rfl)⟩, ⟨by decide, .inr (List.mem_of_getElem? (i := 16) rfl)⟩, ⟨by decide, .inr (List.mem_of_getElem? (i := 17) rfl)⟩, ⟨by decide, .inr (List.mem_of_getElem? (i := 18) rfl)⟩⟩
noncomputable def st_w : List Cond := [Cond.laysStatic "java/lang/Throwable" "UNASSIGNED_STACK" "[Ljava/lang/StackTraceElement;", Cond.laysStatic "java/lang/Throwable" "SUPPRESSED_SENTINEL" "Ljava/util/List;", Cond.laysStatic "java/lang/String" "COMPACT_STRINGS" "Z", Cond.laysStatic "jdk/internal/util/Preconditions" "SIOOBE_FORMATTER" "Ljava/util/function/BiFunction;", Cond.initialized "java/lang/Throwable", Cond.initialized "java/lang/String", Cond.initialized "jdk/internal/util/Preconditions", Cond.arrayClass .byte, Cond.arrayClass .int, Cond.arrayClass .long, Cond.arrayOver (.object "FogWatch$Scene"), Cond.arrayOver (.object "FogWatch$Story")]
set_option maxRecDepth 100000 in
theorem st_wi : ∀ w ∈ st_w, w ∈ lw_tbl := tb_in _ [662, 664, 750, 766, 15, 19, 21, 70, 104, 259, 216, 229] (by decide +kernel)
noncomputable def st_g : List Cond := [Cond.isRef (.static "java/lang/Throwable" "UNASSIGNED_STACK" "[Ljava/lang/StackTraceElement;"), Cond.isRef (.static "java/lang/Throwable" "SUPPRESSED_SENTINEL" "Ljava/util/List;"), Cond.eq (.static "java/lang/String" "COMPACT_STRINGS" "Z") (.int 1), Cond.isRef (.static "jdk/internal/util/Preconditions" "SIOOBE_FORMATTER" "Ljava/util/function/BiFunction;"), Cond.not (.castable "java/lang/IllegalArgumentException" "java/util/NoSuchElementException")]
set_option maxRecDepth 100000 in
theorem st_gi : ∀ w ∈ st_g, w ∈ gv_L := gv_in _ [4, 5, 6, 7, 38] (by decide +kernel)
