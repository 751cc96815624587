/-! ===== entries and blocks (by wip/whole/mk_entries.py) ===== -/
theorem ci_m20 : Int32.ofInt (-20) = -20 := rfl
theorem ci_m8 : Int32.ofInt (-8) = -8 := rfl
theorem ci_m1 : Int32.ofInt (-1) = -1 := rfl
theorem ci_0 : Int32.ofInt (0) = 0 := rfl
theorem ci_1 : Int32.ofInt (1) = 1 := rfl
theorem ci_2 : Int32.ofInt (2) = 2 := rfl
theorem ci_3 : Int32.ofInt (3) = 3 := rfl
theorem ci_4 : Int32.ofInt (4) = 4 := rfl
theorem ci_5 : Int32.ofInt (5) = 5 := rfl
theorem ci_6 : Int32.ofInt (6) = 6 := rfl
theorem ci_7 : Int32.ofInt (7) = 7 := rfl
theorem ci_8 : Int32.ofInt (8) = 8 := rfl
theorem ci_9 : Int32.ofInt (9) = 9 := rfl
theorem ci_10 : Int32.ofInt (10) = 10 := rfl
theorem ci_11 : Int32.ofInt (11) = 11 := rfl
theorem ci_12 : Int32.ofInt (12) = 12 := rfl
theorem ci_15 : Int32.ofInt (15) = 15 := rfl
theorem ci_16 : Int32.ofInt (16) = 16 := rfl
theorem ci_20 : Int32.ofInt (20) = 20 := rfl
theorem ci_24 : Int32.ofInt (24) = 24 := rfl
theorem ci_30 : Int32.ofInt (30) = 30 := rfl
theorem ci_31 : Int32.ofInt (31) = 31 := rfl
theorem ci_32 : Int32.ofInt (32) = 32 := rfl
theorem ci_33 : Int32.ofInt (33) = 33 := rfl
theorem ci_34 : Int32.ofInt (34) = 34 := rfl
theorem ci_35 : Int32.ofInt (35) = 35 := rfl
theorem ci_37 : Int32.ofInt (37) = 37 := rfl
theorem ci_40 : Int32.ofInt (40) = 40 := rfl
theorem ci_41 : Int32.ofInt (41) = 41 := rfl
theorem ci_42 : Int32.ofInt (42) = 42 := rfl
theorem ci_43 : Int32.ofInt (43) = 43 := rfl
theorem ci_44 : Int32.ofInt (44) = 44 := rfl
theorem ci_45 : Int32.ofInt (45) = 45 := rfl
theorem ci_47 : Int32.ofInt (47) = 47 := rfl
theorem ci_48 : Int32.ofInt (48) = 48 := rfl
theorem ci_57 : Int32.ofInt (57) = 57 := rfl
theorem ci_59 : Int32.ofInt (59) = 59 := rfl
theorem ci_60 : Int32.ofInt (60) = 60 := rfl
theorem ci_63 : Int32.ofInt (63) = 63 := rfl
theorem ci_91 : Int32.ofInt (91) = 91 := rfl
theorem ci_93 : Int32.ofInt (93) = 93 := rfl
theorem ci_96 : Int32.ofInt (96) = 96 := rfl
theorem ci_97 : Int32.ofInt (97) = 97 := rfl
theorem ci_99 : Int32.ofInt (99) = 99 := rfl
theorem ci_100 : Int32.ofInt (100) = 100 := rfl
theorem ci_122 : Int32.ofInt (122) = 122 := rfl
theorem ci_128 : Int32.ofInt (128) = 128 := rfl
theorem ci_150 : Int32.ofInt (150) = 150 := rfl
theorem ci_200 : Int32.ofInt (200) = 200 := rfl
theorem ci_255 : Int32.ofInt (255) = 255 := rfl
theorem ci_400 : Int32.ofInt (400) = 400 := rfl
theorem ci_560 : Int32.ofInt (560) = 560 := rfl
theorem ci_596 : Int32.ofInt (596) = 596 := rfl
theorem ci_600 : Int32.ofInt (600) = 600 := rfl
theorem ci_999 : Int32.ofInt (999) = 999 := rfl
theorem ci_1024 : Int32.ofInt (1024) = 1024 := rfl
theorem ci_1788 : Int32.ofInt (1788) = 1788 := rfl
theorem ci_4096 : Int32.ofInt (4096) = 4096 := rfl
theorem ci_8400 : Int32.ofInt (8400) = 8400 := rfl
theorem ci_9999 : Int32.ofInt (9999) = 9999 := rfl
theorem ci_10000 : Int32.ofInt (10000) = 10000 := rfl
theorem ci_12345 : Int32.ofInt (12345) = 12345 := rfl
theorem ci_32767 : Int32.ofInt (32767) = 32767 := rfl
theorem ci_999999 : Int32.ofInt (999999) = 999999 := rfl
theorem ci_252645135 : Int32.ofInt (252645135) = 252645135 := rfl
theorem ci_858993459 : Int32.ofInt (858993459) = 858993459 := rfl
theorem ci_1103515245 : Int32.ofInt (1103515245) = 1103515245 := rfl
theorem ci_1431655765 : Int32.ofInt (1431655765) = 1431655765 := rfl
theorem ci_2147483647 : Int32.ofInt (2147483647) = 2147483647 := rfl
noncomputable def cm_0 : List Instr := cb_0_0
theorem en_0 {sc : Nat × (Nat → Int32)} {d : Nat} {h : fx_H} {Q : fx_R → Prop} {a0 : Int32} (hk : wC sc d (pg_hd 0) cm_0 cb_0_0 [.int a0] [] h Q) : wM sc (d + 1) 0 [.int a0] h Q := wM_enter (Nat.le_of_ble_eq_true rfl) hk
noncomputable def cm_1 : List Instr := cb_1_0
theorem en_1 {sc : Nat × (Nat → Int32)} {d : Nat} {h : fx_H} {Q : fx_R → Prop} {a0 : Nat} {a1 : Int64} (hk : wC sc d (pg_hd 1) cm_1 cb_1_0 [.ref a0, .long a1, fx_U, fx_U, fx_U] [] h Q) : wM sc (d + 1) 1 [.ref a0, .long a1] h Q := wM_enter (Nat.le_of_ble_eq_true rfl) hk
theorem jb_1_5 : cm_1.drop 5 = cb_1_5 := rfl
theorem jb_1_8 : cm_1.drop 8 = cb_1_8 := rfl
theorem jb_1_14 : cm_1.drop 14 = cb_1_14 := rfl
noncomputable def cm_2 : List Instr := cb_2_0
theorem en_2 {sc : Nat × (Nat → Int32)} {d : Nat} {h : fx_H} {Q : fx_R → Prop} {a0 : Nat} {a1 : Int32} (hk : wC sc d (pg_hd 2) cm_2 cb_2_0 [.ref a0, .int a1, fx_U, fx_U] [] h Q) : wM sc (d + 1) 2 [.ref a0, .int a1] h Q := wM_enter (Nat.le_of_ble_eq_true rfl) hk
theorem jb_2_5 : cm_2.drop 5 = cb_2_5 := rfl
theorem jb_2_8 : cm_2.drop 8 = cb_2_8 := rfl
theorem jb_2_14 : cm_2.drop 14 = cb_2_14 := rfl
noncomputable def cm_3 : List Instr := cb_3_0
theorem en_3 {sc : Nat × (Nat → Int32)} {d : Nat} {h : fx_H} {Q : fx_R → Prop} {a0 : Int32} {a1 : Int32} {a2 : UInt32} (hk : wC sc d (pg_hd 3) cm_3 cb_3_0 [.int a0, .int a1, .float a2] [] h Q) : wM sc (d + 1) 3 [.int a0, .int a1, .float a2] h Q := wM_enter (Nat.le_of_ble_eq_true rfl) hk
theorem jb_3_2 : cm_3.drop 2 = cb_3_2 := rfl
theorem jb_3_5 : cm_3.drop 5 = cb_3_5 := rfl
theorem jb_3_10 : cm_3.drop 10 = cb_3_10 := rfl
noncomputable def cm_4 : List Instr := cb_4_0
theorem en_4 {sc : Nat × (Nat → Int32)} {d : Nat} {h : fx_H} {Q : fx_R → Prop} {a0 : Nat} (hk : wC sc d (pg_hd 4) cm_4 cb_4_0 [.retAddr a0] [] h Q) : wM sc (d + 1) 4 [.retAddr a0] h Q := wM_enter (Nat.le_of_ble_eq_true rfl) hk
noncomputable def cm_5 : List Instr := cb_5_0
theorem en_5 {sc : Nat × (Nat → Int32)} {d : Nat} {h : fx_H} {Q : fx_R → Prop} {a0 : Nat} {a1 : Int32} (hk : wC sc d (pg_hd 5) cm_5 cb_5_0 [.retAddr a0, .int a1] [] h Q) : wM sc (d + 1) 5 [.retAddr a0, .int a1] h Q := wM_enter (Nat.le_of_ble_eq_true rfl) hk
theorem jb_5_3 : cm_5.drop 3 = cb_5_3 := rfl
theorem jb_5_8 : cm_5.drop 8 = cb_5_8 := rfl
noncomputable def cm_6 : List Instr := cb_6_0
theorem en_6 {sc : Nat × (Nat → Int32)} {d : Nat} {h : fx_H} {Q : fx_R → Prop} {a0 : Nat} (hk : wC sc d (pg_hd 6) cm_6 cb_6_0 [.retAddr a0] [] h Q) : wM sc (d + 1) 6 [.retAddr a0] h Q := wM_enter (Nat.le_of_ble_eq_true rfl) hk
theorem jb_6_2 : cm_6.drop 2 = cb_6_2 := rfl
theorem jb_6_5 : cm_6.drop 5 = cb_6_5 := rfl
theorem jb_6_6 : cm_6.drop 6 = cb_6_6 := rfl
noncomputable def cm_7 : List Instr := cb_7_0
theorem en_7 {sc : Nat × (Nat → Int32)} {d : Nat} {h : fx_H} {Q : fx_R → Prop} {a0 : Nat} (hk : wC sc d (pg_hd 7) cm_7 cb_7_0 [.retAddr a0] [] h Q) : wM sc (d + 1) 7 [.retAddr a0] h Q := wM_enter (Nat.le_of_ble_eq_true rfl) hk
theorem jb_7_2 : cm_7.drop 2 = cb_7_2 := rfl
theorem jb_7_5 : cm_7.drop 5 = cb_7_5 := rfl
theorem jb_7_7 : cm_7.drop 7 = cb_7_7 := rfl
theorem jb_7_8 : cm_7.drop 8 = cb_7_8 := rfl
noncomputable def cm_8 : List Instr := cb_8_0
theorem en_8 {sc : Nat × (Nat → Int32)} {d : Nat} {h : fx_H} {Q : fx_R → Prop} {a0 : Int32} {a1 : Int32} (hk : wC sc d (pg_hd 8) cm_8 cb_8_0 [.int a0, .int a1] [] h Q) : wM sc (d + 1) 8 [.int a0, .int a1] h Q := wM_enter (Nat.le_of_ble_eq_true rfl) hk
noncomputable def cm_9 : List Instr := cb_9_0
theorem en_9 {sc : Nat × (Nat → Int32)} {d : Nat} {h : fx_H} {Q : fx_R → Prop} {a0 : Nat} {a1 : Int32} (hk : wC sc d (pg_hd 9) cm_9 cb_9_0 [.retAddr a0, .int a1] [] h Q) : wM sc (d + 1) 9 [.retAddr a0, .int a1] h Q := wM_enter (Nat.le_of_ble_eq_true rfl) hk
noncomputable def cm_10 : List Instr := cb_10_0
theorem en_10 {sc : Nat × (Nat → Int32)} {d : Nat} {h : fx_H} {Q : fx_R → Prop} {a0 : Nat} (hk : wC sc d (pg_hd 10) cm_10 cb_10_0 [.ref a0] [] h Q) : wM sc (d + 1) 10 [.ref a0] h Q := wM_enter (Nat.le_of_ble_eq_true rfl) hk
noncomputable def cm_11 : List Instr := cb_11_0
theorem en_11 {sc : Nat × (Nat → Int32)} {d : Nat} {h : fx_H} {Q : fx_R → Prop} {a0 : Nat} {a1 : Int32} {a2 : Int32} {a3 : Int32} {a4 : Int32} {a5 : Int32} (hk : wC sc d (pg_hd 11) cm_11 cb_11_0 [.ref a0, .int a1, .int a2, .int a3, .int a4, .int a5] [] h Q) : wM sc (d + 1) 11 [.ref a0, .int a1, .int a2, .int a3, .int a4, .int a5] h Q := wM_enter (Nat.le_of_ble_eq_true rfl) hk
theorem jb_11_6 : cm_11.drop 6 = cb_11_6 := rfl
theorem jb_11_8 : cm_11.drop 8 = cb_11_8 := rfl
noncomputable def cm_12 : List Instr := cb_12_0
theorem en_12 {sc : Nat × (Nat → Int32)} {d : Nat} {h : fx_H} {Q : fx_R → Prop} {a0 : Nat} {a1 : Int32} (hk : wC sc d (pg_hd 12) cm_12 cb_12_0 [.ref a0, .int a1, fx_U] [] h Q) : wM sc (d + 1) 12 [.ref a0, .int a1] h Q := wM_enter (Nat.le_of_ble_eq_true rfl) hk
theorem jb_12_2 : cm_12.drop 2 = cb_12_2 := rfl
theorem jb_12_4 : cm_12.drop 4 = cb_12_4 := rfl
theorem jb_12_7 : cm_12.drop 7 = cb_12_7 := rfl
theorem jb_12_13 : cm_12.drop 13 = cb_12_13 := rfl
theorem jb_12_28 : cm_12.drop 28 = cb_12_28 := rfl
theorem jb_12_30 : cm_12.drop 30 = cb_12_30 := rfl
noncomputable def cm_13 : List Instr := cb_13_0
theorem en_13 {sc : Nat × (Nat → Int32)} {d : Nat} {h : fx_H} {Q : fx_R → Prop} {a0 : Nat} {a1 : Int32} (hk : wC sc d (pg_hd 13) cm_13 cb_13_0 [.ref a0, .int a1] [] h Q) : wM sc (d + 1) 13 [.ref a0, .int a1] h Q := wM_enter (Nat.le_of_ble_eq_true rfl) hk
noncomputable def cm_14 : List Instr := cb_14_0
theorem en_14 {sc : Nat × (Nat → Int32)} {d : Nat} {h : fx_H} {Q : fx_R → Prop} {a0 : Nat} (hk : wC sc d (pg_hd 14) cm_14 cb_14_0 [.ref a0] [] h Q) : wM sc (d + 1) 14 [.ref a0] h Q := wM_enter (Nat.le_of_ble_eq_true rfl) hk
theorem jb_14_3 : cm_14.drop 3 = cb_14_3 := rfl
theorem jb_14_5 : cm_14.drop 5 = cb_14_5 := rfl
theorem jb_14_6 : cm_14.drop 6 = cb_14_6 := rfl
noncomputable def cm_15 : List Instr := cb_15_0
theorem en_15 {sc : Nat × (Nat → Int32)} {d : Nat} {h : fx_H} {Q : fx_R → Prop} {a0 : Nat} {a1 : Int32} {a2 : Int32} (hk : wC sc d (pg_hd 15) cm_15 cb_15_0 [.ref a0, .int a1, .int a2] [] h Q) : wM sc (d + 1) 15 [.ref a0, .int a1, .int a2] h Q := wM_enter (Nat.le_of_ble_eq_true rfl) hk
theorem jb_15_3 : cm_15.drop 3 = cb_15_3 := rfl
theorem jb_15_9 : cm_15.drop 9 = cb_15_9 := rfl
noncomputable def cm_16 : List Instr := cb_16_0
theorem en_16 {sc : Nat × (Nat → Int32)} {d : Nat} {h : fx_H} {Q : fx_R → Prop} {a0 : Nat} {a1 : Int32} (hk : wC sc d (pg_hd 16) cm_16 cb_16_0 [.ref a0, .int a1] [] h Q) : wM sc (d + 1) 16 [.ref a0, .int a1] h Q := wM_enter (Nat.le_of_ble_eq_true rfl) hk
theorem jb_16_2 : cm_16.drop 2 = cb_16_2 := rfl
theorem jb_16_6 : cm_16.drop 6 = cb_16_6 := rfl
theorem jb_16_11 : cm_16.drop 11 = cb_16_11 := rfl
theorem jb_16_18 : cm_16.drop 18 = cb_16_18 := rfl
theorem jb_16_19 : cm_16.drop 19 = cb_16_19 := rfl
noncomputable def cm_17 : List Instr := cb_17_0
theorem en_17 {sc : Nat × (Nat → Int32)} {d : Nat} {h : fx_H} {Q : fx_R → Prop} {a0 : Nat} (hk : wC sc d (pg_hd 17) cm_17 cb_17_0 [.ref a0, fx_U, fx_U] [] h Q) : wM sc (d + 1) 17 [.ref a0] h Q := wM_enter (Nat.le_of_ble_eq_true rfl) hk
theorem jb_17_3 : cm_17.drop 3 = cb_17_3 := rfl
theorem jb_17_5 : cm_17.drop 5 = cb_17_5 := rfl
theorem jb_17_15 : cm_17.drop 15 = cb_17_15 := rfl
theorem jb_17_18 : cm_17.drop 18 = cb_17_18 := rfl
theorem jb_17_24 : cm_17.drop 24 = cb_17_24 := rfl
theorem jb_17_31 : cm_17.drop 31 = cb_17_31 := rfl
theorem jb_17_35 : cm_17.drop 35 = cb_17_35 := rfl
theorem jb_17_43 : cm_17.drop 43 = cb_17_43 := rfl
theorem jb_17_44 : cm_17.drop 44 = cb_17_44 := rfl
noncomputable def cm_18 : List Instr := cb_18_0
theorem en_18 {sc : Nat × (Nat → Int32)} {d : Nat} {h : fx_H} {Q : fx_R → Prop} {a0 : Nat} (hk : wC sc d (pg_hd 18) cm_18 cb_18_0 [.ref a0] [] h Q) : wM sc (d + 1) 18 [.ref a0] h Q := wM_enter (Nat.le_of_ble_eq_true rfl) hk
noncomputable def cm_19 : List Instr := cb_19_0
theorem en_19 {sc : Nat × (Nat → Int32)} {d : Nat} {h : fx_H} {Q : fx_R → Prop} {a0 : Nat} (hk : wC sc d (pg_hd 19) cm_19 cb_19_0 [.ref a0] [] h Q) : wM sc (d + 1) 19 [.ref a0] h Q := wM_enter (Nat.le_of_ble_eq_true rfl) hk
theorem jb_19_4 : cm_19.drop 4 = cb_19_4 := rfl
theorem jb_19_6 : cm_19.drop 6 = cb_19_6 := rfl
theorem jb_19_7 : cm_19.drop 7 = cb_19_7 := rfl
noncomputable def cm_20 : List Instr := cb_20_0
theorem en_20 {sc : Nat × (Nat → Int32)} {d : Nat} {h : fx_H} {Q : fx_R → Prop} {a0 : Nat} {a1 : Int32} (hk : wC sc d (pg_hd 20) cm_20 cb_20_0 [.ref a0, .int a1] [] h Q) : wM sc (d + 1) 20 [.ref a0, .int a1] h Q := wM_enter (Nat.le_of_ble_eq_true rfl) hk
theorem jb_20_4 : cm_20.drop 4 = cb_20_4 := rfl
theorem jb_20_11 : cm_20.drop 11 = cb_20_11 := rfl
theorem jb_20_16 : cm_20.drop 16 = cb_20_16 := rfl
noncomputable def cm_21 : List Instr := cb_21_0
theorem en_21 {sc : Nat × (Nat → Int32)} {d : Nat} {h : fx_H} {Q : fx_R → Prop} {a0 : Nat} (hk : wC sc d (pg_hd 21) cm_21 cb_21_0 [.ref a0, fx_U] [] h Q) : wM sc (d + 1) 21 [.ref a0] h Q := wM_enter (Nat.le_of_ble_eq_true rfl) hk
theorem jb_21_9 : cm_21.drop 9 = cb_21_9 := rfl
theorem jb_21_12 : cm_21.drop 12 = cb_21_12 := rfl
theorem jb_21_18 : cm_21.drop 18 = cb_21_18 := rfl
theorem jb_21_26 : cm_21.drop 26 = cb_21_26 := rfl
noncomputable def cm_22 : List Instr := cb_22_0
theorem en_22 {sc : Nat × (Nat → Int32)} {d : Nat} {h : fx_H} {Q : fx_R → Prop} {a0 : Nat} {a1 : Nat} (hk : wC sc d (pg_hd 22) cm_22 cb_22_0 [.ref a0, .retAddr a1, fx_U, fx_U] [] h Q) : wM sc (d + 1) 22 [.ref a0, .retAddr a1] h Q := wM_enter (Nat.le_of_ble_eq_true rfl) hk
theorem jb_22_3 : cm_22.drop 3 = cb_22_3 := rfl
theorem jb_22_11 : cm_22.drop 11 = cb_22_11 := rfl
theorem jb_22_13 : cm_22.drop 13 = cb_22_13 := rfl
theorem jb_22_15 : cm_22.drop 15 = cb_22_15 := rfl
theorem jb_22_19 : cm_22.drop 19 = cb_22_19 := rfl
theorem jb_22_26 : cm_22.drop 26 = cb_22_26 := rfl
theorem jb_22_31 : cm_22.drop 31 = cb_22_31 := rfl
theorem jb_22_39 : cm_22.drop 39 = cb_22_39 := rfl
theorem jb_22_41 : cm_22.drop 41 = cb_22_41 := rfl
theorem jb_22_43 : cm_22.drop 43 = cb_22_43 := rfl
noncomputable def cm_23 : List Instr := cb_23_0
theorem en_23 {sc : Nat × (Nat → Int32)} {d : Nat} {h : fx_H} {Q : fx_R → Prop} {a0 : Nat} {a1 : Int32} {a2 : Int32} (hk : wC sc d (pg_hd 23) cm_23 cb_23_0 [.ref a0, .int a1, .int a2, fx_U, fx_U] [] h Q) : wM sc (d + 1) 23 [.ref a0, .int a1, .int a2] h Q := wM_enter (Nat.le_of_ble_eq_true rfl) hk
theorem jb_23_4 : cm_23.drop 4 = cb_23_4 := rfl
theorem jb_23_11 : cm_23.drop 11 = cb_23_11 := rfl
theorem jb_23_19 : cm_23.drop 19 = cb_23_19 := rfl
theorem jb_23_22 : cm_23.drop 22 = cb_23_22 := rfl
theorem jb_23_28 : cm_23.drop 28 = cb_23_28 := rfl
theorem jb_23_49 : cm_23.drop 49 = cb_23_49 := rfl
theorem jb_23_52 : cm_23.drop 52 = cb_23_52 := rfl
theorem jb_23_55 : cm_23.drop 55 = cb_23_55 := rfl
theorem jb_23_62 : cm_23.drop 62 = cb_23_62 := rfl
noncomputable def cm_24 : List Instr := cb_24_0
theorem en_24 {sc : Nat × (Nat → Int32)} {d : Nat} {h : fx_H} {Q : fx_R → Prop} {a0 : Int32} (hk : wC sc d (pg_hd 24) cm_24 cb_24_0 [.int a0] [] h Q) : wM sc (d + 1) 24 [.int a0] h Q := wM_enter (Nat.le_of_ble_eq_true rfl) hk
theorem jb_24_3 : cm_24.drop 3 = cb_24_3 := rfl
theorem jb_24_6 : cm_24.drop 6 = cb_24_6 := rfl
theorem jb_24_8 : cm_24.drop 8 = cb_24_8 := rfl
theorem jb_24_9 : cm_24.drop 9 = cb_24_9 := rfl
noncomputable def cm_25 : List Instr := cb_25_0
theorem en_25 {sc : Nat × (Nat → Int32)} {d : Nat} {h : fx_H} {Q : fx_R → Prop} {a0 : Int32} (hk : wC sc d (pg_hd 25) cm_25 cb_25_0 [.int a0] [] h Q) : wM sc (d + 1) 25 [.int a0] h Q := wM_enter (Nat.le_of_ble_eq_true rfl) hk
theorem jb_25_3 : cm_25.drop 3 = cb_25_3 := rfl
theorem jb_25_6 : cm_25.drop 6 = cb_25_6 := rfl
theorem jb_25_8 : cm_25.drop 8 = cb_25_8 := rfl
theorem jb_25_9 : cm_25.drop 9 = cb_25_9 := rfl
noncomputable def cm_26 : List Instr := cb_26_0
theorem en_26 {sc : Nat × (Nat → Int32)} {d : Nat} {h : fx_H} {Q : fx_R → Prop} {a0 : Nat} (hk : wC sc d (pg_hd 26) cm_26 cb_26_0 [.ref a0] [] h Q) : wM sc (d + 1) 26 [.ref a0] h Q := wM_enter (Nat.le_of_ble_eq_true rfl) hk
noncomputable def cm_27 : List Instr := cb_27_0
theorem en_27 {sc : Nat × (Nat → Int32)} {d : Nat} {h : fx_H} {Q : fx_R → Prop} {a0 : Nat} (hk : wC sc d (pg_hd 27) cm_27 cb_27_0 [.ref a0] [] h Q) : wM sc (d + 1) 27 [.ref a0] h Q := wM_enter (Nat.le_of_ble_eq_true rfl) hk
noncomputable def cm_28 : List Instr := cb_28_0
theorem en_28 {sc : Nat × (Nat → Int32)} {d : Nat} {h : fx_H} {Q : fx_R → Prop} {a0 : Nat} {a1 : Int32} {a2 : Int32} (hk : wC sc d (pg_hd 28) cm_28 cb_28_0 [.ref a0, .int a1, .int a2] [] h Q) : wM sc (d + 1) 28 [.ref a0, .int a1, .int a2] h Q := wM_enter (Nat.le_of_ble_eq_true rfl) hk
theorem jb_28_3 : cm_28.drop 3 = cb_28_3 := rfl
theorem jb_28_9 : cm_28.drop 9 = cb_28_9 := rfl
theorem jb_28_15 : cm_28.drop 15 = cb_28_15 := rfl
theorem jb_28_33 : cm_28.drop 33 = cb_28_33 := rfl
noncomputable def cm_29 : List Instr := cb_29_0
theorem en_29 {sc : Nat × (Nat → Int32)} {d : Nat} {h : fx_H} {Q : fx_R → Prop} {a0 : Nat} {a1 : Nat} (hk : wC sc d (pg_hd 29) cm_29 cb_29_0 [.ref a0, .ref a1] [] h Q) : wM sc (d + 1) 29 [.ref a0, .ref a1] h Q := wM_enter (Nat.le_of_ble_eq_true rfl) hk
theorem jb_29_10 : cm_29.drop 10 = cb_29_10 := rfl
theorem jb_29_15 : cm_29.drop 15 = cb_29_15 := rfl
noncomputable def cm_30 : List Instr := cb_30_0
theorem en_30 {sc : Nat × (Nat → Int32)} {d : Nat} {h : fx_H} {Q : fx_R → Prop} {a0 : Nat} {a1 : Nat} {a2 : Int32} (hk : wC sc d (pg_hd 30) cm_30 cb_30_0 [.ref a0, .ref a1, .int a2, fx_U, fx_U] [] h Q) : wM sc (d + 1) 30 [.ref a0, .ref a1, .int a2] h Q := wM_enter (Nat.le_of_ble_eq_true rfl) hk
theorem jb_30_6 : cm_30.drop 6 = cb_30_6 := rfl
theorem jb_30_9 : cm_30.drop 9 = cb_30_9 := rfl
theorem jb_30_15 : cm_30.drop 15 = cb_30_15 := rfl
theorem jb_30_18 : cm_30.drop 18 = cb_30_18 := rfl
theorem jb_30_19 : cm_30.drop 19 = cb_30_19 := rfl
theorem jb_30_29 : cm_30.drop 29 = cb_30_29 := rfl
theorem jb_30_31 : cm_30.drop 31 = cb_30_31 := rfl
theorem jb_30_32 : cm_30.drop 32 = cb_30_32 := rfl
theorem jb_30_36 : cm_30.drop 36 = cb_30_36 := rfl
noncomputable def cm_31 : List Instr := cb_31_0
theorem en_31 {sc : Nat × (Nat → Int32)} {d : Nat} {h : fx_H} {Q : fx_R → Prop} {a0 : Nat} {a1 : Nat} {a2 : Int32} (hk : wC sc d (pg_hd 31) cm_31 cb_31_0 [.ref a0, .ref a1, .int a2, fx_U, fx_U] [] h Q) : wM sc (d + 1) 31 [.ref a0, .ref a1, .int a2] h Q := wM_enter (Nat.le_of_ble_eq_true rfl) hk
theorem jb_31_6 : cm_31.drop 6 = cb_31_6 := rfl
theorem jb_31_9 : cm_31.drop 9 = cb_31_9 := rfl
theorem jb_31_15 : cm_31.drop 15 = cb_31_15 := rfl
theorem jb_31_18 : cm_31.drop 18 = cb_31_18 := rfl
theorem jb_31_21 : cm_31.drop 21 = cb_31_21 := rfl
theorem jb_31_22 : cm_31.drop 22 = cb_31_22 := rfl
theorem jb_31_32 : cm_31.drop 32 = cb_31_32 := rfl
theorem jb_31_34 : cm_31.drop 34 = cb_31_34 := rfl
theorem jb_31_37 : cm_31.drop 37 = cb_31_37 := rfl
theorem jb_31_39 : cm_31.drop 39 = cb_31_39 := rfl
theorem jb_31_40 : cm_31.drop 40 = cb_31_40 := rfl
theorem jb_31_44 : cm_31.drop 44 = cb_31_44 := rfl
noncomputable def cm_32 : List Instr := cb_32_0
theorem en_32 {sc : Nat × (Nat → Int32)} {d : Nat} {h : fx_H} {Q : fx_R → Prop} {a0 : Nat} {a1 : Nat} {a2 : Int32} (hk : wC sc d (pg_hd 32) cm_32 cb_32_0 [.ref a0, .ref a1, .int a2, fx_U] [] h Q) : wM sc (d + 1) 32 [.ref a0, .ref a1, .int a2] h Q := wM_enter (Nat.le_of_ble_eq_true rfl) hk
theorem jb_32_6 : cm_32.drop 6 = cb_32_6 := rfl
theorem jb_32_14 : cm_32.drop 14 = cb_32_14 := rfl
theorem jb_32_17 : cm_32.drop 17 = cb_32_17 := rfl
theorem jb_32_22 : cm_32.drop 22 = cb_32_22 := rfl
theorem jb_32_25 : cm_32.drop 25 = cb_32_25 := rfl
theorem jb_32_31 : cm_32.drop 31 = cb_32_31 := rfl
theorem jb_32_42 : cm_32.drop 42 = cb_32_42 := rfl
noncomputable def cm_33 : List Instr := cb_33_0
theorem en_33 {sc : Nat × (Nat → Int32)} {d : Nat} {h : fx_H} {Q : fx_R → Prop} {a0 : Nat} {a1 : Nat} {a2 : Int32} (hk : wC sc d (pg_hd 33) cm_33 cb_33_0 [.ref a0, .ref a1, .int a2, fx_U, fx_U] [] h Q) : wM sc (d + 1) 33 [.ref a0, .ref a1, .int a2] h Q := wM_enter (Nat.le_of_ble_eq_true rfl) hk
theorem jb_33_12 : cm_33.drop 12 = cb_33_12 := rfl
theorem jb_33_17 : cm_33.drop 17 = cb_33_17 := rfl
theorem jb_33_19 : cm_33.drop 19 = cb_33_19 := rfl
theorem jb_33_23 : cm_33.drop 23 = cb_33_23 := rfl
theorem jb_33_29 : cm_33.drop 29 = cb_33_29 := rfl
theorem jb_33_32 : cm_33.drop 32 = cb_33_32 := rfl
theorem jb_33_38 : cm_33.drop 38 = cb_33_38 := rfl
theorem jb_33_62 : cm_33.drop 62 = cb_33_62 := rfl
theorem jb_33_64 : cm_33.drop 64 = cb_33_64 := rfl
theorem jb_33_65 : cm_33.drop 65 = cb_33_65 := rfl
theorem jb_33_67 : cm_33.drop 67 = cb_33_67 := rfl
noncomputable def cm_34 : List Instr := cb_34_0
theorem en_34 {sc : Nat × (Nat → Int32)} {d : Nat} {h : fx_H} {Q : fx_R → Prop} {a0 : Nat} (hk : wC sc d (pg_hd 34) cm_34 cb_34_0 [.ref a0] [] h Q) : wM sc (d + 1) 34 [.ref a0] h Q := wM_enter (Nat.le_of_ble_eq_true rfl) hk
theorem jb_34_4 : cm_34.drop 4 = cb_34_4 := rfl
theorem jb_34_6 : cm_34.drop 6 = cb_34_6 := rfl
theorem jb_34_10 : cm_34.drop 10 = cb_34_10 := rfl
theorem jb_34_12 : cm_34.drop 12 = cb_34_12 := rfl
theorem jb_34_16 : cm_34.drop 16 = cb_34_16 := rfl
theorem jb_34_18 : cm_34.drop 18 = cb_34_18 := rfl
theorem jb_34_22 : cm_34.drop 22 = cb_34_22 := rfl
theorem jb_34_24 : cm_34.drop 24 = cb_34_24 := rfl
theorem jb_34_28 : cm_34.drop 28 = cb_34_28 := rfl
theorem jb_34_30 : cm_34.drop 30 = cb_34_30 := rfl
theorem jb_34_34 : cm_34.drop 34 = cb_34_34 := rfl
theorem jb_34_36 : cm_34.drop 36 = cb_34_36 := rfl
theorem jb_34_40 : cm_34.drop 40 = cb_34_40 := rfl
theorem jb_34_42 : cm_34.drop 42 = cb_34_42 := rfl
theorem jb_34_43 : cm_34.drop 43 = cb_34_43 := rfl
noncomputable def cm_35 : List Instr := cb_35_0
theorem en_35 {sc : Nat × (Nat → Int32)} {d : Nat} {h : fx_H} {Q : fx_R → Prop} {a0 : Nat} {a1 : Int32} {a2 : Int32} {a3 : Int32} {a4 : Int32} {a5 : Int32} {a6 : Int32} {a7 : Int32} (hk : wC sc d (pg_hd 35) cm_35 cb_35_0 [.ref a0, .int a1, .int a2, .int a3, .int a4, .int a5, .int a6, .int a7] [] h Q) : wM sc (d + 1) 35 [.ref a0, .int a1, .int a2, .int a3, .int a4, .int a5, .int a6, .int a7] h Q := wM_enter (Nat.le_of_ble_eq_true rfl) hk
noncomputable def cm_36 : List Instr := cb_36_0
theorem en_36 {sc : Nat × (Nat → Int32)} {d : Nat} {h : fx_H} {Q : fx_R → Prop} {a0 : Nat} (hk : wC sc d (pg_hd 36) cm_36 cb_36_0 [.ref a0, fx_U, fx_U] [] h Q) : wM sc (d + 1) 36 [.ref a0] h Q := wM_enter (Nat.le_of_ble_eq_true rfl) hk
theorem jb_36_4 : cm_36.drop 4 = cb_36_4 := rfl
theorem jb_36_8 : cm_36.drop 8 = cb_36_8 := rfl
theorem jb_36_13 : cm_36.drop 13 = cb_36_13 := rfl
theorem jb_36_18 : cm_36.drop 18 = cb_36_18 := rfl
theorem jb_36_23 : cm_36.drop 23 = cb_36_23 := rfl
theorem jb_36_29 : cm_36.drop 29 = cb_36_29 := rfl
theorem jb_36_34 : cm_36.drop 34 = cb_36_34 := rfl
theorem jb_36_42 : cm_36.drop 42 = cb_36_42 := rfl
theorem jb_36_47 : cm_36.drop 47 = cb_36_47 := rfl
theorem jb_36_53 : cm_36.drop 53 = cb_36_53 := rfl
theorem jb_36_56 : cm_36.drop 56 = cb_36_56 := rfl
theorem jb_36_59 : cm_36.drop 59 = cb_36_59 := rfl
theorem jb_36_64 : cm_36.drop 64 = cb_36_64 := rfl
theorem jb_36_86 : cm_36.drop 86 = cb_36_86 := rfl
theorem jb_36_88 : cm_36.drop 88 = cb_36_88 := rfl
noncomputable def cm_37 : List Instr := cb_37_0
theorem en_37 {sc : Nat × (Nat → Int32)} {d : Nat} {h : fx_H} {Q : fx_R → Prop} {a0 : Nat} {a1 : Int32} (hk : wC sc d (pg_hd 37) cm_37 cb_37_0 [.ref a0, .int a1] [] h Q) : wM sc (d + 1) 37 [.ref a0, .int a1] h Q := wM_enter (Nat.le_of_ble_eq_true rfl) hk
theorem jb_37_2 : cm_37.drop 2 = cb_37_2 := rfl
theorem jb_37_7 : cm_37.drop 7 = cb_37_7 := rfl
theorem jb_37_12 : cm_37.drop 12 = cb_37_12 := rfl
theorem jb_37_13 : cm_37.drop 13 = cb_37_13 := rfl
noncomputable def cm_38 : List Instr := cb_38_0
theorem en_38 {sc : Nat × (Nat → Int32)} {d : Nat} {h : fx_H} {Q : fx_R → Prop} {a0 : Int32} {a1 : Int32} {a2 : Int32} (hk : wC sc d (pg_hd 38) cm_38 cb_38_0 [.int a0, .int a1, .int a2] [] h Q) : wM sc (d + 1) 38 [.int a0, .int a1, .int a2] h Q := wM_enter (Nat.le_of_ble_eq_true rfl) hk
theorem jb_38_2 : cm_38.drop 2 = cb_38_2 := rfl
theorem jb_38_6 : cm_38.drop 6 = cb_38_6 := rfl
theorem jb_38_10 : cm_38.drop 10 = cb_38_10 := rfl
theorem jb_38_14 : cm_38.drop 14 = cb_38_14 := rfl
theorem jb_38_16 : cm_38.drop 16 = cb_38_16 := rfl
theorem jb_38_18 : cm_38.drop 18 = cb_38_18 := rfl
theorem jb_38_21 : cm_38.drop 21 = cb_38_21 := rfl
theorem jb_38_22 : cm_38.drop 22 = cb_38_22 := rfl
theorem jb_38_24 : cm_38.drop 24 = cb_38_24 := rfl
theorem jb_38_26 : cm_38.drop 26 = cb_38_26 := rfl
theorem jb_38_29 : cm_38.drop 29 = cb_38_29 := rfl
theorem jb_38_30 : cm_38.drop 30 = cb_38_30 := rfl
theorem jb_38_33 : cm_38.drop 33 = cb_38_33 := rfl
theorem jb_38_35 : cm_38.drop 35 = cb_38_35 := rfl
theorem jb_38_36 : cm_38.drop 36 = cb_38_36 := rfl
theorem jb_38_37 : cm_38.drop 37 = cb_38_37 := rfl
theorem jb_38_40 : cm_38.drop 40 = cb_38_40 := rfl
theorem jb_38_42 : cm_38.drop 42 = cb_38_42 := rfl
theorem jb_38_43 : cm_38.drop 43 = cb_38_43 := rfl
noncomputable def cm_39 : List Instr := cb_39_0
theorem en_39 {sc : Nat × (Nat → Int32)} {d : Nat} {h : fx_H} {Q : fx_R → Prop} {a0 : Nat} (hk : wC sc d (pg_hd 39) cm_39 cb_39_0 [.ref a0] [] h Q) : wM sc (d + 1) 39 [.ref a0] h Q := wM_enter (Nat.le_of_ble_eq_true rfl) hk
noncomputable def cm_40 : List Instr := cb_40_0
theorem en_40 {sc : Nat × (Nat → Int32)} {d : Nat} {h : fx_H} {Q : fx_R → Prop} {a0 : Nat} {a1 : Int32} (hk : wC sc d (pg_hd 40) cm_40 cb_40_0 [.ref a0, .int a1] [] h Q) : wM sc (d + 1) 40 [.ref a0, .int a1] h Q := wM_enter (Nat.le_of_ble_eq_true rfl) hk
theorem jb_40_2 : cm_40.drop 2 = cb_40_2 := rfl
theorem jb_40_7 : cm_40.drop 7 = cb_40_7 := rfl
theorem jb_40_12 : cm_40.drop 12 = cb_40_12 := rfl
theorem jb_40_13 : cm_40.drop 13 = cb_40_13 := rfl
noncomputable def cm_41 : List Instr := cb_41_0
theorem en_41 {sc : Nat × (Nat → Int32)} {d : Nat} {h : fx_H} {Q : fx_R → Prop} {a0 : Nat} {a1 : Int32} {a2 : Int32} (hk : wC sc d (pg_hd 41) cm_41 cb_41_0 [.ref a0, .int a1, .int a2, fx_U] [] h Q) : wM sc (d + 1) 41 [.ref a0, .int a1, .int a2] h Q := wM_enter (Nat.le_of_ble_eq_true rfl) hk
theorem jb_41_8 : cm_41.drop 8 = cb_41_8 := rfl
theorem jb_41_13 : cm_41.drop 13 = cb_41_13 := rfl
theorem jb_41_18 : cm_41.drop 18 = cb_41_18 := rfl
theorem jb_41_19 : cm_41.drop 19 = cb_41_19 := rfl
noncomputable def cm_42 : List Instr := cb_42_0
theorem en_42 {sc : Nat × (Nat → Int32)} {d : Nat} {h : fx_H} {Q : fx_R → Prop} {a0 : Nat} {a1 : Int32} (hk : wC sc d (pg_hd 42) cm_42 cb_42_0 [.ref a0, .int a1] [] h Q) : wM sc (d + 1) 42 [.ref a0, .int a1] h Q := wM_enter (Nat.le_of_ble_eq_true rfl) hk
theorem jb_42_2 : cm_42.drop 2 = cb_42_2 := rfl
theorem jb_42_7 : cm_42.drop 7 = cb_42_7 := rfl
theorem jb_42_12 : cm_42.drop 12 = cb_42_12 := rfl
theorem jb_42_13 : cm_42.drop 13 = cb_42_13 := rfl
noncomputable def cm_43 : List Instr := cb_43_0
theorem en_43 {sc : Nat × (Nat → Int32)} {d : Nat} {h : fx_H} {Q : fx_R → Prop} {a0 : Nat} {a1 : Int32} {a2 : Int32} (hk : wC sc d (pg_hd 43) cm_43 cb_43_0 [.ref a0, .int a1, .int a2, fx_U] [] h Q) : wM sc (d + 1) 43 [.ref a0, .int a1, .int a2] h Q := wM_enter (Nat.le_of_ble_eq_true rfl) hk
theorem jb_43_3 : cm_43.drop 3 = cb_43_3 := rfl
theorem jb_43_5 : cm_43.drop 5 = cb_43_5 := rfl
noncomputable def cm_44 : List Instr := cb_44_0
theorem en_44 {sc : Nat × (Nat → Int32)} {d : Nat} {h : fx_H} {Q : fx_R → Prop} {a0 : Nat} {a1 : Nat} (hk : wC sc d (pg_hd 44) cm_44 cb_44_0 [.ref a0, .ref a1, fx_U] [] h Q) : wM sc (d + 1) 44 [.ref a0, .ref a1] h Q := wM_enter (Nat.le_of_ble_eq_true rfl) hk
theorem jb_44_11 : cm_44.drop 11 = cb_44_11 := rfl
theorem jb_44_14 : cm_44.drop 14 = cb_44_14 := rfl
theorem jb_44_17 : cm_44.drop 17 = cb_44_17 := rfl
theorem jb_44_22 : cm_44.drop 22 = cb_44_22 := rfl
theorem jb_44_24 : cm_44.drop 24 = cb_44_24 := rfl
theorem jb_44_25 : cm_44.drop 25 = cb_44_25 := rfl
theorem jb_44_31 : cm_44.drop 31 = cb_44_31 := rfl
noncomputable def cm_45 : List Instr := cb_45_0
theorem en_45 {sc : Nat × (Nat → Int32)} {d : Nat} {h : fx_H} {Q : fx_R → Prop} {a0 : Nat} {a1 : Nat} {a2 : Int32} (hk : wC sc d (pg_hd 45) cm_45 cb_45_0 [.ref a0, .ref a1, .int a2, fx_U] [] h Q) : wM sc (d + 1) 45 [.ref a0, .ref a1, .int a2] h Q := wM_enter (Nat.le_of_ble_eq_true rfl) hk
theorem jb_45_7 : cm_45.drop 7 = cb_45_7 := rfl
theorem jb_45_13 : cm_45.drop 13 = cb_45_13 := rfl
theorem jb_45_15 : cm_45.drop 15 = cb_45_15 := rfl
theorem jb_45_19 : cm_45.drop 19 = cb_45_19 := rfl
theorem jb_45_25 : cm_45.drop 25 = cb_45_25 := rfl
theorem jb_45_28 : cm_45.drop 28 = cb_45_28 := rfl
theorem jb_45_35 : cm_45.drop 35 = cb_45_35 := rfl
theorem jb_45_38 : cm_45.drop 38 = cb_45_38 := rfl
theorem jb_45_42 : cm_45.drop 42 = cb_45_42 := rfl
theorem jb_45_45 : cm_45.drop 45 = cb_45_45 := rfl
theorem jb_45_55 : cm_45.drop 55 = cb_45_55 := rfl
theorem jb_45_61 : cm_45.drop 61 = cb_45_61 := rfl
noncomputable def cm_46 : List Instr := cb_46_0
theorem en_46 {sc : Nat × (Nat → Int32)} {d : Nat} {h : fx_H} {Q : fx_R → Prop} {a0 : Nat} (hk : wC sc d (pg_hd 46) cm_46 cb_46_0 [.ref a0] [] h Q) : wM sc (d + 1) 46 [.ref a0] h Q := wM_enter (Nat.le_of_ble_eq_true rfl) hk
theorem jb_46_4 : cm_46.drop 4 = cb_46_4 := rfl
theorem jb_46_6 : cm_46.drop 6 = cb_46_6 := rfl
theorem jb_46_10 : cm_46.drop 10 = cb_46_10 := rfl
theorem jb_46_12 : cm_46.drop 12 = cb_46_12 := rfl
theorem jb_46_16 : cm_46.drop 16 = cb_46_16 := rfl
theorem jb_46_18 : cm_46.drop 18 = cb_46_18 := rfl
theorem jb_46_22 : cm_46.drop 22 = cb_46_22 := rfl
theorem jb_46_24 : cm_46.drop 24 = cb_46_24 := rfl
theorem jb_46_25 : cm_46.drop 25 = cb_46_25 := rfl
noncomputable def cm_47 : List Instr := cb_47_0
theorem en_47 {sc : Nat × (Nat → Int32)} {d : Nat} {h : fx_H} {Q : fx_R → Prop} {a0 : Nat} {a1 : Int32} (hk : wC sc d (pg_hd 47) cm_47 cb_47_0 [.ref a0, .int a1] [] h Q) : wM sc (d + 1) 47 [.ref a0, .int a1] h Q := wM_enter (Nat.le_of_ble_eq_true rfl) hk
theorem jb_47_3 : cm_47.drop 3 = cb_47_3 := rfl
theorem jb_47_7 : cm_47.drop 7 = cb_47_7 := rfl
theorem jb_47_10 : cm_47.drop 10 = cb_47_10 := rfl
theorem jb_47_14 : cm_47.drop 14 = cb_47_14 := rfl
theorem jb_47_16 : cm_47.drop 16 = cb_47_16 := rfl
theorem jb_47_17 : cm_47.drop 17 = cb_47_17 := rfl
noncomputable def cm_48 : List Instr := cb_48_0
theorem en_48 {sc : Nat × (Nat → Int32)} {d : Nat} {h : fx_H} {Q : fx_R → Prop} {a0 : Nat} {a1 : Int32} (hk : wC sc d (pg_hd 48) cm_48 cb_48_0 [.ref a0, .int a1, fx_U] [] h Q) : wM sc (d + 1) 48 [.ref a0, .int a1] h Q := wM_enter (Nat.le_of_ble_eq_true rfl) hk
theorem jb_48_6 : cm_48.drop 6 = cb_48_6 := rfl
theorem jb_48_7 : cm_48.drop 7 = cb_48_7 := rfl
theorem jb_48_15 : cm_48.drop 15 = cb_48_15 := rfl
theorem jb_48_18 : cm_48.drop 18 = cb_48_18 := rfl
theorem jb_48_31 : cm_48.drop 31 = cb_48_31 := rfl
noncomputable def cm_49 : List Instr := cb_49_0
theorem en_49 {sc : Nat × (Nat → Int32)} {d : Nat} {h : fx_H} {Q : fx_R → Prop} {a0 : Nat} {a1 : Nat} (hk : wC sc d (pg_hd 49) cm_49 cb_49_0 [.ref a0, .ref a1, fx_U, fx_U, fx_U, fx_U] [] h Q) : wM sc (d + 1) 49 [.ref a0, .ref a1] h Q := wM_enter (Nat.le_of_ble_eq_true rfl) hk
theorem jb_49_30 : cm_49.drop 30 = cb_49_30 := rfl
theorem jb_49_32 : cm_49.drop 32 = cb_49_32 := rfl
theorem jb_49_37 : cm_49.drop 37 = cb_49_37 := rfl
theorem jb_49_42 : cm_49.drop 42 = cb_49_42 := rfl
noncomputable def cm_50 : List Instr := cb_50_0
theorem en_50 {sc : Nat × (Nat → Int32)} {d : Nat} {h : fx_H} {Q : fx_R → Prop} {a0 : Nat} {a1 : Int32} (hk : wC sc d (pg_hd 50) cm_50 cb_50_0 [.ref a0, .int a1] [] h Q) : wM sc (d + 1) 50 [.ref a0, .int a1] h Q := wM_enter (Nat.le_of_ble_eq_true rfl) hk
theorem jb_50_6 : cm_50.drop 6 = cb_50_6 := rfl
theorem jb_50_18 : cm_50.drop 18 = cb_50_18 := rfl
noncomputable def cm_51 : List Instr := cb_51_0
theorem en_51 {sc : Nat × (Nat → Int32)} {d : Nat} {h : fx_H} {Q : fx_R → Prop} {a0 : Nat} (hk : wC sc d (pg_hd 51) cm_51 cb_51_0 [.ref a0] [] h Q) : wM sc (d + 1) 51 [.ref a0] h Q := wM_enter (Nat.le_of_ble_eq_true rfl) hk
noncomputable def cm_52 : List Instr := cb_52_0
theorem en_52 {sc : Nat × (Nat → Int32)} {d : Nat} {h : fx_H} {Q : fx_R → Prop} {a0 : Nat} (hk : wC sc d (pg_hd 52) cm_52 cb_52_0 [.ref a0] [] h Q) : wM sc (d + 1) 52 [.ref a0] h Q := wM_enter (Nat.le_of_ble_eq_true rfl) hk
noncomputable def cm_53 : List Instr := cb_53_0
theorem en_53 {sc : Nat × (Nat → Int32)} {d : Nat} {h : fx_H} {Q : fx_R → Prop} {a0 : Nat} {a1 : Int32} (hk : wC sc d (pg_hd 53) cm_53 cb_53_0 [.ref a0, .int a1] [] h Q) : wM sc (d + 1) 53 [.ref a0, .int a1] h Q := wM_enter (Nat.le_of_ble_eq_true rfl) hk
theorem jb_53_2 : cm_53.drop 2 = cb_53_2 := rfl
theorem jb_53_7 : cm_53.drop 7 = cb_53_7 := rfl
theorem jb_53_12 : cm_53.drop 12 = cb_53_12 := rfl
theorem jb_53_13 : cm_53.drop 13 = cb_53_13 := rfl
noncomputable def cm_54 : List Instr := cb_54_0
theorem en_54 {sc : Nat × (Nat → Int32)} {d : Nat} {h : fx_H} {Q : fx_R → Prop} {a0 : Nat} {a1 : Nat} {a2 : Int32} (hk : wC sc d (pg_hd 54) cm_54 cb_54_0 [.ref a0, .ref a1, .int a2, fx_U] [] h Q) : wM sc (d + 1) 54 [.ref a0, .ref a1, .int a2] h Q := wM_enter (Nat.le_of_ble_eq_true rfl) hk
theorem jb_54_5 : cm_54.drop 5 = cb_54_5 := rfl
theorem jb_54_8 : cm_54.drop 8 = cb_54_8 := rfl
theorem jb_54_11 : cm_54.drop 11 = cb_54_11 := rfl
theorem jb_54_23 : cm_54.drop 23 = cb_54_23 := rfl
noncomputable def cm_55 : List Instr := cb_55_0
theorem en_55 {sc : Nat × (Nat → Int32)} {d : Nat} {h : fx_H} {Q : fx_R → Prop} {a0 : Nat} {a1 : Int32} {a2 : Nat} (hk : wC sc d (pg_hd 55) cm_55 cb_55_0 [.ref a0, .int a1, .ref a2] [] h Q) : wM sc (d + 1) 55 [.ref a0, .int a1, .ref a2] h Q := wM_enter (Nat.le_of_ble_eq_true rfl) hk
theorem jb_55_6 : cm_55.drop 6 = cb_55_6 := rfl
theorem jb_55_12 : cm_55.drop 12 = cb_55_12 := rfl
theorem jb_55_24 : cm_55.drop 24 = cb_55_24 := rfl
noncomputable def cm_56 : List Instr := cb_56_0
theorem en_56 {sc : Nat × (Nat → Int32)} {d : Nat} {h : fx_H} {Q : fx_R → Prop} {a0 : Nat} (hk : wC sc d (pg_hd 56) cm_56 cb_56_0 [.ref a0] [] h Q) : wM sc (d + 1) 56 [.ref a0] h Q := wM_enter (Nat.le_of_ble_eq_true rfl) hk
noncomputable def cm_57 : List Instr := cb_57_0
theorem en_57 {sc : Nat × (Nat → Int32)} {d : Nat} {h : fx_H} {Q : fx_R → Prop} {a0 : Nat} {a1 : Nat} (hk : wC sc d (pg_hd 57) cm_57 cb_57_0 [.ref a0, .ref a1, fx_U] [] h Q) : wM sc (d + 1) 57 [.ref a0, .ref a1] h Q := wM_enter (Nat.le_of_ble_eq_true rfl) hk
theorem jb_57_21 : cm_57.drop 21 = cb_57_21 := rfl
theorem jb_57_24 : cm_57.drop 24 = cb_57_24 := rfl
theorem jb_57_48 : cm_57.drop 48 = cb_57_48 := rfl
noncomputable def cm_58 : List Instr := cb_58_0
theorem en_58 {sc : Nat × (Nat → Int32)} {d : Nat} {h : fx_H} {Q : fx_R → Prop} {a0 : Nat} {a1 : Nat} (hk : wC sc d (pg_hd 58) cm_58 cb_58_0 [.ref a0, .ref a1, fx_U] [] h Q) : wM sc (d + 1) 58 [.ref a0, .ref a1] h Q := wM_enter (Nat.le_of_ble_eq_true rfl) hk
theorem jb_58_26 : cm_58.drop 26 = cb_58_26 := rfl
theorem jb_58_29 : cm_58.drop 29 = cb_58_29 := rfl
theorem jb_58_39 : cm_58.drop 39 = cb_58_39 := rfl
noncomputable def cm_59 : List Instr := cb_59_0
theorem en_59 {sc : Nat × (Nat → Int32)} {d : Nat} {h : fx_H} {Q : fx_R → Prop} {a0 : Nat} {a1 : Int32} {a2 : Int32} (hk : wC sc d (pg_hd 59) cm_59 cb_59_0 [.ref a0, .int a1, .int a2, fx_U] [] h Q) : wM sc (d + 1) 59 [.ref a0, .int a1, .int a2] h Q := wM_enter (Nat.le_of_ble_eq_true rfl) hk
theorem jb_59_8 : cm_59.drop 8 = cb_59_8 := rfl
theorem jb_59_13 : cm_59.drop 13 = cb_59_13 := rfl
theorem jb_59_18 : cm_59.drop 18 = cb_59_18 := rfl
theorem jb_59_19 : cm_59.drop 19 = cb_59_19 := rfl
noncomputable def cm_60 : List Instr := cb_60_0
theorem en_60 {sc : Nat × (Nat → Int32)} {d : Nat} {h : fx_H} {Q : fx_R → Prop} {a0 : Nat} {a1 : Int32} {a2 : Int32} {a3 : Int32} (hk : wC sc d (pg_hd 60) cm_60 cb_60_0 [.ref a0, .int a1, .int a2, .int a3, fx_U] [] h Q) : wM sc (d + 1) 60 [.ref a0, .int a1, .int a2, .int a3] h Q := wM_enter (Nat.le_of_ble_eq_true rfl) hk
theorem jb_60_8 : cm_60.drop 8 = cb_60_8 := rfl
theorem jb_60_13 : cm_60.drop 13 = cb_60_13 := rfl
theorem jb_60_18 : cm_60.drop 18 = cb_60_18 := rfl
noncomputable def cm_61 : List Instr := cb_61_0
theorem en_61 {sc : Nat × (Nat → Int32)} {d : Nat} {h : fx_H} {Q : fx_R → Prop} {a0 : Nat} {a1 : Int32} (hk : wC sc d (pg_hd 61) cm_61 cb_61_0 [.ref a0, .int a1] [] h Q) : wM sc (d + 1) 61 [.ref a0, .int a1] h Q := wM_enter (Nat.le_of_ble_eq_true rfl) hk
theorem jb_61_7 : cm_61.drop 7 = cb_61_7 := rfl
theorem jb_61_9 : cm_61.drop 9 = cb_61_9 := rfl
theorem jb_61_10 : cm_61.drop 10 = cb_61_10 := rfl
noncomputable def cm_62 : List Instr := cb_62_0
theorem en_62 {sc : Nat × (Nat → Int32)} {d : Nat} {h : fx_H} {Q : fx_R → Prop} {a0 : Nat} {a1 : Int32} (hk : wC sc d (pg_hd 62) cm_62 cb_62_0 [.ref a0, .int a1, fx_U, fx_U] [] h Q) : wM sc (d + 1) 62 [.ref a0, .int a1] h Q := wM_enter (Nat.le_of_ble_eq_true rfl) hk
theorem jb_62_4 : cm_62.drop 4 = cb_62_4 := rfl
theorem jb_62_7 : cm_62.drop 7 = cb_62_7 := rfl
theorem jb_62_18 : cm_62.drop 18 = cb_62_18 := rfl
noncomputable def cm_63 : List Instr := cb_63_0
theorem en_63 {sc : Nat × (Nat → Int32)} {d : Nat} {h : fx_H} {Q : fx_R → Prop} {a0 : Nat} {a1 : Int32} {a2 : Int32} (hk : wC sc d (pg_hd 63) cm_63 cb_63_0 [.ref a0, .int a1, .int a2, fx_U, fx_U] [] h Q) : wM sc (d + 1) 63 [.ref a0, .int a1, .int a2] h Q := wM_enter (Nat.le_of_ble_eq_true rfl) hk
theorem jb_63_4 : cm_63.drop 4 = cb_63_4 := rfl
theorem jb_63_7 : cm_63.drop 7 = cb_63_7 := rfl
theorem jb_63_22 : cm_63.drop 22 = cb_63_22 := rfl
noncomputable def cm_64 : List Instr := cb_64_0
theorem en_64 {sc : Nat × (Nat → Int32)} {d : Nat} {h : fx_H} {Q : fx_R → Prop} {a0 : Nat} {a1 : Int32} (hk : wC sc d (pg_hd 64) cm_64 cb_64_0 [.ref a0, .int a1, fx_U, fx_U, fx_U, fx_U] [] h Q) : wM sc (d + 1) 64 [.ref a0, .int a1] h Q := wM_enter (Nat.le_of_ble_eq_true rfl) hk
theorem jb_64_6 : cm_64.drop 6 = cb_64_6 := rfl
theorem jb_64_9 : cm_64.drop 9 = cb_64_9 := rfl
theorem jb_64_32 : cm_64.drop 32 = cb_64_32 := rfl
noncomputable def cm_65 : List Instr := cb_65_0
theorem en_65 {sc : Nat × (Nat → Int32)} {d : Nat} {h : fx_H} {Q : fx_R → Prop} {a0 : Nat} {a1 : Int32} {a2 : Int32} {a3 : Nat} (hk : wC sc d (pg_hd 65) cm_65 cb_65_0 [.ref a0, .int a1, .int a2, .ref a3, fx_U] [] h Q) : wM sc (d + 1) 65 [.ref a0, .int a1, .int a2, .ref a3] h Q := wM_enter (Nat.le_of_ble_eq_true rfl) hk
theorem jb_65_4 : cm_65.drop 4 = cb_65_4 := rfl
theorem jb_65_7 : cm_65.drop 7 = cb_65_7 := rfl
theorem jb_65_8 : cm_65.drop 8 = cb_65_8 := rfl
noncomputable def cm_66 : List Instr := cb_66_0
theorem en_66 {sc : Nat × (Nat → Int32)} {d : Nat} {h : fx_H} {Q : fx_R → Prop} {a0 : Nat} {a1 : Int32} {a2 : Nat} {a3 : Nat} (hk : wC sc d (pg_hd 66) cm_66 cb_66_0 [.ref a0, .int a1, .ref a2, .ref a3, fx_U, fx_U] [] h Q) : wM sc (d + 1) 66 [.ref a0, .int a1, .ref a2, .ref a3] h Q := wM_enter (Nat.le_of_ble_eq_true rfl) hk
theorem jb_66_11 : cm_66.drop 11 = cb_66_11 := rfl
theorem jb_66_13 : cm_66.drop 13 = cb_66_13 := rfl
theorem jb_66_30 : cm_66.drop 30 = cb_66_30 := rfl
theorem jb_66_35 : cm_66.drop 35 = cb_66_35 := rfl
theorem jb_66_36 : cm_66.drop 36 = cb_66_36 := rfl
theorem jb_66_42 : cm_66.drop 42 = cb_66_42 := rfl
theorem jb_66_46 : cm_66.drop 46 = cb_66_46 := rfl
theorem jb_66_53 : cm_66.drop 53 = cb_66_53 := rfl
noncomputable def cm_67 : List Instr := cb_67_0
theorem en_67 {sc : Nat × (Nat → Int32)} {d : Nat} {h : fx_H} {Q : fx_R → Prop} {a0 : Nat} {a1 : Int32} {a2 : Int32} {a3 : Nat} (hk : wC sc d (pg_hd 67) cm_67 cb_67_0 [.ref a0, .int a1, .int a2, .ref a3, fx_U, fx_U] [] h Q) : wM sc (d + 1) 67 [.ref a0, .int a1, .int a2, .ref a3] h Q := wM_enter (Nat.le_of_ble_eq_true rfl) hk
theorem jb_67_9 : cm_67.drop 9 = cb_67_9 := rfl
theorem jb_67_20 : cm_67.drop 20 = cb_67_20 := rfl
noncomputable def cm_68 : List Instr := cb_68_0
theorem en_68 {sc : Nat × (Nat → Int32)} {d : Nat} {h : fx_H} {Q : fx_R → Prop} {a0 : Nat} {a1 : Int32} (hk : wC sc d (pg_hd 68) cm_68 cb_68_0 [.ref a0, .int a1] [] h Q) : wM sc (d + 1) 68 [.ref a0, .int a1] h Q := wM_enter (Nat.le_of_ble_eq_true rfl) hk
noncomputable def cm_69 : List Instr := cb_69_0
theorem en_69 {sc : Nat × (Nat → Int32)} {d : Nat} {h : fx_H} {Q : fx_R → Prop} {a0 : Nat} {a1 : Int32} (hk : wC sc d (pg_hd 69) cm_69 cb_69_0 [.ref a0, .int a1] [] h Q) : wM sc (d + 1) 69 [.ref a0, .int a1] h Q := wM_enter (Nat.le_of_ble_eq_true rfl) hk
theorem jb_69_4 : cm_69.drop 4 = cb_69_4 := rfl
theorem jb_69_6 : cm_69.drop 6 = cb_69_6 := rfl
noncomputable def cm_70 : List Instr := cb_70_0
theorem en_70 {sc : Nat × (Nat → Int32)} {d : Nat} {h : fx_H} {Q : fx_R → Prop} {a0 : Nat} {a1 : Int32} {a2 : Int32} (hk : wC sc d (pg_hd 70) cm_70 cb_70_0 [.ref a0, .int a1, .int a2] [] h Q) : wM sc (d + 1) 70 [.ref a0, .int a1, .int a2] h Q := wM_enter (Nat.le_of_ble_eq_true rfl) hk
theorem jb_70_6 : cm_70.drop 6 = cb_70_6 := rfl
theorem jb_70_8 : cm_70.drop 8 = cb_70_8 := rfl
noncomputable def cm_71 : List Instr := cb_71_0
theorem en_71 {sc : Nat × (Nat → Int32)} {d : Nat} {h : fx_H} {Q : fx_R → Prop} {a0 : Nat} {a1 : Nat} (hk : wC sc d (pg_hd 71) cm_71 cb_71_0 [.ref a0, .ref a1] [] h Q) : wM sc (d + 1) 71 [.ref a0, .ref a1] h Q := wM_enter (Nat.le_of_ble_eq_true rfl) hk
theorem jb_71_4 : cm_71.drop 4 = cb_71_4 := rfl
theorem jb_71_6 : cm_71.drop 6 = cb_71_6 := rfl
noncomputable def cm_72 : List Instr := cb_72_0
theorem en_72 {sc : Nat × (Nat → Int32)} {d : Nat} {h : fx_H} {Q : fx_R → Prop} {a0 : Nat} {a1 : Nat} (hk : wC sc d (pg_hd 72) cm_72 cb_72_0 [.ref a0, .ref a1] [] h Q) : wM sc (d + 1) 72 [.ref a0, .ref a1] h Q := wM_enter (Nat.le_of_ble_eq_true rfl) hk
noncomputable def cm_73 : List Instr := cb_73_0
theorem en_73 {sc : Nat × (Nat → Int32)} {d : Nat} {h : fx_H} {Q : fx_R → Prop} {a0 : Nat} (hk : wC sc d (pg_hd 73) cm_73 cb_73_0 [.ref a0] [] h Q) : wM sc (d + 1) 73 [.ref a0] h Q := wM_enter (Nat.le_of_ble_eq_true rfl) hk
noncomputable def cm_74 : List Instr := cb_74_0
theorem en_74 {sc : Nat × (Nat → Int32)} {d : Nat} {h : fx_H} {Q : fx_R → Prop} {a0 : Nat} (hk : wC sc d (pg_hd 74) cm_74 cb_74_0 [.ref a0] [] h Q) : wM sc (d + 1) 74 [.ref a0] h Q := wM_enter (Nat.le_of_ble_eq_true rfl) hk
noncomputable def cm_75 : List Instr := cb_75_0
theorem en_75 {sc : Nat × (Nat → Int32)} {d : Nat} {h : fx_H} {Q : fx_R → Prop} {a0 : Nat} {a1 : Int32} {a2 : Int32} {a3 : Int32} (hk : wC sc d (pg_hd 75) cm_75 cb_75_0 [.ref a0, .int a1, .int a2, .int a3] [] h Q) : wM sc (d + 1) 75 [.ref a0, .int a1, .int a2, .int a3] h Q := wM_enter (Nat.le_of_ble_eq_true rfl) hk
theorem jb_75_3 : cm_75.drop 3 = cb_75_3 := rfl
theorem jb_75_7 : cm_75.drop 7 = cb_75_7 := rfl
theorem jb_75_9 : cm_75.drop 9 = cb_75_9 := rfl
noncomputable def cm_76 : List Instr := cb_76_0
theorem en_76 {sc : Nat × (Nat → Int32)} {d : Nat} {h : fx_H} {Q : fx_R → Prop} {a0 : Nat} {a1 : Nat} {a2 : Nat} (hk : wC sc d (pg_hd 76) cm_76 cb_76_0 [.ref a0, .ref a1, .ref a2] [] h Q) : wM sc (d + 1) 76 [.ref a0, .ref a1, .ref a2] h Q := wM_enter (Nat.le_of_ble_eq_true rfl) hk
noncomputable def cm_77 : List Instr := cb_77_0
theorem en_77 {sc : Nat × (Nat → Int32)} {d : Nat} {h : fx_H} {Q : fx_R → Prop} {a0 : Nat} {a1 : Nat} {a2 : Nat} {a3 : Int32} (hk : wC sc d (pg_hd 77) cm_77 cb_77_0 [.ref a0, .ref a1, .ref a2, .int a3, fx_U, fx_U] [] h Q) : wM sc (d + 1) 77 [.ref a0, .ref a1, .ref a2, .int a3] h Q := wM_enter (Nat.le_of_ble_eq_true rfl) hk
theorem jb_77_2 : cm_77.drop 2 = cb_77_2 := rfl
theorem jb_77_5 : cm_77.drop 5 = cb_77_5 := rfl
theorem jb_77_8 : cm_77.drop 8 = cb_77_8 := rfl
theorem jb_77_13 : cm_77.drop 13 = cb_77_13 := rfl
theorem jb_77_16 : cm_77.drop 16 = cb_77_16 := rfl
theorem jb_77_17 : cm_77.drop 17 = cb_77_17 := rfl
theorem jb_77_20 : cm_77.drop 20 = cb_77_20 := rfl
theorem jb_77_21 : cm_77.drop 21 = cb_77_21 := rfl
theorem jb_77_31 : cm_77.drop 31 = cb_77_31 := rfl
noncomputable def cm_78 : List Instr := cb_78_0
theorem en_78 {sc : Nat × (Nat → Int32)} {d : Nat} {h : fx_H} {Q : fx_R → Prop} {a0 : Nat} {a1 : Nat} {a2 : Nat} {a3 : Int32} (hk : wC sc d (pg_hd 78) cm_78 cb_78_0 [.ref a0, .ref a1, .ref a2, .int a3] [] h Q) : wM sc (d + 1) 78 [.ref a0, .ref a1, .ref a2, .int a3] h Q := wM_enter (Nat.le_of_ble_eq_true rfl) hk
theorem jb_78_5 : cm_78.drop 5 = cb_78_5 := rfl
theorem jb_78_15 : cm_78.drop 15 = cb_78_15 := rfl
theorem jb_78_28 : cm_78.drop 28 = cb_78_28 := rfl
theorem jb_78_38 : cm_78.drop 38 = cb_78_38 := rfl
theorem jb_78_43 : cm_78.drop 43 = cb_78_43 := rfl
theorem jb_78_50 : cm_78.drop 50 = cb_78_50 := rfl
theorem jb_78_56 : cm_78.drop 56 = cb_78_56 := rfl
theorem jb_78_61 : cm_78.drop 61 = cb_78_61 := rfl
noncomputable def cm_79 : List Instr := cb_79_0
theorem en_79 {sc : Nat × (Nat → Int32)} {d : Nat} {h : fx_H} {Q : fx_R → Prop} {a0 : Nat} (hk : wC sc d (pg_hd 79) cm_79 cb_79_0 [.ref a0] [] h Q) : wM sc (d + 1) 79 [.ref a0] h Q := wM_enter (Nat.le_of_ble_eq_true rfl) hk
theorem jb_79_4 : cm_79.drop 4 = cb_79_4 := rfl
theorem jb_79_6 : cm_79.drop 6 = cb_79_6 := rfl
theorem jb_79_10 : cm_79.drop 10 = cb_79_10 := rfl
theorem jb_79_12 : cm_79.drop 12 = cb_79_12 := rfl
theorem jb_79_16 : cm_79.drop 16 = cb_79_16 := rfl
theorem jb_79_18 : cm_79.drop 18 = cb_79_18 := rfl
theorem jb_79_22 : cm_79.drop 22 = cb_79_22 := rfl
theorem jb_79_24 : cm_79.drop 24 = cb_79_24 := rfl
theorem jb_79_28 : cm_79.drop 28 = cb_79_28 := rfl
theorem jb_79_30 : cm_79.drop 30 = cb_79_30 := rfl
theorem jb_79_34 : cm_79.drop 34 = cb_79_34 := rfl
theorem jb_79_36 : cm_79.drop 36 = cb_79_36 := rfl
theorem jb_79_37 : cm_79.drop 37 = cb_79_37 := rfl
noncomputable def cm_80 : List Instr := cb_80_0
theorem en_80 {sc : Nat × (Nat → Int32)} {d : Nat} {h : fx_H} {Q : fx_R → Prop} {a0 : Nat} {a1 : Nat} {a2 : Nat} (hk : wC sc d (pg_hd 80) cm_80 cb_80_0 [.ref a0, .ref a1, .ref a2, fx_U] [] h Q) : wM sc (d + 1) 80 [.ref a0, .ref a1, .ref a2] h Q := wM_enter (Nat.le_of_ble_eq_true rfl) hk
noncomputable def cm_81 : List Instr := cb_81_0
theorem en_81 {sc : Nat × (Nat → Int32)} {d : Nat} {h : fx_H} {Q : fx_R → Prop} {a0 : Nat} {a1 : Nat} {a2 : Nat} {a3 : Int32} (hk : wC sc d (pg_hd 81) cm_81 cb_81_0 [.ref a0, .ref a1, .ref a2, .int a3, fx_U, fx_U] [] h Q) : wM sc (d + 1) 81 [.ref a0, .ref a1, .ref a2, .int a3] h Q := wM_enter (Nat.le_of_ble_eq_true rfl) hk
theorem jb_81_3 : cm_81.drop 3 = cb_81_3 := rfl
theorem jb_81_9 : cm_81.drop 9 = cb_81_9 := rfl
theorem jb_81_39 : cm_81.drop 39 = cb_81_39 := rfl
theorem jb_81_42 : cm_81.drop 42 = cb_81_42 := rfl
theorem jb_81_47 : cm_81.drop 47 = cb_81_47 := rfl
noncomputable def cm_82 : List Instr := cb_82_0
theorem en_82 {sc : Nat × (Nat → Int32)} {d : Nat} {h : fx_H} {Q : fx_R → Prop} {a0 : Nat} {a1 : Nat} {a2 : Nat} {a3 : Nat} (hk : wC sc d (pg_hd 82) cm_82 cb_82_0 [.ref a0, .ref a1, .ref a2, .ref a3, fx_U, fx_U, fx_U, fx_U] [] h Q) : wM sc (d + 1) 82 [.ref a0, .ref a1, .ref a2, .ref a3] h Q := wM_enter (Nat.le_of_ble_eq_true rfl) hk
theorem jb_82_11 : cm_82.drop 11 = cb_82_11 := rfl
theorem jb_82_14 : cm_82.drop 14 = cb_82_14 := rfl
theorem jb_82_16 : cm_82.drop 16 = cb_82_16 := rfl
theorem jb_82_20 : cm_82.drop 20 = cb_82_20 := rfl
theorem jb_82_26 : cm_82.drop 26 = cb_82_26 := rfl
theorem jb_82_31 : cm_82.drop 31 = cb_82_31 := rfl
theorem jb_82_34 : cm_82.drop 34 = cb_82_34 := rfl
theorem jb_82_36 : cm_82.drop 36 = cb_82_36 := rfl
theorem jb_82_43 : cm_82.drop 43 = cb_82_43 := rfl
theorem jb_82_56 : cm_82.drop 56 = cb_82_56 := rfl
theorem jb_82_60 : cm_82.drop 60 = cb_82_60 := rfl
theorem jb_82_66 : cm_82.drop 66 = cb_82_66 := rfl
theorem jb_82_68 : cm_82.drop 68 = cb_82_68 := rfl
theorem jb_82_75 : cm_82.drop 75 = cb_82_75 := rfl
theorem jb_82_77 : cm_82.drop 77 = cb_82_77 := rfl
theorem jb_82_83 : cm_82.drop 83 = cb_82_83 := rfl
theorem jb_82_84 : cm_82.drop 84 = cb_82_84 := rfl
theorem jb_82_86 : cm_82.drop 86 = cb_82_86 := rfl
noncomputable def cm_83 : List Instr := cb_83_0
theorem en_83 {sc : Nat × (Nat → Int32)} {d : Nat} {h : fx_H} {Q : fx_R → Prop} {a0 : Nat} {a1 : Int32} (hk : wC sc d (pg_hd 83) cm_83 cb_83_0 [.ref a0, .int a1, fx_U] [] h Q) : wM sc (d + 1) 83 [.ref a0, .int a1] h Q := wM_enter (Nat.le_of_ble_eq_true rfl) hk
theorem jb_83_7 : cm_83.drop 7 = cb_83_7 := rfl
theorem jb_83_10 : cm_83.drop 10 = cb_83_10 := rfl
theorem jb_83_14 : cm_83.drop 14 = cb_83_14 := rfl
theorem jb_83_27 : cm_83.drop 27 = cb_83_27 := rfl
theorem jb_83_31 : cm_83.drop 31 = cb_83_31 := rfl
theorem jb_83_34 : cm_83.drop 34 = cb_83_34 := rfl
noncomputable def cm_84 : List Instr := cb_84_0
theorem en_84 {sc : Nat × (Nat → Int32)} {d : Nat} {h : fx_H} {Q : fx_R → Prop} {a0 : Nat} {a1 : Int32} {a2 : Nat} {a3 : Nat} {a4 : Nat} (hk : wC sc d (pg_hd 84) cm_84 cb_84_0 [.ref a0, .int a1, .ref a2, .ref a3, .ref a4] [] h Q) : wM sc (d + 1) 84 [.ref a0, .int a1, .ref a2, .ref a3, .ref a4] h Q := wM_enter (Nat.le_of_ble_eq_true rfl) hk
theorem jb_84_5 : cm_84.drop 5 = cb_84_5 := rfl
theorem jb_84_14 : cm_84.drop 14 = cb_84_14 := rfl
theorem jb_84_21 : cm_84.drop 21 = cb_84_21 := rfl
theorem jb_84_28 : cm_84.drop 28 = cb_84_28 := rfl
theorem jb_84_39 : cm_84.drop 39 = cb_84_39 := rfl
noncomputable def cm_85 : List Instr := cb_85_0
theorem en_85 {sc : Nat × (Nat → Int32)} {d : Nat} {h : fx_H} {Q : fx_R → Prop} {a0 : Nat} (hk : wC sc d (pg_hd 85) cm_85 cb_85_0 [.ref a0, fx_U] [] h Q) : wM sc (d + 1) 85 [.ref a0] h Q := wM_enter (Nat.le_of_ble_eq_true rfl) hk
theorem jb_85_16 : cm_85.drop 16 = cb_85_16 := rfl
theorem jb_85_21 : cm_85.drop 21 = cb_85_21 := rfl
theorem jb_85_30 : cm_85.drop 30 = cb_85_30 := rfl
noncomputable def cm_86 : List Instr := cb_86_0
theorem en_86 {sc : Nat × (Nat → Int32)} {d : Nat} {h : fx_H} {Q : fx_R → Prop} {a0 : Nat} {a1 : Nat} (hk : wC sc d (pg_hd 86) cm_86 cb_86_0 [.ref a0, .ref a1] [] h Q) : wM sc (d + 1) 86 [.ref a0, .ref a1] h Q := wM_enter (Nat.le_of_ble_eq_true rfl) hk
noncomputable def cm_87 : List Instr := cb_87_0
theorem en_87 {sc : Nat × (Nat → Int32)} {d : Nat} {h : fx_H} {Q : fx_R → Prop} {a0 : Nat} (hk : wC sc d (pg_hd 87) cm_87 cb_87_0 [.ref a0] [] h Q) : wM sc (d + 1) 87 [.ref a0] h Q := wM_enter (Nat.le_of_ble_eq_true rfl) hk
theorem jb_87_3 : cm_87.drop 3 = cb_87_3 := rfl
theorem jb_87_9 : cm_87.drop 9 = cb_87_9 := rfl
theorem jb_87_23 : cm_87.drop 23 = cb_87_23 := rfl
noncomputable def cm_88 : List Instr := cb_88_0
theorem en_88 {sc : Nat × (Nat → Int32)} {d : Nat} {h : fx_H} {Q : fx_R → Prop} {a0 : Nat} (hk : wC sc d (pg_hd 88) cm_88 cb_88_0 [.ref a0] [] h Q) : wM sc (d + 1) 88 [.ref a0] h Q := wM_enter (Nat.le_of_ble_eq_true rfl) hk
theorem jb_88_3 : cm_88.drop 3 = cb_88_3 := rfl
theorem jb_88_9 : cm_88.drop 9 = cb_88_9 := rfl
theorem jb_88_11 : cm_88.drop 11 = cb_88_11 := rfl
noncomputable def cm_89 : List Instr := cb_89_0
theorem en_89 {sc : Nat × (Nat → Int32)} {d : Nat} {h : fx_H} {Q : fx_R → Prop} {a0 : Nat} {a1 : Nat} (hk : wC sc d (pg_hd 89) cm_89 cb_89_0 [.ref a0, .ref a1, fx_U] [] h Q) : wM sc (d + 1) 89 [.ref a0, .ref a1] h Q := wM_enter (Nat.le_of_ble_eq_true rfl) hk
theorem jb_89_11 : cm_89.drop 11 = cb_89_11 := rfl
theorem jb_89_15 : cm_89.drop 15 = cb_89_15 := rfl
theorem jb_89_18 : cm_89.drop 18 = cb_89_18 := rfl
theorem jb_89_29 : cm_89.drop 29 = cb_89_29 := rfl
noncomputable def cm_90 : List Instr := cb_90_0
theorem en_90 {sc : Nat × (Nat → Int32)} {d : Nat} {h : fx_H} {Q : fx_R → Prop} {a0 : Nat} (hk : wC sc d (pg_hd 90) cm_90 cb_90_0 [.ref a0] [] h Q) : wM sc (d + 1) 90 [.ref a0] h Q := wM_enter (Nat.le_of_ble_eq_true rfl) hk
noncomputable def cm_91 : List Instr := cb_91_0
theorem en_91 {sc : Nat × (Nat → Int32)} {d : Nat} {h : fx_H} {Q : fx_R → Prop} {a0 : Nat} (hk : wC sc d (pg_hd 91) cm_91 cb_91_0 [.ref a0] [] h Q) : wM sc (d + 1) 91 [.ref a0] h Q := wM_enter (Nat.le_of_ble_eq_true rfl) hk
noncomputable def cm_92 : List Instr := cb_92_0
theorem en_92 {sc : Nat × (Nat → Int32)} {d : Nat} {h : fx_H} {Q : fx_R → Prop} {a0 : Nat} {a1 : Nat} {a2 : Int32} (hk : wC sc d (pg_hd 92) cm_92 cb_92_0 [.ref a0, .ref a1, .int a2, fx_U, fx_U, fx_U] [] h Q) : wM sc (d + 1) 92 [.ref a0, .ref a1, .int a2] h Q := wM_enter (Nat.le_of_ble_eq_true rfl) hk
theorem jb_92_4 : cm_92.drop 4 = cb_92_4 := rfl
theorem jb_92_6 : cm_92.drop 6 = cb_92_6 := rfl
theorem jb_92_15 : cm_92.drop 15 = cb_92_15 := rfl
theorem jb_92_18 : cm_92.drop 18 = cb_92_18 := rfl
theorem jb_92_20 : cm_92.drop 20 = cb_92_20 := rfl
theorem jb_92_23 : cm_92.drop 23 = cb_92_23 := rfl
theorem jb_92_27 : cm_92.drop 27 = cb_92_27 := rfl
theorem jb_92_33 : cm_92.drop 33 = cb_92_33 := rfl
theorem jb_92_35 : cm_92.drop 35 = cb_92_35 := rfl
theorem jb_92_36 : cm_92.drop 36 = cb_92_36 := rfl
theorem jb_92_46 : cm_92.drop 46 = cb_92_46 := rfl
theorem jb_92_51 : cm_92.drop 51 = cb_92_51 := rfl
theorem jb_92_52 : cm_92.drop 52 = cb_92_52 := rfl
theorem jb_92_55 : cm_92.drop 55 = cb_92_55 := rfl
theorem jb_92_69 : cm_92.drop 69 = cb_92_69 := rfl
noncomputable def cm_93 : List Instr := cb_93_0
theorem en_93 {sc : Nat × (Nat → Int32)} {d : Nat} {h : fx_H} {Q : fx_R → Prop} {a0 : Nat} {a1 : Nat} {a2 : Int32} {a3 : Int32} (hk : wC sc d (pg_hd 93) cm_93 cb_93_0 [.ref a0, .ref a1, .int a2, .int a3, fx_U, fx_U, fx_U] [] h Q) : wM sc (d + 1) 93 [.ref a0, .ref a1, .int a2, .int a3] h Q := wM_enter (Nat.le_of_ble_eq_true rfl) hk
theorem jb_93_2 : cm_93.drop 2 = cb_93_2 := rfl
theorem jb_93_5 : cm_93.drop 5 = cb_93_5 := rfl
theorem jb_93_9 : cm_93.drop 9 = cb_93_9 := rfl
theorem jb_93_12 : cm_93.drop 12 = cb_93_12 := rfl
theorem jb_93_18 : cm_93.drop 18 = cb_93_18 := rfl
theorem jb_93_29 : cm_93.drop 29 = cb_93_29 := rfl
theorem jb_93_31 : cm_93.drop 31 = cb_93_31 := rfl
theorem jb_93_39 : cm_93.drop 39 = cb_93_39 := rfl
theorem jb_93_43 : cm_93.drop 43 = cb_93_43 := rfl
theorem jb_93_47 : cm_93.drop 47 = cb_93_47 := rfl
theorem jb_93_49 : cm_93.drop 49 = cb_93_49 := rfl
noncomputable def cm_94 : List Instr := cb_94_0
theorem en_94 {sc : Nat × (Nat → Int32)} {d : Nat} {h : fx_H} {Q : fx_R → Prop} {a0 : Nat} {a1 : Int32} {a2 : Int32} (hk : wC sc d (pg_hd 94) cm_94 cb_94_0 [.ref a0, .int a1, .int a2, fx_U] [] h Q) : wM sc (d + 1) 94 [.ref a0, .int a1, .int a2] h Q := wM_enter (Nat.le_of_ble_eq_true rfl) hk
theorem jb_94_8 : cm_94.drop 8 = cb_94_8 := rfl
theorem jb_94_13 : cm_94.drop 13 = cb_94_13 := rfl
theorem jb_94_18 : cm_94.drop 18 = cb_94_18 := rfl
theorem jb_94_19 : cm_94.drop 19 = cb_94_19 := rfl
noncomputable def cm_95 : List Instr := cb_95_0
theorem en_95 {sc : Nat × (Nat → Int32)} {d : Nat} {h : fx_H} {Q : fx_R → Prop} {a0 : Nat} {a1 : Int32} (hk : wC sc d (pg_hd 95) cm_95 cb_95_0 [.ref a0, .int a1] [] h Q) : wM sc (d + 1) 95 [.ref a0, .int a1] h Q := wM_enter (Nat.le_of_ble_eq_true rfl) hk
theorem jb_95_7 : cm_95.drop 7 = cb_95_7 := rfl
theorem jb_95_9 : cm_95.drop 9 = cb_95_9 := rfl
theorem jb_95_10 : cm_95.drop 10 = cb_95_10 := rfl
noncomputable def cm_96 : List Instr := cb_96_0
theorem en_96 {sc : Nat × (Nat → Int32)} {d : Nat} {h : fx_H} {Q : fx_R → Prop} {a0 : Nat} {a1 : Int32} {a2 : Int32} (hk : wC sc d (pg_hd 96) cm_96 cb_96_0 [.ref a0, .int a1, .int a2, fx_U, fx_U] [] h Q) : wM sc (d + 1) 96 [.ref a0, .int a1, .int a2] h Q := wM_enter (Nat.le_of_ble_eq_true rfl) hk
theorem jb_96_20 : cm_96.drop 20 = cb_96_20 := rfl
theorem jb_96_22 : cm_96.drop 22 = cb_96_22 := rfl
theorem jb_96_27 : cm_96.drop 27 = cb_96_27 := rfl
theorem jb_96_32 : cm_96.drop 32 = cb_96_32 := rfl
theorem jb_96_34 : cm_96.drop 34 = cb_96_34 := rfl
noncomputable def cm_97 : List Instr := cb_97_0
theorem en_97 {sc : Nat × (Nat → Int32)} {d : Nat} {h : fx_H} {Q : fx_R → Prop} {a0 : Nat} {a1 : Int32} (hk : wC sc d (pg_hd 97) cm_97 cb_97_0 [.ref a0, .int a1, fx_U] [] h Q) : wM sc (d + 1) 97 [.ref a0, .int a1] h Q := wM_enter (Nat.le_of_ble_eq_true rfl) hk
theorem jb_97_2 : cm_97.drop 2 = cb_97_2 := rfl
theorem jb_97_5 : cm_97.drop 5 = cb_97_5 := rfl
theorem jb_97_11 : cm_97.drop 11 = cb_97_11 := rfl
theorem jb_97_13 : cm_97.drop 13 = cb_97_13 := rfl
theorem jb_97_15 : cm_97.drop 15 = cb_97_15 := rfl
noncomputable def cm_98 : List Instr := cb_98_0
theorem en_98 {sc : Nat × (Nat → Int32)} {d : Nat} {h : fx_H} {Q : fx_R → Prop} {a0 : Nat} {a1 : Int32} {a2 : Nat} (hk : wC sc d (pg_hd 98) cm_98 cb_98_0 [.ref a0, .int a1, .ref a2, fx_U, fx_U] [] h Q) : wM sc (d + 1) 98 [.ref a0, .int a1, .ref a2] h Q := wM_enter (Nat.le_of_ble_eq_true rfl) hk
theorem jb_98_4 : cm_98.drop 4 = cb_98_4 := rfl
theorem jb_98_8 : cm_98.drop 8 = cb_98_8 := rfl
theorem jb_98_17 : cm_98.drop 17 = cb_98_17 := rfl
noncomputable def cm_99 : List Instr := cb_99_0
theorem en_99 {sc : Nat × (Nat → Int32)} {d : Nat} {h : fx_H} {Q : fx_R → Prop} {a0 : Nat} {a1 : Int32} (hk : wC sc d (pg_hd 99) cm_99 cb_99_0 [.ref a0, .int a1] [] h Q) : wM sc (d + 1) 99 [.ref a0, .int a1] h Q := wM_enter (Nat.le_of_ble_eq_true rfl) hk
noncomputable def cm_100 : List Instr := cb_100_0
theorem en_100 {sc : Nat × (Nat → Int32)} {d : Nat} {h : fx_H} {Q : fx_R → Prop} {a0 : Nat} {a1 : Int32} (hk : wC sc d (pg_hd 100) cm_100 cb_100_0 [.ref a0, .int a1] [] h Q) : wM sc (d + 1) 100 [.ref a0, .int a1] h Q := wM_enter (Nat.le_of_ble_eq_true rfl) hk
theorem jb_100_2 : cm_100.drop 2 = cb_100_2 := rfl
theorem jb_100_7 : cm_100.drop 7 = cb_100_7 := rfl
theorem jb_100_12 : cm_100.drop 12 = cb_100_12 := rfl
theorem jb_100_13 : cm_100.drop 13 = cb_100_13 := rfl
noncomputable def cm_101 : List Instr := cb_101_0
theorem en_101 {sc : Nat × (Nat → Int32)} {d : Nat} {h : fx_H} {Q : fx_R → Prop} {a0 : Nat} {a1 : Int32} {a2 : Int64} (hk : wC sc d (pg_hd 101) cm_101 cb_101_0 [.ref a0, .int a1, .long a2, fx_U] [] h Q) : wM sc (d + 1) 101 [.ref a0, .int a1, .long a2] h Q := wM_enter (Nat.le_of_ble_eq_true rfl) hk
theorem jb_101_2 : cm_101.drop 2 = cb_101_2 := rfl
theorem jb_101_6 : cm_101.drop 6 = cb_101_6 := rfl
theorem jb_101_13 : cm_101.drop 13 = cb_101_13 := rfl
noncomputable def cm_102 : List Instr := cb_102_0
theorem en_102 {sc : Nat × (Nat → Int32)} {d : Nat} {h : fx_H} {Q : fx_R → Prop} {a0 : Nat} (hk : wC sc d (pg_hd 102) cm_102 cb_102_0 [.ref a0, fx_U, fx_U] [] h Q) : wM sc (d + 1) 102 [.ref a0] h Q := wM_enter (Nat.le_of_ble_eq_true rfl) hk
theorem jb_102_6 : cm_102.drop 6 = cb_102_6 := rfl
theorem jb_102_10 : cm_102.drop 10 = cb_102_10 := rfl
theorem jb_102_12 : cm_102.drop 12 = cb_102_12 := rfl
theorem jb_102_15 : cm_102.drop 15 = cb_102_15 := rfl
theorem jb_102_27 : cm_102.drop 27 = cb_102_27 := rfl
theorem jb_102_29 : cm_102.drop 29 = cb_102_29 := rfl
noncomputable def cm_103 : List Instr := cb_103_0
theorem en_103 {sc : Nat × (Nat → Int32)} {d : Nat} {h : fx_H} {Q : fx_R → Prop} {a0 : Nat} {a1 : Int32} {a2 : Int32} (hk : wC sc d (pg_hd 103) cm_103 cb_103_0 [.ref a0, .int a1, .int a2, fx_U] [] h Q) : wM sc (d + 1) 103 [.ref a0, .int a1, .int a2] h Q := wM_enter (Nat.le_of_ble_eq_true rfl) hk
theorem jb_103_6 : cm_103.drop 6 = cb_103_6 := rfl
theorem jb_103_10 : cm_103.drop 10 = cb_103_10 := rfl
theorem jb_103_37 : cm_103.drop 37 = cb_103_37 := rfl
noncomputable def cm_104 : List Instr := cb_104_0
theorem en_104 {sc : Nat × (Nat → Int32)} {d : Nat} {h : fx_H} {Q : fx_R → Prop} {a0 : Nat} (hk : wC sc d (pg_hd 104) cm_104 cb_104_0 [.ref a0, fx_U] [] h Q) : wM sc (d + 1) 104 [.ref a0] h Q := wM_enter (Nat.le_of_ble_eq_true rfl) hk
noncomputable def cm_105 : List Instr := cb_105_0
theorem en_105 {sc : Nat × (Nat → Int32)} {d : Nat} {h : fx_H} {Q : fx_R → Prop} {a0 : Nat} (hk : wC sc d (pg_hd 105) cm_105 cb_105_0 [.ref a0] [] h Q) : wM sc (d + 1) 105 [.ref a0] h Q := wM_enter (Nat.le_of_ble_eq_true rfl) hk
noncomputable def cm_106 : List Instr := cb_106_0
theorem en_106 {sc : Nat × (Nat → Int32)} {d : Nat} {h : fx_H} {Q : fx_R → Prop} {a0 : Nat} (hk : wC sc d (pg_hd 106) cm_106 cb_106_0 [.ref a0] [] h Q) : wM sc (d + 1) 106 [.ref a0] h Q := wM_enter (Nat.le_of_ble_eq_true rfl) hk
noncomputable def cm_107 : List Instr := cb_107_0
theorem en_107 {sc : Nat × (Nat → Int32)} {d : Nat} {h : fx_H} {Q : fx_R → Prop} {a0 : Nat} {a1 : Nat} {a2 : Int32} {a3 : Int32} (hk : wC sc d (pg_hd 107) cm_107 cb_107_0 [.ref a0, .ref a1, .int a2, .int a3] [] h Q) : wM sc (d + 1) 107 [.ref a0, .ref a1, .int a2, .int a3] h Q := wM_enter (Nat.le_of_ble_eq_true rfl) hk
theorem jb_107_4 : cm_107.drop 4 = cb_107_4 := rfl
theorem jb_107_8 : cm_107.drop 8 = cb_107_8 := rfl
theorem jb_107_9 : cm_107.drop 9 = cb_107_9 := rfl
noncomputable def cm_108 : List Instr := cb_108_0
theorem en_108 {sc : Nat × (Nat → Int32)} {d : Nat} {h : fx_H} {Q : fx_R → Prop} {a0 : Nat} (hk : wC sc d (pg_hd 108) cm_108 cb_108_0 [.ref a0] [] h Q) : wM sc (d + 1) 108 [.ref a0] h Q := wM_enter (Nat.le_of_ble_eq_true rfl) hk
theorem jb_108_3 : cm_108.drop 3 = cb_108_3 := rfl
theorem jb_108_7 : cm_108.drop 7 = cb_108_7 := rfl
theorem jb_108_13 : cm_108.drop 13 = cb_108_13 := rfl
theorem jb_108_14 : cm_108.drop 14 = cb_108_14 := rfl
noncomputable def cm_109 : List Instr := cb_109_0
theorem en_109 {sc : Nat × (Nat → Int32)} {d : Nat} {h : fx_H} {Q : fx_R → Prop} {a0 : Nat} (hk : wC sc d (pg_hd 109) cm_109 cb_109_0 [.ref a0] [] h Q) : wM sc (d + 1) 109 [.ref a0] h Q := wM_enter (Nat.le_of_ble_eq_true rfl) hk
theorem jb_109_3 : cm_109.drop 3 = cb_109_3 := rfl
theorem jb_109_9 : cm_109.drop 9 = cb_109_9 := rfl
theorem jb_109_10 : cm_109.drop 10 = cb_109_10 := rfl
noncomputable def cm_110 : List Instr := cb_110_0
theorem en_110 {sc : Nat × (Nat → Int32)} {d : Nat} {h : fx_H} {Q : fx_R → Prop} {a0 : Nat} {a1 : Int32} (hk : wC sc d (pg_hd 110) cm_110 cb_110_0 [.ref a0, .int a1, fx_U, fx_U, fx_U] [] h Q) : wM sc (d + 1) 110 [.ref a0, .int a1] h Q := wM_enter (Nat.le_of_ble_eq_true rfl) hk
theorem jb_110_5 : cm_110.drop 5 = cb_110_5 := rfl
theorem jb_110_8 : cm_110.drop 8 = cb_110_8 := rfl
theorem jb_110_10 : cm_110.drop 10 = cb_110_10 := rfl
theorem jb_110_17 : cm_110.drop 17 = cb_110_17 := rfl
theorem jb_110_20 : cm_110.drop 20 = cb_110_20 := rfl
theorem jb_110_22 : cm_110.drop 22 = cb_110_22 := rfl
theorem jb_110_25 : cm_110.drop 25 = cb_110_25 := rfl
theorem jb_110_32 : cm_110.drop 32 = cb_110_32 := rfl
theorem jb_110_34 : cm_110.drop 34 = cb_110_34 := rfl
theorem jb_110_37 : cm_110.drop 37 = cb_110_37 := rfl
theorem jb_110_42 : cm_110.drop 42 = cb_110_42 := rfl
theorem jb_110_43 : cm_110.drop 43 = cb_110_43 := rfl
noncomputable def cm_111 : List Instr := cb_111_0
theorem en_111 {sc : Nat × (Nat → Int32)} {d : Nat} {h : fx_H} {Q : fx_R → Prop} {a0 : Int32} {a1 : Int32} (hk : wC sc d (pg_hd 111) cm_111 cb_111_0 [.int a0, .int a1] [] h Q) : wM sc (d + 1) 111 [.int a0, .int a1] h Q := wM_enter (Nat.le_of_ble_eq_true rfl) hk
theorem jb_111_2 : cm_111.drop 2 = cb_111_2 := rfl
theorem jb_111_5 : cm_111.drop 5 = cb_111_5 := rfl
theorem jb_111_8 : cm_111.drop 8 = cb_111_8 := rfl
theorem jb_111_10 : cm_111.drop 10 = cb_111_10 := rfl
theorem jb_111_11 : cm_111.drop 11 = cb_111_11 := rfl
noncomputable def cm_112 : List Instr := cb_112_0
theorem en_112 {sc : Nat × (Nat → Int32)} {d : Nat} {h : fx_H} {Q : fx_R → Prop} {a0 : Nat} {a1 : Int32} (hk : wC sc d (pg_hd 112) cm_112 cb_112_0 [.ref a0, .int a1] [] h Q) : wM sc (d + 1) 112 [.ref a0, .int a1] h Q := wM_enter (Nat.le_of_ble_eq_true rfl) hk
noncomputable def cm_113 : List Instr := cb_113_0
theorem en_113 {sc : Nat × (Nat → Int32)} {d : Nat} {h : fx_H} {Q : fx_R → Prop} {a0 : Nat} {a1 : Int32} {a2 : Int32} (hk : wC sc d (pg_hd 113) cm_113 cb_113_0 [.ref a0, .int a1, .int a2] [] h Q) : wM sc (d + 1) 113 [.ref a0, .int a1, .int a2] h Q := wM_enter (Nat.le_of_ble_eq_true rfl) hk
theorem jb_113_2 : cm_113.drop 2 = cb_113_2 := rfl
theorem jb_113_5 : cm_113.drop 5 = cb_113_5 := rfl
theorem jb_113_9 : cm_113.drop 9 = cb_113_9 := rfl
theorem jb_113_26 : cm_113.drop 26 = cb_113_26 := rfl
noncomputable def cm_114 : List Instr := cb_114_0
theorem en_114 {sc : Nat × (Nat → Int32)} {d : Nat} {h : fx_H} {Q : fx_R → Prop} {a0 : Nat} {a1 : Int32} (hk : wC sc d (pg_hd 114) cm_114 cb_114_0 [.ref a0, .int a1] [] h Q) : wM sc (d + 1) 114 [.ref a0, .int a1] h Q := wM_enter (Nat.le_of_ble_eq_true rfl) hk
theorem jb_114_2 : cm_114.drop 2 = cb_114_2 := rfl
theorem jb_114_5 : cm_114.drop 5 = cb_114_5 := rfl
theorem jb_114_11 : cm_114.drop 11 = cb_114_11 := rfl
theorem jb_114_13 : cm_114.drop 13 = cb_114_13 := rfl
theorem jb_114_14 : cm_114.drop 14 = cb_114_14 := rfl
noncomputable def cm_115 : List Instr := cb_115_0
theorem en_115 {sc : Nat × (Nat → Int32)} {d : Nat} {h : fx_H} {Q : fx_R → Prop} {a0 : Nat} {a1 : Nat} {a2 : Int32} {a3 : Int32} (hk : wC sc d (pg_hd 115) cm_115 cb_115_0 [.ref a0, .ref a1, .int a2, .int a3, fx_U, fx_U, fx_U, fx_U] [] h Q) : wM sc (d + 1) 115 [.ref a0, .ref a1, .int a2, .int a3] h Q := wM_enter (Nat.le_of_ble_eq_true rfl) hk
theorem jb_115_7 : cm_115.drop 7 = cb_115_7 := rfl
theorem jb_115_9 : cm_115.drop 9 = cb_115_9 := rfl
theorem jb_115_11 : cm_115.drop 11 = cb_115_11 := rfl
theorem jb_115_15 : cm_115.drop 15 = cb_115_15 := rfl
theorem jb_115_18 : cm_115.drop 18 = cb_115_18 := rfl
theorem jb_115_25 : cm_115.drop 25 = cb_115_25 := rfl
theorem jb_115_28 : cm_115.drop 28 = cb_115_28 := rfl
theorem jb_115_37 : cm_115.drop 37 = cb_115_37 := rfl
theorem jb_115_38 : cm_115.drop 38 = cb_115_38 := rfl
theorem jb_115_61 : cm_115.drop 61 = cb_115_61 := rfl
theorem jb_115_63 : cm_115.drop 63 = cb_115_63 := rfl
theorem jb_115_65 : cm_115.drop 65 = cb_115_65 := rfl
theorem jb_115_67 : cm_115.drop 67 = cb_115_67 := rfl
noncomputable def cm_116 : List Instr := cb_116_0
theorem en_116 {sc : Nat × (Nat → Int32)} {d : Nat} {h : fx_H} {Q : fx_R → Prop} {a0 : Nat} {a1 : Nat} {a2 : Int32} (hk : wC sc d (pg_hd 116) cm_116 cb_116_0 [.ref a0, .ref a1, .int a2, fx_U, fx_U, fx_U, fx_U] [] h Q) : wM sc (d + 1) 116 [.ref a0, .ref a1, .int a2] h Q := wM_enter (Nat.le_of_ble_eq_true rfl) hk
theorem jb_116_12 : cm_116.drop 12 = cb_116_12 := rfl
theorem jb_116_14 : cm_116.drop 14 = cb_116_14 := rfl
theorem jb_116_16 : cm_116.drop 16 = cb_116_16 := rfl
theorem jb_116_19 : cm_116.drop 19 = cb_116_19 := rfl
theorem jb_116_24 : cm_116.drop 24 = cb_116_24 := rfl
theorem jb_116_27 : cm_116.drop 27 = cb_116_27 := rfl
theorem jb_116_29 : cm_116.drop 29 = cb_116_29 := rfl
theorem jb_116_56 : cm_116.drop 56 = cb_116_56 := rfl
theorem jb_116_63 : cm_116.drop 63 = cb_116_63 := rfl
theorem jb_116_65 : cm_116.drop 65 = cb_116_65 := rfl
theorem jb_116_67 : cm_116.drop 67 = cb_116_67 := rfl
noncomputable def cm_117 : List Instr := cb_117_0
theorem en_117 {sc : Nat × (Nat → Int32)} {d : Nat} {h : fx_H} {Q : fx_R → Prop} {a0 : Nat} (hk : wC sc d (pg_hd 117) cm_117 cb_117_0 [.ref a0, fx_U, fx_U, fx_U, fx_U] [] h Q) : wM sc (d + 1) 117 [.ref a0] h Q := wM_enter (Nat.le_of_ble_eq_true rfl) hk
theorem jb_117_6 : cm_117.drop 6 = cb_117_6 := rfl
theorem jb_117_9 : cm_117.drop 9 = cb_117_9 := rfl
theorem jb_117_16 : cm_117.drop 16 = cb_117_16 := rfl
theorem jb_117_20 : cm_117.drop 20 = cb_117_20 := rfl
theorem jb_117_22 : cm_117.drop 22 = cb_117_22 := rfl
noncomputable def cm_118 : List Instr := cb_118_0
theorem en_118 {sc : Nat × (Nat → Int32)} {d : Nat} {h : fx_H} {Q : fx_R → Prop} {a0 : Nat} {a1 : Int32} (hk : wC sc d (pg_hd 118) cm_118 cb_118_0 [.ref a0, .int a1, fx_U] [] h Q) : wM sc (d + 1) 118 [.ref a0, .int a1] h Q := wM_enter (Nat.le_of_ble_eq_true rfl) hk
theorem jb_118_7 : cm_118.drop 7 = cb_118_7 := rfl
theorem jb_118_11 : cm_118.drop 11 = cb_118_11 := rfl
theorem jb_118_14 : cm_118.drop 14 = cb_118_14 := rfl
theorem jb_118_16 : cm_118.drop 16 = cb_118_16 := rfl
noncomputable def cm_119 : List Instr := cb_119_0
theorem en_119 {sc : Nat × (Nat → Int32)} {d : Nat} {h : fx_H} {Q : fx_R → Prop} {a0 : Nat} (hk : wC sc d (pg_hd 119) cm_119 cb_119_0 [.ref a0] [] h Q) : wM sc (d + 1) 119 [.ref a0] h Q := wM_enter (Nat.le_of_ble_eq_true rfl) hk
noncomputable def cm_120 : List Instr := cb_120_0
theorem en_120 {sc : Nat × (Nat → Int32)} {d : Nat} {h : fx_H} {Q : fx_R → Prop} {a0 : Nat} {a1 : Int32} {a2 : Int32} (hk : wC sc d (pg_hd 120) cm_120 cb_120_0 [.ref a0, .int a1, .int a2, fx_U] [] h Q) : wM sc (d + 1) 120 [.ref a0, .int a1, .int a2] h Q := wM_enter (Nat.le_of_ble_eq_true rfl) hk
theorem jb_120_8 : cm_120.drop 8 = cb_120_8 := rfl
theorem jb_120_13 : cm_120.drop 13 = cb_120_13 := rfl
theorem jb_120_18 : cm_120.drop 18 = cb_120_18 := rfl
theorem jb_120_19 : cm_120.drop 19 = cb_120_19 := rfl
noncomputable def cm_121 : List Instr := cb_121_0
theorem en_121 {sc : Nat × (Nat → Int32)} {d : Nat} {h : fx_H} {Q : fx_R → Prop} {a0 : Nat} {a1 : Int32} {a2 : Int32} {a3 : Int32} (hk : wC sc d (pg_hd 121) cm_121 cb_121_0 [.ref a0, .int a1, .int a2, .int a3] [] h Q) : wM sc (d + 1) 121 [.ref a0, .int a1, .int a2, .int a3] h Q := wM_enter (Nat.le_of_ble_eq_true rfl) hk
noncomputable def cm_122 : List Instr := cb_122_0
theorem en_122 {sc : Nat × (Nat → Int32)} {d : Nat} {h : fx_H} {Q : fx_R → Prop} {a0 : Nat} {a1 : Int32} {a2 : Int32} {a3 : Int32} (hk : wC sc d (pg_hd 122) cm_122 cb_122_0 [.ref a0, .int a1, .int a2, .int a3, fx_U] [] h Q) : wM sc (d + 1) 122 [.ref a0, .int a1, .int a2, .int a3] h Q := wM_enter (Nat.le_of_ble_eq_true rfl) hk
theorem jb_122_8 : cm_122.drop 8 = cb_122_8 := rfl
theorem jb_122_13 : cm_122.drop 13 = cb_122_13 := rfl
theorem jb_122_18 : cm_122.drop 18 = cb_122_18 := rfl
noncomputable def cm_123 : List Instr := cb_123_0
theorem en_123 {sc : Nat × (Nat → Int32)} {d : Nat} {h : fx_H} {Q : fx_R → Prop} {a0 : Nat} {a1 : Int32} {a2 : Int32} (hk : wC sc d (pg_hd 123) cm_123 cb_123_0 [.ref a0, .int a1, .int a2, fx_U, fx_U] [] h Q) : wM sc (d + 1) 123 [.ref a0, .int a1, .int a2] h Q := wM_enter (Nat.le_of_ble_eq_true rfl) hk
theorem jb_123_4 : cm_123.drop 4 = cb_123_4 := rfl
theorem jb_123_7 : cm_123.drop 7 = cb_123_7 := rfl
theorem jb_123_13 : cm_123.drop 13 = cb_123_13 := rfl
theorem jb_123_19 : cm_123.drop 19 = cb_123_19 := rfl
theorem jb_123_21 : cm_123.drop 21 = cb_123_21 := rfl
noncomputable def cm_124 : List Instr := cb_124_0
theorem en_124 {sc : Nat × (Nat → Int32)} {d : Nat} {h : fx_H} {Q : fx_R → Prop} {a0 : Nat} {a1 : Nat} {a2 : Int32} {a3 : Int32} {a4 : Int32} (hk : wC sc d (pg_hd 124) cm_124 cb_124_0 [.ref a0, .ref a1, .int a2, .int a3, .int a4] [] h Q) : wM sc (d + 1) 124 [.ref a0, .ref a1, .int a2, .int a3, .int a4] h Q := wM_enter (Nat.le_of_ble_eq_true rfl) hk
noncomputable def cm_125 : List Instr := cb_125_0
theorem en_125 {sc : Nat × (Nat → Int32)} {d : Nat} {h : fx_H} {Q : fx_R → Prop} {a0 : Nat} {a1 : Nat} {a2 : Nat} (hk : wC sc d (pg_hd 125) cm_125 cb_125_0 [.ref a0, .ref a1, .ref a2, fx_U, fx_U, fx_U] [] h Q) : wM sc (d + 1) 125 [.ref a0, .ref a1, .ref a2] h Q := wM_enter (Nat.le_of_ble_eq_true rfl) hk
theorem jb_125_2 : cm_125.drop 2 = cb_125_2 := rfl
theorem jb_125_6 : cm_125.drop 6 = cb_125_6 := rfl
theorem jb_125_8 : cm_125.drop 8 = cb_125_8 := rfl
theorem jb_125_11 : cm_125.drop 11 = cb_125_11 := rfl
theorem jb_125_18 : cm_125.drop 18 = cb_125_18 := rfl
theorem jb_125_20 : cm_125.drop 20 = cb_125_20 := rfl
theorem jb_125_21 : cm_125.drop 21 = cb_125_21 := rfl
theorem jb_125_27 : cm_125.drop 27 = cb_125_27 := rfl
theorem jb_125_29 : cm_125.drop 29 = cb_125_29 := rfl
theorem jb_125_30 : cm_125.drop 30 = cb_125_30 := rfl
theorem jb_125_33 : cm_125.drop 33 = cb_125_33 := rfl
theorem jb_125_35 : cm_125.drop 35 = cb_125_35 := rfl
theorem jb_125_39 : cm_125.drop 39 = cb_125_39 := rfl
theorem jb_125_42 : cm_125.drop 42 = cb_125_42 := rfl
theorem jb_125_44 : cm_125.drop 44 = cb_125_44 := rfl
theorem jb_125_51 : cm_125.drop 51 = cb_125_51 := rfl
noncomputable def cm_126 : List Instr := cb_126_0
theorem en_126 {sc : Nat × (Nat → Int32)} {d : Nat} {h : fx_H} {Q : fx_R → Prop} {a0 : Nat} {a1 : Nat} {a2 : Int32} (hk : wC sc d (pg_hd 126) cm_126 cb_126_0 [.ref a0, .ref a1, .int a2, fx_U, fx_U, fx_U] [] h Q) : wM sc (d + 1) 126 [.ref a0, .ref a1, .int a2] h Q := wM_enter (Nat.le_of_ble_eq_true rfl) hk
theorem jb_126_4 : cm_126.drop 4 = cb_126_4 := rfl
theorem jb_126_8 : cm_126.drop 8 = cb_126_8 := rfl
theorem jb_126_10 : cm_126.drop 10 = cb_126_10 := rfl
theorem jb_126_13 : cm_126.drop 13 = cb_126_13 := rfl
theorem jb_126_19 : cm_126.drop 19 = cb_126_19 := rfl
theorem jb_126_28 : cm_126.drop 28 = cb_126_28 := rfl
theorem jb_126_35 : cm_126.drop 35 = cb_126_35 := rfl
theorem jb_126_37 : cm_126.drop 37 = cb_126_37 := rfl
theorem jb_126_39 : cm_126.drop 39 = cb_126_39 := rfl
noncomputable def cm_127 : List Instr := cb_127_0
theorem en_127 {sc : Nat × (Nat → Int32)} {d : Nat} {h : fx_H} {Q : fx_R → Prop} {a0 : Nat} {a1 : Nat} {a2 : Int32} {a3 : Int32} {a4 : Int32} (hk : wC sc d (pg_hd 127) cm_127 cb_127_0 [.ref a0, .ref a1, .int a2, .int a3, .int a4, fx_U] [] h Q) : wM sc (d + 1) 127 [.ref a0, .ref a1, .int a2, .int a3, .int a4] h Q := wM_enter (Nat.le_of_ble_eq_true rfl) hk
theorem jb_127_2 : cm_127.drop 2 = cb_127_2 := rfl
theorem jb_127_5 : cm_127.drop 5 = cb_127_5 := rfl
theorem jb_127_13 : cm_127.drop 13 = cb_127_13 := rfl
theorem jb_127_15 : cm_127.drop 15 = cb_127_15 := rfl
theorem jb_127_17 : cm_127.drop 17 = cb_127_17 := rfl
noncomputable def cm_128 : List Instr := cb_128_0
theorem en_128 {sc : Nat × (Nat → Int32)} {d : Nat} {h : fx_H} {Q : fx_R → Prop} {a0 : Nat} {a1 : Nat} {a2 : Int32} {a3 : Int32} {a4 : Int32} (hk : wC sc d (pg_hd 128) cm_128 cb_128_0 [.ref a0, .ref a1, .int a2, .int a3, .int a4, fx_U] [] h Q) : wM sc (d + 1) 128 [.ref a0, .ref a1, .int a2, .int a3, .int a4] h Q := wM_enter (Nat.le_of_ble_eq_true rfl) hk
theorem jb_128_2 : cm_128.drop 2 = cb_128_2 := rfl
theorem jb_128_5 : cm_128.drop 5 = cb_128_5 := rfl
theorem jb_128_13 : cm_128.drop 13 = cb_128_13 := rfl
theorem jb_128_15 : cm_128.drop 15 = cb_128_15 := rfl
theorem jb_128_17 : cm_128.drop 17 = cb_128_17 := rfl
noncomputable def cm_129 : List Instr := cb_129_0
theorem en_129 {sc : Nat × (Nat → Int32)} {d : Nat} {h : fx_H} {Q : fx_R → Prop} {a0 : Nat} {a1 : Nat} (hk : wC sc d (pg_hd 129) cm_129 cb_129_0 [.ref a0, .ref a1, fx_U, fx_U] [] h Q) : wM sc (d + 1) 129 [.ref a0, .ref a1] h Q := wM_enter (Nat.le_of_ble_eq_true rfl) hk
theorem jb_129_2 : cm_129.drop 2 = cb_129_2 := rfl
theorem jb_129_6 : cm_129.drop 6 = cb_129_6 := rfl
theorem jb_129_8 : cm_129.drop 8 = cb_129_8 := rfl
theorem jb_129_11 : cm_129.drop 11 = cb_129_11 := rfl
theorem jb_129_17 : cm_129.drop 17 = cb_129_17 := rfl
theorem jb_129_19 : cm_129.drop 19 = cb_129_19 := rfl
theorem jb_129_20 : cm_129.drop 20 = cb_129_20 := rfl
theorem jb_129_23 : cm_129.drop 23 = cb_129_23 := rfl
theorem jb_129_25 : cm_129.drop 25 = cb_129_25 := rfl
theorem jb_129_29 : cm_129.drop 29 = cb_129_29 := rfl
theorem jb_129_32 : cm_129.drop 32 = cb_129_32 := rfl
theorem jb_129_34 : cm_129.drop 34 = cb_129_34 := rfl
theorem jb_129_40 : cm_129.drop 40 = cb_129_40 := rfl
noncomputable def cm_130 : List Instr := cb_130_0
theorem en_130 {sc : Nat × (Nat → Int32)} {d : Nat} {h : fx_H} {Q : fx_R → Prop} {a0 : Nat} {a1 : Nat} (hk : wC sc d (pg_hd 130) cm_130 cb_130_0 [.ref a0, .ref a1, fx_U, fx_U, fx_U, fx_U] [] h Q) : wM sc (d + 1) 130 [.ref a0, .ref a1] h Q := wM_enter (Nat.le_of_ble_eq_true rfl) hk
theorem jb_130_4 : cm_130.drop 4 = cb_130_4 := rfl
theorem jb_130_8 : cm_130.drop 8 = cb_130_8 := rfl
theorem jb_130_10 : cm_130.drop 10 = cb_130_10 := rfl
theorem jb_130_13 : cm_130.drop 13 = cb_130_13 := rfl
theorem jb_130_18 : cm_130.drop 18 = cb_130_18 := rfl
theorem jb_130_31 : cm_130.drop 31 = cb_130_31 := rfl
theorem jb_130_33 : cm_130.drop 33 = cb_130_33 := rfl
theorem jb_130_35 : cm_130.drop 35 = cb_130_35 := rfl
theorem jb_130_36 : cm_130.drop 36 = cb_130_36 := rfl
theorem jb_130_37 : cm_130.drop 37 = cb_130_37 := rfl
theorem jb_130_39 : cm_130.drop 39 = cb_130_39 := rfl
theorem jb_130_41 : cm_130.drop 41 = cb_130_41 := rfl
noncomputable def cm_131 : List Instr := cb_131_0
theorem en_131 {sc : Nat × (Nat → Int32)} {d : Nat} {h : fx_H} {Q : fx_R → Prop} {a0 : Nat} {a1 : Nat} {a2 : Int32} {a3 : Int32} (hk : wC sc d (pg_hd 131) cm_131 cb_131_0 [.ref a0, .ref a1, .int a2, .int a3] [] h Q) : wM sc (d + 1) 131 [.ref a0, .ref a1, .int a2, .int a3] h Q := wM_enter (Nat.le_of_ble_eq_true rfl) hk
theorem jb_131_7 : cm_131.drop 7 = cb_131_7 := rfl
theorem jb_131_9 : cm_131.drop 9 = cb_131_9 := rfl
theorem jb_131_16 : cm_131.drop 16 = cb_131_16 := rfl
theorem jb_131_18 : cm_131.drop 18 = cb_131_18 := rfl
theorem jb_131_19 : cm_131.drop 19 = cb_131_19 := rfl
noncomputable def cm_132 : List Instr := cb_132_0
theorem en_132 {sc : Nat × (Nat → Int32)} {d : Nat} {h : fx_H} {Q : fx_R → Prop} {a0 : Nat} (hk : wC sc d (pg_hd 132) cm_132 cb_132_0 [.ref a0] [] h Q) : wM sc (d + 1) 132 [.ref a0] h Q := wM_enter (Nat.le_of_ble_eq_true rfl) hk
noncomputable def cm_133 : List Instr := cb_133_0
theorem en_133 {sc : Nat × (Nat → Int32)} {d : Nat} {h : fx_H} {Q : fx_R → Prop} {a0 : Nat} {a1 : Nat} {a2 : Nat} {a3 : Nat} {a4 : Nat} (hk : wC sc d (pg_hd 133) cm_133 cb_133_0 [.ref a0, .ref a1, .ref a2, .ref a3, .ref a4, fx_U] [] h Q) : wM sc (d + 1) 133 [.ref a0, .ref a1, .ref a2, .ref a3, .ref a4] h Q := wM_enter (Nat.le_of_ble_eq_true rfl) hk
theorem jb_133_2 : cm_133.drop 2 = cb_133_2 := rfl
theorem jb_133_6 : cm_133.drop 6 = cb_133_6 := rfl
theorem jb_133_11 : cm_133.drop 11 = cb_133_11 := rfl
theorem jb_133_23 : cm_133.drop 23 = cb_133_23 := rfl
noncomputable def cm_134 : List Instr := cb_134_0
theorem en_134 {sc : Nat × (Nat → Int32)} {d : Nat} {h : fx_H} {Q : fx_R → Prop} {a0 : Int32} {a1 : Nat} {a2 : Nat} {a3 : Nat} {a4 : Nat} (hk : wC sc d (pg_hd 134) cm_134 cb_134_0 [.int a0, .ref a1, .ref a2, .ref a3, .ref a4, fx_U, fx_U, fx_U] [] h Q) : wM sc (d + 1) 134 [.int a0, .ref a1, .ref a2, .ref a3, .ref a4] h Q := wM_enter (Nat.le_of_ble_eq_true rfl) hk
theorem jb_134_10 : cm_134.drop 10 = cb_134_10 := rfl
theorem jb_134_13 : cm_134.drop 13 = cb_134_13 := rfl
theorem jb_134_17 : cm_134.drop 17 = cb_134_17 := rfl
theorem jb_134_19 : cm_134.drop 19 = cb_134_19 := rfl
theorem jb_134_33 : cm_134.drop 33 = cb_134_33 := rfl
theorem jb_134_35 : cm_134.drop 35 = cb_134_35 := rfl
theorem jb_134_37 : cm_134.drop 37 = cb_134_37 := rfl
noncomputable def cm_135 : List Instr := cb_135_0
theorem en_135 {sc : Nat × (Nat → Int32)} {d : Nat} {h : fx_H} {Q : fx_R → Prop} {a0 : Nat} {a1 : Int32} (hk : wC sc d (pg_hd 135) cm_135 cb_135_0 [.ref a0, .int a1, fx_U, fx_U] [] h Q) : wM sc (d + 1) 135 [.ref a0, .int a1] h Q := wM_enter (Nat.le_of_ble_eq_true rfl) hk
theorem jb_135_4 : cm_135.drop 4 = cb_135_4 := rfl
theorem jb_135_7 : cm_135.drop 7 = cb_135_7 := rfl
theorem jb_135_12 : cm_135.drop 12 = cb_135_12 := rfl
theorem jb_135_18 : cm_135.drop 18 = cb_135_18 := rfl
theorem jb_135_24 : cm_135.drop 24 = cb_135_24 := rfl
theorem jb_135_26 : cm_135.drop 26 = cb_135_26 := rfl
noncomputable def cm_136 : List Instr := cb_136_0
theorem en_136 {sc : Nat × (Nat → Int32)} {d : Nat} {h : fx_H} {Q : fx_R → Prop} {a0 : Nat} {a1 : Int32} (hk : wC sc d (pg_hd 136) cm_136 cb_136_0 [.ref a0, .int a1, fx_U, fx_U] [] h Q) : wM sc (d + 1) 136 [.ref a0, .int a1] h Q := wM_enter (Nat.le_of_ble_eq_true rfl) hk
theorem jb_136_4 : cm_136.drop 4 = cb_136_4 := rfl
theorem jb_136_7 : cm_136.drop 7 = cb_136_7 := rfl
theorem jb_136_12 : cm_136.drop 12 = cb_136_12 := rfl
theorem jb_136_18 : cm_136.drop 18 = cb_136_18 := rfl
theorem jb_136_27 : cm_136.drop 27 = cb_136_27 := rfl
theorem jb_136_29 : cm_136.drop 29 = cb_136_29 := rfl
noncomputable def cm_137 : List Instr := cb_137_0
theorem en_137 {sc : Nat × (Nat → Int32)} {d : Nat} {h : fx_H} {Q : fx_R → Prop} {a0 : Nat} {a1 : Nat} {a2 : Nat} (hk : wC sc d (pg_hd 137) cm_137 cb_137_0 [.ref a0, .ref a1, .ref a2, fx_U, fx_U] [] h Q) : wM sc (d + 1) 137 [.ref a0, .ref a1, .ref a2] h Q := wM_enter (Nat.le_of_ble_eq_true rfl) hk
theorem jb_137_8 : cm_137.drop 8 = cb_137_8 := rfl
theorem jb_137_11 : cm_137.drop 11 = cb_137_11 := rfl
theorem jb_137_21 : cm_137.drop 21 = cb_137_21 := rfl
theorem jb_137_27 : cm_137.drop 27 = cb_137_27 := rfl
theorem jb_137_29 : cm_137.drop 29 = cb_137_29 := rfl
noncomputable def cm_138 : List Instr := cb_138_0
theorem en_138 {sc : Nat × (Nat → Int32)} {d : Nat} {h : fx_H} {Q : fx_R → Prop} {a0 : Nat} {a1 : Nat} {a2 : Nat} {a3 : Int32} (hk : wC sc d (pg_hd 138) cm_138 cb_138_0 [.ref a0, .ref a1, .ref a2, .int a3, fx_U, fx_U, fx_U] [] h Q) : wM sc (d + 1) 138 [.ref a0, .ref a1, .ref a2, .int a3] h Q := wM_enter (Nat.le_of_ble_eq_true rfl) hk
theorem jb_138_8 : cm_138.drop 8 = cb_138_8 := rfl
theorem jb_138_12 : cm_138.drop 12 = cb_138_12 := rfl
theorem jb_138_17 : cm_138.drop 17 = cb_138_17 := rfl
theorem jb_138_23 : cm_138.drop 23 = cb_138_23 := rfl
theorem jb_138_47 : cm_138.drop 47 = cb_138_47 := rfl
theorem jb_138_49 : cm_138.drop 49 = cb_138_49 := rfl
noncomputable def cm_139 : List Instr := cb_139_0
theorem en_139 {sc : Nat × (Nat → Int32)} {d : Nat} {h : fx_H} {Q : fx_R → Prop} {a0 : Nat} {a1 : Nat} {a2 : Int32} {a3 : Int32} (hk : wC sc d (pg_hd 139) cm_139 cb_139_0 [.ref a0, .ref a1, .int a2, .int a3, fx_U] [] h Q) : wM sc (d + 1) 139 [.ref a0, .ref a1, .int a2, .int a3] h Q := wM_enter (Nat.le_of_ble_eq_true rfl) hk
theorem jb_139_4 : cm_139.drop 4 = cb_139_4 := rfl
theorem jb_139_6 : cm_139.drop 6 = cb_139_6 := rfl
theorem jb_139_15 : cm_139.drop 15 = cb_139_15 := rfl
theorem jb_139_18 : cm_139.drop 18 = cb_139_18 := rfl
theorem jb_139_20 : cm_139.drop 20 = cb_139_20 := rfl
theorem jb_139_21 : cm_139.drop 21 = cb_139_21 := rfl
noncomputable def cm_140 : List Instr := cb_140_0
theorem en_140 {sc : Nat × (Nat → Int32)} {d : Nat} {h : fx_H} {Q : fx_R → Prop} {a0 : Nat} {a1 : Nat} {a2 : Nat} {a3 : Int32} {a4 : Int32} (hk : wC sc d (pg_hd 140) cm_140 cb_140_0 [.ref a0, .ref a1, .ref a2, .int a3, .int a4, fx_U, fx_U] [] h Q) : wM sc (d + 1) 140 [.ref a0, .ref a1, .ref a2, .int a3, .int a4] h Q := wM_enter (Nat.le_of_ble_eq_true rfl) hk
theorem jb_140_8 : cm_140.drop 8 = cb_140_8 := rfl
theorem jb_140_11 : cm_140.drop 11 = cb_140_11 := rfl
theorem jb_140_13 : cm_140.drop 13 = cb_140_13 := rfl
theorem jb_140_18 : cm_140.drop 18 = cb_140_18 := rfl
theorem jb_140_24 : cm_140.drop 24 = cb_140_24 := rfl
theorem jb_140_26 : cm_140.drop 26 = cb_140_26 := rfl
theorem jb_140_28 : cm_140.drop 28 = cb_140_28 := rfl
theorem jb_140_34 : cm_140.drop 34 = cb_140_34 := rfl
theorem jb_140_35 : cm_140.drop 35 = cb_140_35 := rfl
theorem jb_140_47 : cm_140.drop 47 = cb_140_47 := rfl
noncomputable def cm_141 : List Instr := cb_141_0
theorem en_141 {sc : Nat × (Nat → Int32)} {d : Nat} {h : fx_H} {Q : fx_R → Prop} {a0 : Nat} (hk : wC sc d (pg_hd 141) cm_141 cb_141_0 [.ref a0, fx_U] [] h Q) : wM sc (d + 1) 141 [.ref a0] h Q := wM_enter (Nat.le_of_ble_eq_true rfl) hk
theorem jb_141_95 : cm_141.drop 95 = cb_141_95 := rfl
theorem jb_141_100 : cm_141.drop 100 = cb_141_100 := rfl
theorem jb_141_109 : cm_141.drop 109 = cb_141_109 := rfl
noncomputable def cm_142 : List Instr := cb_142_0
theorem en_142 {sc : Nat × (Nat → Int32)} {d : Nat} {h : fx_H} {Q : fx_R → Prop} {a0 : Nat} {a1 : Int32} {a2 : Int32} {a3 : Int32} {a4 : Int32} {a5 : Int32} (hk : wC sc d (pg_hd 142) cm_142 cb_142_0 [.ref a0, .int a1, .int a2, .int a3, .int a4, .int a5] [] h Q) : wM sc (d + 1) 142 [.ref a0, .int a1, .int a2, .int a3, .int a4, .int a5] h Q := wM_enter (Nat.le_of_ble_eq_true rfl) hk
noncomputable def cm_143 : List Instr := cb_143_0
theorem en_143 {sc : Nat × (Nat → Int32)} {d : Nat} {h : fx_H} {Q : fx_R → Prop} {a0 : Nat} {a1 : Int32} (hk : wC sc d (pg_hd 143) cm_143 cb_143_0 [.ref a0, .int a1, fx_U] [] h Q) : wM sc (d + 1) 143 [.ref a0, .int a1] h Q := wM_enter (Nat.le_of_ble_eq_true rfl) hk
theorem jb_143_10 : cm_143.drop 10 = cb_143_10 := rfl
theorem jb_143_13 : cm_143.drop 13 = cb_143_13 := rfl
noncomputable def cm_144 : List Instr := cb_144_0
theorem en_144 {sc : Nat × (Nat → Int32)} {d : Nat} {h : fx_H} {Q : fx_R → Prop} {a0 : Nat} {a1 : Int32} (hk : wC sc d (pg_hd 144) cm_144 cb_144_0 [.ref a0, .int a1, fx_U] [] h Q) : wM sc (d + 1) 144 [.ref a0, .int a1] h Q := wM_enter (Nat.le_of_ble_eq_true rfl) hk
theorem jb_144_10 : cm_144.drop 10 = cb_144_10 := rfl
theorem jb_144_13 : cm_144.drop 13 = cb_144_13 := rfl
noncomputable def cm_145 : List Instr := cb_145_0
theorem en_145 {sc : Nat × (Nat → Int32)} {d : Nat} {h : fx_H} {Q : fx_R → Prop} {a0 : Nat} {a1 : Int32} (hk : wC sc d (pg_hd 145) cm_145 cb_145_0 [.ref a0, .int a1] [] h Q) : wM sc (d + 1) 145 [.ref a0, .int a1] h Q := wM_enter (Nat.le_of_ble_eq_true rfl) hk
theorem jb_145_9 : cm_145.drop 9 = cb_145_9 := rfl
theorem jb_145_11 : cm_145.drop 11 = cb_145_11 := rfl
theorem jb_145_19 : cm_145.drop 19 = cb_145_19 := rfl
theorem jb_145_22 : cm_145.drop 22 = cb_145_22 := rfl
noncomputable def cm_146 : List Instr := cb_146_0
theorem en_146 {sc : Nat × (Nat → Int32)} {d : Nat} {h : fx_H} {Q : fx_R → Prop} {a0 : Nat} {a1 : Int32} (hk : wC sc d (pg_hd 146) cm_146 cb_146_0 [.ref a0, .int a1, fx_U] [] h Q) : wM sc (d + 1) 146 [.ref a0, .int a1] h Q := wM_enter (Nat.le_of_ble_eq_true rfl) hk
theorem jb_146_11 : cm_146.drop 11 = cb_146_11 := rfl
theorem jb_146_14 : cm_146.drop 14 = cb_146_14 := rfl
noncomputable def cm_147 : List Instr := cb_147_0
theorem en_147 {sc : Nat × (Nat → Int32)} {d : Nat} {h : fx_H} {Q : fx_R → Prop} {a0 : Nat} {a1 : Int32} (hk : wC sc d (pg_hd 147) cm_147 cb_147_0 [.ref a0, .int a1, fx_U] [] h Q) : wM sc (d + 1) 147 [.ref a0, .int a1] h Q := wM_enter (Nat.le_of_ble_eq_true rfl) hk
theorem jb_147_11 : cm_147.drop 11 = cb_147_11 := rfl
theorem jb_147_14 : cm_147.drop 14 = cb_147_14 := rfl
noncomputable def cm_148 : List Instr := cb_148_0
theorem en_148 {sc : Nat × (Nat → Int32)} {d : Nat} {h : fx_H} {Q : fx_R → Prop} {a0 : Nat} (hk : wC sc d (pg_hd 148) cm_148 cb_148_0 [.ref a0] [] h Q) : wM sc (d + 1) 148 [.ref a0] h Q := wM_enter (Nat.le_of_ble_eq_true rfl) hk
noncomputable def cm_149 : List Instr := cb_149_0
theorem en_149 {sc : Nat × (Nat → Int32)} {d : Nat} {h : fx_H} {Q : fx_R → Prop} {a0 : Nat} (hk : wC sc d (pg_hd 149) cm_149 cb_149_0 [.ref a0] [] h Q) : wM sc (d + 1) 149 [.ref a0] h Q := wM_enter (Nat.le_of_ble_eq_true rfl) hk
theorem jb_149_4 : cm_149.drop 4 = cb_149_4 := rfl
theorem jb_149_6 : cm_149.drop 6 = cb_149_6 := rfl
noncomputable def cm_150 : List Instr := cb_150_0
theorem en_150 {sc : Nat × (Nat → Int32)} {d : Nat} {h : fx_H} {Q : fx_R → Prop} {a0 : Nat} {a1 : Int32} (hk : wC sc d (pg_hd 150) cm_150 cb_150_0 [.ref a0, .int a1, fx_U] [] h Q) : wM sc (d + 1) 150 [.ref a0, .int a1] h Q := wM_enter (Nat.le_of_ble_eq_true rfl) hk
theorem jb_150_11 : cm_150.drop 11 = cb_150_11 := rfl
theorem jb_150_15 : cm_150.drop 15 = cb_150_15 := rfl
theorem jb_150_19 : cm_150.drop 19 = cb_150_19 := rfl
theorem jb_150_22 : cm_150.drop 22 = cb_150_22 := rfl
theorem jb_150_25 : cm_150.drop 25 = cb_150_25 := rfl
theorem jb_150_28 : cm_150.drop 28 = cb_150_28 := rfl
theorem jb_150_31 : cm_150.drop 31 = cb_150_31 := rfl
theorem jb_150_34 : cm_150.drop 34 = cb_150_34 := rfl
theorem jb_150_40 : cm_150.drop 40 = cb_150_40 := rfl
theorem jb_150_44 : cm_150.drop 44 = cb_150_44 := rfl
theorem jb_150_48 : cm_150.drop 48 = cb_150_48 := rfl
theorem jb_150_52 : cm_150.drop 52 = cb_150_52 := rfl
noncomputable def cm_151 : List Instr := cb_151_0
theorem en_151 {sc : Nat × (Nat → Int32)} {d : Nat} {h : fx_H} {Q : fx_R → Prop} {a0 : Nat} {a1 : Int32} {a2 : Int32} (hk : wC sc d (pg_hd 151) cm_151 cb_151_0 [.ref a0, .int a1, .int a2, fx_U] [] h Q) : wM sc (d + 1) 151 [.ref a0, .int a1, .int a2] h Q := wM_enter (Nat.le_of_ble_eq_true rfl) hk
theorem jb_151_14 : cm_151.drop 14 = cb_151_14 := rfl
theorem jb_151_19 : cm_151.drop 19 = cb_151_19 := rfl
theorem jb_151_22 : cm_151.drop 22 = cb_151_22 := rfl
theorem jb_151_29 : cm_151.drop 29 = cb_151_29 := rfl
theorem jb_151_37 : cm_151.drop 37 = cb_151_37 := rfl
noncomputable def cm_152 : List Instr := cb_152_0
theorem en_152 {sc : Nat × (Nat → Int32)} {d : Nat} {h : fx_H} {Q : fx_R → Prop} {a0 : Nat} {a1 : Int32} {a2 : Int32} (hk : wC sc d (pg_hd 152) cm_152 cb_152_0 [.ref a0, .int a1, .int a2] [] h Q) : wM sc (d + 1) 152 [.ref a0, .int a1, .int a2] h Q := wM_enter (Nat.le_of_ble_eq_true rfl) hk
noncomputable def cm_153 : List Instr := cb_153_0
theorem en_153 {sc : Nat × (Nat → Int32)} {d : Nat} {h : fx_H} {Q : fx_R → Prop} {a0 : Nat} {a1 : Int32} {a2 : Int32} (hk : wC sc d (pg_hd 153) cm_153 cb_153_0 [.ref a0, .int a1, .int a2] [] h Q) : wM sc (d + 1) 153 [.ref a0, .int a1, .int a2] h Q := wM_enter (Nat.le_of_ble_eq_true rfl) hk
theorem jb_153_2 : cm_153.drop 2 = cb_153_2 := rfl
theorem jb_153_7 : cm_153.drop 7 = cb_153_7 := rfl
theorem jb_153_9 : cm_153.drop 9 = cb_153_9 := rfl
noncomputable def cm_154 : List Instr := cb_154_0
theorem en_154 {sc : Nat × (Nat → Int32)} {d : Nat} {h : fx_H} {Q : fx_R → Prop} {a0 : Nat} {a1 : Int32} (hk : wC sc d (pg_hd 154) cm_154 cb_154_0 [.ref a0, .int a1] [] h Q) : wM sc (d + 1) 154 [.ref a0, .int a1] h Q := wM_enter (Nat.le_of_ble_eq_true rfl) hk
noncomputable def cm_155 : List Instr := cb_155_0
theorem en_155 {sc : Nat × (Nat → Int32)} {d : Nat} {h : fx_H} {Q : fx_R → Prop} {a0 : Nat} {a1 : Int32} {a2 : Int32} {a3 : Int32} {a4 : Int32} {a5 : Int32} {a6 : Int32} {a7 : Int32} (hk : wC sc d (pg_hd 155) cm_155 cb_155_0 [.ref a0, .int a1, .int a2, .int a3, .int a4, .int a5, .int a6, .int a7] [] h Q) : wM sc (d + 1) 155 [.ref a0, .int a1, .int a2, .int a3, .int a4, .int a5, .int a6, .int a7] h Q := wM_enter (Nat.le_of_ble_eq_true rfl) hk
noncomputable def cm_156 : List Instr := cb_156_0
theorem en_156 {sc : Nat × (Nat → Int32)} {d : Nat} {h : fx_H} {Q : fx_R → Prop} {a0 : Nat} {a1 : Int32} {a2 : Int32} (hk : wC sc d (pg_hd 156) cm_156 cb_156_0 [.ref a0, .int a1, .int a2, fx_U] [] h Q) : wM sc (d + 1) 156 [.ref a0, .int a1, .int a2] h Q := wM_enter (Nat.le_of_ble_eq_true rfl) hk
theorem jb_156_21 : cm_156.drop 21 = cb_156_21 := rfl
theorem jb_156_23 : cm_156.drop 23 = cb_156_23 := rfl
theorem jb_156_31 : cm_156.drop 31 = cb_156_31 := rfl
noncomputable def cm_157 : List Instr := cb_157_0
theorem en_157 {sc : Nat × (Nat → Int32)} {d : Nat} {h : fx_H} {Q : fx_R → Prop} {a0 : Nat} {a1 : Int32} (hk : wC sc d (pg_hd 157) cm_157 cb_157_0 [.ref a0, .int a1, fx_U, fx_U] [] h Q) : wM sc (d + 1) 157 [.ref a0, .int a1] h Q := wM_enter (Nat.le_of_ble_eq_true rfl) hk
theorem jb_157_9 : cm_157.drop 9 = cb_157_9 := rfl
theorem jb_157_14 : cm_157.drop 14 = cb_157_14 := rfl
theorem jb_157_25 : cm_157.drop 25 = cb_157_25 := rfl
noncomputable def cm_158 : List Instr := cb_158_0
theorem en_158 {sc : Nat × (Nat → Int32)} {d : Nat} {h : fx_H} {Q : fx_R → Prop} {a0 : Nat} {a1 : Int32} {a2 : Int32} (hk : wC sc d (pg_hd 158) cm_158 cb_158_0 [.ref a0, .int a1, .int a2] [] h Q) : wM sc (d + 1) 158 [.ref a0, .int a1, .int a2] h Q := wM_enter (Nat.le_of_ble_eq_true rfl) hk
theorem jb_158_10 : cm_158.drop 10 = cb_158_10 := rfl
theorem jb_158_12 : cm_158.drop 12 = cb_158_12 := rfl
theorem jb_158_14 : cm_158.drop 14 = cb_158_14 := rfl
theorem jb_158_15 : cm_158.drop 15 = cb_158_15 := rfl
theorem jb_158_16 : cm_158.drop 16 = cb_158_16 := rfl
theorem jb_158_27 : cm_158.drop 27 = cb_158_27 := rfl
theorem jb_158_31 : cm_158.drop 31 = cb_158_31 := rfl
theorem jb_158_34 : cm_158.drop 34 = cb_158_34 := rfl
noncomputable def cm_159 : List Instr := cb_159_0
theorem en_159 {sc : Nat × (Nat → Int32)} {d : Nat} {h : fx_H} {Q : fx_R → Prop} {a0 : Nat} {a1 : Int32} {a2 : Int32} (hk : wC sc d (pg_hd 159) cm_159 cb_159_0 [.ref a0, .int a1, .int a2] [] h Q) : wM sc (d + 1) 159 [.ref a0, .int a1, .int a2] h Q := wM_enter (Nat.le_of_ble_eq_true rfl) hk
theorem jb_159_10 : cm_159.drop 10 = cb_159_10 := rfl
theorem jb_159_12 : cm_159.drop 12 = cb_159_12 := rfl
noncomputable def cm_160 : List Instr := cb_160_0
theorem en_160 {sc : Nat × (Nat → Int32)} {d : Nat} {h : fx_H} {Q : fx_R → Prop} {a0 : Nat} {a1 : Int32} {a2 : Int32} (hk : wC sc d (pg_hd 160) cm_160 cb_160_0 [.ref a0, .int a1, .int a2] [] h Q) : wM sc (d + 1) 160 [.ref a0, .int a1, .int a2] h Q := wM_enter (Nat.le_of_ble_eq_true rfl) hk
theorem jb_160_8 : cm_160.drop 8 = cb_160_8 := rfl
theorem jb_160_10 : cm_160.drop 10 = cb_160_10 := rfl
noncomputable def cm_161 : List Instr := cb_161_0
theorem en_161 {sc : Nat × (Nat → Int32)} {d : Nat} {h : fx_H} {Q : fx_R → Prop} {a0 : Nat} {a1 : Int32} (hk : wC sc d (pg_hd 161) cm_161 cb_161_0 [.ref a0, .int a1, fx_U] [] h Q) : wM sc (d + 1) 161 [.ref a0, .int a1] h Q := wM_enter (Nat.le_of_ble_eq_true rfl) hk
theorem jb_161_5 : cm_161.drop 5 = cb_161_5 := rfl
theorem jb_161_7 : cm_161.drop 7 = cb_161_7 := rfl
theorem jb_161_11 : cm_161.drop 11 = cb_161_11 := rfl
theorem jb_161_14 : cm_161.drop 14 = cb_161_14 := rfl
theorem jb_161_31 : cm_161.drop 31 = cb_161_31 := rfl
noncomputable def cm_162 : List Instr := cb_162_0
theorem en_162 {sc : Nat × (Nat → Int32)} {d : Nat} {h : fx_H} {Q : fx_R → Prop} {a0 : Nat} {a1 : Int32} {a2 : Int32} (hk : wC sc d (pg_hd 162) cm_162 cb_162_0 [.ref a0, .int a1, .int a2] [] h Q) : wM sc (d + 1) 162 [.ref a0, .int a1, .int a2] h Q := wM_enter (Nat.le_of_ble_eq_true rfl) hk
noncomputable def cm_163 : List Instr := cb_163_0
theorem en_163 {sc : Nat × (Nat → Int32)} {d : Nat} {h : fx_H} {Q : fx_R → Prop} {a0 : Nat} {a1 : Int32} (hk : wC sc d (pg_hd 163) cm_163 cb_163_0 [.ref a0, .int a1] [] h Q) : wM sc (d + 1) 163 [.ref a0, .int a1] h Q := wM_enter (Nat.le_of_ble_eq_true rfl) hk
noncomputable def cm_164 : List Instr := cb_164_0
theorem en_164 {sc : Nat × (Nat → Int32)} {d : Nat} {h : fx_H} {Q : fx_R → Prop} {a0 : Nat} (hk : wC sc d (pg_hd 164) cm_164 cb_164_0 [.ref a0, fx_U, fx_U, fx_U] [] h Q) : wM sc (d + 1) 164 [.ref a0] h Q := wM_enter (Nat.le_of_ble_eq_true rfl) hk
theorem jb_164_13 : cm_164.drop 13 = cb_164_13 := rfl
theorem jb_164_18 : cm_164.drop 18 = cb_164_18 := rfl
theorem jb_164_34 : cm_164.drop 34 = cb_164_34 := rfl
theorem jb_164_35 : cm_164.drop 35 = cb_164_35 := rfl
theorem jb_164_37 : cm_164.drop 37 = cb_164_37 := rfl
noncomputable def cm_165 : List Instr := cb_165_0
theorem en_165 {sc : Nat × (Nat → Int32)} {d : Nat} {h : fx_H} {Q : fx_R → Prop} {a0 : Nat} {a1 : Int32} {a2 : Int32} {a3 : Int32} (hk : wC sc d (pg_hd 165) cm_165 cb_165_0 [.ref a0, .int a1, .int a2, .int a3, fx_U] [] h Q) : wM sc (d + 1) 165 [.ref a0, .int a1, .int a2, .int a3] h Q := wM_enter (Nat.le_of_ble_eq_true rfl) hk
theorem jb_165_19 : cm_165.drop 19 = cb_165_19 := rfl
theorem jb_165_22 : cm_165.drop 22 = cb_165_22 := rfl
theorem jb_165_27 : cm_165.drop 27 = cb_165_27 := rfl
noncomputable def cm_166 : List Instr := cb_166_0
theorem en_166 {sc : Nat × (Nat → Int32)} {d : Nat} {h : fx_H} {Q : fx_R → Prop} {a0 : Nat} {a1 : Int32} {a2 : Int32} (hk : wC sc d (pg_hd 166) cm_166 cb_166_0 [.ref a0, .int a1, .int a2] [] h Q) : wM sc (d + 1) 166 [.ref a0, .int a1, .int a2] h Q := wM_enter (Nat.le_of_ble_eq_true rfl) hk
theorem jb_166_19 : cm_166.drop 19 = cb_166_19 := rfl
theorem jb_166_21 : cm_166.drop 21 = cb_166_21 := rfl
theorem jb_166_22 : cm_166.drop 22 = cb_166_22 := rfl
noncomputable def cm_167 : List Instr := cb_167_0
theorem en_167 {sc : Nat × (Nat → Int32)} {d : Nat} {h : fx_H} {Q : fx_R → Prop} {a0 : Nat} (hk : wC sc d (pg_hd 167) cm_167 cb_167_0 [.ref a0] [] h Q) : wM sc (d + 1) 167 [.ref a0] h Q := wM_enter (Nat.le_of_ble_eq_true rfl) hk
noncomputable def cm_168 : List Instr := cb_168_0
theorem en_168 {sc : Nat × (Nat → Int32)} {d : Nat} {h : fx_H} {Q : fx_R → Prop} {a0 : Nat} (hk : wC sc d (pg_hd 168) cm_168 cb_168_0 [.ref a0] [] h Q) : wM sc (d + 1) 168 [.ref a0] h Q := wM_enter (Nat.le_of_ble_eq_true rfl) hk
noncomputable def cm_169 : List Instr := cb_169_0
theorem en_169 {sc : Nat × (Nat → Int32)} {d : Nat} {h : fx_H} {Q : fx_R → Prop} {a0 : Nat} {a1 : Int32} (hk : wC sc d (pg_hd 169) cm_169 cb_169_0 [.ref a0, .int a1] [] h Q) : wM sc (d + 1) 169 [.ref a0, .int a1] h Q := wM_enter (Nat.le_of_ble_eq_true rfl) hk
theorem jb_169_14 : cm_169.drop 14 = cb_169_14 := rfl
theorem jb_169_16 : cm_169.drop 16 = cb_169_16 := rfl
theorem jb_169_25 : cm_169.drop 25 = cb_169_25 := rfl
theorem jb_169_29 : cm_169.drop 29 = cb_169_29 := rfl
theorem jb_169_32 : cm_169.drop 32 = cb_169_32 := rfl
noncomputable def cm_170 : List Instr := cb_170_0
theorem en_170 {sc : Nat × (Nat → Int32)} {d : Nat} {h : fx_H} {Q : fx_R → Prop} {a0 : Nat} {a1 : Int32} {a2 : Int32} {a3 : Int32} {a4 : Int32} {a5 : Int32} (hk : wC sc d (pg_hd 170) cm_170 cb_170_0 [.ref a0, .int a1, .int a2, .int a3, .int a4, .int a5, fx_U, fx_U] [] h Q) : wM sc (d + 1) 170 [.ref a0, .int a1, .int a2, .int a3, .int a4, .int a5] h Q := wM_enter (Nat.le_of_ble_eq_true rfl) hk
theorem jb_170_35 : cm_170.drop 35 = cb_170_35 := rfl
theorem jb_170_38 : cm_170.drop 38 = cb_170_38 := rfl
theorem jb_170_48 : cm_170.drop 48 = cb_170_48 := rfl
theorem jb_170_57 : cm_170.drop 57 = cb_170_57 := rfl
theorem jb_170_59 : cm_170.drop 59 = cb_170_59 := rfl
theorem jb_170_60 : cm_170.drop 60 = cb_170_60 := rfl
noncomputable def cm_171 : List Instr := cb_171_0
theorem en_171 {sc : Nat × (Nat → Int32)} {d : Nat} {h : fx_H} {Q : fx_R → Prop} {a0 : Nat} {a1 : Int32} {a2 : Int32} (hk : wC sc d (pg_hd 171) cm_171 cb_171_0 [.ref a0, .int a1, .int a2] [] h Q) : wM sc (d + 1) 171 [.ref a0, .int a1, .int a2] h Q := wM_enter (Nat.le_of_ble_eq_true rfl) hk
noncomputable def cm_172 : List Instr := cb_172_0
theorem en_172 {sc : Nat × (Nat → Int32)} {d : Nat} {h : fx_H} {Q : fx_R → Prop} {a0 : Nat} {a1 : Int32} (hk : wC sc d (pg_hd 172) cm_172 cb_172_0 [.ref a0, .int a1, fx_U, fx_U, fx_U, fx_U] [] h Q) : wM sc (d + 1) 172 [.ref a0, .int a1] h Q := wM_enter (Nat.le_of_ble_eq_true rfl) hk
theorem jb_172_11 : cm_172.drop 11 = cb_172_11 := rfl
theorem jb_172_14 : cm_172.drop 14 = cb_172_14 := rfl
theorem jb_172_18 : cm_172.drop 18 = cb_172_18 := rfl
theorem jb_172_21 : cm_172.drop 21 = cb_172_21 := rfl
theorem jb_172_31 : cm_172.drop 31 = cb_172_31 := rfl
theorem jb_172_35 : cm_172.drop 35 = cb_172_35 := rfl
noncomputable def cm_173 : List Instr := cb_173_0
theorem en_173 {sc : Nat × (Nat → Int32)} {d : Nat} {h : fx_H} {Q : fx_R → Prop} {a0 : Nat} {a1 : Int32} {a2 : Int32} (hk : wC sc d (pg_hd 173) cm_173 cb_173_0 [.ref a0, .int a1, .int a2, fx_U, fx_U] [] h Q) : wM sc (d + 1) 173 [.ref a0, .int a1, .int a2] h Q := wM_enter (Nat.le_of_ble_eq_true rfl) hk
theorem jb_173_12 : cm_173.drop 12 = cb_173_12 := rfl
theorem jb_173_17 : cm_173.drop 17 = cb_173_17 := rfl
theorem jb_173_24 : cm_173.drop 24 = cb_173_24 := rfl
theorem jb_173_30 : cm_173.drop 30 = cb_173_30 := rfl
theorem jb_173_32 : cm_173.drop 32 = cb_173_32 := rfl
noncomputable def cm_174 : List Instr := cb_174_0
theorem en_174 {sc : Nat × (Nat → Int32)} {d : Nat} {h : fx_H} {Q : fx_R → Prop} {a0 : Nat} (hk : wC sc d (pg_hd 174) cm_174 cb_174_0 [.ref a0, fx_U, fx_U] [] h Q) : wM sc (d + 1) 174 [.ref a0] h Q := wM_enter (Nat.le_of_ble_eq_true rfl) hk
theorem jb_174_6 : cm_174.drop 6 = cb_174_6 := rfl
theorem jb_174_11 : cm_174.drop 11 = cb_174_11 := rfl
theorem jb_174_16 : cm_174.drop 16 = cb_174_16 := rfl
theorem jb_174_22 : cm_174.drop 22 = cb_174_22 := rfl
theorem jb_174_24 : cm_174.drop 24 = cb_174_24 := rfl
noncomputable def cm_175 : List Instr := cb_175_0
theorem en_175 {sc : Nat × (Nat → Int32)} {d : Nat} {h : fx_H} {Q : fx_R → Prop} {a0 : Nat} (hk : wC sc d (pg_hd 175) cm_175 cb_175_0 [.ref a0, fx_U, fx_U] [] h Q) : wM sc (d + 1) 175 [.ref a0] h Q := wM_enter (Nat.le_of_ble_eq_true rfl) hk
theorem jb_175_4 : cm_175.drop 4 = cb_175_4 := rfl
theorem jb_175_7 : cm_175.drop 7 = cb_175_7 := rfl
theorem jb_175_22 : cm_175.drop 22 = cb_175_22 := rfl
theorem jb_175_23 : cm_175.drop 23 = cb_175_23 := rfl
theorem jb_175_25 : cm_175.drop 25 = cb_175_25 := rfl
noncomputable def cm_176 : List Instr := cb_176_0
theorem en_176 {sc : Nat × (Nat → Int32)} {d : Nat} {h : fx_H} {Q : fx_R → Prop} {a0 : Nat} {a1 : Int32} {a2 : Int32} {a3 : Int32} {a4 : Int32} (hk : wC sc d (pg_hd 176) cm_176 cb_176_0 [.ref a0, .int a1, .int a2, .int a3, .int a4] [] h Q) : wM sc (d + 1) 176 [.ref a0, .int a1, .int a2, .int a3, .int a4] h Q := wM_enter (Nat.le_of_ble_eq_true rfl) hk
theorem jb_176_22 : cm_176.drop 22 = cb_176_22 := rfl
theorem jb_176_29 : cm_176.drop 29 = cb_176_29 := rfl
theorem jb_176_33 : cm_176.drop 33 = cb_176_33 := rfl
theorem jb_176_42 : cm_176.drop 42 = cb_176_42 := rfl
noncomputable def cm_177 : List Instr := cb_177_0
theorem en_177 {sc : Nat × (Nat → Int32)} {d : Nat} {h : fx_H} {Q : fx_R → Prop} {a0 : Nat} {a1 : Int32} {a2 : Int32} {a3 : Int32} {a4 : Int32} {a5 : Int32} {a6 : Int32} (hk : wC sc d (pg_hd 177) cm_177 cb_177_0 [.ref a0, .int a1, .int a2, .int a3, .int a4, .int a5, .int a6, fx_U, fx_U, fx_U, fx_U, fx_U] [] h Q) : wM sc (d + 1) 177 [.ref a0, .int a1, .int a2, .int a3, .int a4, .int a5, .int a6] h Q := wM_enter (Nat.le_of_ble_eq_true rfl) hk
theorem jb_177_37 : cm_177.drop 37 = cb_177_37 := rfl
theorem jb_177_40 : cm_177.drop 40 = cb_177_40 := rfl
theorem jb_177_79 : cm_177.drop 79 = cb_177_79 := rfl
theorem jb_177_81 : cm_177.drop 81 = cb_177_81 := rfl
theorem jb_177_83 : cm_177.drop 83 = cb_177_83 := rfl
theorem jb_177_86 : cm_177.drop 86 = cb_177_86 := rfl
theorem jb_177_88 : cm_177.drop 88 = cb_177_88 := rfl
theorem jb_177_89 : cm_177.drop 89 = cb_177_89 := rfl
noncomputable def cm_178 : List Instr := cb_178_0
theorem en_178 {sc : Nat × (Nat → Int32)} {d : Nat} {h : fx_H} {Q : fx_R → Prop} {a0 : Nat} (hk : wC sc d (pg_hd 178) cm_178 cb_178_0 [.ref a0] [] h Q) : wM sc (d + 1) 178 [.ref a0] h Q := wM_enter (Nat.le_of_ble_eq_true rfl) hk
theorem jb_178_4 : cm_178.drop 4 = cb_178_4 := rfl
theorem jb_178_6 : cm_178.drop 6 = cb_178_6 := rfl
noncomputable def cm_179 : List Instr := cb_179_0
theorem en_179 {sc : Nat × (Nat → Int32)} {d : Nat} {h : fx_H} {Q : fx_R → Prop} {a0 : Nat} (hk : wC sc d (pg_hd 179) cm_179 cb_179_0 [.ref a0] [] h Q) : wM sc (d + 1) 179 [.ref a0] h Q := wM_enter (Nat.le_of_ble_eq_true rfl) hk
theorem jb_179_3 : cm_179.drop 3 = cb_179_3 := rfl
theorem jb_179_5 : cm_179.drop 5 = cb_179_5 := rfl
noncomputable def cm_180 : List Instr := cb_180_0
theorem en_180 {sc : Nat × (Nat → Int32)} {d : Nat} {h : fx_H} {Q : fx_R → Prop} {a0 : Nat} {a1 : Int32} (hk : wC sc d (pg_hd 180) cm_180 cb_180_0 [.ref a0, .int a1] [] h Q) : wM sc (d + 1) 180 [.ref a0, .int a1] h Q := wM_enter (Nat.le_of_ble_eq_true rfl) hk
theorem jb_180_2 : cm_180.drop 2 = cb_180_2 := rfl
theorem jb_180_5 : cm_180.drop 5 = cb_180_5 := rfl
theorem jb_180_8 : cm_180.drop 8 = cb_180_8 := rfl
theorem jb_180_11 : cm_180.drop 11 = cb_180_11 := rfl
theorem jb_180_12 : cm_180.drop 12 = cb_180_12 := rfl
noncomputable def cm_181 : List Instr := cb_181_0
theorem en_181 {sc : Nat × (Nat → Int32)} {d : Nat} {h : fx_H} {Q : fx_R → Prop} {a0 : Nat} {a1 : Int32} (hk : wC sc d (pg_hd 181) cm_181 cb_181_0 [.ref a0, .int a1] [] h Q) : wM sc (d + 1) 181 [.ref a0, .int a1] h Q := wM_enter (Nat.le_of_ble_eq_true rfl) hk
theorem jb_181_2 : cm_181.drop 2 = cb_181_2 := rfl
theorem jb_181_5 : cm_181.drop 5 = cb_181_5 := rfl
theorem jb_181_9 : cm_181.drop 9 = cb_181_9 := rfl
theorem jb_181_13 : cm_181.drop 13 = cb_181_13 := rfl
noncomputable def cm_182 : List Instr := cb_182_0
theorem en_182 {sc : Nat × (Nat → Int32)} {d : Nat} {h : fx_H} {Q : fx_R → Prop} {a0 : Nat} (hk : wC sc d (pg_hd 182) cm_182 cb_182_0 [.ref a0] [] h Q) : wM sc (d + 1) 182 [.ref a0] h Q := wM_enter (Nat.le_of_ble_eq_true rfl) hk
noncomputable def cm_183 : List Instr := cb_183_0
theorem en_183 {sc : Nat × (Nat → Int32)} {d : Nat} {h : fx_H} {Q : fx_R → Prop} {a0 : Nat} {a1 : Int32} (hk : wC sc d (pg_hd 183) cm_183 cb_183_0 [.ref a0, .int a1] [] h Q) : wM sc (d + 1) 183 [.ref a0, .int a1] h Q := wM_enter (Nat.le_of_ble_eq_true rfl) hk
theorem jb_183_2 : cm_183.drop 2 = cb_183_2 := rfl
theorem jb_183_7 : cm_183.drop 7 = cb_183_7 := rfl
theorem jb_183_9 : cm_183.drop 9 = cb_183_9 := rfl
noncomputable def cm_184 : List Instr := cb_184_0
theorem en_184 {sc : Nat × (Nat → Int32)} {d : Nat} {h : fx_H} {Q : fx_R → Prop} {a0 : Nat} {a1 : Int32} {a2 : Int32} {a3 : Int32} (hk : wC sc d (pg_hd 184) cm_184 cb_184_0 [.ref a0, .int a1, .int a2, .int a3] [] h Q) : wM sc (d + 1) 184 [.ref a0, .int a1, .int a2, .int a3] h Q := wM_enter (Nat.le_of_ble_eq_true rfl) hk
theorem jb_184_3 : cm_184.drop 3 = cb_184_3 := rfl
theorem jb_184_6 : cm_184.drop 6 = cb_184_6 := rfl
theorem jb_184_13 : cm_184.drop 13 = cb_184_13 := rfl
noncomputable def cm_185 : List Instr := cb_185_0
theorem en_185 {sc : Nat × (Nat → Int32)} {d : Nat} {h : fx_H} {Q : fx_R → Prop} {a0 : Nat} {a1 : Int32} (hk : wC sc d (pg_hd 185) cm_185 cb_185_0 [.ref a0, .int a1] [] h Q) : wM sc (d + 1) 185 [.ref a0, .int a1] h Q := wM_enter (Nat.le_of_ble_eq_true rfl) hk
noncomputable def cm_186 : List Instr := cb_186_0
theorem en_186 {sc : Nat × (Nat → Int32)} {d : Nat} {h : fx_H} {Q : fx_R → Prop} {a0 : Nat} {a1 : Int32} (hk : wC sc d (pg_hd 186) cm_186 cb_186_0 [.ref a0, .int a1] [] h Q) : wM sc (d + 1) 186 [.ref a0, .int a1] h Q := wM_enter (Nat.le_of_ble_eq_true rfl) hk
noncomputable def cm_187 : List Instr := cb_187_0
theorem en_187 {sc : Nat × (Nat → Int32)} {d : Nat} {h : fx_H} {Q : fx_R → Prop} {a0 : Nat} {a1 : Int32} {a2 : Int32} (hk : wC sc d (pg_hd 187) cm_187 cb_187_0 [.ref a0, .int a1, .int a2] [] h Q) : wM sc (d + 1) 187 [.ref a0, .int a1, .int a2] h Q := wM_enter (Nat.le_of_ble_eq_true rfl) hk
noncomputable def cm_188 : List Instr := cb_188_0
theorem en_188 {sc : Nat × (Nat → Int32)} {d : Nat} {h : fx_H} {Q : fx_R → Prop} {a0 : Nat} (hk : wC sc d (pg_hd 188) cm_188 cb_188_0 [.ref a0] [] h Q) : wM sc (d + 1) 188 [.ref a0] h Q := wM_enter (Nat.le_of_ble_eq_true rfl) hk
noncomputable def cm_189 : List Instr := cb_189_0
theorem en_189 {sc : Nat × (Nat → Int32)} {d : Nat} {h : fx_H} {Q : fx_R → Prop} {a0 : Nat} (hk : wC sc d (pg_hd 189) cm_189 cb_189_0 [.ref a0] [] h Q) : wM sc (d + 1) 189 [.ref a0] h Q := wM_enter (Nat.le_of_ble_eq_true rfl) hk
theorem jb_189_10 : cm_189.drop 10 = cb_189_10 := rfl
theorem jb_189_13 : cm_189.drop 13 = cb_189_13 := rfl
noncomputable def cm_190 : List Instr := cb_190_0
theorem en_190 {sc : Nat × (Nat → Int32)} {d : Nat} {h : fx_H} {Q : fx_R → Prop} {a0 : Nat} (hk : wC sc d (pg_hd 190) cm_190 cb_190_0 [.ref a0] [] h Q) : wM sc (d + 1) 190 [.ref a0] h Q := wM_enter (Nat.le_of_ble_eq_true rfl) hk
noncomputable def cm_191 : List Instr := cb_191_0
theorem en_191 {sc : Nat × (Nat → Int32)} {d : Nat} {h : fx_H} {Q : fx_R → Prop} {a0 : Nat} {a1 : Int32} {a2 : Int32} {a3 : Int32} (hk : wC sc d (pg_hd 191) cm_191 cb_191_0 [.ref a0, .int a1, .int a2, .int a3, fx_U] [] h Q) : wM sc (d + 1) 191 [.ref a0, .int a1, .int a2, .int a3] h Q := wM_enter (Nat.le_of_ble_eq_true rfl) hk
theorem jb_191_11 : cm_191.drop 11 = cb_191_11 := rfl
theorem jb_191_14 : cm_191.drop 14 = cb_191_14 := rfl
theorem jb_191_18 : cm_191.drop 18 = cb_191_18 := rfl
theorem jb_191_24 : cm_191.drop 24 = cb_191_24 := rfl
theorem jb_191_31 : cm_191.drop 31 = cb_191_31 := rfl
noncomputable def cm_192 : List Instr := cb_192_0
theorem en_192 {sc : Nat × (Nat → Int32)} {d : Nat} {h : fx_H} {Q : fx_R → Prop} {a0 : Nat} {a1 : Int32} (hk : wC sc d (pg_hd 192) cm_192 cb_192_0 [.ref a0, .int a1] [] h Q) : wM sc (d + 1) 192 [.ref a0, .int a1] h Q := wM_enter (Nat.le_of_ble_eq_true rfl) hk
theorem jb_192_16 : cm_192.drop 16 = cb_192_16 := rfl
theorem jb_192_25 : cm_192.drop 25 = cb_192_25 := rfl
noncomputable def cm_193 : List Instr := cb_193_0
theorem en_193 {sc : Nat × (Nat → Int32)} {d : Nat} {h : fx_H} {Q : fx_R → Prop} {a0 : Nat} {a1 : Int32} (hk : wC sc d (pg_hd 193) cm_193 cb_193_0 [.ref a0, .int a1] [] h Q) : wM sc (d + 1) 193 [.ref a0, .int a1] h Q := wM_enter (Nat.le_of_ble_eq_true rfl) hk
theorem jb_193_10 : cm_193.drop 10 = cb_193_10 := rfl
theorem jb_193_19 : cm_193.drop 19 = cb_193_19 := rfl
theorem jb_193_20 : cm_193.drop 20 = cb_193_20 := rfl
noncomputable def cm_194 : List Instr := cb_194_0
theorem en_194 {sc : Nat × (Nat → Int32)} {d : Nat} {h : fx_H} {Q : fx_R → Prop} {a0 : Int64} {a1 : Int32} {a2 : Int32} (hk : wC sc d (pg_hd 194) cm_194 cb_194_0 [.long a0, fx_U, .int a1, .int a2, fx_U, fx_U, fx_U, fx_U, fx_U] [] h Q) : wM sc (d + 1) 194 [.long a0, .int a1, .int a2] h Q := wM_enter (Nat.le_of_ble_eq_true rfl) hk
theorem jb_194_8 : cm_194.drop 8 = cb_194_8 := rfl
theorem jb_194_11 : cm_194.drop 11 = cb_194_11 := rfl
theorem jb_194_17 : cm_194.drop 17 = cb_194_17 := rfl
theorem jb_194_27 : cm_194.drop 27 = cb_194_27 := rfl
theorem jb_194_29 : cm_194.drop 29 = cb_194_29 := rfl
theorem jb_194_31 : cm_194.drop 31 = cb_194_31 := rfl
theorem jb_194_32 : cm_194.drop 32 = cb_194_32 := rfl
noncomputable def cm_195 : List Instr := cb_195_0
theorem en_195 {sc : Nat × (Nat → Int32)} {d : Nat} {h : fx_H} {Q : fx_R → Prop} {a0 : Int32} (hk : wC sc d (pg_hd 195) cm_195 cb_195_0 [.int a0] [] h Q) : wM sc (d + 1) 195 [.int a0] h Q := wM_enter (Nat.le_of_ble_eq_true rfl) hk
theorem jb_195_2 : cm_195.drop 2 = cb_195_2 := rfl
theorem jb_195_8 : cm_195.drop 8 = cb_195_8 := rfl
theorem jb_195_10 : cm_195.drop 10 = cb_195_10 := rfl
theorem jb_195_11 : cm_195.drop 11 = cb_195_11 := rfl
noncomputable def cm_196 : List Instr := cb_196_0
theorem en_196 {sc : Nat × (Nat → Int32)} {d : Nat} {h : fx_H} {Q : fx_R → Prop} {a0 : Nat} (hk : wC sc d (pg_hd 196) cm_196 cb_196_0 [.ref a0] [] h Q) : wM sc (d + 1) 196 [.ref a0] h Q := wM_enter (Nat.le_of_ble_eq_true rfl) hk
noncomputable def cm_197 : List Instr := cb_197_0
theorem en_197 {sc : Nat × (Nat → Int32)} {d : Nat} {h : fx_H} {Q : fx_R → Prop} {a0 : Nat} {a1 : Int32} {a2 : Int32} {a3 : Int32} (hk : wC sc d (pg_hd 197) cm_197 cb_197_0 [.ref a0, .int a1, .int a2, .int a3] [] h Q) : wM sc (d + 1) 197 [.ref a0, .int a1, .int a2, .int a3] h Q := wM_enter (Nat.le_of_ble_eq_true rfl) hk
theorem jb_197_2 : cm_197.drop 2 = cb_197_2 := rfl
theorem jb_197_5 : cm_197.drop 5 = cb_197_5 := rfl
theorem jb_197_16 : cm_197.drop 16 = cb_197_16 := rfl
theorem jb_197_19 : cm_197.drop 19 = cb_197_19 := rfl
theorem jb_197_21 : cm_197.drop 21 = cb_197_21 := rfl
theorem jb_197_22 : cm_197.drop 22 = cb_197_22 := rfl
noncomputable def cm_198 : List Instr := cb_198_0
theorem en_198 {sc : Nat × (Nat → Int32)} {d : Nat} {h : fx_H} {Q : fx_R → Prop} {a0 : Int32} {a1 : Int32} {a2 : Int32} (hk : wC sc d (pg_hd 198) cm_198 cb_198_0 [.int a0, .int a1, .int a2] [] h Q) : wM sc (d + 1) 198 [.int a0, .int a1, .int a2] h Q := wM_enter (Nat.le_of_ble_eq_true rfl) hk
theorem jb_198_3 : cm_198.drop 3 = cb_198_3 := rfl
theorem jb_198_6 : cm_198.drop 6 = cb_198_6 := rfl
theorem jb_198_8 : cm_198.drop 8 = cb_198_8 := rfl
theorem jb_198_9 : cm_198.drop 9 = cb_198_9 := rfl
noncomputable def cm_199 : List Instr := cb_199_0
theorem en_199 {sc : Nat × (Nat → Int32)} {d : Nat} {h : fx_H} {Q : fx_R → Prop} {a0 : Nat} (hk : wC sc d (pg_hd 199) cm_199 cb_199_0 [.ref a0] [] h Q) : wM sc (d + 1) 199 [.ref a0] h Q := wM_enter (Nat.le_of_ble_eq_true rfl) hk
noncomputable def cm_200 : List Instr := cb_200_0
theorem en_200 {sc : Nat × (Nat → Int32)} {d : Nat} {h : fx_H} {Q : fx_R → Prop} {a0 : Nat} {a1 : Int32} {a2 : Int32} {a3 : Int32} {a4 : Int32} {a5 : Int32} (hk : wC sc d (pg_hd 200) cm_200 cb_200_0 [.ref a0, .int a1, .int a2, .int a3, .int a4, .int a5, fx_U, fx_U] [] h Q) : wM sc (d + 1) 200 [.ref a0, .int a1, .int a2, .int a3, .int a4, .int a5] h Q := wM_enter (Nat.le_of_ble_eq_true rfl) hk
theorem jb_200_9 : cm_200.drop 9 = cb_200_9 := rfl
theorem jb_200_11 : cm_200.drop 11 = cb_200_11 := rfl
theorem jb_200_13 : cm_200.drop 13 = cb_200_13 := rfl
theorem jb_200_16 : cm_200.drop 16 = cb_200_16 := rfl
theorem jb_200_19 : cm_200.drop 19 = cb_200_19 := rfl
theorem jb_200_21 : cm_200.drop 21 = cb_200_21 := rfl
theorem jb_200_24 : cm_200.drop 24 = cb_200_24 := rfl
theorem jb_200_26 : cm_200.drop 26 = cb_200_26 := rfl
theorem jb_200_29 : cm_200.drop 29 = cb_200_29 := rfl
theorem jb_200_31 : cm_200.drop 31 = cb_200_31 := rfl
theorem jb_200_34 : cm_200.drop 34 = cb_200_34 := rfl
theorem jb_200_36 : cm_200.drop 36 = cb_200_36 := rfl
theorem jb_200_37 : cm_200.drop 37 = cb_200_37 := rfl
theorem jb_200_62 : cm_200.drop 62 = cb_200_62 := rfl
noncomputable def cm_201 : List Instr := cb_201_0
theorem en_201 {sc : Nat × (Nat → Int32)} {d : Nat} {h : fx_H} {Q : fx_R → Prop} {a0 : Nat} (hk : wC sc d (pg_hd 201) cm_201 cb_201_0 [.ref a0] [] h Q) : wM sc (d + 1) 201 [.ref a0] h Q := wM_enter (Nat.le_of_ble_eq_true rfl) hk
theorem jb_201_4 : cm_201.drop 4 = cb_201_4 := rfl
theorem jb_201_6 : cm_201.drop 6 = cb_201_6 := rfl
theorem jb_201_7 : cm_201.drop 7 = cb_201_7 := rfl
noncomputable def cm_202 : List Instr := cb_202_0
theorem en_202 {sc : Nat × (Nat → Int32)} {d : Nat} {h : fx_H} {Q : fx_R → Prop} {a0 : Nat} {a1 : Int32} {a2 : Int32} (hk : wC sc d (pg_hd 202) cm_202 cb_202_0 [.ref a0, .int a1, .int a2] [] h Q) : wM sc (d + 1) 202 [.ref a0, .int a1, .int a2] h Q := wM_enter (Nat.le_of_ble_eq_true rfl) hk
theorem jb_202_4 : cm_202.drop 4 = cb_202_4 := rfl
theorem jb_202_5 : cm_202.drop 5 = cb_202_5 := rfl
noncomputable def cm_203 : List Instr := cb_203_0
theorem en_203 {sc : Nat × (Nat → Int32)} {d : Nat} {h : fx_H} {Q : fx_R → Prop} {a0 : Nat} (hk : wC sc d (pg_hd 203) cm_203 cb_203_0 [.ref a0] [] h Q) : wM sc (d + 1) 203 [.ref a0] h Q := wM_enter (Nat.le_of_ble_eq_true rfl) hk
theorem jb_203_5 : cm_203.drop 5 = cb_203_5 := rfl
theorem jb_203_12 : cm_203.drop 12 = cb_203_12 := rfl
theorem jb_203_19 : cm_203.drop 19 = cb_203_19 := rfl
theorem jb_203_24 : cm_203.drop 24 = cb_203_24 := rfl
theorem jb_203_30 : cm_203.drop 30 = cb_203_30 := rfl
theorem jb_203_31 : cm_203.drop 31 = cb_203_31 := rfl
noncomputable def cm_204 : List Instr := cb_204_0
theorem en_204 {sc : Nat × (Nat → Int32)} {d : Nat} {h : fx_H} {Q : fx_R → Prop} {a0 : Int32} (hk : wC sc d (pg_hd 204) cm_204 cb_204_0 [.int a0] [] h Q) : wM sc (d + 1) 204 [.int a0] h Q := wM_enter (Nat.le_of_ble_eq_true rfl) hk
theorem jb_204_3 : cm_204.drop 3 = cb_204_3 := rfl
theorem jb_204_6 : cm_204.drop 6 = cb_204_6 := rfl
theorem jb_204_8 : cm_204.drop 8 = cb_204_8 := rfl
theorem jb_204_9 : cm_204.drop 9 = cb_204_9 := rfl
noncomputable def cm_205 : List Instr := cb_205_0
theorem en_205 {sc : Nat × (Nat → Int32)} {d : Nat} {h : fx_H} {Q : fx_R → Prop} {a0 : Int32} (hk : wC sc d (pg_hd 205) cm_205 cb_205_0 [.int a0] [] h Q) : wM sc (d + 1) 205 [.int a0] h Q := wM_enter (Nat.le_of_ble_eq_true rfl) hk
theorem jb_205_3 : cm_205.drop 3 = cb_205_3 := rfl
theorem jb_205_6 : cm_205.drop 6 = cb_205_6 := rfl
theorem jb_205_8 : cm_205.drop 8 = cb_205_8 := rfl
theorem jb_205_9 : cm_205.drop 9 = cb_205_9 := rfl
noncomputable def cm_206 : List Instr := cb_206_0
theorem en_206 {sc : Nat × (Nat → Int32)} {d : Nat} {h : fx_H} {Q : fx_R → Prop} {a0 : Nat} (hk : wC sc d (pg_hd 206) cm_206 cb_206_0 [.ref a0, fx_U, fx_U, fx_U] [] h Q) : wM sc (d + 1) 206 [.ref a0] h Q := wM_enter (Nat.le_of_ble_eq_true rfl) hk
theorem jb_206_10 : cm_206.drop 10 = cb_206_10 := rfl
theorem jb_206_14 : cm_206.drop 14 = cb_206_14 := rfl
theorem jb_206_20 : cm_206.drop 20 = cb_206_20 := rfl
theorem jb_206_23 : cm_206.drop 23 = cb_206_23 := rfl
theorem jb_206_34 : cm_206.drop 34 = cb_206_34 := rfl
theorem jb_206_35 : cm_206.drop 35 = cb_206_35 := rfl
theorem jb_206_39 : cm_206.drop 39 = cb_206_39 := rfl
theorem jb_206_42 : cm_206.drop 42 = cb_206_42 := rfl
theorem jb_206_44 : cm_206.drop 44 = cb_206_44 := rfl
theorem jb_206_45 : cm_206.drop 45 = cb_206_45 := rfl
noncomputable def cm_207 : List Instr := cb_207_0
theorem en_207 {sc : Nat × (Nat → Int32)} {d : Nat} {h : fx_H} {Q : fx_R → Prop} {a0 : Nat} (hk : wC sc d (pg_hd 207) cm_207 cb_207_0 [.retAddr a0, fx_U, fx_U] [] h Q) : wM sc (d + 1) 207 [.retAddr a0] h Q := wM_enter (Nat.le_of_ble_eq_true rfl) hk
theorem jb_207_4 : cm_207.drop 4 = cb_207_4 := rfl
theorem jb_207_8 : cm_207.drop 8 = cb_207_8 := rfl
theorem jb_207_20 : cm_207.drop 20 = cb_207_20 := rfl
noncomputable def cm_208 : List Instr := cb_208_0
theorem en_208 {sc : Nat × (Nat → Int32)} {d : Nat} {h : fx_H} {Q : fx_R → Prop} {a0 : Nat} (hk : wC sc d (pg_hd 208) cm_208 cb_208_0 [.ref a0] [] h Q) : wM sc (d + 1) 208 [.ref a0] h Q := wM_enter (Nat.le_of_ble_eq_true rfl) hk
theorem jb_208_5 : cm_208.drop 5 = cb_208_5 := rfl
theorem jb_208_12 : cm_208.drop 12 = cb_208_12 := rfl
theorem jb_208_19 : cm_208.drop 19 = cb_208_19 := rfl
noncomputable def cm_209 : List Instr := cb_209_0
theorem en_209 {sc : Nat × (Nat → Int32)} {d : Nat} {h : fx_H} {Q : fx_R → Prop} {a0 : Nat} {a1 : Int32} {a2 : Int32} (hk : wC sc d (pg_hd 209) cm_209 cb_209_0 [.ref a0, .int a1, .int a2, fx_U, fx_U, fx_U] [] h Q) : wM sc (d + 1) 209 [.ref a0, .int a1, .int a2] h Q := wM_enter (Nat.le_of_ble_eq_true rfl) hk
theorem jb_209_3 : cm_209.drop 3 = cb_209_3 := rfl
theorem jb_209_5 : cm_209.drop 5 = cb_209_5 := rfl
theorem jb_209_16 : cm_209.drop 16 = cb_209_16 := rfl
theorem jb_209_23 : cm_209.drop 23 = cb_209_23 := rfl
theorem jb_209_28 : cm_209.drop 28 = cb_209_28 := rfl
theorem jb_209_35 : cm_209.drop 35 = cb_209_35 := rfl
theorem jb_209_38 : cm_209.drop 38 = cb_209_38 := rfl
theorem jb_209_40 : cm_209.drop 40 = cb_209_40 := rfl
theorem jb_209_51 : cm_209.drop 51 = cb_209_51 := rfl
theorem jb_209_59 : cm_209.drop 59 = cb_209_59 := rfl
theorem jb_209_62 : cm_209.drop 62 = cb_209_62 := rfl
theorem jb_209_65 : cm_209.drop 65 = cb_209_65 := rfl
theorem jb_209_71 : cm_209.drop 71 = cb_209_71 := rfl
noncomputable def cm_210 : List Instr := cb_210_0
theorem en_210 {sc : Nat × (Nat → Int32)} {d : Nat} {h : fx_H} {Q : fx_R → Prop} {a0 : Nat} {a1 : Int32} (hk : wC sc d (pg_hd 210) cm_210 cb_210_0 [.ref a0, .int a1] [] h Q) : wM sc (d + 1) 210 [.ref a0, .int a1] h Q := wM_enter (Nat.le_of_ble_eq_true rfl) hk
theorem jb_210_3 : cm_210.drop 3 = cb_210_3 := rfl
theorem jb_210_7 : cm_210.drop 7 = cb_210_7 := rfl
theorem jb_210_12 : cm_210.drop 12 = cb_210_12 := rfl
theorem jb_210_15 : cm_210.drop 15 = cb_210_15 := rfl
theorem jb_210_21 : cm_210.drop 21 = cb_210_21 := rfl
noncomputable def cm_211 : List Instr := cb_211_0
theorem en_211 {sc : Nat × (Nat → Int32)} {d : Nat} {h : fx_H} {Q : fx_R → Prop} {a0 : Nat} (hk : wC sc d (pg_hd 211) cm_211 cb_211_0 [.ref a0] [] h Q) : wM sc (d + 1) 211 [.ref a0] h Q := wM_enter (Nat.le_of_ble_eq_true rfl) hk
theorem jb_211_8 : cm_211.drop 8 = cb_211_8 := rfl
theorem jb_211_10 : cm_211.drop 10 = cb_211_10 := rfl
theorem jb_211_11 : cm_211.drop 11 = cb_211_11 := rfl
noncomputable def cm_212 : List Instr := cb_212_0
theorem en_212 {sc : Nat × (Nat → Int32)} {d : Nat} {h : fx_H} {Q : fx_R → Prop} {a0 : Nat} {a1 : Int32} (hk : wC sc d (pg_hd 212) cm_212 cb_212_0 [.ref a0, .int a1] [] h Q) : wM sc (d + 1) 212 [.ref a0, .int a1] h Q := wM_enter (Nat.le_of_ble_eq_true rfl) hk
noncomputable def cm_213 : List Instr := cb_213_0
theorem en_213 {sc : Nat × (Nat → Int32)} {d : Nat} {h : fx_H} {Q : fx_R → Prop} {a0 : Nat} {a1 : Int32} (hk : wC sc d (pg_hd 213) cm_213 cb_213_0 [.ref a0, .int a1] [] h Q) : wM sc (d + 1) 213 [.ref a0, .int a1] h Q := wM_enter (Nat.le_of_ble_eq_true rfl) hk
theorem jb_213_7 : cm_213.drop 7 = cb_213_7 := rfl
theorem jb_213_9 : cm_213.drop 9 = cb_213_9 := rfl
theorem jb_213_13 : cm_213.drop 13 = cb_213_13 := rfl
noncomputable def cm_214 : List Instr := cb_214_0
theorem en_214 {sc : Nat × (Nat → Int32)} {d : Nat} {h : fx_H} {Q : fx_R → Prop} {a0 : Nat} (hk : wC sc d (pg_hd 214) cm_214 cb_214_0 [.ref a0] [] h Q) : wM sc (d + 1) 214 [.ref a0] h Q := wM_enter (Nat.le_of_ble_eq_true rfl) hk
noncomputable def cm_215 : List Instr := cb_215_0
theorem en_215 {sc : Nat × (Nat → Int32)} {d : Nat} {h : fx_H} {Q : fx_R → Prop} {a0 : Nat} {a1 : Nat} {a2 : Nat} {a3 : Int32} (hk : wC sc d (pg_hd 215) cm_215 cb_215_0 [.ref a0, .ref a1, .ref a2, .int a3, fx_U] [] h Q) : wM sc (d + 1) 215 [.ref a0, .ref a1, .ref a2, .int a3] h Q := wM_enter (Nat.le_of_ble_eq_true rfl) hk
theorem jb_215_2 : cm_215.drop 2 = cb_215_2 := rfl
theorem jb_215_5 : cm_215.drop 5 = cb_215_5 := rfl
theorem jb_215_13 : cm_215.drop 13 = cb_215_13 := rfl
noncomputable def cm_216 : List Instr := cb_216_0
theorem en_216 {sc : Nat × (Nat → Int32)} {d : Nat} {h : fx_H} {Q : fx_R → Prop} {a0 : Nat} (hk : wC sc d (pg_hd 216) cm_216 cb_216_0 [.ref a0, fx_U] [] h Q) : wM sc (d + 1) 216 [.ref a0] h Q := wM_enter (Nat.le_of_ble_eq_true rfl) hk
theorem jb_216_11 : cm_216.drop 11 = cb_216_11 := rfl
theorem jb_216_14 : cm_216.drop 14 = cb_216_14 := rfl
theorem jb_216_23 : cm_216.drop 23 = cb_216_23 := rfl
noncomputable def cm_217 : List Instr := cb_217_0
theorem en_217 {sc : Nat × (Nat → Int32)} {d : Nat} {h : fx_H} {Q : fx_R → Prop} {a0 : Nat} (hk : wC sc d (pg_hd 217) cm_217 cb_217_0 [.ref a0, fx_U] [] h Q) : wM sc (d + 1) 217 [.ref a0] h Q := wM_enter (Nat.le_of_ble_eq_true rfl) hk
theorem jb_217_53 : cm_217.drop 53 = cb_217_53 := rfl
theorem jb_217_56 : cm_217.drop 56 = cb_217_56 := rfl
theorem jb_217_63 : cm_217.drop 63 = cb_217_63 := rfl
theorem jb_217_65 : cm_217.drop 65 = cb_217_65 := rfl
theorem jb_217_68 : cm_217.drop 68 = cb_217_68 := rfl
theorem jb_217_77 : cm_217.drop 77 = cb_217_77 := rfl
theorem jb_217_82 : cm_217.drop 82 = cb_217_82 := rfl
theorem jb_217_83 : cm_217.drop 83 = cb_217_83 := rfl
theorem jb_217_93 : cm_217.drop 93 = cb_217_93 := rfl
noncomputable def cm_218 : List Instr := cb_218_0
theorem en_218 {sc : Nat × (Nat → Int32)} {d : Nat} {h : fx_H} {Q : fx_R → Prop} {a0 : Int32} (hk : wC sc d (pg_hd 218) cm_218 cb_218_0 [.int a0] [] h Q) : wM sc (d + 1) 218 [.int a0] h Q := wM_enter (Nat.le_of_ble_eq_true rfl) hk
theorem jb_218_4 : cm_218.drop 4 = cb_218_4 := rfl
theorem jb_218_8 : cm_218.drop 8 = cb_218_8 := rfl
theorem jb_218_12 : cm_218.drop 12 = cb_218_12 := rfl
theorem jb_218_16 : cm_218.drop 16 = cb_218_16 := rfl
theorem jb_218_18 : cm_218.drop 18 = cb_218_18 := rfl
theorem jb_218_19 : cm_218.drop 19 = cb_218_19 := rfl
noncomputable def cm_219 : List Instr := cb_219_0
theorem en_219 {sc : Nat × (Nat → Int32)} {d : Nat} {h : fx_H} {Q : fx_R → Prop} {a0 : Nat} {a1 : Int32} (hk : wC sc d (pg_hd 219) cm_219 cb_219_0 [.ref a0, .int a1] [] h Q) : wM sc (d + 1) 219 [.ref a0, .int a1] h Q := wM_enter (Nat.le_of_ble_eq_true rfl) hk
theorem jb_219_4 : cm_219.drop 4 = cb_219_4 := rfl
theorem jb_219_8 : cm_219.drop 8 = cb_219_8 := rfl
theorem jb_219_10 : cm_219.drop 10 = cb_219_10 := rfl
theorem jb_219_12 : cm_219.drop 12 = cb_219_12 := rfl
theorem jb_219_16 : cm_219.drop 16 = cb_219_16 := rfl
theorem jb_219_20 : cm_219.drop 20 = cb_219_20 := rfl
theorem jb_219_22 : cm_219.drop 22 = cb_219_22 := rfl
theorem jb_219_23 : cm_219.drop 23 = cb_219_23 := rfl
noncomputable def cm_220 : List Instr := cb_220_0
theorem en_220 {sc : Nat × (Nat → Int32)} {d : Nat} {h : fx_H} {Q : fx_R → Prop} {a0 : Nat} (hk : wC sc d (pg_hd 220) cm_220 cb_220_0 [.ref a0] [] h Q) : wM sc (d + 1) 220 [.ref a0] h Q := wM_enter (Nat.le_of_ble_eq_true rfl) hk
noncomputable def cm_221 : List Instr := cb_221_0
theorem en_221 {sc : Nat × (Nat → Int32)} {d : Nat} {h : fx_H} {Q : fx_R → Prop} {a0 : Nat} {a1 : Int32} (hk : wC sc d (pg_hd 221) cm_221 cb_221_0 [.ref a0, .int a1, fx_U, fx_U, fx_U] [] h Q) : wM sc (d + 1) 221 [.ref a0, .int a1] h Q := wM_enter (Nat.le_of_ble_eq_true rfl) hk
theorem jb_221_4 : cm_221.drop 4 = cb_221_4 := rfl
theorem jb_221_20 : cm_221.drop 20 = cb_221_20 := rfl
theorem jb_221_24 : cm_221.drop 24 = cb_221_24 := rfl
theorem jb_221_38 : cm_221.drop 38 = cb_221_38 := rfl
theorem jb_221_47 : cm_221.drop 47 = cb_221_47 := rfl
theorem jb_221_48 : cm_221.drop 48 = cb_221_48 := rfl
theorem jb_221_52 : cm_221.drop 52 = cb_221_52 := rfl
theorem jb_221_66 : cm_221.drop 66 = cb_221_66 := rfl
theorem jb_221_72 : cm_221.drop 72 = cb_221_72 := rfl
noncomputable def cm_222 : List Instr := cb_222_0
theorem en_222 {sc : Nat × (Nat → Int32)} {d : Nat} {h : fx_H} {Q : fx_R → Prop} {a0 : Nat} {a1 : Int32} (hk : wC sc d (pg_hd 222) cm_222 cb_222_0 [.ref a0, .int a1, fx_U, fx_U] [] h Q) : wM sc (d + 1) 222 [.ref a0, .int a1] h Q := wM_enter (Nat.le_of_ble_eq_true rfl) hk
theorem jb_222_6 : cm_222.drop 6 = cb_222_6 := rfl
theorem jb_222_10 : cm_222.drop 10 = cb_222_10 := rfl
theorem jb_222_12 : cm_222.drop 12 = cb_222_12 := rfl
theorem jb_222_13 : cm_222.drop 13 = cb_222_13 := rfl
theorem jb_222_17 : cm_222.drop 17 = cb_222_17 := rfl
theorem jb_222_19 : cm_222.drop 19 = cb_222_19 := rfl
theorem jb_222_26 : cm_222.drop 26 = cb_222_26 := rfl
theorem jb_222_29 : cm_222.drop 29 = cb_222_29 := rfl
theorem jb_222_32 : cm_222.drop 32 = cb_222_32 := rfl
theorem jb_222_38 : cm_222.drop 38 = cb_222_38 := rfl
theorem jb_222_44 : cm_222.drop 44 = cb_222_44 := rfl
theorem jb_222_47 : cm_222.drop 47 = cb_222_47 := rfl
theorem jb_222_51 : cm_222.drop 51 = cb_222_51 := rfl
theorem jb_222_56 : cm_222.drop 56 = cb_222_56 := rfl
theorem jb_222_59 : cm_222.drop 59 = cb_222_59 := rfl
theorem jb_222_60 : cm_222.drop 60 = cb_222_60 := rfl
theorem jb_222_70 : cm_222.drop 70 = cb_222_70 := rfl
theorem jb_222_79 : cm_222.drop 79 = cb_222_79 := rfl
theorem jb_222_81 : cm_222.drop 81 = cb_222_81 := rfl
noncomputable def cm_223 : List Instr := cb_223_0
theorem en_223 {sc : Nat × (Nat → Int32)} {d : Nat} {h : fx_H} {Q : fx_R → Prop} {a0 : Nat} {a1 : Int32} {a2 : Int32} (hk : wC sc d (pg_hd 223) cm_223 cb_223_0 [.ref a0, .int a1, .int a2] [] h Q) : wM sc (d + 1) 223 [.ref a0, .int a1, .int a2] h Q := wM_enter (Nat.le_of_ble_eq_true rfl) hk
theorem jb_223_3 : cm_223.drop 3 = cb_223_3 := rfl
theorem jb_223_4 : cm_223.drop 4 = cb_223_4 := rfl
noncomputable def cm_224 : List Instr := cb_224_0
theorem en_224 {sc : Nat × (Nat → Int32)} {d : Nat} {h : fx_H} {Q : fx_R → Prop} {a0 : Nat} {a1 : Int32} (hk : wC sc d (pg_hd 224) cm_224 cb_224_0 [.ref a0, .int a1] [] h Q) : wM sc (d + 1) 224 [.ref a0, .int a1] h Q := wM_enter (Nat.le_of_ble_eq_true rfl) hk
theorem jb_224_3 : cm_224.drop 3 = cb_224_3 := rfl
theorem jb_224_7 : cm_224.drop 7 = cb_224_7 := rfl
theorem jb_224_12 : cm_224.drop 12 = cb_224_12 := rfl
theorem jb_224_15 : cm_224.drop 15 = cb_224_15 := rfl
theorem jb_224_21 : cm_224.drop 21 = cb_224_21 := rfl
noncomputable def cm_225 : List Instr := cb_225_0
theorem en_225 {sc : Nat × (Nat → Int32)} {d : Nat} {h : fx_H} {Q : fx_R → Prop} {a0 : Nat} (hk : wC sc d (pg_hd 225) cm_225 cb_225_0 [.ref a0, fx_U] [] h Q) : wM sc (d + 1) 225 [.ref a0] h Q := wM_enter (Nat.le_of_ble_eq_true rfl) hk
theorem jb_225_2 : cm_225.drop 2 = cb_225_2 := rfl
theorem jb_225_5 : cm_225.drop 5 = cb_225_5 := rfl
theorem jb_225_9 : cm_225.drop 9 = cb_225_9 := rfl
theorem jb_225_13 : cm_225.drop 13 = cb_225_13 := rfl
theorem jb_225_17 : cm_225.drop 17 = cb_225_17 := rfl
theorem jb_225_19 : cm_225.drop 19 = cb_225_19 := rfl
theorem jb_225_20 : cm_225.drop 20 = cb_225_20 := rfl
theorem jb_225_34 : cm_225.drop 34 = cb_225_34 := rfl
noncomputable def cm_226 : List Instr := cb_226_0
theorem en_226 {sc : Nat × (Nat → Int32)} {d : Nat} {h : fx_H} {Q : fx_R → Prop} {a0 : Nat} (hk : wC sc d (pg_hd 226) cm_226 cb_226_0 [.ref a0, fx_U] [] h Q) : wM sc (d + 1) 226 [.ref a0] h Q := wM_enter (Nat.le_of_ble_eq_true rfl) hk
theorem jb_226_2 : cm_226.drop 2 = cb_226_2 := rfl
theorem jb_226_5 : cm_226.drop 5 = cb_226_5 := rfl
theorem jb_226_9 : cm_226.drop 9 = cb_226_9 := rfl
theorem jb_226_13 : cm_226.drop 13 = cb_226_13 := rfl
theorem jb_226_17 : cm_226.drop 17 = cb_226_17 := rfl
theorem jb_226_21 : cm_226.drop 21 = cb_226_21 := rfl
theorem jb_226_23 : cm_226.drop 23 = cb_226_23 := rfl
theorem jb_226_27 : cm_226.drop 27 = cb_226_27 := rfl
theorem jb_226_29 : cm_226.drop 29 = cb_226_29 := rfl
theorem jb_226_30 : cm_226.drop 30 = cb_226_30 := rfl
theorem jb_226_44 : cm_226.drop 44 = cb_226_44 := rfl
noncomputable def cm_227 : List Instr := cb_227_0
theorem en_227 {sc : Nat × (Nat → Int32)} {d : Nat} {h : fx_H} {Q : fx_R → Prop} {a0 : Nat} {a1 : Int32} {a2 : Int32} (hk : wC sc d (pg_hd 227) cm_227 cb_227_0 [.ref a0, .int a1, .int a2] [] h Q) : wM sc (d + 1) 227 [.ref a0, .int a1, .int a2] h Q := wM_enter (Nat.le_of_ble_eq_true rfl) hk
noncomputable def cm_228 : List Instr := cb_228_0
theorem en_228 {sc : Nat × (Nat → Int32)} {d : Nat} {h : fx_H} {Q : fx_R → Prop} {a0 : Nat} {a1 : Nat} (hk : wC sc d (pg_hd 228) cm_228 cb_228_0 [.ref a0, .retAddr a1, fx_U] [] h Q) : wM sc (d + 1) 228 [.ref a0, .retAddr a1] h Q := wM_enter (Nat.le_of_ble_eq_true rfl) hk
theorem jb_228_5 : cm_228.drop 5 = cb_228_5 := rfl
theorem jb_228_9 : cm_228.drop 9 = cb_228_9 := rfl
theorem jb_228_16 : cm_228.drop 16 = cb_228_16 := rfl
theorem jb_228_27 : cm_228.drop 27 = cb_228_27 := rfl
theorem jb_228_29 : cm_228.drop 29 = cb_228_29 := rfl
theorem jb_228_31 : cm_228.drop 31 = cb_228_31 := rfl
theorem jb_228_39 : cm_228.drop 39 = cb_228_39 := rfl
theorem jb_228_49 : cm_228.drop 49 = cb_228_49 := rfl
theorem jb_228_51 : cm_228.drop 51 = cb_228_51 := rfl
theorem jb_228_52 : cm_228.drop 52 = cb_228_52 := rfl
noncomputable def cm_229 : List Instr := cb_229_0
theorem en_229 {sc : Nat × (Nat → Int32)} {d : Nat} {h : fx_H} {Q : fx_R → Prop} {a0 : Nat} (hk : wC sc d (pg_hd 229) cm_229 cb_229_0 [.ref a0, fx_U] [] h Q) : wM sc (d + 1) 229 [.ref a0] h Q := wM_enter (Nat.le_of_ble_eq_true rfl) hk
theorem jb_229_4 : cm_229.drop 4 = cb_229_4 := rfl
theorem jb_229_6 : cm_229.drop 6 = cb_229_6 := rfl
theorem jb_229_13 : cm_229.drop 13 = cb_229_13 := rfl
theorem jb_229_15 : cm_229.drop 15 = cb_229_15 := rfl
theorem jb_229_19 : cm_229.drop 19 = cb_229_19 := rfl
theorem jb_229_21 : cm_229.drop 21 = cb_229_21 := rfl
theorem jb_229_25 : cm_229.drop 25 = cb_229_25 := rfl
theorem jb_229_27 : cm_229.drop 27 = cb_229_27 := rfl
theorem jb_229_31 : cm_229.drop 31 = cb_229_31 := rfl
theorem jb_229_33 : cm_229.drop 33 = cb_229_33 := rfl
theorem jb_229_37 : cm_229.drop 37 = cb_229_37 := rfl
theorem jb_229_39 : cm_229.drop 39 = cb_229_39 := rfl
theorem jb_229_43 : cm_229.drop 43 = cb_229_43 := rfl
theorem jb_229_45 : cm_229.drop 45 = cb_229_45 := rfl
theorem jb_229_46 : cm_229.drop 46 = cb_229_46 := rfl
noncomputable def cm_230 : List Instr := cb_230_0
theorem en_230 {sc : Nat × (Nat → Int32)} {d : Nat} {h : fx_H} {Q : fx_R → Prop} {a0 : Nat} (hk : wC sc d (pg_hd 230) cm_230 cb_230_0 [.ref a0, fx_U] [] h Q) : wM sc (d + 1) 230 [.ref a0] h Q := wM_enter (Nat.le_of_ble_eq_true rfl) hk
theorem jb_230_3 : cm_230.drop 3 = cb_230_3 := rfl
theorem jb_230_4 : cm_230.drop 4 = cb_230_4 := rfl
theorem jb_230_8 : cm_230.drop 8 = cb_230_8 := rfl
theorem jb_230_23 : cm_230.drop 23 = cb_230_23 := rfl
theorem jb_230_27 : cm_230.drop 27 = cb_230_27 := rfl
theorem jb_230_35 : cm_230.drop 35 = cb_230_35 := rfl
theorem jb_230_40 : cm_230.drop 40 = cb_230_40 := rfl
theorem jb_230_45 : cm_230.drop 45 = cb_230_45 := rfl
theorem jb_230_50 : cm_230.drop 50 = cb_230_50 := rfl
theorem jb_230_55 : cm_230.drop 55 = cb_230_55 := rfl
theorem jb_230_61 : cm_230.drop 61 = cb_230_61 := rfl
theorem jb_230_66 : cm_230.drop 66 = cb_230_66 := rfl
theorem jb_230_69 : cm_230.drop 69 = cb_230_69 := rfl
theorem jb_230_70 : cm_230.drop 70 = cb_230_70 := rfl
theorem jb_230_76 : cm_230.drop 76 = cb_230_76 := rfl
noncomputable def cm_231 : List Instr := cb_231_0
theorem en_231 {sc : Nat × (Nat → Int32)} {d : Nat} {h : fx_H} {Q : fx_R → Prop} {a0 : Nat} {a1 : Int32} (hk : wC sc d (pg_hd 231) cm_231 cb_231_0 [.ref a0, .int a1, fx_U] [] h Q) : wM sc (d + 1) 231 [.ref a0, .int a1] h Q := wM_enter (Nat.le_of_ble_eq_true rfl) hk
theorem jb_231_6 : cm_231.drop 6 = cb_231_6 := rfl
theorem jb_231_10 : cm_231.drop 10 = cb_231_10 := rfl
theorem jb_231_13 : cm_231.drop 13 = cb_231_13 := rfl
theorem jb_231_15 : cm_231.drop 15 = cb_231_15 := rfl
theorem jb_231_16 : cm_231.drop 16 = cb_231_16 := rfl
theorem jb_231_20 : cm_231.drop 20 = cb_231_20 := rfl
theorem jb_231_22 : cm_231.drop 22 = cb_231_22 := rfl
theorem jb_231_33 : cm_231.drop 33 = cb_231_33 := rfl
theorem jb_231_36 : cm_231.drop 36 = cb_231_36 := rfl
theorem jb_231_41 : cm_231.drop 41 = cb_231_41 := rfl
theorem jb_231_49 : cm_231.drop 49 = cb_231_49 := rfl
theorem jb_231_51 : cm_231.drop 51 = cb_231_51 := rfl
noncomputable def cm_232 : List Instr := cb_232_0
theorem en_232 {sc : Nat × (Nat → Int32)} {d : Nat} {h : fx_H} {Q : fx_R → Prop} {a0 : Nat} (hk : wC sc d (pg_hd 232) cm_232 cb_232_0 [.ref a0, fx_U, fx_U, fx_U] [] h Q) : wM sc (d + 1) 232 [.ref a0] h Q := wM_enter (Nat.le_of_ble_eq_true rfl) hk
theorem jb_232_4 : cm_232.drop 4 = cb_232_4 := rfl
theorem jb_232_8 : cm_232.drop 8 = cb_232_8 := rfl
theorem jb_232_16 : cm_232.drop 16 = cb_232_16 := rfl
theorem jb_232_21 : cm_232.drop 21 = cb_232_21 := rfl
theorem jb_232_26 : cm_232.drop 26 = cb_232_26 := rfl
theorem jb_232_33 : cm_232.drop 33 = cb_232_33 := rfl
theorem jb_232_36 : cm_232.drop 36 = cb_232_36 := rfl
theorem jb_232_55 : cm_232.drop 55 = cb_232_55 := rfl
theorem jb_232_57 : cm_232.drop 57 = cb_232_57 := rfl
noncomputable def cm_233 : List Instr := cb_233_0
theorem en_233 {sc : Nat × (Nat → Int32)} {d : Nat} {h : fx_H} {Q : fx_R → Prop} {a0 : Int32} {a1 : Int32} {a2 : Int32} (hk : wC sc d (pg_hd 233) cm_233 cb_233_0 [.int a0, .int a1, .int a2] [] h Q) : wM sc (d + 1) 233 [.int a0, .int a1, .int a2] h Q := wM_enter (Nat.le_of_ble_eq_true rfl) hk
theorem jb_233_3 : cm_233.drop 3 = cb_233_3 := rfl
theorem jb_233_7 : cm_233.drop 7 = cb_233_7 := rfl
theorem jb_233_10 : cm_233.drop 10 = cb_233_10 := rfl
theorem jb_233_14 : cm_233.drop 14 = cb_233_14 := rfl
theorem jb_233_17 : cm_233.drop 17 = cb_233_17 := rfl
theorem jb_233_21 : cm_233.drop 21 = cb_233_21 := rfl
theorem jb_233_24 : cm_233.drop 24 = cb_233_24 := rfl
theorem jb_233_27 : cm_233.drop 27 = cb_233_27 := rfl
theorem jb_233_29 : cm_233.drop 29 = cb_233_29 := rfl
theorem jb_233_31 : cm_233.drop 31 = cb_233_31 := rfl
theorem jb_233_34 : cm_233.drop 34 = cb_233_34 := rfl
theorem jb_233_38 : cm_233.drop 38 = cb_233_38 := rfl
theorem jb_233_41 : cm_233.drop 41 = cb_233_41 := rfl
theorem jb_233_42 : cm_233.drop 42 = cb_233_42 := rfl
theorem jb_233_45 : cm_233.drop 45 = cb_233_45 := rfl
theorem jb_233_47 : cm_233.drop 47 = cb_233_47 := rfl
theorem jb_233_48 : cm_233.drop 48 = cb_233_48 := rfl
theorem jb_233_51 : cm_233.drop 51 = cb_233_51 := rfl
theorem jb_233_53 : cm_233.drop 53 = cb_233_53 := rfl
theorem jb_233_54 : cm_233.drop 54 = cb_233_54 := rfl
theorem jb_233_55 : cm_233.drop 55 = cb_233_55 := rfl
theorem jb_233_57 : cm_233.drop 57 = cb_233_57 := rfl
theorem jb_233_58 : cm_233.drop 58 = cb_233_58 := rfl
noncomputable def cm_234 : List Instr := cb_234_0
theorem en_234 {sc : Nat × (Nat → Int32)} {d : Nat} {h : fx_H} {Q : fx_R → Prop} {a0 : Nat} (hk : wC sc d (pg_hd 234) cm_234 cb_234_0 [.ref a0, fx_U] [] h Q) : wM sc (d + 1) 234 [.ref a0] h Q := wM_enter (Nat.le_of_ble_eq_true rfl) hk
theorem jb_234_3 : cm_234.drop 3 = cb_234_3 := rfl
theorem jb_234_10 : cm_234.drop 10 = cb_234_10 := rfl
theorem jb_234_12 : cm_234.drop 12 = cb_234_12 := rfl
theorem jb_234_15 : cm_234.drop 15 = cb_234_15 := rfl
theorem jb_234_17 : cm_234.drop 17 = cb_234_17 := rfl
theorem jb_234_20 : cm_234.drop 20 = cb_234_20 := rfl
theorem jb_234_22 : cm_234.drop 22 = cb_234_22 := rfl
theorem jb_234_23 : cm_234.drop 23 = cb_234_23 := rfl
noncomputable def cm_235 : List Instr := cb_235_0
theorem en_235 {sc : Nat × (Nat → Int32)} {d : Nat} {h : fx_H} {Q : fx_R → Prop} {a0 : Nat} {a1 : Int32} {a2 : Int32} {a3 : Int32} (hk : wC sc d (pg_hd 235) cm_235 cb_235_0 [.ref a0, .int a1, .int a2, .int a3] [] h Q) : wM sc (d + 1) 235 [.ref a0, .int a1, .int a2, .int a3] h Q := wM_enter (Nat.le_of_ble_eq_true rfl) hk
theorem jb_235_3 : cm_235.drop 3 = cb_235_3 := rfl
theorem jb_235_4 : cm_235.drop 4 = cb_235_4 := rfl
noncomputable def cm_236 : List Instr := cb_236_0
theorem en_236 {sc : Nat × (Nat → Int32)} {d : Nat} {h : fx_H} {Q : fx_R → Prop} {a0 : Int32} (hk : wC sc d (pg_hd 236) cm_236 cb_236_0 [.int a0] [] h Q) : wM sc (d + 1) 236 [.int a0] h Q := wM_enter (Nat.le_of_ble_eq_true rfl) hk
theorem jb_236_4 : cm_236.drop 4 = cb_236_4 := rfl
theorem jb_236_6 : cm_236.drop 6 = cb_236_6 := rfl
theorem jb_236_10 : cm_236.drop 10 = cb_236_10 := rfl
theorem jb_236_12 : cm_236.drop 12 = cb_236_12 := rfl
theorem jb_236_16 : cm_236.drop 16 = cb_236_16 := rfl
theorem jb_236_18 : cm_236.drop 18 = cb_236_18 := rfl
theorem jb_236_22 : cm_236.drop 22 = cb_236_22 := rfl
theorem jb_236_24 : cm_236.drop 24 = cb_236_24 := rfl
theorem jb_236_28 : cm_236.drop 28 = cb_236_28 := rfl
theorem jb_236_30 : cm_236.drop 30 = cb_236_30 := rfl
theorem jb_236_34 : cm_236.drop 34 = cb_236_34 := rfl
theorem jb_236_36 : cm_236.drop 36 = cb_236_36 := rfl
theorem jb_236_37 : cm_236.drop 37 = cb_236_37 := rfl
noncomputable def cm_237 : List Instr := cb_237_0
theorem en_237 {sc : Nat × (Nat → Int32)} {d : Nat} {h : fx_H} {Q : fx_R → Prop} {a0 : Nat} {a1 : Int32} (hk : wC sc d (pg_hd 237) cm_237 cb_237_0 [.ref a0, .int a1] [] h Q) : wM sc (d + 1) 237 [.ref a0, .int a1] h Q := wM_enter (Nat.le_of_ble_eq_true rfl) hk
theorem jb_237_3 : cm_237.drop 3 = cb_237_3 := rfl
theorem jb_237_5 : cm_237.drop 5 = cb_237_5 := rfl
theorem jb_237_7 : cm_237.drop 7 = cb_237_7 := rfl
theorem jb_237_12 : cm_237.drop 12 = cb_237_12 := rfl
theorem jb_237_15 : cm_237.drop 15 = cb_237_15 := rfl
theorem jb_237_20 : cm_237.drop 20 = cb_237_20 := rfl
theorem jb_237_25 : cm_237.drop 25 = cb_237_25 := rfl
theorem jb_237_28 : cm_237.drop 28 = cb_237_28 := rfl
theorem jb_237_30 : cm_237.drop 30 = cb_237_30 := rfl
theorem jb_237_33 : cm_237.drop 33 = cb_237_33 := rfl
noncomputable def cm_238 : List Instr := cb_238_0
theorem en_238 {sc : Nat × (Nat → Int32)} {d : Nat} {h : fx_H} {Q : fx_R → Prop} {a0 : Nat} (hk : wC sc d (pg_hd 238) cm_238 cb_238_0 [.ref a0, fx_U, fx_U] [] h Q) : wM sc (d + 1) 238 [.ref a0] h Q := wM_enter (Nat.le_of_ble_eq_true rfl) hk
theorem jb_238_19 : cm_238.drop 19 = cb_238_19 := rfl
theorem jb_238_22 : cm_238.drop 22 = cb_238_22 := rfl
theorem jb_238_26 : cm_238.drop 26 = cb_238_26 := rfl
theorem jb_238_29 : cm_238.drop 29 = cb_238_29 := rfl
theorem jb_238_41 : cm_238.drop 41 = cb_238_41 := rfl
theorem jb_238_49 : cm_238.drop 49 = cb_238_49 := rfl
noncomputable def cm_239 : List Instr := cb_239_0
theorem en_239 {sc : Nat × (Nat → Int32)} {d : Nat} {h : fx_H} {Q : fx_R → Prop} {a0 : Nat} (hk : wC sc d (pg_hd 239) cm_239 cb_239_0 [.ref a0, fx_U, fx_U] [] h Q) : wM sc (d + 1) 239 [.ref a0] h Q := wM_enter (Nat.le_of_ble_eq_true rfl) hk
theorem jb_239_7 : cm_239.drop 7 = cb_239_7 := rfl
theorem jb_239_13 : cm_239.drop 13 = cb_239_13 := rfl
theorem jb_239_16 : cm_239.drop 16 = cb_239_16 := rfl
theorem jb_239_19 : cm_239.drop 19 = cb_239_19 := rfl
theorem jb_239_31 : cm_239.drop 31 = cb_239_31 := rfl
theorem jb_239_39 : cm_239.drop 39 = cb_239_39 := rfl
theorem jb_239_40 : cm_239.drop 40 = cb_239_40 := rfl
theorem jb_239_41 : cm_239.drop 41 = cb_239_41 := rfl
noncomputable def cm_240 : List Instr := cb_240_0
theorem en_240 {sc : Nat × (Nat → Int32)} {d : Nat} {h : fx_H} {Q : fx_R → Prop} {a0 : Nat} {a1 : Int32} (hk : wC sc d (pg_hd 240) cm_240 cb_240_0 [.ref a0, .int a1, fx_U, fx_U] [] h Q) : wM sc (d + 1) 240 [.ref a0, .int a1] h Q := wM_enter (Nat.le_of_ble_eq_true rfl) hk
theorem jb_240_6 : cm_240.drop 6 = cb_240_6 := rfl
theorem jb_240_10 : cm_240.drop 10 = cb_240_10 := rfl
theorem jb_240_13 : cm_240.drop 13 = cb_240_13 := rfl
theorem jb_240_15 : cm_240.drop 15 = cb_240_15 := rfl
theorem jb_240_16 : cm_240.drop 16 = cb_240_16 := rfl
theorem jb_240_20 : cm_240.drop 20 = cb_240_20 := rfl
theorem jb_240_22 : cm_240.drop 22 = cb_240_22 := rfl
theorem jb_240_29 : cm_240.drop 29 = cb_240_29 := rfl
theorem jb_240_35 : cm_240.drop 35 = cb_240_35 := rfl
theorem jb_240_38 : cm_240.drop 38 = cb_240_38 := rfl
theorem jb_240_41 : cm_240.drop 41 = cb_240_41 := rfl
theorem jb_240_44 : cm_240.drop 44 = cb_240_44 := rfl
theorem jb_240_47 : cm_240.drop 47 = cb_240_47 := rfl
theorem jb_240_55 : cm_240.drop 55 = cb_240_55 := rfl
theorem jb_240_57 : cm_240.drop 57 = cb_240_57 := rfl
theorem jb_240_67 : cm_240.drop 67 = cb_240_67 := rfl
theorem jb_240_70 : cm_240.drop 70 = cb_240_70 := rfl
theorem jb_240_85 : cm_240.drop 85 = cb_240_85 := rfl
noncomputable def cm_241 : List Instr := cb_241_0
theorem en_241 {sc : Nat × (Nat → Int32)} {d : Nat} {h : fx_H} {Q : fx_R → Prop} {a0 : Nat} {a1 : Int32} {a2 : Int32} (hk : wC sc d (pg_hd 241) cm_241 cb_241_0 [.ref a0, .int a1, .int a2, fx_U, fx_U, fx_U] [] h Q) : wM sc (d + 1) 241 [.ref a0, .int a1, .int a2] h Q := wM_enter (Nat.le_of_ble_eq_true rfl) hk
theorem jb_241_2 : cm_241.drop 2 = cb_241_2 := rfl
theorem jb_241_5 : cm_241.drop 5 = cb_241_5 := rfl
theorem jb_241_9 : cm_241.drop 9 = cb_241_9 := rfl
theorem jb_241_21 : cm_241.drop 21 = cb_241_21 := rfl
theorem jb_241_30 : cm_241.drop 30 = cb_241_30 := rfl
theorem jb_241_38 : cm_241.drop 38 = cb_241_38 := rfl
theorem jb_241_42 : cm_241.drop 42 = cb_241_42 := rfl
theorem jb_241_50 : cm_241.drop 50 = cb_241_50 := rfl
theorem jb_241_53 : cm_241.drop 53 = cb_241_53 := rfl
theorem jb_241_72 : cm_241.drop 72 = cb_241_72 := rfl
theorem jb_241_79 : cm_241.drop 79 = cb_241_79 := rfl
theorem jb_241_85 : cm_241.drop 85 = cb_241_85 := rfl
theorem jb_241_87 : cm_241.drop 87 = cb_241_87 := rfl
noncomputable def cm_242 : List Instr := cb_242_0
theorem en_242 {sc : Nat × (Nat → Int32)} {d : Nat} {h : fx_H} {Q : fx_R → Prop} {a0 : Nat} {a1 : Int32} {a2 : Int32} (hk : wC sc d (pg_hd 242) cm_242 cb_242_0 [.ref a0, .int a1, .int a2, fx_U, fx_U, fx_U] [] h Q) : wM sc (d + 1) 242 [.ref a0, .int a1, .int a2] h Q := wM_enter (Nat.le_of_ble_eq_true rfl) hk
theorem jb_242_5 : cm_242.drop 5 = cb_242_5 := rfl
theorem jb_242_8 : cm_242.drop 8 = cb_242_8 := rfl
theorem jb_242_11 : cm_242.drop 11 = cb_242_11 := rfl
theorem jb_242_22 : cm_242.drop 22 = cb_242_22 := rfl
theorem jb_242_25 : cm_242.drop 25 = cb_242_25 := rfl
theorem jb_242_29 : cm_242.drop 29 = cb_242_29 := rfl
theorem jb_242_35 : cm_242.drop 35 = cb_242_35 := rfl
theorem jb_242_36 : cm_242.drop 36 = cb_242_36 := rfl
theorem jb_242_43 : cm_242.drop 43 = cb_242_43 := rfl
noncomputable def cm_243 : List Instr := cb_243_0
theorem en_243 {sc : Nat × (Nat → Int32)} {d : Nat} {h : fx_H} {Q : fx_R → Prop} {a0 : Nat} {a1 : Int32} (hk : wC sc d (pg_hd 243) cm_243 cb_243_0 [.ref a0, .int a1] [] h Q) : wM sc (d + 1) 243 [.ref a0, .int a1] h Q := wM_enter (Nat.le_of_ble_eq_true rfl) hk
theorem jb_243_3 : cm_243.drop 3 = cb_243_3 := rfl
theorem jb_243_7 : cm_243.drop 7 = cb_243_7 := rfl
theorem jb_243_10 : cm_243.drop 10 = cb_243_10 := rfl
theorem jb_243_12 : cm_243.drop 12 = cb_243_12 := rfl
theorem jb_243_13 : cm_243.drop 13 = cb_243_13 := rfl
noncomputable def cm_244 : List Instr := cb_244_0
theorem en_244 {sc : Nat × (Nat → Int32)} {d : Nat} {h : fx_H} {Q : fx_R → Prop} {a0 : Nat} {a1 : Int32} (hk : wC sc d (pg_hd 244) cm_244 cb_244_0 [.ref a0, .int a1, fx_U] [] h Q) : wM sc (d + 1) 244 [.ref a0, .int a1] h Q := wM_enter (Nat.le_of_ble_eq_true rfl) hk
theorem jb_244_7 : cm_244.drop 7 = cb_244_7 := rfl
theorem jb_244_9 : cm_244.drop 9 = cb_244_9 := rfl
theorem jb_244_18 : cm_244.drop 18 = cb_244_18 := rfl
theorem jb_244_20 : cm_244.drop 20 = cb_244_20 := rfl
noncomputable def cm_245 : List Instr := cb_245_0
theorem en_245 {sc : Nat × (Nat → Int32)} {d : Nat} {h : fx_H} {Q : fx_R → Prop} {a0 : Nat} {a1 : Int32} (hk : wC sc d (pg_hd 245) cm_245 cb_245_0 [.ref a0, .int a1, fx_U] [] h Q) : wM sc (d + 1) 245 [.ref a0, .int a1] h Q := wM_enter (Nat.le_of_ble_eq_true rfl) hk
theorem jb_245_7 : cm_245.drop 7 = cb_245_7 := rfl
theorem jb_245_9 : cm_245.drop 9 = cb_245_9 := rfl
theorem jb_245_18 : cm_245.drop 18 = cb_245_18 := rfl
theorem jb_245_20 : cm_245.drop 20 = cb_245_20 := rfl
noncomputable def cm_246 : List Instr := cb_246_0
theorem en_246 {sc : Nat × (Nat → Int32)} {d : Nat} {h : fx_H} {Q : fx_R → Prop} {a0 : Nat} (hk : wC sc d (pg_hd 246) cm_246 cb_246_0 [.ref a0] [] h Q) : wM sc (d + 1) 246 [.ref a0] h Q := wM_enter (Nat.le_of_ble_eq_true rfl) hk
noncomputable def cm_247 : List Instr := cb_247_0
theorem en_247 {sc : Nat × (Nat → Int32)} {d : Nat} {h : fx_H} {Q : fx_R → Prop} {a0 : Int32} (hk : wC sc d (pg_hd 247) cm_247 cb_247_0 [.int a0, fx_U, fx_U] [] h Q) : wM sc (d + 1) 247 [.int a0] h Q := wM_enter (Nat.le_of_ble_eq_true rfl) hk
theorem jb_247_4 : cm_247.drop 4 = cb_247_4 := rfl
theorem jb_247_7 : cm_247.drop 7 = cb_247_7 := rfl
theorem jb_247_17 : cm_247.drop 17 = cb_247_17 := rfl
noncomputable def cm_248 : List Instr := cb_248_0
theorem en_248 {sc : Nat × (Nat → Int32)} {d : Nat} {h : fx_H} {Q : fx_R → Prop} {a0 : Nat} (hk : wC sc d (pg_hd 248) cm_248 cb_248_0 [.ref a0, fx_U, fx_U] [] h Q) : wM sc (d + 1) 248 [.ref a0] h Q := wM_enter (Nat.le_of_ble_eq_true rfl) hk
theorem jb_248_4 : cm_248.drop 4 = cb_248_4 := rfl
theorem jb_248_8 : cm_248.drop 8 = cb_248_8 := rfl
theorem jb_248_21 : cm_248.drop 21 = cb_248_21 := rfl
noncomputable def cm_249 : List Instr := cb_249_0
theorem en_249 {sc : Nat × (Nat → Int32)} {d : Nat} {h : fx_H} {Q : fx_R → Prop} {a0 : Nat} {a1 : Int32} (hk : wC sc d (pg_hd 249) cm_249 cb_249_0 [.ref a0, .int a1, fx_U, fx_U] [] h Q) : wM sc (d + 1) 249 [.ref a0, .int a1] h Q := wM_enter (Nat.le_of_ble_eq_true rfl) hk
theorem jb_249_4 : cm_249.drop 4 = cb_249_4 := rfl
theorem jb_249_8 : cm_249.drop 8 = cb_249_8 := rfl
theorem jb_249_17 : cm_249.drop 17 = cb_249_17 := rfl
theorem jb_249_21 : cm_249.drop 21 = cb_249_21 := rfl
theorem jb_249_22 : cm_249.drop 22 = cb_249_22 := rfl
theorem jb_249_26 : cm_249.drop 26 = cb_249_26 := rfl
noncomputable def cm_250 : List Instr := cb_250_0
theorem en_250 {sc : Nat × (Nat → Int32)} {d : Nat} {h : fx_H} {Q : fx_R → Prop} {a0 : Nat} (hk : wC sc d (pg_hd 250) cm_250 cb_250_0 [.ref a0, fx_U, fx_U] [] h Q) : wM sc (d + 1) 250 [.ref a0] h Q := wM_enter (Nat.le_of_ble_eq_true rfl) hk
theorem jb_250_4 : cm_250.drop 4 = cb_250_4 := rfl
theorem jb_250_8 : cm_250.drop 8 = cb_250_8 := rfl
theorem jb_250_14 : cm_250.drop 14 = cb_250_14 := rfl
theorem jb_250_19 : cm_250.drop 19 = cb_250_19 := rfl
theorem jb_250_20 : cm_250.drop 20 = cb_250_20 := rfl
theorem jb_250_23 : cm_250.drop 23 = cb_250_23 := rfl
noncomputable def cm_251 : List Instr := cb_251_0
theorem en_251 {sc : Nat × (Nat → Int32)} {d : Nat} {h : fx_H} {Q : fx_R → Prop} {a0 : Nat} {a1 : Int32} {a2 : Int32} {a3 : Int32} {a4 : Int32} {a5 : Int32} {a6 : Int32} {a7 : Int32} (hk : wC sc d (pg_hd 251) cm_251 cb_251_0 [.ref a0, .int a1, .int a2, .int a3, .int a4, .int a5, .int a6, .int a7] [] h Q) : wM sc (d + 1) 251 [.ref a0, .int a1, .int a2, .int a3, .int a4, .int a5, .int a6, .int a7] h Q := wM_enter (Nat.le_of_ble_eq_true rfl) hk
noncomputable def cm_252 : List Instr := cb_252_0
theorem en_252 {sc : Nat × (Nat → Int32)} {d : Nat} {h : fx_H} {Q : fx_R → Prop} {a0 : Nat} {a1 : Int32} (hk : wC sc d (pg_hd 252) cm_252 cb_252_0 [.ref a0, .int a1] [] h Q) : wM sc (d + 1) 252 [.ref a0, .int a1] h Q := wM_enter (Nat.le_of_ble_eq_true rfl) hk
theorem jb_252_12 : cm_252.drop 12 = cb_252_12 := rfl
theorem jb_252_17 : cm_252.drop 17 = cb_252_17 := rfl
theorem jb_252_18 : cm_252.drop 18 = cb_252_18 := rfl
noncomputable def cm_253 : List Instr := cb_253_0
theorem en_253 {sc : Nat × (Nat → Int32)} {d : Nat} {h : fx_H} {Q : fx_R → Prop} {a0 : Nat} {a1 : Int32} {a2 : Int32} (hk : wC sc d (pg_hd 253) cm_253 cb_253_0 [.ref a0, .int a1, .int a2] [] h Q) : wM sc (d + 1) 253 [.ref a0, .int a1, .int a2] h Q := wM_enter (Nat.le_of_ble_eq_true rfl) hk
theorem jb_253_8 : cm_253.drop 8 = cb_253_8 := rfl
theorem jb_253_10 : cm_253.drop 10 = cb_253_10 := rfl
theorem jb_253_18 : cm_253.drop 18 = cb_253_18 := rfl
noncomputable def cm_254 : List Instr := cb_254_0
theorem en_254 {sc : Nat × (Nat → Int32)} {d : Nat} {h : fx_H} {Q : fx_R → Prop} {a0 : Nat} {a1 : Int32} (hk : wC sc d (pg_hd 254) cm_254 cb_254_0 [.ref a0, .int a1, fx_U, fx_U] [] h Q) : wM sc (d + 1) 254 [.ref a0, .int a1] h Q := wM_enter (Nat.le_of_ble_eq_true rfl) hk
theorem jb_254_10 : cm_254.drop 10 = cb_254_10 := rfl
theorem jb_254_12 : cm_254.drop 12 = cb_254_12 := rfl
theorem jb_254_22 : cm_254.drop 22 = cb_254_22 := rfl
theorem jb_254_26 : cm_254.drop 26 = cb_254_26 := rfl
theorem jb_254_39 : cm_254.drop 39 = cb_254_39 := rfl
theorem jb_254_50 : cm_254.drop 50 = cb_254_50 := rfl
theorem jb_254_94 : cm_254.drop 94 = cb_254_94 := rfl
theorem jb_254_96 : cm_254.drop 96 = cb_254_96 := rfl
theorem jb_254_105 : cm_254.drop 105 = cb_254_105 := rfl
theorem jb_254_112 : cm_254.drop 112 = cb_254_112 := rfl
theorem jb_254_113 : cm_254.drop 113 = cb_254_113 := rfl
noncomputable def cm_255 : List Instr := cb_255_0
theorem en_255 {sc : Nat × (Nat → Int32)} {d : Nat} {h : fx_H} {Q : fx_R → Prop} {a0 : Nat} (hk : wC sc d (pg_hd 255) cm_255 cb_255_0 [.ref a0, fx_U, fx_U] [] h Q) : wM sc (d + 1) 255 [.ref a0] h Q := wM_enter (Nat.le_of_ble_eq_true rfl) hk
theorem jb_255_3 : cm_255.drop 3 = cb_255_3 := rfl
theorem jb_255_5 : cm_255.drop 5 = cb_255_5 := rfl
theorem jb_255_14 : cm_255.drop 14 = cb_255_14 := rfl
theorem jb_255_20 : cm_255.drop 20 = cb_255_20 := rfl
theorem jb_255_22 : cm_255.drop 22 = cb_255_22 := rfl
theorem jb_255_38 : cm_255.drop 38 = cb_255_38 := rfl
theorem jb_255_41 : cm_255.drop 41 = cb_255_41 := rfl
theorem jb_255_46 : cm_255.drop 46 = cb_255_46 := rfl
noncomputable def cm_256 : List Instr := cb_256_0
theorem en_256 {sc : Nat × (Nat → Int32)} {d : Nat} {h : fx_H} {Q : fx_R → Prop} {a0 : Nat} {a1 : Int32} {a2 : Int32} {a3 : Int32} (hk : wC sc d (pg_hd 256) cm_256 cb_256_0 [.ref a0, .int a1, .int a2, .int a3] [] h Q) : wM sc (d + 1) 256 [.ref a0, .int a1, .int a2, .int a3] h Q := wM_enter (Nat.le_of_ble_eq_true rfl) hk
theorem jb_256_2 : cm_256.drop 2 = cb_256_2 := rfl
theorem jb_256_6 : cm_256.drop 6 = cb_256_6 := rfl
theorem jb_256_9 : cm_256.drop 9 = cb_256_9 := rfl
theorem jb_256_15 : cm_256.drop 15 = cb_256_15 := rfl
theorem jb_256_18 : cm_256.drop 18 = cb_256_18 := rfl
theorem jb_256_26 : cm_256.drop 26 = cb_256_26 := rfl
theorem jb_256_29 : cm_256.drop 29 = cb_256_29 := rfl
theorem jb_256_35 : cm_256.drop 35 = cb_256_35 := rfl
theorem jb_256_37 : cm_256.drop 37 = cb_256_37 := rfl
theorem jb_256_40 : cm_256.drop 40 = cb_256_40 := rfl
theorem jb_256_55 : cm_256.drop 55 = cb_256_55 := rfl
theorem jb_256_58 : cm_256.drop 58 = cb_256_58 := rfl
theorem jb_256_69 : cm_256.drop 69 = cb_256_69 := rfl
theorem jb_256_71 : cm_256.drop 71 = cb_256_71 := rfl
theorem jb_256_77 : cm_256.drop 77 = cb_256_77 := rfl
theorem jb_256_79 : cm_256.drop 79 = cb_256_79 := rfl
theorem jb_256_82 : cm_256.drop 82 = cb_256_82 := rfl
theorem jb_256_90 : cm_256.drop 90 = cb_256_90 := rfl
theorem jb_256_92 : cm_256.drop 92 = cb_256_92 := rfl
noncomputable def cm_257 : List Instr := cb_257_0
theorem en_257 {sc : Nat × (Nat → Int32)} {d : Nat} {h : fx_H} {Q : fx_R → Prop} {a0 : Nat} (hk : wC sc d (pg_hd 257) cm_257 cb_257_0 [.ref a0, fx_U] [] h Q) : wM sc (d + 1) 257 [.ref a0] h Q := wM_enter (Nat.le_of_ble_eq_true rfl) hk
theorem jb_257_6 : cm_257.drop 6 = cb_257_6 := rfl
theorem jb_257_8 : cm_257.drop 8 = cb_257_8 := rfl
theorem jb_257_16 : cm_257.drop 16 = cb_257_16 := rfl
theorem jb_257_19 : cm_257.drop 19 = cb_257_19 := rfl
theorem jb_257_34 : cm_257.drop 34 = cb_257_34 := rfl
noncomputable def cm_258 : List Instr := cb_258_0
theorem en_258 {sc : Nat × (Nat → Int32)} {d : Nat} {h : fx_H} {Q : fx_R → Prop} {a0 : Nat} (hk : wC sc d (pg_hd 258) cm_258 cb_258_0 [.ref a0, fx_U, fx_U] [] h Q) : wM sc (d + 1) 258 [.ref a0] h Q := wM_enter (Nat.le_of_ble_eq_true rfl) hk
theorem jb_258_4 : cm_258.drop 4 = cb_258_4 := rfl
theorem jb_258_8 : cm_258.drop 8 = cb_258_8 := rfl
theorem jb_258_21 : cm_258.drop 21 = cb_258_21 := rfl
noncomputable def cm_259 : List Instr := cb_259_0
theorem en_259 {sc : Nat × (Nat → Int32)} {d : Nat} {h : fx_H} {Q : fx_R → Prop} {a0 : Nat} {a1 : Int32} (hk : wC sc d (pg_hd 259) cm_259 cb_259_0 [.ref a0, .int a1] [] h Q) : wM sc (d + 1) 259 [.ref a0, .int a1] h Q := wM_enter (Nat.le_of_ble_eq_true rfl) hk
theorem jb_259_12 : cm_259.drop 12 = cb_259_12 := rfl
theorem jb_259_14 : cm_259.drop 14 = cb_259_14 := rfl
theorem jb_259_19 : cm_259.drop 19 = cb_259_19 := rfl
theorem jb_259_21 : cm_259.drop 21 = cb_259_21 := rfl
theorem jb_259_24 : cm_259.drop 24 = cb_259_24 := rfl
theorem jb_259_27 : cm_259.drop 27 = cb_259_27 := rfl
theorem jb_259_30 : cm_259.drop 30 = cb_259_30 := rfl
theorem jb_259_33 : cm_259.drop 33 = cb_259_33 := rfl
theorem jb_259_38 : cm_259.drop 38 = cb_259_38 := rfl
theorem jb_259_42 : cm_259.drop 42 = cb_259_42 := rfl
theorem jb_259_43 : cm_259.drop 43 = cb_259_43 := rfl
theorem jb_259_46 : cm_259.drop 46 = cb_259_46 := rfl
theorem jb_259_49 : cm_259.drop 49 = cb_259_49 := rfl
theorem jb_259_52 : cm_259.drop 52 = cb_259_52 := rfl
theorem jb_259_55 : cm_259.drop 55 = cb_259_55 := rfl
theorem jb_259_60 : cm_259.drop 60 = cb_259_60 := rfl
theorem jb_259_63 : cm_259.drop 63 = cb_259_63 := rfl
theorem jb_259_68 : cm_259.drop 68 = cb_259_68 := rfl
theorem jb_259_70 : cm_259.drop 70 = cb_259_70 := rfl
theorem jb_259_71 : cm_259.drop 71 = cb_259_71 := rfl
theorem jb_259_74 : cm_259.drop 74 = cb_259_74 := rfl
theorem jb_259_77 : cm_259.drop 77 = cb_259_77 := rfl
theorem jb_259_80 : cm_259.drop 80 = cb_259_80 := rfl
theorem jb_259_83 : cm_259.drop 83 = cb_259_83 := rfl
theorem jb_259_86 : cm_259.drop 86 = cb_259_86 := rfl
theorem jb_259_89 : cm_259.drop 89 = cb_259_89 := rfl
theorem jb_259_91 : cm_259.drop 91 = cb_259_91 := rfl
noncomputable def cm_260 : List Instr := cb_260_0
theorem en_260 {sc : Nat × (Nat → Int32)} {d : Nat} {h : fx_H} {Q : fx_R → Prop} {a0 : Nat} {a1 : Int32} {a2 : Int32} (hk : wC sc d (pg_hd 260) cm_260 cb_260_0 [.ref a0, .int a1, .int a2] [] h Q) : wM sc (d + 1) 260 [.ref a0, .int a1, .int a2] h Q := wM_enter (Nat.le_of_ble_eq_true rfl) hk
noncomputable def cm_261 : List Instr := cb_261_0
theorem en_261 {sc : Nat × (Nat → Int32)} {d : Nat} {h : fx_H} {Q : fx_R → Prop} {a0 : Nat} {a1 : Int32} {a2 : Int32} (hk : wC sc d (pg_hd 261) cm_261 cb_261_0 [.ref a0, .int a1, .int a2] [] h Q) : wM sc (d + 1) 261 [.ref a0, .int a1, .int a2] h Q := wM_enter (Nat.le_of_ble_eq_true rfl) hk
noncomputable def cm_262 : List Instr := cb_262_0
theorem en_262 {sc : Nat × (Nat → Int32)} {d : Nat} {h : fx_H} {Q : fx_R → Prop} {a0 : Int32} (hk : wC sc d (pg_hd 262) cm_262 cb_262_0 [.int a0] [] h Q) : wM sc (d + 1) 262 [.int a0] h Q := wM_enter (Nat.le_of_ble_eq_true rfl) hk
theorem jb_262_2 : cm_262.drop 2 = cb_262_2 := rfl
theorem jb_262_5 : cm_262.drop 5 = cb_262_5 := rfl
theorem jb_262_7 : cm_262.drop 7 = cb_262_7 := rfl
theorem jb_262_8 : cm_262.drop 8 = cb_262_8 := rfl
noncomputable def cm_263 : List Instr := cb_263_0
theorem en_263 {sc : Nat × (Nat → Int32)} {d : Nat} {h : fx_H} {Q : fx_R → Prop} {a0 : Nat} {a1 : Int32} (hk : wC sc d (pg_hd 263) cm_263 cb_263_0 [.ref a0, .int a1] [] h Q) : wM sc (d + 1) 263 [.ref a0, .int a1] h Q := wM_enter (Nat.le_of_ble_eq_true rfl) hk
theorem jb_263_2 : cm_263.drop 2 = cb_263_2 := rfl
theorem jb_263_8 : cm_263.drop 8 = cb_263_8 := rfl
theorem jb_263_10 : cm_263.drop 10 = cb_263_10 := rfl
theorem jb_263_11 : cm_263.drop 11 = cb_263_11 := rfl
noncomputable def cm_264 : List Instr := cb_264_0
theorem en_264 {sc : Nat × (Nat → Int32)} {d : Nat} {h : fx_H} {Q : fx_R → Prop} {a0 : Nat} {a1 : Int32} {a2 : Int32} (hk : wC sc d (pg_hd 264) cm_264 cb_264_0 [.ref a0, .int a1, .int a2] [] h Q) : wM sc (d + 1) 264 [.ref a0, .int a1, .int a2] h Q := wM_enter (Nat.le_of_ble_eq_true rfl) hk
theorem jb_264_8 : cm_264.drop 8 = cb_264_8 := rfl
theorem jb_264_17 : cm_264.drop 17 = cb_264_17 := rfl
theorem jb_264_19 : cm_264.drop 19 = cb_264_19 := rfl
theorem jb_264_23 : cm_264.drop 23 = cb_264_23 := rfl
theorem jb_264_28 : cm_264.drop 28 = cb_264_28 := rfl
theorem jb_264_31 : cm_264.drop 31 = cb_264_31 := rfl
theorem jb_264_38 : cm_264.drop 38 = cb_264_38 := rfl
theorem jb_264_41 : cm_264.drop 41 = cb_264_41 := rfl
noncomputable def cm_265 : List Instr := cb_265_0
theorem en_265 {sc : Nat × (Nat → Int32)} {d : Nat} {h : fx_H} {Q : fx_R → Prop} {a0 : Nat} {a1 : Int32} {a2 : Int32} (hk : wC sc d (pg_hd 265) cm_265 cb_265_0 [.ref a0, .int a1, .int a2] [] h Q) : wM sc (d + 1) 265 [.ref a0, .int a1, .int a2] h Q := wM_enter (Nat.le_of_ble_eq_true rfl) hk
theorem jb_265_8 : cm_265.drop 8 = cb_265_8 := rfl
theorem jb_265_15 : cm_265.drop 15 = cb_265_15 := rfl
theorem jb_265_17 : cm_265.drop 17 = cb_265_17 := rfl
noncomputable def cm_266 : List Instr := cb_266_0
theorem en_266 {sc : Nat × (Nat → Int32)} {d : Nat} {h : fx_H} {Q : fx_R → Prop} {a0 : Nat} {a1 : Int32} {a2 : Int32} (hk : wC sc d (pg_hd 266) cm_266 cb_266_0 [.ref a0, .int a1, .int a2] [] h Q) : wM sc (d + 1) 266 [.ref a0, .int a1, .int a2] h Q := wM_enter (Nat.le_of_ble_eq_true rfl) hk
theorem jb_266_8 : cm_266.drop 8 = cb_266_8 := rfl
theorem jb_266_17 : cm_266.drop 17 = cb_266_17 := rfl
theorem jb_266_19 : cm_266.drop 19 = cb_266_19 := rfl
noncomputable def cm_267 : List Instr := cb_267_0
theorem en_267 {sc : Nat × (Nat → Int32)} {d : Nat} {h : fx_H} {Q : fx_R → Prop} {a0 : Nat} {a1 : Int32} (hk : wC sc d (pg_hd 267) cm_267 cb_267_0 [.ref a0, .int a1] [] h Q) : wM sc (d + 1) 267 [.ref a0, .int a1] h Q := wM_enter (Nat.le_of_ble_eq_true rfl) hk
theorem jb_267_10 : cm_267.drop 10 = cb_267_10 := rfl
theorem jb_267_12 : cm_267.drop 12 = cb_267_12 := rfl
noncomputable def cm_268 : List Instr := cb_268_0
theorem en_268 {sc : Nat × (Nat → Int32)} {d : Nat} {h : fx_H} {Q : fx_R → Prop} {a0 : Nat} {a1 : Int32} {a2 : Int32} {a3 : Int32} {a4 : Int32} {a5 : Int32} {a6 : Int32} {a7 : Int32} (hk : wC sc d (pg_hd 268) cm_268 cb_268_0 [.ref a0, .int a1, .int a2, .int a3, .int a4, .int a5, .int a6, .int a7] [] h Q) : wM sc (d + 1) 268 [.ref a0, .int a1, .int a2, .int a3, .int a4, .int a5, .int a6, .int a7] h Q := wM_enter (Nat.le_of_ble_eq_true rfl) hk
theorem jb_268_7 : cm_268.drop 7 = cb_268_7 := rfl
theorem jb_268_12 : cm_268.drop 12 = cb_268_12 := rfl
theorem jb_268_17 : cm_268.drop 17 = cb_268_17 := rfl
theorem jb_268_22 : cm_268.drop 22 = cb_268_22 := rfl
theorem jb_268_27 : cm_268.drop 27 = cb_268_27 := rfl
theorem jb_268_32 : cm_268.drop 32 = cb_268_32 := rfl
theorem jb_268_37 : cm_268.drop 37 = cb_268_37 := rfl
theorem jb_268_39 : cm_268.drop 39 = cb_268_39 := rfl
theorem jb_268_40 : cm_268.drop 40 = cb_268_40 := rfl
theorem jb_268_44 : cm_268.drop 44 = cb_268_44 := rfl
theorem jb_268_46 : cm_268.drop 46 = cb_268_46 := rfl
noncomputable def cm_269 : List Instr := cb_269_0
theorem en_269 {sc : Nat × (Nat → Int32)} {d : Nat} {h : fx_H} {Q : fx_R → Prop} {a0 : Nat} {a1 : Int32} {a2 : Int32} (hk : wC sc d (pg_hd 269) cm_269 cb_269_0 [.ref a0, .int a1, .int a2, fx_U, fx_U] [] h Q) : wM sc (d + 1) 269 [.ref a0, .int a1, .int a2] h Q := wM_enter (Nat.le_of_ble_eq_true rfl) hk
theorem jb_269_9 : cm_269.drop 9 = cb_269_9 := rfl
theorem jb_269_14 : cm_269.drop 14 = cb_269_14 := rfl
theorem jb_269_16 : cm_269.drop 16 = cb_269_16 := rfl
theorem jb_269_17 : cm_269.drop 17 = cb_269_17 := rfl
theorem jb_269_21 : cm_269.drop 21 = cb_269_21 := rfl
theorem jb_269_23 : cm_269.drop 23 = cb_269_23 := rfl
theorem jb_269_27 : cm_269.drop 27 = cb_269_27 := rfl
theorem jb_269_30 : cm_269.drop 30 = cb_269_30 := rfl
theorem jb_269_34 : cm_269.drop 34 = cb_269_34 := rfl
theorem jb_269_36 : cm_269.drop 36 = cb_269_36 := rfl
theorem jb_269_39 : cm_269.drop 39 = cb_269_39 := rfl
theorem jb_269_43 : cm_269.drop 43 = cb_269_43 := rfl
theorem jb_269_47 : cm_269.drop 47 = cb_269_47 := rfl
theorem jb_269_65 : cm_269.drop 65 = cb_269_65 := rfl
noncomputable def cm_270 : List Instr := cb_270_0
theorem en_270 {sc : Nat × (Nat → Int32)} {d : Nat} {h : fx_H} {Q : fx_R → Prop} {a0 : Nat} {a1 : Int32} {a2 : Int32} (hk : wC sc d (pg_hd 270) cm_270 cb_270_0 [.ref a0, .int a1, .int a2, fx_U, fx_U] [] h Q) : wM sc (d + 1) 270 [.ref a0, .int a1, .int a2] h Q := wM_enter (Nat.le_of_ble_eq_true rfl) hk
theorem jb_270_4 : cm_270.drop 4 = cb_270_4 := rfl
theorem jb_270_8 : cm_270.drop 8 = cb_270_8 := rfl
theorem jb_270_16 : cm_270.drop 16 = cb_270_16 := rfl
theorem jb_270_23 : cm_270.drop 23 = cb_270_23 := rfl
theorem jb_270_24 : cm_270.drop 24 = cb_270_24 := rfl
theorem jb_270_28 : cm_270.drop 28 = cb_270_28 := rfl
noncomputable def cm_271 : List Instr := cb_271_0
theorem en_271 {sc : Nat × (Nat → Int32)} {d : Nat} {h : fx_H} {Q : fx_R → Prop} {a0 : Nat} {a1 : Int32} (hk : wC sc d (pg_hd 271) cm_271 cb_271_0 [.ref a0, .int a1, fx_U, fx_U] [] h Q) : wM sc (d + 1) 271 [.ref a0, .int a1] h Q := wM_enter (Nat.le_of_ble_eq_true rfl) hk
theorem jb_271_11 : cm_271.drop 11 = cb_271_11 := rfl
theorem jb_271_13 : cm_271.drop 13 = cb_271_13 := rfl
theorem jb_271_19 : cm_271.drop 19 = cb_271_19 := rfl
theorem jb_271_23 : cm_271.drop 23 = cb_271_23 := rfl
theorem jb_271_33 : cm_271.drop 33 = cb_271_33 := rfl
noncomputable def cm_272 : List Instr := cb_272_0
theorem en_272 {sc : Nat × (Nat → Int32)} {d : Nat} {h : fx_H} {Q : fx_R → Prop} {a0 : Nat} {a1 : Int32} {a2 : Int32} (hk : wC sc d (pg_hd 272) cm_272 cb_272_0 [.ref a0, .int a1, .int a2, fx_U, fx_U, fx_U, fx_U, fx_U] [] h Q) : wM sc (d + 1) 272 [.ref a0, .int a1, .int a2] h Q := wM_enter (Nat.le_of_ble_eq_true rfl) hk
theorem jb_272_2 : cm_272.drop 2 = cb_272_2 := rfl
theorem jb_272_5 : cm_272.drop 5 = cb_272_5 := rfl
theorem jb_272_12 : cm_272.drop 12 = cb_272_12 := rfl
theorem jb_272_26 : cm_272.drop 26 = cb_272_26 := rfl
theorem jb_272_29 : cm_272.drop 29 = cb_272_29 := rfl
theorem jb_272_37 : cm_272.drop 37 = cb_272_37 := rfl
theorem jb_272_41 : cm_272.drop 41 = cb_272_41 := rfl
theorem jb_272_42 : cm_272.drop 42 = cb_272_42 := rfl
theorem jb_272_47 : cm_272.drop 47 = cb_272_47 := rfl
theorem jb_272_49 : cm_272.drop 49 = cb_272_49 := rfl
theorem jb_272_51 : cm_272.drop 51 = cb_272_51 := rfl
theorem jb_272_54 : cm_272.drop 54 = cb_272_54 := rfl
theorem jb_272_65 : cm_272.drop 65 = cb_272_65 := rfl
theorem jb_272_66 : cm_272.drop 66 = cb_272_66 := rfl
theorem jb_272_92 : cm_272.drop 92 = cb_272_92 := rfl
theorem jb_272_94 : cm_272.drop 94 = cb_272_94 := rfl
theorem jb_272_96 : cm_272.drop 96 = cb_272_96 := rfl
noncomputable def cm_273 : List Instr := cb_273_0
theorem en_273 {sc : Nat × (Nat → Int32)} {d : Nat} {h : fx_H} {Q : fx_R → Prop} {a0 : Int32} (hk : wC sc d (pg_hd 273) cm_273 cb_273_0 [.int a0, fx_U] [] h Q) : wM sc (d + 1) 273 [.int a0] h Q := wM_enter (Nat.le_of_ble_eq_true rfl) hk
theorem jb_273_2 : cm_273.drop 2 = cb_273_2 := rfl
theorem jb_273_8 : cm_273.drop 8 = cb_273_8 := rfl
theorem jb_273_10 : cm_273.drop 10 = cb_273_10 := rfl
noncomputable def cm_274 : List Instr := cb_274_0
theorem en_274 {sc : Nat × (Nat → Int32)} {d : Nat} {h : fx_H} {Q : fx_R → Prop} {a0 : Nat} {a1 : Int32} {a2 : Int32} (hk : wC sc d (pg_hd 274) cm_274 cb_274_0 [.ref a0, .int a1, .int a2, fx_U] [] h Q) : wM sc (d + 1) 274 [.ref a0, .int a1, .int a2] h Q := wM_enter (Nat.le_of_ble_eq_true rfl) hk
theorem jb_274_8 : cm_274.drop 8 = cb_274_8 := rfl
theorem jb_274_13 : cm_274.drop 13 = cb_274_13 := rfl
theorem jb_274_15 : cm_274.drop 15 = cb_274_15 := rfl
theorem jb_274_16 : cm_274.drop 16 = cb_274_16 := rfl
theorem jb_274_20 : cm_274.drop 20 = cb_274_20 := rfl
theorem jb_274_22 : cm_274.drop 22 = cb_274_22 := rfl
theorem jb_274_24 : cm_274.drop 24 = cb_274_24 := rfl
theorem jb_274_26 : cm_274.drop 26 = cb_274_26 := rfl
theorem jb_274_28 : cm_274.drop 28 = cb_274_28 := rfl
theorem jb_274_29 : cm_274.drop 29 = cb_274_29 := rfl
theorem jb_274_30 : cm_274.drop 30 = cb_274_30 := rfl
theorem jb_274_40 : cm_274.drop 40 = cb_274_40 := rfl
theorem jb_274_42 : cm_274.drop 42 = cb_274_42 := rfl
theorem jb_274_44 : cm_274.drop 44 = cb_274_44 := rfl
theorem jb_274_49 : cm_274.drop 49 = cb_274_49 := rfl
theorem jb_274_51 : cm_274.drop 51 = cb_274_51 := rfl
noncomputable def cm_275 : List Instr := cb_275_0
theorem en_275 {sc : Nat × (Nat → Int32)} {d : Nat} {h : fx_H} {Q : fx_R → Prop} {a0 : Nat} {a1 : Int32} {a2 : Int32} (hk : wC sc d (pg_hd 275) cm_275 cb_275_0 [.ref a0, .int a1, .int a2, fx_U] [] h Q) : wM sc (d + 1) 275 [.ref a0, .int a1, .int a2] h Q := wM_enter (Nat.le_of_ble_eq_true rfl) hk
theorem jb_275_8 : cm_275.drop 8 = cb_275_8 := rfl
theorem jb_275_10 : cm_275.drop 10 = cb_275_10 := rfl
theorem jb_275_12 : cm_275.drop 12 = cb_275_12 := rfl
theorem jb_275_13 : cm_275.drop 13 = cb_275_13 := rfl
theorem jb_275_17 : cm_275.drop 17 = cb_275_17 := rfl
theorem jb_275_19 : cm_275.drop 19 = cb_275_19 := rfl
theorem jb_275_21 : cm_275.drop 21 = cb_275_21 := rfl
theorem jb_275_23 : cm_275.drop 23 = cb_275_23 := rfl
theorem jb_275_33 : cm_275.drop 33 = cb_275_33 := rfl
theorem jb_275_39 : cm_275.drop 39 = cb_275_39 := rfl
theorem jb_275_41 : cm_275.drop 41 = cb_275_41 := rfl
theorem jb_275_49 : cm_275.drop 49 = cb_275_49 := rfl
theorem jb_275_55 : cm_275.drop 55 = cb_275_55 := rfl
noncomputable def cm_276 : List Instr := cb_276_0
theorem en_276 {sc : Nat × (Nat → Int32)} {d : Nat} {h : fx_H} {Q : fx_R → Prop} {a0 : Nat} {a1 : Int32} {a2 : Int32} (hk : wC sc d (pg_hd 276) cm_276 cb_276_0 [.ref a0, .int a1, .int a2, fx_U] [] h Q) : wM sc (d + 1) 276 [.ref a0, .int a1, .int a2] h Q := wM_enter (Nat.le_of_ble_eq_true rfl) hk
theorem jb_276_8 : cm_276.drop 8 = cb_276_8 := rfl
theorem jb_276_16 : cm_276.drop 16 = cb_276_16 := rfl
theorem jb_276_18 : cm_276.drop 18 = cb_276_18 := rfl
theorem jb_276_20 : cm_276.drop 20 = cb_276_20 := rfl
theorem jb_276_22 : cm_276.drop 22 = cb_276_22 := rfl
theorem jb_276_32 : cm_276.drop 32 = cb_276_32 := rfl
theorem jb_276_34 : cm_276.drop 34 = cb_276_34 := rfl
theorem jb_276_38 : cm_276.drop 38 = cb_276_38 := rfl
noncomputable def cm_277 : List Instr := cb_277_0
theorem en_277 {sc : Nat × (Nat → Int32)} {d : Nat} {h : fx_H} {Q : fx_R → Prop} {a0 : Nat} {a1 : Int32} (hk : wC sc d (pg_hd 277) cm_277 cb_277_0 [.ref a0, .int a1, fx_U, fx_U, fx_U, fx_U, fx_U] [] h Q) : wM sc (d + 1) 277 [.ref a0, .int a1] h Q := wM_enter (Nat.le_of_ble_eq_true rfl) hk
theorem jb_277_11 : cm_277.drop 11 = cb_277_11 := rfl
theorem jb_277_13 : cm_277.drop 13 = cb_277_13 := rfl
theorem jb_277_15 : cm_277.drop 15 = cb_277_15 := rfl
theorem jb_277_17 : cm_277.drop 17 = cb_277_17 := rfl
theorem jb_277_21 : cm_277.drop 21 = cb_277_21 := rfl
theorem jb_277_24 : cm_277.drop 24 = cb_277_24 := rfl
theorem jb_277_30 : cm_277.drop 30 = cb_277_30 := rfl
theorem jb_277_32 : cm_277.drop 32 = cb_277_32 := rfl
theorem jb_277_33 : cm_277.drop 33 = cb_277_33 := rfl
theorem jb_277_36 : cm_277.drop 36 = cb_277_36 := rfl
theorem jb_277_38 : cm_277.drop 38 = cb_277_38 := rfl
theorem jb_277_40 : cm_277.drop 40 = cb_277_40 := rfl
theorem jb_277_44 : cm_277.drop 44 = cb_277_44 := rfl
theorem jb_277_50 : cm_277.drop 50 = cb_277_50 := rfl
theorem jb_277_56 : cm_277.drop 56 = cb_277_56 := rfl
theorem jb_277_57 : cm_277.drop 57 = cb_277_57 := rfl
theorem jb_277_59 : cm_277.drop 59 = cb_277_59 := rfl
theorem jb_277_62 : cm_277.drop 62 = cb_277_62 := rfl
theorem jb_277_82 : cm_277.drop 82 = cb_277_82 := rfl
theorem jb_277_83 : cm_277.drop 83 = cb_277_83 := rfl
theorem jb_277_90 : cm_277.drop 90 = cb_277_90 := rfl
theorem jb_277_92 : cm_277.drop 92 = cb_277_92 := rfl
theorem jb_277_94 : cm_277.drop 94 = cb_277_94 := rfl
theorem jb_277_95 : cm_277.drop 95 = cb_277_95 := rfl
theorem jb_277_99 : cm_277.drop 99 = cb_277_99 := rfl
theorem jb_277_103 : cm_277.drop 103 = cb_277_103 := rfl
theorem jb_277_111 : cm_277.drop 111 = cb_277_111 := rfl
theorem jb_277_118 : cm_277.drop 118 = cb_277_118 := rfl
theorem jb_277_119 : cm_277.drop 119 = cb_277_119 := rfl
theorem jb_277_122 : cm_277.drop 122 = cb_277_122 := rfl
theorem jb_277_125 : cm_277.drop 125 = cb_277_125 := rfl
theorem jb_277_127 : cm_277.drop 127 = cb_277_127 := rfl
theorem jb_277_128 : cm_277.drop 128 = cb_277_128 := rfl
noncomputable def cm_278 : List Instr := cb_278_0
theorem en_278 {sc : Nat × (Nat → Int32)} {d : Nat} {h : fx_H} {Q : fx_R → Prop} {a0 : Nat} (hk : wC sc d (pg_hd 278) cm_278 cb_278_0 [.ref a0, fx_U, fx_U, fx_U, fx_U, fx_U] [] h Q) : wM sc (d + 1) 278 [.ref a0] h Q := wM_enter (Nat.le_of_ble_eq_true rfl) hk
theorem jb_278_2 : cm_278.drop 2 = cb_278_2 := rfl
theorem jb_278_5 : cm_278.drop 5 = cb_278_5 := rfl
theorem jb_278_14 : cm_278.drop 14 = cb_278_14 := rfl
theorem jb_278_20 : cm_278.drop 20 = cb_278_20 := rfl
theorem jb_278_33 : cm_278.drop 33 = cb_278_33 := rfl
theorem jb_278_35 : cm_278.drop 35 = cb_278_35 := rfl
theorem jb_278_36 : cm_278.drop 36 = cb_278_36 := rfl
theorem jb_278_39 : cm_278.drop 39 = cb_278_39 := rfl
theorem jb_278_41 : cm_278.drop 41 = cb_278_41 := rfl
theorem jb_278_43 : cm_278.drop 43 = cb_278_43 := rfl
theorem jb_278_47 : cm_278.drop 47 = cb_278_47 := rfl
theorem jb_278_51 : cm_278.drop 51 = cb_278_51 := rfl
theorem jb_278_53 : cm_278.drop 53 = cb_278_53 := rfl
theorem jb_278_57 : cm_278.drop 57 = cb_278_57 := rfl
theorem jb_278_59 : cm_278.drop 59 = cb_278_59 := rfl
theorem jb_278_62 : cm_278.drop 62 = cb_278_62 := rfl
theorem jb_278_89 : cm_278.drop 89 = cb_278_89 := rfl
theorem jb_278_90 : cm_278.drop 90 = cb_278_90 := rfl
theorem jb_278_101 : cm_278.drop 101 = cb_278_101 := rfl
theorem jb_278_103 : cm_278.drop 103 = cb_278_103 := rfl
theorem jb_278_105 : cm_278.drop 105 = cb_278_105 := rfl
theorem jb_278_107 : cm_278.drop 107 = cb_278_107 := rfl
theorem jb_278_108 : cm_278.drop 108 = cb_278_108 := rfl
noncomputable def cm_279 : List Instr := cb_279_0
theorem en_279 {sc : Nat × (Nat → Int32)} {d : Nat} {h : fx_H} {Q : fx_R → Prop} {a0 : Nat} {a1 : Int32} {a2 : Int32} (hk : wC sc d (pg_hd 279) cm_279 cb_279_0 [.ref a0, .int a1, .int a2] [] h Q) : wM sc (d + 1) 279 [.ref a0, .int a1, .int a2] h Q := wM_enter (Nat.le_of_ble_eq_true rfl) hk
theorem jb_279_8 : cm_279.drop 8 = cb_279_8 := rfl
theorem jb_279_13 : cm_279.drop 13 = cb_279_13 := rfl
theorem jb_279_15 : cm_279.drop 15 = cb_279_15 := rfl
theorem jb_279_29 : cm_279.drop 29 = cb_279_29 := rfl
theorem jb_279_31 : cm_279.drop 31 = cb_279_31 := rfl
theorem jb_279_39 : cm_279.drop 39 = cb_279_39 := rfl
noncomputable def cm_280 : List Instr := cb_280_0
theorem en_280 {sc : Nat × (Nat → Int32)} {d : Nat} {h : fx_H} {Q : fx_R → Prop} {a0 : Nat} {a1 : Int32} (hk : wC sc d (pg_hd 280) cm_280 cb_280_0 [.ref a0, .int a1, fx_U, fx_U] [] h Q) : wM sc (d + 1) 280 [.ref a0, .int a1] h Q := wM_enter (Nat.le_of_ble_eq_true rfl) hk
theorem jb_280_4 : cm_280.drop 4 = cb_280_4 := rfl
theorem jb_280_8 : cm_280.drop 8 = cb_280_8 := rfl
theorem jb_280_19 : cm_280.drop 19 = cb_280_19 := rfl
theorem jb_280_23 : cm_280.drop 23 = cb_280_23 := rfl
theorem jb_280_24 : cm_280.drop 24 = cb_280_24 := rfl
theorem jb_280_28 : cm_280.drop 28 = cb_280_28 := rfl
noncomputable def cm_281 : List Instr := cb_281_0
theorem en_281 {sc : Nat × (Nat → Int32)} {d : Nat} {h : fx_H} {Q : fx_R → Prop} {a0 : Nat} {a1 : Int32} (hk : wC sc d (pg_hd 281) cm_281 cb_281_0 [.ref a0, .int a1] [] h Q) : wM sc (d + 1) 281 [.ref a0, .int a1] h Q := wM_enter (Nat.le_of_ble_eq_true rfl) hk
theorem jb_281_8 : cm_281.drop 8 = cb_281_8 := rfl
theorem jb_281_10 : cm_281.drop 10 = cb_281_10 := rfl
noncomputable def cm_282 : List Instr := cb_282_0
theorem en_282 {sc : Nat × (Nat → Int32)} {d : Nat} {h : fx_H} {Q : fx_R → Prop} {a0 : Nat} (hk : wC sc d (pg_hd 282) cm_282 cb_282_0 [.ref a0, fx_U, fx_U] [] h Q) : wM sc (d + 1) 282 [.ref a0] h Q := wM_enter (Nat.le_of_ble_eq_true rfl) hk
theorem jb_282_11 : cm_282.drop 11 = cb_282_11 := rfl
theorem jb_282_15 : cm_282.drop 15 = cb_282_15 := rfl
theorem jb_282_22 : cm_282.drop 22 = cb_282_22 := rfl
theorem jb_282_24 : cm_282.drop 24 = cb_282_24 := rfl
theorem jb_282_25 : cm_282.drop 25 = cb_282_25 := rfl
theorem jb_282_29 : cm_282.drop 29 = cb_282_29 := rfl
noncomputable def cm_283 : List Instr := cb_283_0
theorem en_283 {sc : Nat × (Nat → Int32)} {d : Nat} {h : fx_H} {Q : fx_R → Prop} {a0 : Nat} {a1 : Int32} {a2 : Int32} {a3 : Int32} (hk : wC sc d (pg_hd 283) cm_283 cb_283_0 [.ref a0, .int a1, .int a2, .int a3, fx_U, fx_U, fx_U] [] h Q) : wM sc (d + 1) 283 [.ref a0, .int a1, .int a2, .int a3] h Q := wM_enter (Nat.le_of_ble_eq_true rfl) hk
theorem jb_283_8 : cm_283.drop 8 = cb_283_8 := rfl
theorem jb_283_13 : cm_283.drop 13 = cb_283_13 := rfl
theorem jb_283_22 : cm_283.drop 22 = cb_283_22 := rfl
theorem jb_283_24 : cm_283.drop 24 = cb_283_24 := rfl
theorem jb_283_28 : cm_283.drop 28 = cb_283_28 := rfl
theorem jb_283_31 : cm_283.drop 31 = cb_283_31 := rfl
theorem jb_283_37 : cm_283.drop 37 = cb_283_37 := rfl
theorem jb_283_39 : cm_283.drop 39 = cb_283_39 := rfl
theorem jb_283_40 : cm_283.drop 40 = cb_283_40 := rfl
theorem jb_283_43 : cm_283.drop 43 = cb_283_43 := rfl
theorem jb_283_45 : cm_283.drop 45 = cb_283_45 := rfl
theorem jb_283_48 : cm_283.drop 48 = cb_283_48 := rfl
theorem jb_283_50 : cm_283.drop 50 = cb_283_50 := rfl
theorem jb_283_53 : cm_283.drop 53 = cb_283_53 := rfl
theorem jb_283_60 : cm_283.drop 60 = cb_283_60 := rfl
theorem jb_283_62 : cm_283.drop 62 = cb_283_62 := rfl
theorem jb_283_66 : cm_283.drop 66 = cb_283_66 := rfl
theorem jb_283_68 : cm_283.drop 68 = cb_283_68 := rfl
theorem jb_283_71 : cm_283.drop 71 = cb_283_71 := rfl
theorem jb_283_87 : cm_283.drop 87 = cb_283_87 := rfl
theorem jb_283_89 : cm_283.drop 89 = cb_283_89 := rfl
theorem jb_283_91 : cm_283.drop 91 = cb_283_91 := rfl
theorem jb_283_94 : cm_283.drop 94 = cb_283_94 := rfl
theorem jb_283_104 : cm_283.drop 104 = cb_283_104 := rfl
theorem jb_283_106 : cm_283.drop 106 = cb_283_106 := rfl
noncomputable def cm_284 : List Instr := cb_284_0
theorem en_284 {sc : Nat × (Nat → Int32)} {d : Nat} {h : fx_H} {Q : fx_R → Prop} {a0 : Nat} {a1 : Int32} {a2 : Int32} (hk : wC sc d (pg_hd 284) cm_284 cb_284_0 [.ref a0, .int a1, .int a2, fx_U, fx_U] [] h Q) : wM sc (d + 1) 284 [.ref a0, .int a1, .int a2] h Q := wM_enter (Nat.le_of_ble_eq_true rfl) hk
theorem jb_284_4 : cm_284.drop 4 = cb_284_4 := rfl
theorem jb_284_7 : cm_284.drop 7 = cb_284_7 := rfl
theorem jb_284_17 : cm_284.drop 17 = cb_284_17 := rfl
noncomputable def cm_285 : List Instr := cb_285_0
theorem en_285 {sc : Nat × (Nat → Int32)} {d : Nat} {h : fx_H} {Q : fx_R → Prop} {a0 : Nat} {a1 : Int32} {a2 : Int32} (hk : wC sc d (pg_hd 285) cm_285 cb_285_0 [.ref a0, .int a1, .int a2, fx_U, fx_U] [] h Q) : wM sc (d + 1) 285 [.ref a0, .int a1, .int a2] h Q := wM_enter (Nat.le_of_ble_eq_true rfl) hk
theorem jb_285_8 : cm_285.drop 8 = cb_285_8 := rfl
theorem jb_285_17 : cm_285.drop 17 = cb_285_17 := rfl
theorem jb_285_19 : cm_285.drop 19 = cb_285_19 := rfl
theorem jb_285_23 : cm_285.drop 23 = cb_285_23 := rfl
theorem jb_285_26 : cm_285.drop 26 = cb_285_26 := rfl
theorem jb_285_33 : cm_285.drop 33 = cb_285_33 := rfl
theorem jb_285_37 : cm_285.drop 37 = cb_285_37 := rfl
theorem jb_285_43 : cm_285.drop 43 = cb_285_43 := rfl
theorem jb_285_56 : cm_285.drop 56 = cb_285_56 := rfl
theorem jb_285_58 : cm_285.drop 58 = cb_285_58 := rfl
theorem jb_285_60 : cm_285.drop 60 = cb_285_60 := rfl
theorem jb_285_66 : cm_285.drop 66 = cb_285_66 := rfl
noncomputable def cm_286 : List Instr := cb_286_0
theorem en_286 {sc : Nat × (Nat → Int32)} {d : Nat} {h : fx_H} {Q : fx_R → Prop} {a0 : Nat} (hk : wC sc d (pg_hd 286) cm_286 cb_286_0 [.ref a0] [] h Q) : wM sc (d + 1) 286 [.ref a0] h Q := wM_enter (Nat.le_of_ble_eq_true rfl) hk
theorem jb_286_5 : cm_286.drop 5 = cb_286_5 := rfl
theorem jb_286_8 : cm_286.drop 8 = cb_286_8 := rfl
theorem jb_286_10 : cm_286.drop 10 = cb_286_10 := rfl
noncomputable def cm_287 : List Instr := cb_287_0
theorem en_287 {sc : Nat × (Nat → Int32)} {d : Nat} {h : fx_H} {Q : fx_R → Prop} {a0 : Nat} {a1 : Int32} (hk : wC sc d (pg_hd 287) cm_287 cb_287_0 [.ref a0, .int a1, fx_U, fx_U] [] h Q) : wM sc (d + 1) 287 [.ref a0, .int a1] h Q := wM_enter (Nat.le_of_ble_eq_true rfl) hk
theorem jb_287_4 : cm_287.drop 4 = cb_287_4 := rfl
theorem jb_287_8 : cm_287.drop 8 = cb_287_8 := rfl
theorem jb_287_16 : cm_287.drop 16 = cb_287_16 := rfl
theorem jb_287_18 : cm_287.drop 18 = cb_287_18 := rfl
theorem jb_287_35 : cm_287.drop 35 = cb_287_35 := rfl
theorem jb_287_37 : cm_287.drop 37 = cb_287_37 := rfl
theorem jb_287_39 : cm_287.drop 39 = cb_287_39 := rfl
noncomputable def cm_288 : List Instr := cb_288_0
theorem en_288 {sc : Nat × (Nat → Int32)} {d : Nat} {h : fx_H} {Q : fx_R → Prop} {a0 : Nat} (hk : wC sc d (pg_hd 288) cm_288 cb_288_0 [.ref a0, fx_U, fx_U] [] h Q) : wM sc (d + 1) 288 [.ref a0] h Q := wM_enter (Nat.le_of_ble_eq_true rfl) hk
theorem jb_288_4 : cm_288.drop 4 = cb_288_4 := rfl
theorem jb_288_8 : cm_288.drop 8 = cb_288_8 := rfl
theorem jb_288_13 : cm_288.drop 13 = cb_288_13 := rfl
theorem jb_288_17 : cm_288.drop 17 = cb_288_17 := rfl
theorem jb_288_18 : cm_288.drop 18 = cb_288_18 := rfl
theorem jb_288_22 : cm_288.drop 22 = cb_288_22 := rfl
noncomputable def cm_289 : List Instr := cb_289_0
theorem en_289 {sc : Nat × (Nat → Int32)} {d : Nat} {h : fx_H} {Q : fx_R → Prop} {a0 : Nat} (hk : wC sc d (pg_hd 289) cm_289 cb_289_0 [.ref a0] [] h Q) : wM sc (d + 1) 289 [.ref a0] h Q := wM_enter (Nat.le_of_ble_eq_true rfl) hk
noncomputable def cm_290 : List Instr := cb_290_0
theorem en_290 {sc : Nat × (Nat → Int32)} {d : Nat} {h : fx_H} {Q : fx_R → Prop} {a0 : Nat} {a1 : Int32} (hk : wC sc d (pg_hd 290) cm_290 cb_290_0 [.ref a0, .int a1] [] h Q) : wM sc (d + 1) 290 [.ref a0, .int a1] h Q := wM_enter (Nat.le_of_ble_eq_true rfl) hk
noncomputable def cm_291 : List Instr := cb_291_0
theorem en_291 {sc : Nat × (Nat → Int32)} {d : Nat} {h : fx_H} {Q : fx_R → Prop} {a0 : Nat} (hk : wC sc d (pg_hd 291) cm_291 cb_291_0 [.ref a0, fx_U, fx_U, fx_U] [] h Q) : wM sc (d + 1) 291 [.ref a0] h Q := wM_enter (Nat.le_of_ble_eq_true rfl) hk
theorem jb_291_12 : cm_291.drop 12 = cb_291_12 := rfl
theorem jb_291_16 : cm_291.drop 16 = cb_291_16 := rfl
theorem jb_291_24 : cm_291.drop 24 = cb_291_24 := rfl
theorem jb_291_30 : cm_291.drop 30 = cb_291_30 := rfl
theorem jb_291_31 : cm_291.drop 31 = cb_291_31 := rfl
theorem jb_291_35 : cm_291.drop 35 = cb_291_35 := rfl
noncomputable def cm_292 : List Instr := cb_292_0
theorem en_292 {sc : Nat × (Nat → Int32)} {d : Nat} {h : fx_H} {Q : fx_R → Prop} {a0 : Nat} {a1 : Int32} {a2 : Int32} (hk : wC sc d (pg_hd 292) cm_292 cb_292_0 [.ref a0, .int a1, .int a2, fx_U, fx_U, fx_U, fx_U] [] h Q) : wM sc (d + 1) 292 [.ref a0, .int a1, .int a2] h Q := wM_enter (Nat.le_of_ble_eq_true rfl) hk
theorem jb_292_2 : cm_292.drop 2 = cb_292_2 := rfl
theorem jb_292_5 : cm_292.drop 5 = cb_292_5 := rfl
theorem jb_292_12 : cm_292.drop 12 = cb_292_12 := rfl
theorem jb_292_16 : cm_292.drop 16 = cb_292_16 := rfl
theorem jb_292_20 : cm_292.drop 20 = cb_292_20 := rfl
theorem jb_292_26 : cm_292.drop 26 = cb_292_26 := rfl
theorem jb_292_27 : cm_292.drop 27 = cb_292_27 := rfl
theorem jb_292_39 : cm_292.drop 39 = cb_292_39 := rfl
theorem jb_292_41 : cm_292.drop 41 = cb_292_41 := rfl
theorem jb_292_48 : cm_292.drop 48 = cb_292_48 := rfl
theorem jb_292_63 : cm_292.drop 63 = cb_292_63 := rfl
theorem jb_292_68 : cm_292.drop 68 = cb_292_68 := rfl
theorem jb_292_69 : cm_292.drop 69 = cb_292_69 := rfl
theorem jb_292_70 : cm_292.drop 70 = cb_292_70 := rfl
theorem jb_292_72 : cm_292.drop 72 = cb_292_72 := rfl
noncomputable def cm_293 : List Instr := cb_293_0
theorem en_293 {sc : Nat × (Nat → Int32)} {d : Nat} {h : fx_H} {Q : fx_R → Prop} {a0 : Nat} {a1 : Int32} (hk : wC sc d (pg_hd 293) cm_293 cb_293_0 [.ref a0, .int a1, fx_U, fx_U, fx_U] [] h Q) : wM sc (d + 1) 293 [.ref a0, .int a1] h Q := wM_enter (Nat.le_of_ble_eq_true rfl) hk
theorem jb_293_12 : cm_293.drop 12 = cb_293_12 := rfl
theorem jb_293_14 : cm_293.drop 14 = cb_293_14 := rfl
theorem jb_293_21 : cm_293.drop 21 = cb_293_21 := rfl
theorem jb_293_23 : cm_293.drop 23 = cb_293_23 := rfl
theorem jb_293_27 : cm_293.drop 27 = cb_293_27 := rfl
theorem jb_293_30 : cm_293.drop 30 = cb_293_30 := rfl
theorem jb_293_39 : cm_293.drop 39 = cb_293_39 := rfl
theorem jb_293_41 : cm_293.drop 41 = cb_293_41 := rfl
theorem jb_293_42 : cm_293.drop 42 = cb_293_42 := rfl
theorem jb_293_45 : cm_293.drop 45 = cb_293_45 := rfl
theorem jb_293_47 : cm_293.drop 47 = cb_293_47 := rfl
theorem jb_293_49 : cm_293.drop 49 = cb_293_49 := rfl
theorem jb_293_53 : cm_293.drop 53 = cb_293_53 := rfl
noncomputable def cm_294 : List Instr := cb_294_0
theorem en_294 {sc : Nat × (Nat → Int32)} {d : Nat} {h : fx_H} {Q : fx_R → Prop} {a0 : Int64} {a1 : Int64} {a2 : Int32} (hk : wC sc d (pg_hd 294) cm_294 cb_294_0 [.long a0, fx_U, .long a1, fx_U, .int a2, fx_U, fx_U, fx_U, fx_U, fx_U, fx_U] [] h Q) : wM sc (d + 1) 294 [.long a0, .long a1, .int a2] h Q := wM_enter (Nat.le_of_ble_eq_true rfl) hk
theorem jb_294_4 : cm_294.drop 4 = cb_294_4 := rfl
theorem jb_294_8 : cm_294.drop 8 = cb_294_8 := rfl
theorem jb_294_17 : cm_294.drop 17 = cb_294_17 := rfl
theorem jb_294_19 : cm_294.drop 19 = cb_294_19 := rfl
theorem jb_294_21 : cm_294.drop 21 = cb_294_21 := rfl
theorem jb_294_22 : cm_294.drop 22 = cb_294_22 := rfl
noncomputable def cm_295 : List Instr := cb_295_0
theorem en_295 {sc : Nat × (Nat → Int32)} {d : Nat} {h : fx_H} {Q : fx_R → Prop} {a0 : Nat} {a1 : Int32} {a2 : Int32} {a3 : Int32} {a4 : Int32} {a5 : Int32} (hk : wC sc d (pg_hd 295) cm_295 cb_295_0 [.ref a0, .int a1, .int a2, .int a3, .int a4, .int a5, fx_U, fx_U, fx_U, fx_U] [] h Q) : wM sc (d + 1) 295 [.ref a0, .int a1, .int a2, .int a3, .int a4, .int a5] h Q := wM_enter (Nat.le_of_ble_eq_true rfl) hk
theorem jb_295_8 : cm_295.drop 8 = cb_295_8 := rfl
theorem jb_295_13 : cm_295.drop 13 = cb_295_13 := rfl
theorem jb_295_19 : cm_295.drop 19 = cb_295_19 := rfl
theorem jb_295_24 : cm_295.drop 24 = cb_295_24 := rfl
theorem jb_295_29 : cm_295.drop 29 = cb_295_29 := rfl
theorem jb_295_31 : cm_295.drop 31 = cb_295_31 := rfl
theorem jb_295_32 : cm_295.drop 32 = cb_295_32 := rfl
theorem jb_295_36 : cm_295.drop 36 = cb_295_36 := rfl
theorem jb_295_38 : cm_295.drop 38 = cb_295_38 := rfl
theorem jb_295_42 : cm_295.drop 42 = cb_295_42 := rfl
theorem jb_295_45 : cm_295.drop 45 = cb_295_45 := rfl
theorem jb_295_51 : cm_295.drop 51 = cb_295_51 := rfl
theorem jb_295_53 : cm_295.drop 53 = cb_295_53 := rfl
theorem jb_295_54 : cm_295.drop 54 = cb_295_54 := rfl
theorem jb_295_57 : cm_295.drop 57 = cb_295_57 := rfl
theorem jb_295_61 : cm_295.drop 61 = cb_295_61 := rfl
theorem jb_295_64 : cm_295.drop 64 = cb_295_64 := rfl
theorem jb_295_68 : cm_295.drop 68 = cb_295_68 := rfl
theorem jb_295_70 : cm_295.drop 70 = cb_295_70 := rfl
theorem jb_295_73 : cm_295.drop 73 = cb_295_73 := rfl
theorem jb_295_86 : cm_295.drop 86 = cb_295_86 := rfl
theorem jb_295_88 : cm_295.drop 88 = cb_295_88 := rfl
theorem jb_295_92 : cm_295.drop 92 = cb_295_92 := rfl
theorem jb_295_116 : cm_295.drop 116 = cb_295_116 := rfl
theorem jb_295_118 : cm_295.drop 118 = cb_295_118 := rfl
theorem jb_295_121 : cm_295.drop 121 = cb_295_121 := rfl
theorem jb_295_131 : cm_295.drop 131 = cb_295_131 := rfl
theorem jb_295_137 : cm_295.drop 137 = cb_295_137 := rfl
noncomputable def cm_296 : List Instr := cb_296_0
theorem en_296 {sc : Nat × (Nat → Int32)} {d : Nat} {h : fx_H} {Q : fx_R → Prop} {a0 : Nat} {a1 : Int32} {a2 : Int32} (hk : wC sc d (pg_hd 296) cm_296 cb_296_0 [.ref a0, .int a1, .int a2, fx_U, fx_U, fx_U, fx_U] [] h Q) : wM sc (d + 1) 296 [.ref a0, .int a1, .int a2] h Q := wM_enter (Nat.le_of_ble_eq_true rfl) hk
theorem jb_296_4 : cm_296.drop 4 = cb_296_4 := rfl
theorem jb_296_7 : cm_296.drop 7 = cb_296_7 := rfl
theorem jb_296_20 : cm_296.drop 20 = cb_296_20 := rfl
theorem jb_296_30 : cm_296.drop 30 = cb_296_30 := rfl
theorem jb_296_32 : cm_296.drop 32 = cb_296_32 := rfl
theorem jb_296_34 : cm_296.drop 34 = cb_296_34 := rfl
theorem jb_296_44 : cm_296.drop 44 = cb_296_44 := rfl
theorem jb_296_46 : cm_296.drop 46 = cb_296_46 := rfl
theorem jb_296_47 : cm_296.drop 47 = cb_296_47 := rfl
theorem jb_296_50 : cm_296.drop 50 = cb_296_50 := rfl
theorem jb_296_52 : cm_296.drop 52 = cb_296_52 := rfl
theorem jb_296_54 : cm_296.drop 54 = cb_296_54 := rfl
theorem jb_296_55 : cm_296.drop 55 = cb_296_55 := rfl
noncomputable def cm_297 : List Instr := cb_297_0
theorem en_297 {sc : Nat × (Nat → Int32)} {d : Nat} {h : fx_H} {Q : fx_R → Prop} {a0 : Nat} {a1 : Int32} {a2 : Int32} (hk : wC sc d (pg_hd 297) cm_297 cb_297_0 [.ref a0, .int a1, .int a2, fx_U, fx_U, fx_U] [] h Q) : wM sc (d + 1) 297 [.ref a0, .int a1, .int a2] h Q := wM_enter (Nat.le_of_ble_eq_true rfl) hk
theorem jb_297_8 : cm_297.drop 8 = cb_297_8 := rfl
theorem jb_297_13 : cm_297.drop 13 = cb_297_13 := rfl
theorem jb_297_15 : cm_297.drop 15 = cb_297_15 := rfl
theorem jb_297_18 : cm_297.drop 18 = cb_297_18 := rfl
theorem jb_297_20 : cm_297.drop 20 = cb_297_20 := rfl
theorem jb_297_24 : cm_297.drop 24 = cb_297_24 := rfl
theorem jb_297_27 : cm_297.drop 27 = cb_297_27 := rfl
theorem jb_297_34 : cm_297.drop 34 = cb_297_34 := rfl
theorem jb_297_36 : cm_297.drop 36 = cb_297_36 := rfl
theorem jb_297_38 : cm_297.drop 38 = cb_297_38 := rfl
theorem jb_297_42 : cm_297.drop 42 = cb_297_42 := rfl
theorem jb_297_46 : cm_297.drop 46 = cb_297_46 := rfl
theorem jb_297_48 : cm_297.drop 48 = cb_297_48 := rfl
theorem jb_297_52 : cm_297.drop 52 = cb_297_52 := rfl
theorem jb_297_55 : cm_297.drop 55 = cb_297_55 := rfl
theorem jb_297_64 : cm_297.drop 64 = cb_297_64 := rfl
theorem jb_297_65 : cm_297.drop 65 = cb_297_65 := rfl
theorem jb_297_79 : cm_297.drop 79 = cb_297_79 := rfl
theorem jb_297_88 : cm_297.drop 88 = cb_297_88 := rfl
theorem jb_297_90 : cm_297.drop 90 = cb_297_90 := rfl
theorem jb_297_91 : cm_297.drop 91 = cb_297_91 := rfl
theorem jb_297_92 : cm_297.drop 92 = cb_297_92 := rfl
theorem jb_297_94 : cm_297.drop 94 = cb_297_94 := rfl
theorem jb_297_96 : cm_297.drop 96 = cb_297_96 := rfl
theorem jb_297_97 : cm_297.drop 97 = cb_297_97 := rfl
noncomputable def cm_298 : List Instr := cb_298_0
theorem en_298 {sc : Nat × (Nat → Int32)} {d : Nat} {h : fx_H} {Q : fx_R → Prop} {a0 : Nat} {a1 : Int32} (hk : wC sc d (pg_hd 298) cm_298 cb_298_0 [.ref a0, .int a1, fx_U, fx_U, fx_U] [] h Q) : wM sc (d + 1) 298 [.ref a0, .int a1] h Q := wM_enter (Nat.le_of_ble_eq_true rfl) hk
theorem jb_298_8 : cm_298.drop 8 = cb_298_8 := rfl
theorem jb_298_10 : cm_298.drop 10 = cb_298_10 := rfl
theorem jb_298_18 : cm_298.drop 18 = cb_298_18 := rfl
theorem jb_298_22 : cm_298.drop 22 = cb_298_22 := rfl
theorem jb_298_24 : cm_298.drop 24 = cb_298_24 := rfl
theorem jb_298_27 : cm_298.drop 27 = cb_298_27 := rfl
theorem jb_298_36 : cm_298.drop 36 = cb_298_36 := rfl
theorem jb_298_38 : cm_298.drop 38 = cb_298_38 := rfl
noncomputable def cm_299 : List Instr := cb_299_0
theorem en_299 {sc : Nat × (Nat → Int32)} {d : Nat} {h : fx_H} {Q : fx_R → Prop} {a0 : Nat} {a1 : Int32} {a2 : Int32} (hk : wC sc d (pg_hd 299) cm_299 cb_299_0 [.ref a0, .int a1, .int a2, fx_U, fx_U] [] h Q) : wM sc (d + 1) 299 [.ref a0, .int a1, .int a2] h Q := wM_enter (Nat.le_of_ble_eq_true rfl) hk
theorem jb_299_8 : cm_299.drop 8 = cb_299_8 := rfl
theorem jb_299_15 : cm_299.drop 15 = cb_299_15 := rfl
theorem jb_299_17 : cm_299.drop 17 = cb_299_17 := rfl
theorem jb_299_23 : cm_299.drop 23 = cb_299_23 := rfl
theorem jb_299_27 : cm_299.drop 27 = cb_299_27 := rfl
theorem jb_299_34 : cm_299.drop 34 = cb_299_34 := rfl
theorem jb_299_38 : cm_299.drop 38 = cb_299_38 := rfl
theorem jb_299_39 : cm_299.drop 39 = cb_299_39 := rfl
theorem jb_299_43 : cm_299.drop 43 = cb_299_43 := rfl
noncomputable def cm_300 : List Instr := cb_300_0
theorem en_300 {sc : Nat × (Nat → Int32)} {d : Nat} {h : fx_H} {Q : fx_R → Prop} {a0 : Nat} (hk : wC sc d (pg_hd 300) cm_300 cb_300_0 [.ref a0, fx_U, fx_U, fx_U, fx_U] [] h Q) : wM sc (d + 1) 300 [.ref a0] h Q := wM_enter (Nat.le_of_ble_eq_true rfl) hk
theorem jb_300_9 : cm_300.drop 9 = cb_300_9 := rfl
theorem jb_300_13 : cm_300.drop 13 = cb_300_13 := rfl
theorem jb_300_17 : cm_300.drop 17 = cb_300_17 := rfl
theorem jb_300_20 : cm_300.drop 20 = cb_300_20 := rfl
theorem jb_300_22 : cm_300.drop 22 = cb_300_22 := rfl
theorem jb_300_28 : cm_300.drop 28 = cb_300_28 := rfl
theorem jb_300_30 : cm_300.drop 30 = cb_300_30 := rfl
theorem jb_300_31 : cm_300.drop 31 = cb_300_31 := rfl
theorem jb_300_34 : cm_300.drop 34 = cb_300_34 := rfl
theorem jb_300_37 : cm_300.drop 37 = cb_300_37 := rfl
theorem jb_300_41 : cm_300.drop 41 = cb_300_41 := rfl
theorem jb_300_42 : cm_300.drop 42 = cb_300_42 := rfl
theorem jb_300_46 : cm_300.drop 46 = cb_300_46 := rfl
noncomputable def cm_301 : List Instr := cb_301_0
theorem en_301 {sc : Nat × (Nat → Int32)} {d : Nat} {h : fx_H} {Q : fx_R → Prop} {a0 : Nat} (hk : wC sc d (pg_hd 301) cm_301 cb_301_0 [.ref a0, fx_U, fx_U] [] h Q) : wM sc (d + 1) 301 [.ref a0] h Q := wM_enter (Nat.le_of_ble_eq_true rfl) hk
theorem jb_301_9 : cm_301.drop 9 = cb_301_9 := rfl
theorem jb_301_12 : cm_301.drop 12 = cb_301_12 := rfl
theorem jb_301_21 : cm_301.drop 21 = cb_301_21 := rfl
theorem jb_301_23 : cm_301.drop 23 = cb_301_23 := rfl
theorem jb_301_24 : cm_301.drop 24 = cb_301_24 := rfl
theorem jb_301_28 : cm_301.drop 28 = cb_301_28 := rfl
noncomputable def cm_302 : List Instr := cb_302_0
theorem en_302 {sc : Nat × (Nat → Int32)} {d : Nat} {h : fx_H} {Q : fx_R → Prop} {a0 : Nat} {a1 : Int32} (hk : wC sc d (pg_hd 302) cm_302 cb_302_0 [.ref a0, .int a1] [] h Q) : wM sc (d + 1) 302 [.ref a0, .int a1] h Q := wM_enter (Nat.le_of_ble_eq_true rfl) hk
noncomputable def cm_303 : List Instr := cb_303_0
theorem en_303 {sc : Nat × (Nat → Int32)} {d : Nat} {h : fx_H} {Q : fx_R → Prop} {a0 : Nat} {a1 : Int32} {a2 : Int32} {a3 : Int32} (hk : wC sc d (pg_hd 303) cm_303 cb_303_0 [.ref a0, .int a1, .int a2, .int a3, fx_U] [] h Q) : wM sc (d + 1) 303 [.ref a0, .int a1, .int a2, .int a3] h Q := wM_enter (Nat.le_of_ble_eq_true rfl) hk
theorem jb_303_7 : cm_303.drop 7 = cb_303_7 := rfl
theorem jb_303_12 : cm_303.drop 12 = cb_303_12 := rfl
theorem jb_303_15 : cm_303.drop 15 = cb_303_15 := rfl
theorem jb_303_26 : cm_303.drop 26 = cb_303_26 := rfl
theorem jb_303_35 : cm_303.drop 35 = cb_303_35 := rfl
theorem jb_303_40 : cm_303.drop 40 = cb_303_40 := rfl
theorem jb_303_42 : cm_303.drop 42 = cb_303_42 := rfl
theorem jb_303_44 : cm_303.drop 44 = cb_303_44 := rfl
noncomputable def cm_304 : List Instr := cb_304_0
theorem en_304 {sc : Nat × (Nat → Int32)} {d : Nat} {h : fx_H} {Q : fx_R → Prop} {a0 : Int32} {a1 : Int32} (hk : wC sc d (pg_hd 304) cm_304 cb_304_0 [.int a0, .int a1] [] h Q) : wM sc (d + 1) 304 [.int a0, .int a1] h Q := wM_enter (Nat.le_of_ble_eq_true rfl) hk
theorem jb_304_2 : cm_304.drop 2 = cb_304_2 := rfl
theorem jb_304_5 : cm_304.drop 5 = cb_304_5 := rfl
theorem jb_304_8 : cm_304.drop 8 = cb_304_8 := rfl
theorem jb_304_11 : cm_304.drop 11 = cb_304_11 := rfl
theorem jb_304_13 : cm_304.drop 13 = cb_304_13 := rfl
theorem jb_304_14 : cm_304.drop 14 = cb_304_14 := rfl
noncomputable def cm_305 : List Instr := cb_305_0
theorem en_305 {sc : Nat × (Nat → Int32)} {d : Nat} {h : fx_H} {Q : fx_R → Prop} {a0 : Nat} {a1 : Int32} {a2 : Int32} {a3 : Int32} {a4 : Int32} (hk : wC sc d (pg_hd 305) cm_305 cb_305_0 [.ref a0, .int a1, .int a2, .int a3, .int a4] [] h Q) : wM sc (d + 1) 305 [.ref a0, .int a1, .int a2, .int a3, .int a4] h Q := wM_enter (Nat.le_of_ble_eq_true rfl) hk
theorem jb_305_8 : cm_305.drop 8 = cb_305_8 := rfl
theorem jb_305_13 : cm_305.drop 13 = cb_305_13 := rfl
theorem jb_305_15 : cm_305.drop 15 = cb_305_15 := rfl
theorem jb_305_16 : cm_305.drop 16 = cb_305_16 := rfl
theorem jb_305_20 : cm_305.drop 20 = cb_305_20 := rfl
theorem jb_305_22 : cm_305.drop 22 = cb_305_22 := rfl
theorem jb_305_29 : cm_305.drop 29 = cb_305_29 := rfl
theorem jb_305_32 : cm_305.drop 32 = cb_305_32 := rfl
theorem jb_305_35 : cm_305.drop 35 = cb_305_35 := rfl
theorem jb_305_40 : cm_305.drop 40 = cb_305_40 := rfl
theorem jb_305_43 : cm_305.drop 43 = cb_305_43 := rfl
theorem jb_305_53 : cm_305.drop 53 = cb_305_53 := rfl
theorem jb_305_55 : cm_305.drop 55 = cb_305_55 := rfl
noncomputable def cm_306 : List Instr := cb_306_0
theorem en_306 {sc : Nat × (Nat → Int32)} {d : Nat} {h : fx_H} {Q : fx_R → Prop} {a0 : Nat} {a1 : Int32} {a2 : Int32} {a3 : Int32} {a4 : Int32} {a5 : Int32} {a6 : Int32} (hk : wC sc d (pg_hd 306) cm_306 cb_306_0 [.ref a0, .int a1, .int a2, .int a3, .int a4, .int a5, .int a6, fx_U, fx_U, fx_U, fx_U, fx_U] [] h Q) : wM sc (d + 1) 306 [.ref a0, .int a1, .int a2, .int a3, .int a4, .int a5, .int a6] h Q := wM_enter (Nat.le_of_ble_eq_true rfl) hk
theorem jb_306_9 : cm_306.drop 9 = cb_306_9 := rfl
theorem jb_306_13 : cm_306.drop 13 = cb_306_13 := rfl
theorem jb_306_18 : cm_306.drop 18 = cb_306_18 := rfl
theorem jb_306_26 : cm_306.drop 26 = cb_306_26 := rfl
theorem jb_306_28 : cm_306.drop 28 = cb_306_28 := rfl
theorem jb_306_29 : cm_306.drop 29 = cb_306_29 := rfl
theorem jb_306_33 : cm_306.drop 33 = cb_306_33 := rfl
theorem jb_306_35 : cm_306.drop 35 = cb_306_35 := rfl
theorem jb_306_43 : cm_306.drop 43 = cb_306_43 := rfl
theorem jb_306_46 : cm_306.drop 46 = cb_306_46 := rfl
theorem jb_306_66 : cm_306.drop 66 = cb_306_66 := rfl
theorem jb_306_69 : cm_306.drop 69 = cb_306_69 := rfl
theorem jb_306_71 : cm_306.drop 71 = cb_306_71 := rfl
theorem jb_306_72 : cm_306.drop 72 = cb_306_72 := rfl
theorem jb_306_76 : cm_306.drop 76 = cb_306_76 := rfl
theorem jb_306_78 : cm_306.drop 78 = cb_306_78 := rfl
theorem jb_306_79 : cm_306.drop 79 = cb_306_79 := rfl
theorem jb_306_85 : cm_306.drop 85 = cb_306_85 := rfl
theorem jb_306_87 : cm_306.drop 87 = cb_306_87 := rfl
theorem jb_306_88 : cm_306.drop 88 = cb_306_88 := rfl
theorem jb_306_92 : cm_306.drop 92 = cb_306_92 := rfl
theorem jb_306_94 : cm_306.drop 94 = cb_306_94 := rfl
theorem jb_306_96 : cm_306.drop 96 = cb_306_96 := rfl
theorem jb_306_99 : cm_306.drop 99 = cb_306_99 := rfl
theorem jb_306_101 : cm_306.drop 101 = cb_306_101 := rfl
theorem jb_306_102 : cm_306.drop 102 = cb_306_102 := rfl
noncomputable def cm_307 : List Instr := cb_307_0
theorem en_307 {sc : Nat × (Nat → Int32)} {d : Nat} {h : fx_H} {Q : fx_R → Prop} {a0 : Nat} {a1 : Int32} {a2 : Nat} {a3 : Int32} {a4 : Int32} (hk : wC sc d (pg_hd 307) cm_307 cb_307_0 [.ref a0, .int a1, .ref a2, .int a3, .int a4, fx_U] [] h Q) : wM sc (d + 1) 307 [.ref a0, .int a1, .ref a2, .int a3, .int a4] h Q := wM_enter (Nat.le_of_ble_eq_true rfl) hk
theorem jb_307_2 : cm_307.drop 2 = cb_307_2 := rfl
theorem jb_307_5 : cm_307.drop 5 = cb_307_5 := rfl
theorem jb_307_7 : cm_307.drop 7 = cb_307_7 := rfl
theorem jb_307_17 : cm_307.drop 17 = cb_307_17 := rfl
theorem jb_307_26 : cm_307.drop 26 = cb_307_26 := rfl
theorem jb_307_28 : cm_307.drop 28 = cb_307_28 := rfl
noncomputable def cm_308 : List Instr := cb_308_0
theorem en_308 {sc : Nat × (Nat → Int32)} {d : Nat} {h : fx_H} {Q : fx_R → Prop} {a0 : Nat} {a1 : Int32} {a2 : Int32} (hk : wC sc d (pg_hd 308) cm_308 cb_308_0 [.ref a0, .int a1, .int a2, fx_U] [] h Q) : wM sc (d + 1) 308 [.ref a0, .int a1, .int a2] h Q := wM_enter (Nat.le_of_ble_eq_true rfl) hk
theorem jb_308_20 : cm_308.drop 20 = cb_308_20 := rfl
theorem jb_308_27 : cm_308.drop 27 = cb_308_27 := rfl
theorem jb_308_33 : cm_308.drop 33 = cb_308_33 := rfl
noncomputable def cm_309 : List Instr := cb_309_0
theorem en_309 {sc : Nat × (Nat → Int32)} {d : Nat} {h : fx_H} {Q : fx_R → Prop} {a0 : Nat} (hk : wC sc d (pg_hd 309) cm_309 cb_309_0 [.ref a0] [] h Q) : wM sc (d + 1) 309 [.ref a0] h Q := wM_enter (Nat.le_of_ble_eq_true rfl) hk
theorem jb_309_7 : cm_309.drop 7 = cb_309_7 := rfl
theorem jb_309_9 : cm_309.drop 9 = cb_309_9 := rfl
noncomputable def cm_310 : List Instr := cb_310_0
theorem en_310 {sc : Nat × (Nat → Int32)} {d : Nat} {h : fx_H} {Q : fx_R → Prop} {a0 : Nat} (hk : wC sc d (pg_hd 310) cm_310 cb_310_0 [.ref a0] [] h Q) : wM sc (d + 1) 310 [.ref a0] h Q := wM_enter (Nat.le_of_ble_eq_true rfl) hk
theorem jb_310_6 : cm_310.drop 6 = cb_310_6 := rfl
theorem jb_310_8 : cm_310.drop 8 = cb_310_8 := rfl
noncomputable def cm_311 : List Instr := cb_311_0
theorem en_311 {sc : Nat × (Nat → Int32)} {d : Nat} {h : fx_H} {Q : fx_R → Prop} {a0 : Nat} {a1 : Int32} (hk : wC sc d (pg_hd 311) cm_311 cb_311_0 [.ref a0, .int a1] [] h Q) : wM sc (d + 1) 311 [.ref a0, .int a1] h Q := wM_enter (Nat.le_of_ble_eq_true rfl) hk
theorem jb_311_8 : cm_311.drop 8 = cb_311_8 := rfl
theorem jb_311_13 : cm_311.drop 13 = cb_311_13 := rfl
theorem jb_311_14 : cm_311.drop 14 = cb_311_14 := rfl
noncomputable def cm_312 : List Instr := cb_312_0
theorem en_312 {sc : Nat × (Nat → Int32)} {d : Nat} {h : fx_H} {Q : fx_R → Prop} {a0 : Nat} {a1 : Int32} (hk : wC sc d (pg_hd 312) cm_312 cb_312_0 [.ref a0, .int a1] [] h Q) : wM sc (d + 1) 312 [.ref a0, .int a1] h Q := wM_enter (Nat.le_of_ble_eq_true rfl) hk
theorem jb_312_5 : cm_312.drop 5 = cb_312_5 := rfl
theorem jb_312_8 : cm_312.drop 8 = cb_312_8 := rfl
theorem jb_312_11 : cm_312.drop 11 = cb_312_11 := rfl
theorem jb_312_14 : cm_312.drop 14 = cb_312_14 := rfl
theorem jb_312_17 : cm_312.drop 17 = cb_312_17 := rfl
theorem jb_312_20 : cm_312.drop 20 = cb_312_20 := rfl
theorem jb_312_21 : cm_312.drop 21 = cb_312_21 := rfl
noncomputable def cm_313 : List Instr := cb_313_0
theorem en_313 {sc : Nat × (Nat → Int32)} {d : Nat} {h : fx_H} {Q : fx_R → Prop} {a0 : Nat} {a1 : Int32} {a2 : Nat} (hk : wC sc d (pg_hd 313) cm_313 cb_313_0 [.ref a0, .int a1, .ref a2, fx_U] [] h Q) : wM sc (d + 1) 313 [.ref a0, .int a1, .ref a2] h Q := wM_enter (Nat.le_of_ble_eq_true rfl) hk
theorem jb_313_8 : cm_313.drop 8 = cb_313_8 := rfl
theorem jb_313_9 : cm_313.drop 9 = cb_313_9 := rfl
theorem jb_313_11 : cm_313.drop 11 = cb_313_11 := rfl
noncomputable def cm_314 : List Instr := cb_314_0
theorem en_314 {sc : Nat × (Nat → Int32)} {d : Nat} {h : fx_H} {Q : fx_R → Prop} {a0 : Nat} {a1 : Int32} {a2 : Nat} (hk : wC sc d (pg_hd 314) cm_314 cb_314_0 [.ref a0, .int a1, .ref a2, fx_U] [] h Q) : wM sc (d + 1) 314 [.ref a0, .int a1, .ref a2] h Q := wM_enter (Nat.le_of_ble_eq_true rfl) hk
theorem jb_314_8 : cm_314.drop 8 = cb_314_8 := rfl
theorem jb_314_9 : cm_314.drop 9 = cb_314_9 := rfl
theorem jb_314_11 : cm_314.drop 11 = cb_314_11 := rfl
noncomputable def cm_315 : List Instr := cb_315_0
theorem en_315 {sc : Nat × (Nat → Int32)} {d : Nat} {h : fx_H} {Q : fx_R → Prop} {a0 : Nat} {a1 : Int32} {a2 : Nat} (hk : wC sc d (pg_hd 315) cm_315 cb_315_0 [.ref a0, .int a1, .ref a2, fx_U] [] h Q) : wM sc (d + 1) 315 [.ref a0, .int a1, .ref a2] h Q := wM_enter (Nat.le_of_ble_eq_true rfl) hk
theorem jb_315_8 : cm_315.drop 8 = cb_315_8 := rfl
theorem jb_315_9 : cm_315.drop 9 = cb_315_9 := rfl
theorem jb_315_11 : cm_315.drop 11 = cb_315_11 := rfl
noncomputable def cm_316 : List Instr := cb_316_0
theorem en_316 {sc : Nat × (Nat → Int32)} {d : Nat} {h : fx_H} {Q : fx_R → Prop} {a0 : Nat} {a1 : Int32} {a2 : Nat} (hk : wC sc d (pg_hd 316) cm_316 cb_316_0 [.ref a0, .int a1, .ref a2, fx_U] [] h Q) : wM sc (d + 1) 316 [.ref a0, .int a1, .ref a2] h Q := wM_enter (Nat.le_of_ble_eq_true rfl) hk
theorem jb_316_8 : cm_316.drop 8 = cb_316_8 := rfl
theorem jb_316_9 : cm_316.drop 9 = cb_316_9 := rfl
theorem jb_316_11 : cm_316.drop 11 = cb_316_11 := rfl
noncomputable def cm_317 : List Instr := cb_317_0
theorem en_317 {sc : Nat × (Nat → Int32)} {d : Nat} {h : fx_H} {Q : fx_R → Prop} {a0 : Nat} {a1 : Int32} {a2 : Nat} (hk : wC sc d (pg_hd 317) cm_317 cb_317_0 [.ref a0, .int a1, .ref a2, fx_U] [] h Q) : wM sc (d + 1) 317 [.ref a0, .int a1, .ref a2] h Q := wM_enter (Nat.le_of_ble_eq_true rfl) hk
theorem jb_317_8 : cm_317.drop 8 = cb_317_8 := rfl
theorem jb_317_9 : cm_317.drop 9 = cb_317_9 := rfl
theorem jb_317_11 : cm_317.drop 11 = cb_317_11 := rfl
noncomputable def cm_318 : List Instr := cb_318_0
theorem en_318 {sc : Nat × (Nat → Int32)} {d : Nat} {h : fx_H} {Q : fx_R → Prop} {a0 : Nat} {a1 : Int32} {a2 : Nat} (hk : wC sc d (pg_hd 318) cm_318 cb_318_0 [.ref a0, .int a1, .ref a2, fx_U] [] h Q) : wM sc (d + 1) 318 [.ref a0, .int a1, .ref a2] h Q := wM_enter (Nat.le_of_ble_eq_true rfl) hk
theorem jb_318_8 : cm_318.drop 8 = cb_318_8 := rfl
theorem jb_318_9 : cm_318.drop 9 = cb_318_9 := rfl
theorem jb_318_11 : cm_318.drop 11 = cb_318_11 := rfl
noncomputable def cm_319 : List Instr := cb_319_0
theorem en_319 {sc : Nat × (Nat → Int32)} {d : Nat} {h : fx_H} {Q : fx_R → Prop} {a0 : Nat} {a1 : Int32} {a2 : Int32} {a3 : Nat} (hk : wC sc d (pg_hd 319) cm_319 cb_319_0 [.ref a0, .int a1, .int a2, .ref a3, fx_U] [] h Q) : wM sc (d + 1) 319 [.ref a0, .int a1, .int a2, .ref a3] h Q := wM_enter (Nat.le_of_ble_eq_true rfl) hk
theorem jb_319_9 : cm_319.drop 9 = cb_319_9 := rfl
theorem jb_319_10 : cm_319.drop 10 = cb_319_10 := rfl
theorem jb_319_12 : cm_319.drop 12 = cb_319_12 := rfl
theorem jb_319_13 : cm_319.drop 13 = cb_319_13 := rfl
theorem jb_319_15 : cm_319.drop 15 = cb_319_15 := rfl
noncomputable def cm_320 : List Instr := cb_320_0
theorem en_320 {sc : Nat × (Nat → Int32)} {d : Nat} {h : fx_H} {Q : fx_R → Prop} {a0 : Nat} {a1 : Int32} {a2 : Int32} {a3 : Nat} (hk : wC sc d (pg_hd 320) cm_320 cb_320_0 [.ref a0, .int a1, .int a2, .ref a3, fx_U] [] h Q) : wM sc (d + 1) 320 [.ref a0, .int a1, .int a2, .ref a3] h Q := wM_enter (Nat.le_of_ble_eq_true rfl) hk
theorem jb_320_9 : cm_320.drop 9 = cb_320_9 := rfl
theorem jb_320_10 : cm_320.drop 10 = cb_320_10 := rfl
theorem jb_320_12 : cm_320.drop 12 = cb_320_12 := rfl
theorem jb_320_13 : cm_320.drop 13 = cb_320_13 := rfl
theorem jb_320_15 : cm_320.drop 15 = cb_320_15 := rfl
noncomputable def cm_321 : List Instr := cb_321_0
theorem en_321 {sc : Nat × (Nat → Int32)} {d : Nat} {h : fx_H} {Q : fx_R → Prop} {a0 : Nat} {a1 : Int32} {a2 : Int32} {a3 : Nat} (hk : wC sc d (pg_hd 321) cm_321 cb_321_0 [.ref a0, .int a1, .int a2, .ref a3, fx_U] [] h Q) : wM sc (d + 1) 321 [.ref a0, .int a1, .int a2, .ref a3] h Q := wM_enter (Nat.le_of_ble_eq_true rfl) hk
theorem jb_321_9 : cm_321.drop 9 = cb_321_9 := rfl
theorem jb_321_10 : cm_321.drop 10 = cb_321_10 := rfl
theorem jb_321_12 : cm_321.drop 12 = cb_321_12 := rfl
theorem jb_321_13 : cm_321.drop 13 = cb_321_13 := rfl
theorem jb_321_15 : cm_321.drop 15 = cb_321_15 := rfl
noncomputable def cm_322 : List Instr := cb_322_0
theorem en_322 {sc : Nat × (Nat → Int32)} {d : Nat} {h : fx_H} {Q : fx_R → Prop} {a0 : Nat} {a1 : Int32} {a2 : Nat} (hk : wC sc d (pg_hd 322) cm_322 cb_322_0 [.ref a0, .int a1, .ref a2, fx_U] [] h Q) : wM sc (d + 1) 322 [.ref a0, .int a1, .ref a2] h Q := wM_enter (Nat.le_of_ble_eq_true rfl) hk
theorem jb_322_8 : cm_322.drop 8 = cb_322_8 := rfl
theorem jb_322_9 : cm_322.drop 9 = cb_322_9 := rfl
theorem jb_322_11 : cm_322.drop 11 = cb_322_11 := rfl
noncomputable def cm_323 : List Instr := cb_323_0
theorem en_323 {sc : Nat × (Nat → Int32)} {d : Nat} {h : fx_H} {Q : fx_R → Prop} {a0 : Nat} {a1 : Int32} {a2 : Int32} {a3 : Int32} {a4 : Int32} {a5 : Int32} {a6 : Int32} {a7 : Int32} {a8 : Nat} (hk : wC sc d (pg_hd 323) cm_323 cb_323_0 [.ref a0, .int a1, .int a2, .int a3, .int a4, .int a5, .int a6, .int a7, .ref a8, fx_U] [] h Q) : wM sc (d + 1) 323 [.ref a0, .int a1, .int a2, .int a3, .int a4, .int a5, .int a6, .int a7, .ref a8] h Q := wM_enter (Nat.le_of_ble_eq_true rfl) hk
theorem jb_323_14 : cm_323.drop 14 = cb_323_14 := rfl
theorem jb_323_15 : cm_323.drop 15 = cb_323_15 := rfl
theorem jb_323_17 : cm_323.drop 17 = cb_323_17 := rfl
noncomputable def cm_324 : List Instr := cb_324_0
theorem en_324 {sc : Nat × (Nat → Int32)} {d : Nat} {h : fx_H} {Q : fx_R → Prop} {a0 : Nat} {a1 : Int32} {a2 : Int32} {a3 : Nat} (hk : wC sc d (pg_hd 324) cm_324 cb_324_0 [.ref a0, .int a1, .int a2, .ref a3, fx_U] [] h Q) : wM sc (d + 1) 324 [.ref a0, .int a1, .int a2, .ref a3] h Q := wM_enter (Nat.le_of_ble_eq_true rfl) hk
theorem jb_324_9 : cm_324.drop 9 = cb_324_9 := rfl
theorem jb_324_10 : cm_324.drop 10 = cb_324_10 := rfl
theorem jb_324_12 : cm_324.drop 12 = cb_324_12 := rfl
noncomputable def cm_325 : List Instr := cb_325_0
theorem en_325 {sc : Nat × (Nat → Int32)} {d : Nat} {h : fx_H} {Q : fx_R → Prop} {a0 : Nat} {a1 : Int32} {a2 : Nat} (hk : wC sc d (pg_hd 325) cm_325 cb_325_0 [.ref a0, .int a1, .ref a2, fx_U] [] h Q) : wM sc (d + 1) 325 [.ref a0, .int a1, .ref a2] h Q := wM_enter (Nat.le_of_ble_eq_true rfl) hk
theorem jb_325_8 : cm_325.drop 8 = cb_325_8 := rfl
theorem jb_325_9 : cm_325.drop 9 = cb_325_9 := rfl
theorem jb_325_11 : cm_325.drop 11 = cb_325_11 := rfl
noncomputable def cm_326 : List Instr := cb_326_0
theorem en_326 {sc : Nat × (Nat → Int32)} {d : Nat} {h : fx_H} {Q : fx_R → Prop} {a0 : Nat} {a1 : Int32} {a2 : Int32} {a3 : Nat} (hk : wC sc d (pg_hd 326) cm_326 cb_326_0 [.ref a0, .int a1, .int a2, .ref a3, fx_U] [] h Q) : wM sc (d + 1) 326 [.ref a0, .int a1, .int a2, .ref a3] h Q := wM_enter (Nat.le_of_ble_eq_true rfl) hk
theorem jb_326_9 : cm_326.drop 9 = cb_326_9 := rfl
theorem jb_326_10 : cm_326.drop 10 = cb_326_10 := rfl
theorem jb_326_12 : cm_326.drop 12 = cb_326_12 := rfl
noncomputable def cm_327 : List Instr := cb_327_0
theorem en_327 {sc : Nat × (Nat → Int32)} {d : Nat} {h : fx_H} {Q : fx_R → Prop} {a0 : Nat} {a1 : Int32} {a2 : Int32} {a3 : Nat} (hk : wC sc d (pg_hd 327) cm_327 cb_327_0 [.ref a0, .int a1, .int a2, .ref a3, fx_U] [] h Q) : wM sc (d + 1) 327 [.ref a0, .int a1, .int a2, .ref a3] h Q := wM_enter (Nat.le_of_ble_eq_true rfl) hk
theorem jb_327_9 : cm_327.drop 9 = cb_327_9 := rfl
theorem jb_327_10 : cm_327.drop 10 = cb_327_10 := rfl
theorem jb_327_12 : cm_327.drop 12 = cb_327_12 := rfl
noncomputable def cm_328 : List Instr := cb_328_0
theorem en_328 {sc : Nat × (Nat → Int32)} {d : Nat} {h : fx_H} {Q : fx_R → Prop} {a0 : Nat} {a1 : Int32} {a2 : Int32} {a3 : Nat} (hk : wC sc d (pg_hd 328) cm_328 cb_328_0 [.ref a0, .int a1, .int a2, .ref a3, fx_U] [] h Q) : wM sc (d + 1) 328 [.ref a0, .int a1, .int a2, .ref a3] h Q := wM_enter (Nat.le_of_ble_eq_true rfl) hk
theorem jb_328_9 : cm_328.drop 9 = cb_328_9 := rfl
theorem jb_328_10 : cm_328.drop 10 = cb_328_10 := rfl
theorem jb_328_12 : cm_328.drop 12 = cb_328_12 := rfl
theorem jb_328_13 : cm_328.drop 13 = cb_328_13 := rfl
theorem jb_328_15 : cm_328.drop 15 = cb_328_15 := rfl
noncomputable def cm_329 : List Instr := cb_329_0
theorem en_329 {sc : Nat × (Nat → Int32)} {d : Nat} {h : fx_H} {Q : fx_R → Prop} {a0 : Nat} {a1 : Int32} {a2 : Nat} (hk : wC sc d (pg_hd 329) cm_329 cb_329_0 [.ref a0, .int a1, .ref a2, fx_U] [] h Q) : wM sc (d + 1) 329 [.ref a0, .int a1, .ref a2] h Q := wM_enter (Nat.le_of_ble_eq_true rfl) hk
theorem jb_329_8 : cm_329.drop 8 = cb_329_8 := rfl
theorem jb_329_9 : cm_329.drop 9 = cb_329_9 := rfl
theorem jb_329_11 : cm_329.drop 11 = cb_329_11 := rfl
noncomputable def cm_330 : List Instr := cb_330_0
theorem en_330 {sc : Nat × (Nat → Int32)} {d : Nat} {h : fx_H} {Q : fx_R → Prop} {a0 : Nat} {a1 : Int32} {a2 : Int32} {a3 : Nat} (hk : wC sc d (pg_hd 330) cm_330 cb_330_0 [.ref a0, .int a1, .int a2, .ref a3, fx_U] [] h Q) : wM sc (d + 1) 330 [.ref a0, .int a1, .int a2, .ref a3] h Q := wM_enter (Nat.le_of_ble_eq_true rfl) hk
theorem jb_330_9 : cm_330.drop 9 = cb_330_9 := rfl
theorem jb_330_10 : cm_330.drop 10 = cb_330_10 := rfl
theorem jb_330_12 : cm_330.drop 12 = cb_330_12 := rfl
noncomputable def cm_331 : List Instr := cb_331_0
theorem en_331 {sc : Nat × (Nat → Int32)} {d : Nat} {h : fx_H} {Q : fx_R → Prop} {a0 : Nat} {a1 : Int32} {a2 : Nat} (hk : wC sc d (pg_hd 331) cm_331 cb_331_0 [.ref a0, .int a1, .ref a2, fx_U] [] h Q) : wM sc (d + 1) 331 [.ref a0, .int a1, .ref a2] h Q := wM_enter (Nat.le_of_ble_eq_true rfl) hk
theorem jb_331_8 : cm_331.drop 8 = cb_331_8 := rfl
theorem jb_331_9 : cm_331.drop 9 = cb_331_9 := rfl
theorem jb_331_11 : cm_331.drop 11 = cb_331_11 := rfl
noncomputable def cm_332 : List Instr := cb_332_0
theorem en_332 {sc : Nat × (Nat → Int32)} {d : Nat} {h : fx_H} {Q : fx_R → Prop} {a0 : Nat} {a1 : Int32} {a2 : Int32} {a3 : Int32} {a4 : Nat} (hk : wC sc d (pg_hd 332) cm_332 cb_332_0 [.ref a0, .int a1, .int a2, .int a3, .ref a4, fx_U] [] h Q) : wM sc (d + 1) 332 [.ref a0, .int a1, .int a2, .int a3, .ref a4] h Q := wM_enter (Nat.le_of_ble_eq_true rfl) hk
theorem jb_332_9 : cm_332.drop 9 = cb_332_9 := rfl
theorem jb_332_10 : cm_332.drop 10 = cb_332_10 := rfl
theorem jb_332_12 : cm_332.drop 12 = cb_332_12 := rfl
theorem jb_332_13 : cm_332.drop 13 = cb_332_13 := rfl
theorem jb_332_15 : cm_332.drop 15 = cb_332_15 := rfl
noncomputable def cm_333 : List Instr := cb_333_0
theorem en_333 {sc : Nat × (Nat → Int32)} {d : Nat} {h : fx_H} {Q : fx_R → Prop} {a0 : Nat} {a1 : Int32} {a2 : Int32} {a3 : Nat} (hk : wC sc d (pg_hd 333) cm_333 cb_333_0 [.ref a0, .int a1, .int a2, .ref a3, fx_U] [] h Q) : wM sc (d + 1) 333 [.ref a0, .int a1, .int a2, .ref a3] h Q := wM_enter (Nat.le_of_ble_eq_true rfl) hk
theorem jb_333_9 : cm_333.drop 9 = cb_333_9 := rfl
theorem jb_333_10 : cm_333.drop 10 = cb_333_10 := rfl
theorem jb_333_12 : cm_333.drop 12 = cb_333_12 := rfl
theorem jb_333_13 : cm_333.drop 13 = cb_333_13 := rfl
theorem jb_333_15 : cm_333.drop 15 = cb_333_15 := rfl
noncomputable def cm_334 : List Instr := cb_334_0
theorem en_334 {sc : Nat × (Nat → Int32)} {d : Nat} {h : fx_H} {Q : fx_R → Prop} {a0 : Nat} {a1 : Int32} {a2 : Nat} (hk : wC sc d (pg_hd 334) cm_334 cb_334_0 [.ref a0, .int a1, .ref a2, fx_U] [] h Q) : wM sc (d + 1) 334 [.ref a0, .int a1, .ref a2] h Q := wM_enter (Nat.le_of_ble_eq_true rfl) hk
theorem jb_334_8 : cm_334.drop 8 = cb_334_8 := rfl
theorem jb_334_9 : cm_334.drop 9 = cb_334_9 := rfl
theorem jb_334_11 : cm_334.drop 11 = cb_334_11 := rfl
noncomputable def cm_335 : List Instr := cb_335_0
theorem en_335 {sc : Nat × (Nat → Int32)} {d : Nat} {h : fx_H} {Q : fx_R → Prop} {a0 : Nat} {a1 : Int32} {a2 : Int32} {a3 : Int32} {a4 : Int32} {a5 : Int32} {a6 : Nat} (hk : wC sc d (pg_hd 335) cm_335 cb_335_0 [.ref a0, .int a1, .int a2, .int a3, .int a4, .int a5, .ref a6, fx_U] [] h Q) : wM sc (d + 1) 335 [.ref a0, .int a1, .int a2, .int a3, .int a4, .int a5, .ref a6] h Q := wM_enter (Nat.le_of_ble_eq_true rfl) hk
theorem jb_335_11 : cm_335.drop 11 = cb_335_11 := rfl
theorem jb_335_12 : cm_335.drop 12 = cb_335_12 := rfl
theorem jb_335_14 : cm_335.drop 14 = cb_335_14 := rfl
theorem jb_335_15 : cm_335.drop 15 = cb_335_15 := rfl
theorem jb_335_17 : cm_335.drop 17 = cb_335_17 := rfl
noncomputable def cm_336 : List Instr := cb_336_0
theorem en_336 {sc : Nat × (Nat → Int32)} {d : Nat} {h : fx_H} {Q : fx_R → Prop} {a0 : Nat} {a1 : Int32} {a2 : Int32} {a3 : Nat} (hk : wC sc d (pg_hd 336) cm_336 cb_336_0 [.ref a0, .int a1, .int a2, .ref a3, fx_U] [] h Q) : wM sc (d + 1) 336 [.ref a0, .int a1, .int a2, .ref a3] h Q := wM_enter (Nat.le_of_ble_eq_true rfl) hk
theorem jb_336_9 : cm_336.drop 9 = cb_336_9 := rfl
theorem jb_336_10 : cm_336.drop 10 = cb_336_10 := rfl
theorem jb_336_12 : cm_336.drop 12 = cb_336_12 := rfl
noncomputable def cm_337 : List Instr := cb_337_0
theorem en_337 {sc : Nat × (Nat → Int32)} {d : Nat} {h : fx_H} {Q : fx_R → Prop} {a0 : Nat} {a1 : Int32} {a2 : Nat} (hk : wC sc d (pg_hd 337) cm_337 cb_337_0 [.ref a0, .int a1, .ref a2, fx_U] [] h Q) : wM sc (d + 1) 337 [.ref a0, .int a1, .ref a2] h Q := wM_enter (Nat.le_of_ble_eq_true rfl) hk
theorem jb_337_8 : cm_337.drop 8 = cb_337_8 := rfl
theorem jb_337_9 : cm_337.drop 9 = cb_337_9 := rfl
theorem jb_337_11 : cm_337.drop 11 = cb_337_11 := rfl
noncomputable def cm_338 : List Instr := cb_338_0
theorem en_338 {sc : Nat × (Nat → Int32)} {d : Nat} {h : fx_H} {Q : fx_R → Prop} {a0 : Nat} {a1 : Int32} {a2 : Int32} {a3 : Nat} (hk : wC sc d (pg_hd 338) cm_338 cb_338_0 [.ref a0, .int a1, .int a2, .ref a3, fx_U] [] h Q) : wM sc (d + 1) 338 [.ref a0, .int a1, .int a2, .ref a3] h Q := wM_enter (Nat.le_of_ble_eq_true rfl) hk
theorem jb_338_9 : cm_338.drop 9 = cb_338_9 := rfl
theorem jb_338_10 : cm_338.drop 10 = cb_338_10 := rfl
theorem jb_338_12 : cm_338.drop 12 = cb_338_12 := rfl
theorem jb_338_13 : cm_338.drop 13 = cb_338_13 := rfl
theorem jb_338_15 : cm_338.drop 15 = cb_338_15 := rfl
noncomputable def cm_339 : List Instr := cb_339_0
theorem en_339 {sc : Nat × (Nat → Int32)} {d : Nat} {h : fx_H} {Q : fx_R → Prop} {a0 : Nat} {a1 : Int32} {a2 : Int32} {a3 : Int32} {a4 : Int32} {a5 : Nat} (hk : wC sc d (pg_hd 339) cm_339 cb_339_0 [.ref a0, .int a1, .int a2, .int a3, .int a4, .ref a5, fx_U] [] h Q) : wM sc (d + 1) 339 [.ref a0, .int a1, .int a2, .int a3, .int a4, .ref a5] h Q := wM_enter (Nat.le_of_ble_eq_true rfl) hk
theorem jb_339_11 : cm_339.drop 11 = cb_339_11 := rfl
theorem jb_339_12 : cm_339.drop 12 = cb_339_12 := rfl
theorem jb_339_14 : cm_339.drop 14 = cb_339_14 := rfl
noncomputable def cm_340 : List Instr := cb_340_0
theorem en_340 {sc : Nat × (Nat → Int32)} {d : Nat} {h : fx_H} {Q : fx_R → Prop} {a0 : Nat} {a1 : Int32} {a2 : Int32} {a3 : Int32} {a4 : Int32} {a5 : Int32} {a6 : Int32} {a7 : Nat} (hk : wC sc d (pg_hd 340) cm_340 cb_340_0 [.ref a0, .int a1, .int a2, .int a3, .int a4, .int a5, .int a6, .ref a7, fx_U] [] h Q) : wM sc (d + 1) 340 [.ref a0, .int a1, .int a2, .int a3, .int a4, .int a5, .int a6, .ref a7] h Q := wM_enter (Nat.le_of_ble_eq_true rfl) hk
theorem jb_340_13 : cm_340.drop 13 = cb_340_13 := rfl
theorem jb_340_14 : cm_340.drop 14 = cb_340_14 := rfl
theorem jb_340_16 : cm_340.drop 16 = cb_340_16 := rfl
