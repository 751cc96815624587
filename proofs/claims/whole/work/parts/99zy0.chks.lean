/-! ===== the checks, method by method (by wip/whole/mk_checks.py) ===== -/
set_option maxRecDepth 100000 in
set_option maxHeartbeats 4000000 in
theorem pk_0 : pg_chk 16 false (some .int) prog_20_method_49_code pp_0 0 cb_0_0 pp_0 = true := by decide +kernel
set_option maxRecDepth 100000 in
set_option maxHeartbeats 4000000 in
theorem pk_1 : pg_chk 20 false none prog_29_method_101_code pp_1 0 cb_1_0 pp_1 = true := by decide +kernel
set_option maxRecDepth 100000 in
set_option maxHeartbeats 4000000 in
theorem pk_2 : pg_chk 20 false none prog_29_method_103_code pp_2 0 cb_2_0 pp_2 = true := by decide +kernel
set_option maxRecDepth 100000 in
set_option maxHeartbeats 4000000 in
theorem pk_3 : pg_chk 21 false (some .int) prog_31_method_11_code pp_3 0 cb_3_0 pp_3 = true := by decide +kernel
set_option maxRecDepth 100000 in
set_option maxHeartbeats 4000000 in
theorem pk_4 : pg_chk 18 false (some .int) prog_23_method_54_code pp_4 0 cb_4_0 pp_4 = true := by decide +kernel
set_option maxRecDepth 100000 in
set_option maxHeartbeats 4000000 in
theorem pk_5 : pg_chk 18 false (some .char) prog_23_method_56_code pp_5 0 cb_5_0 pp_5 = true := by decide +kernel
set_option maxRecDepth 100000 in
set_option maxHeartbeats 4000000 in
theorem pk_6 : pg_chk 18 false (some .byte) prog_23_method_152_code pp_6 0 cb_6_0 pp_6 = true := by decide +kernel
set_option maxRecDepth 100000 in
set_option maxHeartbeats 4000000 in
theorem pk_7 : pg_chk 18 false (some .boolean) prog_23_method_154_code pp_7 0 cb_7_0 pp_7 = true := by decide +kernel
set_option maxRecDepth 100000 in
set_option maxHeartbeats 4000000 in
theorem pk_8 : pg_chk 18 false none prog_23_method_155_code pp_8 0 cb_8_0 pp_8 = true := by decide +kernel
set_option maxRecDepth 100000 in
set_option maxHeartbeats 4000000 in
theorem pk_9 : pg_chk 19 false (some .char) prog_24_method_2_code pp_9 0 cb_9_0 pp_9 = true := by decide +kernel
set_option maxRecDepth 100000 in
set_option maxHeartbeats 4000000 in
theorem pk_10 : pg_chk 8 true none prog_10_method_1_code pp_10 0 cb_10_0 pp_10 = true := by decide +kernel
set_option maxRecDepth 100000 in
set_option maxHeartbeats 4000000 in
theorem pk_11 : pg_chk 8 false (some .int) prog_10_method_2_code pp_11 0 cb_11_0 pp_11 = true := by decide +kernel
set_option maxRecDepth 100000 in
set_option maxHeartbeats 4000000 in
theorem pk_12 : pg_chk 8 false none prog_10_method_3_code pp_12 0 cb_12_0 pp_12 = true := by decide +kernel
set_option maxRecDepth 100000 in
set_option maxHeartbeats 4000000 in
theorem pk_13 : pg_chk 8 false none prog_10_method_4_code pp_13 0 cb_13_0 pp_13 = true := by decide +kernel
set_option maxRecDepth 100000 in
set_option maxHeartbeats 4000000 in
theorem pk_14 : pg_chk 8 false (some .boolean) prog_10_method_5_code pp_14 0 cb_14_0 pp_14 = true := by decide +kernel
set_option maxRecDepth 100000 in
set_option maxHeartbeats 4000000 in
theorem pk_15 : pg_chk 8 false none prog_10_method_6_code pp_15 0 cb_15_0 pp_15 = true := by decide +kernel
set_option maxRecDepth 100000 in
set_option maxHeartbeats 4000000 in
theorem pk_16 : pg_chk 8 false (some .int) prog_10_method_7_code pp_16 0 cb_16_0 pp_16 = true := by decide +kernel
set_option maxRecDepth 100000 in
set_option maxHeartbeats 4000000 in
theorem pk_17 : pg_chk 8 false (some .int) prog_10_method_8_code pp_17 0 cb_17_0 pp_17 = true := by decide +kernel
set_option maxRecDepth 100000 in
set_option maxHeartbeats 4000000 in
theorem pk_18 : pg_chk 8 false none prog_10_method_9_code pp_18 0 cb_18_0 pp_18 = true := by decide +kernel
set_option maxRecDepth 100000 in
set_option maxHeartbeats 4000000 in
theorem pk_19 : pg_chk 8 false (some .boolean) prog_10_method_10_code pp_19 0 cb_19_0 pp_19 = true := by decide +kernel
set_option maxRecDepth 100000 in
set_option maxHeartbeats 4000000 in
theorem pk_20 : pg_chk 8 false none prog_10_method_11_code pp_20 0 cb_20_0 pp_20 = true := by decide +kernel
set_option maxRecDepth 100000 in
set_option maxHeartbeats 4000000 in
theorem pk_21 : pg_chk 8 false none prog_10_method_12_code pp_21 0 cb_21_0 pp_21 = true := by decide +kernel
set_option maxRecDepth 100000 in
set_option maxHeartbeats 4000000 in
theorem pk_22 : pg_chk 8 false (some .boolean) prog_10_method_13_code pp_22 0 cb_22_0 pp_22 = true := by decide +kernel
set_option maxRecDepth 100000 in
set_option maxHeartbeats 4000000 in
theorem pk_23 : pg_chk 8 false (some .int) prog_10_method_14_code pp_23 0 cb_23_0 pp_23 = true := by decide +kernel
set_option maxRecDepth 100000 in
set_option maxHeartbeats 4000000 in
theorem pk_24 : pg_chk 8 false (some .boolean) prog_10_method_15_code pp_24 0 cb_24_0 pp_24 = true := by decide +kernel
set_option maxRecDepth 100000 in
set_option maxHeartbeats 4000000 in
theorem pk_25 : pg_chk 8 false (some .boolean) prog_10_method_16_code pp_25 0 cb_25_0 pp_25 = true := by decide +kernel
set_option maxRecDepth 100000 in
set_option maxHeartbeats 4000000 in
theorem pk_26 : pg_chk 1 true none prog_3_method_1_code pp_26 0 cb_26_0 pp_26 = true := by decide +kernel
set_option maxRecDepth 100000 in
set_option maxHeartbeats 4000000 in
theorem pk_27 : pg_chk 1 false none prog_3_method_2_code pp_27 0 cb_27_0 pp_27 = true := by decide +kernel
set_option maxRecDepth 100000 in
set_option maxHeartbeats 4000000 in
theorem pk_28 : pg_chk 1 false none prog_3_method_3_code pp_28 0 cb_28_0 pp_28 = true := by decide +kernel
set_option maxRecDepth 100000 in
set_option maxHeartbeats 4000000 in
theorem pk_29 : pg_chk 1 false (some .boolean) prog_3_method_4_code pp_29 0 cb_29_0 pp_29 = true := by decide +kernel
set_option maxRecDepth 100000 in
set_option maxHeartbeats 4000000 in
theorem pk_30 : pg_chk 1 false none prog_3_method_5_code pp_30 0 cb_30_0 pp_30 = true := by decide +kernel
set_option maxRecDepth 100000 in
set_option maxHeartbeats 4000000 in
theorem pk_31 : pg_chk 1 false none prog_3_method_6_code pp_31 0 cb_31_0 pp_31 = true := by decide +kernel
set_option maxRecDepth 100000 in
set_option maxHeartbeats 4000000 in
theorem pk_32 : pg_chk 1 false none prog_3_method_7_code pp_32 0 cb_32_0 pp_32 = true := by decide +kernel
set_option maxRecDepth 100000 in
set_option maxHeartbeats 4000000 in
theorem pk_33 : pg_chk 1 false none prog_3_method_8_code pp_33 0 cb_33_0 pp_33 = true := by decide +kernel
set_option maxRecDepth 100000 in
set_option maxHeartbeats 4000000 in
theorem pk_34 : pg_chk 1 false (some .int) prog_3_method_9_code pp_34 0 cb_34_0 pp_34 = true := by decide +kernel
set_option maxRecDepth 100000 in
set_option maxHeartbeats 4000000 in
theorem pk_35 : pg_chk 1 false (some .int) prog_3_method_10_code pp_35 0 cb_35_0 pp_35 = true := by decide +kernel
set_option maxRecDepth 100000 in
set_option maxHeartbeats 4000000 in
theorem pk_36 : pg_chk 1 false (some .int) prog_3_method_11_code pp_36 0 cb_36_0 pp_36 = true := by decide +kernel
set_option maxRecDepth 100000 in
set_option maxHeartbeats 4000000 in
theorem pk_37 : pg_chk 1 false (some .int) prog_3_method_12_code pp_37 0 cb_37_0 pp_37 = true := by decide +kernel
set_option maxRecDepth 100000 in
set_option maxHeartbeats 4000000 in
theorem pk_38 : pg_chk 1 false (some .int) prog_3_method_13_code pp_38 0 cb_38_0 pp_38 = true := by decide +kernel
set_option maxRecDepth 100000 in
set_option maxHeartbeats 4000000 in
theorem pk_39 : pg_chk 9 true none prog_11_method_1_code pp_39 0 cb_39_0 pp_39 = true := by decide +kernel
set_option maxRecDepth 100000 in
set_option maxHeartbeats 4000000 in
theorem pk_40 : pg_chk 9 false (some .int) prog_11_method_2_code pp_40 0 cb_40_0 pp_40 = true := by decide +kernel
set_option maxRecDepth 100000 in
set_option maxHeartbeats 4000000 in
theorem pk_41 : pg_chk 9 false (some .int) prog_11_method_3_code pp_41 0 cb_41_0 pp_41 = true := by decide +kernel
set_option maxRecDepth 100000 in
set_option maxHeartbeats 4000000 in
theorem pk_42 : pg_chk 9 false (some .int) prog_11_method_4_code pp_42 0 cb_42_0 pp_42 = true := by decide +kernel
set_option maxRecDepth 100000 in
set_option maxHeartbeats 4000000 in
theorem pk_43 : pg_chk 9 false (some .int) prog_11_method_5_code pp_43 0 cb_43_0 pp_43 = true := by decide +kernel
set_option maxRecDepth 100000 in
set_option maxHeartbeats 4000000 in
theorem pk_44 : pg_chk 9 false (some .boolean) prog_11_method_6_code pp_44 0 cb_44_0 pp_44 = true := by decide +kernel
set_option maxRecDepth 100000 in
set_option maxHeartbeats 4000000 in
theorem pk_45 : pg_chk 9 false none prog_11_method_7_code pp_45 0 cb_45_0 pp_45 = true := by decide +kernel
set_option maxRecDepth 100000 in
set_option maxHeartbeats 4000000 in
theorem pk_46 : pg_chk 9 false (some .int) prog_11_method_8_code pp_46 0 cb_46_0 pp_46 = true := by decide +kernel
set_option maxRecDepth 100000 in
set_option maxHeartbeats 4000000 in
theorem pk_47 : pg_chk 9 false (some .boolean) prog_11_method_9_code pp_47 0 cb_47_0 pp_47 = true := by decide +kernel
set_option maxRecDepth 100000 in
set_option maxHeartbeats 4000000 in
theorem pk_48 : pg_chk 9 false none prog_11_method_10_code pp_48 0 cb_48_0 pp_48 = true := by decide +kernel
set_option maxRecDepth 100000 in
set_option maxHeartbeats 4000000 in
theorem pk_49 : pg_chk 9 false none prog_11_method_11_code pp_49 0 cb_49_0 pp_49 = true := by decide +kernel
set_option maxRecDepth 100000 in
set_option maxHeartbeats 4000000 in
theorem pk_50 : pg_chk 9 false none prog_11_method_12_code pp_50 0 cb_50_0 pp_50 = true := by decide +kernel
set_option maxRecDepth 100000 in
set_option maxHeartbeats 4000000 in
theorem pk_51 : pg_chk 10 true none prog_12_method_1_code pp_51 0 cb_51_0 pp_51 = true := by decide +kernel
set_option maxRecDepth 100000 in
set_option maxHeartbeats 4000000 in
theorem pk_52 : pg_chk 10 false none prog_12_method_2_code pp_52 0 cb_52_0 pp_52 = true := by decide +kernel
set_option maxRecDepth 100000 in
set_option maxHeartbeats 4000000 in
theorem pk_53 : pg_chk 10 false (some .int) prog_12_method_3_code pp_53 0 cb_53_0 pp_53 = true := by decide +kernel
set_option maxRecDepth 100000 in
set_option maxHeartbeats 4000000 in
theorem pk_54 : pg_chk 10 false (some .boolean) prog_12_method_4_code pp_54 0 cb_54_0 pp_54 = true := by decide +kernel
set_option maxRecDepth 100000 in
set_option maxHeartbeats 4000000 in
theorem pk_55 : pg_chk 10 false none prog_12_method_5_code pp_55 0 cb_55_0 pp_55 = true := by decide +kernel
set_option maxRecDepth 100000 in
set_option maxHeartbeats 4000000 in
theorem pk_56 : pg_chk 4 true none prog_6_method_1_code pp_56 0 cb_56_0 pp_56 = true := by decide +kernel
set_option maxRecDepth 100000 in
set_option maxHeartbeats 4000000 in
theorem pk_57 : pg_chk 4 false none prog_6_method_2_code pp_57 0 cb_57_0 pp_57 = true := by decide +kernel
set_option maxRecDepth 100000 in
set_option maxHeartbeats 4000000 in
theorem pk_58 : pg_chk 4 false none prog_6_method_3_code pp_58 0 cb_58_0 pp_58 = true := by decide +kernel
set_option maxRecDepth 100000 in
set_option maxHeartbeats 4000000 in
theorem pk_59 : pg_chk 4 false (some .int) prog_6_method_4_code pp_59 0 cb_59_0 pp_59 = true := by decide +kernel
set_option maxRecDepth 100000 in
set_option maxHeartbeats 4000000 in
theorem pk_60 : pg_chk 4 false none prog_6_method_5_code pp_60 0 cb_60_0 pp_60 = true := by decide +kernel
set_option maxRecDepth 100000 in
set_option maxHeartbeats 4000000 in
theorem pk_61 : pg_chk 4 false (some .boolean) prog_6_method_6_code pp_61 0 cb_61_0 pp_61 = true := by decide +kernel
set_option maxRecDepth 100000 in
set_option maxHeartbeats 4000000 in
theorem pk_62 : pg_chk 4 false (some .int) prog_6_method_7_code pp_62 0 cb_62_0 pp_62 = true := by decide +kernel
set_option maxRecDepth 100000 in
set_option maxHeartbeats 4000000 in
theorem pk_63 : pg_chk 4 false (some .int) prog_6_method_8_code pp_63 0 cb_63_0 pp_63 = true := by decide +kernel
set_option maxRecDepth 100000 in
set_option maxHeartbeats 4000000 in
theorem pk_64 : pg_chk 4 false (some .int) prog_6_method_9_code pp_64 0 cb_64_0 pp_64 = true := by decide +kernel
set_option maxRecDepth 100000 in
set_option maxHeartbeats 4000000 in
theorem pk_65 : pg_chk 4 false (some .int) prog_6_method_10_code pp_65 0 cb_65_0 pp_65 = true := by decide +kernel
set_option maxRecDepth 100000 in
set_option maxHeartbeats 4000000 in
theorem pk_66 : pg_chk 4 false (some .boolean) prog_6_method_11_code pp_66 0 cb_66_0 pp_66 = true := by decide +kernel
set_option maxRecDepth 100000 in
set_option maxHeartbeats 4000000 in
theorem pk_67 : pg_chk 4 false none prog_6_method_12_code pp_67 0 cb_67_0 pp_67 = true := by decide +kernel
set_option maxRecDepth 100000 in
set_option maxHeartbeats 4000000 in
theorem pk_68 : pg_chk 4 false (some .boolean) prog_6_method_13_code pp_68 0 cb_68_0 pp_68 = true := by decide +kernel
set_option maxRecDepth 100000 in
set_option maxHeartbeats 4000000 in
theorem pk_69 : pg_chk 4 false (some .boolean) prog_6_method_14_code pp_69 0 cb_69_0 pp_69 = true := by decide +kernel
set_option maxRecDepth 100000 in
set_option maxHeartbeats 4000000 in
theorem pk_70 : pg_chk 4 false (some .boolean) prog_6_method_15_code pp_70 0 cb_70_0 pp_70 = true := by decide +kernel
set_option maxRecDepth 100000 in
set_option maxHeartbeats 4000000 in
theorem pk_71 : pg_chk 4 false (some .boolean) prog_6_method_16_code pp_71 0 cb_71_0 pp_71 = true := by decide +kernel
set_option maxRecDepth 100000 in
set_option maxHeartbeats 4000000 in
theorem pk_72 : pg_chk 4 false none prog_6_method_17_code pp_72 0 cb_72_0 pp_72 = true := by decide +kernel
set_option maxRecDepth 100000 in
set_option maxHeartbeats 4000000 in
theorem pk_73 : pg_chk 5 true none prog_7_method_1_code pp_73 0 cb_73_0 pp_73 = true := by decide +kernel
set_option maxRecDepth 100000 in
set_option maxHeartbeats 4000000 in
theorem pk_74 : pg_chk 5 false none prog_7_method_2_code pp_74 0 cb_74_0 pp_74 = true := by decide +kernel
set_option maxRecDepth 100000 in
set_option maxHeartbeats 4000000 in
theorem pk_75 : pg_chk 5 false (some .int) prog_7_method_3_code pp_75 0 cb_75_0 pp_75 = true := by decide +kernel
set_option maxRecDepth 100000 in
set_option maxHeartbeats 4000000 in
theorem pk_76 : pg_chk 5 false (some .boolean) prog_7_method_4_code pp_76 0 cb_76_0 pp_76 = true := by decide +kernel
set_option maxRecDepth 100000 in
set_option maxHeartbeats 4000000 in
theorem pk_77 : pg_chk 5 false none prog_7_method_5_code pp_77 0 cb_77_0 pp_77 = true := by decide +kernel
set_option maxRecDepth 100000 in
set_option maxHeartbeats 4000000 in
theorem pk_78 : pg_chk 5 false none prog_7_method_6_code pp_78 0 cb_78_0 pp_78 = true := by decide +kernel
set_option maxRecDepth 100000 in
set_option maxHeartbeats 4000000 in
theorem pk_79 : pg_chk 5 false (some .int) prog_7_method_7_code pp_79 0 cb_79_0 pp_79 = true := by decide +kernel
set_option maxRecDepth 100000 in
set_option maxHeartbeats 4000000 in
theorem pk_80 : pg_chk 5 false none prog_7_method_8_code pp_80 0 cb_80_0 pp_80 = true := by decide +kernel
set_option maxRecDepth 100000 in
set_option maxHeartbeats 4000000 in
theorem pk_81 : pg_chk 5 false none prog_7_method_9_code pp_81 0 cb_81_0 pp_81 = true := by decide +kernel
set_option maxRecDepth 100000 in
set_option maxHeartbeats 4000000 in
theorem pk_82 : pg_chk 5 false (some .int) prog_7_method_10_code pp_82 0 cb_82_0 pp_82 = true := by decide +kernel
set_option maxRecDepth 100000 in
set_option maxHeartbeats 4000000 in
theorem pk_83 : pg_chk 5 false (some .int) prog_7_method_11_code pp_83 0 cb_83_0 pp_83 = true := by decide +kernel
set_option maxRecDepth 100000 in
set_option maxHeartbeats 4000000 in
theorem pk_84 : pg_chk 5 false (some .boolean) prog_7_method_12_code pp_84 0 cb_84_0 pp_84 = true := by decide +kernel
set_option maxRecDepth 100000 in
set_option maxHeartbeats 4000000 in
theorem pk_85 : pg_chk 6 true none prog_8_method_1_code pp_85 0 cb_85_0 pp_85 = true := by decide +kernel
set_option maxRecDepth 100000 in
set_option maxHeartbeats 4000000 in
theorem pk_86 : pg_chk 6 false none prog_8_method_2_code pp_86 0 cb_86_0 pp_86 = true := by decide +kernel
set_option maxRecDepth 100000 in
set_option maxHeartbeats 4000000 in
theorem pk_87 : pg_chk 6 false none prog_8_method_3_code pp_87 0 cb_87_0 pp_87 = true := by decide +kernel
set_option maxRecDepth 100000 in
set_option maxHeartbeats 4000000 in
theorem pk_88 : pg_chk 6 false (some .boolean) prog_8_method_4_code pp_88 0 cb_88_0 pp_88 = true := by decide +kernel
set_option maxRecDepth 100000 in
set_option maxHeartbeats 4000000 in
theorem pk_89 : pg_chk 6 false none prog_8_method_5_code pp_89 0 cb_89_0 pp_89 = true := by decide +kernel
set_option maxRecDepth 100000 in
set_option maxHeartbeats 4000000 in
theorem pk_90 : pg_chk 7 true none prog_9_method_1_code pp_90 0 cb_90_0 pp_90 = true := by decide +kernel
set_option maxRecDepth 100000 in
set_option maxHeartbeats 4000000 in
theorem pk_91 : pg_chk 7 false none prog_9_method_2_code pp_91 0 cb_91_0 pp_91 = true := by decide +kernel
set_option maxRecDepth 100000 in
set_option maxHeartbeats 4000000 in
theorem pk_92 : pg_chk 7 false (some .boolean) prog_9_method_3_code pp_92 0 cb_92_0 pp_92 = true := by decide +kernel
