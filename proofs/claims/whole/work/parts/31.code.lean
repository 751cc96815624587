/-! ===== THE PLAIN CODE (by wip/whole/mk_prog.py): cb_m_i is the code of method m from instruction i on ===== -/
-- 0: java/lang/Integer.bitCount(I)I
noncomputable def cb_0_0 : List Instr := .iload 0 :: .iload 0 :: .iconst 1 :: .iushr :: .iconst 1431655765 :: .iand :: .isub :: .istore 0 :: .iload 0 :: .iconst 858993459 :: .iand :: .iload 0 :: .iconst 2 :: .iushr :: .iconst 858993459 :: .iand :: .iadd :: .istore 0 :: .iload 0 :: .iload 0 :: .iconst 4 :: .iushr :: .iadd :: .iconst 252645135 :: .iand :: .istore 0 :: .iload 0 :: .iload 0 :: .iconst 8 :: .iushr :: .iadd :: .istore 0 :: .iload 0 :: .iload 0 :: .iconst 16 :: .iushr :: .iadd :: .istore 0 :: .iload 0 :: .iconst 63 :: .iand :: .ireturn :: []
-- 1: java/lang/Math.max(II)I
noncomputable def cb_1_6 : List Instr := .ireturn :: []
noncomputable def cb_1_5 : List Instr := .iload 1 :: cb_1_6
noncomputable def cb_1_3 : List Instr := .iload 0 :: .goto 6 :: cb_1_5
noncomputable def cb_1_0 : List Instr := .iload 0 :: .iload 1 :: .if_icmp .lt 5 :: cb_1_3
-- 2: java/lang/Math.min(II)I
noncomputable def cb_2_6 : List Instr := .ireturn :: []
noncomputable def cb_2_5 : List Instr := .iload 1 :: cb_2_6
noncomputable def cb_2_3 : List Instr := .iload 0 :: .goto 6 :: cb_2_5
noncomputable def cb_2_0 : List Instr := .iload 0 :: .iload 1 :: .if_icmp .gt 5 :: cb_2_3
-- 3: java/util/Arrays.fill([JJ)V
noncomputable def cb_3_14 : List Instr := .return_ :: []
noncomputable def cb_3_8 : List Instr := .aload 0 :: .iload 3 :: .lload 1 :: .lastore :: .iinc 3 1 :: .goto 5 :: cb_3_14
noncomputable def cb_3_5 : List Instr := .iload 3 :: .iload 4 :: .if_icmp .ge 14 :: cb_3_8
noncomputable def cb_3_0 : List Instr := .iconst 0 :: .istore 3 :: .aload 0 :: .arraylength :: .istore 4 :: cb_3_5
-- 4: java/util/Arrays.fill([II)V
noncomputable def cb_4_14 : List Instr := .return_ :: []
noncomputable def cb_4_8 : List Instr := .aload 0 :: .iload 2 :: .iload 1 :: .iastore :: .iinc 2 1 :: .goto 5 :: cb_4_14
noncomputable def cb_4_5 : List Instr := .iload 2 :: .iload 3 :: .if_icmp .ge 14 :: cb_4_8
noncomputable def cb_4_0 : List Instr := .iconst 0 :: .istore 2 :: .aload 0 :: .arraylength :: .istore 3 :: cb_4_5
-- 5: jdk/internal/util/Preconditions.checkIndex(IILjava/util/function/BiFunction;)I
noncomputable def cb_5_10 : List Instr := .iload 0 :: .ireturn :: []
noncomputable def cb_5_5 : List Instr := .aload 2 :: .iload 0 :: .iload 1 :: .nop :: .nop :: cb_5_10
noncomputable def cb_5_2 : List Instr := .iload 0 :: .iload 1 :: .if_icmp .lt 10 :: cb_5_5
noncomputable def cb_5_0 : List Instr := .iload 0 :: .ifCond .lt 5 :: cb_5_2
-- 6: java/lang/String.length()I
noncomputable def cb_6_0 : List Instr := .aload 0 :: .checkcast 0 :: .arraylength :: .aload 0 :: .invokevirtual 128 :: .ishr :: .ireturn :: []
-- 7: java/lang/String.charAt(I)C
noncomputable def cb_7_8 : List Instr := .aload 0 :: .checkcast 0 :: .iload 1 :: .nop :: .dreturn :: []
noncomputable def cb_7_3 : List Instr := .aload 0 :: .checkcast 0 :: .iload 1 :: .multianewarray 11 4 :: .dreturn :: cb_7_8
noncomputable def cb_7_0 : List Instr := .aload 0 :: .invokevirtual 144 :: .ifCond .eq 8 :: cb_7_3
-- 8: java/lang/String.coder()B
noncomputable def cb_8_6 : List Instr := .freturn :: []
noncomputable def cb_8_5 : List Instr := .iconst 1 :: cb_8_6
noncomputable def cb_8_2 : List Instr := .aload 0 :: .checkcast 1 :: .goto 6 :: cb_8_5
noncomputable def cb_8_0 : List Instr := .getstatic 0 :: .ifCond .eq 5 :: cb_8_2
-- 9: java/lang/String.isLatin1()Z
noncomputable def cb_9_8 : List Instr := .freturn :: []
noncomputable def cb_9_7 : List Instr := .iconst 0 :: cb_9_8
noncomputable def cb_9_5 : List Instr := .iconst 1 :: .goto 8 :: cb_9_7
noncomputable def cb_9_2 : List Instr := .aload 0 :: .checkcast 1 :: .ifCond .ne 7 :: cb_9_5
noncomputable def cb_9_0 : List Instr := .getstatic 0 :: .ifCond .eq 7 :: cb_9_2
-- 10: java/lang/String.checkIndex(II)V
noncomputable def cb_10_0 : List Instr := .iload 0 :: .iload 1 :: .getstatic 1 :: .multianewarray 5 6 :: .pop :: .return_ :: []
-- 11: java/lang/StringLatin1.charAt([BI)C
noncomputable def cb_11_0 : List Instr := .iload 1 :: .aload 0 :: .arraylength :: .multianewarray 10 4 :: .aload 0 :: .iload 1 :: .baload :: .iconst 255 :: .iand :: .i2c :: .dreturn :: []
-- 12: FogWatch$Tape.<init>()V
noncomputable def cb_12_0 : List Instr := .aload 0 :: .invokespecial 0 :: .aload 0 :: .iconst 600 :: .newarray .byte :: .putfield 1025 :: .aload 0 :: .iconst 0 :: .putfield 1026 :: .aload 0 :: .iconst 0 :: .putfield 1028 :: .aload 0 :: .iconst 0 :: .putfield 1030 :: .aload 0 :: .iconst 0 :: .putfield 1032 :: .aload 0 :: .iconst 0 :: .putfield 1034 :: .aload 0 :: .iconst (-1) :: .putfield 1036 :: .return_ :: []
-- 13: FogWatch$Tape.add(IIIII)I
noncomputable def cb_13_8 : List Instr := .aload 0 :: .iload 1 :: .invokeinterface 14 72 :: .aload 0 :: .iload 2 :: .invokeinterface 14 72 :: .aload 0 :: .iload 3 :: .invokeinterface 14 72 :: .aload 0 :: .iload 4 :: .invokeinterface 14 72 :: .aload 0 :: .iload 5 :: .invokeinterface 14 72 :: .aload 0 :: .getfield 1026 :: .ireturn :: []
noncomputable def cb_13_6 : List Instr := .iconst (-1) :: .ireturn :: cb_13_8
noncomputable def cb_13_0 : List Instr := .aload 0 :: .getfield 1026 :: .iconst 20 :: .iadd :: .iconst 600 :: .if_icmp .le 8 :: cb_13_6
-- 14: FogWatch$Tape.addNumber(I)V
noncomputable def cb_14_30 : List Instr := .return_ :: []
noncomputable def cb_14_28 : List Instr := .iinc 2 (-8) :: .goto 2 :: cb_14_30
noncomputable def cb_14_13 : List Instr := .aload 0 :: .getfield 1025 :: .aload 0 :: .getfield 1026 :: .iload 1 :: .iload 2 :: .ishr :: .i2b :: .bastore :: .aload 0 :: .dup :: .getfield 1026 :: .iconst 1 :: .iadd :: .putfield 1026 :: cb_14_28
noncomputable def cb_14_7 : List Instr := .aload 0 :: .getfield 1026 :: .aload 0 :: .getfield 1025 :: .arraylength :: .if_icmp .ge 28 :: cb_14_13
noncomputable def cb_14_4 : List Instr := .aload 0 :: .getfield 1026 :: .ifCond .lt 28 :: cb_14_7
noncomputable def cb_14_2 : List Instr := .iload 2 :: .ifCond .lt 30 :: cb_14_4
noncomputable def cb_14_0 : List Instr := .iconst 24 :: .istore 2 :: cb_14_2
-- 15: FogWatch$Tape.open(I)V
noncomputable def cb_15_0 : List Instr := .aload 0 :: .iload 1 :: .putfield 1028 :: .aload 0 :: .iconst 0 :: .putfield 1030 :: .aload 0 :: .iconst 0 :: .putfield 1032 :: .aload 0 :: .iconst 0 :: .putfield 1034 :: .aload 0 :: .iconst (-1) :: .putfield 1036 :: .aload 0 :: .iconst 0 :: .putfield 1026 :: .return_ :: []
-- 16: FogWatch$Tape.isSound()Z
noncomputable def cb_16_6 : List Instr := .freturn :: []
noncomputable def cb_16_5 : List Instr := .iconst 0 :: cb_16_6
noncomputable def cb_16_3 : List Instr := .iconst 1 :: .goto 6 :: cb_16_5
noncomputable def cb_16_0 : List Instr := .aload 0 :: .getfield 1034 :: .ifCond .ne 5 :: cb_16_3
-- 17: FogWatch$Tape.refuse(II)V
noncomputable def cb_17_9 : List Instr := .return_ :: []
noncomputable def cb_17_3 : List Instr := .aload 0 :: .iload 1 :: .putfield 1034 :: .aload 0 :: .iload 2 :: .putfield 1036 :: cb_17_9
noncomputable def cb_17_0 : List Instr := .aload 0 :: .getfield 1034 :: .ifCond .ne 9 :: cb_17_3
-- 18: FogWatch$Tape.byteAt(I)I
noncomputable def cb_18_19 : List Instr := .ireturn :: []
noncomputable def cb_18_18 : List Instr := .iconst (-1) :: cb_18_19
noncomputable def cb_18_11 : List Instr := .aload 0 :: .getfield 1025 :: .iload 1 :: .baload :: .iconst 255 :: .iand :: .goto 19 :: cb_18_18
noncomputable def cb_18_6 : List Instr := .iload 1 :: .aload 0 :: .getfield 1025 :: .arraylength :: .if_icmp .ge 18 :: cb_18_11
noncomputable def cb_18_2 : List Instr := .iload 1 :: .aload 0 :: .getfield 1028 :: .if_icmp .ge 18 :: cb_18_6
noncomputable def cb_18_0 : List Instr := .iload 1 :: .ifCond .lt 18 :: cb_18_2
-- 19: FogWatch$Tape.peek()I
noncomputable def cb_19_44 : List Instr := .ireturn :: []
noncomputable def cb_19_43 : List Instr := .iconst (-1) :: cb_19_44
noncomputable def cb_19_35 : List Instr := .aload 0 :: .getfield 1025 :: .aload 0 :: .getfield 1030 :: .baload :: .iconst 255 :: .iand :: .goto 44 :: cb_19_43
noncomputable def cb_19_31 : List Instr := .aload 0 :: .getfield 1030 :: .iload 1 :: .if_icmp .ge 43 :: cb_19_35
noncomputable def cb_19_24 : List Instr := .aload 0 :: .iload 2 :: .iconst 1 :: .iadd :: .putfield 1030 :: .iinc 2 1 :: .goto 15 :: cb_19_31
noncomputable def cb_19_18 : List Instr := .aload 0 :: .getfield 1025 :: .iload 2 :: .baload :: .iconst 32 :: .if_icmp .ne 31 :: cb_19_24
noncomputable def cb_19_15 : List Instr := .iload 2 :: .iload 1 :: .if_icmp .ge 31 :: cb_19_18
noncomputable def cb_19_5 : List Instr := .aload 0 :: .getfield 1028 :: .aload 0 :: .getfield 1025 :: .arraylength :: .multianewarray 2 4 :: .istore 1 :: .aload 0 :: .getfield 1030 :: .istore 2 :: cb_19_15
noncomputable def cb_19_3 : List Instr := .iconst (-1) :: .ireturn :: cb_19_5
noncomputable def cb_19_0 : List Instr := .aload 0 :: .getfield 1034 :: .ifCond .eq 5 :: cb_19_3
-- 20: FogWatch$Tape.pass()V
noncomputable def cb_20_0 : List Instr := .aload 0 :: .dup :: .getfield 1030 :: .iconst 1 :: .iadd :: .putfield 1030 :: .return_ :: []
-- 21: FogWatch$Tape.isAtEnd()Z
noncomputable def cb_21_7 : List Instr := .freturn :: []
noncomputable def cb_21_6 : List Instr := .iconst 0 :: cb_21_7
noncomputable def cb_21_4 : List Instr := .iconst 1 :: .goto 7 :: cb_21_6
noncomputable def cb_21_0 : List Instr := .aload 0 :: .invokeinterface 19 8 :: .iconst (-1) :: .if_icmp .ne 6 :: cb_21_4
-- 22: FogWatch$Tape.readSign(I)V
noncomputable def cb_22_16 : List Instr := .return_ :: []
noncomputable def cb_22_11 : List Instr := .aload 0 :: .iconst 1 :: .aload 0 :: .getfield 1030 :: .invokeinterface 17 136 :: cb_22_16
noncomputable def cb_22_4 : List Instr := .aload 0 :: .dup :: .getfield 1030 :: .iconst 1 :: .iadd :: .putfield 1030 :: .goto 16 :: cb_22_11
noncomputable def cb_22_0 : List Instr := .aload 0 :: .invokeinterface 19 8 :: .iload 1 :: .if_icmp .ne 11 :: cb_22_4
-- 23: FogWatch$Tape.readWord()V
noncomputable def cb_23_26 : List Instr := .return_ :: []
noncomputable def cb_23_18 : List Instr := .aload 0 :: .dup :: .getfield 1030 :: .iconst 1 :: .iadd :: .putfield 1030 :: .iinc 1 1 :: .goto 9 :: cb_23_26
noncomputable def cb_23_12 : List Instr := .aload 0 :: .aload 0 :: .getfield 1030 :: .invokeinterface 18 72 :: .multianewarray 27 2 :: .ifCond .eq 26 :: cb_23_18
noncomputable def cb_23_9 : List Instr := .iload 1 :: .iconst 600 :: .if_icmp .ge 26 :: cb_23_12
noncomputable def cb_23_0 : List Instr := .aload 0 :: .invokeinterface 19 8 :: .pop :: .aload 0 :: .aload 0 :: .getfield 1030 :: .putfield 1032 :: .iconst 0 :: .istore 1 :: cb_23_9
-- 24: FogWatch$Tape.wordIs(Ljava/lang/String;)Z
noncomputable def cb_24_43 : List Instr := .iconst 1 :: .freturn :: []
noncomputable def cb_24_41 : List Instr := .iinc 2 1 :: .goto 15 :: cb_24_43
noncomputable def cb_24_39 : List Instr := .iconst 0 :: .freturn :: cb_24_41
noncomputable def cb_24_31 : List Instr := .aload 0 :: .getfield 1025 :: .iload 3 :: .baload :: .aload 1 :: .iload 2 :: .invokevirtual 113 :: .if_icmp .eq 41 :: cb_24_39
noncomputable def cb_24_26 : List Instr := .iload 3 :: .aload 0 :: .getfield 1025 :: .arraylength :: .if_icmp .ge 39 :: cb_24_31
noncomputable def cb_24_19 : List Instr := .aload 0 :: .getfield 1032 :: .iload 2 :: .iadd :: .istore 3 :: .iload 3 :: .ifCond .lt 39 :: cb_24_26
noncomputable def cb_24_15 : List Instr := .iload 2 :: .aload 1 :: .invokevirtual 96 :: .if_icmp .ge 43 :: cb_24_19
noncomputable def cb_24_13 : List Instr := .iconst 0 :: .istore 2 :: cb_24_15
noncomputable def cb_24_11 : List Instr := .iconst 0 :: .freturn :: cb_24_13
noncomputable def cb_24_3 : List Instr := .aload 0 :: .getfield 1030 :: .aload 0 :: .getfield 1032 :: .isub :: .aload 1 :: .invokevirtual 96 :: .if_icmp .eq 13 :: cb_24_11
noncomputable def cb_24_0 : List Instr := .aload 0 :: .getfield 1034 :: .ifCond .ne 11 :: cb_24_3
-- 25: FogWatch$Tape.readNumber(II)I
noncomputable def cb_25_62 : List Instr := .iload 3 :: .ireturn :: []
noncomputable def cb_25_55 : List Instr := .aload 0 :: .iconst 2 :: .aload 0 :: .getfield 1032 :: .invokeinterface 17 136 :: .iconst (-1) :: .ireturn :: cb_25_62
noncomputable def cb_25_52 : List Instr := .iload 3 :: .iload 2 :: .if_icmp .le 62 :: cb_25_55
noncomputable def cb_25_49 : List Instr := .iload 3 :: .iload 1 :: .if_icmp .lt 55 :: cb_25_52
noncomputable def cb_25_28 : List Instr := .iload 3 :: .iconst 10 :: .imul :: .aload 0 :: .aload 0 :: .getfield 1030 :: .invokeinterface 18 72 :: .iadd :: .iconst 48 :: .isub :: .iconst 10000 :: .multianewarray 2 4 :: .istore 3 :: .aload 0 :: .dup :: .getfield 1030 :: .iconst 1 :: .iadd :: .putfield 1030 :: .iinc 4 1 :: .goto 19 :: cb_25_49
noncomputable def cb_25_22 : List Instr := .aload 0 :: .aload 0 :: .getfield 1030 :: .invokeinterface 18 72 :: .multianewarray 26 2 :: .ifCond .eq 49 :: cb_25_28
noncomputable def cb_25_19 : List Instr := .iload 4 :: .iconst 600 :: .if_icmp .ge 49 :: cb_25_22
noncomputable def cb_25_11 : List Instr := .aload 0 :: .aload 0 :: .getfield 1030 :: .putfield 1032 :: .iconst 0 :: .istore 3 :: .iconst 0 :: .istore 4 :: cb_25_19
noncomputable def cb_25_4 : List Instr := .aload 0 :: .iconst 1 :: .aload 0 :: .getfield 1030 :: .invokeinterface 17 136 :: .iconst (-1) :: .ireturn :: cb_25_11
noncomputable def cb_25_0 : List Instr := .aload 0 :: .invokeinterface 19 8 :: .multianewarray 26 2 :: .ifCond .ne 11 :: cb_25_4
-- 26: FogWatch$Tape.isDigit(I)Z
noncomputable def cb_26_9 : List Instr := .freturn :: []
noncomputable def cb_26_8 : List Instr := .iconst 0 :: cb_26_9
noncomputable def cb_26_6 : List Instr := .iconst 1 :: .goto 9 :: cb_26_8
noncomputable def cb_26_3 : List Instr := .iload 0 :: .iconst 57 :: .if_icmp .gt 8 :: cb_26_6
noncomputable def cb_26_0 : List Instr := .iload 0 :: .iconst 48 :: .if_icmp .lt 8 :: cb_26_3
-- 27: FogWatch$Tape.isSmallLetter(I)Z
noncomputable def cb_27_9 : List Instr := .freturn :: []
noncomputable def cb_27_8 : List Instr := .iconst 0 :: cb_27_9
noncomputable def cb_27_6 : List Instr := .iconst 1 :: .goto 9 :: cb_27_8
noncomputable def cb_27_3 : List Instr := .iload 0 :: .iconst 122 :: .if_icmp .gt 8 :: cb_27_6
noncomputable def cb_27_0 : List Instr := .iload 0 :: .iconst 97 :: .if_icmp .lt 8 :: cb_27_3
-- 28: FogWatch$Law.<init>()V
noncomputable def cb_28_0 : List Instr := .aload 0 :: .invokespecial 0 :: .aload 0 :: .iconst 150 :: .newarray .int :: .putfield 129 :: .aload 0 :: .iconst 150 :: .newarray .int :: .putfield 131 :: .aload 0 :: .iconst 150 :: .newarray .int :: .putfield 133 :: .aload 0 :: .iconst 7 :: .newarray .int :: .putfield 135 :: .aload 0 :: .iconst 0 :: .putfield 136 :: .aload 0 :: .invokeinterface 29 1 :: .return_ :: []
-- 29: FogWatch$Law.useCommon()V
noncomputable def cb_29_0 : List Instr := .aload 0 :: .iconst 0 :: .putfield 136 :: .aload 0 :: .iconst 0 :: .iconst 1 :: .invokeinterface 30 129 :: .aload 0 :: .iconst 1 :: .iconst 2 :: .invokeinterface 30 129 :: .aload 0 :: .iconst 2 :: .iconst 0 :: .invokeinterface 30 129 :: .return_ :: []
-- 30: FogWatch$Law.put(II)V
noncomputable def cb_30_33 : List Instr := .return_ :: []
noncomputable def cb_30_15 : List Instr := .aload 0 :: .getfield 129 :: .aload 0 :: .getfield 136 :: .iload 1 :: .iastore :: .aload 0 :: .getfield 131 :: .aload 0 :: .getfield 136 :: .iload 2 :: .iastore :: .aload 0 :: .dup :: .getfield 136 :: .iconst 1 :: .iadd :: .putfield 136 :: cb_30_33
noncomputable def cb_30_9 : List Instr := .aload 0 :: .getfield 136 :: .aload 0 :: .getfield 131 :: .arraylength :: .if_icmp .ge 33 :: cb_30_15
noncomputable def cb_30_3 : List Instr := .aload 0 :: .getfield 136 :: .aload 0 :: .getfield 129 :: .arraylength :: .if_icmp .ge 33 :: cb_30_9
noncomputable def cb_30_0 : List Instr := .aload 0 :: .getfield 136 :: .ifCond .lt 33 :: cb_30_3
-- 31: FogWatch$Law.read(LFogWatch$Tape;)Z
noncomputable def cb_31_15 : List Instr := .aload 1 :: .invokeinterface 16 8 :: .freturn :: []
noncomputable def cb_31_10 : List Instr := .aload 1 :: .iconst 1 :: .aload 1 :: .getfield 1030 :: .invokeinterface 17 136 :: cb_31_15
noncomputable def cb_31_0 : List Instr := .aload 0 :: .iconst 0 :: .putfield 136 :: .aload 0 :: .aload 1 :: .iconst 0 :: .invokeinterface 32 129 :: .aload 1 :: .invokeinterface 21 8 :: .ifCond .ne 15 :: cb_31_10
-- 32: FogWatch$Law.readSum(LFogWatch$Tape;I)V
noncomputable def cb_32_36 : List Instr := .return_ :: []
noncomputable def cb_32_32 : List Instr := .iconst 0 :: .invokeinterface 30 129 :: .iinc 3 1 :: .goto 6 :: cb_32_36
noncomputable def cb_32_31 : List Instr := .iconst 3 :: cb_32_32
noncomputable def cb_32_29 : List Instr := .iconst 2 :: .goto 32 :: cb_32_31
noncomputable def cb_32_19 : List Instr := .aload 1 :: .invokeinterface 20 8 :: .aload 0 :: .aload 1 :: .iload 2 :: .invokeinterface 33 129 :: .aload 0 :: .iload 4 :: .iconst 43 :: .if_icmp .ne 31 :: cb_32_29
noncomputable def cb_32_18 : List Instr := .return_ :: cb_32_19
noncomputable def cb_32_15 : List Instr := .iload 4 :: .iconst 45 :: .if_icmp .eq 19 :: cb_32_18
noncomputable def cb_32_9 : List Instr := .aload 1 :: .invokeinterface 19 8 :: .istore 4 :: .iload 4 :: .iconst 43 :: .if_icmp .eq 19 :: cb_32_15
noncomputable def cb_32_6 : List Instr := .iload 3 :: .iconst 150 :: .if_icmp .ge 36 :: cb_32_9
noncomputable def cb_32_0 : List Instr := .aload 0 :: .aload 1 :: .iload 2 :: .invokeinterface 33 129 :: .iconst 0 :: .istore 3 :: cb_32_6
-- 33: FogWatch$Law.readProduct(LFogWatch$Tape;I)V
noncomputable def cb_33_44 : List Instr := .return_ :: []
noncomputable def cb_33_40 : List Instr := .iconst 0 :: .invokeinterface 30 129 :: .iinc 3 1 :: .goto 6 :: cb_33_44
noncomputable def cb_33_39 : List Instr := .iconst 6 :: cb_33_40
noncomputable def cb_33_37 : List Instr := .iconst 5 :: .goto 40 :: cb_33_39
noncomputable def cb_33_34 : List Instr := .iload 4 :: .iconst 47 :: .if_icmp .ne 39 :: cb_33_37
noncomputable def cb_33_32 : List Instr := .iconst 4 :: .goto 40 :: cb_33_34
noncomputable def cb_33_22 : List Instr := .aload 1 :: .invokeinterface 20 8 :: .aload 0 :: .aload 1 :: .iload 2 :: .invokeinterface 34 129 :: .aload 0 :: .iload 4 :: .iconst 42 :: .if_icmp .ne 34 :: cb_33_32
noncomputable def cb_33_21 : List Instr := .return_ :: cb_33_22
noncomputable def cb_33_18 : List Instr := .iload 4 :: .iconst 37 :: .if_icmp .eq 22 :: cb_33_21
noncomputable def cb_33_15 : List Instr := .iload 4 :: .iconst 47 :: .if_icmp .eq 22 :: cb_33_18
noncomputable def cb_33_9 : List Instr := .aload 1 :: .invokeinterface 19 8 :: .istore 4 :: .iload 4 :: .iconst 42 :: .if_icmp .eq 22 :: cb_33_15
noncomputable def cb_33_6 : List Instr := .iload 3 :: .iconst 150 :: .if_icmp .ge 44 :: cb_33_9
noncomputable def cb_33_0 : List Instr := .aload 0 :: .aload 1 :: .iload 2 :: .invokeinterface 34 129 :: .iconst 0 :: .istore 3 :: cb_33_6
-- 34: FogWatch$Law.readUnit(LFogWatch$Tape;I)V
noncomputable def cb_34_42 : List Instr := .return_ :: []
noncomputable def cb_34_31 : List Instr := .aload 1 :: .invokeinterface 20 8 :: .aload 0 :: .aload 1 :: .iload 2 :: .iconst 1 :: .iadd :: .invokeinterface 32 129 :: .aload 1 :: .iconst 41 :: .invokeinterface 22 72 :: cb_34_42
noncomputable def cb_34_25 : List Instr := .aload 1 :: .iconst 3 :: .aload 1 :: .getfield 1030 :: .invokeinterface 17 136 :: .goto 42 :: cb_34_31
noncomputable def cb_34_22 : List Instr := .iload 2 :: .iconst 6 :: .if_icmp .lt 31 :: cb_34_25
noncomputable def cb_34_17 : List Instr := .aload 0 :: .aload 1 :: .iload 2 :: .invokeinterface 35 129 :: .goto 42 :: cb_34_22
noncomputable def cb_34_14 : List Instr := .iload 3 :: .iconst 40 :: .if_icmp .eq 22 :: cb_34_17
noncomputable def cb_34_6 : List Instr := .aload 0 :: .iconst 0 :: .aload 1 :: .iconst 0 :: .iconst 999 :: .invokeinterface 25 136 :: .invokeinterface 30 129 :: .goto 42 :: cb_34_14
noncomputable def cb_34_0 : List Instr := .aload 1 :: .invokeinterface 19 8 :: .istore 3 :: .iload 3 :: .multianewarray 26 2 :: .ifCond .eq 14 :: cb_34_6
-- 35: FogWatch$Law.readNamed(LFogWatch$Tape;I)V
noncomputable def cb_35_67 : List Instr := .return_ :: []
noncomputable def cb_35_65 : List Instr := .iconst 0 :: .invokeinterface 30 129 :: cb_35_67
noncomputable def cb_35_64 : List Instr := .iconst 8 :: cb_35_65
noncomputable def cb_35_62 : List Instr := .iconst 7 :: .goto 65 :: cb_35_64
noncomputable def cb_35_38 : List Instr := .aload 1 :: .iconst 91 :: .invokeinterface 22 72 :: .aload 0 :: .aload 1 :: .iload 2 :: .iconst 1 :: .iadd :: .invokeinterface 32 129 :: .aload 1 :: .iconst 44 :: .invokeinterface 22 72 :: .aload 0 :: .aload 1 :: .iload 2 :: .iconst 1 :: .iadd :: .invokeinterface 32 129 :: .aload 1 :: .iconst 93 :: .invokeinterface 22 72 :: .aload 0 :: .iload 4 :: .ifCond .eq 64 :: cb_35_62
noncomputable def cb_35_32 : List Instr := .aload 1 :: .iconst 3 :: .aload 1 :: .getfield 1032 :: .invokeinterface 17 136 :: .goto 67 :: cb_35_38
noncomputable def cb_35_29 : List Instr := .iload 2 :: .iconst 6 :: .if_icmp .lt 38 :: cb_35_32
noncomputable def cb_35_23 : List Instr := .aload 1 :: .iconst 1 :: .aload 1 :: .getfield 1032 :: .invokeinterface 17 136 :: .goto 67 :: cb_35_29
noncomputable def cb_35_19 : List Instr := .aload 1 :: .ldc 12 :: .invokeinterface 24 72 :: .ifCond .ne 29 :: cb_35_23
noncomputable def cb_35_17 : List Instr := .iload 4 :: .ifCond .ne 29 :: cb_35_19
noncomputable def cb_35_12 : List Instr := .aload 0 :: .iconst 1 :: .iload 3 :: .invokeinterface 30 129 :: .goto 67 :: cb_35_17
noncomputable def cb_35_0 : List Instr := .aload 1 :: .invokeinterface 23 8 :: .aload 1 :: .multianewarray 36 2 :: .istore 3 :: .aload 1 :: .ldc 11 :: .invokeinterface 24 72 :: .istore 4 :: .iload 3 :: .iconst (-1) :: .if_icmp .eq 17 :: cb_35_12
-- 36: FogWatch$Law.factOf(LFogWatch$Tape;)I
noncomputable def cb_36_43 : List Instr := .ireturn :: []
noncomputable def cb_36_42 : List Instr := .iconst (-1) :: cb_36_43
noncomputable def cb_36_40 : List Instr := .iconst 6 :: .goto 43 :: cb_36_42
noncomputable def cb_36_36 : List Instr := .aload 0 :: .ldc 4 :: .invokeinterface 24 72 :: .ifCond .eq 42 :: cb_36_40
noncomputable def cb_36_34 : List Instr := .iconst 5 :: .ireturn :: cb_36_36
noncomputable def cb_36_30 : List Instr := .aload 0 :: .ldc 10 :: .invokeinterface 24 72 :: .ifCond .eq 36 :: cb_36_34
noncomputable def cb_36_28 : List Instr := .iconst 4 :: .ireturn :: cb_36_30
noncomputable def cb_36_24 : List Instr := .aload 0 :: .ldc 9 :: .invokeinterface 24 72 :: .ifCond .eq 30 :: cb_36_28
noncomputable def cb_36_22 : List Instr := .iconst 3 :: .ireturn :: cb_36_24
noncomputable def cb_36_18 : List Instr := .aload 0 :: .ldc 8 :: .invokeinterface 24 72 :: .ifCond .eq 24 :: cb_36_22
noncomputable def cb_36_16 : List Instr := .iconst 2 :: .ireturn :: cb_36_18
noncomputable def cb_36_12 : List Instr := .aload 0 :: .ldc 7 :: .invokeinterface 24 72 :: .ifCond .eq 18 :: cb_36_16
noncomputable def cb_36_10 : List Instr := .iconst 1 :: .ireturn :: cb_36_12
noncomputable def cb_36_6 : List Instr := .aload 0 :: .ldc 6 :: .invokeinterface 24 72 :: .ifCond .eq 12 :: cb_36_10
noncomputable def cb_36_4 : List Instr := .iconst 0 :: .ireturn :: cb_36_6
noncomputable def cb_36_0 : List Instr := .aload 0 :: .ldc 5 :: .invokeinterface 24 72 :: .ifCond .eq 6 :: cb_36_4
-- 37: FogWatch$Law.price(IIIIIII)I
noncomputable def cb_37_0 : List Instr := .aload 0 :: .getfield 135 :: .iconst 0 :: .iload 1 :: .iastore :: .aload 0 :: .getfield 135 :: .iconst 1 :: .iload 2 :: .iastore :: .aload 0 :: .getfield 135 :: .iconst 2 :: .iload 3 :: .iastore :: .aload 0 :: .getfield 135 :: .iconst 3 :: .iload 4 :: .iastore :: .aload 0 :: .getfield 135 :: .iconst 4 :: .iload 5 :: .iastore :: .aload 0 :: .getfield 135 :: .iconst 5 :: .iload 6 :: .iastore :: .aload 0 :: .getfield 135 :: .iconst 6 :: .iload 7 :: .iastore :: .iconst 0 :: .iconst 60 :: .aload 0 :: .invokeinterface 38 1 :: .multianewarray 2 4 :: .multianewarray 1 4 :: .ireturn :: []
-- 38: FogWatch$Law.workOut()I
noncomputable def cb_38_88 : List Instr := .aload 0 :: .getfield 133 :: .iconst 0 :: .iaload :: .ireturn :: []
noncomputable def cb_38_86 : List Instr := .iinc 2 1 :: .goto 4 :: cb_38_88
noncomputable def cb_38_64 : List Instr := .iinc 1 (-1) :: .aload 0 :: .getfield 133 :: .iload 1 :: .iconst 1 :: .isub :: .aload 0 :: .getfield 129 :: .iload 2 :: .iaload :: .aload 0 :: .getfield 133 :: .iload 1 :: .iconst 1 :: .isub :: .iaload :: .aload 0 :: .getfield 133 :: .iload 1 :: .iaload :: .multianewarray 40 6 :: .iastore :: cb_38_86
noncomputable def cb_38_59 : List Instr := .iload 1 :: .aload 0 :: .getfield 133 :: .arraylength :: .if_icmp .gt 86 :: cb_38_64
noncomputable def cb_38_56 : List Instr := .iload 1 :: .iconst 2 :: .if_icmp .lt 86 :: cb_38_59
noncomputable def cb_38_53 : List Instr := .iastore :: .iinc 1 1 :: .goto 86 :: cb_38_56
noncomputable def cb_38_47 : List Instr := .aload 0 :: .aload 0 :: .getfield 131 :: .iload 2 :: .iaload :: .invokeinterface 39 65 :: cb_38_53
noncomputable def cb_38_42 : List Instr := .aload 0 :: .getfield 131 :: .iload 2 :: .iaload :: .goto 53 :: cb_38_47
noncomputable def cb_38_34 : List Instr := .aload 0 :: .getfield 133 :: .iload 1 :: .aload 0 :: .getfield 129 :: .iload 2 :: .iaload :: .ifCond .ne 47 :: cb_38_42
noncomputable def cb_38_29 : List Instr := .iload 1 :: .aload 0 :: .getfield 133 :: .arraylength :: .if_icmp .ge 86 :: cb_38_34
noncomputable def cb_38_23 : List Instr := .aload 0 :: .getfield 129 :: .iload 2 :: .iaload :: .iconst 1 :: .if_icmp .ne 56 :: cb_38_29
noncomputable def cb_38_18 : List Instr := .aload 0 :: .getfield 129 :: .iload 2 :: .iaload :: .ifCond .eq 29 :: cb_38_23
noncomputable def cb_38_13 : List Instr := .iload 2 :: .aload 0 :: .getfield 131 :: .arraylength :: .if_icmp .ge 88 :: cb_38_18
noncomputable def cb_38_8 : List Instr := .iload 2 :: .aload 0 :: .getfield 129 :: .arraylength :: .if_icmp .ge 88 :: cb_38_13
noncomputable def cb_38_4 : List Instr := .iload 2 :: .aload 0 :: .getfield 136 :: .if_icmp .ge 88 :: cb_38_8
noncomputable def cb_38_0 : List Instr := .iconst 0 :: .istore 1 :: .iconst 0 :: .istore 2 :: cb_38_4
-- 39: FogWatch$Law.fact(I)I
noncomputable def cb_39_13 : List Instr := .ireturn :: []
noncomputable def cb_39_12 : List Instr := .iconst 0 :: cb_39_13
noncomputable def cb_39_7 : List Instr := .aload 0 :: .getfield 135 :: .iload 1 :: .iaload :: .goto 13 :: cb_39_12
noncomputable def cb_39_2 : List Instr := .iload 1 :: .aload 0 :: .getfield 135 :: .arraylength :: .if_icmp .ge 12 :: cb_39_7
noncomputable def cb_39_0 : List Instr := .iload 1 :: .ifCond .lt 12 :: cb_39_2
-- 40: FogWatch$Law.join(III)I
noncomputable def cb_40_34 : List Instr := .iload 1 :: .iload 2 :: .multianewarray 1 4 :: .ireturn :: []
noncomputable def cb_40_30 : List Instr := .iload 1 :: .iload 2 :: .multianewarray 2 4 :: .ireturn :: cb_40_34
noncomputable def cb_40_29 : List Instr := .ireturn :: cb_40_30
noncomputable def cb_40_26 : List Instr := .iload 1 :: .iload 2 :: .irem :: cb_40_29
noncomputable def cb_40_24 : List Instr := .iconst 0 :: .goto 29 :: cb_40_26
noncomputable def cb_40_22 : List Instr := .iload 2 :: .ifCond .ne 26 :: cb_40_24
noncomputable def cb_40_21 : List Instr := .ireturn :: cb_40_22
noncomputable def cb_40_18 : List Instr := .iload 1 :: .iload 2 :: .idiv :: cb_40_21
noncomputable def cb_40_16 : List Instr := .iconst 0 :: .goto 21 :: cb_40_18
noncomputable def cb_40_14 : List Instr := .iload 2 :: .ifCond .ne 18 :: cb_40_16
noncomputable def cb_40_10 : List Instr := .iload 1 :: .iload 2 :: .imul :: .ireturn :: cb_40_14
noncomputable def cb_40_6 : List Instr := .iload 1 :: .iload 2 :: .isub :: .ireturn :: cb_40_10
noncomputable def cb_40_2 : List Instr := .iload 1 :: .iload 2 :: .iadd :: .ireturn :: cb_40_6
noncomputable def cb_40_0 : List Instr := .iload 0 :: .tableswitch 34 2 7 #[2, 6, 10, 14, 22, 30] :: cb_40_2
-- 41: FogWatch$Town.<init>()V
noncomputable def cb_41_0 : List Instr := .aload 0 :: .invokespecial 0 :: .aload 0 :: .iconst 0 :: .putfield 1152 :: .aload 0 :: .iconst 0 :: .putfield 1154 :: .aload 0 :: .iconst 60 :: .putfield 1156 :: .aload 0 :: .iconst 10 :: .newarray .int :: .putfield 1159 :: .aload 0 :: .iconst 40 :: .newarray .int :: .putfield 1161 :: .aload 0 :: .iconst 5 :: .newarray .int :: .putfield 1163 :: .return_ :: []
-- 42: FogWatch$Town.bellOf(I)I
noncomputable def cb_42_13 : List Instr := .ireturn :: []
noncomputable def cb_42_12 : List Instr := .iconst 0 :: cb_42_13
noncomputable def cb_42_7 : List Instr := .aload 0 :: .getfield 1159 :: .iload 1 :: .iaload :: .goto 13 :: cb_42_12
noncomputable def cb_42_2 : List Instr := .iload 1 :: .aload 0 :: .getfield 1159 :: .arraylength :: .if_icmp .ge 12 :: cb_42_7
noncomputable def cb_42_0 : List Instr := .iload 1 :: .ifCond .lt 12 :: cb_42_2
-- 43: FogWatch$Town.leadsTo(II)I
noncomputable def cb_43_19 : List Instr := .ireturn :: []
noncomputable def cb_43_18 : List Instr := .iconst 0 :: cb_43_19
noncomputable def cb_43_13 : List Instr := .aload 0 :: .getfield 1161 :: .iload 3 :: .iaload :: .goto 19 :: cb_43_18
noncomputable def cb_43_8 : List Instr := .iload 3 :: .aload 0 :: .getfield 1161 :: .arraylength :: .if_icmp .ge 18 :: cb_43_13
noncomputable def cb_43_0 : List Instr := .iload 2 :: .iconst 10 :: .imul :: .iload 1 :: .iadd :: .istore 3 :: .iload 3 :: .ifCond .lt 18 :: cb_43_8
-- 44: FogWatch$Town.startOf(I)I
noncomputable def cb_44_13 : List Instr := .ireturn :: []
noncomputable def cb_44_12 : List Instr := .iconst 0 :: cb_44_13
noncomputable def cb_44_7 : List Instr := .aload 0 :: .getfield 1163 :: .iload 1 :: .iaload :: .goto 13 :: cb_44_12
noncomputable def cb_44_2 : List Instr := .iload 1 :: .aload 0 :: .getfield 1163 :: .arraylength :: .if_icmp .ge 12 :: cb_44_7
noncomputable def cb_44_0 : List Instr := .iload 1 :: .ifCond .lt 12 :: cb_44_2
-- 45: FogWatch$Town.drift(II)I
noncomputable def cb_45_5 : List Instr := .iload 2 :: .aload 0 :: .getfield 1152 :: .irem :: .istore 3 :: .iload 1 :: .iload 3 :: .ishl :: .iload 1 :: .aload 0 :: .getfield 1152 :: .iload 3 :: .isub :: .ishr :: .ior :: .iconst 1 :: .aload 0 :: .getfield 1152 :: .ishl :: .iconst 1 :: .isub :: .iand :: .ireturn :: []
noncomputable def cb_45_3 : List Instr := .iconst 0 :: .ireturn :: cb_45_5
noncomputable def cb_45_0 : List Instr := .aload 0 :: .getfield 1152 :: .ifCond .gt 5 :: cb_45_3
-- 46: FogWatch$Town.read(LFogWatch$Tape;)Z
noncomputable def cb_46_31 : List Instr := .aload 1 :: .invokeinterface 16 8 :: .freturn :: []
noncomputable def cb_46_25 : List Instr := .invokeinterface 47 137 :: .aload 1 :: .iconst 59 :: .invokeinterface 22 72 :: .iinc 2 1 :: .goto 11 :: cb_46_31
noncomputable def cb_46_24 : List Instr := .iconst 0 :: cb_46_25
noncomputable def cb_46_22 : List Instr := .iconst 1 :: .goto 25 :: cb_46_24
noncomputable def cb_46_17 : List Instr := .aload 0 :: .aload 1 :: .iload 2 :: .iconst 60 :: .if_icmp .lt 24 :: cb_46_22
noncomputable def cb_46_14 : List Instr := .aload 1 :: .invokeinterface 21 8 :: .ifCond .ne 31 :: cb_46_17
noncomputable def cb_46_11 : List Instr := .iload 2 :: .iconst 60 :: .if_icmp .gt 31 :: cb_46_14
noncomputable def cb_46_0 : List Instr := .aload 0 :: .iconst 0 :: .putfield 1152 :: .aload 0 :: .iconst 0 :: .putfield 1154 :: .aload 0 :: .iconst 60 :: .putfield 1156 :: .iconst 0 :: .istore 2 :: cb_46_11
-- 47: FogWatch$Town.readClause(LFogWatch$Tape;Z)V
noncomputable def cb_47_61 : List Instr := .return_ :: []
noncomputable def cb_47_55 : List Instr := .aload 0 :: .aload 1 :: .iconst 0 :: .iconst 200 :: .invokeinterface 25 136 :: .putfield 1156 :: cb_47_61
noncomputable def cb_47_45 : List Instr := .aload 0 :: .aload 1 :: .iconst 0 :: .aload 0 :: .getfield 1152 :: .iconst 1 :: .isub :: .invokeinterface 25 136 :: .invokeinterface 52 73 :: .goto 61 :: cb_47_55
noncomputable def cb_47_42 : List Instr := .iload 3 :: .iconst 3 :: .if_icmp .ne 55 :: cb_47_45
noncomputable def cb_47_38 : List Instr := .aload 0 :: .aload 1 :: .invokeinterface 51 73 :: .goto 61 :: cb_47_42
noncomputable def cb_47_35 : List Instr := .iload 3 :: .iconst 2 :: .if_icmp .ne 42 :: cb_47_38
noncomputable def cb_47_28 : List Instr := .aload 0 :: .aload 1 :: .iconst 0 :: .iconst 9 :: .invokeinterface 25 136 :: .invokeinterface 50 73 :: .goto 61 :: cb_47_35
noncomputable def cb_47_25 : List Instr := .iload 3 :: .iconst 1 :: .if_icmp .ne 35 :: cb_47_28
noncomputable def cb_47_19 : List Instr := .aload 1 :: .iconst 3 :: .aload 1 :: .getfield 1032 :: .invokeinterface 17 136 :: .goto 61 :: cb_47_25
noncomputable def cb_47_15 : List Instr := .aload 0 :: .iload 3 :: .invokeinterface 49 73 :: .ifCond .eq 25 :: cb_47_19
noncomputable def cb_47_13 : List Instr := .iload 2 :: .ifCond .ne 19 :: cb_47_15
noncomputable def cb_47_7 : List Instr := .aload 1 :: .iconst 1 :: .aload 1 :: .getfield 1032 :: .invokeinterface 17 136 :: .goto 61 :: cb_47_13
noncomputable def cb_47_0 : List Instr := .aload 1 :: .invokeinterface 23 8 :: .aload 1 :: .multianewarray 48 2 :: .istore 3 :: .iload 3 :: .ifCond .ne 13 :: cb_47_7
-- 48: FogWatch$Town.kindOf(LFogWatch$Tape;)I
noncomputable def cb_48_25 : List Instr := .ireturn :: []
noncomputable def cb_48_24 : List Instr := .iconst 0 :: cb_48_25
noncomputable def cb_48_22 : List Instr := .iconst 4 :: .goto 25 :: cb_48_24
noncomputable def cb_48_18 : List Instr := .aload 0 :: .ldc 4 :: .invokeinterface 24 72 :: .ifCond .eq 24 :: cb_48_22
noncomputable def cb_48_16 : List Instr := .iconst 3 :: .ireturn :: cb_48_18
noncomputable def cb_48_12 : List Instr := .aload 0 :: .ldc 3 :: .invokeinterface 24 72 :: .ifCond .eq 18 :: cb_48_16
noncomputable def cb_48_10 : List Instr := .iconst 2 :: .ireturn :: cb_48_12
noncomputable def cb_48_6 : List Instr := .aload 0 :: .ldc 2 :: .invokeinterface 24 72 :: .ifCond .eq 12 :: cb_48_10
noncomputable def cb_48_4 : List Instr := .iconst 1 :: .ireturn :: cb_48_6
noncomputable def cb_48_0 : List Instr := .aload 0 :: .ldc 1 :: .invokeinterface 24 72 :: .ifCond .eq 6 :: cb_48_4
-- 49: FogWatch$Town.isFullOf(I)Z
noncomputable def cb_49_17 : List Instr := .freturn :: []
noncomputable def cb_49_16 : List Instr := .iconst 0 :: cb_49_17
noncomputable def cb_49_14 : List Instr := .iconst 1 :: .goto 17 :: cb_49_16
noncomputable def cb_49_10 : List Instr := .aload 0 :: .getfield 1154 :: .iconst 5 :: .if_icmp .lt 16 :: cb_49_14
noncomputable def cb_49_7 : List Instr := .iload 1 :: .iconst 3 :: .if_icmp .ne 16 :: cb_49_10
noncomputable def cb_49_3 : List Instr := .aload 0 :: .getfield 1152 :: .iconst 10 :: .if_icmp .ge 14 :: cb_49_7
noncomputable def cb_49_0 : List Instr := .iload 1 :: .iconst 1 :: .if_icmp .ne 7 :: cb_49_3
-- 50: FogWatch$Town.addCorner(I)V
noncomputable def cb_50_31 : List Instr := .aload 0 :: .dup :: .getfield 1152 :: .iconst 1 :: .iadd :: .putfield 1152 :: .return_ :: []
noncomputable def cb_50_18 : List Instr := .aload 0 :: .getfield 1161 :: .iload 2 :: .iconst 10 :: .imul :: .aload 0 :: .getfield 1152 :: .iadd :: .aload 0 :: .getfield 1152 :: .iastore :: .iinc 2 1 :: .goto 15 :: cb_50_31
noncomputable def cb_50_15 : List Instr := .iload 2 :: .iconst 4 :: .if_icmp .ge 31 :: cb_50_18
noncomputable def cb_50_7 : List Instr := .aload 0 :: .getfield 1159 :: .aload 0 :: .getfield 1152 :: .iload 1 :: .iastore :: .iconst 0 :: .istore 2 :: cb_50_15
noncomputable def cb_50_6 : List Instr := .return_ :: cb_50_7
noncomputable def cb_50_0 : List Instr := .aload 0 :: .getfield 1152 :: .aload 0 :: .getfield 1159 :: .arraylength :: .if_icmp .lt 7 :: cb_50_6
-- 51: FogWatch$Town.readWay(LFogWatch$Tape;)V
noncomputable def cb_51_42 : List Instr := .return_ :: []
noncomputable def cb_51_37 : List Instr := .aload 0 :: .getfield 1161 :: .iload 5 :: .iload 4 :: .iastore :: cb_51_42
noncomputable def cb_51_32 : List Instr := .iload 5 :: .aload 0 :: .getfield 1161 :: .arraylength :: .if_icmp .ge 42 :: cb_51_37
noncomputable def cb_51_30 : List Instr := .iload 5 :: .ifCond .lt 42 :: cb_51_32
noncomputable def cb_51_0 : List Instr := .aload 1 :: .iconst 0 :: .iconst 3 :: .invokeinterface 25 136 :: .istore 2 :: .aload 1 :: .iconst 0 :: .aload 0 :: .getfield 1152 :: .iconst 1 :: .isub :: .invokeinterface 25 136 :: .istore 3 :: .aload 1 :: .iconst 0 :: .aload 0 :: .getfield 1152 :: .iconst 1 :: .isub :: .invokeinterface 25 136 :: .istore 4 :: .iload 2 :: .iconst 10 :: .imul :: .iload 3 :: .iadd :: .istore 5 :: .aload 1 :: .invokeinterface 16 8 :: .ifCond .eq 42 :: cb_51_30
-- 52: FogWatch$Town.addMan(I)V
noncomputable def cb_52_18 : List Instr := .return_ :: []
noncomputable def cb_52_6 : List Instr := .aload 0 :: .getfield 1163 :: .aload 0 :: .getfield 1154 :: .iload 1 :: .iastore :: .aload 0 :: .dup :: .getfield 1154 :: .iconst 1 :: .iadd :: .putfield 1154 :: cb_52_18
noncomputable def cb_52_0 : List Instr := .aload 0 :: .getfield 1154 :: .aload 0 :: .getfield 1163 :: .arraylength :: .if_icmp .ge 18 :: cb_52_6
-- 53: FogWatch$Tune.<init>()V
noncomputable def cb_53_0 : List Instr := .aload 0 :: .invokespecial 0 :: .aload 0 :: .iconst 20 :: .newarray .int :: .putfield 1281 :: .aload 0 :: .iconst 0 :: .putfield 1282 :: .return_ :: []
-- 54: FogWatch$Tune.clear()V
noncomputable def cb_54_0 : List Instr := .aload 0 :: .iconst 0 :: .putfield 1282 :: .return_ :: []
-- 55: FogWatch$Tune.note(I)I
noncomputable def cb_55_13 : List Instr := .ireturn :: []
noncomputable def cb_55_12 : List Instr := .iconst 0 :: cb_55_13
noncomputable def cb_55_7 : List Instr := .aload 0 :: .getfield 1281 :: .iload 1 :: .iaload :: .goto 13 :: cb_55_12
noncomputable def cb_55_2 : List Instr := .iload 1 :: .aload 0 :: .getfield 1281 :: .arraylength :: .if_icmp .ge 12 :: cb_55_7
noncomputable def cb_55_0 : List Instr := .iload 1 :: .ifCond .lt 12 :: cb_55_2
-- 56: FogWatch$Tune.read(LFogWatch$Tape;I)Z
noncomputable def cb_56_23 : List Instr := .aload 1 :: .invokeinterface 16 8 :: .freturn :: []
noncomputable def cb_56_11 : List Instr := .aload 0 :: .aload 1 :: .iconst 0 :: .iload 2 :: .invokeinterface 25 136 :: .aload 1 :: .invokeinterface 57 138 :: .aload 1 :: .iconst 59 :: .invokeinterface 22 72 :: .iinc 3 1 :: .goto 5 :: cb_56_23
noncomputable def cb_56_8 : List Instr := .aload 1 :: .invokeinterface 21 8 :: .ifCond .ne 23 :: cb_56_11
noncomputable def cb_56_5 : List Instr := .iload 3 :: .iconst 20 :: .if_icmp .gt 23 :: cb_56_8
noncomputable def cb_56_0 : List Instr := .aload 0 :: .iconst 0 :: .putfield 1282 :: .iconst 0 :: .istore 3 :: cb_56_5
-- 57: FogWatch$Tune.add(ILFogWatch$Tape;)V
noncomputable def cb_57_24 : List Instr := .return_ :: []
noncomputable def cb_57_12 : List Instr := .aload 0 :: .getfield 1281 :: .aload 0 :: .getfield 1282 :: .iload 1 :: .iastore :: .aload 0 :: .dup :: .getfield 1282 :: .iconst 1 :: .iadd :: .putfield 1282 :: cb_57_24
noncomputable def cb_57_6 : List Instr := .aload 2 :: .iconst 3 :: .aload 2 :: .getfield 1032 :: .invokeinterface 17 136 :: .goto 24 :: cb_57_12
noncomputable def cb_57_0 : List Instr := .aload 0 :: .getfield 1282 :: .aload 0 :: .getfield 1281 :: .arraylength :: .if_icmp .lt 12 :: cb_57_6
-- 58: FogWatch$Scene.<init>()V
noncomputable def cb_58_0 : List Instr := .aload 0 :: .invokespecial 0 :: .aload 0 :: .iconst 60 :: .putfield 512 :: .aload 0 :: .iconst 0 :: .putfield 514 :: .aload 0 :: .iconst 0 :: .putfield 516 :: .aload 0 :: .iconst 0 :: .putfield 518 :: .aload 0 :: .iconst (-1) :: .putfield 520 :: .aload 0 :: .iconst 0 :: .putfield 522 :: .aload 0 :: .iconst 20 :: .newarray .int :: .putfield 525 :: .return_ :: []
-- 59: FogWatch$Scene.begin(LFogWatch$Town;)V
noncomputable def cb_59_48 : List Instr := .return_ :: []
noncomputable def cb_59_24 : List Instr := .aload 0 :: .iload 2 :: .iconst 0 :: .aload 1 :: .iload 2 :: .invokeinterface 44 73 :: .invokeinterface 62 196 :: .aload 0 :: .iload 2 :: .iconst 1 :: .iconst (-1) :: .invokeinterface 62 196 :: .aload 0 :: .iload 2 :: .iconst 2 :: .iconst 0 :: .invokeinterface 62 196 :: .aload 0 :: .iload 2 :: .iconst 3 :: .iconst 0 :: .invokeinterface 62 196 :: .iinc 2 1 :: .goto 21 :: cb_59_48
noncomputable def cb_59_21 : List Instr := .iload 2 :: .iconst 5 :: .if_icmp .ge 48 :: cb_59_24
noncomputable def cb_59_0 : List Instr := .aload 0 :: .aload 1 :: .getfield 1156 :: .putfield 512 :: .aload 0 :: .iconst 0 :: .putfield 514 :: .aload 0 :: .iconst 0 :: .putfield 516 :: .aload 0 :: .iconst 0 :: .putfield 518 :: .aload 0 :: .iconst (-1) :: .putfield 520 :: .aload 0 :: .iconst 0 :: .putfield 522 :: .iconst 0 :: .istore 2 :: cb_59_21
-- 60: FogWatch$Scene.copyFrom(LFogWatch$Scene;)V
noncomputable def cb_60_39 : List Instr := .return_ :: []
noncomputable def cb_60_29 : List Instr := .aload 0 :: .getfield 525 :: .iload 2 :: .aload 1 :: .getfield 525 :: .iload 2 :: .iaload :: .iastore :: .iinc 2 1 :: .goto 26 :: cb_60_39
noncomputable def cb_60_26 : List Instr := .iload 2 :: .iconst 20 :: .if_icmp .ge 39 :: cb_60_29
noncomputable def cb_60_0 : List Instr := .aload 0 :: .aload 1 :: .getfield 512 :: .putfield 512 :: .aload 0 :: .aload 1 :: .getfield 514 :: .putfield 514 :: .aload 0 :: .aload 1 :: .getfield 516 :: .putfield 516 :: .aload 0 :: .aload 1 :: .getfield 518 :: .putfield 518 :: .aload 0 :: .aload 1 :: .getfield 520 :: .putfield 520 :: .aload 0 :: .aload 1 :: .getfield 522 :: .putfield 522 :: .iconst 0 :: .istore 2 :: cb_60_26
-- 61: FogWatch$Scene.ofMan(II)I
noncomputable def cb_61_19 : List Instr := .ireturn :: []
noncomputable def cb_61_18 : List Instr := .iconst 0 :: cb_61_19
noncomputable def cb_61_13 : List Instr := .aload 0 :: .getfield 525 :: .iload 3 :: .iaload :: .goto 19 :: cb_61_18
noncomputable def cb_61_8 : List Instr := .iload 3 :: .aload 0 :: .getfield 525 :: .arraylength :: .if_icmp .ge 18 :: cb_61_13
noncomputable def cb_61_0 : List Instr := .iload 1 :: .iconst 4 :: .imul :: .iload 2 :: .iadd :: .istore 3 :: .iload 3 :: .ifCond .lt 18 :: cb_61_8
-- 62: FogWatch$Scene.setOfMan(III)V
noncomputable def cb_62_18 : List Instr := .return_ :: []
noncomputable def cb_62_13 : List Instr := .aload 0 :: .getfield 525 :: .iload 4 :: .iload 3 :: .iastore :: cb_62_18
noncomputable def cb_62_8 : List Instr := .iload 4 :: .aload 0 :: .getfield 525 :: .arraylength :: .if_icmp .ge 18 :: cb_62_13
noncomputable def cb_62_0 : List Instr := .iload 1 :: .iconst 4 :: .imul :: .iload 2 :: .iadd :: .istore 4 :: .iload 4 :: .ifCond .lt 18 :: cb_62_8
-- 63: FogWatch$Scene.isInFog(I)Z
noncomputable def cb_63_10 : List Instr := .freturn :: []
noncomputable def cb_63_9 : List Instr := .iconst 0 :: cb_63_10
noncomputable def cb_63_7 : List Instr := .iconst 1 :: .goto 10 :: cb_63_9
noncomputable def cb_63_0 : List Instr := .aload 0 :: .getfield 516 :: .iload 1 :: .ishr :: .iconst 1 :: .iand :: .ifCond .eq 9 :: cb_63_7
-- 64: FogWatch$Scene.peopled(I)I
noncomputable def cb_64_18 : List Instr := .iload 2 :: .ireturn :: []
noncomputable def cb_64_7 : List Instr := .iload 2 :: .iconst 1 :: .aload 0 :: .iload 3 :: .iconst 0 :: .invokeinterface 61 132 :: .ishl :: .ior :: .istore 2 :: .iinc 3 1 :: .goto 4 :: cb_64_18
noncomputable def cb_64_4 : List Instr := .iload 3 :: .iload 1 :: .if_icmp .ge 18 :: cb_64_7
noncomputable def cb_64_0 : List Instr := .iconst 0 :: .istore 2 :: .iconst 0 :: .istore 3 :: cb_64_4
-- 65: FogWatch$Scene.menIn(II)I
noncomputable def cb_65_22 : List Instr := .iload 3 :: .ireturn :: []
noncomputable def cb_65_7 : List Instr := .iload 3 :: .iload 1 :: .aload 0 :: .iload 4 :: .iconst 0 :: .invokeinterface 61 132 :: .ishr :: .iconst 1 :: .iand :: .iload 4 :: .ishl :: .ior :: .istore 3 :: .iinc 4 1 :: .goto 4 :: cb_65_22
noncomputable def cb_65_4 : List Instr := .iload 4 :: .iload 2 :: .if_icmp .ge 22 :: cb_65_7
noncomputable def cb_65_0 : List Instr := .iconst 0 :: .istore 3 :: .iconst 0 :: .istore 4 :: cb_65_4
-- 66: FogWatch$Scene.crowd(I)I
noncomputable def cb_66_32 : List Instr := .iload 3 :: .ireturn :: []
noncomputable def cb_66_9 : List Instr := .iconst 3 :: .aload 0 :: .iload 4 :: .iconst 0 :: .invokeinterface 61 132 :: .imul :: .istore 5 :: .iload 2 :: .iconst 1 :: .iload 5 :: .ishl :: .iadd :: .istore 2 :: .iload 3 :: .iload 2 :: .iload 5 :: .ishr :: .iconst 7 :: .iand :: .multianewarray 1 4 :: .istore 3 :: .iinc 4 1 :: .goto 6 :: cb_66_32
noncomputable def cb_66_6 : List Instr := .iload 4 :: .iload 1 :: .if_icmp .ge 32 :: cb_66_9
noncomputable def cb_66_0 : List Instr := .iconst 0 :: .istore 2 :: .iconst 0 :: .istore 3 :: .iconst 0 :: .istore 4 :: cb_66_6
-- 67: FogWatch$Scene.price(IILFogWatch$Law;)I
noncomputable def cb_67_8 : List Instr := .istore 4 :: .aload 3 :: .iload 1 :: .aload 0 :: .getfield 518 :: .iload 4 :: .aload 0 :: .getfield 516 :: .multianewarray 0 2 :: .aload 0 :: .iload 2 :: .invokeinterface 66 68 :: .aload 0 :: .getfield 514 :: .aload 0 :: .getfield 512 :: .invokeinterface 37 449 :: .ireturn :: []
noncomputable def cb_67_7 : List Instr := .iconst 0 :: cb_67_8
noncomputable def cb_67_4 : List Instr := .aload 0 :: .getfield 522 :: .goto 8 :: cb_67_7
noncomputable def cb_67_0 : List Instr := .aload 0 :: .getfield 520 :: .iload 1 :: .if_icmp .ne 7 :: cb_67_4
-- 68: FogWatch$Scene.blow(ILFogWatch$Town;LFogWatch$Law;)Z
noncomputable def cb_68_53 : List Instr := .iconst 1 :: .freturn :: []
noncomputable def cb_68_46 : List Instr := .aload 0 :: .iload 5 :: .iload 1 :: .aload 2 :: .invokeinterface 69 196 :: .iinc 5 1 :: .goto 42 :: cb_68_53
noncomputable def cb_68_42 : List Instr := .iload 5 :: .aload 2 :: .getfield 1154 :: .if_icmp .ge 53 :: cb_68_46
noncomputable def cb_68_36 : List Instr := .putfield 522 :: .aload 0 :: .iload 1 :: .putfield 520 :: .iconst 0 :: .istore 5 :: cb_68_42
noncomputable def cb_68_35 : List Instr := .iconst 1 :: cb_68_36
noncomputable def cb_68_30 : List Instr := .aload 0 :: .getfield 522 :: .iconst 1 :: .iadd :: .goto 36 :: cb_68_35
noncomputable def cb_68_13 : List Instr := .aload 0 :: .dup :: .getfield 512 :: .iload 4 :: .isub :: .putfield 512 :: .aload 0 :: .dup :: .getfield 518 :: .iconst 1 :: .iadd :: .putfield 518 :: .aload 0 :: .aload 0 :: .getfield 520 :: .iload 1 :: .if_icmp .ne 35 :: cb_68_30
noncomputable def cb_68_11 : List Instr := .iconst 0 :: .freturn :: cb_68_13
noncomputable def cb_68_0 : List Instr := .aload 0 :: .iload 1 :: .aload 2 :: .getfield 1154 :: .aload 3 :: .invokeinterface 67 196 :: .istore 4 :: .iload 4 :: .aload 0 :: .getfield 512 :: .if_icmp .le 13 :: cb_68_11
-- 69: FogWatch$Scene.moveMan(IILFogWatch$Town;)V
noncomputable def cb_69_20 : List Instr := .aload 3 :: .iload 4 :: .iload 2 :: .invokeinterface 43 137 :: .istore 5 :: .aload 0 :: .iload 1 :: .iconst 0 :: .iload 5 :: .invokeinterface 62 196 :: .aload 0 :: .iload 1 :: .iconst 1 :: .aload 3 :: .iload 5 :: .invokeinterface 42 73 :: .invokeinterface 62 196 :: .aload 0 :: .iload 1 :: .iconst 2 :: .aload 0 :: .iload 1 :: .iconst 2 :: .invokeinterface 61 132 :: .iconst 1 :: .iadd :: .invokeinterface 62 196 :: .return_ :: []
noncomputable def cb_69_9 : List Instr := .aload 0 :: .iload 1 :: .iconst 3 :: .aload 0 :: .iload 1 :: .iconst 3 :: .invokeinterface 61 132 :: .iconst 1 :: .iadd :: .invokeinterface 62 196 :: .return_ :: cb_69_20
noncomputable def cb_69_0 : List Instr := .aload 0 :: .iload 1 :: .iconst 0 :: .invokeinterface 61 132 :: .istore 4 :: .aload 0 :: .iload 4 :: .invokeinterface 63 68 :: .ifCond .eq 20 :: cb_69_9
-- 70: FogWatch$Scene.turnFog(I)Z
noncomputable def cb_70_0 : List Instr := .aload 0 :: .dup :: .getfield 516 :: .iconst 1 :: .iload 1 :: .ishl :: .ixor :: .putfield 516 :: .iconst 1 :: .freturn :: []
-- 71: FogWatch$Scene.rest(I)Z
noncomputable def cb_71_6 : List Instr := .aload 0 :: .iconst 200 :: .aload 0 :: .getfield 512 :: .iload 1 :: .iadd :: .multianewarray 2 4 :: .putfield 512 :: .iconst 1 :: .freturn :: []
noncomputable def cb_71_4 : List Instr := .iconst 0 :: .freturn :: cb_71_6
noncomputable def cb_71_0 : List Instr := .aload 0 :: .getfield 512 :: .iconst 200 :: .if_icmp .lt 6 :: cb_71_4
-- 72: FogWatch$Scene.walk(II)Z
noncomputable def cb_72_8 : List Instr := .aload 0 :: .iload 1 :: .iconst 0 :: .iload 2 :: .invokeinterface 62 196 :: .iconst 1 :: .freturn :: []
noncomputable def cb_72_6 : List Instr := .iconst 0 :: .freturn :: cb_72_8
noncomputable def cb_72_0 : List Instr := .aload 0 :: .iload 1 :: .iconst 0 :: .invokeinterface 61 132 :: .iload 2 :: .if_icmp .ne 8 :: cb_72_6
-- 73: FogWatch$Scene.endNightByWork(LFogWatch$Town;)Z
noncomputable def cb_73_6 : List Instr := .aload 0 :: .aload 1 :: .invokeinterface 74 68 :: .iconst 1 :: .freturn :: []
noncomputable def cb_73_4 : List Instr := .iconst 0 :: .freturn :: cb_73_6
noncomputable def cb_73_0 : List Instr := .aload 0 :: .getfield 514 :: .iconst 400 :: .if_icmp .lt 6 :: cb_73_4
-- 74: FogWatch$Scene.endNight(LFogWatch$Town;)V
noncomputable def cb_74_0 : List Instr := .aload 0 :: .iconst (-1) :: .putfield 520 :: .aload 0 :: .iconst 0 :: .putfield 522 :: .aload 0 :: .aload 1 :: .aload 0 :: .getfield 516 :: .iconst 1 :: .invokeinterface 45 137 :: .putfield 516 :: .aload 0 :: .dup :: .getfield 514 :: .iconst 1 :: .iadd :: .putfield 514 :: .return_ :: []
-- 75: FogWatch$Steps.<init>()V
noncomputable def cb_75_0 : List Instr := .aload 0 :: .invokespecial 0 :: .aload 0 :: .iconst 150 :: .newarray .int :: .putfield 641 :: .aload 0 :: .iconst 150 :: .newarray .int :: .putfield 643 :: .aload 0 :: .iconst 150 :: .newarray .int :: .putfield 645 :: .aload 0 :: .iconst 150 :: .newarray .int :: .putfield 647 :: .aload 0 :: .iconst 0 :: .putfield 648 :: .aload 0 :: .iconst 0 :: .putfield 650 :: .return_ :: []
-- 76: FogWatch$Steps.forget()V
noncomputable def cb_76_0 : List Instr := .aload 0 :: .iconst 0 :: .putfield 650 :: .return_ :: []
-- 77: FogWatch$Steps.put(III)I
noncomputable def cb_77_9 : List Instr := .aload 0 :: .getfield 641 :: .aload 0 :: .getfield 648 :: .iload 1 :: .iastore :: .aload 0 :: .getfield 643 :: .aload 0 :: .getfield 648 :: .iload 2 :: .iastore :: .aload 0 :: .getfield 645 :: .aload 0 :: .getfield 648 :: .iload 3 :: .iastore :: .aload 0 :: .dup :: .getfield 648 :: .iconst 1 :: .iadd :: .putfield 648 :: .aload 0 :: .getfield 648 :: .iconst 1 :: .isub :: .ireturn :: []
noncomputable def cb_77_7 : List Instr := .iconst (-1) :: .ireturn :: cb_77_9
noncomputable def cb_77_3 : List Instr := .aload 0 :: .getfield 648 :: .iconst 150 :: .if_icmp .lt 9 :: cb_77_7
noncomputable def cb_77_0 : List Instr := .aload 0 :: .getfield 648 :: .ifCond .lt 7 :: cb_77_3
-- 78: FogWatch$Steps.read(LFogWatch$Tape;LFogWatch$Town;)Z
noncomputable def cb_78_0 : List Instr := .aload 0 :: .iconst 0 :: .putfield 648 :: .aload 0 :: .aload 1 :: .aload 2 :: .iconst 0 :: .invokeinterface 79 197 :: .aload 1 :: .invokeinterface 16 8 :: .freturn :: []
-- 79: FogWatch$Steps.readAll(LFogWatch$Tape;LFogWatch$Town;I)V
noncomputable def cb_79_31 : List Instr := .return_ :: []
noncomputable def cb_79_21 : List Instr := .aload 0 :: .aload 1 :: .aload 2 :: .iload 3 :: .invokeinterface 80 197 :: .aload 1 :: .iconst 59 :: .invokeinterface 22 72 :: .iinc 4 1 :: .goto 2 :: cb_79_31
noncomputable def cb_79_20 : List Instr := .return_ :: cb_79_21
noncomputable def cb_79_17 : List Instr := .iload 5 :: .iconst 93 :: .if_icmp .ne 21 :: cb_79_20
noncomputable def cb_79_16 : List Instr := .goto 20 :: cb_79_17
noncomputable def cb_79_13 : List Instr := .iload 5 :: .iconst (-1) :: .if_icmp .ne 21 :: cb_79_16
noncomputable def cb_79_8 : List Instr := .aload 1 :: .invokeinterface 19 8 :: .istore 5 :: .iload 3 :: .ifCond .ne 17 :: cb_79_13
noncomputable def cb_79_5 : List Instr := .aload 1 :: .invokeinterface 16 8 :: .ifCond .eq 31 :: cb_79_8
noncomputable def cb_79_2 : List Instr := .iload 4 :: .iconst 150 :: .if_icmp .ge 31 :: cb_79_5
noncomputable def cb_79_0 : List Instr := .iconst 0 :: .istore 4 :: cb_79_2
-- 80: FogWatch$Steps.readStep(LFogWatch$Tape;LFogWatch$Town;I)V
noncomputable def cb_80_61 : List Instr := .return_ :: []
noncomputable def cb_80_56 : List Instr := .aload 1 :: .iconst 1 :: .aload 1 :: .getfield 1032 :: .invokeinterface 17 136 :: cb_80_61
noncomputable def cb_80_50 : List Instr := .aload 0 :: .aload 1 :: .aload 2 :: .iload 3 :: .invokeinterface 83 197 :: .goto 61 :: cb_80_56
noncomputable def cb_80_43 : List Instr := .aload 0 :: .iconst 5 :: .iconst 0 :: .iconst 0 :: .invokeinterface 77 197 :: .pop :: .goto 61 :: cb_80_50
noncomputable def cb_80_38 : List Instr := .aload 0 :: .aload 1 :: .aload 2 :: .invokeinterface 82 133 :: .goto 61 :: cb_80_43
noncomputable def cb_80_28 : List Instr := .aload 0 :: .iconst 3 :: .aload 1 :: .iconst 1 :: .iconst 60 :: .invokeinterface 25 136 :: .iconst 0 :: .invokeinterface 77 197 :: .pop :: .goto 61 :: cb_80_38
noncomputable def cb_80_15 : List Instr := .aload 0 :: .iconst 2 :: .aload 1 :: .iconst 0 :: .aload 2 :: .getfield 1152 :: .iconst 1 :: .isub :: .invokeinterface 25 136 :: .iconst 0 :: .invokeinterface 77 197 :: .pop :: .goto 61 :: cb_80_28
noncomputable def cb_80_5 : List Instr := .aload 0 :: .iconst 1 :: .aload 1 :: .iconst 0 :: .iconst 3 :: .invokeinterface 25 136 :: .iconst 0 :: .invokeinterface 77 197 :: .pop :: .goto 61 :: cb_80_15
noncomputable def cb_80_0 : List Instr := .aload 1 :: .invokeinterface 23 8 :: .aload 1 :: .multianewarray 81 2 :: .tableswitch 56 1 6 #[5, 15, 28, 38, 43, 50] :: cb_80_5
-- 81: FogWatch$Steps.kindOf(LFogWatch$Tape;)I
noncomputable def cb_81_37 : List Instr := .ireturn :: []
noncomputable def cb_81_36 : List Instr := .iconst 0 :: cb_81_37
noncomputable def cb_81_34 : List Instr := .iconst 6 :: .goto 37 :: cb_81_36
noncomputable def cb_81_30 : List Instr := .aload 0 :: .ldc 16 :: .invokeinterface 24 72 :: .ifCond .eq 36 :: cb_81_34
noncomputable def cb_81_28 : List Instr := .iconst 5 :: .ireturn :: cb_81_30
noncomputable def cb_81_24 : List Instr := .aload 0 :: .ldc 10 :: .invokeinterface 24 72 :: .ifCond .eq 30 :: cb_81_28
noncomputable def cb_81_22 : List Instr := .iconst 4 :: .ireturn :: cb_81_24
noncomputable def cb_81_18 : List Instr := .aload 0 :: .ldc 15 :: .invokeinterface 24 72 :: .ifCond .eq 24 :: cb_81_22
noncomputable def cb_81_16 : List Instr := .iconst 3 :: .ireturn :: cb_81_18
noncomputable def cb_81_12 : List Instr := .aload 0 :: .ldc 14 :: .invokeinterface 24 72 :: .ifCond .eq 18 :: cb_81_16
noncomputable def cb_81_10 : List Instr := .iconst 2 :: .ireturn :: cb_81_12
noncomputable def cb_81_6 : List Instr := .aload 0 :: .ldc 8 :: .invokeinterface 24 72 :: .ifCond .eq 12 :: cb_81_10
noncomputable def cb_81_4 : List Instr := .iconst 1 :: .ireturn :: cb_81_6
noncomputable def cb_81_0 : List Instr := .aload 0 :: .ldc 13 :: .invokeinterface 24 72 :: .ifCond .eq 6 :: cb_81_4
-- 82: FogWatch$Steps.readWalk(LFogWatch$Tape;LFogWatch$Town;)V
noncomputable def cb_82_0 : List Instr := .aload 1 :: .iconst 0 :: .aload 2 :: .getfield 1154 :: .iconst 1 :: .isub :: .invokeinterface 25 136 :: .istore 3 :: .aload 0 :: .iconst 4 :: .iload 3 :: .aload 1 :: .iconst 0 :: .aload 2 :: .getfield 1152 :: .iconst 1 :: .isub :: .invokeinterface 25 136 :: .invokeinterface 77 197 :: .pop :: .return_ :: []
-- 83: FogWatch$Steps.readAgain(LFogWatch$Tape;LFogWatch$Town;I)V
noncomputable def cb_83_47 : List Instr := .return_ :: []
noncomputable def cb_83_42 : List Instr := .aload 0 :: .getfield 645 :: .iload 4 :: .iload 5 :: .iastore :: cb_83_47
noncomputable def cb_83_39 : List Instr := .iload 4 :: .iconst 150 :: .if_icmp .ge 47 :: cb_83_42
noncomputable def cb_83_9 : List Instr := .aload 0 :: .iconst 6 :: .aload 1 :: .iconst 0 :: .iconst 40 :: .invokeinterface 25 136 :: .iconst 0 :: .invokeinterface 77 197 :: .istore 4 :: .aload 1 :: .iconst 91 :: .invokeinterface 22 72 :: .aload 0 :: .aload 1 :: .aload 2 :: .iload 3 :: .iconst 1 :: .iadd :: .invokeinterface 79 197 :: .aload 1 :: .iconst 93 :: .invokeinterface 22 72 :: .aload 0 :: .iconst 7 :: .iload 4 :: .iconst 0 :: .invokeinterface 77 197 :: .istore 5 :: .iload 4 :: .ifCond .lt 47 :: cb_83_39
noncomputable def cb_83_3 : List Instr := .aload 1 :: .iconst 3 :: .aload 1 :: .getfield 1032 :: .invokeinterface 17 136 :: .return_ :: cb_83_9
noncomputable def cb_83_0 : List Instr := .iload 3 :: .iconst 6 :: .if_icmp .lt 9 :: cb_83_3
-- 84: FogWatch$Steps.perform(LFogWatch$Scene;LFogWatch$Town;LFogWatch$Law;)I
noncomputable def cb_84_86 : List Instr := .iload 5 :: .ireturn :: []
noncomputable def cb_84_84 : List Instr := .iinc 7 1 :: .goto 11 :: cb_84_86
noncomputable def cb_84_83 : List Instr := .iinc 6 1 :: cb_84_84
noncomputable def cb_84_77 : List Instr := .aload 0 :: .dup :: .getfield 650 :: .iconst 1 :: .iadd :: .putfield 650 :: cb_84_83
noncomputable def cb_84_75 : List Instr := .iinc 5 1 :: .goto 83 :: cb_84_77
noncomputable def cb_84_68 : List Instr := .aload 0 :: .iload 6 :: .aload 1 :: .aload 2 :: .aload 3 :: .invokeinterface 86 261 :: .ifCond .eq 77 :: cb_84_75
noncomputable def cb_84_66 : List Instr := .istore 6 :: .goto 84 :: cb_84_68
noncomputable def cb_84_60 : List Instr := .aload 0 :: .getfield 645 :: .iload 6 :: .iaload :: .iconst 1 :: .iadd :: cb_84_66
noncomputable def cb_84_56 : List Instr := .iload 6 :: .iconst 1 :: .iadd :: .goto 66 :: cb_84_60
noncomputable def cb_84_43 : List Instr := .aload 0 :: .getfield 647 :: .iload 6 :: .aload 0 :: .getfield 643 :: .iload 6 :: .iaload :: .iastore :: .aload 0 :: .getfield 647 :: .iload 6 :: .iaload :: .ifCond .le 60 :: cb_84_56
noncomputable def cb_84_36 : List Instr := .iinc 4 1 :: .aload 0 :: .getfield 641 :: .iload 6 :: .iaload :: .iconst 6 :: .if_icmp .ne 68 :: cb_84_43
noncomputable def cb_84_34 : List Instr := .iload 5 :: .ireturn :: cb_84_36
noncomputable def cb_84_31 : List Instr := .iload 4 :: .iconst 200 :: .if_icmp .lt 36 :: cb_84_34
noncomputable def cb_84_26 : List Instr := .aload 0 :: .iload 6 :: .invokeinterface 85 69 :: .istore 6 :: .goto 84 :: cb_84_31
noncomputable def cb_84_20 : List Instr := .aload 0 :: .getfield 641 :: .iload 6 :: .iaload :: .iconst 7 :: .if_icmp .ne 31 :: cb_84_26
noncomputable def cb_84_16 : List Instr := .iload 6 :: .aload 0 :: .getfield 648 :: .if_icmp .ge 86 :: cb_84_20
noncomputable def cb_84_14 : List Instr := .iload 6 :: .ifCond .lt 86 :: cb_84_16
noncomputable def cb_84_11 : List Instr := .iload 7 :: .iconst 8400 :: .if_icmp .ge 86 :: cb_84_14
noncomputable def cb_84_0 : List Instr := .iconst 0 :: .istore 4 :: .iconst 0 :: .istore 5 :: .iconst 0 :: .istore 6 :: .aload 0 :: .iconst 0 :: .putfield 650 :: .iconst 0 :: .istore 7 :: cb_84_11
-- 85: FogWatch$Steps.behindClosing(I)I
noncomputable def cb_85_34 : List Instr := .ireturn :: []
noncomputable def cb_85_31 : List Instr := .iload 1 :: .iconst 1 :: .iadd :: cb_85_34
noncomputable def cb_85_27 : List Instr := .iload 2 :: .iconst 1 :: .iadd :: .goto 34 :: cb_85_31
noncomputable def cb_85_14 : List Instr := .aload 0 :: .getfield 647 :: .iload 2 :: .dup2 :: .iaload :: .iconst 1 :: .isub :: .iastore :: .aload 0 :: .getfield 647 :: .iload 2 :: .iaload :: .ifCond .le 31 :: cb_85_27
noncomputable def cb_85_10 : List Instr := .iload 1 :: .iconst 1 :: .iadd :: .ireturn :: cb_85_14
noncomputable def cb_85_7 : List Instr := .iload 2 :: .iconst 150 :: .if_icmp .lt 14 :: cb_85_10
noncomputable def cb_85_0 : List Instr := .aload 0 :: .getfield 643 :: .iload 1 :: .iaload :: .istore 2 :: .iload 2 :: .ifCond .lt 10 :: cb_85_7
-- 86: FogWatch$Steps.takeStep(ILFogWatch$Scene;LFogWatch$Town;LFogWatch$Law;)Z
noncomputable def cb_86_39 : List Instr := .aload 2 :: .aload 3 :: .invokeinterface 73 68 :: .freturn :: []
noncomputable def cb_86_28 : List Instr := .aload 2 :: .aload 0 :: .getfield 643 :: .iload 1 :: .iaload :: .aload 0 :: .getfield 645 :: .iload 1 :: .iaload :: .invokeinterface 72 132 :: .freturn :: cb_86_39
noncomputable def cb_86_21 : List Instr := .aload 2 :: .aload 0 :: .getfield 643 :: .iload 1 :: .iaload :: .invokeinterface 71 68 :: .freturn :: cb_86_28
noncomputable def cb_86_14 : List Instr := .aload 2 :: .aload 0 :: .getfield 643 :: .iload 1 :: .iaload :: .invokeinterface 70 68 :: .freturn :: cb_86_21
noncomputable def cb_86_5 : List Instr := .aload 2 :: .aload 0 :: .getfield 643 :: .iload 1 :: .iaload :: .aload 3 :: .aload 4 :: .invokeinterface 68 196 :: .freturn :: cb_86_14
noncomputable def cb_86_0 : List Instr := .aload 0 :: .getfield 641 :: .iload 1 :: .iaload :: .tableswitch 39 1 4 #[5, 14, 21, 28] :: cb_86_5
-- 87: FogWatch$Story.<init>()V
noncomputable def cb_87_30 : List Instr := .return_ :: []
noncomputable def cb_87_21 : List Instr := .aload 0 :: .getfield 771 :: .iload 1 :: .new 4 :: .dup :: .invokeinterface 58 36 :: .aastore :: .iinc 1 1 :: .goto 16 :: cb_87_30
noncomputable def cb_87_16 : List Instr := .iload 1 :: .aload 0 :: .getfield 771 :: .arraylength :: .if_icmp .ge 30 :: cb_87_21
noncomputable def cb_87_0 : List Instr := .aload 0 :: .invokespecial 0 :: .aload 0 :: .new 4 :: .dup :: .invokeinterface 58 36 :: .putfield 769 :: .aload 0 :: .iconst 16 :: .anewarray 3 :: .putfield 771 :: .aload 0 :: .iconst 0 :: .putfield 772 :: .iconst 0 :: .istore 1 :: cb_87_16
-- 88: FogWatch$Story.begin(LFogWatch$Town;)V
noncomputable def cb_88_0 : List Instr := .aload 0 :: .getfield 769 :: .aload 1 :: .invokeinterface 59 68 :: .aload 0 :: .iconst 0 :: .putfield 772 :: .return_ :: []
-- 89: FogWatch$Story.remember()V
noncomputable def cb_89_23 : List Instr := .return_ :: []
noncomputable def cb_89_9 : List Instr := .aload 0 :: .getfield 771 :: .aload 0 :: .getfield 772 :: .aaload :: .aload 0 :: .getfield 769 :: .invokeinterface 60 68 :: .aload 0 :: .dup :: .getfield 772 :: .iconst 1 :: .iadd :: .putfield 772 :: cb_89_23
noncomputable def cb_89_3 : List Instr := .aload 0 :: .getfield 772 :: .aload 0 :: .getfield 771 :: .arraylength :: .if_icmp .ge 23 :: cb_89_9
noncomputable def cb_89_0 : List Instr := .aload 0 :: .getfield 772 :: .ifCond .lt 23 :: cb_89_3
-- 90: FogWatch$Story.goBack()Z
noncomputable def cb_90_11 : List Instr := .aload 0 :: .dup :: .getfield 772 :: .iconst 1 :: .isub :: .putfield 772 :: .aload 0 :: .getfield 769 :: .aload 0 :: .getfield 771 :: .aload 0 :: .getfield 772 :: .aaload :: .invokeinterface 60 68 :: .iconst 1 :: .freturn :: []
noncomputable def cb_90_9 : List Instr := .iconst 0 :: .freturn :: cb_90_11
noncomputable def cb_90_3 : List Instr := .aload 0 :: .getfield 772 :: .aload 0 :: .getfield 771 :: .arraylength :: .if_icmp .le 11 :: cb_90_9
noncomputable def cb_90_0 : List Instr := .aload 0 :: .getfield 772 :: .ifCond .le 9 :: cb_90_3
-- 91: FogWatch$Story.copyFrom(LFogWatch$Story;)V
noncomputable def cb_91_29 : List Instr := .return_ :: []
noncomputable def cb_91_18 : List Instr := .aload 0 :: .getfield 771 :: .iload 2 :: .aaload :: .aload 1 :: .getfield 771 :: .iload 2 :: .aaload :: .invokeinterface 60 68 :: .iinc 2 1 :: .goto 11 :: cb_91_29
noncomputable def cb_91_15 : List Instr := .iload 2 :: .iconst 16 :: .if_icmp .ge 29 :: cb_91_18
noncomputable def cb_91_11 : List Instr := .iload 2 :: .aload 0 :: .getfield 772 :: .if_icmp .ge 29 :: cb_91_15
noncomputable def cb_91_0 : List Instr := .aload 0 :: .getfield 769 :: .aload 1 :: .getfield 769 :: .invokeinterface 60 68 :: .aload 0 :: .aload 1 :: .getfield 772 :: .putfield 772 :: .iconst 0 :: .istore 2 :: cb_91_11
-- 92: FogWatch$Streets.<init>()V
noncomputable def cb_92_0 : List Instr := .aload 0 :: .invokespecial 0 :: .aload 0 :: .iconst 0 :: .putfield 896 :: .aload 0 :: .iconst (-1) :: .putfield 898 :: .aload 0 :: .iconst 40 :: .newarray .int :: .putfield 901 :: .aload 0 :: .iconst 128 :: .newarray .int :: .putfield 903 :: .aload 0 :: .iconst 128 :: .newarray .int :: .putfield 905 :: .aload 0 :: .iconst 10 :: .newarray .long :: .putfield 907 :: .aload 0 :: .iconst 10 :: .newarray .long :: .putfield 909 :: .return_ :: []
-- 93: FogWatch$Streets.forget()V
noncomputable def cb_93_0 : List Instr := .aload 0 :: .iconst (-1) :: .putfield 898 :: .return_ :: []
-- 94: FogWatch$Streets.lay(LFogWatch$Town;I)Z
noncomputable def cb_94_69 : List Instr := .iconst 1 :: .freturn :: []
noncomputable def cb_94_55 : List Instr := .aload 0 :: .aload 0 :: .getfield 903 :: .iload 3 :: .iconst 0 :: .invokeinterface 95 199 :: .aload 0 :: .aload 0 :: .getfield 905 :: .iload 3 :: .iconst 5 :: .invokeinterface 95 199 :: .iinc 3 1 :: .goto 15 :: cb_94_69
noncomputable def cb_94_52 : List Instr := .iastore :: .iinc 4 1 :: .goto 20 :: cb_94_55
noncomputable def cb_94_51 : List Instr := .iload 4 :: cb_94_52
noncomputable def cb_94_46 : List Instr := .aload 1 :: .iload 4 :: .iload 3 :: .invokeinterface 43 137 :: .goto 52 :: cb_94_51
noncomputable def cb_94_36 : List Instr := .istore 5 :: .aload 0 :: .getfield 901 :: .iload 3 :: .iconst 10 :: .imul :: .iload 4 :: .iadd :: .iload 5 :: .ifCond .eq 51 :: cb_94_46
noncomputable def cb_94_35 : List Instr := .iconst 0 :: cb_94_36
noncomputable def cb_94_33 : List Instr := .iconst 1 :: .goto 36 :: cb_94_35
noncomputable def cb_94_27 : List Instr := .iload 2 :: .iload 4 :: .ishr :: .iconst 1 :: .iand :: .ifCond .ne 35 :: cb_94_33
noncomputable def cb_94_23 : List Instr := .iload 4 :: .aload 0 :: .getfield 896 :: .if_icmp .ge 35 :: cb_94_27
noncomputable def cb_94_20 : List Instr := .iload 4 :: .iconst 10 :: .if_icmp .ge 55 :: cb_94_23
noncomputable def cb_94_18 : List Instr := .iconst 0 :: .istore 4 :: cb_94_20
noncomputable def cb_94_15 : List Instr := .iload 3 :: .iconst 4 :: .if_icmp .ge 69 :: cb_94_18
noncomputable def cb_94_6 : List Instr := .aload 0 :: .iload 2 :: .putfield 898 :: .aload 0 :: .aload 1 :: .getfield 1152 :: .putfield 896 :: .iconst 0 :: .istore 3 :: cb_94_15
noncomputable def cb_94_4 : List Instr := .iconst 0 :: .freturn :: cb_94_6
noncomputable def cb_94_0 : List Instr := .iload 2 :: .aload 0 :: .getfield 898 :: .if_icmp .ne 6 :: cb_94_4
-- 95: FogWatch$Streets.fillHalf([III)V
noncomputable def cb_95_49 : List Instr := .return_ :: []
noncomputable def cb_95_47 : List Instr := .iinc 4 1 :: .goto 2 :: cb_95_49
noncomputable def cb_95_43 : List Instr := .aload 1 :: .iload 6 :: .iload 5 :: .iastore :: cb_95_47
noncomputable def cb_95_39 : List Instr := .iload 6 :: .aload 1 :: .arraylength :: .if_icmp .ge 47 :: cb_95_43
noncomputable def cb_95_31 : List Instr := .iload 2 :: .iconst 32 :: .imul :: .iload 4 :: .iadd :: .istore 6 :: .iload 6 :: .ifCond .lt 47 :: cb_95_39
noncomputable def cb_95_29 : List Instr := .iinc 6 1 :: .goto 9 :: cb_95_31
noncomputable def cb_95_18 : List Instr := .iload 5 :: .iconst 1 :: .aload 0 :: .iload 3 :: .iload 6 :: .iadd :: .iload 2 :: .invokeinterface 96 135 :: .ishl :: .ior :: .istore 5 :: cb_95_29
noncomputable def cb_95_12 : List Instr := .iload 4 :: .iload 6 :: .ishr :: .iconst 1 :: .iand :: .ifCond .eq 29 :: cb_95_18
noncomputable def cb_95_9 : List Instr := .iload 6 :: .iconst 5 :: .if_icmp .ge 31 :: cb_95_12
noncomputable def cb_95_5 : List Instr := .iconst 0 :: .istore 5 :: .iconst 0 :: .istore 6 :: cb_95_9
noncomputable def cb_95_2 : List Instr := .iload 4 :: .iconst 32 :: .if_icmp .ge 49 :: cb_95_5
noncomputable def cb_95_0 : List Instr := .iconst 0 :: .istore 4 :: cb_95_2
-- 96: FogWatch$Streets.next(II)I
noncomputable def cb_96_19 : List Instr := .ireturn :: []
noncomputable def cb_96_18 : List Instr := .iconst 0 :: cb_96_19
noncomputable def cb_96_13 : List Instr := .aload 0 :: .getfield 901 :: .iload 3 :: .iaload :: .goto 19 :: cb_96_18
noncomputable def cb_96_8 : List Instr := .iload 3 :: .aload 0 :: .getfield 901 :: .arraylength :: .if_icmp .ge 18 :: cb_96_13
noncomputable def cb_96_0 : List Instr := .iload 2 :: .iconst 10 :: .imul :: .iload 1 :: .iadd :: .istore 3 :: .iload 3 :: .ifCond .lt 18 :: cb_96_8
-- 97: FogWatch$Streets.isFoggy(I)Z
noncomputable def cb_97_10 : List Instr := .freturn :: []
noncomputable def cb_97_9 : List Instr := .iconst 0 :: cb_97_10
noncomputable def cb_97_7 : List Instr := .iconst 1 :: .goto 10 :: cb_97_9
noncomputable def cb_97_0 : List Instr := .aload 0 :: .getfield 898 :: .iload 1 :: .ishr :: .iconst 1 :: .iand :: .ifCond .eq 9 :: cb_97_7
-- 98: FogWatch$Streets.bring(II)I
noncomputable def cb_98_34 : List Instr := .aload 0 :: .getfield 903 :: .iload 3 :: .iaload :: .aload 0 :: .getfield 905 :: .iload 4 :: .iaload :: .ior :: .ireturn :: []
noncomputable def cb_98_32 : List Instr := .iconst 0 :: .ireturn :: cb_98_34
noncomputable def cb_98_27 : List Instr := .iload 4 :: .aload 0 :: .getfield 905 :: .arraylength :: .if_icmp .lt 34 :: cb_98_32
noncomputable def cb_98_22 : List Instr := .iload 3 :: .aload 0 :: .getfield 903 :: .arraylength :: .if_icmp .ge 32 :: cb_98_27
noncomputable def cb_98_20 : List Instr := .iload 4 :: .ifCond .lt 32 :: cb_98_22
noncomputable def cb_98_0 : List Instr := .iload 2 :: .iconst 32 :: .imul :: .iload 1 :: .iconst 31 :: .iand :: .iadd :: .istore 3 :: .iload 2 :: .iconst 32 :: .imul :: .iload 1 :: .iconst 5 :: .ishr :: .iconst 31 :: .iand :: .iadd :: .istore 4 :: .iload 3 :: .ifCond .lt 32 :: cb_98_20
-- 99: FogWatch$Streets.staysAt(I)Z
noncomputable def cb_99_15 : List Instr := .iconst 1 :: .freturn :: []
noncomputable def cb_99_13 : List Instr := .iinc 2 1 :: .goto 2 :: cb_99_15
noncomputable def cb_99_11 : List Instr := .iconst 0 :: .freturn :: cb_99_13
noncomputable def cb_99_5 : List Instr := .aload 0 :: .iload 1 :: .iload 2 :: .invokeinterface 96 135 :: .iload 1 :: .if_icmp .eq 13 :: cb_99_11
noncomputable def cb_99_2 : List Instr := .iload 2 :: .iconst 4 :: .if_icmp .ge 15 :: cb_99_5
noncomputable def cb_99_0 : List Instr := .iconst 0 :: .istore 2 :: cb_99_2
-- 100: FogWatch$Streets.afterTune(ILFogWatch$Tune;)I
noncomputable def cb_100_17 : List Instr := .iload 3 :: .ireturn :: []
noncomputable def cb_100_8 : List Instr := .aload 0 :: .iload 3 :: .aload 2 :: .iload 4 :: .invokeinterface 55 74 :: .invokeinterface 96 135 :: .istore 3 :: .iinc 4 1 :: .goto 4 :: cb_100_17
noncomputable def cb_100_4 : List Instr := .iload 4 :: .aload 2 :: .getfield 1282 :: .if_icmp .ge 17 :: cb_100_8
noncomputable def cb_100_0 : List Instr := .iload 1 :: .istore 3 :: .iconst 0 :: .istore 4 :: cb_100_4
-- 101: FogWatch$Streets.startWeights(I)V
noncomputable def cb_101_0 : List Instr := .aload 0 :: .getfield 907 :: .ldc2_w 0 :: .multianewarray 3 4 :: .aload 0 :: .getfield 907 :: .iload 1 :: .ldc2_w 1 :: .multianewarray 103 6 :: .return_ :: []
-- 102: FogWatch$Streets.weightOf(I)J
noncomputable def cb_102_13 : List Instr := .lreturn :: []
noncomputable def cb_102_12 : List Instr := .ldc2_w 0 :: cb_102_13
noncomputable def cb_102_7 : List Instr := .aload 0 :: .getfield 907 :: .iload 1 :: .laload :: .goto 13 :: cb_102_12
noncomputable def cb_102_2 : List Instr := .iload 1 :: .aload 0 :: .getfield 907 :: .arraylength :: .if_icmp .ge 12 :: cb_102_7
noncomputable def cb_102_0 : List Instr := .iload 1 :: .ifCond .lt 12 :: cb_102_2
-- 103: FogWatch$Streets.addWeight([JIJ)V
noncomputable def cb_103_13 : List Instr := .return_ :: []
noncomputable def cb_103_6 : List Instr := .aload 0 :: .iload 1 :: .dup2 :: .laload :: .lload 2 :: .ladd :: .lastore :: cb_103_13
noncomputable def cb_103_2 : List Instr := .iload 1 :: .aload 0 :: .arraylength :: .if_icmp .ge 13 :: cb_103_6
noncomputable def cb_103_0 : List Instr := .iload 1 :: .ifCond .lt 13 :: cb_103_2
-- 104: FogWatch$Streets.spreadByAll()V
noncomputable def cb_104_29 : List Instr := .aload 0 :: .invokeinterface 106 7 :: .return_ :: []
noncomputable def cb_104_27 : List Instr := .iinc 1 1 :: .goto 6 :: cb_104_29
noncomputable def cb_104_15 : List Instr := .aload 0 :: .getfield 909 :: .aload 0 :: .iload 1 :: .iload 2 :: .invokeinterface 96 135 :: .aload 0 :: .iload 1 :: .invokeinterface 102 71 :: .multianewarray 103 6 :: .iinc 2 1 :: .goto 12 :: cb_104_27
noncomputable def cb_104_12 : List Instr := .iload 2 :: .iconst 4 :: .if_icmp .ge 27 :: cb_104_15
noncomputable def cb_104_10 : List Instr := .iconst 0 :: .istore 2 :: cb_104_12
noncomputable def cb_104_6 : List Instr := .iload 1 :: .aload 0 :: .getfield 896 :: .if_icmp .ge 29 :: cb_104_10
noncomputable def cb_104_0 : List Instr := .aload 0 :: .getfield 909 :: .ldc2_w 0 :: .multianewarray 3 4 :: .iconst 0 :: .istore 1 :: cb_104_6
-- 105: FogWatch$Streets.spreadByChance(II)V
noncomputable def cb_105_37 : List Instr := .aload 0 :: .invokeinterface 106 7 :: .return_ :: []
noncomputable def cb_105_10 : List Instr := .aload 0 :: .getfield 909 :: .iload 3 :: .aload 0 :: .iload 3 :: .invokeinterface 102 71 :: .iload 2 :: .i2l :: .lmul :: .multianewarray 103 6 :: .aload 0 :: .getfield 909 :: .aload 0 :: .iload 3 :: .iload 1 :: .invokeinterface 96 135 :: .aload 0 :: .iload 3 :: .invokeinterface 102 71 :: .iconst 16 :: .iload 2 :: .isub :: .i2l :: .lmul :: .multianewarray 103 6 :: .iinc 3 1 :: .goto 6 :: cb_105_37
noncomputable def cb_105_6 : List Instr := .iload 3 :: .aload 0 :: .getfield 896 :: .if_icmp .ge 37 :: cb_105_10
noncomputable def cb_105_0 : List Instr := .aload 0 :: .getfield 909 :: .ldc2_w 0 :: .multianewarray 3 4 :: .iconst 0 :: .istore 3 :: cb_105_6
-- 106: FogWatch$Streets.swapWeights()V
noncomputable def cb_106_0 : List Instr := .aload 0 :: .getfield 909 :: .astore 1 :: .aload 0 :: .aload 0 :: .getfield 907 :: .putfield 909 :: .aload 0 :: .aload 1 :: .putfield 907 :: .return_ :: []
-- 107: FogWatch$Gather.<init>()V
noncomputable def cb_107_0 : List Instr := .aload 0 :: .invokespecial 0 :: .aload 0 :: .iconst 1024 :: .newarray .int :: .putfield 1 :: .aload 0 :: .iconst 1024 :: .newarray .int :: .putfield 3 :: .aload 0 :: .iconst 1024 :: .newarray .int :: .putfield 5 :: .aload 0 :: .iconst 1024 :: .newarray .int :: .putfield 7 :: .aload 0 :: .iconst 4 :: .newarray .int :: .putfield 9 :: .aload 0 :: .iconst 4 :: .newarray .int :: .putfield 11 :: .aload 0 :: .iconst 0 :: .putfield 12 :: .aload 0 :: .iconst (-1) :: .putfield 14 :: .aload 0 :: .iconst (-1) :: .putfield 16 :: .aload 0 :: .iconst (-1) :: .putfield 18 :: .return_ :: []
-- 108: FogWatch$Gather.forget()V
noncomputable def cb_108_0 : List Instr := .aload 0 :: .iconst (-1) :: .putfield 14 :: .aload 0 :: .iconst (-1) :: .putfield 16 :: .aload 0 :: .iconst (-1) :: .putfield 18 :: .return_ :: []
-- 109: FogWatch$Gather.find(LFogWatch$Streets;II)V
noncomputable def cb_109_9 : List Instr := .aload 0 :: .iload 2 :: .putfield 14 :: .aload 0 :: .iload 3 :: .putfield 16 :: .aload 0 :: .aload 0 :: .aload 1 :: .iload 2 :: .iload 3 :: .invokeinterface 117 192 :: .putfield 18 :: .return_ :: []
noncomputable def cb_109_8 : List Instr := .return_ :: cb_109_9
noncomputable def cb_109_4 : List Instr := .iload 3 :: .aload 0 :: .getfield 16 :: .if_icmp .ne 9 :: cb_109_8
noncomputable def cb_109_0 : List Instr := .iload 2 :: .aload 0 :: .getfield 14 :: .if_icmp .ne 9 :: cb_109_4
-- 110: FogWatch$Gather.length()I
noncomputable def cb_110_14 : List Instr := .ireturn :: []
noncomputable def cb_110_13 : List Instr := .iconst (-1) :: cb_110_14
noncomputable def cb_110_7 : List Instr := .aload 0 :: .getfield 3 :: .aload 0 :: .getfield 18 :: .iaload :: .goto 14 :: cb_110_13
noncomputable def cb_110_3 : List Instr := .aload 0 :: .getfield 18 :: .iconst 1024 :: .if_icmp .ge 13 :: cb_110_7
noncomputable def cb_110_0 : List Instr := .aload 0 :: .getfield 18 :: .ifCond .lt 13 :: cb_110_3
-- 111: FogWatch$Gather.meeting()I
noncomputable def cb_111_10 : List Instr := .ireturn :: []
noncomputable def cb_111_9 : List Instr := .iconst (-1) :: cb_111_10
noncomputable def cb_111_3 : List Instr := .aload 0 :: .getfield 18 :: .iconst 1 :: .isub :: .multianewarray 0 2 :: .goto 10 :: cb_111_9
noncomputable def cb_111_0 : List Instr := .aload 0 :: .getfield 18 :: .ifCond .le 9 :: cb_111_3
-- 112: FogWatch$Gather.whistle(I)I
noncomputable def cb_112_43 : List Instr := .ireturn :: []
noncomputable def cb_112_42 : List Instr := .iconst (-1) :: cb_112_43
noncomputable def cb_112_37 : List Instr := .aload 0 :: .getfield 7 :: .iload 3 :: .iaload :: .goto 43 :: cb_112_42
noncomputable def cb_112_34 : List Instr := .iload 3 :: .iconst 1024 :: .if_icmp .ge 42 :: cb_112_37
noncomputable def cb_112_32 : List Instr := .iload 3 :: .ifCond .lt 42 :: cb_112_34
noncomputable def cb_112_25 : List Instr := .aload 0 :: .getfield 5 :: .iload 3 :: .iaload :: .istore 3 :: .iinc 4 (-1) :: .goto 17 :: cb_112_32
noncomputable def cb_112_22 : List Instr := .iload 3 :: .iconst 1024 :: .if_icmp .ge 32 :: cb_112_25
noncomputable def cb_112_20 : List Instr := .iload 3 :: .ifCond .lt 32 :: cb_112_22
noncomputable def cb_112_17 : List Instr := .iload 4 :: .iload 1 :: .if_icmp .le 32 :: cb_112_20
noncomputable def cb_112_10 : List Instr := .aload 0 :: .getfield 18 :: .istore 3 :: .iload 2 :: .iconst 1 :: .isub :: .istore 4 :: cb_112_17
noncomputable def cb_112_8 : List Instr := .iconst (-1) :: .ireturn :: cb_112_10
noncomputable def cb_112_5 : List Instr := .iload 1 :: .iload 2 :: .if_icmp .lt 10 :: cb_112_8
noncomputable def cb_112_0 : List Instr := .aload 0 :: .invokeinterface 110 0 :: .istore 2 :: .iload 1 :: .ifCond .lt 8 :: cb_112_5
-- 113: FogWatch$Gather.isAim(II)Z
noncomputable def cb_113_11 : List Instr := .freturn :: []
noncomputable def cb_113_10 : List Instr := .iconst 0 :: cb_113_11
noncomputable def cb_113_8 : List Instr := .iconst 1 :: .goto 11 :: cb_113_10
noncomputable def cb_113_5 : List Instr := .iload 0 :: .iload 1 :: .if_icmp .ne 10 :: cb_113_8
noncomputable def cb_113_2 : List Instr := .iload 0 :: .multianewarray 197 3 :: .goto 11 :: cb_113_5
noncomputable def cb_113_0 : List Instr := .iload 1 :: .ifCond .ne 5 :: cb_113_2
-- 114: FogWatch$Gather.start(I)V
noncomputable def cb_114_0 : List Instr := .aload 0 :: .getfield 3 :: .iconst (-1) :: .multianewarray 4 4 :: .aload 0 :: .iconst 0 :: .putfield 12 :: .aload 0 :: .iload 1 :: .iconst 0 :: .invokeinterface 115 128 :: .return_ :: []
-- 115: FogWatch$Gather.add(II)V
noncomputable def cb_115_26 : List Instr := .return_ :: []
noncomputable def cb_115_9 : List Instr := .aload 0 :: .getfield 3 :: .iload 1 :: .iload 2 :: .iastore :: .aload 0 :: .getfield 1 :: .aload 0 :: .getfield 12 :: .iload 1 :: .iastore :: .aload 0 :: .dup :: .getfield 12 :: .iconst 1 :: .iadd :: .putfield 12 :: cb_115_26
noncomputable def cb_115_5 : List Instr := .aload 0 :: .getfield 12 :: .iconst 1024 :: .if_icmp .ge 26 :: cb_115_9
noncomputable def cb_115_2 : List Instr := .iload 1 :: .iconst 1024 :: .if_icmp .ge 26 :: cb_115_5
noncomputable def cb_115_0 : List Instr := .iload 1 :: .ifCond .lt 26 :: cb_115_2
-- 116: FogWatch$Gather.isNew(I)Z
noncomputable def cb_116_14 : List Instr := .freturn :: []
noncomputable def cb_116_13 : List Instr := .iconst 0 :: cb_116_14
noncomputable def cb_116_11 : List Instr := .iconst 1 :: .goto 14 :: cb_116_13
noncomputable def cb_116_5 : List Instr := .aload 0 :: .getfield 3 :: .iload 1 :: .iaload :: .iconst (-1) :: .if_icmp .ne 13 :: cb_116_11
noncomputable def cb_116_2 : List Instr := .iload 1 :: .iconst 1024 :: .if_icmp .ge 13 :: cb_116_5
noncomputable def cb_116_0 : List Instr := .iload 1 :: .ifCond .lt 13 :: cb_116_2
-- 117: FogWatch$Gather.search(LFogWatch$Streets;II)I
noncomputable def cb_117_67 : List Instr := .iconst (-1) :: .ireturn :: []
noncomputable def cb_117_65 : List Instr := .iinc 4 1 :: .goto 11 :: cb_117_67
noncomputable def cb_117_63 : List Instr := .iinc 6 1 :: .goto 25 :: cb_117_65
noncomputable def cb_117_61 : List Instr := .iload 7 :: .ireturn :: cb_117_63
noncomputable def cb_117_38 : List Instr := .aload 0 :: .getfield 5 :: .iload 7 :: .iload 5 :: .iastore :: .aload 0 :: .getfield 7 :: .iload 7 :: .iload 6 :: .iastore :: .aload 0 :: .iload 7 :: .aload 0 :: .getfield 3 :: .iload 5 :: .iaload :: .iconst 1 :: .iadd :: .invokeinterface 115 128 :: .iload 7 :: .iload 3 :: .multianewarray 113 4 :: .ifCond .eq 63 :: cb_117_61
noncomputable def cb_117_37 : List Instr := .goto 63 :: cb_117_38
noncomputable def cb_117_28 : List Instr := .aload 1 :: .iload 5 :: .iload 6 :: .invokeinterface 98 135 :: .istore 7 :: .aload 0 :: .iload 7 :: .invokeinterface 116 64 :: .ifCond .ne 38 :: cb_117_37
noncomputable def cb_117_25 : List Instr := .iload 6 :: .iconst 4 :: .if_icmp .ge 65 :: cb_117_28
noncomputable def cb_117_18 : List Instr := .aload 0 :: .getfield 1 :: .iload 4 :: .iaload :: .istore 5 :: .iconst 0 :: .istore 6 :: cb_117_25
noncomputable def cb_117_15 : List Instr := .iload 4 :: .iconst 1024 :: .if_icmp .ge 67 :: cb_117_18
noncomputable def cb_117_11 : List Instr := .iload 4 :: .aload 0 :: .getfield 12 :: .if_icmp .ge 67 :: cb_117_15
noncomputable def cb_117_9 : List Instr := .iconst 0 :: .istore 4 :: cb_117_11
noncomputable def cb_117_7 : List Instr := .iload 2 :: .ireturn :: cb_117_9
noncomputable def cb_117_0 : List Instr := .aload 0 :: .iload 2 :: .invokeinterface 114 64 :: .iload 2 :: .iload 3 :: .multianewarray 113 4 :: .ifCond .eq 9 :: cb_117_7
-- 118: FogWatch$Gather.cheapest(LFogWatch$Streets;I)I
noncomputable def cb_118_67 : List Instr := .iconst (-1) :: .ireturn :: []
noncomputable def cb_118_65 : List Instr := .iinc 3 1 :: .goto 16 :: cb_118_67
noncomputable def cb_118_63 : List Instr := .iload 5 :: .ireturn :: cb_118_65
noncomputable def cb_118_56 : List Instr := .aload 0 :: .iload 6 :: .iload 5 :: .invokeinterface 115 128 :: .iload 6 :: .multianewarray 197 3 :: .ifCond .eq 65 :: cb_118_63
noncomputable def cb_118_29 : List Instr := .aload 0 :: .iload 4 :: .invokeinterface 120 64 :: .istore 5 :: .aload 1 :: .aload 0 :: .getfield 1 :: .aload 0 :: .getfield 9 :: .iload 4 :: .iaload :: .iaload :: .iload 4 :: .invokeinterface 98 135 :: .istore 6 :: .aload 0 :: .getfield 9 :: .iload 4 :: .dup2 :: .iaload :: .iconst 1 :: .iadd :: .iastore :: .aload 0 :: .iload 6 :: .invokeinterface 116 64 :: .ifCond .eq 65 :: cb_118_56
noncomputable def cb_118_27 : List Instr := .iconst (-1) :: .ireturn :: cb_118_29
noncomputable def cb_118_24 : List Instr := .iload 4 :: .iconst 4 :: .if_icmp .lt 29 :: cb_118_27
noncomputable def cb_118_19 : List Instr := .aload 0 :: .invokeinterface 119 0 :: .istore 4 :: .iload 4 :: .ifCond .lt 27 :: cb_118_24
noncomputable def cb_118_16 : List Instr := .iload 3 :: .iconst 4096 :: .if_icmp .ge 67 :: cb_118_19
noncomputable def cb_118_14 : List Instr := .iconst 0 :: .istore 3 :: cb_118_16
noncomputable def cb_118_12 : List Instr := .iconst 0 :: .ireturn :: cb_118_14
noncomputable def cb_118_0 : List Instr := .aload 0 :: .invokeinterface 108 0 :: .aload 0 :: .iload 2 :: .invokeinterface 114 64 :: .aload 0 :: .getfield 9 :: .iconst 0 :: .multianewarray 4 4 :: .iload 2 :: .multianewarray 197 3 :: .ifCond .eq 14 :: cb_118_12
-- 119: FogWatch$Gather.cheapestWhistle()I
noncomputable def cb_119_22 : List Instr := .iload 1 :: .ireturn :: []
noncomputable def cb_119_20 : List Instr := .iinc 3 1 :: .goto 6 :: cb_119_22
noncomputable def cb_119_16 : List Instr := .iload 3 :: .istore 1 :: .iload 4 :: .istore 2 :: cb_119_20
noncomputable def cb_119_9 : List Instr := .aload 0 :: .iload 3 :: .invokeinterface 120 64 :: .istore 4 :: .iload 4 :: .iload 2 :: .if_icmp .ge 20 :: cb_119_16
noncomputable def cb_119_6 : List Instr := .iload 3 :: .iconst 4 :: .if_icmp .ge 22 :: cb_119_9
noncomputable def cb_119_0 : List Instr := .iconst (-1) :: .istore 1 :: .iconst 2147483647 :: .istore 2 :: .iconst 0 :: .istore 3 :: cb_119_6
-- 120: FogWatch$Gather.priceBehindHead(I)I
noncomputable def cb_120_16 : List Instr := .aload 0 :: .getfield 3 :: .aload 0 :: .getfield 1 :: .iload 2 :: .iaload :: .iaload :: .aload 0 :: .getfield 11 :: .iload 1 :: .iaload :: .iadd :: .ireturn :: []
noncomputable def cb_120_14 : List Instr := .iconst 2147483647 :: .ireturn :: cb_120_16
noncomputable def cb_120_11 : List Instr := .iload 2 :: .iconst 1024 :: .if_icmp .lt 16 :: cb_120_14
noncomputable def cb_120_7 : List Instr := .iload 2 :: .aload 0 :: .getfield 12 :: .if_icmp .ge 14 :: cb_120_11
noncomputable def cb_120_0 : List Instr := .aload 0 :: .getfield 9 :: .iload 1 :: .iaload :: .istore 2 :: .iload 2 :: .ifCond .lt 14 :: cb_120_7
-- 121: FogWatch$Pairs.<init>()V
noncomputable def cb_121_0 : List Instr := .aload 0 :: .invokespecial 0 :: .aload 0 :: .iconst 100 :: .newarray .int :: .putfield 385 :: .return_ :: []
-- 122: FogWatch$Pairs.markOf(II)I
noncomputable def cb_122_19 : List Instr := .ireturn :: []
noncomputable def cb_122_18 : List Instr := .iconst (-1) :: cb_122_19
noncomputable def cb_122_13 : List Instr := .aload 0 :: .getfield 385 :: .iload 3 :: .iaload :: .goto 19 :: cb_122_18
noncomputable def cb_122_8 : List Instr := .iload 3 :: .aload 0 :: .getfield 385 :: .arraylength :: .if_icmp .ge 18 :: cb_122_13
noncomputable def cb_122_0 : List Instr := .iload 1 :: .iconst 10 :: .imul :: .iload 2 :: .iadd :: .istore 3 :: .iload 3 :: .ifCond .lt 18 :: cb_122_8
-- 123: FogWatch$Pairs.setBoth(III)V
noncomputable def cb_123_0 : List Instr := .aload 0 :: .iload 1 :: .iload 2 :: .iload 3 :: .invokeinterface 124 195 :: .aload 0 :: .iload 2 :: .iload 1 :: .iload 3 :: .invokeinterface 124 195 :: .return_ :: []
-- 124: FogWatch$Pairs.setMark(III)V
noncomputable def cb_124_18 : List Instr := .return_ :: []
noncomputable def cb_124_13 : List Instr := .aload 0 :: .getfield 385 :: .iload 4 :: .iload 3 :: .iastore :: cb_124_18
noncomputable def cb_124_8 : List Instr := .iload 4 :: .aload 0 :: .getfield 385 :: .arraylength :: .if_icmp .ge 18 :: cb_124_13
noncomputable def cb_124_0 : List Instr := .iload 1 :: .iconst 10 :: .imul :: .iload 2 :: .iadd :: .istore 4 :: .iload 4 :: .ifCond .lt 18 :: cb_124_8
-- 125: FogWatch$Pairs.unmarkedWith(II)I
noncomputable def cb_125_21 : List Instr := .iload 3 :: .ireturn :: []
noncomputable def cb_125_19 : List Instr := .iinc 4 1 :: .goto 4 :: cb_125_21
noncomputable def cb_125_13 : List Instr := .iload 3 :: .iconst 1 :: .iload 4 :: .ishl :: .ior :: .istore 3 :: cb_125_19
noncomputable def cb_125_7 : List Instr := .aload 0 :: .iload 1 :: .iload 4 :: .invokeinterface 122 131 :: .iconst (-1) :: .if_icmp .ne 19 :: cb_125_13
noncomputable def cb_125_4 : List Instr := .iload 4 :: .iload 2 :: .if_icmp .ge 21 :: cb_125_7
noncomputable def cb_125_0 : List Instr := .iconst 0 :: .istore 3 :: .iconst 0 :: .istore 4 :: cb_125_4
-- 126: FogWatch$Pairs.markBehind(LFogWatch$Streets;III)I
noncomputable def cb_126_0 : List Instr := .aload 0 :: .aload 1 :: .iload 2 :: .iload 4 :: .invokeinterface 96 135 :: .aload 1 :: .iload 3 :: .iload 4 :: .invokeinterface 96 135 :: .invokeinterface 122 131 :: .ireturn :: []
-- 127: FogWatch$Pairs.tellApart(LFogWatch$Streets;LFogWatch$Town;)V
noncomputable def cb_127_51 : List Instr := .return_ :: []
noncomputable def cb_127_44 : List Instr := .aload 0 :: .aload 1 :: .iload 4 :: .invokeinterface 128 131 :: .istore 3 :: .iinc 4 1 :: .goto 39 :: cb_127_51
noncomputable def cb_127_42 : List Instr := .iload 3 :: .ifCond .eq 51 :: cb_127_44
noncomputable def cb_127_39 : List Instr := .iload 4 :: .iconst 100 :: .if_icmp .gt 51 :: cb_127_42
noncomputable def cb_127_35 : List Instr := .iconst 1 :: .istore 3 :: .iconst 1 :: .istore 4 :: cb_127_39
noncomputable def cb_127_33 : List Instr := .iinc 3 1 :: .goto 2 :: cb_127_35
noncomputable def cb_127_30 : List Instr := .invokeinterface 123 195 :: .iinc 4 1 :: .goto 8 :: cb_127_33
noncomputable def cb_127_29 : List Instr := .iconst (-1) :: cb_127_30
noncomputable def cb_127_27 : List Instr := .iconst 0 :: .goto 30 :: cb_127_29
noncomputable def cb_127_21 : List Instr := .istore 5 :: .aload 0 :: .iload 3 :: .iload 4 :: .iload 5 :: .ifCond .eq 29 :: cb_127_27
noncomputable def cb_127_20 : List Instr := .iconst 0 :: cb_127_21
noncomputable def cb_127_18 : List Instr := .iconst 1 :: .goto 21 :: cb_127_20
noncomputable def cb_127_11 : List Instr := .aload 2 :: .iload 3 :: .invokeinterface 42 73 :: .aload 2 :: .iload 4 :: .invokeinterface 42 73 :: .if_icmp .eq 20 :: cb_127_18
noncomputable def cb_127_8 : List Instr := .iload 4 :: .iload 3 :: .if_icmp .gt 33 :: cb_127_11
noncomputable def cb_127_6 : List Instr := .iconst 0 :: .istore 4 :: cb_127_8
noncomputable def cb_127_2 : List Instr := .iload 3 :: .aload 1 :: .getfield 896 :: .if_icmp .ge 35 :: cb_127_6
noncomputable def cb_127_0 : List Instr := .iconst 0 :: .istore 3 :: cb_127_2
-- 128: FogWatch$Pairs.tellBy(LFogWatch$Streets;I)Z
noncomputable def cb_128_39 : List Instr := .iload 3 :: .freturn :: []
noncomputable def cb_128_37 : List Instr := .iinc 4 1 :: .goto 4 :: cb_128_39
noncomputable def cb_128_35 : List Instr := .iinc 5 1 :: .goto 10 :: cb_128_37
noncomputable def cb_128_28 : List Instr := .aload 0 :: .iload 4 :: .iload 5 :: .iload 2 :: .invokeinterface 123 195 :: .iconst 1 :: .istore 3 :: cb_128_35
noncomputable def cb_128_19 : List Instr := .aload 0 :: .aload 1 :: .iload 4 :: .iload 5 :: .iload 2 :: .iconst 1 :: .isub :: .invokeinterface 129 259 :: .ifCond .eq 35 :: cb_128_28
noncomputable def cb_128_13 : List Instr := .aload 0 :: .iload 4 :: .iload 5 :: .invokeinterface 122 131 :: .iconst (-1) :: .if_icmp .ne 35 :: cb_128_19
noncomputable def cb_128_10 : List Instr := .iload 5 :: .iload 4 :: .if_icmp .gt 37 :: cb_128_13
noncomputable def cb_128_8 : List Instr := .iconst 0 :: .istore 5 :: cb_128_10
noncomputable def cb_128_4 : List Instr := .iload 4 :: .aload 1 :: .getfield 896 :: .if_icmp .ge 39 :: cb_128_8
noncomputable def cb_128_0 : List Instr := .iconst 0 :: .istore 3 :: .iconst 0 :: .istore 4 :: cb_128_4
-- 129: FogWatch$Pairs.leadsToMark(LFogWatch$Streets;III)Z
noncomputable def cb_129_17 : List Instr := .iconst 0 :: .freturn :: []
noncomputable def cb_129_15 : List Instr := .iinc 5 1 :: .goto 2 :: cb_129_17
noncomputable def cb_129_13 : List Instr := .iconst 1 :: .freturn :: cb_129_15
noncomputable def cb_129_5 : List Instr := .aload 0 :: .aload 1 :: .iload 2 :: .iload 3 :: .iload 5 :: .invokeinterface 126 259 :: .iload 4 :: .if_icmp .ne 15 :: cb_129_13
noncomputable def cb_129_2 : List Instr := .iload 5 :: .iconst 4 :: .if_icmp .ge 17 :: cb_129_5
noncomputable def cb_129_0 : List Instr := .iconst 0 :: .istore 5 :: cb_129_2
-- 130: FogWatch$Pairs.allLeadToMark(LFogWatch$Streets;III)Z
noncomputable def cb_130_17 : List Instr := .iconst 1 :: .freturn :: []
noncomputable def cb_130_15 : List Instr := .iinc 5 1 :: .goto 2 :: cb_130_17
noncomputable def cb_130_13 : List Instr := .iconst 0 :: .freturn :: cb_130_15
noncomputable def cb_130_5 : List Instr := .aload 0 :: .aload 1 :: .iload 2 :: .iload 3 :: .iload 5 :: .invokeinterface 126 259 :: .iload 4 :: .if_icmp .eq 15 :: cb_130_13
noncomputable def cb_130_2 : List Instr := .iload 5 :: .iconst 4 :: .if_icmp .ge 17 :: cb_130_5
noncomputable def cb_130_0 : List Instr := .iconst 0 :: .istore 5 :: cb_130_2
-- 131: FogWatch$Pairs.playTurns(LFogWatch$Streets;)V
noncomputable def cb_131_40 : List Instr := .return_ :: []
noncomputable def cb_131_34 : List Instr := .aload 0 :: .aload 1 :: .invokeinterface 132 67 :: .istore 2 :: .iinc 3 1 :: .goto 29 :: cb_131_40
noncomputable def cb_131_32 : List Instr := .iload 2 :: .ifCond .eq 40 :: cb_131_34
noncomputable def cb_131_29 : List Instr := .iload 3 :: .iconst 100 :: .if_icmp .gt 40 :: cb_131_32
noncomputable def cb_131_25 : List Instr := .iconst 1 :: .istore 2 :: .iconst 0 :: .istore 3 :: cb_131_29
noncomputable def cb_131_23 : List Instr := .iinc 2 1 :: .goto 2 :: cb_131_25
noncomputable def cb_131_20 : List Instr := .invokeinterface 123 195 :: .iinc 3 1 :: .goto 8 :: cb_131_23
noncomputable def cb_131_19 : List Instr := .iconst 0 :: cb_131_20
noncomputable def cb_131_17 : List Instr := .iconst 2 :: .goto 20 :: cb_131_19
noncomputable def cb_131_11 : List Instr := .aload 0 :: .iload 2 :: .iload 3 :: .iload 2 :: .iload 3 :: .if_icmp .ne 19 :: cb_131_17
noncomputable def cb_131_8 : List Instr := .iload 3 :: .iload 2 :: .if_icmp .gt 23 :: cb_131_11
noncomputable def cb_131_6 : List Instr := .iconst 0 :: .istore 3 :: cb_131_8
noncomputable def cb_131_2 : List Instr := .iload 2 :: .aload 1 :: .getfield 896 :: .if_icmp .ge 25 :: cb_131_6
noncomputable def cb_131_0 : List Instr := .iconst 0 :: .istore 2 :: cb_131_2
-- 132: FogWatch$Pairs.settleTurns(LFogWatch$Streets;)Z
noncomputable def cb_132_41 : List Instr := .iload 2 :: .freturn :: []
noncomputable def cb_132_39 : List Instr := .iinc 3 1 :: .goto 4 :: cb_132_41
noncomputable def cb_132_37 : List Instr := .iinc 4 1 :: .goto 10 :: cb_132_39
noncomputable def cb_132_36 : List Instr := .istore 2 :: cb_132_37
noncomputable def cb_132_35 : List Instr := .iconst 0 :: cb_132_36
noncomputable def cb_132_33 : List Instr := .iconst 1 :: .goto 36 :: cb_132_35
noncomputable def cb_132_31 : List Instr := .iload 5 :: .ifCond .eq 35 :: cb_132_33
noncomputable def cb_132_18 : List Instr := .aload 0 :: .aload 1 :: .iload 3 :: .iload 4 :: .invokeinterface 133 195 :: .istore 5 :: .aload 0 :: .iload 3 :: .iload 4 :: .iload 5 :: .invokeinterface 123 195 :: .iload 2 :: .ifCond .ne 33 :: cb_132_31
noncomputable def cb_132_13 : List Instr := .aload 0 :: .iload 3 :: .iload 4 :: .invokeinterface 122 131 :: .ifCond .ne 37 :: cb_132_18
noncomputable def cb_132_10 : List Instr := .iload 4 :: .iload 3 :: .if_icmp .gt 39 :: cb_132_13
noncomputable def cb_132_8 : List Instr := .iconst 0 :: .istore 4 :: cb_132_10
noncomputable def cb_132_4 : List Instr := .iload 3 :: .aload 1 :: .getfield 896 :: .if_icmp .ge 41 :: cb_132_8
noncomputable def cb_132_0 : List Instr := .iconst 0 :: .istore 2 :: .iconst 0 :: .istore 3 :: cb_132_4
-- 133: FogWatch$Pairs.winner(LFogWatch$Streets;II)I
noncomputable def cb_133_19 : List Instr := .ireturn :: []
noncomputable def cb_133_18 : List Instr := .iconst 0 :: cb_133_19
noncomputable def cb_133_16 : List Instr := .iconst 2 :: .goto 19 :: cb_133_18
noncomputable def cb_133_9 : List Instr := .aload 0 :: .aload 1 :: .iload 2 :: .iload 3 :: .iconst 1 :: .invokeinterface 130 259 :: .ifCond .eq 18 :: cb_133_16
noncomputable def cb_133_7 : List Instr := .iconst 1 :: .ireturn :: cb_133_9
noncomputable def cb_133_0 : List Instr := .aload 0 :: .aload 1 :: .iload 2 :: .iload 3 :: .iconst 2 :: .invokeinterface 129 259 :: .ifCond .eq 9 :: cb_133_7
-- 134: FogWatch$Listener.<init>()V
noncomputable def cb_134_0 : List Instr := .aload 0 :: .invokespecial 0 :: .aload 0 :: .iconst 10 :: .newarray .int :: .putfield 257 :: .aload 0 :: .iconst 11 :: .newarray .int :: .putfield 259 :: .aload 0 :: .iconst 10 :: .newarray .int :: .putfield 261 :: .aload 0 :: .iconst (-1) :: .putfield 262 :: .aload 0 :: .iconst (-1) :: .putfield 264 :: .return_ :: []
-- 135: FogWatch$Listener.hear(LFogWatch$Streets;LFogWatch$Town;LFogWatch$Tune;LFogWatch$Tune;)V
noncomputable def cb_135_23 : List Instr := .return_ :: []
noncomputable def cb_135_11 : List Instr := .aload 0 :: .getfield 257 :: .iload 5 :: .iload 5 :: .aload 1 :: .aload 2 :: .aload 3 :: .aload 4 :: .multianewarray 136 10 :: .iastore :: .iinc 5 1 :: .goto 2 :: cb_135_23
noncomputable def cb_135_6 : List Instr := .iload 5 :: .aload 0 :: .getfield 257 :: .arraylength :: .if_icmp .ge 23 :: cb_135_11
noncomputable def cb_135_2 : List Instr := .iload 5 :: .aload 2 :: .getfield 1152 :: .if_icmp .ge 23 :: cb_135_6
noncomputable def cb_135_0 : List Instr := .iconst 0 :: .istore 5 :: cb_135_2
-- 136: FogWatch$Listener.endOf(ILFogWatch$Streets;LFogWatch$Town;LFogWatch$Tune;LFogWatch$Tune;)I
noncomputable def cb_136_37 : List Instr := .iload 5 :: .ireturn :: []
noncomputable def cb_136_35 : List Instr := .iinc 7 1 :: .goto 10 :: cb_136_37
noncomputable def cb_136_33 : List Instr := .iconst (-1) :: .ireturn :: cb_136_35
noncomputable def cb_136_19 : List Instr := .aload 1 :: .iload 5 :: .aload 3 :: .iload 7 :: .invokeinterface 55 74 :: .invokeinterface 96 135 :: .istore 5 :: .aload 2 :: .iload 5 :: .invokeinterface 42 73 :: .aload 4 :: .iload 7 :: .invokeinterface 55 74 :: .if_icmp .eq 35 :: cb_136_33
noncomputable def cb_136_17 : List Instr := .iconst (-1) :: .ireturn :: cb_136_19
noncomputable def cb_136_13 : List Instr := .aload 1 :: .iload 5 :: .invokeinterface 97 71 :: .ifCond .eq 19 :: cb_136_17
noncomputable def cb_136_10 : List Instr := .iload 7 :: .iload 6 :: .if_icmp .ge 37 :: cb_136_13
noncomputable def cb_136_0 : List Instr := .iload 0 :: .istore 5 :: .aload 3 :: .getfield 1282 :: .aload 4 :: .getfield 1282 :: .multianewarray 2 4 :: .istore 6 :: .iconst 0 :: .istore 7 :: cb_136_10
-- 137: FogWatch$Listener.fitting(I)I
noncomputable def cb_137_26 : List Instr := .iload 2 :: .ireturn :: []
noncomputable def cb_137_24 : List Instr := .iinc 3 1 :: .goto 4 :: cb_137_26
noncomputable def cb_137_18 : List Instr := .iload 2 :: .iconst 1 :: .iload 3 :: .ishl :: .ior :: .istore 2 :: cb_137_24
noncomputable def cb_137_12 : List Instr := .aload 0 :: .getfield 257 :: .iload 3 :: .iaload :: .iconst (-1) :: .if_icmp .eq 24 :: cb_137_18
noncomputable def cb_137_7 : List Instr := .iload 3 :: .aload 0 :: .getfield 257 :: .arraylength :: .if_icmp .ge 26 :: cb_137_12
noncomputable def cb_137_4 : List Instr := .iload 3 :: .iload 1 :: .if_icmp .ge 26 :: cb_137_7
noncomputable def cb_137_0 : List Instr := .iconst 0 :: .istore 2 :: .iconst 0 :: .istore 3 :: cb_137_4
-- 138: FogWatch$Listener.endings(I)I
noncomputable def cb_138_29 : List Instr := .iload 2 :: .ireturn :: []
noncomputable def cb_138_27 : List Instr := .iinc 3 1 :: .goto 4 :: cb_138_29
noncomputable def cb_138_18 : List Instr := .iload 2 :: .iconst 1 :: .aload 0 :: .getfield 257 :: .iload 3 :: .iaload :: .ishl :: .ior :: .istore 2 :: cb_138_27
noncomputable def cb_138_12 : List Instr := .aload 0 :: .getfield 257 :: .iload 3 :: .iaload :: .iconst (-1) :: .if_icmp .eq 27 :: cb_138_18
noncomputable def cb_138_7 : List Instr := .iload 3 :: .aload 0 :: .getfield 257 :: .arraylength :: .if_icmp .ge 29 :: cb_138_12
noncomputable def cb_138_4 : List Instr := .iload 3 :: .iload 1 :: .if_icmp .ge 29 :: cb_138_7
noncomputable def cb_138_0 : List Instr := .iconst 0 :: .istore 2 :: .iconst 0 :: .istore 3 :: cb_138_4
-- 139: FogWatch$Listener.chooseWhistle(LFogWatch$Streets;LFogWatch$Town;)V
noncomputable def cb_139_29 : List Instr := .return_ :: []
noncomputable def cb_139_27 : List Instr := .iinc 3 1 :: .goto 8 :: cb_139_29
noncomputable def cb_139_21 : List Instr := .aload 0 :: .iload 4 :: .putfield 264 :: .aload 0 :: .iload 3 :: .putfield 262 :: cb_139_27
noncomputable def cb_139_11 : List Instr := .aload 0 :: .aload 1 :: .aload 2 :: .iload 3 :: .invokeinterface 140 194 :: .istore 4 :: .iload 4 :: .aload 0 :: .getfield 264 :: .if_icmp .ge 27 :: cb_139_21
noncomputable def cb_139_8 : List Instr := .iload 3 :: .iconst 4 :: .if_icmp .ge 29 :: cb_139_11
noncomputable def cb_139_0 : List Instr := .aload 0 :: .iconst (-1) :: .putfield 262 :: .aload 0 :: .iconst 2147483647 :: .putfield 264 :: .iconst 0 :: .istore 3 :: cb_139_8
-- 140: FogWatch$Listener.mostLeft(LFogWatch$Streets;LFogWatch$Town;I)I
noncomputable def cb_140_49 : List Instr := .iload 4 :: .ireturn :: []
noncomputable def cb_140_47 : List Instr := .iinc 5 1 :: .goto 8 :: cb_140_49
noncomputable def cb_140_23 : List Instr := .aload 1 :: .aload 2 :: .aload 0 :: .getfield 257 :: .iload 5 :: .iaload :: .iload 3 :: .multianewarray 141 8 :: .istore 6 :: .aload 0 :: .getfield 259 :: .iload 6 :: .dup2 :: .iaload :: .iconst 1 :: .iadd :: .iastore :: .iload 4 :: .aload 0 :: .getfield 259 :: .iload 6 :: .iaload :: .multianewarray 1 4 :: .istore 4 :: cb_140_47
noncomputable def cb_140_17 : List Instr := .aload 0 :: .getfield 257 :: .iload 5 :: .iaload :: .iconst (-1) :: .if_icmp .eq 47 :: cb_140_23
noncomputable def cb_140_12 : List Instr := .iload 5 :: .aload 0 :: .getfield 257 :: .arraylength :: .if_icmp .ge 49 :: cb_140_17
noncomputable def cb_140_8 : List Instr := .iload 5 :: .aload 2 :: .getfield 1152 :: .if_icmp .ge 49 :: cb_140_12
noncomputable def cb_140_0 : List Instr := .aload 0 :: .getfield 259 :: .iconst 0 :: .multianewarray 4 4 :: .iconst 0 :: .istore 4 :: .iconst 0 :: .istore 5 :: cb_140_8
-- 141: FogWatch$Listener.bellBehind(LFogWatch$Streets;LFogWatch$Town;II)I
noncomputable def cb_141_21 : List Instr := .ireturn :: []
noncomputable def cb_141_20 : List Instr := .iconst 10 :: cb_141_21
noncomputable def cb_141_18 : List Instr := .iload 4 :: .goto 21 :: cb_141_20
noncomputable def cb_141_15 : List Instr := .iload 4 :: .iconst 10 :: .if_icmp .ge 20 :: cb_141_18
noncomputable def cb_141_6 : List Instr := .aload 1 :: .aload 0 :: .iload 2 :: .iload 3 :: .invokeinterface 96 135 :: .invokeinterface 42 73 :: .istore 4 :: .iload 4 :: .ifCond .lt 20 :: cb_141_15
noncomputable def cb_141_4 : List Instr := .iconst 10 :: .ireturn :: cb_141_6
noncomputable def cb_141_0 : List Instr := .aload 0 :: .iload 2 :: .invokeinterface 97 71 :: .ifCond .eq 6 :: cb_141_4
-- 142: FogWatch$Listener.roundOf(LFogWatch$Streets;LFogWatch$Tune;IZ)I
noncomputable def cb_142_47 : List Instr := .iconst (-1) :: .ireturn :: []
noncomputable def cb_142_35 : List Instr := .aload 0 :: .getfield 261 :: .iload 5 :: .iload 6 :: .iastore :: .aload 1 :: .iload 5 :: .aload 2 :: .invokeinterface 100 135 :: .istore 5 :: .iinc 6 1 :: .goto 8 :: cb_142_47
noncomputable def cb_142_34 : List Instr := .ireturn :: cb_142_35
noncomputable def cb_142_28 : List Instr := .iload 6 :: .aload 0 :: .getfield 261 :: .iload 5 :: .iaload :: .isub :: cb_142_34
noncomputable def cb_142_26 : List Instr := .iload 6 :: .goto 34 :: cb_142_28
noncomputable def cb_142_24 : List Instr := .iload 4 :: .ifCond .eq 28 :: cb_142_26
noncomputable def cb_142_18 : List Instr := .aload 0 :: .getfield 261 :: .iload 5 :: .iaload :: .iconst (-1) :: .if_icmp .eq 35 :: cb_142_24
noncomputable def cb_142_13 : List Instr := .iload 5 :: .aload 0 :: .getfield 261 :: .arraylength :: .if_icmp .ge 47 :: cb_142_18
noncomputable def cb_142_11 : List Instr := .iload 5 :: .ifCond .lt 47 :: cb_142_13
noncomputable def cb_142_8 : List Instr := .iload 6 :: .iconst 10 :: .if_icmp .gt 47 :: cb_142_11
noncomputable def cb_142_0 : List Instr := .aload 0 :: .getfield 261 :: .iconst (-1) :: .multianewarray 4 4 :: .iload 3 :: .istore 5 :: .iconst 0 :: .istore 6 :: cb_142_8
-- 143: FogWatch.<init>()V
noncomputable def cb_143_109 : List Instr := .aload 0 :: .getfield 1427 :: .aload 0 :: .getfield 1411 :: .invokeinterface 88 70 :: .return_ :: []
noncomputable def cb_143_100 : List Instr := .aload 0 :: .getfield 1429 :: .iload 1 :: .new 6 :: .dup :: .invokeinterface 87 38 :: .aastore :: .iinc 1 1 :: .goto 95 :: cb_143_109
noncomputable def cb_143_95 : List Instr := .iload 1 :: .aload 0 :: .getfield 1429 :: .arraylength :: .if_icmp .ge 109 :: cb_143_100
noncomputable def cb_143_0 : List Instr := .aload 0 :: .invokespecial 0 :: .aload 0 :: .new 8 :: .dup :: .invokeinterface 12 40 :: .putfield 1409 :: .aload 0 :: .new 9 :: .dup :: .invokeinterface 41 41 :: .putfield 1411 :: .aload 0 :: .new 9 :: .dup :: .invokeinterface 41 41 :: .putfield 1413 :: .aload 0 :: .new 1 :: .dup :: .invokeinterface 28 33 :: .putfield 1415 :: .aload 0 :: .new 1 :: .dup :: .invokeinterface 28 33 :: .putfield 1417 :: .aload 0 :: .new 5 :: .dup :: .invokeinterface 75 37 :: .putfield 1419 :: .aload 0 :: .new 10 :: .dup :: .invokeinterface 53 42 :: .putfield 1421 :: .aload 0 :: .new 10 :: .dup :: .invokeinterface 53 42 :: .putfield 1423 :: .aload 0 :: .new 10 :: .dup :: .invokeinterface 53 42 :: .putfield 1425 :: .aload 0 :: .new 6 :: .dup :: .invokeinterface 87 38 :: .putfield 1427 :: .aload 0 :: .iconst 3 :: .anewarray 4 :: .putfield 1429 :: .aload 0 :: .iconst 0 :: .putfield 1430 :: .aload 0 :: .new 7 :: .dup :: .invokeinterface 92 39 :: .putfield 1433 :: .aload 0 :: .new 0 :: .dup :: .invokeinterface 107 32 :: .putfield 1435 :: .aload 0 :: .new 3 :: .dup :: .invokeinterface 121 35 :: .putfield 1437 :: .aload 0 :: .new 2 :: .dup :: .invokeinterface 134 34 :: .putfield 1439 :: .aload 0 :: .new 4 :: .dup :: .invokeinterface 58 36 :: .putfield 1441 :: .aload 0 :: .iconst 0 :: .putfield 1442 :: .aload 0 :: .iconst 0 :: .putfield 1444 :: .aload 0 :: .iconst 0 :: .putfield 1446 :: .iconst 0 :: .istore 1 :: cb_143_95
-- 144: FogWatch.feed(IIIII)I
noncomputable def cb_144_0 : List Instr := .aload 0 :: .getfield 1409 :: .iload 1 :: .iload 2 :: .iload 3 :: .iload 4 :: .iload 5 :: .invokeinterface 13 328 :: .ireturn :: []
-- 145: FogWatch.town(I)I
noncomputable def cb_145_13 : List Instr := .aload 0 :: .getfield 1413 :: .astore 2 :: .aload 0 :: .aload 0 :: .getfield 1411 :: .putfield 1413 :: .aload 0 :: .aload 2 :: .putfield 1411 :: .aload 0 :: .getfield 1415 :: .invokeinterface 29 1 :: .aload 0 :: .getfield 1421 :: .invokeinterface 54 10 :: .aload 0 :: .getfield 1423 :: .invokeinterface 54 10 :: .aload 0 :: .iconst 0 :: .putfield 1430 :: .aload 0 :: .getfield 1427 :: .aload 0 :: .getfield 1411 :: .invokeinterface 88 70 :: .aload 0 :: .getfield 1419 :: .invokeinterface 76 5 :: .aload 0 :: .getfield 1433 :: .invokeinterface 93 7 :: .aload 0 :: .getfield 1411 :: .getfield 1152 :: .ireturn :: []
noncomputable def cb_145_10 : List Instr := .aload 0 :: .invokeinterface 190 11 :: .ireturn :: cb_145_13
noncomputable def cb_145_0 : List Instr := .aload 0 :: .iload 1 :: .iconst 600 :: .invokeinterface 189 139 :: .aload 0 :: .getfield 1413 :: .aload 0 :: .getfield 1409 :: .invokeinterface 46 73 :: .ifCond .ne 13 :: cb_145_10
-- 146: FogWatch.law(I)I
noncomputable def cb_146_13 : List Instr := .aload 0 :: .getfield 1417 :: .astore 2 :: .aload 0 :: .aload 0 :: .getfield 1415 :: .putfield 1417 :: .aload 0 :: .aload 2 :: .putfield 1415 :: .iconst 1 :: .ireturn :: []
noncomputable def cb_146_10 : List Instr := .aload 0 :: .invokeinterface 190 11 :: .ireturn :: cb_146_13
noncomputable def cb_146_0 : List Instr := .aload 0 :: .iload 1 :: .iconst 150 :: .invokeinterface 189 139 :: .aload 0 :: .getfield 1417 :: .aload 0 :: .getfield 1409 :: .invokeinterface 31 65 :: .ifCond .ne 13 :: cb_146_10
-- 147: FogWatch.work(I)I
noncomputable def cb_147_22 : List Instr := .aload 0 :: .getfield 1427 :: .invokeinterface 89 6 :: .aload 0 :: .getfield 1419 :: .aload 0 :: .getfield 1427 :: .getfield 769 :: .aload 0 :: .getfield 1411 :: .aload 0 :: .getfield 1415 :: .invokeinterface 84 197 :: .ireturn :: []
noncomputable def cb_147_19 : List Instr := .aload 0 :: .invokeinterface 190 11 :: .ireturn :: cb_147_22
noncomputable def cb_147_11 : List Instr := .aload 0 :: .getfield 1419 :: .aload 0 :: .getfield 1409 :: .aload 0 :: .getfield 1411 :: .invokeinterface 78 133 :: .ifCond .ne 22 :: cb_147_19
noncomputable def cb_147_9 : List Instr := .iconst (-20) :: .ireturn :: cb_147_11
noncomputable def cb_147_0 : List Instr := .aload 0 :: .iload 1 :: .iconst 150 :: .invokeinterface 189 139 :: .aload 0 :: .getfield 1427 :: .getfield 772 :: .iconst 16 :: .if_icmp .lt 11 :: cb_147_9
-- 148: FogWatch.song(I)I
noncomputable def cb_148_14 : List Instr := .aload 0 :: .getfield 1425 :: .astore 2 :: .aload 0 :: .aload 0 :: .getfield 1421 :: .putfield 1425 :: .aload 0 :: .aload 2 :: .putfield 1421 :: .aload 2 :: .getfield 1282 :: .ireturn :: []
noncomputable def cb_148_11 : List Instr := .aload 0 :: .invokeinterface 190 11 :: .ireturn :: cb_148_14
noncomputable def cb_148_0 : List Instr := .aload 0 :: .iload 1 :: .iconst 60 :: .invokeinterface 189 139 :: .aload 0 :: .getfield 1425 :: .aload 0 :: .getfield 1409 :: .iconst 3 :: .invokeinterface 56 138 :: .ifCond .ne 14 :: cb_148_11
-- 149: FogWatch.book(I)I
noncomputable def cb_149_14 : List Instr := .aload 0 :: .getfield 1425 :: .astore 2 :: .aload 0 :: .aload 0 :: .getfield 1423 :: .putfield 1425 :: .aload 0 :: .aload 2 :: .putfield 1423 :: .aload 2 :: .getfield 1282 :: .ireturn :: []
noncomputable def cb_149_11 : List Instr := .aload 0 :: .invokeinterface 190 11 :: .ireturn :: cb_149_14
noncomputable def cb_149_0 : List Instr := .aload 0 :: .iload 1 :: .iconst 60 :: .invokeinterface 189 139 :: .aload 0 :: .getfield 1425 :: .aload 0 :: .getfield 1409 :: .iconst 9 :: .invokeinterface 56 138 :: .ifCond .ne 14 :: cb_149_11
-- 150: FogWatch.fault()I
noncomputable def cb_150_0 : List Instr := .aload 0 :: .getfield 1409 :: .getfield 1036 :: .ireturn :: []
-- 151: FogWatch.undo()I
noncomputable def cb_151_6 : List Instr := .aload 0 :: .getfield 1419 :: .invokeinterface 76 5 :: .aload 0 :: .getfield 1427 :: .getfield 772 :: .ireturn :: []
noncomputable def cb_151_4 : List Instr := .iconst (-1) :: .ireturn :: cb_151_6
noncomputable def cb_151_0 : List Instr := .aload 0 :: .getfield 1427 :: .invokeinterface 90 6 :: .ifCond .ne 6 :: cb_151_4
-- 152: FogWatch.told(I)I
noncomputable def cb_152_52 : List Instr := .aload 2 :: .aload 0 :: .getfield 1411 :: .getfield 1154 :: .invokeinterface 66 68 :: .ireturn :: []
noncomputable def cb_152_48 : List Instr := .aload 0 :: .getfield 1419 :: .getfield 650 :: .ireturn :: cb_152_52
noncomputable def cb_152_44 : List Instr := .aload 0 :: .getfield 1423 :: .getfield 1282 :: .ireturn :: cb_152_48
noncomputable def cb_152_40 : List Instr := .aload 0 :: .getfield 1421 :: .getfield 1282 :: .ireturn :: cb_152_44
noncomputable def cb_152_34 : List Instr := .aload 2 :: .aload 0 :: .getfield 1411 :: .getfield 1154 :: .invokeinterface 64 68 :: .ireturn :: cb_152_40
noncomputable def cb_152_31 : List Instr := .aload 2 :: .getfield 520 :: .ireturn :: cb_152_34
noncomputable def cb_152_28 : List Instr := .aload 2 :: .getfield 518 :: .ireturn :: cb_152_31
noncomputable def cb_152_25 : List Instr := .aload 2 :: .getfield 516 :: .ireturn :: cb_152_28
noncomputable def cb_152_22 : List Instr := .aload 2 :: .getfield 514 :: .ireturn :: cb_152_25
noncomputable def cb_152_19 : List Instr := .aload 2 :: .getfield 512 :: .ireturn :: cb_152_22
noncomputable def cb_152_15 : List Instr := .aload 0 :: .getfield 1411 :: .getfield 1154 :: .ireturn :: cb_152_19
noncomputable def cb_152_11 : List Instr := .aload 0 :: .getfield 1411 :: .getfield 1152 :: .ireturn :: cb_152_15
noncomputable def cb_152_0 : List Instr := .aload 0 :: .iload 1 :: .iconst 0 :: .iconst 11 :: .invokeinterface 186 203 :: .aload 0 :: .getfield 1427 :: .getfield 769 :: .astore 2 :: .iload 1 :: .tableswitch 52 0 10 #[11, 15, 19, 22, 25, 28, 31, 34, 40, 44, 48] :: cb_152_11
-- 153: FogWatch.corner(II)I
noncomputable def cb_153_37 : List Instr := .ireturn :: []
noncomputable def cb_153_29 : List Instr := .aload 3 :: .iconst 1 :: .iload 1 :: .ishl :: .aload 0 :: .getfield 1411 :: .getfield 1154 :: .invokeinterface 65 132 :: cb_153_37
noncomputable def cb_153_22 : List Instr := .aload 3 :: .getfield 516 :: .iload 1 :: .ishr :: .iconst 1 :: .iand :: .goto 37 :: cb_153_29
noncomputable def cb_153_19 : List Instr := .iload 2 :: .iconst 1 :: .if_icmp .ne 29 :: cb_153_22
noncomputable def cb_153_14 : List Instr := .aload 0 :: .getfield 1411 :: .iload 1 :: .invokeinterface 42 73 :: .ireturn :: cb_153_19
noncomputable def cb_153_0 : List Instr := .aload 0 :: .iload 1 :: .invokeinterface 185 75 :: .aload 0 :: .iload 2 :: .iconst 0 :: .iconst 2 :: .invokeinterface 186 203 :: .aload 0 :: .getfield 1427 :: .getfield 769 :: .astore 3 :: .iload 2 :: .ifCond .ne 19 :: cb_153_14
-- 154: FogWatch.way(II)I
noncomputable def cb_154_0 : List Instr := .aload 0 :: .iload 1 :: .invokeinterface 185 75 :: .aload 0 :: .iload 2 :: .invokeinterface 187 75 :: .aload 0 :: .getfield 1411 :: .iload 1 :: .iload 2 :: .invokeinterface 43 137 :: .ireturn :: []
-- 155: FogWatch.man(II)I
noncomputable def cb_155_9 : List Instr := .aload 0 :: .iload 2 :: .iconst 0 :: .iconst 3 :: .invokeinterface 186 203 :: .aload 0 :: .getfield 1427 :: .getfield 769 :: .iload 1 :: .iload 2 :: .invokeinterface 61 132 :: .ireturn :: []
noncomputable def cb_155_7 : List Instr := .aload 0 :: .invokeinterface 184 11 :: cb_155_9
noncomputable def cb_155_2 : List Instr := .iload 1 :: .aload 0 :: .getfield 1411 :: .getfield 1154 :: .if_icmp .lt 9 :: cb_155_7
noncomputable def cb_155_0 : List Instr := .iload 1 :: .ifCond .lt 7 :: cb_155_2
-- 156: FogWatch.cost(I)I
noncomputable def cb_156_0 : List Instr := .aload 0 :: .iload 1 :: .invokeinterface 187 75 :: .aload 0 :: .getfield 1427 :: .getfield 769 :: .iload 1 :: .aload 0 :: .getfield 1411 :: .getfield 1154 :: .aload 0 :: .getfield 1415 :: .invokeinterface 67 196 :: .ireturn :: []
-- 157: FogWatch.would(IIIIIII)I
noncomputable def cb_157_0 : List Instr := .aload 0 :: .iload 1 :: .invokeinterface 187 75 :: .aload 0 :: .iload 2 :: .iconst 0 :: .iconst 999 :: .invokeinterface 186 203 :: .aload 0 :: .iload 3 :: .iconst 0 :: .iconst 999 :: .invokeinterface 186 203 :: .aload 0 :: .iload 4 :: .iconst 0 :: .iconst 10 :: .invokeinterface 186 203 :: .aload 0 :: .iload 5 :: .iconst 0 :: .iconst 5 :: .invokeinterface 186 203 :: .aload 0 :: .iload 6 :: .iconst 0 :: .iconst 400 :: .invokeinterface 186 203 :: .aload 0 :: .iload 7 :: .iconst 0 :: .iconst 200 :: .invokeinterface 186 203 :: .aload 0 :: .getfield 1415 :: .iload 1 :: .iload 2 :: .iload 3 :: .iload 4 :: .iload 5 :: .iload 6 :: .iload 7 :: .invokeinterface 37 449 :: .ireturn :: []
-- 158: FogWatch.ahead(II)I
noncomputable def cb_158_31 : List Instr := .ireturn :: []
noncomputable def cb_158_23 : List Instr := .aload 0 :: .getfield 1427 :: .getfield 769 :: .iload 3 :: .aload 0 :: .getfield 1411 :: .getfield 1154 :: .invokeinterface 65 132 :: cb_158_31
noncomputable def cb_158_21 : List Instr := .iload 3 :: .goto 31 :: cb_158_23
noncomputable def cb_158_0 : List Instr := .aload 0 :: .iload 1 :: .iconst 0 :: .iconst 99 :: .invokeinterface 186 203 :: .aload 0 :: .iload 2 :: .iconst 0 :: .iconst 1 :: .invokeinterface 186 203 :: .aload 0 :: .getfield 1411 :: .aload 0 :: .getfield 1427 :: .getfield 769 :: .getfield 516 :: .iload 1 :: .invokeinterface 45 137 :: .istore 3 :: .iload 2 :: .ifCond .ne 23 :: cb_158_21
-- 159: FogWatch.goes(I)I
noncomputable def cb_159_25 : List Instr := .iload 2 :: .ireturn :: []
noncomputable def cb_159_14 : List Instr := .aload 0 :: .getfield 1433 :: .iload 2 :: .aload 0 :: .getfield 1421 :: .iload 3 :: .invokeinterface 55 74 :: .invokeinterface 98 135 :: .istore 2 :: .iinc 3 1 :: .goto 9 :: cb_159_25
noncomputable def cb_159_9 : List Instr := .iload 3 :: .aload 0 :: .getfield 1421 :: .getfield 1282 :: .if_icmp .ge 25 :: cb_159_14
noncomputable def cb_159_0 : List Instr := .aload 0 :: .iload 1 :: .invokeinterface 188 75 :: .aload 0 :: .invokeinterface 191 11 :: .iload 1 :: .istore 2 :: .iconst 0 :: .istore 3 :: cb_159_9
-- 160: FogWatch.reset(II)I
noncomputable def cb_160_34 : List Instr := .ireturn :: []
noncomputable def cb_160_31 : List Instr := .aload 0 :: .getfield 1435 :: .invokeinterface 111 0 :: cb_160_34
noncomputable def cb_160_27 : List Instr := .aload 0 :: .getfield 1435 :: .invokeinterface 110 0 :: .goto 34 :: cb_160_31
noncomputable def cb_160_16 : List Instr := .aload 0 :: .invokeinterface 191 11 :: .aload 0 :: .getfield 1435 :: .aload 0 :: .getfield 1433 :: .iload 1 :: .iconst 0 :: .invokeinterface 109 192 :: .iload 2 :: .ifCond .ne 31 :: cb_160_27
noncomputable def cb_160_15 : List Instr := .ireturn :: cb_160_16
noncomputable def cb_160_14 : List Instr := .iconst (-1) :: cb_160_15
noncomputable def cb_160_12 : List Instr := .iconst 0 :: .goto 15 :: cb_160_14
noncomputable def cb_160_10 : List Instr := .iload 2 :: .ifCond .ne 14 :: cb_160_12
noncomputable def cb_160_0 : List Instr := .aload 0 :: .iload 1 :: .invokeinterface 188 75 :: .aload 0 :: .iload 2 :: .iconst 0 :: .iconst 1 :: .invokeinterface 186 203 :: .iload 1 :: .ifCond .ne 16 :: cb_160_10
-- 161: FogWatch.row(II)I
noncomputable def cb_161_12 : List Instr := .aload 0 :: .invokeinterface 191 11 :: .aload 0 :: .getfield 1435 :: .aload 0 :: .getfield 1433 :: .iload 1 :: .iconst 0 :: .invokeinterface 109 192 :: .aload 0 :: .getfield 1435 :: .iload 2 :: .invokeinterface 112 64 :: .ireturn :: []
noncomputable def cb_161_10 : List Instr := .iconst (-1) :: .ireturn :: cb_161_12
noncomputable def cb_161_0 : List Instr := .aload 0 :: .iload 1 :: .invokeinterface 188 75 :: .aload 0 :: .iload 2 :: .iconst 0 :: .iconst 2147483647 :: .invokeinterface 186 203 :: .iload 1 :: .ifCond .ne 12 :: cb_161_10
-- 162: FogWatch.home(II)I
noncomputable def cb_162_10 : List Instr := .aload 0 :: .invokeinterface 191 11 :: .aload 0 :: .getfield 1435 :: .aload 0 :: .getfield 1433 :: .iload 1 :: .iconst 1 :: .iload 2 :: .ishl :: .invokeinterface 109 192 :: .aload 0 :: .getfield 1435 :: .invokeinterface 110 0 :: .ireturn :: []
noncomputable def cb_162_8 : List Instr := .iconst 0 :: .ireturn :: cb_162_10
noncomputable def cb_162_0 : List Instr := .aload 0 :: .iload 2 :: .invokeinterface 185 75 :: .aload 0 :: .iload 1 :: .invokeinterface 188 75 :: .iload 1 :: .ifCond .ne 10 :: cb_162_8
-- 163: FogWatch.cheap(I)I
noncomputable def cb_163_31 : List Instr := .aload 0 :: .getfield 1435 :: .aload 0 :: .getfield 1433 :: .iload 1 :: .invokeinterface 118 128 :: .ireturn :: []
noncomputable def cb_163_14 : List Instr := .aload 0 :: .getfield 1435 :: .getfield 11 :: .iload 2 :: .aload 0 :: .getfield 1427 :: .getfield 769 :: .iload 2 :: .aload 0 :: .getfield 1411 :: .getfield 1154 :: .aload 0 :: .getfield 1415 :: .invokeinterface 67 196 :: .iastore :: .iinc 2 1 :: .goto 11 :: cb_163_31
noncomputable def cb_163_11 : List Instr := .iload 2 :: .iconst 4 :: .if_icmp .ge 31 :: cb_163_14
noncomputable def cb_163_7 : List Instr := .aload 0 :: .invokeinterface 191 11 :: .iconst 0 :: .istore 2 :: cb_163_11
noncomputable def cb_163_5 : List Instr := .iconst 0 :: .ireturn :: cb_163_7
noncomputable def cb_163_0 : List Instr := .aload 0 :: .iload 1 :: .invokeinterface 188 75 :: .iload 1 :: .ifCond .ne 7 :: cb_163_5
-- 164: FogWatch.apart(II)I
noncomputable def cb_164_0 : List Instr := .aload 0 :: .iload 1 :: .invokeinterface 185 75 :: .aload 0 :: .iload 2 :: .invokeinterface 185 75 :: .aload 0 :: .invokeinterface 191 11 :: .aload 0 :: .getfield 1437 :: .aload 0 :: .getfield 1433 :: .aload 0 :: .getfield 1411 :: .invokeinterface 127 131 :: .aload 0 :: .getfield 1437 :: .iload 1 :: .iload 2 :: .invokeinterface 122 131 :: .ireturn :: []
-- 165: FogWatch.alike(I)I
noncomputable def cb_165_0 : List Instr := .aload 0 :: .iload 1 :: .invokeinterface 185 75 :: .aload 0 :: .invokeinterface 191 11 :: .aload 0 :: .getfield 1437 :: .aload 0 :: .getfield 1433 :: .aload 0 :: .getfield 1411 :: .invokeinterface 127 131 :: .aload 0 :: .getfield 1437 :: .iload 1 :: .aload 0 :: .getfield 1411 :: .getfield 1152 :: .invokeinterface 125 131 :: .ireturn :: []
-- 166: FogWatch.kinds()I
noncomputable def cb_166_37 : List Instr := .iload 1 :: .ireturn :: []
noncomputable def cb_166_35 : List Instr := .iinc 2 1 :: .goto 13 :: cb_166_37
noncomputable def cb_166_34 : List Instr := .iinc 1 1 :: cb_166_35
noncomputable def cb_166_18 : List Instr := .iconst 1 :: .iload 2 :: .ishl :: .iconst 1 :: .isub :: .istore 3 :: .aload 0 :: .getfield 1437 :: .iload 2 :: .aload 0 :: .getfield 1411 :: .getfield 1152 :: .invokeinterface 125 131 :: .iload 3 :: .iand :: .ifCond .ne 35 :: cb_166_34
noncomputable def cb_166_13 : List Instr := .iload 2 :: .aload 0 :: .getfield 1411 :: .getfield 1152 :: .if_icmp .ge 37 :: cb_166_18
noncomputable def cb_166_0 : List Instr := .aload 0 :: .invokeinterface 191 11 :: .aload 0 :: .getfield 1437 :: .aload 0 :: .getfield 1433 :: .aload 0 :: .getfield 1411 :: .invokeinterface 127 131 :: .iconst 0 :: .istore 1 :: .iconst 0 :: .istore 2 :: cb_166_13
-- 167: FogWatch.rows(III)J
noncomputable def cb_167_27 : List Instr := .aload 0 :: .getfield 1433 :: .iload 2 :: .invokeinterface 102 71 :: .lreturn :: []
noncomputable def cb_167_22 : List Instr := .aload 0 :: .getfield 1433 :: .invokeinterface 104 7 :: .iinc 4 1 :: .goto 19 :: cb_167_27
noncomputable def cb_167_19 : List Instr := .iload 4 :: .iload 3 :: .if_icmp .ge 27 :: cb_167_22
noncomputable def cb_167_0 : List Instr := .aload 0 :: .iload 1 :: .invokeinterface 185 75 :: .aload 0 :: .iload 2 :: .invokeinterface 185 75 :: .aload 0 :: .iload 3 :: .iconst 0 :: .iconst 30 :: .invokeinterface 186 203 :: .aload 0 :: .invokeinterface 191 11 :: .aload 0 :: .getfield 1433 :: .iload 1 :: .invokeinterface 101 71 :: .iconst 0 :: .istore 4 :: cb_167_19
-- 168: FogWatch.ring(II)I
noncomputable def cb_168_22 : List Instr := .invokeinterface 142 258 :: .ireturn :: []
noncomputable def cb_168_21 : List Instr := .iconst 0 :: cb_168_22
noncomputable def cb_168_19 : List Instr := .iconst 1 :: .goto 22 :: cb_168_21
noncomputable def cb_168_0 : List Instr := .aload 0 :: .iload 1 :: .invokeinterface 185 75 :: .aload 0 :: .iload 2 :: .iconst 0 :: .iconst 1 :: .invokeinterface 186 203 :: .aload 0 :: .invokeinterface 191 11 :: .aload 0 :: .getfield 1439 :: .aload 0 :: .getfield 1433 :: .aload 0 :: .getfield 1421 :: .iload 1 :: .iload 2 :: .ifCond .ne 21 :: cb_168_19
-- 169: FogWatch.fits()I
noncomputable def cb_169_0 : List Instr := .aload 0 :: .invokeinterface 192 11 :: .aload 0 :: .getfield 1439 :: .aload 0 :: .getfield 1411 :: .getfield 1152 :: .invokeinterface 137 66 :: .ireturn :: []
-- 170: FogWatch.now()I
noncomputable def cb_170_0 : List Instr := .aload 0 :: .invokeinterface 192 11 :: .aload 0 :: .getfield 1439 :: .aload 0 :: .getfield 1411 :: .getfield 1152 :: .invokeinterface 138 66 :: .ireturn :: []
-- 171: FogWatch.look(I)I
noncomputable def cb_171_32 : List Instr := .ireturn :: []
noncomputable def cb_171_29 : List Instr := .aload 0 :: .getfield 1439 :: .getfield 264 :: cb_171_32
noncomputable def cb_171_25 : List Instr := .aload 0 :: .getfield 1439 :: .getfield 262 :: .goto 32 :: cb_171_29
noncomputable def cb_171_16 : List Instr := .aload 0 :: .getfield 1439 :: .aload 0 :: .getfield 1433 :: .aload 0 :: .getfield 1411 :: .invokeinterface 139 130 :: .iload 1 :: .ifCond .ne 29 :: cb_171_25
noncomputable def cb_171_14 : List Instr := .iconst (-1) :: .ireturn :: cb_171_16
noncomputable def cb_171_0 : List Instr := .aload 0 :: .iload 1 :: .iconst 0 :: .iconst 1 :: .invokeinterface 186 203 :: .aload 0 :: .invokeinterface 192 11 :: .aload 0 :: .getfield 1439 :: .aload 0 :: .getfield 1411 :: .getfield 1152 :: .invokeinterface 137 66 :: .ifCond .ne 16 :: cb_171_14
-- 172: FogWatch.chance(IIIII)J
noncomputable def cb_172_60 : List Instr := .multianewarray 196 6 :: .lreturn :: []
noncomputable def cb_172_59 : List Instr := .iconst 0 :: cb_172_60
noncomputable def cb_172_57 : List Instr := .iconst 1 :: .goto 60 :: cb_172_59
noncomputable def cb_172_48 : List Instr := .aload 0 :: .getfield 1433 :: .iload 2 :: .invokeinterface 102 71 :: .iconst 4 :: .iload 6 :: .imul :: .iload 5 :: .ifCond .ne 59 :: cb_172_57
noncomputable def cb_172_38 : List Instr := .aload 0 :: .getfield 1433 :: .aload 0 :: .getfield 1421 :: .iload 7 :: .invokeinterface 55 74 :: .iload 4 :: .invokeinterface 105 135 :: .iinc 7 1 :: .goto 35 :: cb_172_48
noncomputable def cb_172_35 : List Instr := .iload 7 :: .iload 6 :: .if_icmp .ge 48 :: cb_172_38
noncomputable def cb_172_0 : List Instr := .aload 0 :: .iload 1 :: .invokeinterface 185 75 :: .aload 0 :: .iload 2 :: .invokeinterface 185 75 :: .aload 0 :: .iload 3 :: .iconst 0 :: .iconst 12 :: .invokeinterface 186 203 :: .aload 0 :: .iload 4 :: .iconst 0 :: .iconst 16 :: .invokeinterface 186 203 :: .aload 0 :: .iload 5 :: .iconst 0 :: .iconst 1 :: .invokeinterface 186 203 :: .aload 0 :: .invokeinterface 191 11 :: .aload 0 :: .getfield 1433 :: .iload 1 :: .invokeinterface 101 71 :: .iload 3 :: .aload 0 :: .getfield 1421 :: .getfield 1282 :: .multianewarray 2 4 :: .istore 6 :: .iconst 0 :: .istore 7 :: cb_172_35
-- 173: FogWatch.duel(II)I
noncomputable def cb_173_0 : List Instr := .aload 0 :: .iload 1 :: .invokeinterface 185 75 :: .aload 0 :: .iload 2 :: .invokeinterface 185 75 :: .aload 0 :: .invokeinterface 191 11 :: .aload 0 :: .getfield 1437 :: .aload 0 :: .getfield 1433 :: .invokeinterface 131 67 :: .aload 0 :: .getfield 1437 :: .iload 1 :: .iload 2 :: .invokeinterface 122 131 :: .ireturn :: []
-- 174: FogWatch.reach(I)I
noncomputable def cb_174_35 : List Instr := .iload 2 :: .ireturn :: []
noncomputable def cb_174_31 : List Instr := .iload 4 :: .istore 2 :: .iinc 3 1 :: .goto 11 :: cb_174_35
noncomputable def cb_174_21 : List Instr := .iload 4 :: .aload 0 :: .getfield 1433 :: .iload 2 :: .iload 5 :: .invokeinterface 98 135 :: .ior :: .istore 4 :: .iinc 5 1 :: .goto 18 :: cb_174_31
noncomputable def cb_174_18 : List Instr := .iload 5 :: .iconst 4 :: .if_icmp .ge 31 :: cb_174_21
noncomputable def cb_174_14 : List Instr := .iload 2 :: .istore 4 :: .iconst 0 :: .istore 5 :: cb_174_18
noncomputable def cb_174_11 : List Instr := .iload 3 :: .iconst 10 :: .if_icmp .ge 35 :: cb_174_14
noncomputable def cb_174_0 : List Instr := .aload 0 :: .iload 1 :: .invokeinterface 185 75 :: .aload 0 :: .invokeinterface 191 11 :: .iconst 1 :: .iload 1 :: .ishl :: .istore 2 :: .iconst 0 :: .istore 3 :: cb_174_11
-- 175: FogWatch.from(II)I
noncomputable def cb_175_32 : List Instr := .iload 3 :: .ireturn :: []
noncomputable def cb_175_30 : List Instr := .iinc 4 1 :: .goto 12 :: cb_175_32
noncomputable def cb_175_24 : List Instr := .iload 3 :: .iconst 1 :: .iload 4 :: .ishl :: .ior :: .istore 3 :: cb_175_30
noncomputable def cb_175_17 : List Instr := .aload 0 :: .getfield 1433 :: .iload 4 :: .iload 2 :: .invokeinterface 96 135 :: .iload 1 :: .if_icmp .ne 30 :: cb_175_24
noncomputable def cb_175_12 : List Instr := .iload 4 :: .aload 0 :: .getfield 1411 :: .getfield 1152 :: .if_icmp .ge 32 :: cb_175_17
noncomputable def cb_175_0 : List Instr := .aload 0 :: .iload 1 :: .invokeinterface 185 75 :: .aload 0 :: .iload 2 :: .invokeinterface 187 75 :: .aload 0 :: .invokeinterface 191 11 :: .iconst 0 :: .istore 3 :: .iconst 0 :: .istore 4 :: cb_175_12
-- 176: FogWatch.still()I
noncomputable def cb_176_24 : List Instr := .iload 1 :: .ireturn :: []
noncomputable def cb_176_22 : List Instr := .iinc 2 1 :: .goto 6 :: cb_176_24
noncomputable def cb_176_16 : List Instr := .iload 1 :: .iconst 1 :: .iload 2 :: .ishl :: .ior :: .istore 1 :: cb_176_22
noncomputable def cb_176_11 : List Instr := .aload 0 :: .getfield 1433 :: .iload 2 :: .invokeinterface 99 71 :: .ifCond .eq 22 :: cb_176_16
noncomputable def cb_176_6 : List Instr := .iload 2 :: .aload 0 :: .getfield 1411 :: .getfield 1152 :: .if_icmp .ge 24 :: cb_176_11
noncomputable def cb_176_0 : List Instr := .aload 0 :: .invokeinterface 191 11 :: .iconst 0 :: .istore 1 :: .iconst 0 :: .istore 2 :: cb_176_6
-- 177: FogWatch.wind()I
noncomputable def cb_177_25 : List Instr := .iload 1 :: .ireturn :: []
noncomputable def cb_177_23 : List Instr := .iinc 2 1 :: .goto 4 :: cb_177_25
noncomputable def cb_177_22 : List Instr := .iinc 1 1 :: cb_177_23
noncomputable def cb_177_7 : List Instr := .aload 0 :: .getfield 1427 :: .getfield 769 :: .iload 2 :: .aload 0 :: .getfield 1411 :: .getfield 1154 :: .aload 0 :: .getfield 1415 :: .invokeinterface 67 196 :: .aload 0 :: .getfield 1427 :: .getfield 769 :: .getfield 512 :: .if_icmp .gt 23 :: cb_177_22
noncomputable def cb_177_4 : List Instr := .iload 2 :: .iconst 4 :: .if_icmp .ge 25 :: cb_177_7
noncomputable def cb_177_0 : List Instr := .iconst 0 :: .istore 1 :: .iconst 0 :: .istore 2 :: cb_177_4
-- 178: FogWatch.watch(IIII)I
noncomputable def cb_178_42 : List Instr := .aload 0 :: .getfield 1441 :: .getfield 516 :: .ireturn :: []
noncomputable def cb_178_33 : List Instr := .aload 0 :: .getfield 1441 :: .getfield 518 :: .aload 0 :: .getfield 1427 :: .getfield 769 :: .getfield 518 :: .isub :: .ireturn :: cb_178_42
noncomputable def cb_178_29 : List Instr := .aload 0 :: .getfield 1441 :: .getfield 512 :: .ireturn :: cb_178_33
noncomputable def cb_178_22 : List Instr := .aload 0 :: .getfield 1441 :: .aload 0 :: .getfield 1411 :: .getfield 1154 :: .invokeinterface 64 68 :: .ireturn :: cb_178_29
noncomputable def cb_178_0 : List Instr := .aload 0 :: .iload 2 :: .iconst 0 :: .iconst 16 :: .invokeinterface 186 203 :: .aload 0 :: .iload 3 :: .iconst 1 :: .iconst 48 :: .invokeinterface 186 203 :: .aload 0 :: .iload 4 :: .iconst 0 :: .iconst 3 :: .invokeinterface 186 203 :: .aload 0 :: .iload 1 :: .iload 2 :: .iload 3 :: .invokeinterface 193 203 :: .iload 4 :: .tableswitch 42 0 2 #[22, 29, 33] :: cb_178_22
-- 179: FogWatch.span(IIIIII)I
noncomputable def cb_179_89 : List Instr := .ireturn :: []
noncomputable def cb_179_88 : List Instr := .iload 9 :: cb_179_89
noncomputable def cb_179_86 : List Instr := .iload 8 :: .goto 89 :: cb_179_88
noncomputable def cb_179_83 : List Instr := .iload 5 :: .iconst 1 :: .if_icmp .ne 88 :: cb_179_86
noncomputable def cb_179_81 : List Instr := .iload 7 :: .ireturn :: cb_179_83
noncomputable def cb_179_79 : List Instr := .iload 5 :: .ifCond .ne 83 :: cb_179_81
noncomputable def cb_179_40 : List Instr := .aload 0 :: .iload 1 :: .iload 10 :: .iadd :: .iload 3 :: .iload 4 :: .invokeinterface 193 203 :: .aload 0 :: .getfield 1441 :: .getfield 518 :: .aload 0 :: .getfield 1427 :: .getfield 769 :: .getfield 518 :: .isub :: .istore 11 :: .iload 7 :: .iload 11 :: .multianewarray 2 4 :: .istore 7 :: .iload 8 :: .iload 11 :: .multianewarray 1 4 :: .istore 8 :: .iload 9 :: .aload 0 :: .getfield 1441 :: .aload 0 :: .getfield 1411 :: .getfield 1154 :: .invokeinterface 64 68 :: .iload 6 :: .ishr :: .iconst 1 :: .iand :: .iadd :: .istore 9 :: .iinc 10 1 :: .goto 37 :: cb_179_79
noncomputable def cb_179_37 : List Instr := .iload 10 :: .iload 2 :: .if_icmp .ge 79 :: cb_179_40
noncomputable def cb_179_0 : List Instr := .aload 0 :: .iload 2 :: .iconst 1 :: .iconst 10 :: .invokeinterface 186 203 :: .aload 0 :: .iload 3 :: .iconst 0 :: .iconst 16 :: .invokeinterface 186 203 :: .aload 0 :: .iload 4 :: .iconst 1 :: .iconst 48 :: .invokeinterface 186 203 :: .aload 0 :: .iload 5 :: .iconst 0 :: .iconst 2 :: .invokeinterface 186 203 :: .aload 0 :: .iload 6 :: .iconst 0 :: .aload 0 :: .getfield 1411 :: .getfield 1152 :: .iconst 1 :: .isub :: .invokeinterface 186 203 :: .iconst 2147483647 :: .istore 7 :: .iconst 0 :: .istore 8 :: .iconst 0 :: .istore 9 :: .iconst 0 :: .istore 10 :: cb_179_37
-- 180: FogWatch.image()I
noncomputable def cb_180_6 : List Instr := .aload 0 :: .getfield 1429 :: .aload 0 :: .getfield 1430 :: .aaload :: .aload 0 :: .getfield 1427 :: .invokeinterface 91 70 :: .aload 0 :: .dup :: .getfield 1430 :: .iconst 1 :: .iadd :: .putfield 1430 :: .aload 0 :: .getfield 1430 :: .ireturn :: []
noncomputable def cb_180_4 : List Instr := .iconst (-1) :: .ireturn :: cb_180_6
noncomputable def cb_180_0 : List Instr := .aload 0 :: .getfield 1430 :: .iconst 3 :: .if_icmp .lt 6 :: cb_180_4
-- 181: FogWatch.restore()I
noncomputable def cb_181_5 : List Instr := .aload 0 :: .dup :: .getfield 1430 :: .iconst 1 :: .isub :: .putfield 1430 :: .aload 0 :: .getfield 1427 :: .aload 0 :: .getfield 1429 :: .aload 0 :: .getfield 1430 :: .aaload :: .invokeinterface 91 70 :: .aload 0 :: .getfield 1419 :: .invokeinterface 76 5 :: .aload 0 :: .getfield 1430 :: .ireturn :: []
noncomputable def cb_181_3 : List Instr := .iconst (-1) :: .ireturn :: cb_181_5
noncomputable def cb_181_0 : List Instr := .aload 0 :: .getfield 1430 :: .ifCond .gt 5 :: cb_181_3
-- 182: FogWatch.status(I)I
noncomputable def cb_182_12 : List Instr := .ireturn :: []
noncomputable def cb_182_11 : List Instr := .iconst (-1) :: cb_182_12
noncomputable def cb_182_8 : List Instr := .aload 0 :: .getfield 1446 :: .goto 12 :: cb_182_11
noncomputable def cb_182_5 : List Instr := .iload 1 :: .iconst 1 :: .if_icmp .ne 11 :: cb_182_8
noncomputable def cb_182_2 : List Instr := .aload 0 :: .getfield 1444 :: .ireturn :: cb_182_5
noncomputable def cb_182_0 : List Instr := .iload 1 :: .ifCond .ne 5 :: cb_182_2
-- 183: FogWatch.count(I)I
noncomputable def cb_183_13 : List Instr := .iconst (-1) :: .ireturn :: []
noncomputable def cb_183_9 : List Instr := .aload 0 :: .getfield 1427 :: .getfield 772 :: .ireturn :: cb_183_13
noncomputable def cb_183_5 : List Instr := .aload 0 :: .getfield 1409 :: .getfield 1026 :: .ireturn :: cb_183_9
noncomputable def cb_183_2 : List Instr := .aload 0 :: .getfield 1430 :: .ireturn :: cb_183_5
noncomputable def cb_183_0 : List Instr := .iload 1 :: .tableswitch 13 0 2 #[2, 5, 9] :: cb_183_2
-- 184: FogWatch.refuseMissing()V
noncomputable def cb_184_0 : List Instr := .aload 0 :: .dup :: .getfield 1444 :: .iconst 1 :: .iadd :: .putfield 1444 :: .jsr 13 :: []
-- 185: FogWatch.demandCorner(I)V
noncomputable def cb_185_9 : List Instr := .return_ :: []
noncomputable def cb_185_7 : List Instr := .aload 0 :: .invokeinterface 184 11 :: cb_185_9
noncomputable def cb_185_2 : List Instr := .iload 1 :: .aload 0 :: .getfield 1411 :: .getfield 1152 :: .if_icmp .lt 9 :: cb_185_7
noncomputable def cb_185_0 : List Instr := .iload 1 :: .ifCond .lt 7 :: cb_185_2
-- 186: FogWatch.demandRange(III)V
noncomputable def cb_186_13 : List Instr := .return_ :: []
noncomputable def cb_186_6 : List Instr := .aload 0 :: .dup :: .getfield 1446 :: .iconst 1 :: .iadd :: .putfield 1446 :: .jsr 14 :: cb_186_13
noncomputable def cb_186_3 : List Instr := .iload 1 :: .iload 3 :: .if_icmp .le 13 :: cb_186_6
noncomputable def cb_186_0 : List Instr := .iload 1 :: .iload 2 :: .if_icmp .lt 6 :: cb_186_3
-- 187: FogWatch.demandWhistle(I)V
noncomputable def cb_187_0 : List Instr := .aload 0 :: .iload 1 :: .iconst 0 :: .iconst 3 :: .invokeinterface 186 203 :: .return_ :: []
-- 188: FogWatch.demandSet(I)V
noncomputable def cb_188_0 : List Instr := .aload 0 :: .iload 1 :: .iconst 0 :: .iconst 1 :: .aload 0 :: .getfield 1411 :: .getfield 1152 :: .ishl :: .iconst 1 :: .isub :: .invokeinterface 186 203 :: .return_ :: []
-- 189: FogWatch.openText(II)V
noncomputable def cb_189_0 : List Instr := .aload 0 :: .iload 1 :: .iconst 0 :: .iload 2 :: .aload 0 :: .getfield 1409 :: .getfield 1026 :: .multianewarray 2 4 :: .invokeinterface 186 203 :: .aload 0 :: .getfield 1409 :: .iload 1 :: .invokeinterface 15 72 :: .return_ :: []
-- 190: FogWatch.faultAnswer()I
noncomputable def cb_190_0 : List Instr := .aload 0 :: .getfield 1409 :: .getfield 1034 :: .iconst 10 :: .isub :: .ireturn :: []
-- 191: FogWatch.layStreets()V
noncomputable def cb_191_13 : List Instr := .return_ :: []
noncomputable def cb_191_10 : List Instr := .aload 0 :: .getfield 1435 :: .invokeinterface 108 0 :: cb_191_13
noncomputable def cb_191_0 : List Instr := .aload 0 :: .getfield 1433 :: .aload 0 :: .getfield 1411 :: .aload 0 :: .getfield 1427 :: .getfield 769 :: .getfield 516 :: .invokeinterface 94 135 :: .ifCond .eq 13 :: cb_191_10
-- 192: FogWatch.listen()V
noncomputable def cb_192_0 : List Instr := .aload 0 :: .invokeinterface 191 11 :: .aload 0 :: .getfield 1439 :: .aload 0 :: .getfield 1433 :: .aload 0 :: .getfield 1411 :: .aload 0 :: .getfield 1421 :: .aload 0 :: .getfield 1423 :: .invokeinterface 135 258 :: .return_ :: []
-- 193: FogWatch.dreamOf(III)V
noncomputable def cb_193_31 : List Instr := .return_ :: []
noncomputable def cb_193_24 : List Instr := .aload 0 :: .getfield 1441 :: .aload 0 :: .getfield 1411 :: .invokeinterface 74 68 :: .iinc 4 1 :: .goto 11 :: cb_193_31
noncomputable def cb_193_18 : List Instr := .aload 0 :: .iload 2 :: .invokeinterface 194 75 :: .aload 0 :: .iload 2 :: .invokeinterface 194 75 :: cb_193_24
noncomputable def cb_193_14 : List Instr := .aload 0 :: .getfield 1411 :: .getfield 1152 :: .ifCond .le 24 :: cb_193_18
noncomputable def cb_193_11 : List Instr := .iload 4 :: .iload 3 :: .if_icmp .ge 31 :: cb_193_14
noncomputable def cb_193_0 : List Instr := .aload 0 :: .getfield 1441 :: .aload 0 :: .getfield 1427 :: .getfield 769 :: .invokeinterface 60 68 :: .aload 0 :: .iload 1 :: .putfield 1442 :: .iconst 0 :: .istore 4 :: cb_193_11
-- 194: FogWatch.dreamHalfNight(I)V
noncomputable def cb_194_25 : List Instr := .return_ :: []
noncomputable def cb_194_16 : List Instr := .aload 0 :: .getfield 1441 :: .aload 0 :: .aload 0 :: .getfield 1411 :: .getfield 1152 :: .invokeinterface 195 75 :: .invokeinterface 70 68 :: .pop :: cb_194_25
noncomputable def cb_194_0 : List Instr := .aload 0 :: .getfield 1441 :: .aload 0 :: .iconst 4 :: .invokeinterface 195 75 :: .aload 0 :: .getfield 1411 :: .aload 0 :: .getfield 1415 :: .invokeinterface 68 196 :: .pop :: .aload 0 :: .iconst 16 :: .invokeinterface 195 75 :: .iload 1 :: .if_icmp .ge 25 :: cb_194_16
-- 195: FogWatch.draw(I)I
noncomputable def cb_195_20 : List Instr := .ireturn :: []
noncomputable def cb_195_19 : List Instr := .iconst 0 :: cb_195_20
noncomputable def cb_195_10 : List Instr := .aload 0 :: .getfield 1442 :: .iconst 16 :: .iushr :: .iconst 32767 :: .iand :: .iload 1 :: .irem :: .goto 20 :: cb_195_19
noncomputable def cb_195_0 : List Instr := .aload 0 :: .aload 0 :: .getfield 1442 :: .iconst 1103515245 :: .imul :: .iconst 12345 :: .iadd :: .putfield 1442 :: .iload 1 :: .ifCond .le 19 :: cb_195_10
-- 196: FogWatch.leastTerms(JIZ)J
noncomputable def cb_196_32 : List Instr := .lreturn :: []
noncomputable def cb_196_31 : List Instr := .lload 6 :: cb_196_32
noncomputable def cb_196_29 : List Instr := .lload 4 :: .goto 32 :: cb_196_31
noncomputable def cb_196_27 : List Instr := .iload 3 :: .ifCond .eq 31 :: cb_196_29
noncomputable def cb_196_17 : List Instr := .lload 4 :: .iconst 1 :: .lshr :: .lstore 4 :: .lload 6 :: .iconst 1 :: .lshr :: .lstore 6 :: .iinc 8 1 :: .goto 8 :: cb_196_27
noncomputable def cb_196_11 : List Instr := .lload 4 :: .ldc2_w 1 :: .land :: .ldc2_w 0 :: .lcmp :: .ifCond .ne 27 :: cb_196_17
noncomputable def cb_196_8 : List Instr := .iload 8 :: .iload 2 :: .if_icmp .ge 27 :: cb_196_11
noncomputable def cb_196_0 : List Instr := .lload 0 :: .lstore 4 :: .ldc2_w 1 :: .iload 2 :: .lshl :: .lstore 6 :: .iconst 0 :: .istore 8 :: cb_196_8
-- 197: FogWatch.isOne(I)Z
noncomputable def cb_197_11 : List Instr := .freturn :: []
noncomputable def cb_197_10 : List Instr := .iconst 0 :: cb_197_11
noncomputable def cb_197_8 : List Instr := .iconst 1 :: .goto 11 :: cb_197_10
noncomputable def cb_197_2 : List Instr := .iload 0 :: .iload 0 :: .iconst 1 :: .isub :: .iand :: .ifCond .ne 10 :: cb_197_8
noncomputable def cb_197_0 : List Instr := .iload 0 :: .ifCond .eq 10 :: cb_197_2
-- 198: FogWatchModel.thrown()I
noncomputable def cb_198_0 : List Instr := .aload 0 :: .getfield 1536 :: .ireturn :: []
-- 199: FogWatchModel.may(ZII)Z
noncomputable def cb_199_22 : List Instr := .freturn :: []
noncomputable def cb_199_21 : List Instr := .iconst 0 :: cb_199_22
noncomputable def cb_199_19 : List Instr := .iconst 1 :: .goto 22 :: cb_199_21
noncomputable def cb_199_16 : List Instr := .aload 0 :: .getfield 1536 :: .ifCond .ne 21 :: cb_199_19
noncomputable def cb_199_5 : List Instr := .aload 0 :: .iload 2 :: .putfield 1536 :: .aload 0 :: .getfield 1539 :: .iload 3 :: .dup2 :: .iaload :: .iconst 1 :: .iadd :: .iastore :: cb_199_16
noncomputable def cb_199_2 : List Instr := .aload 0 :: .getfield 1536 :: .ifCond .ne 16 :: cb_199_5
noncomputable def cb_199_0 : List Instr := .iload 1 :: .ifCond .ne 16 :: cb_199_2
-- 200: FogWatchModel.within(III)Z
noncomputable def cb_200_9 : List Instr := .freturn :: []
noncomputable def cb_200_8 : List Instr := .iconst 0 :: cb_200_9
noncomputable def cb_200_6 : List Instr := .iconst 1 :: .goto 9 :: cb_200_8
noncomputable def cb_200_3 : List Instr := .iload 0 :: .iload 2 :: .if_icmp .gt 8 :: cb_200_6
noncomputable def cb_200_0 : List Instr := .iload 0 :: .iload 1 :: .if_icmp .lt 8 :: cb_200_3
-- 201: FogWatchModel.<init>()V
noncomputable def cb_201_0 : List Instr := .aload 0 :: .invokespecial 0 :: .aload 0 :: .iconst 2 :: .newarray .int :: .putfield 1539 :: .aload 0 :: .iconst (-1) :: .putfield 1552 :: .aload 0 :: .iconst 600 :: .newarray .int :: .putfield 1555 :: .aload 0 :: .iconst 10 :: .newarray .int :: .putfield 1557 :: .aload 0 :: .iconst 40 :: .newarray .int :: .putfield 1559 :: .aload 0 :: .iconst 5 :: .newarray .int :: .putfield 1561 :: .aload 0 :: .iconst 10 :: .newarray .int :: .putfield 1563 :: .aload 0 :: .iconst 40 :: .newarray .int :: .putfield 1565 :: .aload 0 :: .iconst 5 :: .newarray .int :: .putfield 1567 :: .aload 0 :: .iconst 150 :: .newarray .int :: .putfield 1581 :: .aload 0 :: .iconst 150 :: .newarray .int :: .putfield 1583 :: .aload 0 :: .iconst 150 :: .newarray .int :: .putfield 1585 :: .aload 0 :: .iconst 150 :: .newarray .int :: .putfield 1587 :: .aload 0 :: .iconst 150 :: .newarray .int :: .putfield 1589 :: .aload 0 :: .iconst 7 :: .newarray .int :: .putfield 1595 :: .aload 0 :: .iconst 150 :: .newarray .int :: .putfield 1597 :: .aload 0 :: .iconst 150 :: .newarray .int :: .putfield 1599 :: .aload 0 :: .iconst 20 :: .newarray .int :: .putfield 1613 :: .aload 0 :: .iconst 20 :: .newarray .int :: .putfield 1615 :: .aload 0 :: .iconst 20 :: .newarray .int :: .putfield 1617 :: .aload 0 :: .iconst 35 :: .newarray .int :: .putfield 1623 :: .aload 0 :: .iconst 35 :: .newarray .int :: .putfield 1625 :: .aload 0 :: .iconst 560 :: .newarray .int :: .putfield 1627 :: .aload 0 :: .iconst 1024 :: .newarray .int :: .putfield 1629 :: .aload 0 :: .iconst 1024 :: .newarray .int :: .putfield 1631 :: .aload 0 :: .iconst 1024 :: .newarray .int :: .putfield 1633 :: .aload 0 :: .iconst 1024 :: .newarray .int :: .putfield 1635 :: .aload 0 :: .iconst 100 :: .newarray .int :: .putfield 1637 :: .aload 0 :: .iconst 10 :: .newarray .long :: .putfield 1639 :: .aload 0 :: .iconst 10 :: .newarray .long :: .putfield 1641 :: .aload 0 :: .iconst 10 :: .newarray .int :: .putfield 1643 :: .aload 0 :: .iconst 11 :: .newarray .int :: .putfield 1645 :: .aload 0 :: .iconst 100 :: .newarray .int :: .putfield 1647 :: .aload 0 :: .iconst 1788 :: .newarray .int :: .putfield 1651 :: .aload 0 :: .invokeinterface 218 12 :: .aload 0 :: .invokeinterface 219 12 :: .return_ :: []
-- 202: FogWatchModel.feed(IIIII)I
noncomputable def cb_202_62 : List Instr := .aload 0 :: .getfield 1540 :: .ireturn :: []
noncomputable def cb_202_37 : List Instr := .istore 7 :: .aload 0 :: .getfield 1555 :: .aload 0 :: .getfield 1540 :: .iload 7 :: .iconst 24 :: .iconst 8 :: .iload 6 :: .iconst 4 :: .irem :: .imul :: .isub :: .ishr :: .iconst 255 :: .iand :: .iastore :: .aload 0 :: .dup :: .getfield 1540 :: .iconst 1 :: .iadd :: .putfield 1540 :: .iinc 6 1 :: .goto 13 :: cb_202_62
noncomputable def cb_202_36 : List Instr := .iload 5 :: cb_202_37
noncomputable def cb_202_34 : List Instr := .iload 4 :: .goto 37 :: cb_202_36
noncomputable def cb_202_31 : List Instr := .iload 6 :: .iconst 16 :: .if_icmp .ge 36 :: cb_202_34
noncomputable def cb_202_29 : List Instr := .iload 3 :: .goto 37 :: cb_202_31
noncomputable def cb_202_26 : List Instr := .iload 6 :: .iconst 12 :: .if_icmp .ge 31 :: cb_202_29
noncomputable def cb_202_24 : List Instr := .iload 2 :: .goto 37 :: cb_202_26
noncomputable def cb_202_21 : List Instr := .iload 6 :: .iconst 8 :: .if_icmp .ge 26 :: cb_202_24
noncomputable def cb_202_19 : List Instr := .iload 1 :: .goto 37 :: cb_202_21
noncomputable def cb_202_16 : List Instr := .iload 6 :: .iconst 4 :: .if_icmp .ge 21 :: cb_202_19
noncomputable def cb_202_13 : List Instr := .iload 6 :: .iconst 20 :: .if_icmp .ge 62 :: cb_202_16
noncomputable def cb_202_11 : List Instr := .iconst 0 :: .istore 6 :: cb_202_13
noncomputable def cb_202_9 : List Instr := .iconst (-1) :: .ireturn :: cb_202_11
noncomputable def cb_202_0 : List Instr := .aload 0 :: .iconst 0 :: .putfield 1536 :: .aload 0 :: .getfield 1540 :: .iconst 20 :: .iadd :: .iconst 600 :: .if_icmp .le 11 :: cb_202_9
-- 203: FogWatchModel.fine()Z
noncomputable def cb_203_7 : List Instr := .freturn :: []
noncomputable def cb_203_6 : List Instr := .iconst 0 :: cb_203_7
noncomputable def cb_203_4 : List Instr := .iconst 1 :: .goto 7 :: cb_203_6
noncomputable def cb_203_0 : List Instr := .aload 0 :: .getfield 1546 :: .iconst (-1) :: .if_icmp .ne 6 :: cb_203_4
-- 204: FogWatchModel.wrong(II)V
noncomputable def cb_204_5 : List Instr := .aload 0 :: .iload 2 :: .putfield 1546 :: .aload 0 :: .iload 1 :: .putfield 1548 :: .return_ :: []
noncomputable def cb_204_4 : List Instr := .return_ :: cb_204_5
noncomputable def cb_204_0 : List Instr := .aload 0 :: .getfield 1546 :: .iconst (-1) :: .if_icmp .eq 5 :: cb_204_4
-- 205: FogWatchModel.here()I
noncomputable def cb_205_31 : List Instr := .ireturn :: []
noncomputable def cb_205_30 : List Instr := .iconst 0 :: cb_205_31
noncomputable def cb_205_24 : List Instr := .aload 0 :: .getfield 1555 :: .aload 0 :: .getfield 1544 :: .iaload :: .goto 31 :: cb_205_30
noncomputable def cb_205_19 : List Instr := .aload 0 :: .getfield 1544 :: .aload 0 :: .getfield 1542 :: .if_icmp .ge 30 :: cb_205_24
noncomputable def cb_205_12 : List Instr := .aload 0 :: .dup :: .getfield 1544 :: .iconst 1 :: .iadd :: .putfield 1544 :: .goto 0 :: cb_205_19
noncomputable def cb_205_5 : List Instr := .aload 0 :: .getfield 1555 :: .aload 0 :: .getfield 1544 :: .iaload :: .iconst 32 :: .if_icmp .ne 19 :: cb_205_12
noncomputable def cb_205_0 : List Instr := .aload 0 :: .getfield 1544 :: .aload 0 :: .getfield 1542 :: .if_icmp .ge 19 :: cb_205_5
-- 206: FogWatchModel.isSmall(I)Z
noncomputable def cb_206_9 : List Instr := .freturn :: []
noncomputable def cb_206_8 : List Instr := .iconst 0 :: cb_206_9
noncomputable def cb_206_6 : List Instr := .iconst 1 :: .goto 9 :: cb_206_8
noncomputable def cb_206_3 : List Instr := .iload 0 :: .iconst 122 :: .if_icmp .gt 8 :: cb_206_6
noncomputable def cb_206_0 : List Instr := .iload 0 :: .iconst 97 :: .if_icmp .lt 8 :: cb_206_3
-- 207: FogWatchModel.isDigit(I)Z
noncomputable def cb_207_9 : List Instr := .freturn :: []
noncomputable def cb_207_8 : List Instr := .iconst 0 :: cb_207_9
noncomputable def cb_207_6 : List Instr := .iconst 1 :: .goto 9 :: cb_207_8
noncomputable def cb_207_3 : List Instr := .iload 0 :: .iconst 57 :: .if_icmp .gt 8 :: cb_207_6
noncomputable def cb_207_0 : List Instr := .iload 0 :: .iconst 48 :: .if_icmp .lt 8 :: cb_207_3
-- 208: FogWatchModel.word()I
noncomputable def cb_208_45 : List Instr := .ireturn :: []
noncomputable def cb_208_44 : List Instr := .iload 1 :: cb_208_45
noncomputable def cb_208_42 : List Instr := .iconst 0 :: .goto 45 :: cb_208_44
noncomputable def cb_208_39 : List Instr := .iload 2 :: .iconst 6 :: .if_icmp .le 44 :: cb_208_42
noncomputable def cb_208_35 : List Instr := .istore 1 :: .iinc 2 1 :: .iinc 3 1 :: .goto 10 :: cb_208_39
noncomputable def cb_208_34 : List Instr := .iconst 0 :: cb_208_35
noncomputable def cb_208_23 : List Instr := .iload 1 :: .iconst 5 :: .ishl :: .aload 0 :: .getfield 1555 :: .iload 3 :: .iaload :: .iconst 96 :: .isub :: .ior :: .goto 35 :: cb_208_34
noncomputable def cb_208_20 : List Instr := .iload 2 :: .iconst 6 :: .if_icmp .ge 34 :: cb_208_23
noncomputable def cb_208_14 : List Instr := .aload 0 :: .getfield 1555 :: .iload 3 :: .iaload :: .multianewarray 206 2 :: .ifCond .eq 39 :: cb_208_20
noncomputable def cb_208_10 : List Instr := .iload 3 :: .aload 0 :: .getfield 1542 :: .if_icmp .ge 39 :: cb_208_14
noncomputable def cb_208_0 : List Instr := .aload 0 :: .invokeinterface 205 12 :: .pop :: .iconst 0 :: .istore 1 :: .iconst 0 :: .istore 2 :: .aload 0 :: .getfield 1544 :: .istore 3 :: cb_208_10
-- 209: FogWatchModel.of(Ljava/lang/String;)I
noncomputable def cb_209_20 : List Instr := .iload 1 :: .ireturn :: []
noncomputable def cb_209_8 : List Instr := .iload 1 :: .iconst 5 :: .ishl :: .aload 0 :: .iload 2 :: .invokevirtual 113 :: .iconst 96 :: .isub :: .ior :: .istore 1 :: .iinc 2 1 :: .goto 4 :: cb_209_20
noncomputable def cb_209_4 : List Instr := .iload 2 :: .aload 0 :: .invokevirtual 96 :: .if_icmp .ge 20 :: cb_209_8
noncomputable def cb_209_0 : List Instr := .iconst 0 :: .istore 1 :: .iconst 0 :: .istore 2 :: cb_209_4
-- 210: FogWatchModel.pass()V
noncomputable def cb_210_19 : List Instr := .return_ :: []
noncomputable def cb_210_12 : List Instr := .aload 0 :: .dup :: .getfield 1544 :: .iconst 1 :: .iadd :: .putfield 1544 :: .goto 0 :: cb_210_19
noncomputable def cb_210_5 : List Instr := .aload 0 :: .getfield 1555 :: .aload 0 :: .getfield 1544 :: .iaload :: .multianewarray 206 2 :: .ifCond .eq 19 :: cb_210_12
noncomputable def cb_210_0 : List Instr := .aload 0 :: .getfield 1544 :: .aload 0 :: .getfield 1542 :: .if_icmp .ge 19 :: cb_210_5
-- 211: FogWatchModel.readNumber(II)I
noncomputable def cb_211_71 : List Instr := .iload 5 :: .ireturn :: []
noncomputable def cb_211_65 : List Instr := .aload 0 :: .iconst 2 :: .iload 4 :: .invokeinterface 204 140 :: .iconst 0 :: .ireturn :: cb_211_71
noncomputable def cb_211_62 : List Instr := .iload 5 :: .iload 2 :: .if_icmp .le 71 :: cb_211_65
noncomputable def cb_211_59 : List Instr := .iload 5 :: .iload 1 :: .if_icmp .lt 65 :: cb_211_62
noncomputable def cb_211_51 : List Instr := .istore 5 :: .aload 0 :: .dup :: .getfield 1544 :: .iconst 1 :: .iadd :: .putfield 1544 :: .goto 23 :: cb_211_59
noncomputable def cb_211_40 : List Instr := .iconst 10 :: .iload 5 :: .imul :: .aload 0 :: .getfield 1555 :: .aload 0 :: .getfield 1544 :: .iaload :: .iadd :: .iconst 48 :: .isub :: cb_211_51
noncomputable def cb_211_38 : List Instr := .iconst 10000 :: .goto 51 :: cb_211_40
noncomputable def cb_211_35 : List Instr := .iload 5 :: .iconst 9999 :: .if_icmp .le 40 :: cb_211_38
noncomputable def cb_211_28 : List Instr := .aload 0 :: .getfield 1555 :: .aload 0 :: .getfield 1544 :: .iaload :: .multianewarray 207 2 :: .ifCond .eq 59 :: cb_211_35
noncomputable def cb_211_23 : List Instr := .aload 0 :: .getfield 1544 :: .aload 0 :: .getfield 1542 :: .if_icmp .ge 59 :: cb_211_28
noncomputable def cb_211_16 : List Instr := .aload 0 :: .iconst 1 :: .aload 0 :: .getfield 1544 :: .invokeinterface 204 140 :: .iconst 0 :: .ireturn :: cb_211_23
noncomputable def cb_211_5 : List Instr := .aload 0 :: .invokeinterface 205 12 :: .istore 3 :: .aload 0 :: .getfield 1544 :: .istore 4 :: .iconst 0 :: .istore 5 :: .iload 3 :: .multianewarray 207 2 :: .ifCond .ne 23 :: cb_211_16
noncomputable def cb_211_3 : List Instr := .iconst 0 :: .ireturn :: cb_211_5
noncomputable def cb_211_0 : List Instr := .aload 0 :: .invokeinterface 203 12 :: .ifCond .ne 5 :: cb_211_3
-- 212: FogWatchModel.sign(I)V
noncomputable def cb_212_21 : List Instr := .return_ :: []
noncomputable def cb_212_15 : List Instr := .aload 0 :: .dup :: .getfield 1544 :: .iconst 1 :: .iadd :: .putfield 1544 :: cb_212_21
noncomputable def cb_212_12 : List Instr := .aload 0 :: .invokeinterface 203 12 :: .ifCond .eq 21 :: cb_212_15
noncomputable def cb_212_7 : List Instr := .aload 0 :: .iconst 1 :: .aload 0 :: .getfield 1544 :: .invokeinterface 204 140 :: cb_212_12
noncomputable def cb_212_3 : List Instr := .aload 0 :: .invokeinterface 205 12 :: .iload 1 :: .if_icmp .eq 12 :: cb_212_7
noncomputable def cb_212_0 : List Instr := .aload 0 :: .invokeinterface 203 12 :: .ifCond .eq 12 :: cb_212_3
-- 213: FogWatchModel.isMore()Z
noncomputable def cb_213_11 : List Instr := .freturn :: []
noncomputable def cb_213_10 : List Instr := .iconst 0 :: cb_213_11
noncomputable def cb_213_8 : List Instr := .iconst 1 :: .goto 11 :: cb_213_10
noncomputable def cb_213_0 : List Instr := .aload 0 :: .invokeinterface 205 12 :: .pop :: .aload 0 :: .getfield 1544 :: .aload 0 :: .getfield 1542 :: .if_icmp .ge 10 :: cb_213_8
-- 214: FogWatchModel.begins(I)V
noncomputable def cb_214_0 : List Instr := .aload 0 :: .iconst 0 :: .putfield 1540 :: .aload 0 :: .iconst (-1) :: .putfield 1552 :: .aload 0 :: .iload 1 :: .putfield 1542 :: .aload 0 :: .iconst 0 :: .putfield 1544 :: .aload 0 :: .iconst (-1) :: .putfield 1546 :: .aload 0 :: .iconst 0 :: .putfield 1550 :: .return_ :: []
-- 215: FogWatchModel.result(I)I
noncomputable def cb_215_13 : List Instr := .ireturn :: []
noncomputable def cb_215_9 : List Instr := .aload 0 :: .getfield 1548 :: .iconst 10 :: .isub :: cb_215_13
noncomputable def cb_215_7 : List Instr := .iload 1 :: .goto 13 :: cb_215_9
noncomputable def cb_215_0 : List Instr := .aload 0 :: .aload 0 :: .getfield 1546 :: .putfield 1552 :: .aload 0 :: .invokeinterface 203 12 :: .ifCond .eq 9 :: cb_215_7
-- 216: FogWatchModel.fault()I
noncomputable def cb_216_0 : List Instr := .aload 0 :: .iconst 0 :: .putfield 1536 :: .aload 0 :: .getfield 1552 :: .ireturn :: []
-- 217: FogWatchModel.copies([I[II)V
noncomputable def cb_217_13 : List Instr := .return_ :: []
noncomputable def cb_217_5 : List Instr := .aload 2 :: .iload 4 :: .aload 1 :: .iload 4 :: .iaload :: .iastore :: .iinc 4 1 :: .goto 2 :: cb_217_13
noncomputable def cb_217_2 : List Instr := .iload 4 :: .iload 3 :: .if_icmp .ge 13 :: cb_217_5
noncomputable def cb_217_0 : List Instr := .iconst 0 :: .istore 4 :: cb_217_2
-- 218: FogWatchModel.clears()V
noncomputable def cb_218_23 : List Instr := .return_ :: []
noncomputable def cb_218_14 : List Instr := .aload 0 :: .getfield 1559 :: .iload 1 :: .iload 1 :: .iconst 4 :: .idiv :: .iastore :: .iinc 1 1 :: .goto 11 :: cb_218_23
noncomputable def cb_218_11 : List Instr := .iload 1 :: .iconst 40 :: .if_icmp .ge 23 :: cb_218_14
noncomputable def cb_218_0 : List Instr := .aload 0 :: .iconst 0 :: .putfield 1568 :: .aload 0 :: .iconst 0 :: .putfield 1570 :: .aload 0 :: .iconst 60 :: .putfield 1572 :: .iconst 0 :: .istore 1 :: cb_218_11
-- 219: FogWatchModel.sets()V
noncomputable def cb_219_93 : List Instr := .aload 0 :: .getfield 1623 :: .iconst 30 :: .aload 0 :: .getfield 1578 :: .iastore :: .aload 0 :: .getfield 1623 :: .iconst 32 :: .iconst (-1) :: .iastore :: .return_ :: []
noncomputable def cb_219_83 : List Instr := .iastore :: .aload 0 :: .getfield 1623 :: .iconst 5 :: .iload 1 :: .iadd :: .iconst (-1) :: .iastore :: .iinc 1 1 :: .goto 65 :: cb_219_93
noncomputable def cb_219_82 : List Instr := .iconst 0 :: cb_219_83
noncomputable def cb_219_77 : List Instr := .aload 0 :: .getfield 1567 :: .iload 1 :: .iaload :: .goto 83 :: cb_219_82
noncomputable def cb_219_68 : List Instr := .aload 0 :: .getfield 1623 :: .iconst 0 :: .iload 1 :: .iadd :: .iload 1 :: .aload 0 :: .getfield 1576 :: .if_icmp .ge 82 :: cb_219_77
noncomputable def cb_219_65 : List Instr := .iload 1 :: .iconst 5 :: .if_icmp .ge 93 :: cb_219_68
noncomputable def cb_219_63 : List Instr := .iconst 0 :: .istore 1 :: cb_219_65
noncomputable def cb_219_56 : List Instr := .aload 0 :: .getfield 1623 :: .iload 1 :: .iconst 0 :: .iastore :: .iinc 1 1 :: .goto 53 :: cb_219_63
noncomputable def cb_219_53 : List Instr := .iload 1 :: .iconst 35 :: .if_icmp .ge 63 :: cb_219_56
noncomputable def cb_219_0 : List Instr := .aload 0 :: .aload 0 :: .getfield 1568 :: .putfield 1574 :: .aload 0 :: .aload 0 :: .getfield 1570 :: .putfield 1576 :: .aload 0 :: .aload 0 :: .getfield 1572 :: .putfield 1578 :: .aload 0 :: .aload 0 :: .getfield 1557 :: .aload 0 :: .getfield 1563 :: .iconst 10 :: .invokeinterface 217 204 :: .aload 0 :: .aload 0 :: .getfield 1559 :: .aload 0 :: .getfield 1565 :: .iconst 40 :: .invokeinterface 217 204 :: .aload 0 :: .aload 0 :: .getfield 1561 :: .aload 0 :: .getfield 1567 :: .iconst 5 :: .invokeinterface 217 204 :: .aload 0 :: .iconst 0 :: .putfield 1592 :: .aload 0 :: .iconst 0 :: .putfield 1618 :: .aload 0 :: .iconst 0 :: .putfield 1620 :: .aload 0 :: .iconst 0 :: .putfield 1602 :: .aload 0 :: .iconst 0 :: .putfield 1652 :: .aload 0 :: .iconst 0 :: .putfield 1604 :: .iconst 0 :: .istore 1 :: cb_219_53
-- 220: FogWatchModel.isRow(I)Z
noncomputable def cb_220_19 : List Instr := .freturn :: []
noncomputable def cb_220_18 : List Instr := .iconst 0 :: cb_220_19
noncomputable def cb_220_16 : List Instr := .iconst 1 :: .goto 19 :: cb_220_18
noncomputable def cb_220_12 : List Instr := .iload 0 :: .ldc 4 :: .multianewarray 209 2 :: .if_icmp .ne 18 :: cb_220_16
noncomputable def cb_220_8 : List Instr := .iload 0 :: .ldc 3 :: .multianewarray 209 2 :: .if_icmp .eq 16 :: cb_220_12
noncomputable def cb_220_4 : List Instr := .iload 0 :: .ldc 2 :: .multianewarray 209 2 :: .if_icmp .eq 16 :: cb_220_8
noncomputable def cb_220_0 : List Instr := .iload 0 :: .ldc 1 :: .multianewarray 209 2 :: .if_icmp .eq 16 :: cb_220_4
-- 221: FogWatchModel.isFull(I)Z
noncomputable def cb_221_23 : List Instr := .freturn :: []
noncomputable def cb_221_22 : List Instr := .iconst 0 :: cb_221_23
noncomputable def cb_221_20 : List Instr := .iconst 1 :: .goto 23 :: cb_221_22
noncomputable def cb_221_16 : List Instr := .aload 0 :: .getfield 1570 :: .iconst 5 :: .if_icmp .ne 22 :: cb_221_20
noncomputable def cb_221_12 : List Instr := .iload 1 :: .ldc 3 :: .multianewarray 209 2 :: .if_icmp .ne 22 :: cb_221_16
noncomputable def cb_221_10 : List Instr := .iconst 0 :: .goto 23 :: cb_221_12
noncomputable def cb_221_8 : List Instr := .iconst 1 :: .goto 23 :: cb_221_10
noncomputable def cb_221_4 : List Instr := .aload 0 :: .getfield 1568 :: .iconst 10 :: .if_icmp .ne 10 :: cb_221_8
noncomputable def cb_221_0 : List Instr := .iload 1 :: .ldc 1 :: .multianewarray 209 2 :: .if_icmp .ne 12 :: cb_221_4
-- 222: FogWatchModel.readCorner()I
noncomputable def cb_222_0 : List Instr := .aload 0 :: .iconst 0 :: .aload 0 :: .getfield 1568 :: .iconst 1 :: .isub :: .invokeinterface 211 140 :: .ireturn :: []
-- 223: FogWatchModel.readRow(I)V
noncomputable def cb_223_72 : List Instr := .return_ :: []
noncomputable def cb_223_66 : List Instr := .aload 0 :: .aload 0 :: .iconst 0 :: .iconst 200 :: .invokeinterface 211 140 :: .putfield 1572 :: cb_223_72
noncomputable def cb_223_52 : List Instr := .aload 0 :: .getfield 1561 :: .aload 0 :: .getfield 1570 :: .aload 0 :: .invokeinterface 222 12 :: .iastore :: .aload 0 :: .dup :: .getfield 1570 :: .iconst 1 :: .iadd :: .putfield 1570 :: .goto 72 :: cb_223_66
noncomputable def cb_223_48 : List Instr := .iload 1 :: .ldc 3 :: .multianewarray 209 2 :: .if_icmp .ne 66 :: cb_223_52
noncomputable def cb_223_47 : List Instr := .goto 72 :: cb_223_48
noncomputable def cb_223_38 : List Instr := .aload 0 :: .getfield 1559 :: .iconst 4 :: .iload 3 :: .imul :: .iload 2 :: .iadd :: .iload 4 :: .iastore :: cb_223_47
noncomputable def cb_223_24 : List Instr := .aload 0 :: .iconst 0 :: .iconst 3 :: .invokeinterface 211 140 :: .istore 2 :: .aload 0 :: .invokeinterface 222 12 :: .istore 3 :: .aload 0 :: .invokeinterface 222 12 :: .istore 4 :: .aload 0 :: .invokeinterface 203 12 :: .ifCond .eq 47 :: cb_223_38
noncomputable def cb_223_20 : List Instr := .iload 1 :: .ldc 2 :: .multianewarray 209 2 :: .if_icmp .ne 48 :: cb_223_24
noncomputable def cb_223_4 : List Instr := .aload 0 :: .getfield 1557 :: .aload 0 :: .getfield 1568 :: .aload 0 :: .iconst 0 :: .iconst 9 :: .invokeinterface 211 140 :: .iastore :: .aload 0 :: .dup :: .getfield 1568 :: .iconst 1 :: .iadd :: .putfield 1568 :: .goto 72 :: cb_223_20
noncomputable def cb_223_0 : List Instr := .iload 1 :: .ldc 1 :: .multianewarray 209 2 :: .if_icmp .ne 20 :: cb_223_4
-- 224: FogWatchModel.town(I)I
noncomputable def cb_224_81 : List Instr := .iload 3 :: .ireturn :: []
noncomputable def cb_224_79 : List Instr := .aload 0 :: .invokeinterface 219 12 :: cb_224_81
noncomputable def cb_224_70 : List Instr := .aload 0 :: .aload 0 :: .getfield 1568 :: .invokeinterface 215 76 :: .istore 3 :: .aload 0 :: .getfield 1546 :: .iconst (-1) :: .if_icmp .ne 81 :: cb_224_79
noncomputable def cb_224_60 : List Instr := .aload 0 :: .invokeinterface 210 12 :: .aload 0 :: .iload 3 :: .invokeinterface 223 76 :: .aload 0 :: .iconst 59 :: .invokeinterface 212 76 :: .iinc 2 1 :: .goto 26 :: cb_224_70
noncomputable def cb_224_59 : List Instr := .goto 70 :: cb_224_60
noncomputable def cb_224_56 : List Instr := .aload 0 :: .invokeinterface 203 12 :: .ifCond .ne 60 :: cb_224_59
noncomputable def cb_224_51 : List Instr := .aload 0 :: .iconst 3 :: .aload 0 :: .getfield 1544 :: .invokeinterface 204 140 :: cb_224_56
noncomputable def cb_224_47 : List Instr := .aload 0 :: .iload 3 :: .invokeinterface 221 76 :: .ifCond .eq 56 :: cb_224_51
noncomputable def cb_224_44 : List Instr := .iload 2 :: .iconst 60 :: .if_icmp .eq 51 :: cb_224_47
noncomputable def cb_224_38 : List Instr := .aload 0 :: .iconst 1 :: .aload 0 :: .getfield 1544 :: .invokeinterface 204 140 :: .goto 56 :: cb_224_44
noncomputable def cb_224_32 : List Instr := .aload 0 :: .invokeinterface 208 12 :: .istore 3 :: .iload 3 :: .multianewarray 220 2 :: .ifCond .ne 44 :: cb_224_38
noncomputable def cb_224_29 : List Instr := .aload 0 :: .invokeinterface 213 12 :: .ifCond .eq 70 :: cb_224_32
noncomputable def cb_224_26 : List Instr := .aload 0 :: .invokeinterface 203 12 :: .ifCond .eq 70 :: cb_224_29
noncomputable def cb_224_19 : List Instr := .aload 0 :: .iload 1 :: .invokeinterface 214 76 :: .aload 0 :: .invokeinterface 218 12 :: .iconst 0 :: .istore 2 :: cb_224_26
noncomputable def cb_224_17 : List Instr := .iconst 0 :: .ireturn :: cb_224_19
noncomputable def cb_224_13 : List Instr := .iconst 1 :: .iconst 1 :: .invokeinterface 199 204 :: .ifCond .ne 19 :: cb_224_17
noncomputable def cb_224_12 : List Instr := .iconst 0 :: cb_224_13
noncomputable def cb_224_10 : List Instr := .iconst 1 :: .goto 13 :: cb_224_12
noncomputable def cb_224_6 : List Instr := .iload 1 :: .aload 0 :: .getfield 1540 :: .if_icmp .gt 12 :: cb_224_10
noncomputable def cb_224_0 : List Instr := .aload 0 :: .iconst 0 :: .putfield 1536 :: .aload 0 :: .iload 1 :: .ifCond .lt 12 :: cb_224_6
-- 225: FogWatchModel.emit(II)V
noncomputable def cb_225_4 : List Instr := .aload 0 :: .getfield 1581 :: .aload 0 :: .getfield 1590 :: .iload 1 :: .iastore :: .aload 0 :: .getfield 1583 :: .aload 0 :: .getfield 1590 :: .iload 2 :: .iastore :: .aload 0 :: .dup :: .getfield 1590 :: .iconst 1 :: .iadd :: .putfield 1590 :: .return_ :: []
noncomputable def cb_225_3 : List Instr := .return_ :: cb_225_4
noncomputable def cb_225_0 : List Instr := .aload 0 :: .invokeinterface 203 12 :: .ifCond .ne 4 :: cb_225_3
-- 226: FogWatchModel.opensOne(I)V
noncomputable def cb_226_21 : List Instr := .aload 0 :: .dup :: .getfield 1550 :: .iconst 1 :: .iadd :: .putfield 1550 :: .return_ :: []
noncomputable def cb_226_15 : List Instr := .aload 0 :: .dup :: .getfield 1544 :: .iload 1 :: .iadd :: .putfield 1544 :: cb_226_21
noncomputable def cb_226_12 : List Instr := .aload 0 :: .invokeinterface 203 12 :: .ifCond .eq 21 :: cb_226_15
noncomputable def cb_226_7 : List Instr := .aload 0 :: .iconst 3 :: .aload 0 :: .getfield 1544 :: .invokeinterface 204 140 :: cb_226_12
noncomputable def cb_226_3 : List Instr := .aload 0 :: .getfield 1550 :: .iconst 6 :: .if_icmp .ne 12 :: cb_226_7
noncomputable def cb_226_0 : List Instr := .aload 0 :: .invokeinterface 203 12 :: .ifCond .eq 12 :: cb_226_3
-- 227: FogWatchModel.readSum()V
noncomputable def cb_227_34 : List Instr := .return_ :: []
noncomputable def cb_227_20 : List Instr := .istore 1 :: .aload 0 :: .dup :: .getfield 1544 :: .iconst 1 :: .iadd :: .putfield 1544 :: .aload 0 :: .invokeinterface 228 12 :: .aload 0 :: .iload 1 :: .iconst 0 :: .invokeinterface 225 140 :: .goto 2 :: cb_227_34
noncomputable def cb_227_19 : List Instr := .iconst 3 :: cb_227_20
noncomputable def cb_227_17 : List Instr := .iconst 2 :: .goto 20 :: cb_227_19
noncomputable def cb_227_13 : List Instr := .aload 0 :: .invokeinterface 205 12 :: .iconst 43 :: .if_icmp .ne 19 :: cb_227_17
noncomputable def cb_227_9 : List Instr := .aload 0 :: .invokeinterface 205 12 :: .iconst 45 :: .if_icmp .ne 34 :: cb_227_13
noncomputable def cb_227_5 : List Instr := .aload 0 :: .invokeinterface 205 12 :: .iconst 43 :: .if_icmp .eq 13 :: cb_227_9
noncomputable def cb_227_2 : List Instr := .aload 0 :: .invokeinterface 203 12 :: .ifCond .eq 34 :: cb_227_5
noncomputable def cb_227_0 : List Instr := .aload 0 :: .invokeinterface 228 12 :: cb_227_2
-- 228: FogWatchModel.readProduct()V
noncomputable def cb_228_44 : List Instr := .return_ :: []
noncomputable def cb_228_30 : List Instr := .istore 1 :: .aload 0 :: .dup :: .getfield 1544 :: .iconst 1 :: .iadd :: .putfield 1544 :: .aload 0 :: .invokeinterface 232 12 :: .aload 0 :: .iload 1 :: .iconst 0 :: .invokeinterface 225 140 :: .goto 2 :: cb_228_44
noncomputable def cb_228_29 : List Instr := .iconst 8 :: cb_228_30
noncomputable def cb_228_27 : List Instr := .iconst 5 :: .goto 30 :: cb_228_29
noncomputable def cb_228_23 : List Instr := .aload 0 :: .invokeinterface 205 12 :: .iconst 47 :: .if_icmp .ne 29 :: cb_228_27
noncomputable def cb_228_21 : List Instr := .iconst 4 :: .goto 30 :: cb_228_23
noncomputable def cb_228_17 : List Instr := .aload 0 :: .invokeinterface 205 12 :: .iconst 42 :: .if_icmp .ne 23 :: cb_228_21
noncomputable def cb_228_13 : List Instr := .aload 0 :: .invokeinterface 205 12 :: .iconst 37 :: .if_icmp .ne 44 :: cb_228_17
noncomputable def cb_228_9 : List Instr := .aload 0 :: .invokeinterface 205 12 :: .iconst 47 :: .if_icmp .eq 17 :: cb_228_13
noncomputable def cb_228_5 : List Instr := .aload 0 :: .invokeinterface 205 12 :: .iconst 42 :: .if_icmp .eq 17 :: cb_228_9
noncomputable def cb_228_2 : List Instr := .aload 0 :: .invokeinterface 203 12 :: .ifCond .eq 44 :: cb_228_5
noncomputable def cb_228_0 : List Instr := .aload 0 :: .invokeinterface 232 12 :: cb_228_2
-- 229: FogWatchModel.readTwo(II)V
noncomputable def cb_229_0 : List Instr := .aload 0 :: .iload 1 :: .invokeinterface 226 76 :: .aload 0 :: .iconst 91 :: .invokeinterface 212 76 :: .aload 0 :: .invokeinterface 227 12 :: .aload 0 :: .iconst 44 :: .invokeinterface 212 76 :: .aload 0 :: .invokeinterface 227 12 :: .aload 0 :: .iconst 93 :: .invokeinterface 212 76 :: .aload 0 :: .dup :: .getfield 1550 :: .iconst 1 :: .isub :: .putfield 1550 :: .aload 0 :: .iload 2 :: .iconst 0 :: .invokeinterface 225 140 :: .return_ :: []
-- 230: FogWatchModel.standsHere(Ljava/lang/String;)Z
noncomputable def cb_230_52 : List Instr := .freturn :: []
noncomputable def cb_230_51 : List Instr := .iconst 0 :: cb_230_52
noncomputable def cb_230_49 : List Instr := .iconst 1 :: .goto 52 :: cb_230_51
noncomputable def cb_230_39 : List Instr := .aload 0 :: .getfield 1555 :: .aload 0 :: .getfield 1544 :: .aload 1 :: .invokevirtual 96 :: .iadd :: .iaload :: .multianewarray 206 2 :: .ifCond .ne 51 :: cb_230_49
noncomputable def cb_230_31 : List Instr := .aload 0 :: .getfield 1544 :: .aload 1 :: .invokevirtual 96 :: .iadd :: .aload 0 :: .getfield 1542 :: .if_icmp .ge 49 :: cb_230_39
noncomputable def cb_230_29 : List Instr := .iinc 2 1 :: .goto 5 :: cb_230_31
noncomputable def cb_230_27 : List Instr := .iconst 0 :: .freturn :: cb_230_29
noncomputable def cb_230_16 : List Instr := .aload 0 :: .getfield 1555 :: .aload 0 :: .getfield 1544 :: .iload 2 :: .iadd :: .iaload :: .aload 1 :: .iload 2 :: .invokevirtual 113 :: .if_icmp .eq 29 :: cb_230_27
noncomputable def cb_230_9 : List Instr := .aload 0 :: .getfield 1544 :: .iload 2 :: .iadd :: .aload 0 :: .getfield 1542 :: .if_icmp .ge 27 :: cb_230_16
noncomputable def cb_230_5 : List Instr := .iload 2 :: .aload 1 :: .invokevirtual 96 :: .if_icmp .ge 31 :: cb_230_9
noncomputable def cb_230_0 : List Instr := .aload 0 :: .invokeinterface 205 12 :: .pop :: .iconst 0 :: .istore 2 :: cb_230_5
-- 231: FogWatchModel.factHere()I
noncomputable def cb_231_46 : List Instr := .ireturn :: []
noncomputable def cb_231_45 : List Instr := .iconst (-1) :: cb_231_46
noncomputable def cb_231_43 : List Instr := .iconst 6 :: .goto 46 :: cb_231_45
noncomputable def cb_231_39 : List Instr := .iload 1 :: .ldc 4 :: .multianewarray 209 2 :: .if_icmp .ne 45 :: cb_231_43
noncomputable def cb_231_37 : List Instr := .iconst 5 :: .goto 46 :: cb_231_39
noncomputable def cb_231_33 : List Instr := .iload 1 :: .ldc 10 :: .multianewarray 209 2 :: .if_icmp .ne 39 :: cb_231_37
noncomputable def cb_231_31 : List Instr := .iconst 4 :: .goto 46 :: cb_231_33
noncomputable def cb_231_27 : List Instr := .iload 1 :: .ldc 9 :: .multianewarray 209 2 :: .if_icmp .ne 33 :: cb_231_31
noncomputable def cb_231_25 : List Instr := .iconst 3 :: .goto 46 :: cb_231_27
noncomputable def cb_231_21 : List Instr := .iload 1 :: .ldc 8 :: .multianewarray 209 2 :: .if_icmp .ne 27 :: cb_231_25
noncomputable def cb_231_19 : List Instr := .iconst 2 :: .goto 46 :: cb_231_21
noncomputable def cb_231_15 : List Instr := .iload 1 :: .ldc 7 :: .multianewarray 209 2 :: .if_icmp .ne 21 :: cb_231_19
noncomputable def cb_231_13 : List Instr := .iconst 1 :: .goto 46 :: cb_231_15
noncomputable def cb_231_6 : List Instr := .aload 0 :: .invokeinterface 208 12 :: .istore 1 :: .iload 1 :: .ldc 6 :: .multianewarray 209 2 :: .if_icmp .ne 15 :: cb_231_13
noncomputable def cb_231_4 : List Instr := .iconst 0 :: .ireturn :: cb_231_6
noncomputable def cb_231_0 : List Instr := .aload 0 :: .ldc 5 :: .invokeinterface 230 76 :: .ifCond .eq 6 :: cb_231_4
-- 232: FogWatchModel.readUnit()V
noncomputable def cb_232_76 : List Instr := .return_ :: []
noncomputable def cb_232_70 : List Instr := .aload 0 :: .invokeinterface 210 12 :: .aload 0 :: .iconst 1 :: .iload 1 :: .invokeinterface 225 140 :: cb_232_76
noncomputable def cb_232_69 : List Instr := .return_ :: cb_232_70
noncomputable def cb_232_66 : List Instr := .aload 0 :: .invokeinterface 203 12 :: .ifCond .ne 70 :: cb_232_69
noncomputable def cb_232_61 : List Instr := .aload 0 :: .iconst 1 :: .aload 0 :: .getfield 1544 :: .invokeinterface 204 140 :: cb_232_66
noncomputable def cb_232_55 : List Instr := .aload 0 :: .invokeinterface 231 12 :: .istore 1 :: .iload 1 :: .iconst (-1) :: .if_icmp .ne 66 :: cb_232_61
noncomputable def cb_232_50 : List Instr := .aload 0 :: .iconst 4 :: .iconst 7 :: .invokeinterface 229 140 :: .goto 76 :: cb_232_55
noncomputable def cb_232_45 : List Instr := .aload 0 :: .invokeinterface 208 12 :: .ldc 12 :: .multianewarray 209 2 :: .if_icmp .ne 55 :: cb_232_50
noncomputable def cb_232_40 : List Instr := .aload 0 :: .iconst 5 :: .iconst 6 :: .invokeinterface 229 140 :: .goto 76 :: cb_232_45
noncomputable def cb_232_35 : List Instr := .aload 0 :: .invokeinterface 208 12 :: .ldc 11 :: .multianewarray 209 2 :: .if_icmp .ne 45 :: cb_232_40
noncomputable def cb_232_27 : List Instr := .aload 0 :: .iconst 0 :: .aload 0 :: .iconst 0 :: .iconst 999 :: .invokeinterface 211 140 :: .invokeinterface 225 140 :: .goto 76 :: cb_232_35
noncomputable def cb_232_23 : List Instr := .aload 0 :: .invokeinterface 205 12 :: .multianewarray 207 2 :: .ifCond .eq 35 :: cb_232_27
noncomputable def cb_232_8 : List Instr := .aload 0 :: .iconst 1 :: .invokeinterface 226 76 :: .aload 0 :: .invokeinterface 227 12 :: .aload 0 :: .iconst 41 :: .invokeinterface 212 76 :: .aload 0 :: .dup :: .getfield 1550 :: .iconst 1 :: .isub :: .putfield 1550 :: .goto 76 :: cb_232_23
noncomputable def cb_232_4 : List Instr := .aload 0 :: .invokeinterface 205 12 :: .iconst 40 :: .if_icmp .ne 23 :: cb_232_8
noncomputable def cb_232_3 : List Instr := .return_ :: cb_232_4
noncomputable def cb_232_0 : List Instr := .aload 0 :: .invokeinterface 203 12 :: .ifCond .ne 4 :: cb_232_3
-- 233: FogWatchModel.law(I)I
noncomputable def cb_233_51 : List Instr := .aload 0 :: .aload 0 :: .getfield 1590 :: .putfield 1592 :: .aload 0 :: .aload 0 :: .getfield 1581 :: .aload 0 :: .getfield 1585 :: .aload 0 :: .getfield 1590 :: .invokeinterface 217 204 :: .aload 0 :: .aload 0 :: .getfield 1583 :: .aload 0 :: .getfield 1587 :: .aload 0 :: .getfield 1590 :: .invokeinterface 217 204 :: .iload 2 :: .ireturn :: []
noncomputable def cb_233_49 : List Instr := .iload 2 :: .ireturn :: cb_233_51
noncomputable def cb_233_41 : List Instr := .aload 0 :: .iconst 1 :: .invokeinterface 215 76 :: .istore 2 :: .aload 0 :: .getfield 1546 :: .iconst (-1) :: .if_icmp .eq 51 :: cb_233_49
noncomputable def cb_233_36 : List Instr := .aload 0 :: .iconst 1 :: .aload 0 :: .getfield 1544 :: .invokeinterface 204 140 :: cb_233_41
noncomputable def cb_233_33 : List Instr := .aload 0 :: .invokeinterface 213 12 :: .ifCond .eq 41 :: cb_233_36
noncomputable def cb_233_22 : List Instr := .aload 0 :: .iload 1 :: .invokeinterface 214 76 :: .aload 0 :: .iconst 0 :: .putfield 1590 :: .aload 0 :: .invokeinterface 227 12 :: .aload 0 :: .invokeinterface 203 12 :: .ifCond .eq 41 :: cb_233_33
noncomputable def cb_233_20 : List Instr := .iconst 0 :: .ireturn :: cb_233_22
noncomputable def cb_233_16 : List Instr := .iconst 1 :: .iconst 1 :: .invokeinterface 199 204 :: .ifCond .ne 22 :: cb_233_20
noncomputable def cb_233_15 : List Instr := .iconst 0 :: cb_233_16
noncomputable def cb_233_13 : List Instr := .iconst 1 :: .goto 16 :: cb_233_15
noncomputable def cb_233_10 : List Instr := .iload 1 :: .iconst 150 :: .if_icmp .gt 15 :: cb_233_13
noncomputable def cb_233_6 : List Instr := .iload 1 :: .aload 0 :: .getfield 1540 :: .if_icmp .gt 15 :: cb_233_10
noncomputable def cb_233_0 : List Instr := .aload 0 :: .iconst 0 :: .putfield 1536 :: .aload 0 :: .iload 1 :: .ifCond .lt 15 :: cb_233_6
-- 234: FogWatchModel.valueNow()I
noncomputable def cb_234_57 : List Instr := .aload 0 :: .getfield 1589 :: .iconst 0 :: .iaload :: .ireturn :: []
noncomputable def cb_234_55 : List Instr := .iinc 2 1 :: .goto 4 :: cb_234_57
noncomputable def cb_234_36 : List Instr := .iinc 1 (-1) :: .aload 0 :: .getfield 1589 :: .iload 1 :: .iconst 1 :: .isub :: .iload 3 :: .aload 0 :: .getfield 1589 :: .iload 1 :: .iconst 1 :: .isub :: .iaload :: .aload 0 :: .getfield 1589 :: .iload 1 :: .iaload :: .multianewarray 235 6 :: .iastore :: cb_234_55
noncomputable def cb_234_33 : List Instr := .iastore :: .iinc 1 1 :: .goto 55 :: cb_234_36
noncomputable def cb_234_26 : List Instr := .aload 0 :: .getfield 1595 :: .aload 0 :: .getfield 1587 :: .iload 2 :: .iaload :: .iaload :: cb_234_33
noncomputable def cb_234_21 : List Instr := .aload 0 :: .getfield 1587 :: .iload 2 :: .iaload :: .goto 33 :: cb_234_26
noncomputable def cb_234_16 : List Instr := .aload 0 :: .getfield 1589 :: .iload 1 :: .iload 3 :: .ifCond .ne 26 :: cb_234_21
noncomputable def cb_234_8 : List Instr := .aload 0 :: .getfield 1585 :: .iload 2 :: .iaload :: .istore 3 :: .iload 3 :: .iconst 1 :: .if_icmp .gt 36 :: cb_234_16
noncomputable def cb_234_4 : List Instr := .iload 2 :: .aload 0 :: .getfield 1592 :: .if_icmp .ge 57 :: cb_234_8
noncomputable def cb_234_0 : List Instr := .iconst 0 :: .istore 1 :: .iconst 0 :: .istore 2 :: cb_234_4
-- 235: FogWatchModel.both(III)I
noncomputable def cb_235_58 : List Instr := .ireturn :: []
noncomputable def cb_235_57 : List Instr := .iload 2 :: cb_235_58
noncomputable def cb_235_55 : List Instr := .iload 1 :: .goto 58 :: cb_235_57
noncomputable def cb_235_54 : List Instr := .if_icmp .ne 57 :: cb_235_55
noncomputable def cb_235_53 : List Instr := .iconst 0 :: cb_235_54
noncomputable def cb_235_51 : List Instr := .iconst 1 :: .goto 54 :: cb_235_53
noncomputable def cb_235_48 : List Instr := .iload 0 :: .iconst 6 :: .if_icmp .ne 53 :: cb_235_51
noncomputable def cb_235_47 : List Instr := .iconst 0 :: cb_235_48
noncomputable def cb_235_45 : List Instr := .iconst 1 :: .goto 48 :: cb_235_47
noncomputable def cb_235_42 : List Instr := .iload 1 :: .iload 2 :: .if_icmp .ge 47 :: cb_235_45
noncomputable def cb_235_41 : List Instr := .ireturn :: cb_235_42
noncomputable def cb_235_38 : List Instr := .iload 1 :: .iload 2 :: .irem :: cb_235_41
noncomputable def cb_235_34 : List Instr := .iload 1 :: .iload 2 :: .idiv :: .goto 41 :: cb_235_38
noncomputable def cb_235_31 : List Instr := .iload 0 :: .iconst 5 :: .if_icmp .ne 38 :: cb_235_34
noncomputable def cb_235_29 : List Instr := .iconst 0 :: .goto 41 :: cb_235_31
noncomputable def cb_235_27 : List Instr := .iload 2 :: .ifCond .ne 31 :: cb_235_29
noncomputable def cb_235_24 : List Instr := .iload 0 :: .iconst 8 :: .if_icmp .ne 42 :: cb_235_27
noncomputable def cb_235_21 : List Instr := .iload 0 :: .iconst 5 :: .if_icmp .eq 27 :: cb_235_24
noncomputable def cb_235_17 : List Instr := .iload 1 :: .iload 2 :: .imul :: .ireturn :: cb_235_21
noncomputable def cb_235_14 : List Instr := .iload 0 :: .iconst 4 :: .if_icmp .ne 21 :: cb_235_17
noncomputable def cb_235_10 : List Instr := .iload 1 :: .iload 2 :: .isub :: .ireturn :: cb_235_14
noncomputable def cb_235_7 : List Instr := .iload 0 :: .iconst 3 :: .if_icmp .ne 14 :: cb_235_10
noncomputable def cb_235_3 : List Instr := .iload 1 :: .iload 2 :: .iadd :: .ireturn :: cb_235_7
noncomputable def cb_235_0 : List Instr := .iload 0 :: .iconst 2 :: .if_icmp .ne 7 :: cb_235_3
-- 236: FogWatchModel.costNow()I
noncomputable def cb_236_23 : List Instr := .ireturn :: []
noncomputable def cb_236_22 : List Instr := .iload 1 :: cb_236_23
noncomputable def cb_236_20 : List Instr := .iconst 60 :: .goto 23 :: cb_236_22
noncomputable def cb_236_17 : List Instr := .iload 1 :: .iconst 60 :: .if_icmp .le 22 :: cb_236_20
noncomputable def cb_236_15 : List Instr := .iconst 0 :: .goto 23 :: cb_236_17
noncomputable def cb_236_12 : List Instr := .istore 1 :: .iload 1 :: .ifCond .ge 17 :: cb_236_15
noncomputable def cb_236_10 : List Instr := .aload 0 :: .invokeinterface 234 12 :: cb_236_12
noncomputable def cb_236_3 : List Instr := .iconst 1 :: .aload 0 :: .getfield 1595 :: .iconst 2 :: .iaload :: .iadd :: .goto 12 :: cb_236_10
noncomputable def cb_236_0 : List Instr := .aload 0 :: .getfield 1592 :: .ifCond .ne 10 :: cb_236_3
-- 237: FogWatchModel.tellsStep(III)V
noncomputable def cb_237_4 : List Instr := .aload 0 :: .getfield 1597 :: .aload 0 :: .getfield 1600 :: .iload 1 :: .iastore :: .aload 0 :: .getfield 1597 :: .aload 0 :: .getfield 1600 :: .iconst 1 :: .iadd :: .iload 2 :: .iastore :: .aload 0 :: .getfield 1597 :: .aload 0 :: .getfield 1600 :: .iconst 2 :: .iadd :: .iload 3 :: .iastore :: .aload 0 :: .dup :: .getfield 1600 :: .iconst 3 :: .iadd :: .putfield 1600 :: .return_ :: []
noncomputable def cb_237_3 : List Instr := .return_ :: cb_237_4
noncomputable def cb_237_0 : List Instr := .aload 0 :: .invokeinterface 203 12 :: .ifCond .ne 4 :: cb_237_3
-- 238: FogWatchModel.stepOf(I)I
noncomputable def cb_238_37 : List Instr := .ireturn :: []
noncomputable def cb_238_36 : List Instr := .iconst (-1) :: cb_238_37
noncomputable def cb_238_34 : List Instr := .iconst 5 :: .goto 37 :: cb_238_36
noncomputable def cb_238_30 : List Instr := .iload 0 :: .ldc 16 :: .multianewarray 209 2 :: .if_icmp .ne 36 :: cb_238_34
noncomputable def cb_238_28 : List Instr := .iconst 4 :: .goto 37 :: cb_238_30
noncomputable def cb_238_24 : List Instr := .iload 0 :: .ldc 10 :: .multianewarray 209 2 :: .if_icmp .ne 30 :: cb_238_28
noncomputable def cb_238_22 : List Instr := .iconst 3 :: .goto 37 :: cb_238_24
noncomputable def cb_238_18 : List Instr := .iload 0 :: .ldc 15 :: .multianewarray 209 2 :: .if_icmp .ne 24 :: cb_238_22
noncomputable def cb_238_16 : List Instr := .iconst 2 :: .goto 37 :: cb_238_18
noncomputable def cb_238_12 : List Instr := .iload 0 :: .ldc 14 :: .multianewarray 209 2 :: .if_icmp .ne 18 :: cb_238_16
noncomputable def cb_238_10 : List Instr := .iconst 1 :: .goto 37 :: cb_238_12
noncomputable def cb_238_6 : List Instr := .iload 0 :: .ldc 8 :: .multianewarray 209 2 :: .if_icmp .ne 12 :: cb_238_10
noncomputable def cb_238_4 : List Instr := .iconst 0 :: .goto 37 :: cb_238_6
noncomputable def cb_238_0 : List Instr := .iload 0 :: .ldc 13 :: .multianewarray 209 2 :: .if_icmp .ne 6 :: cb_238_4
-- 239: FogWatchModel.readFirst(I)I
noncomputable def cb_239_33 : List Instr := .ireturn :: []
noncomputable def cb_239_30 : List Instr := .iconst 1 :: .isub :: .invokeinterface 211 140 :: cb_239_33
noncomputable def cb_239_28 : List Instr := .aload 0 :: .getfield 1576 :: cb_239_30
noncomputable def cb_239_25 : List Instr := .aload 0 :: .getfield 1574 :: .goto 30 :: cb_239_28
noncomputable def cb_239_20 : List Instr := .aload 0 :: .iconst 0 :: .iload 1 :: .iconst 1 :: .if_icmp .ne 28 :: cb_239_25
noncomputable def cb_239_15 : List Instr := .aload 0 :: .iconst 1 :: .iconst 60 :: .invokeinterface 211 140 :: .goto 33 :: cb_239_20
noncomputable def cb_239_12 : List Instr := .iload 1 :: .iconst 2 :: .if_icmp .ne 20 :: cb_239_15
noncomputable def cb_239_7 : List Instr := .aload 0 :: .iconst 0 :: .iconst 3 :: .invokeinterface 211 140 :: .goto 33 :: cb_239_12
noncomputable def cb_239_5 : List Instr := .iload 1 :: .ifCond .ne 12 :: cb_239_7
noncomputable def cb_239_3 : List Instr := .iconst 0 :: .goto 33 :: cb_239_5
noncomputable def cb_239_0 : List Instr := .iload 1 :: .iconst 4 :: .if_icmp .ne 5 :: cb_239_3
-- 240: FogWatchModel.readAgain()V
noncomputable def cb_240_49 : List Instr := .return_ :: []
noncomputable def cb_240_41 : List Instr := .aload 0 :: .getfield 1597 :: .iload 2 :: .iconst 2 :: .iadd :: .aload 0 :: .getfield 1600 :: .iastore :: cb_240_49
noncomputable def cb_240_29 : List Instr := .aload 0 :: .iconst 93 :: .invokeinterface 212 76 :: .aload 0 :: .dup :: .getfield 1550 :: .iconst 1 :: .isub :: .putfield 1550 :: .aload 0 :: .invokeinterface 203 12 :: .ifCond .eq 49 :: cb_240_41
noncomputable def cb_240_26 : List Instr := .aload 0 :: .invokeinterface 241 12 :: .goto 19 :: cb_240_29
noncomputable def cb_240_22 : List Instr := .aload 0 :: .invokeinterface 205 12 :: .iconst 93 :: .if_icmp .eq 29 :: cb_240_26
noncomputable def cb_240_19 : List Instr := .aload 0 :: .invokeinterface 203 12 :: .ifCond .eq 29 :: cb_240_22
noncomputable def cb_240_0 : List Instr := .aload 0 :: .iconst 5 :: .invokeinterface 226 76 :: .aload 0 :: .iconst 0 :: .iconst 40 :: .invokeinterface 211 140 :: .istore 1 :: .aload 0 :: .iconst 91 :: .invokeinterface 212 76 :: .aload 0 :: .getfield 1600 :: .istore 2 :: .aload 0 :: .iconst 5 :: .iload 1 :: .iconst 0 :: .invokeinterface 237 204 :: cb_240_19
-- 241: FogWatchModel.readStep()V
noncomputable def cb_241_41 : List Instr := .aload 0 :: .iconst 59 :: .invokeinterface 212 76 :: .return_ :: []
noncomputable def cb_241_40 : List Instr := .invokeinterface 237 204 :: cb_241_41
noncomputable def cb_241_39 : List Instr := .iconst 0 :: cb_241_40
noncomputable def cb_241_31 : List Instr := .aload 0 :: .iconst 0 :: .aload 0 :: .getfield 1574 :: .iconst 1 :: .isub :: .invokeinterface 211 140 :: .goto 40 :: cb_241_39
noncomputable def cb_241_19 : List Instr := .aload 0 :: .invokeinterface 210 12 :: .aload 0 :: .iload 1 :: .invokeinterface 239 76 :: .istore 2 :: .aload 0 :: .iload 1 :: .iload 2 :: .iload 1 :: .iconst 3 :: .if_icmp .ne 39 :: cb_241_31
noncomputable def cb_241_16 : List Instr := .aload 0 :: .invokeinterface 240 12 :: .goto 41 :: cb_241_19
noncomputable def cb_241_13 : List Instr := .iload 1 :: .iconst 5 :: .if_icmp .ne 19 :: cb_241_16
noncomputable def cb_241_7 : List Instr := .aload 0 :: .iconst 1 :: .aload 0 :: .getfield 1544 :: .invokeinterface 204 140 :: .goto 41 :: cb_241_13
noncomputable def cb_241_0 : List Instr := .aload 0 :: .invokeinterface 208 12 :: .multianewarray 238 2 :: .istore 1 :: .iload 1 :: .iconst (-1) :: .if_icmp .ne 13 :: cb_241_7
-- 242: FogWatchModel.work(I)I
noncomputable def cb_242_85 : List Instr := .aload 0 :: .dup :: .getfield 1602 :: .iconst 1 :: .iadd :: .putfield 1602 :: .aload 0 :: .invokeinterface 248 12 :: .aload 0 :: .iconst 0 :: .putfield 1606 :: .aload 0 :: .iconst 0 :: .putfield 1608 :: .aload 0 :: .iconst 0 :: .putfield 1610 :: .aload 0 :: .iconst 0 :: .aload 0 :: .getfield 1600 :: .invokeinterface 243 140 :: .aload 0 :: .aload 0 :: .getfield 1625 :: .aload 0 :: .getfield 1623 :: .iconst 35 :: .invokeinterface 217 204 :: .aload 0 :: .aload 0 :: .getfield 1610 :: .putfield 1604 :: .aload 0 :: .getfield 1608 :: .ireturn :: []
noncomputable def cb_242_70 : List Instr := .aload 0 :: .getfield 1627 :: .iconst 35 :: .aload 0 :: .getfield 1602 :: .imul :: .iload 3 :: .iadd :: .aload 0 :: .getfield 1623 :: .iload 3 :: .iaload :: .iastore :: .iinc 3 1 :: .goto 67 :: cb_242_85
noncomputable def cb_242_67 : List Instr := .iload 3 :: .iconst 35 :: .if_icmp .ge 85 :: cb_242_70
noncomputable def cb_242_57 : List Instr := .aload 0 :: .aload 0 :: .getfield 1597 :: .aload 0 :: .getfield 1599 :: .aload 0 :: .getfield 1600 :: .invokeinterface 217 204 :: .iconst 0 :: .istore 3 :: cb_242_67
noncomputable def cb_242_55 : List Instr := .iload 2 :: .ireturn :: cb_242_57
noncomputable def cb_242_47 : List Instr := .aload 0 :: .iconst 0 :: .invokeinterface 215 76 :: .istore 2 :: .aload 0 :: .getfield 1546 :: .iconst (-1) :: .if_icmp .eq 57 :: cb_242_55
noncomputable def cb_242_44 : List Instr := .aload 0 :: .invokeinterface 241 12 :: .goto 38 :: cb_242_47
noncomputable def cb_242_41 : List Instr := .aload 0 :: .invokeinterface 213 12 :: .ifCond .eq 47 :: cb_242_44
noncomputable def cb_242_38 : List Instr := .aload 0 :: .invokeinterface 203 12 :: .ifCond .eq 47 :: cb_242_41
noncomputable def cb_242_35 : List Instr := .aload 0 :: .iconst 0 :: .putfield 1600 :: cb_242_38
noncomputable def cb_242_29 : List Instr := .aload 0 :: .iconst 0 :: .invokeinterface 215 76 :: .pop :: .iconst (-20) :: .ireturn :: cb_242_35
noncomputable def cb_242_22 : List Instr := .aload 0 :: .iload 1 :: .invokeinterface 214 76 :: .aload 0 :: .getfield 1602 :: .iconst 16 :: .if_icmp .ne 35 :: cb_242_29
noncomputable def cb_242_20 : List Instr := .iconst 0 :: .ireturn :: cb_242_22
noncomputable def cb_242_16 : List Instr := .iconst 1 :: .iconst 1 :: .invokeinterface 199 204 :: .ifCond .ne 22 :: cb_242_20
noncomputable def cb_242_15 : List Instr := .iconst 0 :: cb_242_16
noncomputable def cb_242_13 : List Instr := .iconst 1 :: .goto 16 :: cb_242_15
noncomputable def cb_242_10 : List Instr := .iload 1 :: .iconst 150 :: .if_icmp .gt 15 :: cb_242_13
noncomputable def cb_242_6 : List Instr := .iload 1 :: .aload 0 :: .getfield 1540 :: .if_icmp .gt 15 :: cb_242_10
noncomputable def cb_242_0 : List Instr := .aload 0 :: .iconst 0 :: .putfield 1536 :: .aload 0 :: .iload 1 :: .ifCond .lt 15 :: cb_242_6
-- 243: FogWatchModel.goesSteps(II)V
noncomputable def cb_243_87 : List Instr := .return_ :: []
noncomputable def cb_243_85 : List Instr := .iinc 3 3 :: .goto 2 :: cb_243_87
noncomputable def cb_243_79 : List Instr := .aload 0 :: .dup :: .getfield 1610 :: .iconst 1 :: .iadd :: .putfield 1610 :: cb_243_85
noncomputable def cb_243_72 : List Instr := .aload 0 :: .dup :: .getfield 1608 :: .iconst 1 :: .iadd :: .putfield 1608 :: .goto 85 :: cb_243_79
noncomputable def cb_243_53 : List Instr := .aload 0 :: .aload 0 :: .getfield 1599 :: .iload 3 :: .iaload :: .aload 0 :: .getfield 1599 :: .iload 3 :: .iconst 1 :: .iadd :: .iaload :: .aload 0 :: .getfield 1599 :: .iload 3 :: .iconst 2 :: .iadd :: .iaload :: .invokeinterface 258 204 :: .ifCond .eq 79 :: cb_243_72
noncomputable def cb_243_50 : List Instr := .iload 4 :: .istore 3 :: .goto 2 :: cb_243_53
noncomputable def cb_243_42 : List Instr := .aload 0 :: .iload 3 :: .iconst 3 :: .iadd :: .iload 4 :: .invokeinterface 243 140 :: .iinc 5 1 :: .goto 30 :: cb_243_50
noncomputable def cb_243_38 : List Instr := .aload 0 :: .getfield 1606 :: .iconst 200 :: .if_icmp .ge 50 :: cb_243_42
noncomputable def cb_243_30 : List Instr := .iload 5 :: .aload 0 :: .getfield 1599 :: .iload 3 :: .iconst 1 :: .iadd :: .iaload :: .if_icmp .ge 50 :: cb_243_38
noncomputable def cb_243_21 : List Instr := .aload 0 :: .getfield 1599 :: .iload 3 :: .iconst 2 :: .iadd :: .iaload :: .istore 4 :: .iconst 0 :: .istore 5 :: cb_243_30
noncomputable def cb_243_9 : List Instr := .aload 0 :: .dup :: .getfield 1606 :: .iconst 1 :: .iadd :: .putfield 1606 :: .aload 0 :: .getfield 1599 :: .iload 3 :: .iaload :: .iconst 5 :: .if_icmp .ne 53 :: cb_243_21
noncomputable def cb_243_5 : List Instr := .aload 0 :: .getfield 1606 :: .iconst 200 :: .if_icmp .ge 87 :: cb_243_9
noncomputable def cb_243_2 : List Instr := .iload 3 :: .iload 2 :: .if_icmp .ge 87 :: cb_243_5
noncomputable def cb_243_0 : List Instr := .iload 1 :: .istore 3 :: cb_243_2
-- 244: FogWatchModel.readsRow(II)I
noncomputable def cb_244_43 : List Instr := .aload 0 :: .iload 3 :: .invokeinterface 215 76 :: .ireturn :: []
noncomputable def cb_244_36 : List Instr := .aload 0 :: .getfield 1613 :: .iload 3 :: .iload 5 :: .iastore :: .iinc 3 1 :: .goto 5 :: cb_244_43
noncomputable def cb_244_35 : List Instr := .goto 43 :: cb_244_36
noncomputable def cb_244_29 : List Instr := .aload 0 :: .iconst 59 :: .invokeinterface 212 76 :: .aload 0 :: .invokeinterface 203 12 :: .ifCond .ne 36 :: cb_244_35
noncomputable def cb_244_25 : List Instr := .aload 0 :: .iconst 3 :: .iload 4 :: .invokeinterface 204 140 :: cb_244_29
noncomputable def cb_244_22 : List Instr := .iload 3 :: .iconst 20 :: .if_icmp .ne 29 :: cb_244_25
noncomputable def cb_244_11 : List Instr := .aload 0 :: .getfield 1544 :: .istore 4 :: .aload 0 :: .iconst 0 :: .iload 2 :: .invokeinterface 211 140 :: .istore 5 :: .aload 0 :: .invokeinterface 203 12 :: .ifCond .eq 29 :: cb_244_22
noncomputable def cb_244_8 : List Instr := .aload 0 :: .invokeinterface 213 12 :: .ifCond .eq 43 :: cb_244_11
noncomputable def cb_244_5 : List Instr := .aload 0 :: .invokeinterface 203 12 :: .ifCond .eq 43 :: cb_244_8
noncomputable def cb_244_0 : List Instr := .aload 0 :: .iload 1 :: .invokeinterface 214 76 :: .iconst 0 :: .istore 3 :: cb_244_5
-- 245: FogWatchModel.maySmall(I)Z
noncomputable def cb_245_13 : List Instr := .iconst 1 :: .iconst 1 :: .invokeinterface 199 204 :: .freturn :: []
noncomputable def cb_245_12 : List Instr := .iconst 0 :: cb_245_13
noncomputable def cb_245_10 : List Instr := .iconst 1 :: .goto 13 :: cb_245_12
noncomputable def cb_245_7 : List Instr := .iload 1 :: .iconst 60 :: .if_icmp .gt 12 :: cb_245_10
noncomputable def cb_245_3 : List Instr := .iload 1 :: .aload 0 :: .getfield 1540 :: .if_icmp .gt 12 :: cb_245_7
noncomputable def cb_245_0 : List Instr := .aload 0 :: .iload 1 :: .ifCond .lt 12 :: cb_245_3
-- 246: FogWatchModel.song(I)I
noncomputable def cb_246_20 : List Instr := .aload 0 :: .iload 2 :: .putfield 1618 :: .aload 0 :: .aload 0 :: .getfield 1613 :: .aload 0 :: .getfield 1615 :: .iconst 20 :: .invokeinterface 217 204 :: .iload 2 :: .ireturn :: []
noncomputable def cb_246_18 : List Instr := .iload 2 :: .ireturn :: cb_246_20
noncomputable def cb_246_9 : List Instr := .aload 0 :: .iload 1 :: .iconst 3 :: .invokeinterface 244 140 :: .istore 2 :: .aload 0 :: .getfield 1546 :: .iconst (-1) :: .if_icmp .eq 20 :: cb_246_18
noncomputable def cb_246_7 : List Instr := .iconst 0 :: .ireturn :: cb_246_9
noncomputable def cb_246_0 : List Instr := .aload 0 :: .iconst 0 :: .putfield 1536 :: .aload 0 :: .iload 1 :: .invokeinterface 245 76 :: .ifCond .ne 9 :: cb_246_7
-- 247: FogWatchModel.book(I)I
noncomputable def cb_247_20 : List Instr := .aload 0 :: .iload 2 :: .putfield 1620 :: .aload 0 :: .aload 0 :: .getfield 1613 :: .aload 0 :: .getfield 1617 :: .iconst 20 :: .invokeinterface 217 204 :: .iload 2 :: .ireturn :: []
noncomputable def cb_247_18 : List Instr := .iload 2 :: .ireturn :: cb_247_20
noncomputable def cb_247_9 : List Instr := .aload 0 :: .iload 1 :: .iconst 9 :: .invokeinterface 244 140 :: .istore 2 :: .aload 0 :: .getfield 1546 :: .iconst (-1) :: .if_icmp .eq 20 :: cb_247_18
noncomputable def cb_247_7 : List Instr := .iconst 0 :: .ireturn :: cb_247_9
noncomputable def cb_247_0 : List Instr := .aload 0 :: .iconst 0 :: .putfield 1536 :: .aload 0 :: .iload 1 :: .invokeinterface 245 76 :: .ifCond .ne 9 :: cb_247_7
-- 248: FogWatchModel.take()V
noncomputable def cb_248_0 : List Instr := .aload 0 :: .aload 0 :: .getfield 1623 :: .aload 0 :: .getfield 1625 :: .iconst 35 :: .invokeinterface 217 204 :: .return_ :: []
-- 249: FogWatchModel.ones(I)I
noncomputable def cb_249_17 : List Instr := .iload 1 :: .ireturn :: []
noncomputable def cb_249_7 : List Instr := .iload 1 :: .iload 0 :: .iload 2 :: .ishr :: .iconst 1 :: .iand :: .iadd :: .istore 1 :: .iinc 2 1 :: .goto 4 :: cb_249_17
noncomputable def cb_249_4 : List Instr := .iload 2 :: .iconst 10 :: .if_icmp .ge 17 :: cb_249_7
noncomputable def cb_249_0 : List Instr := .iconst 0 :: .istore 1 :: .iconst 0 :: .istore 2 :: cb_249_4
-- 250: FogWatchModel.fogBits()I
noncomputable def cb_250_21 : List Instr := .iload 1 :: .ireturn :: []
noncomputable def cb_250_8 : List Instr := .iload 1 :: .aload 0 :: .getfield 1625 :: .iconst 20 :: .iload 2 :: .iadd :: .iaload :: .iload 2 :: .ishl :: .ior :: .istore 1 :: .iinc 2 1 :: .goto 4 :: cb_250_21
noncomputable def cb_250_4 : List Instr := .iload 2 :: .aload 0 :: .getfield 1574 :: .if_icmp .ge 21 :: cb_250_8
noncomputable def cb_250_0 : List Instr := .iconst 0 :: .istore 1 :: .iconst 0 :: .istore 2 :: cb_250_4
-- 251: FogWatchModel.menAt(I)I
noncomputable def cb_251_26 : List Instr := .iload 2 :: .ireturn :: []
noncomputable def cb_251_22 : List Instr := .ior :: .istore 2 :: .iinc 3 1 :: .goto 4 :: cb_251_26
noncomputable def cb_251_21 : List Instr := .iconst 0 :: cb_251_22
noncomputable def cb_251_17 : List Instr := .iconst 1 :: .iload 3 :: .ishl :: .goto 22 :: cb_251_21
noncomputable def cb_251_8 : List Instr := .iload 2 :: .aload 0 :: .getfield 1625 :: .iconst 0 :: .iload 3 :: .iadd :: .iaload :: .iload 1 :: .if_icmp .ne 21 :: cb_251_17
noncomputable def cb_251_4 : List Instr := .iload 3 :: .aload 0 :: .getfield 1576 :: .if_icmp .ge 26 :: cb_251_8
noncomputable def cb_251_0 : List Instr := .iconst 0 :: .istore 2 :: .iconst 0 :: .istore 3 :: cb_251_4
-- 252: FogWatchModel.mostMen()I
noncomputable def cb_252_23 : List Instr := .iload 1 :: .ireturn :: []
noncomputable def cb_252_20 : List Instr := .istore 1 :: .iinc 2 1 :: .goto 4 :: cb_252_23
noncomputable def cb_252_19 : List Instr := .iload 1 :: cb_252_20
noncomputable def cb_252_14 : List Instr := .aload 0 :: .iload 2 :: .invokeinterface 251 76 :: .multianewarray 249 2 :: .goto 20 :: cb_252_19
noncomputable def cb_252_8 : List Instr := .aload 0 :: .iload 2 :: .invokeinterface 251 76 :: .multianewarray 249 2 :: .iload 1 :: .if_icmp .le 19 :: cb_252_14
noncomputable def cb_252_4 : List Instr := .iload 2 :: .aload 0 :: .getfield 1574 :: .if_icmp .ge 23 :: cb_252_8
noncomputable def cb_252_0 : List Instr := .iconst 0 :: .istore 1 :: .iconst 0 :: .istore 2 :: cb_252_4
-- 253: FogWatchModel.costOf(IIIIIII)I
noncomputable def cb_253_0 : List Instr := .aload 0 :: .getfield 1595 :: .iconst 0 :: .iload 1 :: .iastore :: .aload 0 :: .getfield 1595 :: .iconst 1 :: .iload 2 :: .iastore :: .aload 0 :: .getfield 1595 :: .iconst 2 :: .iload 3 :: .iastore :: .aload 0 :: .getfield 1595 :: .iconst 3 :: .iload 4 :: .iastore :: .aload 0 :: .getfield 1595 :: .iconst 4 :: .iload 5 :: .iastore :: .aload 0 :: .getfield 1595 :: .iconst 5 :: .iload 6 :: .iastore :: .aload 0 :: .getfield 1595 :: .iconst 6 :: .iload 7 :: .iastore :: .aload 0 :: .invokeinterface 236 12 :: .ireturn :: []
-- 254: FogWatchModel.costBy(I)I
noncomputable def cb_254_18 : List Instr := .aload 0 :: .invokeinterface 250 12 :: .multianewarray 249 2 :: .aload 0 :: .invokeinterface 252 12 :: .aload 0 :: .getfield 1625 :: .iconst 34 :: .iaload :: .aload 0 :: .getfield 1625 :: .iconst 30 :: .iaload :: .invokeinterface 253 460 :: .ireturn :: []
noncomputable def cb_254_17 : List Instr := .iconst 0 :: cb_254_18
noncomputable def cb_254_12 : List Instr := .aload 0 :: .getfield 1625 :: .iconst 33 :: .iaload :: .goto 18 :: cb_254_17
noncomputable def cb_254_0 : List Instr := .aload 0 :: .iload 1 :: .aload 0 :: .getfield 1625 :: .iconst 31 :: .iaload :: .aload 0 :: .getfield 1625 :: .iconst 32 :: .iaload :: .iload 1 :: .if_icmp .ne 17 :: cb_254_12
-- 255: FogWatchModel.stepTo(II)I
noncomputable def cb_255_18 : List Instr := .ireturn :: []
noncomputable def cb_255_10 : List Instr := .aload 0 :: .getfield 1565 :: .iconst 4 :: .iload 1 :: .imul :: .iload 2 :: .iadd :: .iaload :: cb_255_18
noncomputable def cb_255_8 : List Instr := .iload 1 :: .goto 18 :: cb_255_10
noncomputable def cb_255_0 : List Instr := .aload 0 :: .getfield 1625 :: .iconst 20 :: .iload 1 :: .iadd :: .iaload :: .iconst 1 :: .if_icmp .ne 10 :: cb_255_8
-- 256: FogWatchModel.isBlown(I)Z
noncomputable def cb_256_113 : List Instr := .iastore :: .aload 0 :: .getfield 1625 :: .iconst 32 :: .iload 1 :: .iastore :: .aload 0 :: .getfield 1625 :: .iconst 31 :: .dup2 :: .iaload :: .iconst 1 :: .iadd :: .iastore :: .iconst 1 :: .freturn :: []
noncomputable def cb_256_112 : List Instr := .iconst 1 :: cb_256_113
noncomputable def cb_256_105 : List Instr := .aload 0 :: .getfield 1625 :: .iconst 33 :: .iaload :: .iconst 1 :: .iadd :: .goto 113 :: cb_256_112
noncomputable def cb_256_96 : List Instr := .aload 0 :: .getfield 1625 :: .iconst 33 :: .aload 0 :: .getfield 1625 :: .iconst 32 :: .iaload :: .iload 1 :: .if_icmp .ne 112 :: cb_256_105
noncomputable def cb_256_94 : List Instr := .iinc 3 1 :: .goto 22 :: cb_256_96
noncomputable def cb_256_50 : List Instr := .aload 0 :: .getfield 1625 :: .iconst 0 :: .iload 3 :: .iadd :: .aload 0 :: .getfield 1565 :: .iconst 4 :: .aload 0 :: .getfield 1625 :: .iconst 0 :: .iload 3 :: .iadd :: .iaload :: .imul :: .iload 1 :: .iadd :: .iaload :: .iastore :: .aload 0 :: .getfield 1625 :: .iconst 5 :: .iload 3 :: .iadd :: .aload 0 :: .getfield 1563 :: .aload 0 :: .getfield 1625 :: .iconst 0 :: .iload 3 :: .iadd :: .iaload :: .iaload :: .iastore :: .aload 0 :: .getfield 1625 :: .iconst 10 :: .iload 3 :: .iadd :: .dup2 :: .iaload :: .iconst 1 :: .iadd :: .iastore :: cb_256_94
noncomputable def cb_256_39 : List Instr := .aload 0 :: .getfield 1625 :: .iconst 15 :: .iload 3 :: .iadd :: .dup2 :: .iaload :: .iconst 1 :: .iadd :: .iastore :: .goto 94 :: cb_256_50
noncomputable def cb_256_26 : List Instr := .aload 0 :: .getfield 1625 :: .iconst 20 :: .aload 0 :: .getfield 1625 :: .iconst 0 :: .iload 3 :: .iadd :: .iaload :: .iadd :: .iaload :: .iconst 1 :: .if_icmp .ne 50 :: cb_256_39
noncomputable def cb_256_22 : List Instr := .iload 3 :: .aload 0 :: .getfield 1576 :: .if_icmp .ge 96 :: cb_256_26
noncomputable def cb_256_12 : List Instr := .aload 0 :: .getfield 1625 :: .iconst 30 :: .dup2 :: .iaload :: .iload 2 :: .isub :: .iastore :: .iconst 0 :: .istore 3 :: cb_256_22
noncomputable def cb_256_10 : List Instr := .iconst 0 :: .freturn :: cb_256_12
noncomputable def cb_256_0 : List Instr := .aload 0 :: .iload 1 :: .invokeinterface 254 76 :: .istore 2 :: .iload 2 :: .aload 0 :: .getfield 1625 :: .iconst 30 :: .iaload :: .if_icmp .le 12 :: cb_256_10
-- 257: FogWatchModel.passes()V
noncomputable def cb_257_46 : List Instr := .aload 0 :: .getfield 1625 :: .iconst 32 :: .iconst (-1) :: .iastore :: .aload 0 :: .getfield 1625 :: .iconst 33 :: .iconst 0 :: .iastore :: .aload 0 :: .getfield 1625 :: .iconst 34 :: .dup2 :: .iaload :: .iconst 1 :: .iadd :: .iastore :: .return_ :: []
noncomputable def cb_257_41 : List Instr := .aload 0 :: .getfield 1625 :: .iconst 20 :: .iload 1 :: .iastore :: cb_257_46
noncomputable def cb_257_38 : List Instr := .aload 0 :: .getfield 1574 :: .ifCond .le 46 :: cb_257_41
noncomputable def cb_257_22 : List Instr := .aload 0 :: .getfield 1625 :: .iconst 20 :: .iload 2 :: .iadd :: .aload 0 :: .getfield 1625 :: .iconst 20 :: .iload 2 :: .iadd :: .iconst 1 :: .isub :: .iaload :: .iastore :: .iinc 2 (-1) :: .goto 20 :: cb_257_38
noncomputable def cb_257_20 : List Instr := .iload 2 :: .ifCond .le 38 :: cb_257_22
noncomputable def cb_257_14 : List Instr := .istore 1 :: .aload 0 :: .getfield 1574 :: .iconst 1 :: .isub :: .istore 2 :: cb_257_20
noncomputable def cb_257_5 : List Instr := .aload 0 :: .getfield 1625 :: .iconst 20 :: .aload 0 :: .getfield 1574 :: .iadd :: .iconst 1 :: .isub :: .iaload :: cb_257_14
noncomputable def cb_257_3 : List Instr := .iconst 0 :: .goto 14 :: cb_257_5
noncomputable def cb_257_0 : List Instr := .aload 0 :: .getfield 1574 :: .ifCond .ne 5 :: cb_257_3
-- 258: FogWatchModel.isDone(III)Z
noncomputable def cb_258_92 : List Instr := .iconst 1 :: .freturn :: []
noncomputable def cb_258_90 : List Instr := .aload 0 :: .invokeinterface 257 12 :: cb_258_92
noncomputable def cb_258_82 : List Instr := .aload 0 :: .getfield 1625 :: .iconst 0 :: .iload 2 :: .iadd :: .iload 3 :: .iastore :: .goto 92 :: cb_258_90
noncomputable def cb_258_79 : List Instr := .iload 1 :: .iconst 3 :: .if_icmp .ne 90 :: cb_258_82
noncomputable def cb_258_77 : List Instr := .iastore :: .goto 92 :: cb_258_79
noncomputable def cb_258_71 : List Instr := .aload 0 :: .getfield 1625 :: .iconst 30 :: .iaload :: .iload 2 :: .iadd :: cb_258_77
noncomputable def cb_258_69 : List Instr := .iconst 200 :: .goto 77 :: cb_258_71
noncomputable def cb_258_58 : List Instr := .aload 0 :: .getfield 1625 :: .iconst 30 :: .aload 0 :: .getfield 1625 :: .iconst 30 :: .iaload :: .iload 2 :: .iadd :: .iconst 200 :: .if_icmp .le 71 :: cb_258_69
noncomputable def cb_258_55 : List Instr := .iload 1 :: .iconst 2 :: .if_icmp .ne 79 :: cb_258_58
noncomputable def cb_258_40 : List Instr := .aload 0 :: .getfield 1625 :: .iconst 20 :: .iload 2 :: .iadd :: .iconst 1 :: .aload 0 :: .getfield 1625 :: .iconst 20 :: .iload 2 :: .iadd :: .iaload :: .isub :: .iastore :: .goto 92 :: cb_258_55
noncomputable def cb_258_37 : List Instr := .iload 1 :: .iconst 1 :: .if_icmp .ne 55 :: cb_258_40
noncomputable def cb_258_35 : List Instr := .iconst 0 :: .freturn :: cb_258_37
noncomputable def cb_258_29 : List Instr := .aload 0 :: .getfield 1625 :: .iconst 34 :: .iaload :: .iconst 400 :: .if_icmp .lt 37 :: cb_258_35
noncomputable def cb_258_26 : List Instr := .iload 1 :: .iconst 4 :: .if_icmp .ne 37 :: cb_258_29
noncomputable def cb_258_18 : List Instr := .aload 0 :: .getfield 1625 :: .iconst 0 :: .iload 2 :: .iadd :: .iaload :: .iload 3 :: .if_icmp .eq 35 :: cb_258_26
noncomputable def cb_258_15 : List Instr := .iload 1 :: .iconst 3 :: .if_icmp .ne 26 :: cb_258_18
noncomputable def cb_258_9 : List Instr := .aload 0 :: .getfield 1625 :: .iconst 30 :: .iaload :: .iconst 200 :: .if_icmp .eq 35 :: cb_258_15
noncomputable def cb_258_6 : List Instr := .iload 1 :: .iconst 2 :: .if_icmp .ne 15 :: cb_258_9
noncomputable def cb_258_2 : List Instr := .aload 0 :: .iload 2 :: .invokeinterface 256 76 :: .freturn :: cb_258_6
noncomputable def cb_258_0 : List Instr := .iload 1 :: .ifCond .ne 6 :: cb_258_2
-- 259: FogWatchModel.undo()I
noncomputable def cb_259_34 : List Instr := .aload 0 :: .iconst 0 :: .putfield 1604 :: .aload 0 :: .getfield 1602 :: .ireturn :: []
noncomputable def cb_259_19 : List Instr := .aload 0 :: .getfield 1623 :: .iload 1 :: .aload 0 :: .getfield 1627 :: .iconst 35 :: .aload 0 :: .getfield 1602 :: .imul :: .iload 1 :: .iadd :: .iaload :: .iastore :: .iinc 1 1 :: .goto 16 :: cb_259_34
noncomputable def cb_259_16 : List Instr := .iload 1 :: .iconst 35 :: .if_icmp .ge 34 :: cb_259_19
noncomputable def cb_259_8 : List Instr := .aload 0 :: .dup :: .getfield 1602 :: .iconst 1 :: .isub :: .putfield 1602 :: .iconst 0 :: .istore 1 :: cb_259_16
noncomputable def cb_259_6 : List Instr := .iconst (-1) :: .ireturn :: cb_259_8
noncomputable def cb_259_0 : List Instr := .aload 0 :: .iconst 0 :: .putfield 1536 :: .aload 0 :: .getfield 1602 :: .ifCond .ne 8 :: cb_259_6
-- 260: FogWatchModel.menAnywhere()I
noncomputable def cb_260_21 : List Instr := .iload 1 :: .ireturn :: []
noncomputable def cb_260_8 : List Instr := .iload 1 :: .iconst 1 :: .aload 0 :: .getfield 1625 :: .iconst 0 :: .iload 2 :: .iadd :: .iaload :: .ishl :: .ior :: .istore 1 :: .iinc 2 1 :: .goto 4 :: cb_260_21
noncomputable def cb_260_4 : List Instr := .iload 2 :: .aload 0 :: .getfield 1576 :: .if_icmp .ge 21 :: cb_260_8
noncomputable def cb_260_0 : List Instr := .iconst 0 :: .istore 1 :: .iconst 0 :: .istore 2 :: cb_260_4
-- 261: FogWatchModel.told(I)I
noncomputable def cb_261_91 : List Instr := .ireturn :: []
noncomputable def cb_261_89 : List Instr := .aload 0 :: .invokeinterface 252 12 :: cb_261_91
noncomputable def cb_261_86 : List Instr := .aload 0 :: .getfield 1604 :: .goto 91 :: cb_261_89
noncomputable def cb_261_83 : List Instr := .iload 1 :: .iconst 10 :: .if_icmp .ne 89 :: cb_261_86
noncomputable def cb_261_80 : List Instr := .aload 0 :: .getfield 1620 :: .goto 91 :: cb_261_83
noncomputable def cb_261_77 : List Instr := .iload 1 :: .iconst 9 :: .if_icmp .ne 83 :: cb_261_80
noncomputable def cb_261_74 : List Instr := .aload 0 :: .getfield 1618 :: .goto 91 :: cb_261_77
noncomputable def cb_261_71 : List Instr := .iload 1 :: .iconst 8 :: .if_icmp .ne 77 :: cb_261_74
noncomputable def cb_261_70 : List Instr := .ireturn :: cb_261_71
noncomputable def cb_261_68 : List Instr := .aload 0 :: .invokeinterface 260 12 :: cb_261_70
noncomputable def cb_261_63 : List Instr := .aload 0 :: .getfield 1625 :: .iconst 32 :: .iaload :: .goto 70 :: cb_261_68
noncomputable def cb_261_60 : List Instr := .iload 1 :: .iconst 6 :: .if_icmp .ne 68 :: cb_261_63
noncomputable def cb_261_55 : List Instr := .aload 0 :: .getfield 1625 :: .iconst 31 :: .iaload :: .goto 70 :: cb_261_60
noncomputable def cb_261_52 : List Instr := .iload 1 :: .iconst 5 :: .if_icmp .ne 60 :: cb_261_55
noncomputable def cb_261_49 : List Instr := .aload 0 :: .invokeinterface 250 12 :: .goto 70 :: cb_261_52
noncomputable def cb_261_46 : List Instr := .iload 1 :: .iconst 4 :: .if_icmp .ne 52 :: cb_261_49
noncomputable def cb_261_43 : List Instr := .iload 1 :: .iconst 8 :: .if_icmp .ge 71 :: cb_261_46
noncomputable def cb_261_42 : List Instr := .ireturn :: cb_261_43
noncomputable def cb_261_38 : List Instr := .aload 0 :: .getfield 1625 :: .iconst 34 :: .iaload :: cb_261_42
noncomputable def cb_261_33 : List Instr := .aload 0 :: .getfield 1625 :: .iconst 30 :: .iaload :: .goto 42 :: cb_261_38
noncomputable def cb_261_30 : List Instr := .iload 1 :: .iconst 2 :: .if_icmp .ne 38 :: cb_261_33
noncomputable def cb_261_27 : List Instr := .aload 0 :: .getfield 1576 :: .goto 42 :: cb_261_30
noncomputable def cb_261_24 : List Instr := .iload 1 :: .iconst 1 :: .if_icmp .ne 30 :: cb_261_27
noncomputable def cb_261_21 : List Instr := .aload 0 :: .getfield 1574 :: .goto 42 :: cb_261_24
noncomputable def cb_261_19 : List Instr := .iload 1 :: .ifCond .ne 24 :: cb_261_21
noncomputable def cb_261_14 : List Instr := .aload 0 :: .invokeinterface 248 12 :: .iload 1 :: .iconst 4 :: .if_icmp .ge 43 :: cb_261_19
noncomputable def cb_261_12 : List Instr := .iconst 0 :: .ireturn :: cb_261_14
noncomputable def cb_261_0 : List Instr := .aload 0 :: .iconst 0 :: .putfield 1536 :: .aload 0 :: .iload 1 :: .iconst 0 :: .iconst 11 :: .multianewarray 200 6 :: .iconst 1 :: .iconst 1 :: .invokeinterface 199 204 :: .ifCond .ne 14 :: cb_261_12
-- 262: FogWatchModel.isCorner(II)Z
noncomputable def cb_262_0 : List Instr := .aload 0 :: .iload 1 :: .iconst 0 :: .aload 0 :: .getfield 1574 :: .iconst 1 :: .isub :: .multianewarray 200 6 :: .iload 2 :: .iconst 0 :: .invokeinterface 199 204 :: .freturn :: []
-- 263: FogWatchModel.isMan(II)Z
noncomputable def cb_263_0 : List Instr := .aload 0 :: .iload 1 :: .iconst 0 :: .aload 0 :: .getfield 1576 :: .iconst 1 :: .isub :: .multianewarray 200 6 :: .iload 2 :: .iconst 0 :: .invokeinterface 199 204 :: .freturn :: []
-- 264: FogWatchModel.isWhistle(I)Z
noncomputable def cb_264_8 : List Instr := .freturn :: []
noncomputable def cb_264_7 : List Instr := .iconst 0 :: cb_264_8
noncomputable def cb_264_5 : List Instr := .iconst 1 :: .goto 8 :: cb_264_7
noncomputable def cb_264_2 : List Instr := .iload 0 :: .iconst 4 :: .if_icmp .ge 7 :: cb_264_5
noncomputable def cb_264_0 : List Instr := .iload 0 :: .ifCond .lt 7 :: cb_264_2
-- 265: FogWatchModel.isSet(I)Z
noncomputable def cb_265_11 : List Instr := .freturn :: []
noncomputable def cb_265_10 : List Instr := .iconst 0 :: cb_265_11
noncomputable def cb_265_8 : List Instr := .iconst 1 :: .goto 11 :: cb_265_10
noncomputable def cb_265_2 : List Instr := .iload 1 :: .iconst 1 :: .aload 0 :: .getfield 1574 :: .ishl :: .if_icmp .ge 10 :: cb_265_8
noncomputable def cb_265_0 : List Instr := .iload 1 :: .ifCond .lt 10 :: cb_265_2
-- 266: FogWatchModel.corner(II)I
noncomputable def cb_266_41 : List Instr := .ireturn :: []
noncomputable def cb_266_38 : List Instr := .aload 0 :: .iload 1 :: .invokeinterface 251 76 :: cb_266_41
noncomputable def cb_266_31 : List Instr := .aload 0 :: .getfield 1625 :: .iconst 20 :: .iload 1 :: .iadd :: .iaload :: .goto 41 :: cb_266_38
noncomputable def cb_266_28 : List Instr := .iload 2 :: .iconst 1 :: .if_icmp .ne 38 :: cb_266_31
noncomputable def cb_266_23 : List Instr := .aload 0 :: .getfield 1563 :: .iload 1 :: .iaload :: .goto 41 :: cb_266_28
noncomputable def cb_266_19 : List Instr := .aload 0 :: .invokeinterface 248 12 :: .iload 2 :: .ifCond .ne 28 :: cb_266_23
noncomputable def cb_266_17 : List Instr := .iconst 0 :: .ireturn :: cb_266_19
noncomputable def cb_266_8 : List Instr := .aload 0 :: .iload 2 :: .iconst 0 :: .iconst 2 :: .multianewarray 200 6 :: .iconst 2 :: .iconst 1 :: .invokeinterface 199 204 :: .ifCond .ne 19 :: cb_266_17
noncomputable def cb_266_0 : List Instr := .aload 0 :: .iconst 0 :: .putfield 1536 :: .aload 0 :: .iload 1 :: .iconst 1 :: .invokeinterface 262 140 :: .ifCond .eq 17 :: cb_266_8
-- 267: FogWatchModel.way(II)I
noncomputable def cb_267_17 : List Instr := .aload 0 :: .getfield 1565 :: .iconst 4 :: .iload 1 :: .imul :: .iload 2 :: .iadd :: .iaload :: .ireturn :: []
noncomputable def cb_267_15 : List Instr := .iconst 0 :: .ireturn :: cb_267_17
noncomputable def cb_267_8 : List Instr := .aload 0 :: .iload 2 :: .multianewarray 264 2 :: .iconst 2 :: .iconst 1 :: .invokeinterface 199 204 :: .ifCond .ne 17 :: cb_267_15
noncomputable def cb_267_0 : List Instr := .aload 0 :: .iconst 0 :: .putfield 1536 :: .aload 0 :: .iload 1 :: .iconst 1 :: .invokeinterface 262 140 :: .ifCond .eq 15 :: cb_267_8
-- 268: FogWatchModel.man(II)I
noncomputable def cb_268_19 : List Instr := .aload 0 :: .getfield 1623 :: .iconst 0 :: .iconst 5 :: .iload 2 :: .imul :: .iadd :: .iload 1 :: .iadd :: .iaload :: .ireturn :: []
noncomputable def cb_268_17 : List Instr := .iconst 0 :: .ireturn :: cb_268_19
noncomputable def cb_268_8 : List Instr := .aload 0 :: .iload 2 :: .iconst 0 :: .iconst 3 :: .multianewarray 200 6 :: .iconst 2 :: .iconst 1 :: .invokeinterface 199 204 :: .ifCond .ne 19 :: cb_268_17
noncomputable def cb_268_0 : List Instr := .aload 0 :: .iconst 0 :: .putfield 1536 :: .aload 0 :: .iload 1 :: .iconst 1 :: .invokeinterface 263 140 :: .ifCond .eq 17 :: cb_268_8
-- 269: FogWatchModel.cost(I)I
noncomputable def cb_269_12 : List Instr := .aload 0 :: .invokeinterface 248 12 :: .aload 0 :: .iload 1 :: .invokeinterface 254 76 :: .ireturn :: []
noncomputable def cb_269_10 : List Instr := .iconst 0 :: .ireturn :: cb_269_12
noncomputable def cb_269_0 : List Instr := .aload 0 :: .iconst 0 :: .putfield 1536 :: .aload 0 :: .iload 1 :: .multianewarray 264 2 :: .iconst 1 :: .iconst 1 :: .invokeinterface 199 204 :: .ifCond .ne 12 :: cb_269_10
-- 270: FogWatchModel.would(IIIIIII)I
noncomputable def cb_270_46 : List Instr := .aload 0 :: .iload 1 :: .iload 2 :: .iload 3 :: .iload 4 :: .iload 5 :: .iload 6 :: .iload 7 :: .invokeinterface 253 460 :: .ireturn :: []
noncomputable def cb_270_44 : List Instr := .iconst 0 :: .ireturn :: cb_270_46
noncomputable def cb_270_40 : List Instr := .iconst 1 :: .iconst 1 :: .invokeinterface 199 204 :: .ifCond .ne 46 :: cb_270_44
noncomputable def cb_270_39 : List Instr := .iconst 0 :: cb_270_40
noncomputable def cb_270_37 : List Instr := .iconst 1 :: .goto 40 :: cb_270_39
noncomputable def cb_270_32 : List Instr := .iload 7 :: .iconst 0 :: .iconst 200 :: .multianewarray 200 6 :: .ifCond .eq 39 :: cb_270_37
noncomputable def cb_270_27 : List Instr := .iload 6 :: .iconst 0 :: .iconst 400 :: .multianewarray 200 6 :: .ifCond .eq 39 :: cb_270_32
noncomputable def cb_270_22 : List Instr := .iload 5 :: .iconst 0 :: .iconst 5 :: .multianewarray 200 6 :: .ifCond .eq 39 :: cb_270_27
noncomputable def cb_270_17 : List Instr := .iload 4 :: .iconst 0 :: .iconst 10 :: .multianewarray 200 6 :: .ifCond .eq 39 :: cb_270_22
noncomputable def cb_270_12 : List Instr := .iload 3 :: .iconst 0 :: .iconst 999 :: .multianewarray 200 6 :: .ifCond .eq 39 :: cb_270_17
noncomputable def cb_270_7 : List Instr := .iload 2 :: .iconst 0 :: .iconst 999 :: .multianewarray 200 6 :: .ifCond .eq 39 :: cb_270_12
noncomputable def cb_270_0 : List Instr := .aload 0 :: .iconst 0 :: .putfield 1536 :: .aload 0 :: .iload 1 :: .multianewarray 264 2 :: .ifCond .eq 39 :: cb_270_7
-- 271: FogWatchModel.ahead(II)I
noncomputable def cb_271_65 : List Instr := .iload 3 :: .ireturn :: []
noncomputable def cb_271_47 : List Instr := .iload 3 :: .aload 0 :: .getfield 1625 :: .iconst 20 :: .aload 0 :: .getfield 1625 :: .iconst 0 :: .iload 4 :: .iadd :: .iaload :: .iadd :: .iaload :: .iload 4 :: .ishl :: .ior :: .istore 3 :: .iinc 4 1 :: .goto 43 :: cb_271_65
noncomputable def cb_271_43 : List Instr := .iload 4 :: .aload 0 :: .getfield 1576 :: .if_icmp .ge 65 :: cb_271_47
noncomputable def cb_271_39 : List Instr := .iconst 0 :: .istore 3 :: .iconst 0 :: .istore 4 :: cb_271_43
noncomputable def cb_271_36 : List Instr := .aload 0 :: .invokeinterface 250 12 :: .ireturn :: cb_271_39
noncomputable def cb_271_34 : List Instr := .iload 2 :: .ifCond .ne 39 :: cb_271_36
noncomputable def cb_271_30 : List Instr := .aload 0 :: .invokeinterface 257 12 :: .iinc 3 1 :: .goto 27 :: cb_271_34
noncomputable def cb_271_27 : List Instr := .iload 3 :: .iload 1 :: .if_icmp .ge 34 :: cb_271_30
noncomputable def cb_271_23 : List Instr := .aload 0 :: .invokeinterface 248 12 :: .iconst 0 :: .istore 3 :: cb_271_27
noncomputable def cb_271_21 : List Instr := .iconst 0 :: .ireturn :: cb_271_23
noncomputable def cb_271_17 : List Instr := .iconst 1 :: .iconst 1 :: .invokeinterface 199 204 :: .ifCond .ne 23 :: cb_271_21
noncomputable def cb_271_16 : List Instr := .iconst 0 :: cb_271_17
noncomputable def cb_271_14 : List Instr := .iconst 1 :: .goto 17 :: cb_271_16
noncomputable def cb_271_9 : List Instr := .iload 2 :: .iconst 0 :: .iconst 1 :: .multianewarray 200 6 :: .ifCond .eq 16 :: cb_271_14
noncomputable def cb_271_0 : List Instr := .aload 0 :: .iconst 0 :: .putfield 1536 :: .aload 0 :: .iload 1 :: .iconst 0 :: .iconst 99 :: .multianewarray 200 6 :: .ifCond .eq 16 :: cb_271_9
-- 272: FogWatchModel.allTo(II)I
noncomputable def cb_272_28 : List Instr := .iload 3 :: .ireturn :: []
noncomputable def cb_272_24 : List Instr := .ior :: .istore 3 :: .iinc 4 1 :: .goto 4 :: cb_272_28
noncomputable def cb_272_23 : List Instr := .iconst 0 :: cb_272_24
noncomputable def cb_272_16 : List Instr := .iconst 1 :: .aload 0 :: .iload 4 :: .iload 2 :: .invokeinterface 255 140 :: .ishl :: .goto 24 :: cb_272_23
noncomputable def cb_272_8 : List Instr := .iload 3 :: .iload 1 :: .iload 4 :: .ishr :: .iconst 1 :: .iand :: .iconst 1 :: .if_icmp .ne 23 :: cb_272_16
noncomputable def cb_272_4 : List Instr := .iload 4 :: .aload 0 :: .getfield 1574 :: .if_icmp .ge 28 :: cb_272_8
noncomputable def cb_272_0 : List Instr := .iconst 0 :: .istore 3 :: .iconst 0 :: .istore 4 :: cb_272_4
-- 273: FogWatchModel.goes(I)I
noncomputable def cb_273_33 : List Instr := .iload 2 :: .ireturn :: []
noncomputable def cb_273_23 : List Instr := .aload 0 :: .iload 2 :: .aload 0 :: .getfield 1615 :: .iload 3 :: .iaload :: .invokeinterface 272 140 :: .istore 2 :: .iinc 3 1 :: .goto 19 :: cb_273_33
noncomputable def cb_273_19 : List Instr := .iload 3 :: .aload 0 :: .getfield 1618 :: .if_icmp .ge 33 :: cb_273_23
noncomputable def cb_273_13 : List Instr := .aload 0 :: .invokeinterface 248 12 :: .iload 1 :: .istore 2 :: .iconst 0 :: .istore 3 :: cb_273_19
noncomputable def cb_273_11 : List Instr := .iconst 0 :: .ireturn :: cb_273_13
noncomputable def cb_273_0 : List Instr := .aload 0 :: .iconst 0 :: .putfield 1536 :: .aload 0 :: .aload 0 :: .iload 1 :: .invokeinterface 265 76 :: .iconst 1 :: .iconst 1 :: .invokeinterface 199 204 :: .ifCond .ne 13 :: cb_273_11
-- 274: FogWatchModel.goesRound(II)I
noncomputable def cb_274_96 : List Instr := .iconst (-1) :: .ireturn :: []
noncomputable def cb_274_94 : List Instr := .iinc 4 1 :: .goto 26 :: cb_274_96
noncomputable def cb_274_92 : List Instr := .iinc 6 1 :: .goto 51 :: cb_274_94
noncomputable def cb_274_66 : List Instr := .aload 0 :: .getfield 1635 :: .iload 7 :: .aload 0 :: .getfield 1635 :: .iload 5 :: .iaload :: .iconst 1 :: .iadd :: .iastore :: .aload 0 :: .getfield 1631 :: .iload 7 :: .iload 5 :: .iastore :: .aload 0 :: .getfield 1633 :: .iload 7 :: .iload 6 :: .iastore :: .aload 0 :: .getfield 1629 :: .iload 3 :: .iload 7 :: .iastore :: .iinc 3 1 :: cb_274_92
noncomputable def cb_274_65 : List Instr := .goto 92 :: cb_274_66
noncomputable def cb_274_54 : List Instr := .aload 0 :: .iload 5 :: .iload 6 :: .invokeinterface 272 140 :: .istore 7 :: .aload 0 :: .getfield 1635 :: .iload 7 :: .iaload :: .iconst (-1) :: .if_icmp .eq 66 :: cb_274_65
noncomputable def cb_274_51 : List Instr := .iload 6 :: .iconst 4 :: .if_icmp .ge 94 :: cb_274_54
noncomputable def cb_274_49 : List Instr := .iconst 0 :: .istore 6 :: cb_274_51
noncomputable def cb_274_47 : List Instr := .iload 5 :: .ireturn :: cb_274_49
noncomputable def cb_274_42 : List Instr := .iload 5 :: .iconst 1 :: .iload 2 :: .ishl :: .if_icmp .ne 49 :: cb_274_47
noncomputable def cb_274_41 : List Instr := .goto 47 :: cb_274_42
noncomputable def cb_274_37 : List Instr := .iload 5 :: .multianewarray 249 2 :: .iconst 1 :: .if_icmp .ne 49 :: cb_274_41
noncomputable def cb_274_29 : List Instr := .aload 0 :: .getfield 1629 :: .iload 4 :: .iaload :: .istore 5 :: .iload 2 :: .iconst (-1) :: .if_icmp .ne 42 :: cb_274_37
noncomputable def cb_274_26 : List Instr := .iload 4 :: .iload 3 :: .if_icmp .ge 96 :: cb_274_29
noncomputable def cb_274_12 : List Instr := .aload 0 :: .getfield 1635 :: .iload 1 :: .iconst 0 :: .iastore :: .aload 0 :: .getfield 1629 :: .iconst 0 :: .iload 1 :: .iastore :: .iconst 1 :: .istore 3 :: .iconst 0 :: .istore 4 :: cb_274_26
noncomputable def cb_274_5 : List Instr := .aload 0 :: .getfield 1635 :: .iload 3 :: .iconst (-1) :: .iastore :: .iinc 3 1 :: .goto 2 :: cb_274_12
noncomputable def cb_274_2 : List Instr := .iload 3 :: .iconst 1024 :: .if_icmp .ge 12 :: cb_274_5
noncomputable def cb_274_0 : List Instr := .iconst 0 :: .istore 3 :: cb_274_2
-- 275: FogWatchModel.cornerOf(I)I
noncomputable def cb_275_10 : List Instr := .iload 1 :: .ireturn :: []
noncomputable def cb_275_8 : List Instr := .iinc 1 1 :: .goto 2 :: cb_275_10
noncomputable def cb_275_2 : List Instr := .iload 0 :: .iload 1 :: .ishr :: .iconst 1 :: .iand :: .ifCond .ne 10 :: cb_275_8
noncomputable def cb_275_0 : List Instr := .iconst 0 :: .istore 1 :: cb_275_2
-- 276: FogWatchModel.reset(II)I
noncomputable def cb_276_51 : List Instr := .ireturn :: []
noncomputable def cb_276_49 : List Instr := .iload 3 :: .multianewarray 275 2 :: cb_276_51
noncomputable def cb_276_44 : List Instr := .aload 0 :: .getfield 1635 :: .iload 3 :: .iaload :: .goto 51 :: cb_276_49
noncomputable def cb_276_42 : List Instr := .iload 2 :: .ifCond .ne 49 :: cb_276_44
noncomputable def cb_276_40 : List Instr := .iconst (-1) :: .goto 51 :: cb_276_42
noncomputable def cb_276_30 : List Instr := .aload 0 :: .invokeinterface 248 12 :: .aload 0 :: .iload 1 :: .iconst (-1) :: .invokeinterface 274 140 :: .istore 3 :: .iload 3 :: .iconst (-1) :: .if_icmp .ne 42 :: cb_276_40
noncomputable def cb_276_29 : List Instr := .ireturn :: cb_276_30
noncomputable def cb_276_28 : List Instr := .iconst (-1) :: cb_276_29
noncomputable def cb_276_26 : List Instr := .iconst 0 :: .goto 29 :: cb_276_28
noncomputable def cb_276_24 : List Instr := .iload 2 :: .ifCond .ne 28 :: cb_276_26
noncomputable def cb_276_22 : List Instr := .iload 1 :: .ifCond .ne 30 :: cb_276_24
noncomputable def cb_276_20 : List Instr := .iconst 0 :: .ireturn :: cb_276_22
noncomputable def cb_276_16 : List Instr := .iconst 1 :: .iconst 1 :: .invokeinterface 199 204 :: .ifCond .ne 22 :: cb_276_20
noncomputable def cb_276_15 : List Instr := .iconst 0 :: cb_276_16
noncomputable def cb_276_13 : List Instr := .iconst 1 :: .goto 16 :: cb_276_15
noncomputable def cb_276_8 : List Instr := .iload 2 :: .iconst 0 :: .iconst 1 :: .multianewarray 200 6 :: .ifCond .eq 15 :: cb_276_13
noncomputable def cb_276_0 : List Instr := .aload 0 :: .iconst 0 :: .putfield 1536 :: .aload 0 :: .aload 0 :: .iload 1 :: .invokeinterface 265 76 :: .ifCond .eq 15 :: cb_276_8
-- 277: FogWatchModel.row(II)I
noncomputable def cb_277_55 : List Instr := .aload 0 :: .getfield 1633 :: .iload 3 :: .iaload :: .ireturn :: []
noncomputable def cb_277_49 : List Instr := .aload 0 :: .getfield 1631 :: .iload 3 :: .iaload :: .istore 3 :: .goto 41 :: cb_277_55
noncomputable def cb_277_41 : List Instr := .aload 0 :: .getfield 1635 :: .iload 3 :: .iaload :: .iload 2 :: .iconst 1 :: .iadd :: .if_icmp .le 55 :: cb_277_49
noncomputable def cb_277_39 : List Instr := .iconst (-1) :: .ireturn :: cb_277_41
noncomputable def cb_277_33 : List Instr := .iload 2 :: .aload 0 :: .getfield 1635 :: .iload 3 :: .iaload :: .if_icmp .lt 41 :: cb_277_39
noncomputable def cb_277_23 : List Instr := .aload 0 :: .invokeinterface 248 12 :: .aload 0 :: .iload 1 :: .iconst (-1) :: .invokeinterface 274 140 :: .istore 3 :: .iload 3 :: .iconst (-1) :: .if_icmp .eq 39 :: cb_277_33
noncomputable def cb_277_21 : List Instr := .iconst (-1) :: .ireturn :: cb_277_23
noncomputable def cb_277_19 : List Instr := .iload 1 :: .ifCond .ne 23 :: cb_277_21
noncomputable def cb_277_17 : List Instr := .iconst 0 :: .ireturn :: cb_277_19
noncomputable def cb_277_13 : List Instr := .iconst 1 :: .iconst 1 :: .invokeinterface 199 204 :: .ifCond .ne 19 :: cb_277_17
noncomputable def cb_277_12 : List Instr := .iconst 0 :: cb_277_13
noncomputable def cb_277_10 : List Instr := .iconst 1 :: .goto 13 :: cb_277_12
noncomputable def cb_277_8 : List Instr := .iload 2 :: .ifCond .lt 12 :: cb_277_10
noncomputable def cb_277_0 : List Instr := .aload 0 :: .iconst 0 :: .putfield 1536 :: .aload 0 :: .aload 0 :: .iload 1 :: .invokeinterface 265 76 :: .ifCond .eq 12 :: cb_277_8
-- 278: FogWatchModel.home(II)I
noncomputable def cb_278_38 : List Instr := .ireturn :: []
noncomputable def cb_278_34 : List Instr := .aload 0 :: .getfield 1635 :: .iload 3 :: .iaload :: cb_278_38
noncomputable def cb_278_32 : List Instr := .iconst (-1) :: .goto 38 :: cb_278_34
noncomputable def cb_278_22 : List Instr := .aload 0 :: .invokeinterface 248 12 :: .aload 0 :: .iload 1 :: .iload 2 :: .invokeinterface 274 140 :: .istore 3 :: .iload 3 :: .iconst (-1) :: .if_icmp .ne 34 :: cb_278_32
noncomputable def cb_278_20 : List Instr := .iconst 0 :: .ireturn :: cb_278_22
noncomputable def cb_278_18 : List Instr := .iload 1 :: .ifCond .ne 22 :: cb_278_20
noncomputable def cb_278_16 : List Instr := .iconst 0 :: .ireturn :: cb_278_18
noncomputable def cb_278_8 : List Instr := .aload 0 :: .aload 0 :: .iload 1 :: .invokeinterface 265 76 :: .iconst 2 :: .iconst 1 :: .invokeinterface 199 204 :: .ifCond .ne 18 :: cb_278_16
noncomputable def cb_278_0 : List Instr := .aload 0 :: .iconst 0 :: .putfield 1536 :: .aload 0 :: .iload 2 :: .iconst 1 :: .invokeinterface 262 140 :: .ifCond .eq 16 :: cb_278_8
-- 279: FogWatchModel.cheap(I)I
noncomputable def cb_279_128 : List Instr := .ireturn :: []
noncomputable def cb_279_127 : List Instr := .iload 3 :: cb_279_128
noncomputable def cb_279_125 : List Instr := .iconst (-1) :: .goto 128 :: cb_279_127
noncomputable def cb_279_122 : List Instr := .iload 3 :: .iconst 999999 :: .if_icmp .ne 127 :: cb_279_125
noncomputable def cb_279_119 : List Instr := .istore 3 :: .iinc 4 1 :: .goto 99 :: cb_279_122
noncomputable def cb_279_118 : List Instr := .iload 3 :: cb_279_119
noncomputable def cb_279_111 : List Instr := .aload 0 :: .getfield 1635 :: .iconst 1 :: .iload 4 :: .ishl :: .iaload :: .goto 119 :: cb_279_118
noncomputable def cb_279_103 : List Instr := .aload 0 :: .getfield 1635 :: .iconst 1 :: .iload 4 :: .ishl :: .iaload :: .iload 3 :: .if_icmp .ge 118 :: cb_279_111
noncomputable def cb_279_99 : List Instr := .iload 4 :: .aload 0 :: .getfield 1574 :: .if_icmp .ge 122 :: cb_279_103
noncomputable def cb_279_95 : List Instr := .iconst 999999 :: .istore 3 :: .iconst 0 :: .istore 4 :: cb_279_99
noncomputable def cb_279_94 : List Instr := .goto 38 :: cb_279_95
noncomputable def cb_279_92 : List Instr := .iinc 3 1 :: .goto 44 :: cb_279_94
noncomputable def cb_279_90 : List Instr := .iinc 4 1 :: .goto 59 :: cb_279_92
noncomputable def cb_279_83 : List Instr := .aload 0 :: .getfield 1635 :: .iload 5 :: .iload 6 :: .iastore :: .iconst 1 :: .istore 2 :: cb_279_90
noncomputable def cb_279_82 : List Instr := .goto 90 :: cb_279_83
noncomputable def cb_279_62 : List Instr := .aload 0 :: .iload 3 :: .iload 4 :: .invokeinterface 272 140 :: .istore 5 :: .aload 0 :: .getfield 1635 :: .iload 3 :: .iaload :: .aload 0 :: .iload 4 :: .invokeinterface 254 76 :: .iadd :: .istore 6 :: .iload 6 :: .aload 0 :: .getfield 1635 :: .iload 5 :: .iaload :: .if_icmp .lt 83 :: cb_279_82
noncomputable def cb_279_59 : List Instr := .iload 4 :: .iconst 4 :: .if_icmp .ge 92 :: cb_279_62
noncomputable def cb_279_57 : List Instr := .iconst 0 :: .istore 4 :: cb_279_59
noncomputable def cb_279_56 : List Instr := .goto 92 :: cb_279_57
noncomputable def cb_279_50 : List Instr := .aload 0 :: .getfield 1635 :: .iload 3 :: .iaload :: .iconst 999999 :: .if_icmp .ne 57 :: cb_279_56
noncomputable def cb_279_44 : List Instr := .iload 3 :: .iconst 1 :: .aload 0 :: .getfield 1574 :: .ishl :: .if_icmp .ge 94 :: cb_279_50
noncomputable def cb_279_40 : List Instr := .iconst 0 :: .istore 2 :: .iconst 1 :: .istore 3 :: cb_279_44
noncomputable def cb_279_38 : List Instr := .iload 2 :: .ifCond .eq 95 :: cb_279_40
noncomputable def cb_279_36 : List Instr := .iconst 1 :: .istore 2 :: cb_279_38
noncomputable def cb_279_33 : List Instr := .iastore :: .iinc 2 1 :: .goto 21 :: cb_279_36
noncomputable def cb_279_32 : List Instr := .iconst 999999 :: cb_279_33
noncomputable def cb_279_30 : List Instr := .iconst 0 :: .goto 33 :: cb_279_32
noncomputable def cb_279_24 : List Instr := .aload 0 :: .getfield 1635 :: .iload 2 :: .iload 2 :: .iload 1 :: .if_icmp .ne 32 :: cb_279_30
noncomputable def cb_279_21 : List Instr := .iload 2 :: .iconst 1024 :: .if_icmp .ge 36 :: cb_279_24
noncomputable def cb_279_17 : List Instr := .aload 0 :: .invokeinterface 248 12 :: .iconst 0 :: .istore 2 :: cb_279_21
noncomputable def cb_279_15 : List Instr := .iconst 0 :: .ireturn :: cb_279_17
noncomputable def cb_279_13 : List Instr := .iload 1 :: .ifCond .ne 17 :: cb_279_15
noncomputable def cb_279_11 : List Instr := .iconst 0 :: .ireturn :: cb_279_13
noncomputable def cb_279_0 : List Instr := .aload 0 :: .iconst 0 :: .putfield 1536 :: .aload 0 :: .aload 0 :: .iload 1 :: .invokeinterface 265 76 :: .iconst 1 :: .iconst 1 :: .invokeinterface 199 204 :: .ifCond .ne 13 :: cb_279_11
-- 280: FogWatchModel.laysTells()V
noncomputable def cb_280_108 : List Instr := .return_ :: []
noncomputable def cb_280_107 : List Instr := .goto 41 :: cb_280_108
noncomputable def cb_280_105 : List Instr := .iinc 2 1 :: .goto 47 :: cb_280_107
noncomputable def cb_280_103 : List Instr := .iinc 3 1 :: .goto 53 :: cb_280_105
noncomputable def cb_280_101 : List Instr := .iinc 4 1 :: .goto 59 :: cb_280_103
noncomputable def cb_280_90 : List Instr := .aload 0 :: .getfield 1637 :: .iconst 10 :: .iload 2 :: .imul :: .iload 3 :: .iadd :: .iload 5 :: .iastore :: .iconst 1 :: .istore 1 :: cb_280_101
noncomputable def cb_280_89 : List Instr := .goto 101 :: cb_280_90
noncomputable def cb_280_62 : List Instr := .aload 0 :: .getfield 1637 :: .iconst 10 :: .aload 0 :: .iload 2 :: .iload 4 :: .invokeinterface 255 140 :: .imul :: .aload 0 :: .iload 3 :: .iload 4 :: .invokeinterface 255 140 :: .iadd :: .iaload :: .iconst 1 :: .iadd :: .istore 5 :: .iload 5 :: .aload 0 :: .getfield 1637 :: .iconst 10 :: .iload 2 :: .imul :: .iload 3 :: .iadd :: .iaload :: .if_icmp .lt 90 :: cb_280_89
noncomputable def cb_280_59 : List Instr := .iload 4 :: .iconst 4 :: .if_icmp .ge 103 :: cb_280_62
noncomputable def cb_280_57 : List Instr := .iconst 0 :: .istore 4 :: cb_280_59
noncomputable def cb_280_53 : List Instr := .iload 3 :: .aload 0 :: .getfield 1574 :: .if_icmp .ge 105 :: cb_280_57
noncomputable def cb_280_51 : List Instr := .iconst 0 :: .istore 3 :: cb_280_53
noncomputable def cb_280_47 : List Instr := .iload 2 :: .aload 0 :: .getfield 1574 :: .if_icmp .ge 107 :: cb_280_51
noncomputable def cb_280_43 : List Instr := .iconst 0 :: .istore 1 :: .iconst 0 :: .istore 2 :: cb_280_47
noncomputable def cb_280_41 : List Instr := .iload 1 :: .ifCond .eq 108 :: cb_280_43
noncomputable def cb_280_39 : List Instr := .iconst 1 :: .istore 1 :: cb_280_41
noncomputable def cb_280_36 : List Instr := .iastore :: .iinc 1 1 :: .goto 2 :: cb_280_39
noncomputable def cb_280_35 : List Instr := .iconst 999999 :: cb_280_36
noncomputable def cb_280_33 : List Instr := .iconst 0 :: .goto 36 :: cb_280_35
noncomputable def cb_280_20 : List Instr := .aload 0 :: .getfield 1563 :: .iload 1 :: .iconst 10 :: .idiv :: .iaload :: .aload 0 :: .getfield 1563 :: .iload 1 :: .iconst 10 :: .irem :: .iaload :: .if_icmp .eq 35 :: cb_280_33
noncomputable def cb_280_14 : List Instr := .iload 1 :: .iconst 10 :: .irem :: .aload 0 :: .getfield 1574 :: .if_icmp .ge 35 :: cb_280_20
noncomputable def cb_280_5 : List Instr := .aload 0 :: .getfield 1637 :: .iload 1 :: .iload 1 :: .iconst 10 :: .idiv :: .aload 0 :: .getfield 1574 :: .if_icmp .ge 35 :: cb_280_14
noncomputable def cb_280_2 : List Instr := .iload 1 :: .iconst 100 :: .if_icmp .ge 39 :: cb_280_5
noncomputable def cb_280_0 : List Instr := .iconst 0 :: .istore 1 :: cb_280_2
-- 281: FogWatchModel.apart(II)I
noncomputable def cb_281_39 : List Instr := .ireturn :: []
noncomputable def cb_281_31 : List Instr := .aload 0 :: .getfield 1637 :: .iconst 10 :: .iload 1 :: .imul :: .iload 2 :: .iadd :: .iaload :: cb_281_39
noncomputable def cb_281_29 : List Instr := .iconst (-1) :: .goto 39 :: cb_281_31
noncomputable def cb_281_15 : List Instr := .aload 0 :: .invokeinterface 248 12 :: .aload 0 :: .invokeinterface 280 12 :: .aload 0 :: .getfield 1637 :: .iconst 10 :: .iload 1 :: .imul :: .iload 2 :: .iadd :: .iaload :: .iconst 999999 :: .if_icmp .lt 31 :: cb_281_29
noncomputable def cb_281_13 : List Instr := .iconst 0 :: .ireturn :: cb_281_15
noncomputable def cb_281_8 : List Instr := .aload 0 :: .iload 2 :: .iconst 1 :: .invokeinterface 262 140 :: .ifCond .ne 15 :: cb_281_13
noncomputable def cb_281_0 : List Instr := .aload 0 :: .iconst 0 :: .putfield 1536 :: .aload 0 :: .iload 1 :: .iconst 1 :: .invokeinterface 262 140 :: .ifCond .eq 13 :: cb_281_8
-- 282: FogWatchModel.alikeOf(I)I
noncomputable def cb_282_28 : List Instr := .iload 2 :: .ireturn :: []
noncomputable def cb_282_24 : List Instr := .ior :: .istore 2 :: .iinc 3 1 :: .goto 4 :: cb_282_28
noncomputable def cb_282_23 : List Instr := .iconst 0 :: cb_282_24
noncomputable def cb_282_19 : List Instr := .iconst 1 :: .iload 3 :: .ishl :: .goto 24 :: cb_282_23
noncomputable def cb_282_8 : List Instr := .iload 2 :: .aload 0 :: .getfield 1637 :: .iconst 10 :: .iload 1 :: .imul :: .iload 3 :: .iadd :: .iaload :: .iconst 999999 :: .if_icmp .lt 23 :: cb_282_19
noncomputable def cb_282_4 : List Instr := .iload 3 :: .aload 0 :: .getfield 1574 :: .if_icmp .ge 28 :: cb_282_8
noncomputable def cb_282_0 : List Instr := .iconst 0 :: .istore 2 :: .iconst 0 :: .istore 3 :: cb_282_4
-- 283: FogWatchModel.alike(I)I
noncomputable def cb_283_10 : List Instr := .aload 0 :: .invokeinterface 248 12 :: .aload 0 :: .invokeinterface 280 12 :: .aload 0 :: .iload 1 :: .invokeinterface 282 76 :: .ireturn :: []
noncomputable def cb_283_8 : List Instr := .iconst 0 :: .ireturn :: cb_283_10
noncomputable def cb_283_0 : List Instr := .aload 0 :: .iconst 0 :: .putfield 1536 :: .aload 0 :: .iload 1 :: .iconst 1 :: .invokeinterface 262 140 :: .ifCond .ne 10 :: cb_283_8
-- 284: FogWatchModel.kinds()I
noncomputable def cb_284_29 : List Instr := .iload 1 :: .ireturn :: []
noncomputable def cb_284_25 : List Instr := .iadd :: .istore 1 :: .iinc 2 1 :: .goto 11 :: cb_284_29
noncomputable def cb_284_24 : List Instr := .iconst 0 :: cb_284_25
noncomputable def cb_284_22 : List Instr := .iconst 1 :: .goto 25 :: cb_284_24
noncomputable def cb_284_15 : List Instr := .iload 1 :: .aload 0 :: .iload 2 :: .invokeinterface 282 76 :: .multianewarray 275 2 :: .iload 2 :: .if_icmp .ne 24 :: cb_284_22
noncomputable def cb_284_11 : List Instr := .iload 2 :: .aload 0 :: .getfield 1574 :: .if_icmp .ge 29 :: cb_284_15
noncomputable def cb_284_0 : List Instr := .aload 0 :: .iconst 0 :: .putfield 1536 :: .aload 0 :: .invokeinterface 248 12 :: .aload 0 :: .invokeinterface 280 12 :: .iconst 0 :: .istore 1 :: .iconst 0 :: .istore 2 :: cb_284_11
-- 285: FogWatchModel.rows(III)J
noncomputable def cb_285_106 : List Instr := .aload 0 :: .getfield 1639 :: .iload 2 :: .laload :: .lreturn :: []
noncomputable def cb_285_104 : List Instr := .iinc 4 1 :: .goto 45 :: cb_285_106
noncomputable def cb_285_94 : List Instr := .aload 0 :: .getfield 1639 :: .iload 5 :: .aload 0 :: .getfield 1641 :: .iload 5 :: .laload :: .lastore :: .iinc 5 1 :: .goto 91 :: cb_285_104
noncomputable def cb_285_91 : List Instr := .iload 5 :: .iconst 10 :: .if_icmp .ge 104 :: cb_285_94
noncomputable def cb_285_89 : List Instr := .iconst 0 :: .istore 5 :: cb_285_91
noncomputable def cb_285_87 : List Instr := .iinc 5 1 :: .goto 62 :: cb_285_89
noncomputable def cb_285_71 : List Instr := .aload 0 :: .getfield 1641 :: .aload 0 :: .iload 5 :: .iload 6 :: .invokeinterface 255 140 :: .dup2 :: .laload :: .aload 0 :: .getfield 1639 :: .iload 5 :: .laload :: .ladd :: .lastore :: .iinc 6 1 :: .goto 68 :: cb_285_87
noncomputable def cb_285_68 : List Instr := .iload 6 :: .iconst 4 :: .if_icmp .ge 87 :: cb_285_71
noncomputable def cb_285_66 : List Instr := .iconst 0 :: .istore 6 :: cb_285_68
noncomputable def cb_285_62 : List Instr := .iload 5 :: .aload 0 :: .getfield 1574 :: .if_icmp .ge 89 :: cb_285_66
noncomputable def cb_285_60 : List Instr := .iconst 0 :: .istore 5 :: cb_285_62
noncomputable def cb_285_53 : List Instr := .aload 0 :: .getfield 1641 :: .iload 5 :: .ldc2_w 0 :: .lastore :: .iinc 5 1 :: .goto 50 :: cb_285_60
noncomputable def cb_285_50 : List Instr := .iload 5 :: .iconst 10 :: .if_icmp .ge 60 :: cb_285_53
noncomputable def cb_285_48 : List Instr := .iconst 0 :: .istore 5 :: cb_285_50
noncomputable def cb_285_45 : List Instr := .iload 4 :: .iload 3 :: .if_icmp .ge 106 :: cb_285_48
noncomputable def cb_285_43 : List Instr := .iconst 0 :: .istore 4 :: cb_285_45
noncomputable def cb_285_40 : List Instr := .lastore :: .iinc 4 1 :: .goto 28 :: cb_285_43
noncomputable def cb_285_39 : List Instr := .ldc2_w 0 :: cb_285_40
noncomputable def cb_285_37 : List Instr := .ldc2_w 1 :: .goto 40 :: cb_285_39
noncomputable def cb_285_31 : List Instr := .aload 0 :: .getfield 1639 :: .iload 4 :: .iload 4 :: .iload 1 :: .if_icmp .ne 39 :: cb_285_37
noncomputable def cb_285_28 : List Instr := .iload 4 :: .iconst 10 :: .if_icmp .ge 43 :: cb_285_31
noncomputable def cb_285_24 : List Instr := .aload 0 :: .invokeinterface 248 12 :: .iconst 0 :: .istore 4 :: cb_285_28
noncomputable def cb_285_22 : List Instr := .ldc2_w 0 :: .lreturn :: cb_285_24
noncomputable def cb_285_13 : List Instr := .aload 0 :: .iload 3 :: .iconst 0 :: .iconst 30 :: .multianewarray 200 6 :: .iconst 2 :: .iconst 1 :: .invokeinterface 199 204 :: .ifCond .ne 24 :: cb_285_22
noncomputable def cb_285_8 : List Instr := .aload 0 :: .iload 2 :: .iconst 1 :: .invokeinterface 262 140 :: .ifCond .eq 22 :: cb_285_13
noncomputable def cb_285_0 : List Instr := .aload 0 :: .iconst 0 :: .putfield 1536 :: .aload 0 :: .iload 1 :: .iconst 1 :: .invokeinterface 262 140 :: .ifCond .eq 22 :: cb_285_8
-- 286: FogWatchModel.songFrom(II)I
noncomputable def cb_286_17 : List Instr := .iload 3 :: .ireturn :: []
noncomputable def cb_286_7 : List Instr := .aload 0 :: .iload 3 :: .aload 0 :: .getfield 1615 :: .iload 4 :: .iaload :: .invokeinterface 255 140 :: .istore 3 :: .iinc 4 1 :: .goto 4 :: cb_286_17
noncomputable def cb_286_4 : List Instr := .iload 4 :: .iload 2 :: .if_icmp .ge 17 :: cb_286_7
noncomputable def cb_286_0 : List Instr := .iload 1 :: .istore 3 :: .iconst 0 :: .istore 4 :: cb_286_4
-- 287: FogWatchModel.ring(II)I
noncomputable def cb_287_66 : List Instr := .ireturn :: []
noncomputable def cb_287_60 : List Instr := .iload 4 :: .aload 0 :: .getfield 1643 :: .iload 3 :: .iaload :: .isub :: cb_287_66
noncomputable def cb_287_58 : List Instr := .iload 4 :: .goto 66 :: cb_287_60
noncomputable def cb_287_56 : List Instr := .iload 2 :: .ifCond .ne 60 :: cb_287_58
noncomputable def cb_287_43 : List Instr := .aload 0 :: .getfield 1643 :: .iload 3 :: .iload 4 :: .iastore :: .aload 0 :: .iload 3 :: .aload 0 :: .getfield 1618 :: .invokeinterface 286 140 :: .istore 3 :: .iinc 4 1 :: .goto 37 :: cb_287_56
noncomputable def cb_287_37 : List Instr := .aload 0 :: .getfield 1643 :: .iload 3 :: .iaload :: .iconst (-1) :: .if_icmp .ne 56 :: cb_287_43
noncomputable def cb_287_33 : List Instr := .iload 1 :: .istore 3 :: .iconst 0 :: .istore 4 :: cb_287_37
noncomputable def cb_287_26 : List Instr := .aload 0 :: .getfield 1643 :: .iload 3 :: .iconst (-1) :: .iastore :: .iinc 3 1 :: .goto 23 :: cb_287_33
noncomputable def cb_287_23 : List Instr := .iload 3 :: .iconst 10 :: .if_icmp .ge 33 :: cb_287_26
noncomputable def cb_287_19 : List Instr := .aload 0 :: .invokeinterface 248 12 :: .iconst 0 :: .istore 3 :: cb_287_23
noncomputable def cb_287_17 : List Instr := .iconst 0 :: .ireturn :: cb_287_19
noncomputable def cb_287_8 : List Instr := .aload 0 :: .iload 2 :: .iconst 0 :: .iconst 1 :: .multianewarray 200 6 :: .iconst 2 :: .iconst 1 :: .invokeinterface 199 204 :: .ifCond .ne 19 :: cb_287_17
noncomputable def cb_287_0 : List Instr := .aload 0 :: .iconst 0 :: .putfield 1536 :: .aload 0 :: .iload 1 :: .iconst 1 :: .invokeinterface 262 140 :: .ifCond .eq 17 :: cb_287_8
-- 288: FogWatchModel.heardMany()I
noncomputable def cb_288_10 : List Instr := .ireturn :: []
noncomputable def cb_288_8 : List Instr := .aload 0 :: .getfield 1620 :: cb_288_10
noncomputable def cb_288_5 : List Instr := .aload 0 :: .getfield 1618 :: .goto 10 :: cb_288_8
noncomputable def cb_288_0 : List Instr := .aload 0 :: .getfield 1618 :: .aload 0 :: .getfield 1620 :: .if_icmp .ge 8 :: cb_288_5
-- 289: FogWatchModel.isFit(I)Z
noncomputable def cb_289_39 : List Instr := .iconst 1 :: .freturn :: []
noncomputable def cb_289_37 : List Instr := .iinc 3 1 :: .goto 4 :: cb_289_39
noncomputable def cb_289_35 : List Instr := .iconst 0 :: .freturn :: cb_289_37
noncomputable def cb_289_18 : List Instr := .aload 0 :: .iload 2 :: .aload 0 :: .getfield 1615 :: .iload 3 :: .iaload :: .invokeinterface 255 140 :: .istore 2 :: .aload 0 :: .getfield 1563 :: .iload 2 :: .iaload :: .aload 0 :: .getfield 1617 :: .iload 3 :: .iaload :: .if_icmp .eq 37 :: cb_289_35
noncomputable def cb_289_16 : List Instr := .iconst 0 :: .freturn :: cb_289_18
noncomputable def cb_289_8 : List Instr := .aload 0 :: .getfield 1625 :: .iconst 20 :: .iload 2 :: .iadd :: .iaload :: .iconst 1 :: .if_icmp .ne 18 :: cb_289_16
noncomputable def cb_289_4 : List Instr := .iload 3 :: .aload 0 :: .invokeinterface 288 12 :: .if_icmp .ge 39 :: cb_289_8
noncomputable def cb_289_0 : List Instr := .iload 1 :: .istore 2 :: .iconst 0 :: .istore 3 :: cb_289_4
-- 290: FogWatchModel.fitBits()I
noncomputable def cb_290_22 : List Instr := .iload 1 :: .ireturn :: []
noncomputable def cb_290_18 : List Instr := .ior :: .istore 1 :: .iinc 2 1 :: .goto 4 :: cb_290_22
noncomputable def cb_290_17 : List Instr := .iconst 0 :: cb_290_18
noncomputable def cb_290_13 : List Instr := .iconst 1 :: .iload 2 :: .ishl :: .goto 18 :: cb_290_17
noncomputable def cb_290_8 : List Instr := .iload 1 :: .aload 0 :: .iload 2 :: .invokeinterface 289 76 :: .ifCond .eq 17 :: cb_290_13
noncomputable def cb_290_4 : List Instr := .iload 2 :: .aload 0 :: .getfield 1574 :: .if_icmp .ge 22 :: cb_290_8
noncomputable def cb_290_0 : List Instr := .iconst 0 :: .istore 1 :: .iconst 0 :: .istore 2 :: cb_290_4
-- 291: FogWatchModel.fits()I
noncomputable def cb_291_0 : List Instr := .aload 0 :: .iconst 0 :: .putfield 1536 :: .aload 0 :: .invokeinterface 248 12 :: .aload 0 :: .invokeinterface 290 12 :: .ireturn :: []
-- 292: FogWatchModel.endOf(I)I
noncomputable def cb_292_0 : List Instr := .aload 0 :: .iload 1 :: .aload 0 :: .invokeinterface 288 12 :: .invokeinterface 286 140 :: .ireturn :: []
-- 293: FogWatchModel.now()I
noncomputable def cb_293_35 : List Instr := .iload 2 :: .ireturn :: []
noncomputable def cb_293_31 : List Instr := .ior :: .istore 2 :: .iinc 3 1 :: .goto 12 :: cb_293_35
noncomputable def cb_293_30 : List Instr := .iconst 0 :: cb_293_31
noncomputable def cb_293_24 : List Instr := .iconst 1 :: .aload 0 :: .iload 3 :: .invokeinterface 292 76 :: .ishl :: .goto 31 :: cb_293_30
noncomputable def cb_293_16 : List Instr := .iload 2 :: .iload 1 :: .iload 3 :: .ishr :: .iconst 1 :: .iand :: .iconst 1 :: .if_icmp .ne 30 :: cb_293_24
noncomputable def cb_293_12 : List Instr := .iload 3 :: .aload 0 :: .getfield 1574 :: .if_icmp .ge 35 :: cb_293_16
noncomputable def cb_293_0 : List Instr := .aload 0 :: .iconst 0 :: .putfield 1536 :: .aload 0 :: .invokeinterface 248 12 :: .aload 0 :: .invokeinterface 290 12 :: .istore 1 :: .iconst 0 :: .istore 2 :: .iconst 0 :: .istore 3 :: cb_293_12
-- 294: FogWatchModel.worstOf(II)I
noncomputable def cb_294_72 : List Instr := .iload 3 :: .ireturn :: []
noncomputable def cb_294_70 : List Instr := .iinc 4 1 :: .goto 16 :: cb_294_72
noncomputable def cb_294_69 : List Instr := .istore 3 :: cb_294_70
noncomputable def cb_294_68 : List Instr := .iload 3 :: cb_294_69
noncomputable def cb_294_63 : List Instr := .aload 0 :: .getfield 1645 :: .iload 6 :: .iaload :: .goto 69 :: cb_294_68
noncomputable def cb_294_48 : List Instr := .istore 6 :: .aload 0 :: .getfield 1645 :: .iload 6 :: .dup2 :: .iaload :: .iconst 1 :: .iadd :: .iastore :: .aload 0 :: .getfield 1645 :: .iload 6 :: .iaload :: .iload 3 :: .if_icmp .le 68 :: cb_294_63
noncomputable def cb_294_41 : List Instr := .aload 0 :: .getfield 1563 :: .aload 0 :: .iload 5 :: .iload 2 :: .invokeinterface 255 140 :: .iaload :: cb_294_48
noncomputable def cb_294_39 : List Instr := .iconst 10 :: .goto 48 :: cb_294_41
noncomputable def cb_294_27 : List Instr := .aload 0 :: .iload 4 :: .invokeinterface 292 76 :: .istore 5 :: .aload 0 :: .getfield 1625 :: .iconst 20 :: .iload 5 :: .iadd :: .iaload :: .iconst 1 :: .if_icmp .ne 41 :: cb_294_39
noncomputable def cb_294_26 : List Instr := .goto 70 :: cb_294_27
noncomputable def cb_294_20 : List Instr := .iload 1 :: .iload 4 :: .ishr :: .iconst 1 :: .iand :: .ifCond .ne 27 :: cb_294_26
noncomputable def cb_294_16 : List Instr := .iload 4 :: .aload 0 :: .getfield 1574 :: .if_icmp .ge 72 :: cb_294_20
noncomputable def cb_294_12 : List Instr := .iconst 0 :: .istore 3 :: .iconst 0 :: .istore 4 :: cb_294_16
noncomputable def cb_294_5 : List Instr := .aload 0 :: .getfield 1645 :: .iload 3 :: .iconst 0 :: .iastore :: .iinc 3 1 :: .goto 2 :: cb_294_12
noncomputable def cb_294_2 : List Instr := .iload 3 :: .iconst 11 :: .if_icmp .ge 12 :: cb_294_5
noncomputable def cb_294_0 : List Instr := .iconst 0 :: .istore 3 :: cb_294_2
-- 295: FogWatchModel.look(I)I
noncomputable def cb_295_53 : List Instr := .ireturn :: []
noncomputable def cb_295_49 : List Instr := .aload 0 :: .iload 2 :: .iload 3 :: .invokeinterface 294 140 :: cb_295_53
noncomputable def cb_295_47 : List Instr := .iload 3 :: .goto 53 :: cb_295_49
noncomputable def cb_295_45 : List Instr := .iload 1 :: .ifCond .ne 49 :: cb_295_47
noncomputable def cb_295_42 : List Instr := .istore 3 :: .iinc 4 1 :: .goto 27 :: cb_295_45
noncomputable def cb_295_41 : List Instr := .iload 3 :: cb_295_42
noncomputable def cb_295_39 : List Instr := .iload 4 :: .goto 42 :: cb_295_41
noncomputable def cb_295_30 : List Instr := .aload 0 :: .iload 2 :: .iload 4 :: .invokeinterface 294 140 :: .aload 0 :: .iload 2 :: .iload 3 :: .invokeinterface 294 140 :: .if_icmp .ge 41 :: cb_295_39
noncomputable def cb_295_27 : List Instr := .iload 4 :: .iconst 4 :: .if_icmp .ge 45 :: cb_295_30
noncomputable def cb_295_23 : List Instr := .iconst 0 :: .istore 3 :: .iconst 1 :: .istore 4 :: cb_295_27
noncomputable def cb_295_21 : List Instr := .iconst (-1) :: .ireturn :: cb_295_23
noncomputable def cb_295_14 : List Instr := .aload 0 :: .invokeinterface 248 12 :: .aload 0 :: .invokeinterface 290 12 :: .istore 2 :: .iload 2 :: .ifCond .ne 23 :: cb_295_21
noncomputable def cb_295_12 : List Instr := .iconst 0 :: .ireturn :: cb_295_14
noncomputable def cb_295_0 : List Instr := .aload 0 :: .iconst 0 :: .putfield 1536 :: .aload 0 :: .iload 1 :: .iconst 0 :: .iconst 1 :: .multianewarray 200 6 :: .iconst 1 :: .iconst 1 :: .invokeinterface 199 204 :: .ifCond .ne 14 :: cb_295_12
-- 296: FogWatchModel.least(JJI)J
noncomputable def cb_296_22 : List Instr := .lload 5 :: .ldiv :: .lreturn :: []
noncomputable def cb_296_21 : List Instr := .lload 2 :: cb_296_22
noncomputable def cb_296_19 : List Instr := .lload 0 :: .goto 22 :: cb_296_21
noncomputable def cb_296_17 : List Instr := .iload 4 :: .ifCond .ne 21 :: cb_296_19
noncomputable def cb_296_8 : List Instr := .lload 5 :: .lload 7 :: .lrem :: .lstore 9 :: .lload 7 :: .lstore 5 :: .lload 9 :: .lstore 7 :: .goto 4 :: cb_296_17
noncomputable def cb_296_4 : List Instr := .lload 7 :: .ldc2_w 0 :: .lcmp :: .ifCond .eq 17 :: cb_296_8
noncomputable def cb_296_0 : List Instr := .lload 0 :: .lstore 5 :: .lload 2 :: .lstore 7 :: cb_296_4
-- 297: FogWatchModel.chance(IIIII)J
noncomputable def cb_297_137 : List Instr := .aload 0 :: .getfield 1639 :: .iload 2 :: .laload :: .lload 6 :: .iload 5 :: .multianewarray 296 6 :: .lreturn :: []
noncomputable def cb_297_131 : List Instr := .lload 6 :: .ldc2_w 16 :: .lmul :: .lstore 6 :: .iinc 8 1 :: .goto 61 :: cb_297_137
noncomputable def cb_297_121 : List Instr := .aload 0 :: .getfield 1639 :: .iload 9 :: .aload 0 :: .getfield 1641 :: .iload 9 :: .laload :: .lastore :: .iinc 9 1 :: .goto 118 :: cb_297_131
noncomputable def cb_297_118 : List Instr := .iload 9 :: .iconst 10 :: .if_icmp .ge 131 :: cb_297_121
noncomputable def cb_297_116 : List Instr := .iconst 0 :: .istore 9 :: cb_297_118
noncomputable def cb_297_92 : List Instr := .aload 0 :: .getfield 1641 :: .aload 0 :: .iload 9 :: .aload 0 :: .getfield 1615 :: .iload 8 :: .iaload :: .invokeinterface 255 140 :: .dup2 :: .laload :: .aload 0 :: .getfield 1639 :: .iload 9 :: .laload :: .iconst 16 :: .iload 4 :: .isub :: .i2l :: .lmul :: .ladd :: .lastore :: .iinc 9 1 :: .goto 88 :: cb_297_116
noncomputable def cb_297_88 : List Instr := .iload 9 :: .aload 0 :: .getfield 1574 :: .if_icmp .ge 116 :: cb_297_92
noncomputable def cb_297_86 : List Instr := .iconst 0 :: .istore 9 :: cb_297_88
noncomputable def cb_297_73 : List Instr := .aload 0 :: .getfield 1641 :: .iload 9 :: .aload 0 :: .getfield 1639 :: .iload 9 :: .laload :: .iload 4 :: .i2l :: .lmul :: .lastore :: .iinc 9 1 :: .goto 70 :: cb_297_86
noncomputable def cb_297_70 : List Instr := .iload 9 :: .iconst 10 :: .if_icmp .ge 86 :: cb_297_73
noncomputable def cb_297_68 : List Instr := .iconst 0 :: .istore 9 :: cb_297_70
noncomputable def cb_297_64 : List Instr := .iload 8 :: .aload 0 :: .getfield 1618 :: .if_icmp .ge 137 :: cb_297_68
noncomputable def cb_297_61 : List Instr := .iload 8 :: .iload 3 :: .if_icmp .ge 137 :: cb_297_64
noncomputable def cb_297_57 : List Instr := .ldc2_w 1 :: .lstore 6 :: .iconst 0 :: .istore 8 :: cb_297_61
noncomputable def cb_297_54 : List Instr := .lastore :: .iinc 6 1 :: .goto 42 :: cb_297_57
noncomputable def cb_297_53 : List Instr := .ldc2_w 0 :: cb_297_54
noncomputable def cb_297_51 : List Instr := .ldc2_w 1 :: .goto 54 :: cb_297_53
noncomputable def cb_297_45 : List Instr := .aload 0 :: .getfield 1639 :: .iload 6 :: .iload 6 :: .iload 1 :: .if_icmp .ne 53 :: cb_297_51
noncomputable def cb_297_42 : List Instr := .iload 6 :: .iconst 10 :: .if_icmp .ge 57 :: cb_297_45
noncomputable def cb_297_38 : List Instr := .aload 0 :: .invokeinterface 248 12 :: .iconst 0 :: .istore 6 :: cb_297_42
noncomputable def cb_297_36 : List Instr := .ldc2_w 0 :: .lreturn :: cb_297_38
noncomputable def cb_297_32 : List Instr := .iconst 2 :: .iconst 1 :: .invokeinterface 199 204 :: .ifCond .ne 38 :: cb_297_36
noncomputable def cb_297_31 : List Instr := .iconst 0 :: cb_297_32
noncomputable def cb_297_29 : List Instr := .iconst 1 :: .goto 32 :: cb_297_31
noncomputable def cb_297_24 : List Instr := .iload 5 :: .iconst 0 :: .iconst 1 :: .multianewarray 200 6 :: .ifCond .eq 31 :: cb_297_29
noncomputable def cb_297_19 : List Instr := .iload 4 :: .iconst 0 :: .iconst 16 :: .multianewarray 200 6 :: .ifCond .eq 31 :: cb_297_24
noncomputable def cb_297_13 : List Instr := .aload 0 :: .iload 3 :: .iconst 0 :: .iconst 12 :: .multianewarray 200 6 :: .ifCond .eq 31 :: cb_297_19
noncomputable def cb_297_8 : List Instr := .aload 0 :: .iload 2 :: .iconst 1 :: .invokeinterface 262 140 :: .ifCond .eq 36 :: cb_297_13
noncomputable def cb_297_0 : List Instr := .aload 0 :: .iconst 0 :: .putfield 1536 :: .aload 0 :: .iload 1 :: .iconst 1 :: .invokeinterface 262 140 :: .ifCond .eq 36 :: cb_297_8
-- 298: FogWatchModel.valueBy(II)I
noncomputable def cb_298_55 : List Instr := .ireturn :: []
noncomputable def cb_298_54 : List Instr := .iconst 0 :: cb_298_55
noncomputable def cb_298_52 : List Instr := .iconst 2 :: .goto 55 :: cb_298_54
noncomputable def cb_298_50 : List Instr := .iload 3 :: .ifCond .eq 54 :: cb_298_52
noncomputable def cb_298_47 : List Instr := .istore 3 :: .iinc 4 1 :: .goto 4 :: cb_298_50
noncomputable def cb_298_46 : List Instr := .iconst 0 :: cb_298_47
noncomputable def cb_298_44 : List Instr := .iconst 1 :: .goto 47 :: cb_298_46
noncomputable def cb_298_34 : List Instr := .aload 0 :: .getfield 1647 :: .iconst 10 :: .iload 5 :: .imul :: .iload 6 :: .iadd :: .iaload :: .iconst 1 :: .if_icmp .ne 46 :: cb_298_44
noncomputable def cb_298_32 : List Instr := .iload 3 :: .ifCond .eq 46 :: cb_298_34
noncomputable def cb_298_30 : List Instr := .iconst 1 :: .ireturn :: cb_298_32
noncomputable def cb_298_20 : List Instr := .aload 0 :: .getfield 1647 :: .iconst 10 :: .iload 5 :: .imul :: .iload 6 :: .iadd :: .iaload :: .iconst 2 :: .if_icmp .ne 32 :: cb_298_30
noncomputable def cb_298_7 : List Instr := .aload 0 :: .iload 1 :: .iload 4 :: .invokeinterface 255 140 :: .istore 5 :: .aload 0 :: .iload 2 :: .iload 4 :: .invokeinterface 255 140 :: .istore 6 :: .iload 5 :: .iload 6 :: .if_icmp .eq 30 :: cb_298_20
noncomputable def cb_298_4 : List Instr := .iload 4 :: .iconst 4 :: .if_icmp .ge 50 :: cb_298_7
noncomputable def cb_298_0 : List Instr := .iconst 1 :: .istore 3 :: .iconst 0 :: .istore 4 :: cb_298_4
-- 299: FogWatchModel.duel(II)I
noncomputable def cb_299_97 : List Instr := .aload 0 :: .getfield 1647 :: .iconst 10 :: .iload 1 :: .imul :: .iload 2 :: .iadd :: .iaload :: .ireturn :: []
noncomputable def cb_299_96 : List Instr := .goto 36 :: cb_299_97
noncomputable def cb_299_94 : List Instr := .iinc 4 1 :: .goto 42 :: cb_299_96
noncomputable def cb_299_92 : List Instr := .iinc 5 1 :: .goto 48 :: cb_299_94
noncomputable def cb_299_91 : List Instr := .istore 3 :: cb_299_92
noncomputable def cb_299_90 : List Instr := .iconst 0 :: cb_299_91
noncomputable def cb_299_88 : List Instr := .iconst 1 :: .goto 91 :: cb_299_90
noncomputable def cb_299_79 : List Instr := .aload 0 :: .getfield 1647 :: .iconst 10 :: .iload 4 :: .imul :: .iload 5 :: .iadd :: .iaload :: .ifCond .eq 90 :: cb_299_88
noncomputable def cb_299_65 : List Instr := .aload 0 :: .getfield 1647 :: .iconst 10 :: .iload 4 :: .imul :: .iload 5 :: .iadd :: .aload 0 :: .iload 4 :: .iload 5 :: .invokeinterface 298 140 :: .iastore :: .iload 3 :: .ifCond .ne 88 :: cb_299_79
noncomputable def cb_299_64 : List Instr := .goto 92 :: cb_299_65
noncomputable def cb_299_55 : List Instr := .aload 0 :: .getfield 1647 :: .iconst 10 :: .iload 4 :: .imul :: .iload 5 :: .iadd :: .iaload :: .ifCond .eq 65 :: cb_299_64
noncomputable def cb_299_52 : List Instr := .iload 4 :: .iload 5 :: .if_icmp .eq 92 :: cb_299_55
noncomputable def cb_299_48 : List Instr := .iload 5 :: .aload 0 :: .getfield 1574 :: .if_icmp .ge 94 :: cb_299_52
noncomputable def cb_299_46 : List Instr := .iconst 0 :: .istore 5 :: cb_299_48
noncomputable def cb_299_42 : List Instr := .iload 4 :: .aload 0 :: .getfield 1574 :: .if_icmp .ge 96 :: cb_299_46
noncomputable def cb_299_38 : List Instr := .iconst 0 :: .istore 3 :: .iconst 0 :: .istore 4 :: cb_299_42
noncomputable def cb_299_36 : List Instr := .iload 3 :: .ifCond .eq 97 :: cb_299_38
noncomputable def cb_299_34 : List Instr := .iconst 1 :: .istore 3 :: cb_299_36
noncomputable def cb_299_27 : List Instr := .aload 0 :: .getfield 1647 :: .iload 3 :: .iconst 0 :: .iastore :: .iinc 3 1 :: .goto 24 :: cb_299_34
noncomputable def cb_299_24 : List Instr := .iload 3 :: .iconst 100 :: .if_icmp .ge 34 :: cb_299_27
noncomputable def cb_299_20 : List Instr := .aload 0 :: .invokeinterface 248 12 :: .iconst 0 :: .istore 3 :: cb_299_24
noncomputable def cb_299_18 : List Instr := .iconst 2 :: .ireturn :: cb_299_20
noncomputable def cb_299_15 : List Instr := .iload 1 :: .iload 2 :: .if_icmp .ne 20 :: cb_299_18
noncomputable def cb_299_13 : List Instr := .iconst 0 :: .ireturn :: cb_299_15
noncomputable def cb_299_8 : List Instr := .aload 0 :: .iload 2 :: .iconst 1 :: .invokeinterface 262 140 :: .ifCond .ne 15 :: cb_299_13
noncomputable def cb_299_0 : List Instr := .aload 0 :: .iconst 0 :: .putfield 1536 :: .aload 0 :: .iload 1 :: .iconst 1 :: .invokeinterface 262 140 :: .ifCond .eq 13 :: cb_299_8
-- 300: FogWatchModel.reach(I)I
noncomputable def cb_300_38 : List Instr := .iload 2 :: .ireturn :: []
noncomputable def cb_300_36 : List Instr := .iinc 3 1 :: .goto 18 :: cb_300_38
noncomputable def cb_300_27 : List Instr := .iload 2 :: .aload 0 :: .iload 2 :: .iload 4 :: .invokeinterface 272 140 :: .ior :: .istore 2 :: .iinc 4 1 :: .goto 24 :: cb_300_36
noncomputable def cb_300_24 : List Instr := .iload 4 :: .iconst 4 :: .if_icmp .ge 36 :: cb_300_27
noncomputable def cb_300_22 : List Instr := .iconst 0 :: .istore 4 :: cb_300_24
noncomputable def cb_300_18 : List Instr := .iload 3 :: .aload 0 :: .getfield 1574 :: .if_icmp .ge 38 :: cb_300_22
noncomputable def cb_300_10 : List Instr := .aload 0 :: .invokeinterface 248 12 :: .iconst 1 :: .iload 1 :: .ishl :: .istore 2 :: .iconst 0 :: .istore 3 :: cb_300_18
noncomputable def cb_300_8 : List Instr := .iconst 0 :: .ireturn :: cb_300_10
noncomputable def cb_300_0 : List Instr := .aload 0 :: .iconst 0 :: .putfield 1536 :: .aload 0 :: .iload 1 :: .iconst 1 :: .invokeinterface 262 140 :: .ifCond .ne 10 :: cb_300_8
-- 301: FogWatchModel.from(II)I
noncomputable def cb_301_43 : List Instr := .iload 3 :: .ireturn :: []
noncomputable def cb_301_39 : List Instr := .ior :: .istore 3 :: .iinc 4 1 :: .goto 23 :: cb_301_43
noncomputable def cb_301_38 : List Instr := .iconst 0 :: cb_301_39
noncomputable def cb_301_34 : List Instr := .iconst 1 :: .iload 4 :: .ishl :: .goto 39 :: cb_301_38
noncomputable def cb_301_27 : List Instr := .iload 3 :: .aload 0 :: .iload 4 :: .iload 2 :: .invokeinterface 255 140 :: .iload 1 :: .if_icmp .ne 38 :: cb_301_34
noncomputable def cb_301_23 : List Instr := .iload 4 :: .aload 0 :: .getfield 1574 :: .if_icmp .ge 43 :: cb_301_27
noncomputable def cb_301_17 : List Instr := .aload 0 :: .invokeinterface 248 12 :: .iconst 0 :: .istore 3 :: .iconst 0 :: .istore 4 :: cb_301_23
noncomputable def cb_301_15 : List Instr := .iconst 0 :: .ireturn :: cb_301_17
noncomputable def cb_301_8 : List Instr := .aload 0 :: .iload 2 :: .multianewarray 264 2 :: .iconst 2 :: .iconst 1 :: .invokeinterface 199 204 :: .ifCond .ne 17 :: cb_301_15
noncomputable def cb_301_0 : List Instr := .aload 0 :: .iconst 0 :: .putfield 1536 :: .aload 0 :: .iload 1 :: .iconst 1 :: .invokeinterface 262 140 :: .ifCond .eq 15 :: cb_301_8
-- 302: FogWatchModel.still()I
noncomputable def cb_302_46 : List Instr := .iload 1 :: .ireturn :: []
noncomputable def cb_302_42 : List Instr := .ior :: .istore 1 :: .iinc 2 1 :: .goto 9 :: cb_302_46
noncomputable def cb_302_41 : List Instr := .iconst 0 :: cb_302_42
noncomputable def cb_302_37 : List Instr := .iconst 1 :: .iload 2 :: .ishl :: .goto 42 :: cb_302_41
noncomputable def cb_302_34 : List Instr := .iload 1 :: .iload 3 :: .ifCond .eq 41 :: cb_302_37
noncomputable def cb_302_31 : List Instr := .istore 3 :: .iinc 4 1 :: .goto 17 :: cb_302_34
noncomputable def cb_302_30 : List Instr := .iconst 0 :: cb_302_31
noncomputable def cb_302_28 : List Instr := .iconst 1 :: .goto 31 :: cb_302_30
noncomputable def cb_302_22 : List Instr := .aload 0 :: .iload 2 :: .iload 4 :: .invokeinterface 255 140 :: .iload 2 :: .if_icmp .ne 30 :: cb_302_28
noncomputable def cb_302_20 : List Instr := .iload 3 :: .ifCond .eq 30 :: cb_302_22
noncomputable def cb_302_17 : List Instr := .iload 4 :: .iconst 4 :: .if_icmp .ge 34 :: cb_302_20
noncomputable def cb_302_13 : List Instr := .iconst 1 :: .istore 3 :: .iconst 0 :: .istore 4 :: cb_302_17
noncomputable def cb_302_9 : List Instr := .iload 2 :: .aload 0 :: .getfield 1574 :: .if_icmp .ge 46 :: cb_302_13
noncomputable def cb_302_0 : List Instr := .aload 0 :: .iconst 0 :: .putfield 1536 :: .aload 0 :: .invokeinterface 248 12 :: .iconst 0 :: .istore 1 :: .iconst 0 :: .istore 2 :: cb_302_9
-- 303: FogWatchModel.wind()I
noncomputable def cb_303_28 : List Instr := .iload 1 :: .ireturn :: []
noncomputable def cb_303_24 : List Instr := .iadd :: .istore 1 :: .iinc 2 1 :: .goto 9 :: cb_303_28
noncomputable def cb_303_23 : List Instr := .iconst 0 :: cb_303_24
noncomputable def cb_303_21 : List Instr := .iconst 1 :: .goto 24 :: cb_303_23
noncomputable def cb_303_12 : List Instr := .iload 1 :: .aload 0 :: .iload 2 :: .invokeinterface 254 76 :: .aload 0 :: .getfield 1625 :: .iconst 30 :: .iaload :: .if_icmp .gt 23 :: cb_303_21
noncomputable def cb_303_9 : List Instr := .iload 2 :: .iconst 4 :: .if_icmp .ge 28 :: cb_303_12
noncomputable def cb_303_0 : List Instr := .aload 0 :: .iconst 0 :: .putfield 1536 :: .aload 0 :: .invokeinterface 248 12 :: .iconst 0 :: .istore 1 :: .iconst 0 :: .istore 2 :: cb_303_9
-- 304: FogWatchModel.draws(I)I
noncomputable def cb_304_0 : List Instr := .aload 0 :: .aload 0 :: .getfield 1648 :: .iconst 1103515245 :: .imul :: .iconst 12345 :: .iadd :: .putfield 1648 :: .aload 0 :: .getfield 1648 :: .iconst 16 :: .ishr :: .iconst 32767 :: .iand :: .iload 1 :: .irem :: .ireturn :: []
-- 305: FogWatchModel.watchGoes(III)V
noncomputable def cb_305_44 : List Instr := .return_ :: []
noncomputable def cb_305_42 : List Instr := .iinc 4 1 :: .goto 7 :: cb_305_44
noncomputable def cb_305_40 : List Instr := .aload 0 :: .invokeinterface 257 12 :: cb_305_42
noncomputable def cb_305_35 : List Instr := .iload 4 :: .iconst 2 :: .irem :: .iconst 1 :: .if_icmp .ne 42 :: cb_305_40
noncomputable def cb_305_26 : List Instr := .aload 0 :: .iconst 1 :: .aload 0 :: .aload 0 :: .getfield 1574 :: .invokeinterface 304 76 :: .iconst 0 :: .invokeinterface 258 204 :: .pop :: cb_305_35
noncomputable def cb_305_15 : List Instr := .aload 0 :: .aload 0 :: .iconst 4 :: .invokeinterface 304 76 :: .invokeinterface 256 76 :: .pop :: .aload 0 :: .iconst 16 :: .invokeinterface 304 76 :: .iload 2 :: .if_icmp .ge 35 :: cb_305_26
noncomputable def cb_305_12 : List Instr := .aload 0 :: .getfield 1574 :: .ifCond .le 35 :: cb_305_15
noncomputable def cb_305_7 : List Instr := .iload 4 :: .iconst 2 :: .iload 3 :: .imul :: .if_icmp .ge 44 :: cb_305_12
noncomputable def cb_305_0 : List Instr := .aload 0 :: .invokeinterface 248 12 :: .aload 0 :: .iload 1 :: .putfield 1648 :: .iconst 0 :: .istore 4 :: cb_305_7
-- 306: FogWatchModel.isWatch(II)Z
noncomputable def cb_306_14 : List Instr := .freturn :: []
noncomputable def cb_306_13 : List Instr := .iconst 0 :: cb_306_14
noncomputable def cb_306_11 : List Instr := .iconst 1 :: .goto 14 :: cb_306_13
noncomputable def cb_306_8 : List Instr := .iload 1 :: .iconst 48 :: .if_icmp .gt 13 :: cb_306_11
noncomputable def cb_306_5 : List Instr := .iload 1 :: .iconst 1 :: .if_icmp .lt 13 :: cb_306_8
noncomputable def cb_306_2 : List Instr := .iload 0 :: .iconst 16 :: .if_icmp .gt 13 :: cb_306_5
noncomputable def cb_306_0 : List Instr := .iload 0 :: .ifCond .lt 13 :: cb_306_2
-- 307: FogWatchModel.watch(IIII)I
noncomputable def cb_307_55 : List Instr := .ireturn :: []
noncomputable def cb_307_53 : List Instr := .aload 0 :: .invokeinterface 250 12 :: cb_307_55
noncomputable def cb_307_43 : List Instr := .aload 0 :: .getfield 1625 :: .iconst 31 :: .iaload :: .aload 0 :: .getfield 1623 :: .iconst 31 :: .iaload :: .isub :: .goto 55 :: cb_307_53
noncomputable def cb_307_40 : List Instr := .iload 4 :: .iconst 2 :: .if_icmp .ne 53 :: cb_307_43
noncomputable def cb_307_35 : List Instr := .aload 0 :: .getfield 1625 :: .iconst 30 :: .iaload :: .goto 55 :: cb_307_40
noncomputable def cb_307_32 : List Instr := .iload 4 :: .iconst 1 :: .if_icmp .ne 40 :: cb_307_35
noncomputable def cb_307_29 : List Instr := .aload 0 :: .invokeinterface 260 12 :: .goto 55 :: cb_307_32
noncomputable def cb_307_22 : List Instr := .aload 0 :: .iload 1 :: .iload 2 :: .iload 3 :: .invokeinterface 305 204 :: .iload 4 :: .ifCond .ne 32 :: cb_307_29
noncomputable def cb_307_20 : List Instr := .iconst 0 :: .ireturn :: cb_307_22
noncomputable def cb_307_16 : List Instr := .iconst 1 :: .iconst 1 :: .invokeinterface 199 204 :: .ifCond .ne 22 :: cb_307_20
noncomputable def cb_307_15 : List Instr := .iconst 0 :: cb_307_16
noncomputable def cb_307_13 : List Instr := .iconst 1 :: .goto 16 :: cb_307_15
noncomputable def cb_307_8 : List Instr := .iload 4 :: .iconst 0 :: .iconst 3 :: .multianewarray 200 6 :: .ifCond .eq 15 :: cb_307_13
noncomputable def cb_307_0 : List Instr := .aload 0 :: .iconst 0 :: .putfield 1536 :: .aload 0 :: .iload 2 :: .iload 3 :: .multianewarray 306 4 :: .ifCond .eq 15 :: cb_307_8
-- 308: FogWatchModel.span(IIIIII)I
noncomputable def cb_308_102 : List Instr := .ireturn :: []
noncomputable def cb_308_101 : List Instr := .iload 9 :: cb_308_102
noncomputable def cb_308_99 : List Instr := .iload 8 :: .goto 102 :: cb_308_101
noncomputable def cb_308_96 : List Instr := .iload 5 :: .iconst 1 :: .if_icmp .ne 101 :: cb_308_99
noncomputable def cb_308_94 : List Instr := .iload 7 :: .goto 102 :: cb_308_96
noncomputable def cb_308_92 : List Instr := .iload 5 :: .ifCond .ne 96 :: cb_308_94
noncomputable def cb_308_88 : List Instr := .iadd :: .istore 9 :: .iinc 10 1 :: .goto 43 :: cb_308_92
noncomputable def cb_308_87 : List Instr := .iconst 0 :: cb_308_88
noncomputable def cb_308_85 : List Instr := .iconst 1 :: .goto 88 :: cb_308_87
noncomputable def cb_308_79 : List Instr := .istore 8 :: .iload 9 :: .aload 0 :: .iload 6 :: .invokeinterface 251 76 :: .ifCond .eq 87 :: cb_308_85
noncomputable def cb_308_78 : List Instr := .iload 8 :: cb_308_79
noncomputable def cb_308_76 : List Instr := .iload 11 :: .goto 79 :: cb_308_78
noncomputable def cb_308_72 : List Instr := .istore 7 :: .iload 11 :: .iload 8 :: .if_icmp .le 78 :: cb_308_76
noncomputable def cb_308_71 : List Instr := .iload 7 :: cb_308_72
noncomputable def cb_308_69 : List Instr := .iload 11 :: .goto 72 :: cb_308_71
noncomputable def cb_308_66 : List Instr := .iload 11 :: .iload 7 :: .if_icmp .ge 71 :: cb_308_69
noncomputable def cb_308_46 : List Instr := .aload 0 :: .iload 1 :: .iload 10 :: .iadd :: .iload 3 :: .iload 4 :: .invokeinterface 305 204 :: .aload 0 :: .getfield 1625 :: .iconst 31 :: .iaload :: .aload 0 :: .getfield 1623 :: .iconst 31 :: .iaload :: .isub :: .istore 11 :: .iload 7 :: .iconst (-1) :: .if_icmp .eq 69 :: cb_308_66
noncomputable def cb_308_43 : List Instr := .iload 10 :: .iload 2 :: .if_icmp .ge 92 :: cb_308_46
noncomputable def cb_308_35 : List Instr := .iconst (-1) :: .istore 7 :: .iconst 0 :: .istore 8 :: .iconst 0 :: .istore 9 :: .iconst 0 :: .istore 10 :: cb_308_43
noncomputable def cb_308_33 : List Instr := .iconst 0 :: .ireturn :: cb_308_35
noncomputable def cb_308_29 : List Instr := .iconst 1 :: .iconst 1 :: .invokeinterface 199 204 :: .ifCond .ne 35 :: cb_308_33
noncomputable def cb_308_28 : List Instr := .iconst 0 :: cb_308_29
noncomputable def cb_308_26 : List Instr := .iconst 1 :: .goto 29 :: cb_308_28
noncomputable def cb_308_18 : List Instr := .iload 6 :: .iconst 0 :: .aload 0 :: .getfield 1574 :: .iconst 1 :: .isub :: .multianewarray 200 6 :: .ifCond .eq 28 :: cb_308_26
noncomputable def cb_308_13 : List Instr := .iload 5 :: .iconst 0 :: .iconst 2 :: .multianewarray 200 6 :: .ifCond .eq 28 :: cb_308_18
noncomputable def cb_308_9 : List Instr := .iload 3 :: .iload 4 :: .multianewarray 306 4 :: .ifCond .eq 28 :: cb_308_13
noncomputable def cb_308_0 : List Instr := .aload 0 :: .iconst 0 :: .putfield 1536 :: .aload 0 :: .iload 2 :: .iconst 1 :: .iconst 10 :: .multianewarray 200 6 :: .ifCond .eq 28 :: cb_308_9
-- 309: FogWatchModel.keepsRow(I[IIZ)I
noncomputable def cb_309_28 : List Instr := .iload 1 :: .iload 3 :: .iadd :: .ireturn :: []
noncomputable def cb_309_26 : List Instr := .iinc 5 1 :: .goto 2 :: cb_309_28
noncomputable def cb_309_17 : List Instr := .aload 2 :: .iload 5 :: .aload 0 :: .getfield 1651 :: .iload 1 :: .iload 5 :: .iadd :: .iaload :: .iastore :: cb_309_26
noncomputable def cb_309_7 : List Instr := .aload 0 :: .getfield 1651 :: .iload 1 :: .iload 5 :: .iadd :: .aload 2 :: .iload 5 :: .iaload :: .iastore :: .goto 26 :: cb_309_17
noncomputable def cb_309_5 : List Instr := .iload 4 :: .ifCond .eq 17 :: cb_309_7
noncomputable def cb_309_2 : List Instr := .iload 5 :: .iload 3 :: .if_icmp .ge 28 :: cb_309_5
noncomputable def cb_309_0 : List Instr := .iconst 0 :: .istore 5 :: cb_309_2
-- 310: FogWatchModel.keepsAll(IZ)V
noncomputable def cb_310_33 : List Instr := .return_ :: []
noncomputable def cb_310_27 : List Instr := .aload 0 :: .aload 0 :: .getfield 1651 :: .iload 3 :: .iaload :: .putfield 1602 :: cb_310_33
noncomputable def cb_310_20 : List Instr := .aload 0 :: .getfield 1651 :: .iload 3 :: .aload 0 :: .getfield 1602 :: .iastore :: .goto 33 :: cb_310_27
noncomputable def cb_310_0 : List Instr := .aload 0 :: .iconst 596 :: .iload 1 :: .imul :: .aload 0 :: .getfield 1623 :: .iconst 35 :: .iload 2 :: .invokeinterface 309 268 :: .istore 3 :: .aload 0 :: .iload 3 :: .aload 0 :: .getfield 1627 :: .iconst 560 :: .iload 2 :: .invokeinterface 309 268 :: .istore 3 :: .iload 2 :: .ifCond .eq 27 :: cb_310_20
-- 311: FogWatchModel.image()I
noncomputable def cb_311_9 : List Instr := .aload 0 :: .aload 0 :: .getfield 1652 :: .iconst 1 :: .invokeinterface 310 140 :: .aload 0 :: .dup :: .getfield 1652 :: .iconst 1 :: .iadd :: .putfield 1652 :: .aload 0 :: .getfield 1652 :: .ireturn :: []
noncomputable def cb_311_7 : List Instr := .iconst (-1) :: .ireturn :: cb_311_9
noncomputable def cb_311_0 : List Instr := .aload 0 :: .iconst 0 :: .putfield 1536 :: .aload 0 :: .getfield 1652 :: .iconst 3 :: .if_icmp .ne 9 :: cb_311_7
-- 312: FogWatchModel.restore()I
noncomputable def cb_312_8 : List Instr := .aload 0 :: .dup :: .getfield 1652 :: .iconst 1 :: .isub :: .putfield 1652 :: .aload 0 :: .aload 0 :: .getfield 1652 :: .iconst 0 :: .invokeinterface 310 140 :: .aload 0 :: .iconst 0 :: .putfield 1604 :: .aload 0 :: .getfield 1652 :: .ireturn :: []
noncomputable def cb_312_6 : List Instr := .iconst (-1) :: .ireturn :: cb_312_8
noncomputable def cb_312_0 : List Instr := .aload 0 :: .iconst 0 :: .putfield 1536 :: .aload 0 :: .getfield 1652 :: .ifCond .ne 8 :: cb_312_6
-- 313: FogWatchModel.status(I)I
noncomputable def cb_313_14 : List Instr := .ireturn :: []
noncomputable def cb_313_13 : List Instr := .iconst (-1) :: cb_313_14
noncomputable def cb_313_8 : List Instr := .aload 0 :: .getfield 1539 :: .iload 1 :: .iaload :: .goto 14 :: cb_313_13
noncomputable def cb_313_0 : List Instr := .aload 0 :: .iconst 0 :: .putfield 1536 :: .iload 1 :: .iconst 0 :: .iconst 1 :: .multianewarray 200 6 :: .ifCond .eq 13 :: cb_313_8
-- 314: FogWatchModel.count(I)I
noncomputable def cb_314_21 : List Instr := .ireturn :: []
noncomputable def cb_314_20 : List Instr := .iconst (-1) :: cb_314_21
noncomputable def cb_314_17 : List Instr := .aload 0 :: .getfield 1602 :: .goto 21 :: cb_314_20
noncomputable def cb_314_14 : List Instr := .iload 1 :: .iconst 2 :: .if_icmp .ne 20 :: cb_314_17
noncomputable def cb_314_11 : List Instr := .aload 0 :: .getfield 1540 :: .goto 21 :: cb_314_14
noncomputable def cb_314_8 : List Instr := .iload 1 :: .iconst 1 :: .if_icmp .ne 14 :: cb_314_11
noncomputable def cb_314_5 : List Instr := .aload 0 :: .getfield 1652 :: .goto 21 :: cb_314_8
noncomputable def cb_314_0 : List Instr := .aload 0 :: .iconst 0 :: .putfield 1536 :: .iload 1 :: .ifCond .ne 8 :: cb_314_5
-- 315: FogWatchLaw.town(LFogWatch;I[J)I
noncomputable def cb_315_11 : List Instr := .iconst 0 :: .ireturn :: []
noncomputable def cb_315_9 : List Instr := .iconst 1 :: .ireturn :: cb_315_11
noncomputable def cb_315_8 : List Instr := .astore 3 :: cb_315_9
noncomputable def cb_315_0 : List Instr := .aload 2 :: .iconst 0 :: .aload 0 :: .iload 1 :: .invokeinterface 145 75 :: .i2l :: .lastore :: .goto 11 :: cb_315_8
-- 316: FogWatchLaw.law(LFogWatch;I[J)I
noncomputable def cb_316_11 : List Instr := .iconst 0 :: .ireturn :: []
noncomputable def cb_316_9 : List Instr := .iconst 1 :: .ireturn :: cb_316_11
noncomputable def cb_316_8 : List Instr := .astore 3 :: cb_316_9
noncomputable def cb_316_0 : List Instr := .aload 2 :: .iconst 0 :: .aload 0 :: .iload 1 :: .invokeinterface 146 75 :: .i2l :: .lastore :: .goto 11 :: cb_316_8
-- 317: FogWatchLaw.work(LFogWatch;I[J)I
noncomputable def cb_317_11 : List Instr := .iconst 0 :: .ireturn :: []
noncomputable def cb_317_9 : List Instr := .iconst 1 :: .ireturn :: cb_317_11
noncomputable def cb_317_8 : List Instr := .astore 3 :: cb_317_9
noncomputable def cb_317_0 : List Instr := .aload 2 :: .iconst 0 :: .aload 0 :: .iload 1 :: .invokeinterface 147 75 :: .i2l :: .lastore :: .goto 11 :: cb_317_8
-- 318: FogWatchLaw.song(LFogWatch;I[J)I
noncomputable def cb_318_11 : List Instr := .iconst 0 :: .ireturn :: []
noncomputable def cb_318_9 : List Instr := .iconst 1 :: .ireturn :: cb_318_11
noncomputable def cb_318_8 : List Instr := .astore 3 :: cb_318_9
noncomputable def cb_318_0 : List Instr := .aload 2 :: .iconst 0 :: .aload 0 :: .iload 1 :: .invokeinterface 148 75 :: .i2l :: .lastore :: .goto 11 :: cb_318_8
-- 319: FogWatchLaw.book(LFogWatch;I[J)I
noncomputable def cb_319_11 : List Instr := .iconst 0 :: .ireturn :: []
noncomputable def cb_319_9 : List Instr := .iconst 1 :: .ireturn :: cb_319_11
noncomputable def cb_319_8 : List Instr := .astore 3 :: cb_319_9
noncomputable def cb_319_0 : List Instr := .aload 2 :: .iconst 0 :: .aload 0 :: .iload 1 :: .invokeinterface 149 75 :: .i2l :: .lastore :: .goto 11 :: cb_319_8
-- 320: FogWatchLaw.told(LFogWatch;I[J)I
noncomputable def cb_320_11 : List Instr := .iconst 0 :: .ireturn :: []
noncomputable def cb_320_9 : List Instr := .iconst 1 :: .ireturn :: cb_320_11
noncomputable def cb_320_8 : List Instr := .astore 3 :: cb_320_9
noncomputable def cb_320_0 : List Instr := .aload 2 :: .iconst 0 :: .aload 0 :: .iload 1 :: .invokeinterface 152 75 :: .i2l :: .lastore :: .goto 11 :: cb_320_8
-- 321: FogWatchLaw.corner(LFogWatch;II[J)I
noncomputable def cb_321_15 : List Instr := .iconst 0 :: .ireturn :: []
noncomputable def cb_321_13 : List Instr := .iconst 2 :: .ireturn :: cb_321_15
noncomputable def cb_321_12 : List Instr := .astore 4 :: cb_321_13
noncomputable def cb_321_10 : List Instr := .iconst 1 :: .ireturn :: cb_321_12
noncomputable def cb_321_9 : List Instr := .astore 4 :: cb_321_10
noncomputable def cb_321_0 : List Instr := .aload 3 :: .iconst 0 :: .aload 0 :: .iload 1 :: .iload 2 :: .invokeinterface 153 139 :: .i2l :: .lastore :: .goto 15 :: cb_321_9
-- 322: FogWatchLaw.way(LFogWatch;II[J)I
noncomputable def cb_322_15 : List Instr := .iconst 0 :: .ireturn :: []
noncomputable def cb_322_13 : List Instr := .iconst 2 :: .ireturn :: cb_322_15
noncomputable def cb_322_12 : List Instr := .astore 4 :: cb_322_13
noncomputable def cb_322_10 : List Instr := .iconst 1 :: .ireturn :: cb_322_12
noncomputable def cb_322_9 : List Instr := .astore 4 :: cb_322_10
noncomputable def cb_322_0 : List Instr := .aload 3 :: .iconst 0 :: .aload 0 :: .iload 1 :: .iload 2 :: .invokeinterface 154 139 :: .i2l :: .lastore :: .goto 15 :: cb_322_9
-- 323: FogWatchLaw.man(LFogWatch;II[J)I
noncomputable def cb_323_15 : List Instr := .iconst 0 :: .ireturn :: []
noncomputable def cb_323_13 : List Instr := .iconst 2 :: .ireturn :: cb_323_15
noncomputable def cb_323_12 : List Instr := .astore 4 :: cb_323_13
noncomputable def cb_323_10 : List Instr := .iconst 1 :: .ireturn :: cb_323_12
noncomputable def cb_323_9 : List Instr := .astore 4 :: cb_323_10
noncomputable def cb_323_0 : List Instr := .aload 3 :: .iconst 0 :: .aload 0 :: .iload 1 :: .iload 2 :: .invokeinterface 155 139 :: .i2l :: .lastore :: .goto 15 :: cb_323_9
-- 324: FogWatchLaw.cost(LFogWatch;I[J)I
noncomputable def cb_324_11 : List Instr := .iconst 0 :: .ireturn :: []
noncomputable def cb_324_9 : List Instr := .iconst 1 :: .ireturn :: cb_324_11
noncomputable def cb_324_8 : List Instr := .astore 3 :: cb_324_9
noncomputable def cb_324_0 : List Instr := .aload 2 :: .iconst 0 :: .aload 0 :: .iload 1 :: .invokeinterface 156 75 :: .i2l :: .lastore :: .goto 11 :: cb_324_8
-- 325: FogWatchLaw.would(LFogWatch;IIIIIII[J)I
noncomputable def cb_325_17 : List Instr := .iconst 0 :: .ireturn :: []
noncomputable def cb_325_15 : List Instr := .iconst 1 :: .ireturn :: cb_325_17
noncomputable def cb_325_14 : List Instr := .astore 9 :: cb_325_15
noncomputable def cb_325_0 : List Instr := .aload 8 :: .iconst 0 :: .aload 0 :: .iload 1 :: .iload 2 :: .iload 3 :: .iload 4 :: .iload 5 :: .iload 6 :: .iload 7 :: .invokeinterface 157 459 :: .i2l :: .lastore :: .goto 17 :: cb_325_14
-- 326: FogWatchLaw.ahead(LFogWatch;II[J)I
noncomputable def cb_326_12 : List Instr := .iconst 0 :: .ireturn :: []
noncomputable def cb_326_10 : List Instr := .iconst 1 :: .ireturn :: cb_326_12
noncomputable def cb_326_9 : List Instr := .astore 4 :: cb_326_10
noncomputable def cb_326_0 : List Instr := .aload 3 :: .iconst 0 :: .aload 0 :: .iload 1 :: .iload 2 :: .invokeinterface 158 139 :: .i2l :: .lastore :: .goto 12 :: cb_326_9
-- 327: FogWatchLaw.goes(LFogWatch;I[J)I
noncomputable def cb_327_11 : List Instr := .iconst 0 :: .ireturn :: []
noncomputable def cb_327_9 : List Instr := .iconst 1 :: .ireturn :: cb_327_11
noncomputable def cb_327_8 : List Instr := .astore 3 :: cb_327_9
noncomputable def cb_327_0 : List Instr := .aload 2 :: .iconst 0 :: .aload 0 :: .iload 1 :: .invokeinterface 159 75 :: .i2l :: .lastore :: .goto 11 :: cb_327_8
-- 328: FogWatchLaw.reset(LFogWatch;II[J)I
noncomputable def cb_328_12 : List Instr := .iconst 0 :: .ireturn :: []
noncomputable def cb_328_10 : List Instr := .iconst 1 :: .ireturn :: cb_328_12
noncomputable def cb_328_9 : List Instr := .astore 4 :: cb_328_10
noncomputable def cb_328_0 : List Instr := .aload 3 :: .iconst 0 :: .aload 0 :: .iload 1 :: .iload 2 :: .invokeinterface 160 139 :: .i2l :: .lastore :: .goto 12 :: cb_328_9
-- 329: FogWatchLaw.row(LFogWatch;II[J)I
noncomputable def cb_329_12 : List Instr := .iconst 0 :: .ireturn :: []
noncomputable def cb_329_10 : List Instr := .iconst 1 :: .ireturn :: cb_329_12
noncomputable def cb_329_9 : List Instr := .astore 4 :: cb_329_10
noncomputable def cb_329_0 : List Instr := .aload 3 :: .iconst 0 :: .aload 0 :: .iload 1 :: .iload 2 :: .invokeinterface 161 139 :: .i2l :: .lastore :: .goto 12 :: cb_329_9
-- 330: FogWatchLaw.home(LFogWatch;II[J)I
noncomputable def cb_330_15 : List Instr := .iconst 0 :: .ireturn :: []
noncomputable def cb_330_13 : List Instr := .iconst 2 :: .ireturn :: cb_330_15
noncomputable def cb_330_12 : List Instr := .astore 4 :: cb_330_13
noncomputable def cb_330_10 : List Instr := .iconst 1 :: .ireturn :: cb_330_12
noncomputable def cb_330_9 : List Instr := .astore 4 :: cb_330_10
noncomputable def cb_330_0 : List Instr := .aload 3 :: .iconst 0 :: .aload 0 :: .iload 1 :: .iload 2 :: .invokeinterface 162 139 :: .i2l :: .lastore :: .goto 15 :: cb_330_9
-- 331: FogWatchLaw.cheap(LFogWatch;I[J)I
noncomputable def cb_331_11 : List Instr := .iconst 0 :: .ireturn :: []
noncomputable def cb_331_9 : List Instr := .iconst 1 :: .ireturn :: cb_331_11
noncomputable def cb_331_8 : List Instr := .astore 3 :: cb_331_9
noncomputable def cb_331_0 : List Instr := .aload 2 :: .iconst 0 :: .aload 0 :: .iload 1 :: .invokeinterface 163 75 :: .i2l :: .lastore :: .goto 11 :: cb_331_8
-- 332: FogWatchLaw.apart(LFogWatch;II[J)I
noncomputable def cb_332_12 : List Instr := .iconst 0 :: .ireturn :: []
noncomputable def cb_332_10 : List Instr := .iconst 1 :: .ireturn :: cb_332_12
noncomputable def cb_332_9 : List Instr := .astore 4 :: cb_332_10
noncomputable def cb_332_0 : List Instr := .aload 3 :: .iconst 0 :: .aload 0 :: .iload 1 :: .iload 2 :: .invokeinterface 164 139 :: .i2l :: .lastore :: .goto 12 :: cb_332_9
-- 333: FogWatchLaw.alike(LFogWatch;I[J)I
noncomputable def cb_333_11 : List Instr := .iconst 0 :: .ireturn :: []
noncomputable def cb_333_9 : List Instr := .iconst 1 :: .ireturn :: cb_333_11
noncomputable def cb_333_8 : List Instr := .astore 3 :: cb_333_9
noncomputable def cb_333_0 : List Instr := .aload 2 :: .iconst 0 :: .aload 0 :: .iload 1 :: .invokeinterface 165 75 :: .i2l :: .lastore :: .goto 11 :: cb_333_8
-- 334: FogWatchLaw.rows(LFogWatch;III[J)I
noncomputable def cb_334_15 : List Instr := .iconst 0 :: .ireturn :: []
noncomputable def cb_334_13 : List Instr := .iconst 2 :: .ireturn :: cb_334_15
noncomputable def cb_334_12 : List Instr := .astore 5 :: cb_334_13
noncomputable def cb_334_10 : List Instr := .iconst 1 :: .ireturn :: cb_334_12
noncomputable def cb_334_9 : List Instr := .astore 5 :: cb_334_10
noncomputable def cb_334_0 : List Instr := .aload 4 :: .iconst 0 :: .aload 0 :: .iload 1 :: .iload 2 :: .iload 3 :: .invokeinterface 167 203 :: .lastore :: .goto 15 :: cb_334_9
-- 335: FogWatchLaw.ring(LFogWatch;II[J)I
noncomputable def cb_335_15 : List Instr := .iconst 0 :: .ireturn :: []
noncomputable def cb_335_13 : List Instr := .iconst 2 :: .ireturn :: cb_335_15
noncomputable def cb_335_12 : List Instr := .astore 4 :: cb_335_13
noncomputable def cb_335_10 : List Instr := .iconst 1 :: .ireturn :: cb_335_12
noncomputable def cb_335_9 : List Instr := .astore 4 :: cb_335_10
noncomputable def cb_335_0 : List Instr := .aload 3 :: .iconst 0 :: .aload 0 :: .iload 1 :: .iload 2 :: .invokeinterface 168 139 :: .i2l :: .lastore :: .goto 15 :: cb_335_9
-- 336: FogWatchLaw.look(LFogWatch;I[J)I
noncomputable def cb_336_11 : List Instr := .iconst 0 :: .ireturn :: []
noncomputable def cb_336_9 : List Instr := .iconst 1 :: .ireturn :: cb_336_11
noncomputable def cb_336_8 : List Instr := .astore 3 :: cb_336_9
noncomputable def cb_336_0 : List Instr := .aload 2 :: .iconst 0 :: .aload 0 :: .iload 1 :: .invokeinterface 171 75 :: .i2l :: .lastore :: .goto 11 :: cb_336_8
-- 337: FogWatchLaw.chance(LFogWatch;IIIII[J)I
noncomputable def cb_337_17 : List Instr := .iconst 0 :: .ireturn :: []
noncomputable def cb_337_15 : List Instr := .iconst 2 :: .ireturn :: cb_337_17
noncomputable def cb_337_14 : List Instr := .astore 7 :: cb_337_15
noncomputable def cb_337_12 : List Instr := .iconst 1 :: .ireturn :: cb_337_14
noncomputable def cb_337_11 : List Instr := .astore 7 :: cb_337_12
noncomputable def cb_337_0 : List Instr := .aload 6 :: .iconst 0 :: .aload 0 :: .iload 1 :: .iload 2 :: .iload 3 :: .iload 4 :: .iload 5 :: .invokeinterface 172 331 :: .lastore :: .goto 17 :: cb_337_11
-- 338: FogWatchLaw.duel(LFogWatch;II[J)I
noncomputable def cb_338_12 : List Instr := .iconst 0 :: .ireturn :: []
noncomputable def cb_338_10 : List Instr := .iconst 1 :: .ireturn :: cb_338_12
noncomputable def cb_338_9 : List Instr := .astore 4 :: cb_338_10
noncomputable def cb_338_0 : List Instr := .aload 3 :: .iconst 0 :: .aload 0 :: .iload 1 :: .iload 2 :: .invokeinterface 173 139 :: .i2l :: .lastore :: .goto 12 :: cb_338_9
-- 339: FogWatchLaw.reach(LFogWatch;I[J)I
noncomputable def cb_339_11 : List Instr := .iconst 0 :: .ireturn :: []
noncomputable def cb_339_9 : List Instr := .iconst 1 :: .ireturn :: cb_339_11
noncomputable def cb_339_8 : List Instr := .astore 3 :: cb_339_9
noncomputable def cb_339_0 : List Instr := .aload 2 :: .iconst 0 :: .aload 0 :: .iload 1 :: .invokeinterface 174 75 :: .i2l :: .lastore :: .goto 11 :: cb_339_8
-- 340: FogWatchLaw.from(LFogWatch;II[J)I
noncomputable def cb_340_15 : List Instr := .iconst 0 :: .ireturn :: []
noncomputable def cb_340_13 : List Instr := .iconst 2 :: .ireturn :: cb_340_15
noncomputable def cb_340_12 : List Instr := .astore 4 :: cb_340_13
noncomputable def cb_340_10 : List Instr := .iconst 1 :: .ireturn :: cb_340_12
noncomputable def cb_340_9 : List Instr := .astore 4 :: cb_340_10
noncomputable def cb_340_0 : List Instr := .aload 3 :: .iconst 0 :: .aload 0 :: .iload 1 :: .iload 2 :: .invokeinterface 175 139 :: .i2l :: .lastore :: .goto 15 :: cb_340_9
-- 341: FogWatchLaw.watch(LFogWatch;IIII[J)I
noncomputable def cb_341_14 : List Instr := .iconst 0 :: .ireturn :: []
noncomputable def cb_341_12 : List Instr := .iconst 1 :: .ireturn :: cb_341_14
noncomputable def cb_341_11 : List Instr := .astore 6 :: cb_341_12
noncomputable def cb_341_0 : List Instr := .aload 5 :: .iconst 0 :: .aload 0 :: .iload 1 :: .iload 2 :: .iload 3 :: .iload 4 :: .invokeinterface 178 267 :: .i2l :: .lastore :: .goto 14 :: cb_341_11
-- 342: FogWatchLaw.span(LFogWatch;IIIIII[J)I
noncomputable def cb_342_16 : List Instr := .iconst 0 :: .ireturn :: []
noncomputable def cb_342_14 : List Instr := .iconst 1 :: .ireturn :: cb_342_16
noncomputable def cb_342_13 : List Instr := .astore 8 :: cb_342_14
noncomputable def cb_342_0 : List Instr := .aload 7 :: .iconst 0 :: .aload 0 :: .iload 1 :: .iload 2 :: .iload 3 :: .iload 4 :: .iload 5 :: .iload 6 :: .invokeinterface 179 395 :: .i2l :: .lastore :: .goto 16 :: cb_342_13
-- 343: FogWatchLaw.law([I)Z
noncomputable def cb_343_1469 : List Instr := .iconst 1 :: .freturn :: []
noncomputable def cb_343_1467 : List Instr := .iinc 4 8 :: .goto 13 :: cb_343_1469
noncomputable def cb_343_1465 : List Instr := .iconst 0 :: .freturn :: cb_343_1467
noncomputable def cb_343_1450 : List Instr := .aload 1 :: .aload 0 :: .iload 4 :: .iconst 1 :: .iadd :: .faload :: .invokeinterface 183 75 :: .aload 2 :: .aload 0 :: .iload 4 :: .iconst 1 :: .iadd :: .faload :: .invokeinterface 314 76 :: .if_icmp .eq 1467 :: cb_343_1465
noncomputable def cb_343_1448 : List Instr := .iconst 0 :: .freturn :: cb_343_1450
noncomputable def cb_343_1433 : List Instr := .aload 1 :: .aload 0 :: .iload 4 :: .iconst 1 :: .iadd :: .faload :: .invokeinterface 182 75 :: .aload 2 :: .aload 0 :: .iload 4 :: .iconst 1 :: .iadd :: .faload :: .invokeinterface 313 76 :: .if_icmp .eq 1467 :: cb_343_1448
noncomputable def cb_343_1431 : List Instr := .iconst 0 :: .freturn :: cb_343_1433
noncomputable def cb_343_1426 : List Instr := .aload 1 :: .invokeinterface 181 11 :: .aload 2 :: .invokeinterface 312 12 :: .if_icmp .eq 1467 :: cb_343_1431
noncomputable def cb_343_1424 : List Instr := .iconst 0 :: .freturn :: cb_343_1426
noncomputable def cb_343_1419 : List Instr := .aload 1 :: .invokeinterface 180 11 :: .aload 2 :: .invokeinterface 311 12 :: .if_icmp .eq 1467 :: cb_343_1424
noncomputable def cb_343_1418 : List Instr := .goto 1467 :: cb_343_1419
noncomputable def cb_343_1416 : List Instr := .iconst 0 :: .freturn :: cb_343_1418
noncomputable def cb_343_1409 : List Instr := .aload 3 :: .iconst 0 :: .laload :: .iload 6 :: .i2l :: .lcmp :: .ifCond .eq 1418 :: cb_343_1416
noncomputable def cb_343_1407 : List Instr := .iload 5 :: .ifCond .ne 1418 :: cb_343_1409
noncomputable def cb_343_1405 : List Instr := .iconst 0 :: .freturn :: cb_343_1407
noncomputable def cb_343_1334 : List Instr := .aload 1 :: .aload 0 :: .iload 4 :: .iconst 1 :: .iadd :: .faload :: .aload 0 :: .iload 4 :: .iconst 2 :: .iadd :: .faload :: .aload 0 :: .iload 4 :: .iconst 3 :: .iadd :: .faload :: .aload 0 :: .iload 4 :: .iconst 4 :: .iadd :: .faload :: .aload 0 :: .iload 4 :: .iconst 5 :: .iadd :: .faload :: .aload 0 :: .iload 4 :: .iconst 6 :: .iadd :: .faload :: .aload 3 :: .multianewarray 342 17 :: .istore 5 :: .aload 2 :: .aload 0 :: .iload 4 :: .iconst 1 :: .iadd :: .faload :: .aload 0 :: .iload 4 :: .iconst 2 :: .iadd :: .faload :: .aload 0 :: .iload 4 :: .iconst 3 :: .iadd :: .faload :: .aload 0 :: .iload 4 :: .iconst 4 :: .iadd :: .faload :: .aload 0 :: .iload 4 :: .iconst 5 :: .iadd :: .faload :: .aload 0 :: .iload 4 :: .iconst 6 :: .iadd :: .faload :: .invokeinterface 308 396 :: .istore 6 :: .aload 2 :: .invokeinterface 198 12 :: .iload 5 :: .if_icmp .eq 1407 :: cb_343_1405
noncomputable def cb_343_1333 : List Instr := .goto 1467 :: cb_343_1334
noncomputable def cb_343_1331 : List Instr := .iconst 0 :: .freturn :: cb_343_1333
noncomputable def cb_343_1324 : List Instr := .aload 3 :: .iconst 0 :: .laload :: .iload 6 :: .i2l :: .lcmp :: .ifCond .eq 1333 :: cb_343_1331
noncomputable def cb_343_1322 : List Instr := .iload 5 :: .ifCond .ne 1333 :: cb_343_1324
noncomputable def cb_343_1320 : List Instr := .iconst 0 :: .freturn :: cb_343_1322
noncomputable def cb_343_1269 : List Instr := .aload 1 :: .aload 0 :: .iload 4 :: .iconst 1 :: .iadd :: .faload :: .aload 0 :: .iload 4 :: .iconst 2 :: .iadd :: .faload :: .aload 0 :: .iload 4 :: .iconst 3 :: .iadd :: .faload :: .aload 0 :: .iload 4 :: .iconst 4 :: .iadd :: .faload :: .aload 3 :: .multianewarray 341 13 :: .istore 5 :: .aload 2 :: .aload 0 :: .iload 4 :: .iconst 1 :: .iadd :: .faload :: .aload 0 :: .iload 4 :: .iconst 2 :: .iadd :: .faload :: .aload 0 :: .iload 4 :: .iconst 3 :: .iadd :: .faload :: .aload 0 :: .iload 4 :: .iconst 4 :: .iadd :: .faload :: .invokeinterface 307 268 :: .istore 6 :: .aload 2 :: .invokeinterface 198 12 :: .iload 5 :: .if_icmp .eq 1322 :: cb_343_1320
noncomputable def cb_343_1267 : List Instr := .iconst 0 :: .freturn :: cb_343_1269
noncomputable def cb_343_1262 : List Instr := .aload 1 :: .invokeinterface 177 11 :: .aload 2 :: .invokeinterface 303 12 :: .if_icmp .eq 1467 :: cb_343_1267
noncomputable def cb_343_1260 : List Instr := .iconst 0 :: .freturn :: cb_343_1262
noncomputable def cb_343_1255 : List Instr := .aload 1 :: .invokeinterface 176 11 :: .aload 2 :: .invokeinterface 302 12 :: .if_icmp .eq 1467 :: cb_343_1260
noncomputable def cb_343_1254 : List Instr := .goto 1467 :: cb_343_1255
noncomputable def cb_343_1252 : List Instr := .iconst 0 :: .freturn :: cb_343_1254
noncomputable def cb_343_1245 : List Instr := .aload 3 :: .iconst 0 :: .laload :: .iload 6 :: .i2l :: .lcmp :: .ifCond .eq 1254 :: cb_343_1252
noncomputable def cb_343_1243 : List Instr := .iload 5 :: .ifCond .ne 1254 :: cb_343_1245
noncomputable def cb_343_1241 : List Instr := .iconst 0 :: .freturn :: cb_343_1243
noncomputable def cb_343_1210 : List Instr := .aload 1 :: .aload 0 :: .iload 4 :: .iconst 1 :: .iadd :: .faload :: .aload 0 :: .iload 4 :: .iconst 2 :: .iadd :: .faload :: .aload 3 :: .multianewarray 340 9 :: .istore 5 :: .aload 2 :: .aload 0 :: .iload 4 :: .iconst 1 :: .iadd :: .faload :: .aload 0 :: .iload 4 :: .iconst 2 :: .iadd :: .faload :: .invokeinterface 301 140 :: .istore 6 :: .aload 2 :: .invokeinterface 198 12 :: .iload 5 :: .if_icmp .eq 1243 :: cb_343_1241
noncomputable def cb_343_1209 : List Instr := .goto 1467 :: cb_343_1210
noncomputable def cb_343_1207 : List Instr := .iconst 0 :: .freturn :: cb_343_1209
noncomputable def cb_343_1200 : List Instr := .aload 3 :: .iconst 0 :: .laload :: .iload 6 :: .i2l :: .lcmp :: .ifCond .eq 1209 :: cb_343_1207
noncomputable def cb_343_1198 : List Instr := .iload 5 :: .ifCond .ne 1209 :: cb_343_1200
noncomputable def cb_343_1196 : List Instr := .iconst 0 :: .freturn :: cb_343_1198
noncomputable def cb_343_1175 : List Instr := .aload 1 :: .aload 0 :: .iload 4 :: .iconst 1 :: .iadd :: .faload :: .aload 3 :: .multianewarray 339 7 :: .istore 5 :: .aload 2 :: .aload 0 :: .iload 4 :: .iconst 1 :: .iadd :: .faload :: .invokeinterface 300 76 :: .istore 6 :: .aload 2 :: .invokeinterface 198 12 :: .iload 5 :: .if_icmp .eq 1198 :: cb_343_1196
noncomputable def cb_343_1174 : List Instr := .goto 1467 :: cb_343_1175
noncomputable def cb_343_1172 : List Instr := .iconst 0 :: .freturn :: cb_343_1174
noncomputable def cb_343_1165 : List Instr := .aload 3 :: .iconst 0 :: .laload :: .iload 6 :: .i2l :: .lcmp :: .ifCond .eq 1174 :: cb_343_1172
noncomputable def cb_343_1163 : List Instr := .iload 5 :: .ifCond .ne 1174 :: cb_343_1165
noncomputable def cb_343_1161 : List Instr := .iconst 0 :: .freturn :: cb_343_1163
noncomputable def cb_343_1130 : List Instr := .aload 1 :: .aload 0 :: .iload 4 :: .iconst 1 :: .iadd :: .faload :: .aload 0 :: .iload 4 :: .iconst 2 :: .iadd :: .faload :: .aload 3 :: .multianewarray 338 9 :: .istore 5 :: .aload 2 :: .aload 0 :: .iload 4 :: .iconst 1 :: .iadd :: .faload :: .aload 0 :: .iload 4 :: .iconst 2 :: .iadd :: .faload :: .invokeinterface 299 140 :: .istore 6 :: .aload 2 :: .invokeinterface 198 12 :: .iload 5 :: .if_icmp .eq 1163 :: cb_343_1161
noncomputable def cb_343_1129 : List Instr := .goto 1467 :: cb_343_1130
noncomputable def cb_343_1127 : List Instr := .iconst 0 :: .freturn :: cb_343_1129
noncomputable def cb_343_1121 : List Instr := .aload 3 :: .iconst 0 :: .laload :: .lload 6 :: .lcmp :: .ifCond .eq 1129 :: cb_343_1127
noncomputable def cb_343_1119 : List Instr := .iload 5 :: .ifCond .ne 1129 :: cb_343_1121
noncomputable def cb_343_1117 : List Instr := .iconst 0 :: .freturn :: cb_343_1119
noncomputable def cb_343_1056 : List Instr := .aload 1 :: .aload 0 :: .iload 4 :: .iconst 1 :: .iadd :: .faload :: .aload 0 :: .iload 4 :: .iconst 2 :: .iadd :: .faload :: .aload 0 :: .iload 4 :: .iconst 3 :: .iadd :: .faload :: .aload 0 :: .iload 4 :: .iconst 4 :: .iadd :: .faload :: .aload 0 :: .iload 4 :: .iconst 5 :: .iadd :: .faload :: .aload 3 :: .multianewarray 337 15 :: .istore 5 :: .aload 2 :: .aload 0 :: .iload 4 :: .iconst 1 :: .iadd :: .faload :: .aload 0 :: .iload 4 :: .iconst 2 :: .iadd :: .faload :: .aload 0 :: .iload 4 :: .iconst 3 :: .iadd :: .faload :: .aload 0 :: .iload 4 :: .iconst 4 :: .iadd :: .faload :: .aload 0 :: .iload 4 :: .iconst 5 :: .iadd :: .faload :: .invokeinterface 297 332 :: .lstore 6 :: .aload 2 :: .invokeinterface 198 12 :: .iload 5 :: .if_icmp .eq 1119 :: cb_343_1117
noncomputable def cb_343_1055 : List Instr := .goto 1467 :: cb_343_1056
noncomputable def cb_343_1053 : List Instr := .iconst 0 :: .freturn :: cb_343_1055
noncomputable def cb_343_1046 : List Instr := .aload 3 :: .iconst 0 :: .laload :: .iload 6 :: .i2l :: .lcmp :: .ifCond .eq 1055 :: cb_343_1053
noncomputable def cb_343_1044 : List Instr := .iload 5 :: .ifCond .ne 1055 :: cb_343_1046
noncomputable def cb_343_1042 : List Instr := .iconst 0 :: .freturn :: cb_343_1044
noncomputable def cb_343_1021 : List Instr := .aload 1 :: .aload 0 :: .iload 4 :: .iconst 1 :: .iadd :: .faload :: .aload 3 :: .multianewarray 336 7 :: .istore 5 :: .aload 2 :: .aload 0 :: .iload 4 :: .iconst 1 :: .iadd :: .faload :: .invokeinterface 295 76 :: .istore 6 :: .aload 2 :: .invokeinterface 198 12 :: .iload 5 :: .if_icmp .eq 1044 :: cb_343_1042
noncomputable def cb_343_1019 : List Instr := .iconst 0 :: .freturn :: cb_343_1021
noncomputable def cb_343_1014 : List Instr := .aload 1 :: .invokeinterface 170 11 :: .aload 2 :: .invokeinterface 293 12 :: .if_icmp .eq 1467 :: cb_343_1019
noncomputable def cb_343_1012 : List Instr := .iconst 0 :: .freturn :: cb_343_1014
noncomputable def cb_343_1007 : List Instr := .aload 1 :: .invokeinterface 169 11 :: .aload 2 :: .invokeinterface 291 12 :: .if_icmp .eq 1467 :: cb_343_1012
noncomputable def cb_343_1006 : List Instr := .goto 1467 :: cb_343_1007
noncomputable def cb_343_1004 : List Instr := .iconst 0 :: .freturn :: cb_343_1006
noncomputable def cb_343_997 : List Instr := .aload 3 :: .iconst 0 :: .laload :: .iload 6 :: .i2l :: .lcmp :: .ifCond .eq 1006 :: cb_343_1004
noncomputable def cb_343_995 : List Instr := .iload 5 :: .ifCond .ne 1006 :: cb_343_997
noncomputable def cb_343_993 : List Instr := .iconst 0 :: .freturn :: cb_343_995
noncomputable def cb_343_962 : List Instr := .aload 1 :: .aload 0 :: .iload 4 :: .iconst 1 :: .iadd :: .faload :: .aload 0 :: .iload 4 :: .iconst 2 :: .iadd :: .faload :: .aload 3 :: .multianewarray 335 9 :: .istore 5 :: .aload 2 :: .aload 0 :: .iload 4 :: .iconst 1 :: .iadd :: .faload :: .aload 0 :: .iload 4 :: .iconst 2 :: .iadd :: .faload :: .invokeinterface 287 140 :: .istore 6 :: .aload 2 :: .invokeinterface 198 12 :: .iload 5 :: .if_icmp .eq 995 :: cb_343_993
noncomputable def cb_343_961 : List Instr := .goto 1467 :: cb_343_962
noncomputable def cb_343_959 : List Instr := .iconst 0 :: .freturn :: cb_343_961
noncomputable def cb_343_953 : List Instr := .aload 3 :: .iconst 0 :: .laload :: .lload 6 :: .lcmp :: .ifCond .eq 961 :: cb_343_959
noncomputable def cb_343_951 : List Instr := .iload 5 :: .ifCond .ne 961 :: cb_343_953
noncomputable def cb_343_949 : List Instr := .iconst 0 :: .freturn :: cb_343_951
noncomputable def cb_343_908 : List Instr := .aload 1 :: .aload 0 :: .iload 4 :: .iconst 1 :: .iadd :: .faload :: .aload 0 :: .iload 4 :: .iconst 2 :: .iadd :: .faload :: .aload 0 :: .iload 4 :: .iconst 3 :: .iadd :: .faload :: .aload 3 :: .multianewarray 334 11 :: .istore 5 :: .aload 2 :: .aload 0 :: .iload 4 :: .iconst 1 :: .iadd :: .faload :: .aload 0 :: .iload 4 :: .iconst 2 :: .iadd :: .faload :: .aload 0 :: .iload 4 :: .iconst 3 :: .iadd :: .faload :: .invokeinterface 285 204 :: .lstore 6 :: .aload 2 :: .invokeinterface 198 12 :: .iload 5 :: .if_icmp .eq 951 :: cb_343_949
noncomputable def cb_343_906 : List Instr := .iconst 0 :: .freturn :: cb_343_908
noncomputable def cb_343_901 : List Instr := .aload 1 :: .invokeinterface 166 11 :: .aload 2 :: .invokeinterface 284 12 :: .if_icmp .eq 1467 :: cb_343_906
noncomputable def cb_343_900 : List Instr := .goto 1467 :: cb_343_901
noncomputable def cb_343_898 : List Instr := .iconst 0 :: .freturn :: cb_343_900
noncomputable def cb_343_891 : List Instr := .aload 3 :: .iconst 0 :: .laload :: .iload 6 :: .i2l :: .lcmp :: .ifCond .eq 900 :: cb_343_898
noncomputable def cb_343_889 : List Instr := .iload 5 :: .ifCond .ne 900 :: cb_343_891
noncomputable def cb_343_887 : List Instr := .iconst 0 :: .freturn :: cb_343_889
noncomputable def cb_343_866 : List Instr := .aload 1 :: .aload 0 :: .iload 4 :: .iconst 1 :: .iadd :: .faload :: .aload 3 :: .multianewarray 333 7 :: .istore 5 :: .aload 2 :: .aload 0 :: .iload 4 :: .iconst 1 :: .iadd :: .faload :: .invokeinterface 283 76 :: .istore 6 :: .aload 2 :: .invokeinterface 198 12 :: .iload 5 :: .if_icmp .eq 889 :: cb_343_887
noncomputable def cb_343_865 : List Instr := .goto 1467 :: cb_343_866
noncomputable def cb_343_863 : List Instr := .iconst 0 :: .freturn :: cb_343_865
noncomputable def cb_343_856 : List Instr := .aload 3 :: .iconst 0 :: .laload :: .iload 6 :: .i2l :: .lcmp :: .ifCond .eq 865 :: cb_343_863
noncomputable def cb_343_854 : List Instr := .iload 5 :: .ifCond .ne 865 :: cb_343_856
noncomputable def cb_343_852 : List Instr := .iconst 0 :: .freturn :: cb_343_854
noncomputable def cb_343_821 : List Instr := .aload 1 :: .aload 0 :: .iload 4 :: .iconst 1 :: .iadd :: .faload :: .aload 0 :: .iload 4 :: .iconst 2 :: .iadd :: .faload :: .aload 3 :: .multianewarray 332 9 :: .istore 5 :: .aload 2 :: .aload 0 :: .iload 4 :: .iconst 1 :: .iadd :: .faload :: .aload 0 :: .iload 4 :: .iconst 2 :: .iadd :: .faload :: .invokeinterface 281 140 :: .istore 6 :: .aload 2 :: .invokeinterface 198 12 :: .iload 5 :: .if_icmp .eq 854 :: cb_343_852
noncomputable def cb_343_820 : List Instr := .goto 1467 :: cb_343_821
noncomputable def cb_343_818 : List Instr := .iconst 0 :: .freturn :: cb_343_820
noncomputable def cb_343_811 : List Instr := .aload 3 :: .iconst 0 :: .laload :: .iload 6 :: .i2l :: .lcmp :: .ifCond .eq 820 :: cb_343_818
noncomputable def cb_343_809 : List Instr := .iload 5 :: .ifCond .ne 820 :: cb_343_811
noncomputable def cb_343_807 : List Instr := .iconst 0 :: .freturn :: cb_343_809
noncomputable def cb_343_786 : List Instr := .aload 1 :: .aload 0 :: .iload 4 :: .iconst 1 :: .iadd :: .faload :: .aload 3 :: .multianewarray 331 7 :: .istore 5 :: .aload 2 :: .aload 0 :: .iload 4 :: .iconst 1 :: .iadd :: .faload :: .invokeinterface 279 76 :: .istore 6 :: .aload 2 :: .invokeinterface 198 12 :: .iload 5 :: .if_icmp .eq 809 :: cb_343_807
noncomputable def cb_343_785 : List Instr := .goto 1467 :: cb_343_786
noncomputable def cb_343_783 : List Instr := .iconst 0 :: .freturn :: cb_343_785
noncomputable def cb_343_776 : List Instr := .aload 3 :: .iconst 0 :: .laload :: .iload 6 :: .i2l :: .lcmp :: .ifCond .eq 785 :: cb_343_783
noncomputable def cb_343_774 : List Instr := .iload 5 :: .ifCond .ne 785 :: cb_343_776
noncomputable def cb_343_772 : List Instr := .iconst 0 :: .freturn :: cb_343_774
noncomputable def cb_343_741 : List Instr := .aload 1 :: .aload 0 :: .iload 4 :: .iconst 1 :: .iadd :: .faload :: .aload 0 :: .iload 4 :: .iconst 2 :: .iadd :: .faload :: .aload 3 :: .multianewarray 330 9 :: .istore 5 :: .aload 2 :: .aload 0 :: .iload 4 :: .iconst 1 :: .iadd :: .faload :: .aload 0 :: .iload 4 :: .iconst 2 :: .iadd :: .faload :: .invokeinterface 278 140 :: .istore 6 :: .aload 2 :: .invokeinterface 198 12 :: .iload 5 :: .if_icmp .eq 774 :: cb_343_772
noncomputable def cb_343_740 : List Instr := .goto 1467 :: cb_343_741
noncomputable def cb_343_738 : List Instr := .iconst 0 :: .freturn :: cb_343_740
noncomputable def cb_343_731 : List Instr := .aload 3 :: .iconst 0 :: .laload :: .iload 6 :: .i2l :: .lcmp :: .ifCond .eq 740 :: cb_343_738
noncomputable def cb_343_729 : List Instr := .iload 5 :: .ifCond .ne 740 :: cb_343_731
noncomputable def cb_343_727 : List Instr := .iconst 0 :: .freturn :: cb_343_729
noncomputable def cb_343_696 : List Instr := .aload 1 :: .aload 0 :: .iload 4 :: .iconst 1 :: .iadd :: .faload :: .aload 0 :: .iload 4 :: .iconst 2 :: .iadd :: .faload :: .aload 3 :: .multianewarray 329 9 :: .istore 5 :: .aload 2 :: .aload 0 :: .iload 4 :: .iconst 1 :: .iadd :: .faload :: .aload 0 :: .iload 4 :: .iconst 2 :: .iadd :: .faload :: .invokeinterface 277 140 :: .istore 6 :: .aload 2 :: .invokeinterface 198 12 :: .iload 5 :: .if_icmp .eq 729 :: cb_343_727
noncomputable def cb_343_695 : List Instr := .goto 1467 :: cb_343_696
noncomputable def cb_343_693 : List Instr := .iconst 0 :: .freturn :: cb_343_695
noncomputable def cb_343_686 : List Instr := .aload 3 :: .iconst 0 :: .laload :: .iload 6 :: .i2l :: .lcmp :: .ifCond .eq 695 :: cb_343_693
noncomputable def cb_343_684 : List Instr := .iload 5 :: .ifCond .ne 695 :: cb_343_686
noncomputable def cb_343_682 : List Instr := .iconst 0 :: .freturn :: cb_343_684
noncomputable def cb_343_651 : List Instr := .aload 1 :: .aload 0 :: .iload 4 :: .iconst 1 :: .iadd :: .faload :: .aload 0 :: .iload 4 :: .iconst 2 :: .iadd :: .faload :: .aload 3 :: .multianewarray 328 9 :: .istore 5 :: .aload 2 :: .aload 0 :: .iload 4 :: .iconst 1 :: .iadd :: .faload :: .aload 0 :: .iload 4 :: .iconst 2 :: .iadd :: .faload :: .invokeinterface 276 140 :: .istore 6 :: .aload 2 :: .invokeinterface 198 12 :: .iload 5 :: .if_icmp .eq 684 :: cb_343_682
noncomputable def cb_343_650 : List Instr := .goto 1467 :: cb_343_651
noncomputable def cb_343_648 : List Instr := .iconst 0 :: .freturn :: cb_343_650
noncomputable def cb_343_641 : List Instr := .aload 3 :: .iconst 0 :: .laload :: .iload 6 :: .i2l :: .lcmp :: .ifCond .eq 650 :: cb_343_648
noncomputable def cb_343_639 : List Instr := .iload 5 :: .ifCond .ne 650 :: cb_343_641
noncomputable def cb_343_637 : List Instr := .iconst 0 :: .freturn :: cb_343_639
noncomputable def cb_343_616 : List Instr := .aload 1 :: .aload 0 :: .iload 4 :: .iconst 1 :: .iadd :: .faload :: .aload 3 :: .multianewarray 327 7 :: .istore 5 :: .aload 2 :: .aload 0 :: .iload 4 :: .iconst 1 :: .iadd :: .faload :: .invokeinterface 273 76 :: .istore 6 :: .aload 2 :: .invokeinterface 198 12 :: .iload 5 :: .if_icmp .eq 639 :: cb_343_637
noncomputable def cb_343_615 : List Instr := .goto 1467 :: cb_343_616
noncomputable def cb_343_613 : List Instr := .iconst 0 :: .freturn :: cb_343_615
noncomputable def cb_343_606 : List Instr := .aload 3 :: .iconst 0 :: .laload :: .iload 6 :: .i2l :: .lcmp :: .ifCond .eq 615 :: cb_343_613
noncomputable def cb_343_604 : List Instr := .iload 5 :: .ifCond .ne 615 :: cb_343_606
noncomputable def cb_343_602 : List Instr := .iconst 0 :: .freturn :: cb_343_604
noncomputable def cb_343_571 : List Instr := .aload 1 :: .aload 0 :: .iload 4 :: .iconst 1 :: .iadd :: .faload :: .aload 0 :: .iload 4 :: .iconst 2 :: .iadd :: .faload :: .aload 3 :: .multianewarray 326 9 :: .istore 5 :: .aload 2 :: .aload 0 :: .iload 4 :: .iconst 1 :: .iadd :: .faload :: .aload 0 :: .iload 4 :: .iconst 2 :: .iadd :: .faload :: .invokeinterface 271 140 :: .istore 6 :: .aload 2 :: .invokeinterface 198 12 :: .iload 5 :: .if_icmp .eq 604 :: cb_343_602
noncomputable def cb_343_570 : List Instr := .goto 1467 :: cb_343_571
noncomputable def cb_343_568 : List Instr := .iconst 0 :: .freturn :: cb_343_570
noncomputable def cb_343_561 : List Instr := .aload 3 :: .iconst 0 :: .laload :: .iload 6 :: .i2l :: .lcmp :: .ifCond .eq 570 :: cb_343_568
noncomputable def cb_343_559 : List Instr := .iload 5 :: .ifCond .ne 570 :: cb_343_561
noncomputable def cb_343_557 : List Instr := .iconst 0 :: .freturn :: cb_343_559
noncomputable def cb_343_476 : List Instr := .aload 1 :: .aload 0 :: .iload 4 :: .iconst 1 :: .iadd :: .faload :: .aload 0 :: .iload 4 :: .iconst 2 :: .iadd :: .faload :: .aload 0 :: .iload 4 :: .iconst 3 :: .iadd :: .faload :: .aload 0 :: .iload 4 :: .iconst 4 :: .iadd :: .faload :: .aload 0 :: .iload 4 :: .iconst 5 :: .iadd :: .faload :: .aload 0 :: .iload 4 :: .iconst 6 :: .iadd :: .faload :: .aload 0 :: .iload 4 :: .iconst 7 :: .iadd :: .faload :: .aload 3 :: .multianewarray 325 19 :: .istore 5 :: .aload 2 :: .aload 0 :: .iload 4 :: .iconst 1 :: .iadd :: .faload :: .aload 0 :: .iload 4 :: .iconst 2 :: .iadd :: .faload :: .aload 0 :: .iload 4 :: .iconst 3 :: .iadd :: .faload :: .aload 0 :: .iload 4 :: .iconst 4 :: .iadd :: .faload :: .aload 0 :: .iload 4 :: .iconst 5 :: .iadd :: .faload :: .aload 0 :: .iload 4 :: .iconst 6 :: .iadd :: .faload :: .aload 0 :: .iload 4 :: .iconst 7 :: .iadd :: .faload :: .invokeinterface 270 460 :: .istore 6 :: .aload 2 :: .invokeinterface 198 12 :: .iload 5 :: .if_icmp .eq 559 :: cb_343_557
noncomputable def cb_343_475 : List Instr := .goto 1467 :: cb_343_476
noncomputable def cb_343_473 : List Instr := .iconst 0 :: .freturn :: cb_343_475
noncomputable def cb_343_466 : List Instr := .aload 3 :: .iconst 0 :: .laload :: .iload 6 :: .i2l :: .lcmp :: .ifCond .eq 475 :: cb_343_473
noncomputable def cb_343_464 : List Instr := .iload 5 :: .ifCond .ne 475 :: cb_343_466
noncomputable def cb_343_462 : List Instr := .iconst 0 :: .freturn :: cb_343_464
noncomputable def cb_343_441 : List Instr := .aload 1 :: .aload 0 :: .iload 4 :: .iconst 1 :: .iadd :: .faload :: .aload 3 :: .multianewarray 324 7 :: .istore 5 :: .aload 2 :: .aload 0 :: .iload 4 :: .iconst 1 :: .iadd :: .faload :: .invokeinterface 269 76 :: .istore 6 :: .aload 2 :: .invokeinterface 198 12 :: .iload 5 :: .if_icmp .eq 464 :: cb_343_462
noncomputable def cb_343_440 : List Instr := .goto 1467 :: cb_343_441
noncomputable def cb_343_438 : List Instr := .iconst 0 :: .freturn :: cb_343_440
noncomputable def cb_343_431 : List Instr := .aload 3 :: .iconst 0 :: .laload :: .iload 6 :: .i2l :: .lcmp :: .ifCond .eq 440 :: cb_343_438
noncomputable def cb_343_429 : List Instr := .iload 5 :: .ifCond .ne 440 :: cb_343_431
noncomputable def cb_343_427 : List Instr := .iconst 0 :: .freturn :: cb_343_429
noncomputable def cb_343_396 : List Instr := .aload 1 :: .aload 0 :: .iload 4 :: .iconst 1 :: .iadd :: .faload :: .aload 0 :: .iload 4 :: .iconst 2 :: .iadd :: .faload :: .aload 3 :: .multianewarray 323 9 :: .istore 5 :: .aload 2 :: .aload 0 :: .iload 4 :: .iconst 1 :: .iadd :: .faload :: .aload 0 :: .iload 4 :: .iconst 2 :: .iadd :: .faload :: .invokeinterface 268 140 :: .istore 6 :: .aload 2 :: .invokeinterface 198 12 :: .iload 5 :: .if_icmp .eq 429 :: cb_343_427
noncomputable def cb_343_395 : List Instr := .goto 1467 :: cb_343_396
noncomputable def cb_343_393 : List Instr := .iconst 0 :: .freturn :: cb_343_395
noncomputable def cb_343_386 : List Instr := .aload 3 :: .iconst 0 :: .laload :: .iload 6 :: .i2l :: .lcmp :: .ifCond .eq 395 :: cb_343_393
noncomputable def cb_343_384 : List Instr := .iload 5 :: .ifCond .ne 395 :: cb_343_386
noncomputable def cb_343_382 : List Instr := .iconst 0 :: .freturn :: cb_343_384
noncomputable def cb_343_351 : List Instr := .aload 1 :: .aload 0 :: .iload 4 :: .iconst 1 :: .iadd :: .faload :: .aload 0 :: .iload 4 :: .iconst 2 :: .iadd :: .faload :: .aload 3 :: .multianewarray 322 9 :: .istore 5 :: .aload 2 :: .aload 0 :: .iload 4 :: .iconst 1 :: .iadd :: .faload :: .aload 0 :: .iload 4 :: .iconst 2 :: .iadd :: .faload :: .invokeinterface 267 140 :: .istore 6 :: .aload 2 :: .invokeinterface 198 12 :: .iload 5 :: .if_icmp .eq 384 :: cb_343_382
noncomputable def cb_343_350 : List Instr := .goto 1467 :: cb_343_351
noncomputable def cb_343_348 : List Instr := .iconst 0 :: .freturn :: cb_343_350
noncomputable def cb_343_341 : List Instr := .aload 3 :: .iconst 0 :: .laload :: .iload 6 :: .i2l :: .lcmp :: .ifCond .eq 350 :: cb_343_348
noncomputable def cb_343_339 : List Instr := .iload 5 :: .ifCond .ne 350 :: cb_343_341
noncomputable def cb_343_337 : List Instr := .iconst 0 :: .freturn :: cb_343_339
noncomputable def cb_343_306 : List Instr := .aload 1 :: .aload 0 :: .iload 4 :: .iconst 1 :: .iadd :: .faload :: .aload 0 :: .iload 4 :: .iconst 2 :: .iadd :: .faload :: .aload 3 :: .multianewarray 321 9 :: .istore 5 :: .aload 2 :: .aload 0 :: .iload 4 :: .iconst 1 :: .iadd :: .faload :: .aload 0 :: .iload 4 :: .iconst 2 :: .iadd :: .faload :: .invokeinterface 266 140 :: .istore 6 :: .aload 2 :: .invokeinterface 198 12 :: .iload 5 :: .if_icmp .eq 339 :: cb_343_337
noncomputable def cb_343_305 : List Instr := .goto 1467 :: cb_343_306
noncomputable def cb_343_303 : List Instr := .iconst 0 :: .freturn :: cb_343_305
noncomputable def cb_343_296 : List Instr := .aload 3 :: .iconst 0 :: .laload :: .iload 6 :: .i2l :: .lcmp :: .ifCond .eq 305 :: cb_343_303
noncomputable def cb_343_294 : List Instr := .iload 5 :: .ifCond .ne 305 :: cb_343_296
noncomputable def cb_343_292 : List Instr := .iconst 0 :: .freturn :: cb_343_294
noncomputable def cb_343_271 : List Instr := .aload 1 :: .aload 0 :: .iload 4 :: .iconst 1 :: .iadd :: .faload :: .aload 3 :: .multianewarray 320 7 :: .istore 5 :: .aload 2 :: .aload 0 :: .iload 4 :: .iconst 1 :: .iadd :: .faload :: .invokeinterface 261 76 :: .istore 6 :: .aload 2 :: .invokeinterface 198 12 :: .iload 5 :: .if_icmp .eq 294 :: cb_343_292
noncomputable def cb_343_269 : List Instr := .iconst 0 :: .freturn :: cb_343_271
noncomputable def cb_343_264 : List Instr := .aload 1 :: .invokeinterface 151 11 :: .aload 2 :: .invokeinterface 259 12 :: .if_icmp .eq 1467 :: cb_343_269
noncomputable def cb_343_262 : List Instr := .iconst 0 :: .freturn :: cb_343_264
noncomputable def cb_343_257 : List Instr := .aload 1 :: .invokeinterface 150 11 :: .aload 2 :: .invokeinterface 216 12 :: .if_icmp .eq 1467 :: cb_343_262
noncomputable def cb_343_256 : List Instr := .goto 1467 :: cb_343_257
noncomputable def cb_343_254 : List Instr := .iconst 0 :: .freturn :: cb_343_256
noncomputable def cb_343_247 : List Instr := .aload 3 :: .iconst 0 :: .laload :: .iload 6 :: .i2l :: .lcmp :: .ifCond .eq 256 :: cb_343_254
noncomputable def cb_343_245 : List Instr := .iload 5 :: .ifCond .ne 256 :: cb_343_247
noncomputable def cb_343_243 : List Instr := .iconst 0 :: .freturn :: cb_343_245
noncomputable def cb_343_222 : List Instr := .aload 1 :: .aload 0 :: .iload 4 :: .iconst 1 :: .iadd :: .faload :: .aload 3 :: .multianewarray 319 7 :: .istore 5 :: .aload 2 :: .aload 0 :: .iload 4 :: .iconst 1 :: .iadd :: .faload :: .invokeinterface 247 76 :: .istore 6 :: .aload 2 :: .invokeinterface 198 12 :: .iload 5 :: .if_icmp .eq 245 :: cb_343_243
noncomputable def cb_343_221 : List Instr := .goto 1467 :: cb_343_222
noncomputable def cb_343_219 : List Instr := .iconst 0 :: .freturn :: cb_343_221
noncomputable def cb_343_212 : List Instr := .aload 3 :: .iconst 0 :: .laload :: .iload 6 :: .i2l :: .lcmp :: .ifCond .eq 221 :: cb_343_219
noncomputable def cb_343_210 : List Instr := .iload 5 :: .ifCond .ne 221 :: cb_343_212
noncomputable def cb_343_208 : List Instr := .iconst 0 :: .freturn :: cb_343_210
noncomputable def cb_343_187 : List Instr := .aload 1 :: .aload 0 :: .iload 4 :: .iconst 1 :: .iadd :: .faload :: .aload 3 :: .multianewarray 318 7 :: .istore 5 :: .aload 2 :: .aload 0 :: .iload 4 :: .iconst 1 :: .iadd :: .faload :: .invokeinterface 246 76 :: .istore 6 :: .aload 2 :: .invokeinterface 198 12 :: .iload 5 :: .if_icmp .eq 210 :: cb_343_208
noncomputable def cb_343_186 : List Instr := .goto 1467 :: cb_343_187
noncomputable def cb_343_184 : List Instr := .iconst 0 :: .freturn :: cb_343_186
noncomputable def cb_343_177 : List Instr := .aload 3 :: .iconst 0 :: .laload :: .iload 6 :: .i2l :: .lcmp :: .ifCond .eq 186 :: cb_343_184
noncomputable def cb_343_175 : List Instr := .iload 5 :: .ifCond .ne 186 :: cb_343_177
noncomputable def cb_343_173 : List Instr := .iconst 0 :: .freturn :: cb_343_175
noncomputable def cb_343_152 : List Instr := .aload 1 :: .aload 0 :: .iload 4 :: .iconst 1 :: .iadd :: .faload :: .aload 3 :: .multianewarray 317 7 :: .istore 5 :: .aload 2 :: .aload 0 :: .iload 4 :: .iconst 1 :: .iadd :: .faload :: .invokeinterface 242 76 :: .istore 6 :: .aload 2 :: .invokeinterface 198 12 :: .iload 5 :: .if_icmp .eq 175 :: cb_343_173
noncomputable def cb_343_151 : List Instr := .goto 1467 :: cb_343_152
noncomputable def cb_343_149 : List Instr := .iconst 0 :: .freturn :: cb_343_151
noncomputable def cb_343_142 : List Instr := .aload 3 :: .iconst 0 :: .laload :: .iload 6 :: .i2l :: .lcmp :: .ifCond .eq 151 :: cb_343_149
noncomputable def cb_343_140 : List Instr := .iload 5 :: .ifCond .ne 151 :: cb_343_142
noncomputable def cb_343_138 : List Instr := .iconst 0 :: .freturn :: cb_343_140
noncomputable def cb_343_117 : List Instr := .aload 1 :: .aload 0 :: .iload 4 :: .iconst 1 :: .iadd :: .faload :: .aload 3 :: .multianewarray 316 7 :: .istore 5 :: .aload 2 :: .aload 0 :: .iload 4 :: .iconst 1 :: .iadd :: .faload :: .invokeinterface 233 76 :: .istore 6 :: .aload 2 :: .invokeinterface 198 12 :: .iload 5 :: .if_icmp .eq 140 :: cb_343_138
noncomputable def cb_343_116 : List Instr := .goto 1467 :: cb_343_117
noncomputable def cb_343_114 : List Instr := .iconst 0 :: .freturn :: cb_343_116
noncomputable def cb_343_107 : List Instr := .aload 3 :: .iconst 0 :: .laload :: .iload 6 :: .i2l :: .lcmp :: .ifCond .eq 116 :: cb_343_114
noncomputable def cb_343_105 : List Instr := .iload 5 :: .ifCond .ne 116 :: cb_343_107
noncomputable def cb_343_103 : List Instr := .iconst 0 :: .freturn :: cb_343_105
noncomputable def cb_343_82 : List Instr := .aload 1 :: .aload 0 :: .iload 4 :: .iconst 1 :: .iadd :: .faload :: .aload 3 :: .multianewarray 315 7 :: .istore 5 :: .aload 2 :: .aload 0 :: .iload 4 :: .iconst 1 :: .iadd :: .faload :: .invokeinterface 224 76 :: .istore 6 :: .aload 2 :: .invokeinterface 198 12 :: .iload 5 :: .if_icmp .eq 105 :: cb_343_103
noncomputable def cb_343_80 : List Instr := .iconst 0 :: .freturn :: cb_343_82
noncomputable def cb_343_25 : List Instr := .aload 1 :: .aload 0 :: .iload 4 :: .iconst 1 :: .iadd :: .faload :: .aload 0 :: .iload 4 :: .iconst 2 :: .iadd :: .faload :: .aload 0 :: .iload 4 :: .iconst 3 :: .iadd :: .faload :: .aload 0 :: .iload 4 :: .iconst 4 :: .iadd :: .faload :: .aload 0 :: .iload 4 :: .iconst 5 :: .iadd :: .faload :: .invokeinterface 144 331 :: .aload 2 :: .aload 0 :: .iload 4 :: .iconst 1 :: .iadd :: .faload :: .aload 0 :: .iload 4 :: .iconst 2 :: .iadd :: .faload :: .aload 0 :: .iload 4 :: .iconst 3 :: .iadd :: .faload :: .aload 0 :: .iload 4 :: .iconst 4 :: .iadd :: .faload :: .aload 0 :: .iload 4 :: .iconst 5 :: .iadd :: .faload :: .invokeinterface 202 332 :: .if_icmp .eq 1467 :: cb_343_80
noncomputable def cb_343_19 : List Instr := .aload 0 :: .iload 4 :: .faload :: .iconst 63 :: .iand :: .tableswitch 1467 0 39 #[25, 82, 117, 152, 187, 222, 257, 264, 271, 306, 351, 396, 441, 476, 571, 616, 651, 696, 741, 786, 821, 866, 901, 908, 962, 1007, 1014, 1021, 1056, 1130, 1175, 1210, 1255, 1262, 1269, 1334, 1419, 1426, 1433, 1450] :: cb_343_25
noncomputable def cb_343_13 : List Instr := .iload 4 :: .aload 0 :: .arraylength :: .iconst 8 :: .isub :: .if_icmp .gt 1469 :: cb_343_19
noncomputable def cb_343_0 : List Instr := .new 11 :: .dup :: .invokeinterface 143 43 :: .astore 1 :: .new 12 :: .dup :: .invokeinterface 201 44 :: .astore 2 :: .iconst 1 :: .newarray .long :: .astore 3 :: .iconst 0 :: .istore 4 :: cb_343_13
set_option maxRecDepth 100000 in
noncomputable def pg_cd (k : Nat) : List Instr := ([cb_0_0, cb_1_0, cb_2_0, cb_3_0, cb_4_0, cb_5_0, cb_6_0, cb_7_0, cb_8_0, cb_9_0, cb_10_0, cb_11_0, cb_12_0, cb_13_0, cb_14_0, cb_15_0, cb_16_0, cb_17_0, cb_18_0, cb_19_0, cb_20_0, cb_21_0, cb_22_0, cb_23_0, cb_24_0, cb_25_0, cb_26_0, cb_27_0, cb_28_0, cb_29_0, cb_30_0, cb_31_0, cb_32_0, cb_33_0, cb_34_0, cb_35_0, cb_36_0, cb_37_0, cb_38_0, cb_39_0, cb_40_0, cb_41_0, cb_42_0, cb_43_0, cb_44_0, cb_45_0, cb_46_0, cb_47_0, cb_48_0, cb_49_0, cb_50_0, cb_51_0, cb_52_0, cb_53_0, cb_54_0, cb_55_0, cb_56_0, cb_57_0, cb_58_0, cb_59_0, cb_60_0, cb_61_0, cb_62_0, cb_63_0, cb_64_0, cb_65_0, cb_66_0, cb_67_0, cb_68_0, cb_69_0, cb_70_0, cb_71_0, cb_72_0, cb_73_0, cb_74_0, cb_75_0, cb_76_0, cb_77_0, cb_78_0, cb_79_0, cb_80_0, cb_81_0, cb_82_0, cb_83_0, cb_84_0, cb_85_0, cb_86_0, cb_87_0, cb_88_0, cb_89_0, cb_90_0, cb_91_0, cb_92_0, cb_93_0, cb_94_0, cb_95_0, cb_96_0, cb_97_0, cb_98_0, cb_99_0, cb_100_0, cb_101_0, cb_102_0, cb_103_0, cb_104_0, cb_105_0, cb_106_0, cb_107_0, cb_108_0, cb_109_0, cb_110_0, cb_111_0, cb_112_0, cb_113_0, cb_114_0, cb_115_0, cb_116_0, cb_117_0, cb_118_0, cb_119_0, cb_120_0, cb_121_0, cb_122_0, cb_123_0, cb_124_0, cb_125_0, cb_126_0, cb_127_0, cb_128_0, cb_129_0, cb_130_0, cb_131_0, cb_132_0, cb_133_0, cb_134_0, cb_135_0, cb_136_0, cb_137_0, cb_138_0, cb_139_0, cb_140_0, cb_141_0, cb_142_0, cb_143_0, cb_144_0, cb_145_0, cb_146_0, cb_147_0, cb_148_0, cb_149_0, cb_150_0, cb_151_0, cb_152_0, cb_153_0, cb_154_0, cb_155_0, cb_156_0, cb_157_0, cb_158_0, cb_159_0, cb_160_0, cb_161_0, cb_162_0, cb_163_0, cb_164_0, cb_165_0, cb_166_0, cb_167_0, cb_168_0, cb_169_0, cb_170_0, cb_171_0, cb_172_0, cb_173_0, cb_174_0, cb_175_0, cb_176_0, cb_177_0, cb_178_0, cb_179_0, cb_180_0, cb_181_0, cb_182_0, cb_183_0, cb_184_0, cb_185_0, cb_186_0, cb_187_0, cb_188_0, cb_189_0, cb_190_0, cb_191_0, cb_192_0, cb_193_0, cb_194_0, cb_195_0, cb_196_0, cb_197_0, cb_198_0, cb_199_0, cb_200_0, cb_201_0, cb_202_0, cb_203_0, cb_204_0, cb_205_0, cb_206_0, cb_207_0, cb_208_0, cb_209_0, cb_210_0, cb_211_0, cb_212_0, cb_213_0, cb_214_0, cb_215_0, cb_216_0, cb_217_0, cb_218_0, cb_219_0, cb_220_0, cb_221_0, cb_222_0, cb_223_0, cb_224_0, cb_225_0, cb_226_0, cb_227_0, cb_228_0, cb_229_0, cb_230_0, cb_231_0, cb_232_0, cb_233_0, cb_234_0, cb_235_0, cb_236_0, cb_237_0, cb_238_0, cb_239_0, cb_240_0, cb_241_0, cb_242_0, cb_243_0, cb_244_0, cb_245_0, cb_246_0, cb_247_0, cb_248_0, cb_249_0, cb_250_0, cb_251_0, cb_252_0, cb_253_0, cb_254_0, cb_255_0, cb_256_0, cb_257_0, cb_258_0, cb_259_0, cb_260_0, cb_261_0, cb_262_0, cb_263_0, cb_264_0, cb_265_0, cb_266_0, cb_267_0, cb_268_0, cb_269_0, cb_270_0, cb_271_0, cb_272_0, cb_273_0, cb_274_0, cb_275_0, cb_276_0, cb_277_0, cb_278_0, cb_279_0, cb_280_0, cb_281_0, cb_282_0, cb_283_0, cb_284_0, cb_285_0, cb_286_0, cb_287_0, cb_288_0, cb_289_0, cb_290_0, cb_291_0, cb_292_0, cb_293_0, cb_294_0, cb_295_0, cb_296_0, cb_297_0, cb_298_0, cb_299_0, cb_300_0, cb_301_0, cb_302_0, cb_303_0, cb_304_0, cb_305_0, cb_306_0, cb_307_0, cb_308_0, cb_309_0, cb_310_0, cb_311_0, cb_312_0, cb_313_0, cb_314_0, cb_315_0, cb_316_0, cb_317_0, cb_318_0, cb_319_0, cb_320_0, cb_321_0, cb_322_0, cb_323_0, cb_324_0, cb_325_0, cb_326_0, cb_327_0, cb_328_0, cb_329_0, cb_330_0, cb_331_0, cb_332_0, cb_333_0, cb_334_0, cb_335_0, cb_336_0, cb_337_0, cb_338_0, cb_339_0, cb_340_0, cb_341_0, cb_342_0] : List (List Instr)).getD k []
