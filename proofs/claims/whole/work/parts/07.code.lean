/-! ===== THE PLAIN CODE (by wip/whole/mk_prog.py): cb_m_i is the code of method m from instruction i on ===== -/
-- 0: java/lang/Integer.bitCount(I)I
noncomputable def cb_0_0 : List Instr := .iload 0 :: .iload 0 :: .iconst 1 :: .iushr :: .iconst 1431655765 :: .iand :: .isub :: .istore 0 :: .iload 0 :: .iconst 858993459 :: .iand :: .iload 0 :: .iconst 2 :: .iushr :: .iconst 858993459 :: .iand :: .iadd :: .istore 0 :: .iload 0 :: .iload 0 :: .iconst 4 :: .iushr :: .iadd :: .iconst 252645135 :: .iand :: .istore 0 :: .iload 0 :: .iload 0 :: .iconst 8 :: .iushr :: .iadd :: .istore 0 :: .iload 0 :: .iload 0 :: .iconst 16 :: .iushr :: .iadd :: .istore 0 :: .iload 0 :: .iconst 63 :: .iand :: .ireturn :: []
-- 1: java/util/Arrays.fill([JJ)V
noncomputable def cb_1_14 : List Instr := .return_ :: []
noncomputable def cb_1_8 : List Instr := .aload 0 :: .iload 3 :: .lload 1 :: .lastore :: .iinc 3 1 :: .goto 5 :: cb_1_14
noncomputable def cb_1_5 : List Instr := .iload 3 :: .iload 4 :: .if_icmp .ge 14 :: cb_1_8
noncomputable def cb_1_0 : List Instr := .iconst 0 :: .istore 3 :: .aload 0 :: .arraylength :: .istore 4 :: cb_1_5
-- 2: java/util/Arrays.fill([II)V
noncomputable def cb_2_14 : List Instr := .return_ :: []
noncomputable def cb_2_8 : List Instr := .aload 0 :: .iload 2 :: .iload 1 :: .iastore :: .iinc 2 1 :: .goto 5 :: cb_2_14
noncomputable def cb_2_5 : List Instr := .iload 2 :: .iload 3 :: .if_icmp .ge 14 :: cb_2_8
noncomputable def cb_2_0 : List Instr := .iconst 0 :: .istore 2 :: .aload 0 :: .arraylength :: .istore 3 :: cb_2_5
-- 3: jdk/internal/util/Preconditions.checkIndex(IILjava/util/function/BiFunction;)I
noncomputable def cb_3_10 : List Instr := .iload 0 :: .ireturn :: []
noncomputable def cb_3_5 : List Instr := .aload 2 :: .iload 0 :: .iload 1 :: .nop :: .nop :: cb_3_10
noncomputable def cb_3_2 : List Instr := .iload 0 :: .iload 1 :: .if_icmp .lt 10 :: cb_3_5
noncomputable def cb_3_0 : List Instr := .iload 0 :: .ifCond .lt 5 :: cb_3_2
-- 4: java/lang/String.length()I
noncomputable def cb_4_0 : List Instr := .aload 0 :: .checkcast 0 :: .arraylength :: .aload 0 :: .invokevirtual 96 :: .ishr :: .ireturn :: []
-- 5: java/lang/String.charAt(I)C
noncomputable def cb_5_8 : List Instr := .aload 0 :: .checkcast 0 :: .iload 1 :: .nop :: .dreturn :: []
noncomputable def cb_5_3 : List Instr := .aload 0 :: .checkcast 0 :: .iload 1 :: .multianewarray 9 4 :: .dreturn :: cb_5_8
noncomputable def cb_5_0 : List Instr := .aload 0 :: .invokevirtual 112 :: .ifCond .eq 8 :: cb_5_3
-- 6: java/lang/String.coder()B
noncomputable def cb_6_6 : List Instr := .freturn :: []
noncomputable def cb_6_5 : List Instr := .iconst 1 :: cb_6_6
noncomputable def cb_6_2 : List Instr := .aload 0 :: .checkcast 1 :: .goto 6 :: cb_6_5
noncomputable def cb_6_0 : List Instr := .getstatic 0 :: .ifCond .eq 5 :: cb_6_2
-- 7: java/lang/String.isLatin1()Z
noncomputable def cb_7_8 : List Instr := .freturn :: []
noncomputable def cb_7_7 : List Instr := .iconst 0 :: cb_7_8
noncomputable def cb_7_5 : List Instr := .iconst 1 :: .goto 8 :: cb_7_7
noncomputable def cb_7_2 : List Instr := .aload 0 :: .checkcast 1 :: .ifCond .ne 7 :: cb_7_5
noncomputable def cb_7_0 : List Instr := .getstatic 0 :: .ifCond .eq 7 :: cb_7_2
-- 8: java/lang/String.checkIndex(II)V
noncomputable def cb_8_0 : List Instr := .iload 0 :: .iload 1 :: .getstatic 1 :: .multianewarray 3 6 :: .pop :: .return_ :: []
-- 9: java/lang/StringLatin1.charAt([BI)C
noncomputable def cb_9_0 : List Instr := .iload 1 :: .aload 0 :: .arraylength :: .multianewarray 8 4 :: .aload 0 :: .iload 1 :: .baload :: .iconst 255 :: .iand :: .i2c :: .dreturn :: []
-- 10: FogWatch$Tape.<init>()V
noncomputable def cb_10_0 : List Instr := .aload 0 :: .invokespecial 0 :: .aload 0 :: .iconst 600 :: .newarray .byte :: .putfield 1025 :: .aload 0 :: .iconst 0 :: .putfield 1026 :: .aload 0 :: .iconst 0 :: .putfield 1028 :: .aload 0 :: .iconst 0 :: .putfield 1030 :: .aload 0 :: .iconst 0 :: .putfield 1032 :: .aload 0 :: .iconst 0 :: .putfield 1034 :: .aload 0 :: .iconst (-1) :: .putfield 1036 :: .return_ :: []
-- 11: FogWatch$Tape.add(IIIII)I
noncomputable def cb_11_8 : List Instr := .aload 0 :: .iload 1 :: .invokeinterface 12 72 :: .aload 0 :: .iload 2 :: .invokeinterface 12 72 :: .aload 0 :: .iload 3 :: .invokeinterface 12 72 :: .aload 0 :: .iload 4 :: .invokeinterface 12 72 :: .aload 0 :: .iload 5 :: .invokeinterface 12 72 :: .aload 0 :: .getfield 1026 :: .ireturn :: []
noncomputable def cb_11_6 : List Instr := .iconst (-1) :: .ireturn :: cb_11_8
noncomputable def cb_11_0 : List Instr := .aload 0 :: .getfield 1026 :: .iconst 20 :: .iadd :: .iconst 600 :: .if_icmp .le 8 :: cb_11_6
-- 12: FogWatch$Tape.addNumber(I)V
noncomputable def cb_12_30 : List Instr := .return_ :: []
noncomputable def cb_12_28 : List Instr := .iinc 2 (-8) :: .goto 2 :: cb_12_30
noncomputable def cb_12_13 : List Instr := .aload 0 :: .getfield 1025 :: .aload 0 :: .getfield 1026 :: .iload 1 :: .iload 2 :: .ishr :: .i2b :: .bastore :: .aload 0 :: .dup :: .getfield 1026 :: .iconst 1 :: .iadd :: .putfield 1026 :: cb_12_28
noncomputable def cb_12_7 : List Instr := .aload 0 :: .getfield 1026 :: .aload 0 :: .getfield 1025 :: .arraylength :: .if_icmp .ge 28 :: cb_12_13
noncomputable def cb_12_4 : List Instr := .aload 0 :: .getfield 1026 :: .ifCond .lt 28 :: cb_12_7
noncomputable def cb_12_2 : List Instr := .iload 2 :: .ifCond .lt 30 :: cb_12_4
noncomputable def cb_12_0 : List Instr := .iconst 24 :: .istore 2 :: cb_12_2
-- 13: FogWatch$Tape.open(I)V
noncomputable def cb_13_0 : List Instr := .aload 0 :: .iload 1 :: .putfield 1028 :: .aload 0 :: .iconst 0 :: .putfield 1030 :: .aload 0 :: .iconst 0 :: .putfield 1032 :: .aload 0 :: .iconst 0 :: .putfield 1034 :: .aload 0 :: .iconst (-1) :: .putfield 1036 :: .aload 0 :: .iconst 0 :: .putfield 1026 :: .return_ :: []
-- 14: FogWatch$Tape.isSound()Z
noncomputable def cb_14_6 : List Instr := .freturn :: []
noncomputable def cb_14_5 : List Instr := .iconst 0 :: cb_14_6
noncomputable def cb_14_3 : List Instr := .iconst 1 :: .goto 6 :: cb_14_5
noncomputable def cb_14_0 : List Instr := .aload 0 :: .getfield 1034 :: .ifCond .ne 5 :: cb_14_3
-- 15: FogWatch$Tape.refuse(II)V
noncomputable def cb_15_9 : List Instr := .return_ :: []
noncomputable def cb_15_3 : List Instr := .aload 0 :: .iload 1 :: .putfield 1034 :: .aload 0 :: .iload 2 :: .putfield 1036 :: cb_15_9
noncomputable def cb_15_0 : List Instr := .aload 0 :: .getfield 1034 :: .ifCond .ne 9 :: cb_15_3
-- 16: FogWatch$Tape.byteAt(I)I
noncomputable def cb_16_19 : List Instr := .ireturn :: []
noncomputable def cb_16_18 : List Instr := .iconst (-1) :: cb_16_19
noncomputable def cb_16_11 : List Instr := .aload 0 :: .getfield 1025 :: .iload 1 :: .baload :: .iconst 255 :: .iand :: .goto 19 :: cb_16_18
noncomputable def cb_16_6 : List Instr := .iload 1 :: .aload 0 :: .getfield 1025 :: .arraylength :: .if_icmp .ge 18 :: cb_16_11
noncomputable def cb_16_2 : List Instr := .iload 1 :: .aload 0 :: .getfield 1028 :: .if_icmp .ge 18 :: cb_16_6
noncomputable def cb_16_0 : List Instr := .iload 1 :: .ifCond .lt 18 :: cb_16_2
-- 17: FogWatch$Tape.peek()I
noncomputable def cb_17_44 : List Instr := .ireturn :: []
noncomputable def cb_17_43 : List Instr := .iconst (-1) :: cb_17_44
noncomputable def cb_17_35 : List Instr := .aload 0 :: .getfield 1025 :: .aload 0 :: .getfield 1030 :: .baload :: .iconst 255 :: .iand :: .goto 44 :: cb_17_43
noncomputable def cb_17_31 : List Instr := .aload 0 :: .getfield 1030 :: .iload 1 :: .if_icmp .ge 43 :: cb_17_35
noncomputable def cb_17_24 : List Instr := .aload 0 :: .iload 2 :: .iconst 1 :: .iadd :: .putfield 1030 :: .iinc 2 1 :: .goto 15 :: cb_17_31
noncomputable def cb_17_18 : List Instr := .aload 0 :: .getfield 1025 :: .iload 2 :: .baload :: .iconst 32 :: .if_icmp .ne 31 :: cb_17_24
noncomputable def cb_17_15 : List Instr := .iload 2 :: .iload 1 :: .if_icmp .ge 31 :: cb_17_18
noncomputable def cb_17_5 : List Instr := .aload 0 :: .getfield 1028 :: .aload 0 :: .getfield 1025 :: .arraylength :: .invokedynamic 1 :: .istore 1 :: .aload 0 :: .getfield 1030 :: .istore 2 :: cb_17_15
noncomputable def cb_17_3 : List Instr := .iconst (-1) :: .ireturn :: cb_17_5
noncomputable def cb_17_0 : List Instr := .aload 0 :: .getfield 1034 :: .ifCond .eq 5 :: cb_17_3
-- 18: FogWatch$Tape.pass()V
noncomputable def cb_18_0 : List Instr := .aload 0 :: .dup :: .getfield 1030 :: .iconst 1 :: .iadd :: .putfield 1030 :: .return_ :: []
-- 19: FogWatch$Tape.isAtEnd()Z
noncomputable def cb_19_7 : List Instr := .freturn :: []
noncomputable def cb_19_6 : List Instr := .iconst 0 :: cb_19_7
noncomputable def cb_19_4 : List Instr := .iconst 1 :: .goto 7 :: cb_19_6
noncomputable def cb_19_0 : List Instr := .aload 0 :: .invokeinterface 17 8 :: .iconst (-1) :: .if_icmp .ne 6 :: cb_19_4
-- 20: FogWatch$Tape.readSign(I)V
noncomputable def cb_20_16 : List Instr := .return_ :: []
noncomputable def cb_20_11 : List Instr := .aload 0 :: .iconst 1 :: .aload 0 :: .getfield 1030 :: .invokeinterface 15 136 :: cb_20_16
noncomputable def cb_20_4 : List Instr := .aload 0 :: .dup :: .getfield 1030 :: .iconst 1 :: .iadd :: .putfield 1030 :: .goto 16 :: cb_20_11
noncomputable def cb_20_0 : List Instr := .aload 0 :: .invokeinterface 17 8 :: .iload 1 :: .if_icmp .ne 11 :: cb_20_4
-- 21: FogWatch$Tape.readWord()V
noncomputable def cb_21_26 : List Instr := .return_ :: []
noncomputable def cb_21_18 : List Instr := .aload 0 :: .dup :: .getfield 1030 :: .iconst 1 :: .iadd :: .putfield 1030 :: .iinc 1 1 :: .goto 9 :: cb_21_26
noncomputable def cb_21_12 : List Instr := .aload 0 :: .aload 0 :: .getfield 1030 :: .invokeinterface 16 72 :: .multianewarray 25 2 :: .ifCond .eq 26 :: cb_21_18
noncomputable def cb_21_9 : List Instr := .iload 1 :: .iconst 600 :: .if_icmp .ge 26 :: cb_21_12
noncomputable def cb_21_0 : List Instr := .aload 0 :: .invokeinterface 17 8 :: .pop :: .aload 0 :: .aload 0 :: .getfield 1030 :: .putfield 1032 :: .iconst 0 :: .istore 1 :: cb_21_9
-- 22: FogWatch$Tape.wordIs(Ljava/lang/String;)Z
noncomputable def cb_22_43 : List Instr := .iconst 1 :: .freturn :: []
noncomputable def cb_22_41 : List Instr := .iinc 2 1 :: .goto 15 :: cb_22_43
noncomputable def cb_22_39 : List Instr := .iconst 0 :: .freturn :: cb_22_41
noncomputable def cb_22_31 : List Instr := .aload 0 :: .getfield 1025 :: .iload 3 :: .baload :: .aload 1 :: .iload 2 :: .invokevirtual 81 :: .if_icmp .eq 41 :: cb_22_39
noncomputable def cb_22_26 : List Instr := .iload 3 :: .aload 0 :: .getfield 1025 :: .arraylength :: .if_icmp .ge 39 :: cb_22_31
noncomputable def cb_22_19 : List Instr := .aload 0 :: .getfield 1032 :: .iload 2 :: .iadd :: .istore 3 :: .iload 3 :: .ifCond .lt 39 :: cb_22_26
noncomputable def cb_22_15 : List Instr := .iload 2 :: .aload 1 :: .invokevirtual 64 :: .if_icmp .ge 43 :: cb_22_19
noncomputable def cb_22_13 : List Instr := .iconst 0 :: .istore 2 :: cb_22_15
noncomputable def cb_22_11 : List Instr := .iconst 0 :: .freturn :: cb_22_13
noncomputable def cb_22_3 : List Instr := .aload 0 :: .getfield 1030 :: .aload 0 :: .getfield 1032 :: .isub :: .aload 1 :: .invokevirtual 64 :: .if_icmp .eq 13 :: cb_22_11
noncomputable def cb_22_0 : List Instr := .aload 0 :: .getfield 1034 :: .ifCond .ne 11 :: cb_22_3
-- 23: FogWatch$Tape.readNumber(II)I
noncomputable def cb_23_62 : List Instr := .iload 3 :: .ireturn :: []
noncomputable def cb_23_55 : List Instr := .aload 0 :: .iconst 2 :: .aload 0 :: .getfield 1032 :: .invokeinterface 15 136 :: .iconst (-1) :: .ireturn :: cb_23_62
noncomputable def cb_23_52 : List Instr := .iload 3 :: .iload 2 :: .if_icmp .le 62 :: cb_23_55
noncomputable def cb_23_49 : List Instr := .iload 3 :: .iload 1 :: .if_icmp .lt 55 :: cb_23_52
noncomputable def cb_23_28 : List Instr := .iload 3 :: .iconst 10 :: .imul :: .aload 0 :: .aload 0 :: .getfield 1030 :: .invokeinterface 16 72 :: .iadd :: .iconst 48 :: .isub :: .iconst 10000 :: .invokedynamic 1 :: .istore 3 :: .aload 0 :: .dup :: .getfield 1030 :: .iconst 1 :: .iadd :: .putfield 1030 :: .iinc 4 1 :: .goto 19 :: cb_23_49
noncomputable def cb_23_22 : List Instr := .aload 0 :: .aload 0 :: .getfield 1030 :: .invokeinterface 16 72 :: .multianewarray 24 2 :: .ifCond .eq 49 :: cb_23_28
noncomputable def cb_23_19 : List Instr := .iload 4 :: .iconst 600 :: .if_icmp .ge 49 :: cb_23_22
noncomputable def cb_23_11 : List Instr := .aload 0 :: .aload 0 :: .getfield 1030 :: .putfield 1032 :: .iconst 0 :: .istore 3 :: .iconst 0 :: .istore 4 :: cb_23_19
noncomputable def cb_23_4 : List Instr := .aload 0 :: .iconst 1 :: .aload 0 :: .getfield 1030 :: .invokeinterface 15 136 :: .iconst (-1) :: .ireturn :: cb_23_11
noncomputable def cb_23_0 : List Instr := .aload 0 :: .invokeinterface 17 8 :: .multianewarray 24 2 :: .ifCond .ne 11 :: cb_23_4
-- 24: FogWatch$Tape.isDigit(I)Z
noncomputable def cb_24_9 : List Instr := .freturn :: []
noncomputable def cb_24_8 : List Instr := .iconst 0 :: cb_24_9
noncomputable def cb_24_6 : List Instr := .iconst 1 :: .goto 9 :: cb_24_8
noncomputable def cb_24_3 : List Instr := .iload 0 :: .iconst 57 :: .if_icmp .gt 8 :: cb_24_6
noncomputable def cb_24_0 : List Instr := .iload 0 :: .iconst 48 :: .if_icmp .lt 8 :: cb_24_3
-- 25: FogWatch$Tape.isSmallLetter(I)Z
noncomputable def cb_25_9 : List Instr := .freturn :: []
noncomputable def cb_25_8 : List Instr := .iconst 0 :: cb_25_9
noncomputable def cb_25_6 : List Instr := .iconst 1 :: .goto 9 :: cb_25_8
noncomputable def cb_25_3 : List Instr := .iload 0 :: .iconst 122 :: .if_icmp .gt 8 :: cb_25_6
noncomputable def cb_25_0 : List Instr := .iload 0 :: .iconst 97 :: .if_icmp .lt 8 :: cb_25_3
-- 26: FogWatch$Law.<init>()V
noncomputable def cb_26_0 : List Instr := .aload 0 :: .invokespecial 0 :: .aload 0 :: .iconst 150 :: .newarray .int :: .putfield 129 :: .aload 0 :: .iconst 150 :: .newarray .int :: .putfield 131 :: .aload 0 :: .iconst 150 :: .newarray .int :: .putfield 133 :: .aload 0 :: .iconst 7 :: .newarray .int :: .putfield 135 :: .aload 0 :: .iconst 0 :: .putfield 136 :: .aload 0 :: .invokeinterface 27 1 :: .return_ :: []
-- 27: FogWatch$Law.useCommon()V
noncomputable def cb_27_0 : List Instr := .aload 0 :: .iconst 0 :: .putfield 136 :: .aload 0 :: .iconst 0 :: .iconst 1 :: .invokeinterface 28 129 :: .aload 0 :: .iconst 1 :: .iconst 2 :: .invokeinterface 28 129 :: .aload 0 :: .iconst 2 :: .iconst 0 :: .invokeinterface 28 129 :: .return_ :: []
-- 28: FogWatch$Law.put(II)V
noncomputable def cb_28_33 : List Instr := .return_ :: []
noncomputable def cb_28_15 : List Instr := .aload 0 :: .getfield 129 :: .aload 0 :: .getfield 136 :: .iload 1 :: .iastore :: .aload 0 :: .getfield 131 :: .aload 0 :: .getfield 136 :: .iload 2 :: .iastore :: .aload 0 :: .dup :: .getfield 136 :: .iconst 1 :: .iadd :: .putfield 136 :: cb_28_33
noncomputable def cb_28_9 : List Instr := .aload 0 :: .getfield 136 :: .aload 0 :: .getfield 131 :: .arraylength :: .if_icmp .ge 33 :: cb_28_15
noncomputable def cb_28_3 : List Instr := .aload 0 :: .getfield 136 :: .aload 0 :: .getfield 129 :: .arraylength :: .if_icmp .ge 33 :: cb_28_9
noncomputable def cb_28_0 : List Instr := .aload 0 :: .getfield 136 :: .ifCond .lt 33 :: cb_28_3
-- 29: FogWatch$Law.read(LFogWatch$Tape;)Z
noncomputable def cb_29_15 : List Instr := .aload 1 :: .invokeinterface 14 8 :: .freturn :: []
noncomputable def cb_29_10 : List Instr := .aload 1 :: .iconst 1 :: .aload 1 :: .getfield 1030 :: .invokeinterface 15 136 :: cb_29_15
noncomputable def cb_29_0 : List Instr := .aload 0 :: .iconst 0 :: .putfield 136 :: .aload 0 :: .aload 1 :: .iconst 0 :: .invokeinterface 30 129 :: .aload 1 :: .invokeinterface 19 8 :: .ifCond .ne 15 :: cb_29_10
-- 30: FogWatch$Law.readSum(LFogWatch$Tape;I)V
noncomputable def cb_30_36 : List Instr := .return_ :: []
noncomputable def cb_30_32 : List Instr := .iconst 0 :: .invokeinterface 28 129 :: .iinc 3 1 :: .goto 6 :: cb_30_36
noncomputable def cb_30_31 : List Instr := .iconst 3 :: cb_30_32
noncomputable def cb_30_29 : List Instr := .iconst 2 :: .goto 32 :: cb_30_31
noncomputable def cb_30_19 : List Instr := .aload 1 :: .invokeinterface 18 8 :: .aload 0 :: .aload 1 :: .iload 2 :: .invokeinterface 31 129 :: .aload 0 :: .iload 4 :: .iconst 43 :: .if_icmp .ne 31 :: cb_30_29
noncomputable def cb_30_18 : List Instr := .return_ :: cb_30_19
noncomputable def cb_30_15 : List Instr := .iload 4 :: .iconst 45 :: .if_icmp .eq 19 :: cb_30_18
noncomputable def cb_30_9 : List Instr := .aload 1 :: .invokeinterface 17 8 :: .istore 4 :: .iload 4 :: .iconst 43 :: .if_icmp .eq 19 :: cb_30_15
noncomputable def cb_30_6 : List Instr := .iload 3 :: .iconst 150 :: .if_icmp .ge 36 :: cb_30_9
noncomputable def cb_30_0 : List Instr := .aload 0 :: .aload 1 :: .iload 2 :: .invokeinterface 31 129 :: .iconst 0 :: .istore 3 :: cb_30_6
-- 31: FogWatch$Law.readProduct(LFogWatch$Tape;I)V
noncomputable def cb_31_44 : List Instr := .return_ :: []
noncomputable def cb_31_40 : List Instr := .iconst 0 :: .invokeinterface 28 129 :: .iinc 3 1 :: .goto 6 :: cb_31_44
noncomputable def cb_31_39 : List Instr := .iconst 6 :: cb_31_40
noncomputable def cb_31_37 : List Instr := .iconst 5 :: .goto 40 :: cb_31_39
noncomputable def cb_31_34 : List Instr := .iload 4 :: .iconst 47 :: .if_icmp .ne 39 :: cb_31_37
noncomputable def cb_31_32 : List Instr := .iconst 4 :: .goto 40 :: cb_31_34
noncomputable def cb_31_22 : List Instr := .aload 1 :: .invokeinterface 18 8 :: .aload 0 :: .aload 1 :: .iload 2 :: .invokeinterface 32 129 :: .aload 0 :: .iload 4 :: .iconst 42 :: .if_icmp .ne 34 :: cb_31_32
noncomputable def cb_31_21 : List Instr := .return_ :: cb_31_22
noncomputable def cb_31_18 : List Instr := .iload 4 :: .iconst 37 :: .if_icmp .eq 22 :: cb_31_21
noncomputable def cb_31_15 : List Instr := .iload 4 :: .iconst 47 :: .if_icmp .eq 22 :: cb_31_18
noncomputable def cb_31_9 : List Instr := .aload 1 :: .invokeinterface 17 8 :: .istore 4 :: .iload 4 :: .iconst 42 :: .if_icmp .eq 22 :: cb_31_15
noncomputable def cb_31_6 : List Instr := .iload 3 :: .iconst 150 :: .if_icmp .ge 44 :: cb_31_9
noncomputable def cb_31_0 : List Instr := .aload 0 :: .aload 1 :: .iload 2 :: .invokeinterface 32 129 :: .iconst 0 :: .istore 3 :: cb_31_6
-- 32: FogWatch$Law.readUnit(LFogWatch$Tape;I)V
noncomputable def cb_32_42 : List Instr := .return_ :: []
noncomputable def cb_32_31 : List Instr := .aload 1 :: .invokeinterface 18 8 :: .aload 0 :: .aload 1 :: .iload 2 :: .iconst 1 :: .iadd :: .invokeinterface 30 129 :: .aload 1 :: .iconst 41 :: .invokeinterface 20 72 :: cb_32_42
noncomputable def cb_32_25 : List Instr := .aload 1 :: .iconst 3 :: .aload 1 :: .getfield 1030 :: .invokeinterface 15 136 :: .goto 42 :: cb_32_31
noncomputable def cb_32_22 : List Instr := .iload 2 :: .iconst 6 :: .if_icmp .lt 31 :: cb_32_25
noncomputable def cb_32_17 : List Instr := .aload 0 :: .aload 1 :: .iload 2 :: .invokeinterface 33 129 :: .goto 42 :: cb_32_22
noncomputable def cb_32_14 : List Instr := .iload 3 :: .iconst 40 :: .if_icmp .eq 22 :: cb_32_17
noncomputable def cb_32_6 : List Instr := .aload 0 :: .iconst 0 :: .aload 1 :: .iconst 0 :: .iconst 999 :: .invokeinterface 23 136 :: .invokeinterface 28 129 :: .goto 42 :: cb_32_14
noncomputable def cb_32_0 : List Instr := .aload 1 :: .invokeinterface 17 8 :: .istore 3 :: .iload 3 :: .multianewarray 24 2 :: .ifCond .eq 14 :: cb_32_6
-- 33: FogWatch$Law.readNamed(LFogWatch$Tape;I)V
noncomputable def cb_33_67 : List Instr := .return_ :: []
noncomputable def cb_33_65 : List Instr := .iconst 0 :: .invokeinterface 28 129 :: cb_33_67
noncomputable def cb_33_64 : List Instr := .iconst 8 :: cb_33_65
noncomputable def cb_33_62 : List Instr := .iconst 7 :: .goto 65 :: cb_33_64
noncomputable def cb_33_38 : List Instr := .aload 1 :: .iconst 91 :: .invokeinterface 20 72 :: .aload 0 :: .aload 1 :: .iload 2 :: .iconst 1 :: .iadd :: .invokeinterface 30 129 :: .aload 1 :: .iconst 44 :: .invokeinterface 20 72 :: .aload 0 :: .aload 1 :: .iload 2 :: .iconst 1 :: .iadd :: .invokeinterface 30 129 :: .aload 1 :: .iconst 93 :: .invokeinterface 20 72 :: .aload 0 :: .iload 4 :: .ifCond .eq 64 :: cb_33_62
noncomputable def cb_33_32 : List Instr := .aload 1 :: .iconst 3 :: .aload 1 :: .getfield 1032 :: .invokeinterface 15 136 :: .goto 67 :: cb_33_38
noncomputable def cb_33_29 : List Instr := .iload 2 :: .iconst 6 :: .if_icmp .lt 38 :: cb_33_32
noncomputable def cb_33_23 : List Instr := .aload 1 :: .iconst 1 :: .aload 1 :: .getfield 1032 :: .invokeinterface 15 136 :: .goto 67 :: cb_33_29
noncomputable def cb_33_19 : List Instr := .aload 1 :: .ldc 12 :: .invokeinterface 22 72 :: .ifCond .ne 29 :: cb_33_23
noncomputable def cb_33_17 : List Instr := .iload 4 :: .ifCond .ne 29 :: cb_33_19
noncomputable def cb_33_12 : List Instr := .aload 0 :: .iconst 1 :: .iload 3 :: .invokeinterface 28 129 :: .goto 67 :: cb_33_17
noncomputable def cb_33_0 : List Instr := .aload 1 :: .invokeinterface 21 8 :: .aload 1 :: .multianewarray 34 2 :: .istore 3 :: .aload 1 :: .ldc 11 :: .invokeinterface 22 72 :: .istore 4 :: .iload 3 :: .iconst (-1) :: .if_icmp .eq 17 :: cb_33_12
-- 34: FogWatch$Law.factOf(LFogWatch$Tape;)I
noncomputable def cb_34_43 : List Instr := .ireturn :: []
noncomputable def cb_34_42 : List Instr := .iconst (-1) :: cb_34_43
noncomputable def cb_34_40 : List Instr := .iconst 6 :: .goto 43 :: cb_34_42
noncomputable def cb_34_36 : List Instr := .aload 0 :: .ldc 4 :: .invokeinterface 22 72 :: .ifCond .eq 42 :: cb_34_40
noncomputable def cb_34_34 : List Instr := .iconst 5 :: .ireturn :: cb_34_36
noncomputable def cb_34_30 : List Instr := .aload 0 :: .ldc 10 :: .invokeinterface 22 72 :: .ifCond .eq 36 :: cb_34_34
noncomputable def cb_34_28 : List Instr := .iconst 4 :: .ireturn :: cb_34_30
noncomputable def cb_34_24 : List Instr := .aload 0 :: .ldc 9 :: .invokeinterface 22 72 :: .ifCond .eq 30 :: cb_34_28
noncomputable def cb_34_22 : List Instr := .iconst 3 :: .ireturn :: cb_34_24
noncomputable def cb_34_18 : List Instr := .aload 0 :: .ldc 8 :: .invokeinterface 22 72 :: .ifCond .eq 24 :: cb_34_22
noncomputable def cb_34_16 : List Instr := .iconst 2 :: .ireturn :: cb_34_18
noncomputable def cb_34_12 : List Instr := .aload 0 :: .ldc 7 :: .invokeinterface 22 72 :: .ifCond .eq 18 :: cb_34_16
noncomputable def cb_34_10 : List Instr := .iconst 1 :: .ireturn :: cb_34_12
noncomputable def cb_34_6 : List Instr := .aload 0 :: .ldc 6 :: .invokeinterface 22 72 :: .ifCond .eq 12 :: cb_34_10
noncomputable def cb_34_4 : List Instr := .iconst 0 :: .ireturn :: cb_34_6
noncomputable def cb_34_0 : List Instr := .aload 0 :: .ldc 5 :: .invokeinterface 22 72 :: .ifCond .eq 6 :: cb_34_4
-- 35: FogWatch$Law.price(IIIIIII)I
noncomputable def cb_35_0 : List Instr := .aload 0 :: .getfield 135 :: .iconst 0 :: .iload 1 :: .iastore :: .aload 0 :: .getfield 135 :: .iconst 1 :: .iload 2 :: .iastore :: .aload 0 :: .getfield 135 :: .iconst 2 :: .iload 3 :: .iastore :: .aload 0 :: .getfield 135 :: .iconst 3 :: .iload 4 :: .iastore :: .aload 0 :: .getfield 135 :: .iconst 4 :: .iload 5 :: .iastore :: .aload 0 :: .getfield 135 :: .iconst 5 :: .iload 6 :: .iastore :: .aload 0 :: .getfield 135 :: .iconst 6 :: .iload 7 :: .iastore :: .iconst 0 :: .iconst 60 :: .aload 0 :: .invokeinterface 36 1 :: .invokedynamic 1 :: .invokedynamic 0 :: .ireturn :: []
-- 36: FogWatch$Law.workOut()I
noncomputable def cb_36_88 : List Instr := .aload 0 :: .getfield 133 :: .iconst 0 :: .iaload :: .ireturn :: []
noncomputable def cb_36_86 : List Instr := .iinc 2 1 :: .goto 4 :: cb_36_88
noncomputable def cb_36_64 : List Instr := .iinc 1 (-1) :: .aload 0 :: .getfield 133 :: .iload 1 :: .iconst 1 :: .isub :: .aload 0 :: .getfield 129 :: .iload 2 :: .iaload :: .aload 0 :: .getfield 133 :: .iload 1 :: .iconst 1 :: .isub :: .iaload :: .aload 0 :: .getfield 133 :: .iload 1 :: .iaload :: .multianewarray 38 6 :: .iastore :: cb_36_86
noncomputable def cb_36_59 : List Instr := .iload 1 :: .aload 0 :: .getfield 133 :: .arraylength :: .if_icmp .gt 86 :: cb_36_64
noncomputable def cb_36_56 : List Instr := .iload 1 :: .iconst 2 :: .if_icmp .lt 86 :: cb_36_59
noncomputable def cb_36_53 : List Instr := .iastore :: .iinc 1 1 :: .goto 86 :: cb_36_56
noncomputable def cb_36_47 : List Instr := .aload 0 :: .aload 0 :: .getfield 131 :: .iload 2 :: .iaload :: .invokeinterface 37 65 :: cb_36_53
noncomputable def cb_36_42 : List Instr := .aload 0 :: .getfield 131 :: .iload 2 :: .iaload :: .goto 53 :: cb_36_47
noncomputable def cb_36_34 : List Instr := .aload 0 :: .getfield 133 :: .iload 1 :: .aload 0 :: .getfield 129 :: .iload 2 :: .iaload :: .ifCond .ne 47 :: cb_36_42
noncomputable def cb_36_29 : List Instr := .iload 1 :: .aload 0 :: .getfield 133 :: .arraylength :: .if_icmp .ge 86 :: cb_36_34
noncomputable def cb_36_23 : List Instr := .aload 0 :: .getfield 129 :: .iload 2 :: .iaload :: .iconst 1 :: .if_icmp .ne 56 :: cb_36_29
noncomputable def cb_36_18 : List Instr := .aload 0 :: .getfield 129 :: .iload 2 :: .iaload :: .ifCond .eq 29 :: cb_36_23
noncomputable def cb_36_13 : List Instr := .iload 2 :: .aload 0 :: .getfield 131 :: .arraylength :: .if_icmp .ge 88 :: cb_36_18
noncomputable def cb_36_8 : List Instr := .iload 2 :: .aload 0 :: .getfield 129 :: .arraylength :: .if_icmp .ge 88 :: cb_36_13
noncomputable def cb_36_4 : List Instr := .iload 2 :: .aload 0 :: .getfield 136 :: .if_icmp .ge 88 :: cb_36_8
noncomputable def cb_36_0 : List Instr := .iconst 0 :: .istore 1 :: .iconst 0 :: .istore 2 :: cb_36_4
-- 37: FogWatch$Law.fact(I)I
noncomputable def cb_37_13 : List Instr := .ireturn :: []
noncomputable def cb_37_12 : List Instr := .iconst 0 :: cb_37_13
noncomputable def cb_37_7 : List Instr := .aload 0 :: .getfield 135 :: .iload 1 :: .iaload :: .goto 13 :: cb_37_12
noncomputable def cb_37_2 : List Instr := .iload 1 :: .aload 0 :: .getfield 135 :: .arraylength :: .if_icmp .ge 12 :: cb_37_7
noncomputable def cb_37_0 : List Instr := .iload 1 :: .ifCond .lt 12 :: cb_37_2
-- 38: FogWatch$Law.join(III)I
noncomputable def cb_38_43 : List Instr := .ireturn :: []
noncomputable def cb_38_42 : List Instr := .iload 2 :: cb_38_43
noncomputable def cb_38_40 : List Instr := .iload 1 :: .goto 43 :: cb_38_42
noncomputable def cb_38_37 : List Instr := .iload 1 :: .iload 2 :: .if_icmp .le 42 :: cb_38_40
noncomputable def cb_38_36 : List Instr := .ireturn :: cb_38_37
noncomputable def cb_38_35 : List Instr := .iload 2 :: cb_38_36
noncomputable def cb_38_33 : List Instr := .iload 1 :: .goto 36 :: cb_38_35
noncomputable def cb_38_30 : List Instr := .iload 1 :: .iload 2 :: .if_icmp .ge 35 :: cb_38_33
noncomputable def cb_38_29 : List Instr := .ireturn :: cb_38_30
noncomputable def cb_38_26 : List Instr := .iload 1 :: .iload 2 :: .irem :: cb_38_29
noncomputable def cb_38_24 : List Instr := .iconst 0 :: .goto 29 :: cb_38_26
noncomputable def cb_38_22 : List Instr := .iload 2 :: .ifCond .ne 26 :: cb_38_24
noncomputable def cb_38_21 : List Instr := .ireturn :: cb_38_22
noncomputable def cb_38_18 : List Instr := .iload 1 :: .iload 2 :: .idiv :: cb_38_21
noncomputable def cb_38_16 : List Instr := .iconst 0 :: .goto 21 :: cb_38_18
noncomputable def cb_38_14 : List Instr := .iload 2 :: .ifCond .ne 18 :: cb_38_16
noncomputable def cb_38_10 : List Instr := .iload 1 :: .iload 2 :: .imul :: .ireturn :: cb_38_14
noncomputable def cb_38_6 : List Instr := .iload 1 :: .iload 2 :: .isub :: .ireturn :: cb_38_10
noncomputable def cb_38_2 : List Instr := .iload 1 :: .iload 2 :: .iadd :: .ireturn :: cb_38_6
noncomputable def cb_38_0 : List Instr := .iload 0 :: .tableswitch 37 2 7 #[2, 6, 10, 14, 22, 30] :: cb_38_2
-- 39: FogWatch$Town.<init>()V
noncomputable def cb_39_0 : List Instr := .aload 0 :: .invokespecial 0 :: .aload 0 :: .iconst 0 :: .putfield 1152 :: .aload 0 :: .iconst 0 :: .putfield 1154 :: .aload 0 :: .iconst 60 :: .putfield 1156 :: .aload 0 :: .iconst 10 :: .newarray .int :: .putfield 1159 :: .aload 0 :: .iconst 40 :: .newarray .int :: .putfield 1161 :: .aload 0 :: .iconst 5 :: .newarray .int :: .putfield 1163 :: .return_ :: []
-- 40: FogWatch$Town.bellOf(I)I
noncomputable def cb_40_13 : List Instr := .ireturn :: []
noncomputable def cb_40_12 : List Instr := .iconst 0 :: cb_40_13
noncomputable def cb_40_7 : List Instr := .aload 0 :: .getfield 1159 :: .iload 1 :: .iaload :: .goto 13 :: cb_40_12
noncomputable def cb_40_2 : List Instr := .iload 1 :: .aload 0 :: .getfield 1159 :: .arraylength :: .if_icmp .ge 12 :: cb_40_7
noncomputable def cb_40_0 : List Instr := .iload 1 :: .ifCond .lt 12 :: cb_40_2
-- 41: FogWatch$Town.leadsTo(II)I
noncomputable def cb_41_19 : List Instr := .ireturn :: []
noncomputable def cb_41_18 : List Instr := .iconst 0 :: cb_41_19
noncomputable def cb_41_13 : List Instr := .aload 0 :: .getfield 1161 :: .iload 3 :: .iaload :: .goto 19 :: cb_41_18
noncomputable def cb_41_8 : List Instr := .iload 3 :: .aload 0 :: .getfield 1161 :: .arraylength :: .if_icmp .ge 18 :: cb_41_13
noncomputable def cb_41_0 : List Instr := .iload 2 :: .iconst 10 :: .imul :: .iload 1 :: .iadd :: .istore 3 :: .iload 3 :: .ifCond .lt 18 :: cb_41_8
-- 42: FogWatch$Town.startOf(I)I
noncomputable def cb_42_13 : List Instr := .ireturn :: []
noncomputable def cb_42_12 : List Instr := .iconst 0 :: cb_42_13
noncomputable def cb_42_7 : List Instr := .aload 0 :: .getfield 1163 :: .iload 1 :: .iaload :: .goto 13 :: cb_42_12
noncomputable def cb_42_2 : List Instr := .iload 1 :: .aload 0 :: .getfield 1163 :: .arraylength :: .if_icmp .ge 12 :: cb_42_7
noncomputable def cb_42_0 : List Instr := .iload 1 :: .ifCond .lt 12 :: cb_42_2
-- 43: FogWatch$Town.drift(II)I
noncomputable def cb_43_5 : List Instr := .iload 2 :: .aload 0 :: .getfield 1152 :: .irem :: .istore 3 :: .iload 1 :: .iload 3 :: .ishl :: .iload 1 :: .aload 0 :: .getfield 1152 :: .iload 3 :: .isub :: .ishr :: .ior :: .iconst 1 :: .aload 0 :: .getfield 1152 :: .ishl :: .iconst 1 :: .isub :: .iand :: .ireturn :: []
noncomputable def cb_43_3 : List Instr := .iconst 0 :: .ireturn :: cb_43_5
noncomputable def cb_43_0 : List Instr := .aload 0 :: .getfield 1152 :: .ifCond .gt 5 :: cb_43_3
-- 44: FogWatch$Town.read(LFogWatch$Tape;)Z
noncomputable def cb_44_31 : List Instr := .aload 1 :: .invokeinterface 14 8 :: .freturn :: []
noncomputable def cb_44_25 : List Instr := .invokeinterface 45 137 :: .aload 1 :: .iconst 59 :: .invokeinterface 20 72 :: .iinc 2 1 :: .goto 11 :: cb_44_31
noncomputable def cb_44_24 : List Instr := .iconst 0 :: cb_44_25
noncomputable def cb_44_22 : List Instr := .iconst 1 :: .goto 25 :: cb_44_24
noncomputable def cb_44_17 : List Instr := .aload 0 :: .aload 1 :: .iload 2 :: .iconst 60 :: .if_icmp .lt 24 :: cb_44_22
noncomputable def cb_44_14 : List Instr := .aload 1 :: .invokeinterface 19 8 :: .ifCond .ne 31 :: cb_44_17
noncomputable def cb_44_11 : List Instr := .iload 2 :: .iconst 60 :: .if_icmp .gt 31 :: cb_44_14
noncomputable def cb_44_0 : List Instr := .aload 0 :: .iconst 0 :: .putfield 1152 :: .aload 0 :: .iconst 0 :: .putfield 1154 :: .aload 0 :: .iconst 60 :: .putfield 1156 :: .iconst 0 :: .istore 2 :: cb_44_11
-- 45: FogWatch$Town.readClause(LFogWatch$Tape;Z)V
noncomputable def cb_45_61 : List Instr := .return_ :: []
noncomputable def cb_45_55 : List Instr := .aload 0 :: .aload 1 :: .iconst 0 :: .iconst 200 :: .invokeinterface 23 136 :: .putfield 1156 :: cb_45_61
noncomputable def cb_45_45 : List Instr := .aload 0 :: .aload 1 :: .iconst 0 :: .aload 0 :: .getfield 1152 :: .iconst 1 :: .isub :: .invokeinterface 23 136 :: .invokeinterface 50 73 :: .goto 61 :: cb_45_55
noncomputable def cb_45_42 : List Instr := .iload 3 :: .iconst 3 :: .if_icmp .ne 55 :: cb_45_45
noncomputable def cb_45_38 : List Instr := .aload 0 :: .aload 1 :: .invokeinterface 49 73 :: .goto 61 :: cb_45_42
noncomputable def cb_45_35 : List Instr := .iload 3 :: .iconst 2 :: .if_icmp .ne 42 :: cb_45_38
noncomputable def cb_45_28 : List Instr := .aload 0 :: .aload 1 :: .iconst 0 :: .iconst 9 :: .invokeinterface 23 136 :: .invokeinterface 48 73 :: .goto 61 :: cb_45_35
noncomputable def cb_45_25 : List Instr := .iload 3 :: .iconst 1 :: .if_icmp .ne 35 :: cb_45_28
noncomputable def cb_45_19 : List Instr := .aload 1 :: .iconst 3 :: .aload 1 :: .getfield 1032 :: .invokeinterface 15 136 :: .goto 61 :: cb_45_25
noncomputable def cb_45_15 : List Instr := .aload 0 :: .iload 3 :: .invokeinterface 47 73 :: .ifCond .eq 25 :: cb_45_19
noncomputable def cb_45_13 : List Instr := .iload 2 :: .ifCond .ne 19 :: cb_45_15
noncomputable def cb_45_7 : List Instr := .aload 1 :: .iconst 1 :: .aload 1 :: .getfield 1032 :: .invokeinterface 15 136 :: .goto 61 :: cb_45_13
noncomputable def cb_45_0 : List Instr := .aload 1 :: .invokeinterface 21 8 :: .aload 1 :: .multianewarray 46 2 :: .istore 3 :: .iload 3 :: .ifCond .ne 13 :: cb_45_7
-- 46: FogWatch$Town.kindOf(LFogWatch$Tape;)I
noncomputable def cb_46_25 : List Instr := .ireturn :: []
noncomputable def cb_46_24 : List Instr := .iconst 0 :: cb_46_25
noncomputable def cb_46_22 : List Instr := .iconst 4 :: .goto 25 :: cb_46_24
noncomputable def cb_46_18 : List Instr := .aload 0 :: .ldc 4 :: .invokeinterface 22 72 :: .ifCond .eq 24 :: cb_46_22
noncomputable def cb_46_16 : List Instr := .iconst 3 :: .ireturn :: cb_46_18
noncomputable def cb_46_12 : List Instr := .aload 0 :: .ldc 3 :: .invokeinterface 22 72 :: .ifCond .eq 18 :: cb_46_16
noncomputable def cb_46_10 : List Instr := .iconst 2 :: .ireturn :: cb_46_12
noncomputable def cb_46_6 : List Instr := .aload 0 :: .ldc 2 :: .invokeinterface 22 72 :: .ifCond .eq 12 :: cb_46_10
noncomputable def cb_46_4 : List Instr := .iconst 1 :: .ireturn :: cb_46_6
noncomputable def cb_46_0 : List Instr := .aload 0 :: .ldc 1 :: .invokeinterface 22 72 :: .ifCond .eq 6 :: cb_46_4
-- 47: FogWatch$Town.isFullOf(I)Z
noncomputable def cb_47_17 : List Instr := .freturn :: []
noncomputable def cb_47_16 : List Instr := .iconst 0 :: cb_47_17
noncomputable def cb_47_14 : List Instr := .iconst 1 :: .goto 17 :: cb_47_16
noncomputable def cb_47_10 : List Instr := .aload 0 :: .getfield 1154 :: .iconst 5 :: .if_icmp .lt 16 :: cb_47_14
noncomputable def cb_47_7 : List Instr := .iload 1 :: .iconst 3 :: .if_icmp .ne 16 :: cb_47_10
noncomputable def cb_47_3 : List Instr := .aload 0 :: .getfield 1152 :: .iconst 10 :: .if_icmp .ge 14 :: cb_47_7
noncomputable def cb_47_0 : List Instr := .iload 1 :: .iconst 1 :: .if_icmp .ne 7 :: cb_47_3
-- 48: FogWatch$Town.addCorner(I)V
noncomputable def cb_48_31 : List Instr := .aload 0 :: .dup :: .getfield 1152 :: .iconst 1 :: .iadd :: .putfield 1152 :: .return_ :: []
noncomputable def cb_48_18 : List Instr := .aload 0 :: .getfield 1161 :: .iload 2 :: .iconst 10 :: .imul :: .aload 0 :: .getfield 1152 :: .iadd :: .aload 0 :: .getfield 1152 :: .iastore :: .iinc 2 1 :: .goto 15 :: cb_48_31
noncomputable def cb_48_15 : List Instr := .iload 2 :: .iconst 4 :: .if_icmp .ge 31 :: cb_48_18
noncomputable def cb_48_7 : List Instr := .aload 0 :: .getfield 1159 :: .aload 0 :: .getfield 1152 :: .iload 1 :: .iastore :: .iconst 0 :: .istore 2 :: cb_48_15
noncomputable def cb_48_6 : List Instr := .return_ :: cb_48_7
noncomputable def cb_48_0 : List Instr := .aload 0 :: .getfield 1152 :: .aload 0 :: .getfield 1159 :: .arraylength :: .if_icmp .lt 7 :: cb_48_6
-- 49: FogWatch$Town.readWay(LFogWatch$Tape;)V
noncomputable def cb_49_42 : List Instr := .return_ :: []
noncomputable def cb_49_37 : List Instr := .aload 0 :: .getfield 1161 :: .iload 5 :: .iload 4 :: .iastore :: cb_49_42
noncomputable def cb_49_32 : List Instr := .iload 5 :: .aload 0 :: .getfield 1161 :: .arraylength :: .if_icmp .ge 42 :: cb_49_37
noncomputable def cb_49_30 : List Instr := .iload 5 :: .ifCond .lt 42 :: cb_49_32
noncomputable def cb_49_0 : List Instr := .aload 1 :: .iconst 0 :: .iconst 3 :: .invokeinterface 23 136 :: .istore 2 :: .aload 1 :: .iconst 0 :: .aload 0 :: .getfield 1152 :: .iconst 1 :: .isub :: .invokeinterface 23 136 :: .istore 3 :: .aload 1 :: .iconst 0 :: .aload 0 :: .getfield 1152 :: .iconst 1 :: .isub :: .invokeinterface 23 136 :: .istore 4 :: .iload 2 :: .iconst 10 :: .imul :: .iload 3 :: .iadd :: .istore 5 :: .aload 1 :: .invokeinterface 14 8 :: .ifCond .eq 42 :: cb_49_30
-- 50: FogWatch$Town.addMan(I)V
noncomputable def cb_50_18 : List Instr := .return_ :: []
noncomputable def cb_50_6 : List Instr := .aload 0 :: .getfield 1163 :: .aload 0 :: .getfield 1154 :: .iload 1 :: .iastore :: .aload 0 :: .dup :: .getfield 1154 :: .iconst 1 :: .iadd :: .putfield 1154 :: cb_50_18
noncomputable def cb_50_0 : List Instr := .aload 0 :: .getfield 1154 :: .aload 0 :: .getfield 1163 :: .arraylength :: .if_icmp .ge 18 :: cb_50_6
-- 51: FogWatch$Tune.<init>()V
noncomputable def cb_51_0 : List Instr := .aload 0 :: .invokespecial 0 :: .aload 0 :: .iconst 20 :: .newarray .int :: .putfield 1281 :: .aload 0 :: .iconst 0 :: .putfield 1282 :: .return_ :: []
-- 52: FogWatch$Tune.clear()V
noncomputable def cb_52_0 : List Instr := .aload 0 :: .iconst 0 :: .putfield 1282 :: .return_ :: []
-- 53: FogWatch$Tune.note(I)I
noncomputable def cb_53_13 : List Instr := .ireturn :: []
noncomputable def cb_53_12 : List Instr := .iconst 0 :: cb_53_13
noncomputable def cb_53_7 : List Instr := .aload 0 :: .getfield 1281 :: .iload 1 :: .iaload :: .goto 13 :: cb_53_12
noncomputable def cb_53_2 : List Instr := .iload 1 :: .aload 0 :: .getfield 1281 :: .arraylength :: .if_icmp .ge 12 :: cb_53_7
noncomputable def cb_53_0 : List Instr := .iload 1 :: .ifCond .lt 12 :: cb_53_2
-- 54: FogWatch$Tune.read(LFogWatch$Tape;I)Z
noncomputable def cb_54_23 : List Instr := .aload 1 :: .invokeinterface 14 8 :: .freturn :: []
noncomputable def cb_54_11 : List Instr := .aload 0 :: .aload 1 :: .iconst 0 :: .iload 2 :: .invokeinterface 23 136 :: .aload 1 :: .invokeinterface 55 138 :: .aload 1 :: .iconst 59 :: .invokeinterface 20 72 :: .iinc 3 1 :: .goto 5 :: cb_54_23
noncomputable def cb_54_8 : List Instr := .aload 1 :: .invokeinterface 19 8 :: .ifCond .ne 23 :: cb_54_11
noncomputable def cb_54_5 : List Instr := .iload 3 :: .iconst 20 :: .if_icmp .gt 23 :: cb_54_8
noncomputable def cb_54_0 : List Instr := .aload 0 :: .iconst 0 :: .putfield 1282 :: .iconst 0 :: .istore 3 :: cb_54_5
-- 55: FogWatch$Tune.add(ILFogWatch$Tape;)V
noncomputable def cb_55_24 : List Instr := .return_ :: []
noncomputable def cb_55_12 : List Instr := .aload 0 :: .getfield 1281 :: .aload 0 :: .getfield 1282 :: .iload 1 :: .iastore :: .aload 0 :: .dup :: .getfield 1282 :: .iconst 1 :: .iadd :: .putfield 1282 :: cb_55_24
noncomputable def cb_55_6 : List Instr := .aload 2 :: .iconst 3 :: .aload 2 :: .getfield 1032 :: .invokeinterface 15 136 :: .goto 24 :: cb_55_12
noncomputable def cb_55_0 : List Instr := .aload 0 :: .getfield 1282 :: .aload 0 :: .getfield 1281 :: .arraylength :: .if_icmp .lt 12 :: cb_55_6
-- 56: FogWatch$Scene.<init>()V
noncomputable def cb_56_0 : List Instr := .aload 0 :: .invokespecial 0 :: .aload 0 :: .iconst 60 :: .putfield 512 :: .aload 0 :: .iconst 0 :: .putfield 514 :: .aload 0 :: .iconst 0 :: .putfield 516 :: .aload 0 :: .iconst 0 :: .putfield 518 :: .aload 0 :: .iconst (-1) :: .putfield 520 :: .aload 0 :: .iconst 0 :: .putfield 522 :: .aload 0 :: .iconst 20 :: .newarray .int :: .putfield 525 :: .return_ :: []
-- 57: FogWatch$Scene.begin(LFogWatch$Town;)V
noncomputable def cb_57_48 : List Instr := .return_ :: []
noncomputable def cb_57_24 : List Instr := .aload 0 :: .iload 2 :: .iconst 0 :: .aload 1 :: .iload 2 :: .invokeinterface 42 73 :: .invokeinterface 60 196 :: .aload 0 :: .iload 2 :: .iconst 1 :: .iconst (-1) :: .invokeinterface 60 196 :: .aload 0 :: .iload 2 :: .iconst 2 :: .iconst 0 :: .invokeinterface 60 196 :: .aload 0 :: .iload 2 :: .iconst 3 :: .iconst 0 :: .invokeinterface 60 196 :: .iinc 2 1 :: .goto 21 :: cb_57_48
noncomputable def cb_57_21 : List Instr := .iload 2 :: .iconst 5 :: .if_icmp .ge 48 :: cb_57_24
noncomputable def cb_57_0 : List Instr := .aload 0 :: .aload 1 :: .getfield 1156 :: .putfield 512 :: .aload 0 :: .iconst 0 :: .putfield 514 :: .aload 0 :: .iconst 0 :: .putfield 516 :: .aload 0 :: .iconst 0 :: .putfield 518 :: .aload 0 :: .iconst (-1) :: .putfield 520 :: .aload 0 :: .iconst 0 :: .putfield 522 :: .iconst 0 :: .istore 2 :: cb_57_21
-- 58: FogWatch$Scene.copyFrom(LFogWatch$Scene;)V
noncomputable def cb_58_39 : List Instr := .return_ :: []
noncomputable def cb_58_29 : List Instr := .aload 0 :: .getfield 525 :: .iload 2 :: .aload 1 :: .getfield 525 :: .iload 2 :: .iaload :: .iastore :: .iinc 2 1 :: .goto 26 :: cb_58_39
noncomputable def cb_58_26 : List Instr := .iload 2 :: .iconst 20 :: .if_icmp .ge 39 :: cb_58_29
noncomputable def cb_58_0 : List Instr := .aload 0 :: .aload 1 :: .getfield 512 :: .putfield 512 :: .aload 0 :: .aload 1 :: .getfield 514 :: .putfield 514 :: .aload 0 :: .aload 1 :: .getfield 516 :: .putfield 516 :: .aload 0 :: .aload 1 :: .getfield 518 :: .putfield 518 :: .aload 0 :: .aload 1 :: .getfield 520 :: .putfield 520 :: .aload 0 :: .aload 1 :: .getfield 522 :: .putfield 522 :: .iconst 0 :: .istore 2 :: cb_58_26
-- 59: FogWatch$Scene.ofMan(II)I
noncomputable def cb_59_19 : List Instr := .ireturn :: []
noncomputable def cb_59_18 : List Instr := .iconst 0 :: cb_59_19
noncomputable def cb_59_13 : List Instr := .aload 0 :: .getfield 525 :: .iload 3 :: .iaload :: .goto 19 :: cb_59_18
noncomputable def cb_59_8 : List Instr := .iload 3 :: .aload 0 :: .getfield 525 :: .arraylength :: .if_icmp .ge 18 :: cb_59_13
noncomputable def cb_59_0 : List Instr := .iload 1 :: .iconst 4 :: .imul :: .iload 2 :: .iadd :: .istore 3 :: .iload 3 :: .ifCond .lt 18 :: cb_59_8
-- 60: FogWatch$Scene.setOfMan(III)V
noncomputable def cb_60_18 : List Instr := .return_ :: []
noncomputable def cb_60_13 : List Instr := .aload 0 :: .getfield 525 :: .iload 4 :: .iload 3 :: .iastore :: cb_60_18
noncomputable def cb_60_8 : List Instr := .iload 4 :: .aload 0 :: .getfield 525 :: .arraylength :: .if_icmp .ge 18 :: cb_60_13
noncomputable def cb_60_0 : List Instr := .iload 1 :: .iconst 4 :: .imul :: .iload 2 :: .iadd :: .istore 4 :: .iload 4 :: .ifCond .lt 18 :: cb_60_8
-- 61: FogWatch$Scene.isInFog(I)Z
noncomputable def cb_61_10 : List Instr := .freturn :: []
noncomputable def cb_61_9 : List Instr := .iconst 0 :: cb_61_10
noncomputable def cb_61_7 : List Instr := .iconst 1 :: .goto 10 :: cb_61_9
noncomputable def cb_61_0 : List Instr := .aload 0 :: .getfield 516 :: .iload 1 :: .ishr :: .iconst 1 :: .iand :: .ifCond .eq 9 :: cb_61_7
-- 62: FogWatch$Scene.peopled(I)I
noncomputable def cb_62_18 : List Instr := .iload 2 :: .ireturn :: []
noncomputable def cb_62_7 : List Instr := .iload 2 :: .iconst 1 :: .aload 0 :: .iload 3 :: .iconst 0 :: .invokeinterface 59 132 :: .ishl :: .ior :: .istore 2 :: .iinc 3 1 :: .goto 4 :: cb_62_18
noncomputable def cb_62_4 : List Instr := .iload 3 :: .iload 1 :: .if_icmp .ge 18 :: cb_62_7
noncomputable def cb_62_0 : List Instr := .iconst 0 :: .istore 2 :: .iconst 0 :: .istore 3 :: cb_62_4
-- 63: FogWatch$Scene.menIn(II)I
noncomputable def cb_63_22 : List Instr := .iload 3 :: .ireturn :: []
noncomputable def cb_63_7 : List Instr := .iload 3 :: .iload 1 :: .aload 0 :: .iload 4 :: .iconst 0 :: .invokeinterface 59 132 :: .ishr :: .iconst 1 :: .iand :: .iload 4 :: .ishl :: .ior :: .istore 3 :: .iinc 4 1 :: .goto 4 :: cb_63_22
noncomputable def cb_63_4 : List Instr := .iload 4 :: .iload 2 :: .if_icmp .ge 22 :: cb_63_7
noncomputable def cb_63_0 : List Instr := .iconst 0 :: .istore 3 :: .iconst 0 :: .istore 4 :: cb_63_4
-- 64: FogWatch$Scene.crowd(I)I
noncomputable def cb_64_32 : List Instr := .iload 3 :: .ireturn :: []
noncomputable def cb_64_9 : List Instr := .iconst 3 :: .aload 0 :: .iload 4 :: .iconst 0 :: .invokeinterface 59 132 :: .imul :: .istore 5 :: .iload 2 :: .iconst 1 :: .iload 5 :: .ishl :: .iadd :: .istore 2 :: .iload 3 :: .iload 2 :: .iload 5 :: .ishr :: .iconst 7 :: .iand :: .invokedynamic 0 :: .istore 3 :: .iinc 4 1 :: .goto 6 :: cb_64_32
noncomputable def cb_64_6 : List Instr := .iload 4 :: .iload 1 :: .if_icmp .ge 32 :: cb_64_9
noncomputable def cb_64_0 : List Instr := .iconst 0 :: .istore 2 :: .iconst 0 :: .istore 3 :: .iconst 0 :: .istore 4 :: cb_64_6
-- 65: FogWatch$Scene.price(IILFogWatch$Law;)I
noncomputable def cb_65_8 : List Instr := .istore 4 :: .aload 3 :: .iload 1 :: .aload 0 :: .getfield 518 :: .iload 4 :: .aload 0 :: .getfield 516 :: .multianewarray 0 2 :: .aload 0 :: .iload 2 :: .invokeinterface 64 68 :: .aload 0 :: .getfield 514 :: .aload 0 :: .getfield 512 :: .invokeinterface 35 449 :: .ireturn :: []
noncomputable def cb_65_7 : List Instr := .iconst 0 :: cb_65_8
noncomputable def cb_65_4 : List Instr := .aload 0 :: .getfield 522 :: .goto 8 :: cb_65_7
noncomputable def cb_65_0 : List Instr := .aload 0 :: .getfield 520 :: .iload 1 :: .if_icmp .ne 7 :: cb_65_4
-- 66: FogWatch$Scene.blow(ILFogWatch$Town;LFogWatch$Law;)Z
noncomputable def cb_66_53 : List Instr := .iconst 1 :: .freturn :: []
noncomputable def cb_66_46 : List Instr := .aload 0 :: .iload 5 :: .iload 1 :: .aload 2 :: .invokeinterface 67 196 :: .iinc 5 1 :: .goto 42 :: cb_66_53
noncomputable def cb_66_42 : List Instr := .iload 5 :: .aload 2 :: .getfield 1154 :: .if_icmp .ge 53 :: cb_66_46
noncomputable def cb_66_36 : List Instr := .putfield 522 :: .aload 0 :: .iload 1 :: .putfield 520 :: .iconst 0 :: .istore 5 :: cb_66_42
noncomputable def cb_66_35 : List Instr := .iconst 1 :: cb_66_36
noncomputable def cb_66_30 : List Instr := .aload 0 :: .getfield 522 :: .iconst 1 :: .iadd :: .goto 36 :: cb_66_35
noncomputable def cb_66_13 : List Instr := .aload 0 :: .dup :: .getfield 512 :: .iload 4 :: .isub :: .putfield 512 :: .aload 0 :: .dup :: .getfield 518 :: .iconst 1 :: .iadd :: .putfield 518 :: .aload 0 :: .aload 0 :: .getfield 520 :: .iload 1 :: .if_icmp .ne 35 :: cb_66_30
noncomputable def cb_66_11 : List Instr := .iconst 0 :: .freturn :: cb_66_13
noncomputable def cb_66_0 : List Instr := .aload 0 :: .iload 1 :: .aload 2 :: .getfield 1154 :: .aload 3 :: .invokeinterface 65 196 :: .istore 4 :: .iload 4 :: .aload 0 :: .getfield 512 :: .if_icmp .le 13 :: cb_66_11
-- 67: FogWatch$Scene.moveMan(IILFogWatch$Town;)V
noncomputable def cb_67_20 : List Instr := .aload 3 :: .iload 4 :: .iload 2 :: .invokeinterface 41 137 :: .istore 5 :: .aload 0 :: .iload 1 :: .iconst 0 :: .iload 5 :: .invokeinterface 60 196 :: .aload 0 :: .iload 1 :: .iconst 1 :: .aload 3 :: .iload 5 :: .invokeinterface 40 73 :: .invokeinterface 60 196 :: .aload 0 :: .iload 1 :: .iconst 2 :: .aload 0 :: .iload 1 :: .iconst 2 :: .invokeinterface 59 132 :: .iconst 1 :: .iadd :: .invokeinterface 60 196 :: .return_ :: []
noncomputable def cb_67_9 : List Instr := .aload 0 :: .iload 1 :: .iconst 3 :: .aload 0 :: .iload 1 :: .iconst 3 :: .invokeinterface 59 132 :: .iconst 1 :: .iadd :: .invokeinterface 60 196 :: .return_ :: cb_67_20
noncomputable def cb_67_0 : List Instr := .aload 0 :: .iload 1 :: .iconst 0 :: .invokeinterface 59 132 :: .istore 4 :: .aload 0 :: .iload 4 :: .invokeinterface 61 68 :: .ifCond .eq 20 :: cb_67_9
-- 68: FogWatch$Scene.turnFog(I)Z
noncomputable def cb_68_0 : List Instr := .aload 0 :: .dup :: .getfield 516 :: .iconst 1 :: .iload 1 :: .ishl :: .ixor :: .putfield 516 :: .iconst 1 :: .freturn :: []
-- 69: FogWatch$Scene.rest(I)Z
noncomputable def cb_69_6 : List Instr := .aload 0 :: .iconst 200 :: .aload 0 :: .getfield 512 :: .iload 1 :: .iadd :: .invokedynamic 1 :: .putfield 512 :: .iconst 1 :: .freturn :: []
noncomputable def cb_69_4 : List Instr := .iconst 0 :: .freturn :: cb_69_6
noncomputable def cb_69_0 : List Instr := .aload 0 :: .getfield 512 :: .iconst 200 :: .if_icmp .lt 6 :: cb_69_4
-- 70: FogWatch$Scene.walk(II)Z
noncomputable def cb_70_8 : List Instr := .aload 0 :: .iload 1 :: .iconst 0 :: .iload 2 :: .invokeinterface 60 196 :: .iconst 1 :: .freturn :: []
noncomputable def cb_70_6 : List Instr := .iconst 0 :: .freturn :: cb_70_8
noncomputable def cb_70_0 : List Instr := .aload 0 :: .iload 1 :: .iconst 0 :: .invokeinterface 59 132 :: .iload 2 :: .if_icmp .ne 8 :: cb_70_6
-- 71: FogWatch$Scene.endNightByWork(LFogWatch$Town;)Z
noncomputable def cb_71_6 : List Instr := .aload 0 :: .aload 1 :: .invokeinterface 72 68 :: .iconst 1 :: .freturn :: []
noncomputable def cb_71_4 : List Instr := .iconst 0 :: .freturn :: cb_71_6
noncomputable def cb_71_0 : List Instr := .aload 0 :: .getfield 514 :: .iconst 400 :: .if_icmp .lt 6 :: cb_71_4
-- 72: FogWatch$Scene.endNight(LFogWatch$Town;)V
noncomputable def cb_72_0 : List Instr := .aload 0 :: .iconst (-1) :: .putfield 520 :: .aload 0 :: .iconst 0 :: .putfield 522 :: .aload 0 :: .aload 1 :: .aload 0 :: .getfield 516 :: .iconst 1 :: .invokeinterface 43 137 :: .putfield 516 :: .aload 0 :: .dup :: .getfield 514 :: .iconst 1 :: .iadd :: .putfield 514 :: .return_ :: []
-- 73: FogWatch$Steps.<init>()V
noncomputable def cb_73_0 : List Instr := .aload 0 :: .invokespecial 0 :: .aload 0 :: .iconst 150 :: .newarray .int :: .putfield 641 :: .aload 0 :: .iconst 150 :: .newarray .int :: .putfield 643 :: .aload 0 :: .iconst 150 :: .newarray .int :: .putfield 645 :: .aload 0 :: .iconst 150 :: .newarray .int :: .putfield 647 :: .aload 0 :: .iconst 0 :: .putfield 648 :: .aload 0 :: .iconst 0 :: .putfield 650 :: .return_ :: []
-- 74: FogWatch$Steps.forget()V
noncomputable def cb_74_0 : List Instr := .aload 0 :: .iconst 0 :: .putfield 650 :: .return_ :: []
-- 75: FogWatch$Steps.put(III)I
noncomputable def cb_75_9 : List Instr := .aload 0 :: .getfield 641 :: .aload 0 :: .getfield 648 :: .iload 1 :: .iastore :: .aload 0 :: .getfield 643 :: .aload 0 :: .getfield 648 :: .iload 2 :: .iastore :: .aload 0 :: .getfield 645 :: .aload 0 :: .getfield 648 :: .iload 3 :: .iastore :: .aload 0 :: .dup :: .getfield 648 :: .iconst 1 :: .iadd :: .putfield 648 :: .aload 0 :: .getfield 648 :: .iconst 1 :: .isub :: .ireturn :: []
noncomputable def cb_75_7 : List Instr := .iconst (-1) :: .ireturn :: cb_75_9
noncomputable def cb_75_3 : List Instr := .aload 0 :: .getfield 648 :: .iconst 150 :: .if_icmp .lt 9 :: cb_75_7
noncomputable def cb_75_0 : List Instr := .aload 0 :: .getfield 648 :: .ifCond .lt 7 :: cb_75_3
-- 76: FogWatch$Steps.read(LFogWatch$Tape;LFogWatch$Town;)Z
noncomputable def cb_76_0 : List Instr := .aload 0 :: .iconst 0 :: .putfield 648 :: .aload 0 :: .aload 1 :: .aload 2 :: .iconst 0 :: .invokeinterface 77 197 :: .aload 1 :: .invokeinterface 14 8 :: .freturn :: []
-- 77: FogWatch$Steps.readAll(LFogWatch$Tape;LFogWatch$Town;I)V
noncomputable def cb_77_31 : List Instr := .return_ :: []
noncomputable def cb_77_21 : List Instr := .aload 0 :: .aload 1 :: .aload 2 :: .iload 3 :: .invokeinterface 78 197 :: .aload 1 :: .iconst 59 :: .invokeinterface 20 72 :: .iinc 4 1 :: .goto 2 :: cb_77_31
noncomputable def cb_77_20 : List Instr := .return_ :: cb_77_21
noncomputable def cb_77_17 : List Instr := .iload 5 :: .iconst 93 :: .if_icmp .ne 21 :: cb_77_20
noncomputable def cb_77_16 : List Instr := .goto 20 :: cb_77_17
noncomputable def cb_77_13 : List Instr := .iload 5 :: .iconst (-1) :: .if_icmp .ne 21 :: cb_77_16
noncomputable def cb_77_8 : List Instr := .aload 1 :: .invokeinterface 17 8 :: .istore 5 :: .iload 3 :: .ifCond .ne 17 :: cb_77_13
noncomputable def cb_77_5 : List Instr := .aload 1 :: .invokeinterface 14 8 :: .ifCond .eq 31 :: cb_77_8
noncomputable def cb_77_2 : List Instr := .iload 4 :: .iconst 150 :: .if_icmp .ge 31 :: cb_77_5
noncomputable def cb_77_0 : List Instr := .iconst 0 :: .istore 4 :: cb_77_2
-- 78: FogWatch$Steps.readStep(LFogWatch$Tape;LFogWatch$Town;I)V
noncomputable def cb_78_61 : List Instr := .return_ :: []
noncomputable def cb_78_56 : List Instr := .aload 1 :: .iconst 1 :: .aload 1 :: .getfield 1032 :: .invokeinterface 15 136 :: cb_78_61
noncomputable def cb_78_50 : List Instr := .aload 0 :: .aload 1 :: .aload 2 :: .iload 3 :: .invokeinterface 81 197 :: .goto 61 :: cb_78_56
noncomputable def cb_78_43 : List Instr := .aload 0 :: .iconst 5 :: .iconst 0 :: .iconst 0 :: .invokeinterface 75 197 :: .pop :: .goto 61 :: cb_78_50
noncomputable def cb_78_38 : List Instr := .aload 0 :: .aload 1 :: .aload 2 :: .invokeinterface 80 133 :: .goto 61 :: cb_78_43
noncomputable def cb_78_28 : List Instr := .aload 0 :: .iconst 3 :: .aload 1 :: .iconst 1 :: .iconst 60 :: .invokeinterface 23 136 :: .iconst 0 :: .invokeinterface 75 197 :: .pop :: .goto 61 :: cb_78_38
noncomputable def cb_78_15 : List Instr := .aload 0 :: .iconst 2 :: .aload 1 :: .iconst 0 :: .aload 2 :: .getfield 1152 :: .iconst 1 :: .isub :: .invokeinterface 23 136 :: .iconst 0 :: .invokeinterface 75 197 :: .pop :: .goto 61 :: cb_78_28
noncomputable def cb_78_5 : List Instr := .aload 0 :: .iconst 1 :: .aload 1 :: .iconst 0 :: .iconst 3 :: .invokeinterface 23 136 :: .iconst 0 :: .invokeinterface 75 197 :: .pop :: .goto 61 :: cb_78_15
noncomputable def cb_78_0 : List Instr := .aload 1 :: .invokeinterface 21 8 :: .aload 1 :: .multianewarray 79 2 :: .tableswitch 56 1 6 #[5, 15, 28, 38, 43, 50] :: cb_78_5
-- 79: FogWatch$Steps.kindOf(LFogWatch$Tape;)I
noncomputable def cb_79_37 : List Instr := .ireturn :: []
noncomputable def cb_79_36 : List Instr := .iconst 0 :: cb_79_37
noncomputable def cb_79_34 : List Instr := .iconst 6 :: .goto 37 :: cb_79_36
noncomputable def cb_79_30 : List Instr := .aload 0 :: .ldc 16 :: .invokeinterface 22 72 :: .ifCond .eq 36 :: cb_79_34
noncomputable def cb_79_28 : List Instr := .iconst 5 :: .ireturn :: cb_79_30
noncomputable def cb_79_24 : List Instr := .aload 0 :: .ldc 10 :: .invokeinterface 22 72 :: .ifCond .eq 30 :: cb_79_28
noncomputable def cb_79_22 : List Instr := .iconst 4 :: .ireturn :: cb_79_24
noncomputable def cb_79_18 : List Instr := .aload 0 :: .ldc 15 :: .invokeinterface 22 72 :: .ifCond .eq 24 :: cb_79_22
noncomputable def cb_79_16 : List Instr := .iconst 3 :: .ireturn :: cb_79_18
noncomputable def cb_79_12 : List Instr := .aload 0 :: .ldc 14 :: .invokeinterface 22 72 :: .ifCond .eq 18 :: cb_79_16
noncomputable def cb_79_10 : List Instr := .iconst 2 :: .ireturn :: cb_79_12
noncomputable def cb_79_6 : List Instr := .aload 0 :: .ldc 8 :: .invokeinterface 22 72 :: .ifCond .eq 12 :: cb_79_10
noncomputable def cb_79_4 : List Instr := .iconst 1 :: .ireturn :: cb_79_6
noncomputable def cb_79_0 : List Instr := .aload 0 :: .ldc 13 :: .invokeinterface 22 72 :: .ifCond .eq 6 :: cb_79_4
-- 80: FogWatch$Steps.readWalk(LFogWatch$Tape;LFogWatch$Town;)V
noncomputable def cb_80_0 : List Instr := .aload 1 :: .iconst 0 :: .aload 2 :: .getfield 1154 :: .iconst 1 :: .isub :: .invokeinterface 23 136 :: .istore 3 :: .aload 0 :: .iconst 4 :: .iload 3 :: .aload 1 :: .iconst 0 :: .aload 2 :: .getfield 1152 :: .iconst 1 :: .isub :: .invokeinterface 23 136 :: .invokeinterface 75 197 :: .pop :: .return_ :: []
-- 81: FogWatch$Steps.readAgain(LFogWatch$Tape;LFogWatch$Town;I)V
noncomputable def cb_81_47 : List Instr := .return_ :: []
noncomputable def cb_81_42 : List Instr := .aload 0 :: .getfield 645 :: .iload 4 :: .iload 5 :: .iastore :: cb_81_47
noncomputable def cb_81_39 : List Instr := .iload 4 :: .iconst 150 :: .if_icmp .ge 47 :: cb_81_42
noncomputable def cb_81_9 : List Instr := .aload 0 :: .iconst 6 :: .aload 1 :: .iconst 0 :: .iconst 40 :: .invokeinterface 23 136 :: .iconst 0 :: .invokeinterface 75 197 :: .istore 4 :: .aload 1 :: .iconst 91 :: .invokeinterface 20 72 :: .aload 0 :: .aload 1 :: .aload 2 :: .iload 3 :: .iconst 1 :: .iadd :: .invokeinterface 77 197 :: .aload 1 :: .iconst 93 :: .invokeinterface 20 72 :: .aload 0 :: .iconst 7 :: .iload 4 :: .iconst 0 :: .invokeinterface 75 197 :: .istore 5 :: .iload 4 :: .ifCond .lt 47 :: cb_81_39
noncomputable def cb_81_3 : List Instr := .aload 1 :: .iconst 3 :: .aload 1 :: .getfield 1032 :: .invokeinterface 15 136 :: .return_ :: cb_81_9
noncomputable def cb_81_0 : List Instr := .iload 3 :: .iconst 6 :: .if_icmp .lt 9 :: cb_81_3
-- 82: FogWatch$Steps.perform(LFogWatch$Scene;LFogWatch$Town;LFogWatch$Law;)I
noncomputable def cb_82_86 : List Instr := .iload 5 :: .ireturn :: []
noncomputable def cb_82_84 : List Instr := .iinc 7 1 :: .goto 11 :: cb_82_86
noncomputable def cb_82_83 : List Instr := .iinc 6 1 :: cb_82_84
noncomputable def cb_82_77 : List Instr := .aload 0 :: .dup :: .getfield 650 :: .iconst 1 :: .iadd :: .putfield 650 :: cb_82_83
noncomputable def cb_82_75 : List Instr := .iinc 5 1 :: .goto 83 :: cb_82_77
noncomputable def cb_82_68 : List Instr := .aload 0 :: .iload 6 :: .aload 1 :: .aload 2 :: .aload 3 :: .invokeinterface 84 261 :: .ifCond .eq 77 :: cb_82_75
noncomputable def cb_82_66 : List Instr := .istore 6 :: .goto 84 :: cb_82_68
noncomputable def cb_82_60 : List Instr := .aload 0 :: .getfield 645 :: .iload 6 :: .iaload :: .iconst 1 :: .iadd :: cb_82_66
noncomputable def cb_82_56 : List Instr := .iload 6 :: .iconst 1 :: .iadd :: .goto 66 :: cb_82_60
noncomputable def cb_82_43 : List Instr := .aload 0 :: .getfield 647 :: .iload 6 :: .aload 0 :: .getfield 643 :: .iload 6 :: .iaload :: .iastore :: .aload 0 :: .getfield 647 :: .iload 6 :: .iaload :: .ifCond .le 60 :: cb_82_56
noncomputable def cb_82_36 : List Instr := .iinc 4 1 :: .aload 0 :: .getfield 641 :: .iload 6 :: .iaload :: .iconst 6 :: .if_icmp .ne 68 :: cb_82_43
noncomputable def cb_82_34 : List Instr := .iload 5 :: .ireturn :: cb_82_36
noncomputable def cb_82_31 : List Instr := .iload 4 :: .iconst 200 :: .if_icmp .lt 36 :: cb_82_34
noncomputable def cb_82_26 : List Instr := .aload 0 :: .iload 6 :: .invokeinterface 83 69 :: .istore 6 :: .goto 84 :: cb_82_31
noncomputable def cb_82_20 : List Instr := .aload 0 :: .getfield 641 :: .iload 6 :: .iaload :: .iconst 7 :: .if_icmp .ne 31 :: cb_82_26
noncomputable def cb_82_16 : List Instr := .iload 6 :: .aload 0 :: .getfield 648 :: .if_icmp .ge 86 :: cb_82_20
noncomputable def cb_82_14 : List Instr := .iload 6 :: .ifCond .lt 86 :: cb_82_16
noncomputable def cb_82_11 : List Instr := .iload 7 :: .iconst 8400 :: .if_icmp .ge 86 :: cb_82_14
noncomputable def cb_82_0 : List Instr := .iconst 0 :: .istore 4 :: .iconst 0 :: .istore 5 :: .iconst 0 :: .istore 6 :: .aload 0 :: .iconst 0 :: .putfield 650 :: .iconst 0 :: .istore 7 :: cb_82_11
-- 83: FogWatch$Steps.behindClosing(I)I
noncomputable def cb_83_34 : List Instr := .ireturn :: []
noncomputable def cb_83_31 : List Instr := .iload 1 :: .iconst 1 :: .iadd :: cb_83_34
noncomputable def cb_83_27 : List Instr := .iload 2 :: .iconst 1 :: .iadd :: .goto 34 :: cb_83_31
noncomputable def cb_83_14 : List Instr := .aload 0 :: .getfield 647 :: .iload 2 :: .dup2 :: .iaload :: .iconst 1 :: .isub :: .iastore :: .aload 0 :: .getfield 647 :: .iload 2 :: .iaload :: .ifCond .le 31 :: cb_83_27
noncomputable def cb_83_10 : List Instr := .iload 1 :: .iconst 1 :: .iadd :: .ireturn :: cb_83_14
noncomputable def cb_83_7 : List Instr := .iload 2 :: .iconst 150 :: .if_icmp .lt 14 :: cb_83_10
noncomputable def cb_83_0 : List Instr := .aload 0 :: .getfield 643 :: .iload 1 :: .iaload :: .istore 2 :: .iload 2 :: .ifCond .lt 10 :: cb_83_7
-- 84: FogWatch$Steps.takeStep(ILFogWatch$Scene;LFogWatch$Town;LFogWatch$Law;)Z
noncomputable def cb_84_39 : List Instr := .aload 2 :: .aload 3 :: .invokeinterface 71 68 :: .freturn :: []
noncomputable def cb_84_28 : List Instr := .aload 2 :: .aload 0 :: .getfield 643 :: .iload 1 :: .iaload :: .aload 0 :: .getfield 645 :: .iload 1 :: .iaload :: .invokeinterface 70 132 :: .freturn :: cb_84_39
noncomputable def cb_84_21 : List Instr := .aload 2 :: .aload 0 :: .getfield 643 :: .iload 1 :: .iaload :: .invokeinterface 69 68 :: .freturn :: cb_84_28
noncomputable def cb_84_14 : List Instr := .aload 2 :: .aload 0 :: .getfield 643 :: .iload 1 :: .iaload :: .invokeinterface 68 68 :: .freturn :: cb_84_21
noncomputable def cb_84_5 : List Instr := .aload 2 :: .aload 0 :: .getfield 643 :: .iload 1 :: .iaload :: .aload 3 :: .aload 4 :: .invokeinterface 66 196 :: .freturn :: cb_84_14
noncomputable def cb_84_0 : List Instr := .aload 0 :: .getfield 641 :: .iload 1 :: .iaload :: .tableswitch 39 1 4 #[5, 14, 21, 28] :: cb_84_5
-- 85: FogWatch$Story.<init>()V
noncomputable def cb_85_30 : List Instr := .return_ :: []
noncomputable def cb_85_21 : List Instr := .aload 0 :: .getfield 771 :: .iload 1 :: .new 4 :: .dup :: .invokeinterface 56 36 :: .aastore :: .iinc 1 1 :: .goto 16 :: cb_85_30
noncomputable def cb_85_16 : List Instr := .iload 1 :: .aload 0 :: .getfield 771 :: .arraylength :: .if_icmp .ge 30 :: cb_85_21
noncomputable def cb_85_0 : List Instr := .aload 0 :: .invokespecial 0 :: .aload 0 :: .new 4 :: .dup :: .invokeinterface 56 36 :: .putfield 769 :: .aload 0 :: .iconst 16 :: .anewarray 3 :: .putfield 771 :: .aload 0 :: .iconst 0 :: .putfield 772 :: .iconst 0 :: .istore 1 :: cb_85_16
-- 86: FogWatch$Story.begin(LFogWatch$Town;)V
noncomputable def cb_86_0 : List Instr := .aload 0 :: .getfield 769 :: .aload 1 :: .invokeinterface 57 68 :: .aload 0 :: .iconst 0 :: .putfield 772 :: .return_ :: []
-- 87: FogWatch$Story.remember()V
noncomputable def cb_87_23 : List Instr := .return_ :: []
noncomputable def cb_87_9 : List Instr := .aload 0 :: .getfield 771 :: .aload 0 :: .getfield 772 :: .aaload :: .aload 0 :: .getfield 769 :: .invokeinterface 58 68 :: .aload 0 :: .dup :: .getfield 772 :: .iconst 1 :: .iadd :: .putfield 772 :: cb_87_23
noncomputable def cb_87_3 : List Instr := .aload 0 :: .getfield 772 :: .aload 0 :: .getfield 771 :: .arraylength :: .if_icmp .ge 23 :: cb_87_9
noncomputable def cb_87_0 : List Instr := .aload 0 :: .getfield 772 :: .ifCond .lt 23 :: cb_87_3
-- 88: FogWatch$Story.goBack()Z
noncomputable def cb_88_11 : List Instr := .aload 0 :: .dup :: .getfield 772 :: .iconst 1 :: .isub :: .putfield 772 :: .aload 0 :: .getfield 769 :: .aload 0 :: .getfield 771 :: .aload 0 :: .getfield 772 :: .aaload :: .invokeinterface 58 68 :: .iconst 1 :: .freturn :: []
noncomputable def cb_88_9 : List Instr := .iconst 0 :: .freturn :: cb_88_11
noncomputable def cb_88_3 : List Instr := .aload 0 :: .getfield 772 :: .aload 0 :: .getfield 771 :: .arraylength :: .if_icmp .le 11 :: cb_88_9
noncomputable def cb_88_0 : List Instr := .aload 0 :: .getfield 772 :: .ifCond .le 9 :: cb_88_3
-- 89: FogWatch$Story.copyFrom(LFogWatch$Story;)V
noncomputable def cb_89_29 : List Instr := .return_ :: []
noncomputable def cb_89_18 : List Instr := .aload 0 :: .getfield 771 :: .iload 2 :: .aaload :: .aload 1 :: .getfield 771 :: .iload 2 :: .aaload :: .invokeinterface 58 68 :: .iinc 2 1 :: .goto 11 :: cb_89_29
noncomputable def cb_89_15 : List Instr := .iload 2 :: .iconst 16 :: .if_icmp .ge 29 :: cb_89_18
noncomputable def cb_89_11 : List Instr := .iload 2 :: .aload 0 :: .getfield 772 :: .if_icmp .ge 29 :: cb_89_15
noncomputable def cb_89_0 : List Instr := .aload 0 :: .getfield 769 :: .aload 1 :: .getfield 769 :: .invokeinterface 58 68 :: .aload 0 :: .aload 1 :: .getfield 772 :: .putfield 772 :: .iconst 0 :: .istore 2 :: cb_89_11
-- 90: FogWatch$Streets.<init>()V
noncomputable def cb_90_0 : List Instr := .aload 0 :: .invokespecial 0 :: .aload 0 :: .iconst 0 :: .putfield 896 :: .aload 0 :: .iconst (-1) :: .putfield 898 :: .aload 0 :: .iconst 40 :: .newarray .int :: .putfield 901 :: .aload 0 :: .iconst 128 :: .newarray .int :: .putfield 903 :: .aload 0 :: .iconst 128 :: .newarray .int :: .putfield 905 :: .aload 0 :: .iconst 10 :: .newarray .long :: .putfield 907 :: .aload 0 :: .iconst 10 :: .newarray .long :: .putfield 909 :: .return_ :: []
-- 91: FogWatch$Streets.forget()V
noncomputable def cb_91_0 : List Instr := .aload 0 :: .iconst (-1) :: .putfield 898 :: .return_ :: []
-- 92: FogWatch$Streets.lay(LFogWatch$Town;I)Z
noncomputable def cb_92_69 : List Instr := .iconst 1 :: .freturn :: []
noncomputable def cb_92_55 : List Instr := .aload 0 :: .aload 0 :: .getfield 903 :: .iload 3 :: .iconst 0 :: .invokeinterface 93 199 :: .aload 0 :: .aload 0 :: .getfield 905 :: .iload 3 :: .iconst 5 :: .invokeinterface 93 199 :: .iinc 3 1 :: .goto 15 :: cb_92_69
noncomputable def cb_92_52 : List Instr := .iastore :: .iinc 4 1 :: .goto 20 :: cb_92_55
noncomputable def cb_92_51 : List Instr := .iload 4 :: cb_92_52
noncomputable def cb_92_46 : List Instr := .aload 1 :: .iload 4 :: .iload 3 :: .invokeinterface 41 137 :: .goto 52 :: cb_92_51
noncomputable def cb_92_36 : List Instr := .istore 5 :: .aload 0 :: .getfield 901 :: .iload 3 :: .iconst 10 :: .imul :: .iload 4 :: .iadd :: .iload 5 :: .ifCond .eq 51 :: cb_92_46
noncomputable def cb_92_35 : List Instr := .iconst 0 :: cb_92_36
noncomputable def cb_92_33 : List Instr := .iconst 1 :: .goto 36 :: cb_92_35
noncomputable def cb_92_27 : List Instr := .iload 2 :: .iload 4 :: .ishr :: .iconst 1 :: .iand :: .ifCond .ne 35 :: cb_92_33
noncomputable def cb_92_23 : List Instr := .iload 4 :: .aload 0 :: .getfield 896 :: .if_icmp .ge 35 :: cb_92_27
noncomputable def cb_92_20 : List Instr := .iload 4 :: .iconst 10 :: .if_icmp .ge 55 :: cb_92_23
noncomputable def cb_92_18 : List Instr := .iconst 0 :: .istore 4 :: cb_92_20
noncomputable def cb_92_15 : List Instr := .iload 3 :: .iconst 4 :: .if_icmp .ge 69 :: cb_92_18
noncomputable def cb_92_6 : List Instr := .aload 0 :: .iload 2 :: .putfield 898 :: .aload 0 :: .aload 1 :: .getfield 1152 :: .putfield 896 :: .iconst 0 :: .istore 3 :: cb_92_15
noncomputable def cb_92_4 : List Instr := .iconst 0 :: .freturn :: cb_92_6
noncomputable def cb_92_0 : List Instr := .iload 2 :: .aload 0 :: .getfield 898 :: .if_icmp .ne 6 :: cb_92_4
-- 93: FogWatch$Streets.fillHalf([III)V
noncomputable def cb_93_49 : List Instr := .return_ :: []
noncomputable def cb_93_47 : List Instr := .iinc 4 1 :: .goto 2 :: cb_93_49
noncomputable def cb_93_43 : List Instr := .aload 1 :: .iload 6 :: .iload 5 :: .iastore :: cb_93_47
noncomputable def cb_93_39 : List Instr := .iload 6 :: .aload 1 :: .arraylength :: .if_icmp .ge 47 :: cb_93_43
noncomputable def cb_93_31 : List Instr := .iload 2 :: .iconst 32 :: .imul :: .iload 4 :: .iadd :: .istore 6 :: .iload 6 :: .ifCond .lt 47 :: cb_93_39
noncomputable def cb_93_29 : List Instr := .iinc 6 1 :: .goto 9 :: cb_93_31
noncomputable def cb_93_18 : List Instr := .iload 5 :: .iconst 1 :: .aload 0 :: .iload 3 :: .iload 6 :: .iadd :: .iload 2 :: .invokeinterface 94 135 :: .ishl :: .ior :: .istore 5 :: cb_93_29
noncomputable def cb_93_12 : List Instr := .iload 4 :: .iload 6 :: .ishr :: .iconst 1 :: .iand :: .ifCond .eq 29 :: cb_93_18
noncomputable def cb_93_9 : List Instr := .iload 6 :: .iconst 5 :: .if_icmp .ge 31 :: cb_93_12
noncomputable def cb_93_5 : List Instr := .iconst 0 :: .istore 5 :: .iconst 0 :: .istore 6 :: cb_93_9
noncomputable def cb_93_2 : List Instr := .iload 4 :: .iconst 32 :: .if_icmp .ge 49 :: cb_93_5
noncomputable def cb_93_0 : List Instr := .iconst 0 :: .istore 4 :: cb_93_2
-- 94: FogWatch$Streets.next(II)I
noncomputable def cb_94_19 : List Instr := .ireturn :: []
noncomputable def cb_94_18 : List Instr := .iconst 0 :: cb_94_19
noncomputable def cb_94_13 : List Instr := .aload 0 :: .getfield 901 :: .iload 3 :: .iaload :: .goto 19 :: cb_94_18
noncomputable def cb_94_8 : List Instr := .iload 3 :: .aload 0 :: .getfield 901 :: .arraylength :: .if_icmp .ge 18 :: cb_94_13
noncomputable def cb_94_0 : List Instr := .iload 2 :: .iconst 10 :: .imul :: .iload 1 :: .iadd :: .istore 3 :: .iload 3 :: .ifCond .lt 18 :: cb_94_8
-- 95: FogWatch$Streets.isFoggy(I)Z
noncomputable def cb_95_10 : List Instr := .freturn :: []
noncomputable def cb_95_9 : List Instr := .iconst 0 :: cb_95_10
noncomputable def cb_95_7 : List Instr := .iconst 1 :: .goto 10 :: cb_95_9
noncomputable def cb_95_0 : List Instr := .aload 0 :: .getfield 898 :: .iload 1 :: .ishr :: .iconst 1 :: .iand :: .ifCond .eq 9 :: cb_95_7
-- 96: FogWatch$Streets.bring(II)I
noncomputable def cb_96_34 : List Instr := .aload 0 :: .getfield 903 :: .iload 3 :: .iaload :: .aload 0 :: .getfield 905 :: .iload 4 :: .iaload :: .ior :: .ireturn :: []
noncomputable def cb_96_32 : List Instr := .iconst 0 :: .ireturn :: cb_96_34
noncomputable def cb_96_27 : List Instr := .iload 4 :: .aload 0 :: .getfield 905 :: .arraylength :: .if_icmp .lt 34 :: cb_96_32
noncomputable def cb_96_22 : List Instr := .iload 3 :: .aload 0 :: .getfield 903 :: .arraylength :: .if_icmp .ge 32 :: cb_96_27
noncomputable def cb_96_20 : List Instr := .iload 4 :: .ifCond .lt 32 :: cb_96_22
noncomputable def cb_96_0 : List Instr := .iload 2 :: .iconst 32 :: .imul :: .iload 1 :: .iconst 31 :: .iand :: .iadd :: .istore 3 :: .iload 2 :: .iconst 32 :: .imul :: .iload 1 :: .iconst 5 :: .ishr :: .iconst 31 :: .iand :: .iadd :: .istore 4 :: .iload 3 :: .ifCond .lt 32 :: cb_96_20
-- 97: FogWatch$Streets.staysAt(I)Z
noncomputable def cb_97_15 : List Instr := .iconst 1 :: .freturn :: []
noncomputable def cb_97_13 : List Instr := .iinc 2 1 :: .goto 2 :: cb_97_15
noncomputable def cb_97_11 : List Instr := .iconst 0 :: .freturn :: cb_97_13
noncomputable def cb_97_5 : List Instr := .aload 0 :: .iload 1 :: .iload 2 :: .invokeinterface 94 135 :: .iload 1 :: .if_icmp .eq 13 :: cb_97_11
noncomputable def cb_97_2 : List Instr := .iload 2 :: .iconst 4 :: .if_icmp .ge 15 :: cb_97_5
noncomputable def cb_97_0 : List Instr := .iconst 0 :: .istore 2 :: cb_97_2
-- 98: FogWatch$Streets.afterTune(ILFogWatch$Tune;)I
noncomputable def cb_98_17 : List Instr := .iload 3 :: .ireturn :: []
noncomputable def cb_98_8 : List Instr := .aload 0 :: .iload 3 :: .aload 2 :: .iload 4 :: .invokeinterface 53 74 :: .invokeinterface 94 135 :: .istore 3 :: .iinc 4 1 :: .goto 4 :: cb_98_17
noncomputable def cb_98_4 : List Instr := .iload 4 :: .aload 2 :: .getfield 1282 :: .if_icmp .ge 17 :: cb_98_8
noncomputable def cb_98_0 : List Instr := .iload 1 :: .istore 3 :: .iconst 0 :: .istore 4 :: cb_98_4
-- 99: FogWatch$Streets.startWeights(I)V
noncomputable def cb_99_0 : List Instr := .aload 0 :: .getfield 907 :: .ldc2_w 0 :: .multianewarray 1 4 :: .aload 0 :: .getfield 907 :: .iload 1 :: .ldc2_w 1 :: .multianewarray 101 6 :: .return_ :: []
-- 100: FogWatch$Streets.weightOf(I)J
noncomputable def cb_100_13 : List Instr := .lreturn :: []
noncomputable def cb_100_12 : List Instr := .ldc2_w 0 :: cb_100_13
noncomputable def cb_100_7 : List Instr := .aload 0 :: .getfield 907 :: .iload 1 :: .laload :: .goto 13 :: cb_100_12
noncomputable def cb_100_2 : List Instr := .iload 1 :: .aload 0 :: .getfield 907 :: .arraylength :: .if_icmp .ge 12 :: cb_100_7
noncomputable def cb_100_0 : List Instr := .iload 1 :: .ifCond .lt 12 :: cb_100_2
-- 101: FogWatch$Streets.addWeight([JIJ)V
noncomputable def cb_101_13 : List Instr := .return_ :: []
noncomputable def cb_101_6 : List Instr := .aload 0 :: .iload 1 :: .dup2 :: .laload :: .lload 2 :: .ladd :: .lastore :: cb_101_13
noncomputable def cb_101_2 : List Instr := .iload 1 :: .aload 0 :: .arraylength :: .if_icmp .ge 13 :: cb_101_6
noncomputable def cb_101_0 : List Instr := .iload 1 :: .ifCond .lt 13 :: cb_101_2
-- 102: FogWatch$Streets.spreadByAll()V
noncomputable def cb_102_29 : List Instr := .aload 0 :: .invokeinterface 104 7 :: .return_ :: []
noncomputable def cb_102_27 : List Instr := .iinc 1 1 :: .goto 6 :: cb_102_29
noncomputable def cb_102_15 : List Instr := .aload 0 :: .getfield 909 :: .aload 0 :: .iload 1 :: .iload 2 :: .invokeinterface 94 135 :: .aload 0 :: .iload 1 :: .invokeinterface 100 71 :: .multianewarray 101 6 :: .iinc 2 1 :: .goto 12 :: cb_102_27
noncomputable def cb_102_12 : List Instr := .iload 2 :: .iconst 4 :: .if_icmp .ge 27 :: cb_102_15
noncomputable def cb_102_10 : List Instr := .iconst 0 :: .istore 2 :: cb_102_12
noncomputable def cb_102_6 : List Instr := .iload 1 :: .aload 0 :: .getfield 896 :: .if_icmp .ge 29 :: cb_102_10
noncomputable def cb_102_0 : List Instr := .aload 0 :: .getfield 909 :: .ldc2_w 0 :: .multianewarray 1 4 :: .iconst 0 :: .istore 1 :: cb_102_6
-- 103: FogWatch$Streets.spreadByChance(II)V
noncomputable def cb_103_37 : List Instr := .aload 0 :: .invokeinterface 104 7 :: .return_ :: []
noncomputable def cb_103_10 : List Instr := .aload 0 :: .getfield 909 :: .iload 3 :: .aload 0 :: .iload 3 :: .invokeinterface 100 71 :: .iload 2 :: .i2l :: .lmul :: .multianewarray 101 6 :: .aload 0 :: .getfield 909 :: .aload 0 :: .iload 3 :: .iload 1 :: .invokeinterface 94 135 :: .aload 0 :: .iload 3 :: .invokeinterface 100 71 :: .iconst 16 :: .iload 2 :: .isub :: .i2l :: .lmul :: .multianewarray 101 6 :: .iinc 3 1 :: .goto 6 :: cb_103_37
noncomputable def cb_103_6 : List Instr := .iload 3 :: .aload 0 :: .getfield 896 :: .if_icmp .ge 37 :: cb_103_10
noncomputable def cb_103_0 : List Instr := .aload 0 :: .getfield 909 :: .ldc2_w 0 :: .multianewarray 1 4 :: .iconst 0 :: .istore 3 :: cb_103_6
-- 104: FogWatch$Streets.swapWeights()V
noncomputable def cb_104_0 : List Instr := .aload 0 :: .getfield 909 :: .astore 1 :: .aload 0 :: .aload 0 :: .getfield 907 :: .putfield 909 :: .aload 0 :: .aload 1 :: .putfield 907 :: .return_ :: []
-- 105: FogWatch$Gather.<init>()V
noncomputable def cb_105_0 : List Instr := .aload 0 :: .invokespecial 0 :: .aload 0 :: .iconst 1024 :: .newarray .int :: .putfield 1 :: .aload 0 :: .iconst 1024 :: .newarray .int :: .putfield 3 :: .aload 0 :: .iconst 1024 :: .newarray .int :: .putfield 5 :: .aload 0 :: .iconst 1024 :: .newarray .int :: .putfield 7 :: .aload 0 :: .iconst 4 :: .newarray .int :: .putfield 9 :: .aload 0 :: .iconst 4 :: .newarray .int :: .putfield 11 :: .aload 0 :: .iconst 0 :: .putfield 12 :: .aload 0 :: .iconst (-1) :: .putfield 14 :: .aload 0 :: .iconst (-1) :: .putfield 16 :: .aload 0 :: .iconst (-1) :: .putfield 18 :: .return_ :: []
-- 106: FogWatch$Gather.forget()V
noncomputable def cb_106_0 : List Instr := .aload 0 :: .iconst (-1) :: .putfield 14 :: .aload 0 :: .iconst (-1) :: .putfield 16 :: .aload 0 :: .iconst (-1) :: .putfield 18 :: .return_ :: []
-- 107: FogWatch$Gather.find(LFogWatch$Streets;II)V
noncomputable def cb_107_9 : List Instr := .aload 0 :: .iload 2 :: .putfield 14 :: .aload 0 :: .iload 3 :: .putfield 16 :: .aload 0 :: .aload 0 :: .aload 1 :: .iload 2 :: .iload 3 :: .invokeinterface 115 192 :: .putfield 18 :: .return_ :: []
noncomputable def cb_107_8 : List Instr := .return_ :: cb_107_9
noncomputable def cb_107_4 : List Instr := .iload 3 :: .aload 0 :: .getfield 16 :: .if_icmp .ne 9 :: cb_107_8
noncomputable def cb_107_0 : List Instr := .iload 2 :: .aload 0 :: .getfield 14 :: .if_icmp .ne 9 :: cb_107_4
-- 108: FogWatch$Gather.length()I
noncomputable def cb_108_14 : List Instr := .ireturn :: []
noncomputable def cb_108_13 : List Instr := .iconst (-1) :: cb_108_14
noncomputable def cb_108_7 : List Instr := .aload 0 :: .getfield 3 :: .aload 0 :: .getfield 18 :: .iaload :: .goto 14 :: cb_108_13
noncomputable def cb_108_3 : List Instr := .aload 0 :: .getfield 18 :: .iconst 1024 :: .if_icmp .ge 13 :: cb_108_7
noncomputable def cb_108_0 : List Instr := .aload 0 :: .getfield 18 :: .ifCond .lt 13 :: cb_108_3
-- 109: FogWatch$Gather.meeting()I
noncomputable def cb_109_10 : List Instr := .ireturn :: []
noncomputable def cb_109_9 : List Instr := .iconst (-1) :: cb_109_10
noncomputable def cb_109_3 : List Instr := .aload 0 :: .getfield 18 :: .iconst 1 :: .isub :: .multianewarray 0 2 :: .goto 10 :: cb_109_9
noncomputable def cb_109_0 : List Instr := .aload 0 :: .getfield 18 :: .ifCond .le 9 :: cb_109_3
-- 110: FogWatch$Gather.whistle(I)I
noncomputable def cb_110_43 : List Instr := .ireturn :: []
noncomputable def cb_110_42 : List Instr := .iconst (-1) :: cb_110_43
noncomputable def cb_110_37 : List Instr := .aload 0 :: .getfield 7 :: .iload 3 :: .iaload :: .goto 43 :: cb_110_42
noncomputable def cb_110_34 : List Instr := .iload 3 :: .iconst 1024 :: .if_icmp .ge 42 :: cb_110_37
noncomputable def cb_110_32 : List Instr := .iload 3 :: .ifCond .lt 42 :: cb_110_34
noncomputable def cb_110_25 : List Instr := .aload 0 :: .getfield 5 :: .iload 3 :: .iaload :: .istore 3 :: .iinc 4 (-1) :: .goto 17 :: cb_110_32
noncomputable def cb_110_22 : List Instr := .iload 3 :: .iconst 1024 :: .if_icmp .ge 32 :: cb_110_25
noncomputable def cb_110_20 : List Instr := .iload 3 :: .ifCond .lt 32 :: cb_110_22
noncomputable def cb_110_17 : List Instr := .iload 4 :: .iload 1 :: .if_icmp .le 32 :: cb_110_20
noncomputable def cb_110_10 : List Instr := .aload 0 :: .getfield 18 :: .istore 3 :: .iload 2 :: .iconst 1 :: .isub :: .istore 4 :: cb_110_17
noncomputable def cb_110_8 : List Instr := .iconst (-1) :: .ireturn :: cb_110_10
noncomputable def cb_110_5 : List Instr := .iload 1 :: .iload 2 :: .if_icmp .lt 10 :: cb_110_8
noncomputable def cb_110_0 : List Instr := .aload 0 :: .invokeinterface 108 0 :: .istore 2 :: .iload 1 :: .ifCond .lt 8 :: cb_110_5
-- 111: FogWatch$Gather.isAim(II)Z
noncomputable def cb_111_11 : List Instr := .freturn :: []
noncomputable def cb_111_10 : List Instr := .iconst 0 :: cb_111_11
noncomputable def cb_111_8 : List Instr := .iconst 1 :: .goto 11 :: cb_111_10
noncomputable def cb_111_5 : List Instr := .iload 0 :: .iload 1 :: .if_icmp .ne 10 :: cb_111_8
noncomputable def cb_111_2 : List Instr := .iload 0 :: .multianewarray 195 3 :: .goto 11 :: cb_111_5
noncomputable def cb_111_0 : List Instr := .iload 1 :: .ifCond .ne 5 :: cb_111_2
-- 112: FogWatch$Gather.start(I)V
noncomputable def cb_112_0 : List Instr := .aload 0 :: .getfield 3 :: .iconst (-1) :: .multianewarray 2 4 :: .aload 0 :: .iconst 0 :: .putfield 12 :: .aload 0 :: .iload 1 :: .iconst 0 :: .invokeinterface 113 128 :: .return_ :: []
-- 113: FogWatch$Gather.add(II)V
noncomputable def cb_113_26 : List Instr := .return_ :: []
noncomputable def cb_113_9 : List Instr := .aload 0 :: .getfield 3 :: .iload 1 :: .iload 2 :: .iastore :: .aload 0 :: .getfield 1 :: .aload 0 :: .getfield 12 :: .iload 1 :: .iastore :: .aload 0 :: .dup :: .getfield 12 :: .iconst 1 :: .iadd :: .putfield 12 :: cb_113_26
noncomputable def cb_113_5 : List Instr := .aload 0 :: .getfield 12 :: .iconst 1024 :: .if_icmp .ge 26 :: cb_113_9
noncomputable def cb_113_2 : List Instr := .iload 1 :: .iconst 1024 :: .if_icmp .ge 26 :: cb_113_5
noncomputable def cb_113_0 : List Instr := .iload 1 :: .ifCond .lt 26 :: cb_113_2
-- 114: FogWatch$Gather.isNew(I)Z
noncomputable def cb_114_14 : List Instr := .freturn :: []
noncomputable def cb_114_13 : List Instr := .iconst 0 :: cb_114_14
noncomputable def cb_114_11 : List Instr := .iconst 1 :: .goto 14 :: cb_114_13
noncomputable def cb_114_5 : List Instr := .aload 0 :: .getfield 3 :: .iload 1 :: .iaload :: .iconst (-1) :: .if_icmp .ne 13 :: cb_114_11
noncomputable def cb_114_2 : List Instr := .iload 1 :: .iconst 1024 :: .if_icmp .ge 13 :: cb_114_5
noncomputable def cb_114_0 : List Instr := .iload 1 :: .ifCond .lt 13 :: cb_114_2
-- 115: FogWatch$Gather.search(LFogWatch$Streets;II)I
noncomputable def cb_115_67 : List Instr := .iconst (-1) :: .ireturn :: []
noncomputable def cb_115_65 : List Instr := .iinc 4 1 :: .goto 11 :: cb_115_67
noncomputable def cb_115_63 : List Instr := .iinc 6 1 :: .goto 25 :: cb_115_65
noncomputable def cb_115_61 : List Instr := .iload 7 :: .ireturn :: cb_115_63
noncomputable def cb_115_38 : List Instr := .aload 0 :: .getfield 5 :: .iload 7 :: .iload 5 :: .iastore :: .aload 0 :: .getfield 7 :: .iload 7 :: .iload 6 :: .iastore :: .aload 0 :: .iload 7 :: .aload 0 :: .getfield 3 :: .iload 5 :: .iaload :: .iconst 1 :: .iadd :: .invokeinterface 113 128 :: .iload 7 :: .iload 3 :: .multianewarray 111 4 :: .ifCond .eq 63 :: cb_115_61
noncomputable def cb_115_37 : List Instr := .goto 63 :: cb_115_38
noncomputable def cb_115_28 : List Instr := .aload 1 :: .iload 5 :: .iload 6 :: .invokeinterface 96 135 :: .istore 7 :: .aload 0 :: .iload 7 :: .invokeinterface 114 64 :: .ifCond .ne 38 :: cb_115_37
noncomputable def cb_115_25 : List Instr := .iload 6 :: .iconst 4 :: .if_icmp .ge 65 :: cb_115_28
noncomputable def cb_115_18 : List Instr := .aload 0 :: .getfield 1 :: .iload 4 :: .iaload :: .istore 5 :: .iconst 0 :: .istore 6 :: cb_115_25
noncomputable def cb_115_15 : List Instr := .iload 4 :: .iconst 1024 :: .if_icmp .ge 67 :: cb_115_18
noncomputable def cb_115_11 : List Instr := .iload 4 :: .aload 0 :: .getfield 12 :: .if_icmp .ge 67 :: cb_115_15
noncomputable def cb_115_9 : List Instr := .iconst 0 :: .istore 4 :: cb_115_11
noncomputable def cb_115_7 : List Instr := .iload 2 :: .ireturn :: cb_115_9
noncomputable def cb_115_0 : List Instr := .aload 0 :: .iload 2 :: .invokeinterface 112 64 :: .iload 2 :: .iload 3 :: .multianewarray 111 4 :: .ifCond .eq 9 :: cb_115_7
-- 116: FogWatch$Gather.cheapest(LFogWatch$Streets;I)I
noncomputable def cb_116_67 : List Instr := .iconst (-1) :: .ireturn :: []
noncomputable def cb_116_65 : List Instr := .iinc 3 1 :: .goto 16 :: cb_116_67
noncomputable def cb_116_63 : List Instr := .iload 5 :: .ireturn :: cb_116_65
noncomputable def cb_116_56 : List Instr := .aload 0 :: .iload 6 :: .iload 5 :: .invokeinterface 113 128 :: .iload 6 :: .multianewarray 195 3 :: .ifCond .eq 65 :: cb_116_63
noncomputable def cb_116_29 : List Instr := .aload 0 :: .iload 4 :: .invokeinterface 118 64 :: .istore 5 :: .aload 1 :: .aload 0 :: .getfield 1 :: .aload 0 :: .getfield 9 :: .iload 4 :: .iaload :: .iaload :: .iload 4 :: .invokeinterface 96 135 :: .istore 6 :: .aload 0 :: .getfield 9 :: .iload 4 :: .dup2 :: .iaload :: .iconst 1 :: .iadd :: .iastore :: .aload 0 :: .iload 6 :: .invokeinterface 114 64 :: .ifCond .eq 65 :: cb_116_56
noncomputable def cb_116_27 : List Instr := .iconst (-1) :: .ireturn :: cb_116_29
noncomputable def cb_116_24 : List Instr := .iload 4 :: .iconst 4 :: .if_icmp .lt 29 :: cb_116_27
noncomputable def cb_116_19 : List Instr := .aload 0 :: .invokeinterface 117 0 :: .istore 4 :: .iload 4 :: .ifCond .lt 27 :: cb_116_24
noncomputable def cb_116_16 : List Instr := .iload 3 :: .iconst 4096 :: .if_icmp .ge 67 :: cb_116_19
noncomputable def cb_116_14 : List Instr := .iconst 0 :: .istore 3 :: cb_116_16
noncomputable def cb_116_12 : List Instr := .iconst 0 :: .ireturn :: cb_116_14
noncomputable def cb_116_0 : List Instr := .aload 0 :: .invokeinterface 106 0 :: .aload 0 :: .iload 2 :: .invokeinterface 112 64 :: .aload 0 :: .getfield 9 :: .iconst 0 :: .multianewarray 2 4 :: .iload 2 :: .multianewarray 195 3 :: .ifCond .eq 14 :: cb_116_12
-- 117: FogWatch$Gather.cheapestWhistle()I
noncomputable def cb_117_22 : List Instr := .iload 1 :: .ireturn :: []
noncomputable def cb_117_20 : List Instr := .iinc 3 1 :: .goto 6 :: cb_117_22
noncomputable def cb_117_16 : List Instr := .iload 3 :: .istore 1 :: .iload 4 :: .istore 2 :: cb_117_20
noncomputable def cb_117_9 : List Instr := .aload 0 :: .iload 3 :: .invokeinterface 118 64 :: .istore 4 :: .iload 4 :: .iload 2 :: .if_icmp .ge 20 :: cb_117_16
noncomputable def cb_117_6 : List Instr := .iload 3 :: .iconst 4 :: .if_icmp .ge 22 :: cb_117_9
noncomputable def cb_117_0 : List Instr := .iconst (-1) :: .istore 1 :: .iconst 2147483647 :: .istore 2 :: .iconst 0 :: .istore 3 :: cb_117_6
-- 118: FogWatch$Gather.priceBehindHead(I)I
noncomputable def cb_118_16 : List Instr := .aload 0 :: .getfield 3 :: .aload 0 :: .getfield 1 :: .iload 2 :: .iaload :: .iaload :: .aload 0 :: .getfield 11 :: .iload 1 :: .iaload :: .iadd :: .ireturn :: []
noncomputable def cb_118_14 : List Instr := .iconst 2147483647 :: .ireturn :: cb_118_16
noncomputable def cb_118_11 : List Instr := .iload 2 :: .iconst 1024 :: .if_icmp .lt 16 :: cb_118_14
noncomputable def cb_118_7 : List Instr := .iload 2 :: .aload 0 :: .getfield 12 :: .if_icmp .ge 14 :: cb_118_11
noncomputable def cb_118_0 : List Instr := .aload 0 :: .getfield 9 :: .iload 1 :: .iaload :: .istore 2 :: .iload 2 :: .ifCond .lt 14 :: cb_118_7
-- 119: FogWatch$Pairs.<init>()V
noncomputable def cb_119_0 : List Instr := .aload 0 :: .invokespecial 0 :: .aload 0 :: .iconst 100 :: .newarray .int :: .putfield 385 :: .return_ :: []
-- 120: FogWatch$Pairs.markOf(II)I
noncomputable def cb_120_19 : List Instr := .ireturn :: []
noncomputable def cb_120_18 : List Instr := .iconst (-1) :: cb_120_19
noncomputable def cb_120_13 : List Instr := .aload 0 :: .getfield 385 :: .iload 3 :: .iaload :: .goto 19 :: cb_120_18
noncomputable def cb_120_8 : List Instr := .iload 3 :: .aload 0 :: .getfield 385 :: .arraylength :: .if_icmp .ge 18 :: cb_120_13
noncomputable def cb_120_0 : List Instr := .iload 1 :: .iconst 10 :: .imul :: .iload 2 :: .iadd :: .istore 3 :: .iload 3 :: .ifCond .lt 18 :: cb_120_8
-- 121: FogWatch$Pairs.setBoth(III)V
noncomputable def cb_121_0 : List Instr := .aload 0 :: .iload 1 :: .iload 2 :: .iload 3 :: .invokeinterface 122 195 :: .aload 0 :: .iload 2 :: .iload 1 :: .iload 3 :: .invokeinterface 122 195 :: .return_ :: []
-- 122: FogWatch$Pairs.setMark(III)V
noncomputable def cb_122_18 : List Instr := .return_ :: []
noncomputable def cb_122_13 : List Instr := .aload 0 :: .getfield 385 :: .iload 4 :: .iload 3 :: .iastore :: cb_122_18
noncomputable def cb_122_8 : List Instr := .iload 4 :: .aload 0 :: .getfield 385 :: .arraylength :: .if_icmp .ge 18 :: cb_122_13
noncomputable def cb_122_0 : List Instr := .iload 1 :: .iconst 10 :: .imul :: .iload 2 :: .iadd :: .istore 4 :: .iload 4 :: .ifCond .lt 18 :: cb_122_8
-- 123: FogWatch$Pairs.unmarkedWith(II)I
noncomputable def cb_123_21 : List Instr := .iload 3 :: .ireturn :: []
noncomputable def cb_123_19 : List Instr := .iinc 4 1 :: .goto 4 :: cb_123_21
noncomputable def cb_123_13 : List Instr := .iload 3 :: .iconst 1 :: .iload 4 :: .ishl :: .ior :: .istore 3 :: cb_123_19
noncomputable def cb_123_7 : List Instr := .aload 0 :: .iload 1 :: .iload 4 :: .invokeinterface 120 131 :: .iconst (-1) :: .if_icmp .ne 19 :: cb_123_13
noncomputable def cb_123_4 : List Instr := .iload 4 :: .iload 2 :: .if_icmp .ge 21 :: cb_123_7
noncomputable def cb_123_0 : List Instr := .iconst 0 :: .istore 3 :: .iconst 0 :: .istore 4 :: cb_123_4
-- 124: FogWatch$Pairs.markBehind(LFogWatch$Streets;III)I
noncomputable def cb_124_0 : List Instr := .aload 0 :: .aload 1 :: .iload 2 :: .iload 4 :: .invokeinterface 94 135 :: .aload 1 :: .iload 3 :: .iload 4 :: .invokeinterface 94 135 :: .invokeinterface 120 131 :: .ireturn :: []
-- 125: FogWatch$Pairs.tellApart(LFogWatch$Streets;LFogWatch$Town;)V
noncomputable def cb_125_51 : List Instr := .return_ :: []
noncomputable def cb_125_44 : List Instr := .aload 0 :: .aload 1 :: .iload 4 :: .invokeinterface 126 131 :: .istore 3 :: .iinc 4 1 :: .goto 39 :: cb_125_51
noncomputable def cb_125_42 : List Instr := .iload 3 :: .ifCond .eq 51 :: cb_125_44
noncomputable def cb_125_39 : List Instr := .iload 4 :: .iconst 100 :: .if_icmp .gt 51 :: cb_125_42
noncomputable def cb_125_35 : List Instr := .iconst 1 :: .istore 3 :: .iconst 1 :: .istore 4 :: cb_125_39
noncomputable def cb_125_33 : List Instr := .iinc 3 1 :: .goto 2 :: cb_125_35
noncomputable def cb_125_30 : List Instr := .invokeinterface 121 195 :: .iinc 4 1 :: .goto 8 :: cb_125_33
noncomputable def cb_125_29 : List Instr := .iconst (-1) :: cb_125_30
noncomputable def cb_125_27 : List Instr := .iconst 0 :: .goto 30 :: cb_125_29
noncomputable def cb_125_21 : List Instr := .istore 5 :: .aload 0 :: .iload 3 :: .iload 4 :: .iload 5 :: .ifCond .eq 29 :: cb_125_27
noncomputable def cb_125_20 : List Instr := .iconst 0 :: cb_125_21
noncomputable def cb_125_18 : List Instr := .iconst 1 :: .goto 21 :: cb_125_20
noncomputable def cb_125_11 : List Instr := .aload 2 :: .iload 3 :: .invokeinterface 40 73 :: .aload 2 :: .iload 4 :: .invokeinterface 40 73 :: .if_icmp .eq 20 :: cb_125_18
noncomputable def cb_125_8 : List Instr := .iload 4 :: .iload 3 :: .if_icmp .gt 33 :: cb_125_11
noncomputable def cb_125_6 : List Instr := .iconst 0 :: .istore 4 :: cb_125_8
noncomputable def cb_125_2 : List Instr := .iload 3 :: .aload 1 :: .getfield 896 :: .if_icmp .ge 35 :: cb_125_6
noncomputable def cb_125_0 : List Instr := .iconst 0 :: .istore 3 :: cb_125_2
-- 126: FogWatch$Pairs.tellBy(LFogWatch$Streets;I)Z
noncomputable def cb_126_39 : List Instr := .iload 3 :: .freturn :: []
noncomputable def cb_126_37 : List Instr := .iinc 4 1 :: .goto 4 :: cb_126_39
noncomputable def cb_126_35 : List Instr := .iinc 5 1 :: .goto 10 :: cb_126_37
noncomputable def cb_126_28 : List Instr := .aload 0 :: .iload 4 :: .iload 5 :: .iload 2 :: .invokeinterface 121 195 :: .iconst 1 :: .istore 3 :: cb_126_35
noncomputable def cb_126_19 : List Instr := .aload 0 :: .aload 1 :: .iload 4 :: .iload 5 :: .iload 2 :: .iconst 1 :: .isub :: .invokeinterface 127 259 :: .ifCond .eq 35 :: cb_126_28
noncomputable def cb_126_13 : List Instr := .aload 0 :: .iload 4 :: .iload 5 :: .invokeinterface 120 131 :: .iconst (-1) :: .if_icmp .ne 35 :: cb_126_19
noncomputable def cb_126_10 : List Instr := .iload 5 :: .iload 4 :: .if_icmp .gt 37 :: cb_126_13
noncomputable def cb_126_8 : List Instr := .iconst 0 :: .istore 5 :: cb_126_10
noncomputable def cb_126_4 : List Instr := .iload 4 :: .aload 1 :: .getfield 896 :: .if_icmp .ge 39 :: cb_126_8
noncomputable def cb_126_0 : List Instr := .iconst 0 :: .istore 3 :: .iconst 0 :: .istore 4 :: cb_126_4
-- 127: FogWatch$Pairs.leadsToMark(LFogWatch$Streets;III)Z
noncomputable def cb_127_17 : List Instr := .iconst 0 :: .freturn :: []
noncomputable def cb_127_15 : List Instr := .iinc 5 1 :: .goto 2 :: cb_127_17
noncomputable def cb_127_13 : List Instr := .iconst 1 :: .freturn :: cb_127_15
noncomputable def cb_127_5 : List Instr := .aload 0 :: .aload 1 :: .iload 2 :: .iload 3 :: .iload 5 :: .invokeinterface 124 259 :: .iload 4 :: .if_icmp .ne 15 :: cb_127_13
noncomputable def cb_127_2 : List Instr := .iload 5 :: .iconst 4 :: .if_icmp .ge 17 :: cb_127_5
noncomputable def cb_127_0 : List Instr := .iconst 0 :: .istore 5 :: cb_127_2
-- 128: FogWatch$Pairs.allLeadToMark(LFogWatch$Streets;III)Z
noncomputable def cb_128_17 : List Instr := .iconst 1 :: .freturn :: []
noncomputable def cb_128_15 : List Instr := .iinc 5 1 :: .goto 2 :: cb_128_17
noncomputable def cb_128_13 : List Instr := .iconst 0 :: .freturn :: cb_128_15
noncomputable def cb_128_5 : List Instr := .aload 0 :: .aload 1 :: .iload 2 :: .iload 3 :: .iload 5 :: .invokeinterface 124 259 :: .iload 4 :: .if_icmp .eq 15 :: cb_128_13
noncomputable def cb_128_2 : List Instr := .iload 5 :: .iconst 4 :: .if_icmp .ge 17 :: cb_128_5
noncomputable def cb_128_0 : List Instr := .iconst 0 :: .istore 5 :: cb_128_2
-- 129: FogWatch$Pairs.playTurns(LFogWatch$Streets;)V
noncomputable def cb_129_40 : List Instr := .return_ :: []
noncomputable def cb_129_34 : List Instr := .aload 0 :: .aload 1 :: .invokeinterface 130 67 :: .istore 2 :: .iinc 3 1 :: .goto 29 :: cb_129_40
noncomputable def cb_129_32 : List Instr := .iload 2 :: .ifCond .eq 40 :: cb_129_34
noncomputable def cb_129_29 : List Instr := .iload 3 :: .iconst 100 :: .if_icmp .gt 40 :: cb_129_32
noncomputable def cb_129_25 : List Instr := .iconst 1 :: .istore 2 :: .iconst 0 :: .istore 3 :: cb_129_29
noncomputable def cb_129_23 : List Instr := .iinc 2 1 :: .goto 2 :: cb_129_25
noncomputable def cb_129_20 : List Instr := .invokeinterface 121 195 :: .iinc 3 1 :: .goto 8 :: cb_129_23
noncomputable def cb_129_19 : List Instr := .iconst 0 :: cb_129_20
noncomputable def cb_129_17 : List Instr := .iconst 2 :: .goto 20 :: cb_129_19
noncomputable def cb_129_11 : List Instr := .aload 0 :: .iload 2 :: .iload 3 :: .iload 2 :: .iload 3 :: .if_icmp .ne 19 :: cb_129_17
noncomputable def cb_129_8 : List Instr := .iload 3 :: .iload 2 :: .if_icmp .gt 23 :: cb_129_11
noncomputable def cb_129_6 : List Instr := .iconst 0 :: .istore 3 :: cb_129_8
noncomputable def cb_129_2 : List Instr := .iload 2 :: .aload 1 :: .getfield 896 :: .if_icmp .ge 25 :: cb_129_6
noncomputable def cb_129_0 : List Instr := .iconst 0 :: .istore 2 :: cb_129_2
-- 130: FogWatch$Pairs.settleTurns(LFogWatch$Streets;)Z
noncomputable def cb_130_41 : List Instr := .iload 2 :: .freturn :: []
noncomputable def cb_130_39 : List Instr := .iinc 3 1 :: .goto 4 :: cb_130_41
noncomputable def cb_130_37 : List Instr := .iinc 4 1 :: .goto 10 :: cb_130_39
noncomputable def cb_130_36 : List Instr := .istore 2 :: cb_130_37
noncomputable def cb_130_35 : List Instr := .iconst 0 :: cb_130_36
noncomputable def cb_130_33 : List Instr := .iconst 1 :: .goto 36 :: cb_130_35
noncomputable def cb_130_31 : List Instr := .iload 5 :: .ifCond .eq 35 :: cb_130_33
noncomputable def cb_130_18 : List Instr := .aload 0 :: .aload 1 :: .iload 3 :: .iload 4 :: .invokeinterface 131 195 :: .istore 5 :: .aload 0 :: .iload 3 :: .iload 4 :: .iload 5 :: .invokeinterface 121 195 :: .iload 2 :: .ifCond .ne 33 :: cb_130_31
noncomputable def cb_130_13 : List Instr := .aload 0 :: .iload 3 :: .iload 4 :: .invokeinterface 120 131 :: .ifCond .ne 37 :: cb_130_18
noncomputable def cb_130_10 : List Instr := .iload 4 :: .iload 3 :: .if_icmp .gt 39 :: cb_130_13
noncomputable def cb_130_8 : List Instr := .iconst 0 :: .istore 4 :: cb_130_10
noncomputable def cb_130_4 : List Instr := .iload 3 :: .aload 1 :: .getfield 896 :: .if_icmp .ge 41 :: cb_130_8
noncomputable def cb_130_0 : List Instr := .iconst 0 :: .istore 2 :: .iconst 0 :: .istore 3 :: cb_130_4
-- 131: FogWatch$Pairs.winner(LFogWatch$Streets;II)I
noncomputable def cb_131_19 : List Instr := .ireturn :: []
noncomputable def cb_131_18 : List Instr := .iconst 0 :: cb_131_19
noncomputable def cb_131_16 : List Instr := .iconst 2 :: .goto 19 :: cb_131_18
noncomputable def cb_131_9 : List Instr := .aload 0 :: .aload 1 :: .iload 2 :: .iload 3 :: .iconst 1 :: .invokeinterface 128 259 :: .ifCond .eq 18 :: cb_131_16
noncomputable def cb_131_7 : List Instr := .iconst 1 :: .ireturn :: cb_131_9
noncomputable def cb_131_0 : List Instr := .aload 0 :: .aload 1 :: .iload 2 :: .iload 3 :: .iconst 2 :: .invokeinterface 127 259 :: .ifCond .eq 9 :: cb_131_7
-- 132: FogWatch$Listener.<init>()V
noncomputable def cb_132_0 : List Instr := .aload 0 :: .invokespecial 0 :: .aload 0 :: .iconst 10 :: .newarray .int :: .putfield 257 :: .aload 0 :: .iconst 11 :: .newarray .int :: .putfield 259 :: .aload 0 :: .iconst 10 :: .newarray .int :: .putfield 261 :: .aload 0 :: .iconst (-1) :: .putfield 262 :: .aload 0 :: .iconst (-1) :: .putfield 264 :: .return_ :: []
-- 133: FogWatch$Listener.hear(LFogWatch$Streets;LFogWatch$Town;LFogWatch$Tune;LFogWatch$Tune;)V
noncomputable def cb_133_23 : List Instr := .return_ :: []
noncomputable def cb_133_11 : List Instr := .aload 0 :: .getfield 257 :: .iload 5 :: .iload 5 :: .aload 1 :: .aload 2 :: .aload 3 :: .aload 4 :: .multianewarray 134 10 :: .iastore :: .iinc 5 1 :: .goto 2 :: cb_133_23
noncomputable def cb_133_6 : List Instr := .iload 5 :: .aload 0 :: .getfield 257 :: .arraylength :: .if_icmp .ge 23 :: cb_133_11
noncomputable def cb_133_2 : List Instr := .iload 5 :: .aload 2 :: .getfield 1152 :: .if_icmp .ge 23 :: cb_133_6
noncomputable def cb_133_0 : List Instr := .iconst 0 :: .istore 5 :: cb_133_2
-- 134: FogWatch$Listener.endOf(ILFogWatch$Streets;LFogWatch$Town;LFogWatch$Tune;LFogWatch$Tune;)I
noncomputable def cb_134_37 : List Instr := .iload 5 :: .ireturn :: []
noncomputable def cb_134_35 : List Instr := .iinc 7 1 :: .goto 10 :: cb_134_37
noncomputable def cb_134_33 : List Instr := .iconst (-1) :: .ireturn :: cb_134_35
noncomputable def cb_134_19 : List Instr := .aload 1 :: .iload 5 :: .aload 3 :: .iload 7 :: .invokeinterface 53 74 :: .invokeinterface 94 135 :: .istore 5 :: .aload 2 :: .iload 5 :: .invokeinterface 40 73 :: .aload 4 :: .iload 7 :: .invokeinterface 53 74 :: .if_icmp .eq 35 :: cb_134_33
noncomputable def cb_134_17 : List Instr := .iconst (-1) :: .ireturn :: cb_134_19
noncomputable def cb_134_13 : List Instr := .aload 1 :: .iload 5 :: .invokeinterface 95 71 :: .ifCond .eq 19 :: cb_134_17
noncomputable def cb_134_10 : List Instr := .iload 7 :: .iload 6 :: .if_icmp .ge 37 :: cb_134_13
noncomputable def cb_134_0 : List Instr := .iload 0 :: .istore 5 :: .aload 3 :: .getfield 1282 :: .aload 4 :: .getfield 1282 :: .invokedynamic 1 :: .istore 6 :: .iconst 0 :: .istore 7 :: cb_134_10
-- 135: FogWatch$Listener.fitting(I)I
noncomputable def cb_135_26 : List Instr := .iload 2 :: .ireturn :: []
noncomputable def cb_135_24 : List Instr := .iinc 3 1 :: .goto 4 :: cb_135_26
noncomputable def cb_135_18 : List Instr := .iload 2 :: .iconst 1 :: .iload 3 :: .ishl :: .ior :: .istore 2 :: cb_135_24
noncomputable def cb_135_12 : List Instr := .aload 0 :: .getfield 257 :: .iload 3 :: .iaload :: .iconst (-1) :: .if_icmp .eq 24 :: cb_135_18
noncomputable def cb_135_7 : List Instr := .iload 3 :: .aload 0 :: .getfield 257 :: .arraylength :: .if_icmp .ge 26 :: cb_135_12
noncomputable def cb_135_4 : List Instr := .iload 3 :: .iload 1 :: .if_icmp .ge 26 :: cb_135_7
noncomputable def cb_135_0 : List Instr := .iconst 0 :: .istore 2 :: .iconst 0 :: .istore 3 :: cb_135_4
-- 136: FogWatch$Listener.endings(I)I
noncomputable def cb_136_29 : List Instr := .iload 2 :: .ireturn :: []
noncomputable def cb_136_27 : List Instr := .iinc 3 1 :: .goto 4 :: cb_136_29
noncomputable def cb_136_18 : List Instr := .iload 2 :: .iconst 1 :: .aload 0 :: .getfield 257 :: .iload 3 :: .iaload :: .ishl :: .ior :: .istore 2 :: cb_136_27
noncomputable def cb_136_12 : List Instr := .aload 0 :: .getfield 257 :: .iload 3 :: .iaload :: .iconst (-1) :: .if_icmp .eq 27 :: cb_136_18
noncomputable def cb_136_7 : List Instr := .iload 3 :: .aload 0 :: .getfield 257 :: .arraylength :: .if_icmp .ge 29 :: cb_136_12
noncomputable def cb_136_4 : List Instr := .iload 3 :: .iload 1 :: .if_icmp .ge 29 :: cb_136_7
noncomputable def cb_136_0 : List Instr := .iconst 0 :: .istore 2 :: .iconst 0 :: .istore 3 :: cb_136_4
-- 137: FogWatch$Listener.chooseWhistle(LFogWatch$Streets;LFogWatch$Town;)V
noncomputable def cb_137_29 : List Instr := .return_ :: []
noncomputable def cb_137_27 : List Instr := .iinc 3 1 :: .goto 8 :: cb_137_29
noncomputable def cb_137_21 : List Instr := .aload 0 :: .iload 4 :: .putfield 264 :: .aload 0 :: .iload 3 :: .putfield 262 :: cb_137_27
noncomputable def cb_137_11 : List Instr := .aload 0 :: .aload 1 :: .aload 2 :: .iload 3 :: .invokeinterface 138 194 :: .istore 4 :: .iload 4 :: .aload 0 :: .getfield 264 :: .if_icmp .ge 27 :: cb_137_21
noncomputable def cb_137_8 : List Instr := .iload 3 :: .iconst 4 :: .if_icmp .ge 29 :: cb_137_11
noncomputable def cb_137_0 : List Instr := .aload 0 :: .iconst (-1) :: .putfield 262 :: .aload 0 :: .iconst 2147483647 :: .putfield 264 :: .iconst 0 :: .istore 3 :: cb_137_8
-- 138: FogWatch$Listener.mostLeft(LFogWatch$Streets;LFogWatch$Town;I)I
noncomputable def cb_138_49 : List Instr := .iload 4 :: .ireturn :: []
noncomputable def cb_138_47 : List Instr := .iinc 5 1 :: .goto 8 :: cb_138_49
noncomputable def cb_138_23 : List Instr := .aload 1 :: .aload 2 :: .aload 0 :: .getfield 257 :: .iload 5 :: .iaload :: .iload 3 :: .multianewarray 139 8 :: .istore 6 :: .aload 0 :: .getfield 259 :: .iload 6 :: .dup2 :: .iaload :: .iconst 1 :: .iadd :: .iastore :: .iload 4 :: .aload 0 :: .getfield 259 :: .iload 6 :: .iaload :: .invokedynamic 0 :: .istore 4 :: cb_138_47
noncomputable def cb_138_17 : List Instr := .aload 0 :: .getfield 257 :: .iload 5 :: .iaload :: .iconst (-1) :: .if_icmp .eq 47 :: cb_138_23
noncomputable def cb_138_12 : List Instr := .iload 5 :: .aload 0 :: .getfield 257 :: .arraylength :: .if_icmp .ge 49 :: cb_138_17
noncomputable def cb_138_8 : List Instr := .iload 5 :: .aload 2 :: .getfield 1152 :: .if_icmp .ge 49 :: cb_138_12
noncomputable def cb_138_0 : List Instr := .aload 0 :: .getfield 259 :: .iconst 0 :: .multianewarray 2 4 :: .iconst 0 :: .istore 4 :: .iconst 0 :: .istore 5 :: cb_138_8
-- 139: FogWatch$Listener.bellBehind(LFogWatch$Streets;LFogWatch$Town;II)I
noncomputable def cb_139_21 : List Instr := .ireturn :: []
noncomputable def cb_139_20 : List Instr := .iconst 10 :: cb_139_21
noncomputable def cb_139_18 : List Instr := .iload 4 :: .goto 21 :: cb_139_20
noncomputable def cb_139_15 : List Instr := .iload 4 :: .iconst 10 :: .if_icmp .ge 20 :: cb_139_18
noncomputable def cb_139_6 : List Instr := .aload 1 :: .aload 0 :: .iload 2 :: .iload 3 :: .invokeinterface 94 135 :: .invokeinterface 40 73 :: .istore 4 :: .iload 4 :: .ifCond .lt 20 :: cb_139_15
noncomputable def cb_139_4 : List Instr := .iconst 10 :: .ireturn :: cb_139_6
noncomputable def cb_139_0 : List Instr := .aload 0 :: .iload 2 :: .invokeinterface 95 71 :: .ifCond .eq 6 :: cb_139_4
-- 140: FogWatch$Listener.roundOf(LFogWatch$Streets;LFogWatch$Tune;IZ)I
noncomputable def cb_140_47 : List Instr := .iconst (-1) :: .ireturn :: []
noncomputable def cb_140_35 : List Instr := .aload 0 :: .getfield 261 :: .iload 5 :: .iload 6 :: .iastore :: .aload 1 :: .iload 5 :: .aload 2 :: .invokeinterface 98 135 :: .istore 5 :: .iinc 6 1 :: .goto 8 :: cb_140_47
noncomputable def cb_140_34 : List Instr := .ireturn :: cb_140_35
noncomputable def cb_140_28 : List Instr := .iload 6 :: .aload 0 :: .getfield 261 :: .iload 5 :: .iaload :: .isub :: cb_140_34
noncomputable def cb_140_26 : List Instr := .iload 6 :: .goto 34 :: cb_140_28
noncomputable def cb_140_24 : List Instr := .iload 4 :: .ifCond .eq 28 :: cb_140_26
noncomputable def cb_140_18 : List Instr := .aload 0 :: .getfield 261 :: .iload 5 :: .iaload :: .iconst (-1) :: .if_icmp .eq 35 :: cb_140_24
noncomputable def cb_140_13 : List Instr := .iload 5 :: .aload 0 :: .getfield 261 :: .arraylength :: .if_icmp .ge 47 :: cb_140_18
noncomputable def cb_140_11 : List Instr := .iload 5 :: .ifCond .lt 47 :: cb_140_13
noncomputable def cb_140_8 : List Instr := .iload 6 :: .iconst 10 :: .if_icmp .gt 47 :: cb_140_11
noncomputable def cb_140_0 : List Instr := .aload 0 :: .getfield 261 :: .iconst (-1) :: .multianewarray 2 4 :: .iload 3 :: .istore 5 :: .iconst 0 :: .istore 6 :: cb_140_8
-- 141: FogWatch.<init>()V
noncomputable def cb_141_109 : List Instr := .aload 0 :: .getfield 1427 :: .aload 0 :: .getfield 1411 :: .invokeinterface 86 70 :: .return_ :: []
noncomputable def cb_141_100 : List Instr := .aload 0 :: .getfield 1429 :: .iload 1 :: .new 6 :: .dup :: .invokeinterface 85 38 :: .aastore :: .iinc 1 1 :: .goto 95 :: cb_141_109
noncomputable def cb_141_95 : List Instr := .iload 1 :: .aload 0 :: .getfield 1429 :: .arraylength :: .if_icmp .ge 109 :: cb_141_100
noncomputable def cb_141_0 : List Instr := .aload 0 :: .invokespecial 0 :: .aload 0 :: .new 8 :: .dup :: .invokeinterface 10 40 :: .putfield 1409 :: .aload 0 :: .new 9 :: .dup :: .invokeinterface 39 41 :: .putfield 1411 :: .aload 0 :: .new 9 :: .dup :: .invokeinterface 39 41 :: .putfield 1413 :: .aload 0 :: .new 1 :: .dup :: .invokeinterface 26 33 :: .putfield 1415 :: .aload 0 :: .new 1 :: .dup :: .invokeinterface 26 33 :: .putfield 1417 :: .aload 0 :: .new 5 :: .dup :: .invokeinterface 73 37 :: .putfield 1419 :: .aload 0 :: .new 10 :: .dup :: .invokeinterface 51 42 :: .putfield 1421 :: .aload 0 :: .new 10 :: .dup :: .invokeinterface 51 42 :: .putfield 1423 :: .aload 0 :: .new 10 :: .dup :: .invokeinterface 51 42 :: .putfield 1425 :: .aload 0 :: .new 6 :: .dup :: .invokeinterface 85 38 :: .putfield 1427 :: .aload 0 :: .iconst 3 :: .anewarray 4 :: .putfield 1429 :: .aload 0 :: .iconst 0 :: .putfield 1430 :: .aload 0 :: .new 7 :: .dup :: .invokeinterface 90 39 :: .putfield 1433 :: .aload 0 :: .new 0 :: .dup :: .invokeinterface 105 32 :: .putfield 1435 :: .aload 0 :: .new 3 :: .dup :: .invokeinterface 119 35 :: .putfield 1437 :: .aload 0 :: .new 2 :: .dup :: .invokeinterface 132 34 :: .putfield 1439 :: .aload 0 :: .new 4 :: .dup :: .invokeinterface 56 36 :: .putfield 1441 :: .aload 0 :: .iconst 0 :: .putfield 1442 :: .aload 0 :: .iconst 0 :: .putfield 1444 :: .aload 0 :: .iconst 0 :: .putfield 1446 :: .iconst 0 :: .istore 1 :: cb_141_95
-- 142: FogWatch.feed(IIIII)I
noncomputable def cb_142_0 : List Instr := .aload 0 :: .getfield 1409 :: .iload 1 :: .iload 2 :: .iload 3 :: .iload 4 :: .iload 5 :: .invokeinterface 11 328 :: .ireturn :: []
-- 143: FogWatch.town(I)I
noncomputable def cb_143_13 : List Instr := .aload 0 :: .getfield 1413 :: .astore 2 :: .aload 0 :: .aload 0 :: .getfield 1411 :: .putfield 1413 :: .aload 0 :: .aload 2 :: .putfield 1411 :: .aload 0 :: .getfield 1415 :: .invokeinterface 27 1 :: .aload 0 :: .getfield 1421 :: .invokeinterface 52 10 :: .aload 0 :: .getfield 1423 :: .invokeinterface 52 10 :: .aload 0 :: .iconst 0 :: .putfield 1430 :: .aload 0 :: .getfield 1427 :: .aload 0 :: .getfield 1411 :: .invokeinterface 86 70 :: .aload 0 :: .getfield 1419 :: .invokeinterface 74 5 :: .aload 0 :: .getfield 1433 :: .invokeinterface 91 7 :: .aload 0 :: .getfield 1411 :: .getfield 1152 :: .ireturn :: []
noncomputable def cb_143_10 : List Instr := .aload 0 :: .invokeinterface 188 11 :: .ireturn :: cb_143_13
noncomputable def cb_143_0 : List Instr := .aload 0 :: .iload 1 :: .iconst 600 :: .invokeinterface 187 139 :: .aload 0 :: .getfield 1413 :: .aload 0 :: .getfield 1409 :: .invokeinterface 44 73 :: .ifCond .ne 13 :: cb_143_10
-- 144: FogWatch.law(I)I
noncomputable def cb_144_13 : List Instr := .aload 0 :: .getfield 1417 :: .astore 2 :: .aload 0 :: .aload 0 :: .getfield 1415 :: .putfield 1417 :: .aload 0 :: .aload 2 :: .putfield 1415 :: .iconst 1 :: .ireturn :: []
noncomputable def cb_144_10 : List Instr := .aload 0 :: .invokeinterface 188 11 :: .ireturn :: cb_144_13
noncomputable def cb_144_0 : List Instr := .aload 0 :: .iload 1 :: .iconst 150 :: .invokeinterface 187 139 :: .aload 0 :: .getfield 1417 :: .aload 0 :: .getfield 1409 :: .invokeinterface 29 65 :: .ifCond .ne 13 :: cb_144_10
-- 145: FogWatch.work(I)I
noncomputable def cb_145_22 : List Instr := .aload 0 :: .getfield 1427 :: .invokeinterface 87 6 :: .aload 0 :: .getfield 1419 :: .aload 0 :: .getfield 1427 :: .getfield 769 :: .aload 0 :: .getfield 1411 :: .aload 0 :: .getfield 1415 :: .invokeinterface 82 197 :: .ireturn :: []
noncomputable def cb_145_19 : List Instr := .aload 0 :: .invokeinterface 188 11 :: .ireturn :: cb_145_22
noncomputable def cb_145_11 : List Instr := .aload 0 :: .getfield 1419 :: .aload 0 :: .getfield 1409 :: .aload 0 :: .getfield 1411 :: .invokeinterface 76 133 :: .ifCond .ne 22 :: cb_145_19
noncomputable def cb_145_9 : List Instr := .iconst (-20) :: .ireturn :: cb_145_11
noncomputable def cb_145_0 : List Instr := .aload 0 :: .iload 1 :: .iconst 150 :: .invokeinterface 187 139 :: .aload 0 :: .getfield 1427 :: .getfield 772 :: .iconst 16 :: .if_icmp .lt 11 :: cb_145_9
-- 146: FogWatch.song(I)I
noncomputable def cb_146_14 : List Instr := .aload 0 :: .getfield 1425 :: .astore 2 :: .aload 0 :: .aload 0 :: .getfield 1421 :: .putfield 1425 :: .aload 0 :: .aload 2 :: .putfield 1421 :: .aload 2 :: .getfield 1282 :: .ireturn :: []
noncomputable def cb_146_11 : List Instr := .aload 0 :: .invokeinterface 188 11 :: .ireturn :: cb_146_14
noncomputable def cb_146_0 : List Instr := .aload 0 :: .iload 1 :: .iconst 60 :: .invokeinterface 187 139 :: .aload 0 :: .getfield 1425 :: .aload 0 :: .getfield 1409 :: .iconst 3 :: .invokeinterface 54 138 :: .ifCond .ne 14 :: cb_146_11
-- 147: FogWatch.book(I)I
noncomputable def cb_147_14 : List Instr := .aload 0 :: .getfield 1425 :: .astore 2 :: .aload 0 :: .aload 0 :: .getfield 1423 :: .putfield 1425 :: .aload 0 :: .aload 2 :: .putfield 1423 :: .aload 2 :: .getfield 1282 :: .ireturn :: []
noncomputable def cb_147_11 : List Instr := .aload 0 :: .invokeinterface 188 11 :: .ireturn :: cb_147_14
noncomputable def cb_147_0 : List Instr := .aload 0 :: .iload 1 :: .iconst 60 :: .invokeinterface 187 139 :: .aload 0 :: .getfield 1425 :: .aload 0 :: .getfield 1409 :: .iconst 9 :: .invokeinterface 54 138 :: .ifCond .ne 14 :: cb_147_11
-- 148: FogWatch.fault()I
noncomputable def cb_148_0 : List Instr := .aload 0 :: .getfield 1409 :: .getfield 1036 :: .ireturn :: []
-- 149: FogWatch.undo()I
noncomputable def cb_149_6 : List Instr := .aload 0 :: .getfield 1419 :: .invokeinterface 74 5 :: .aload 0 :: .getfield 1427 :: .getfield 772 :: .ireturn :: []
noncomputable def cb_149_4 : List Instr := .iconst (-1) :: .ireturn :: cb_149_6
noncomputable def cb_149_0 : List Instr := .aload 0 :: .getfield 1427 :: .invokeinterface 88 6 :: .ifCond .ne 6 :: cb_149_4
-- 150: FogWatch.told(I)I
noncomputable def cb_150_52 : List Instr := .aload 2 :: .aload 0 :: .getfield 1411 :: .getfield 1154 :: .invokeinterface 64 68 :: .ireturn :: []
noncomputable def cb_150_48 : List Instr := .aload 0 :: .getfield 1419 :: .getfield 650 :: .ireturn :: cb_150_52
noncomputable def cb_150_44 : List Instr := .aload 0 :: .getfield 1423 :: .getfield 1282 :: .ireturn :: cb_150_48
noncomputable def cb_150_40 : List Instr := .aload 0 :: .getfield 1421 :: .getfield 1282 :: .ireturn :: cb_150_44
noncomputable def cb_150_34 : List Instr := .aload 2 :: .aload 0 :: .getfield 1411 :: .getfield 1154 :: .invokeinterface 62 68 :: .ireturn :: cb_150_40
noncomputable def cb_150_31 : List Instr := .aload 2 :: .getfield 520 :: .ireturn :: cb_150_34
noncomputable def cb_150_28 : List Instr := .aload 2 :: .getfield 518 :: .ireturn :: cb_150_31
noncomputable def cb_150_25 : List Instr := .aload 2 :: .getfield 516 :: .ireturn :: cb_150_28
noncomputable def cb_150_22 : List Instr := .aload 2 :: .getfield 514 :: .ireturn :: cb_150_25
noncomputable def cb_150_19 : List Instr := .aload 2 :: .getfield 512 :: .ireturn :: cb_150_22
noncomputable def cb_150_15 : List Instr := .aload 0 :: .getfield 1411 :: .getfield 1154 :: .ireturn :: cb_150_19
noncomputable def cb_150_11 : List Instr := .aload 0 :: .getfield 1411 :: .getfield 1152 :: .ireturn :: cb_150_15
noncomputable def cb_150_0 : List Instr := .aload 0 :: .iload 1 :: .iconst 0 :: .iconst 11 :: .invokeinterface 184 203 :: .aload 0 :: .getfield 1427 :: .getfield 769 :: .astore 2 :: .iload 1 :: .tableswitch 52 0 10 #[11, 15, 19, 22, 25, 28, 31, 34, 40, 44, 48] :: cb_150_11
-- 151: FogWatch.corner(II)I
noncomputable def cb_151_37 : List Instr := .ireturn :: []
noncomputable def cb_151_29 : List Instr := .aload 3 :: .iconst 1 :: .iload 1 :: .ishl :: .aload 0 :: .getfield 1411 :: .getfield 1154 :: .invokeinterface 63 132 :: cb_151_37
noncomputable def cb_151_22 : List Instr := .aload 3 :: .getfield 516 :: .iload 1 :: .ishr :: .iconst 1 :: .iand :: .goto 37 :: cb_151_29
noncomputable def cb_151_19 : List Instr := .iload 2 :: .iconst 1 :: .if_icmp .ne 29 :: cb_151_22
noncomputable def cb_151_14 : List Instr := .aload 0 :: .getfield 1411 :: .iload 1 :: .invokeinterface 40 73 :: .ireturn :: cb_151_19
noncomputable def cb_151_0 : List Instr := .aload 0 :: .iload 1 :: .invokeinterface 183 75 :: .aload 0 :: .iload 2 :: .iconst 0 :: .iconst 2 :: .invokeinterface 184 203 :: .aload 0 :: .getfield 1427 :: .getfield 769 :: .astore 3 :: .iload 2 :: .ifCond .ne 19 :: cb_151_14
-- 152: FogWatch.way(II)I
noncomputable def cb_152_0 : List Instr := .aload 0 :: .iload 1 :: .invokeinterface 183 75 :: .aload 0 :: .iload 2 :: .invokeinterface 185 75 :: .aload 0 :: .getfield 1411 :: .iload 1 :: .iload 2 :: .invokeinterface 41 137 :: .ireturn :: []
-- 153: FogWatch.man(II)I
noncomputable def cb_153_9 : List Instr := .aload 0 :: .iload 2 :: .iconst 0 :: .iconst 3 :: .invokeinterface 184 203 :: .aload 0 :: .getfield 1427 :: .getfield 769 :: .iload 1 :: .iload 2 :: .invokeinterface 59 132 :: .ireturn :: []
noncomputable def cb_153_7 : List Instr := .aload 0 :: .invokeinterface 182 11 :: cb_153_9
noncomputable def cb_153_2 : List Instr := .iload 1 :: .aload 0 :: .getfield 1411 :: .getfield 1154 :: .if_icmp .lt 9 :: cb_153_7
noncomputable def cb_153_0 : List Instr := .iload 1 :: .ifCond .lt 7 :: cb_153_2
-- 154: FogWatch.cost(I)I
noncomputable def cb_154_0 : List Instr := .aload 0 :: .iload 1 :: .invokeinterface 185 75 :: .aload 0 :: .getfield 1427 :: .getfield 769 :: .iload 1 :: .aload 0 :: .getfield 1411 :: .getfield 1154 :: .aload 0 :: .getfield 1415 :: .invokeinterface 65 196 :: .ireturn :: []
-- 155: FogWatch.would(IIIIIII)I
noncomputable def cb_155_0 : List Instr := .aload 0 :: .iload 1 :: .invokeinterface 185 75 :: .aload 0 :: .iload 2 :: .iconst 0 :: .iconst 999 :: .invokeinterface 184 203 :: .aload 0 :: .iload 3 :: .iconst 0 :: .iconst 999 :: .invokeinterface 184 203 :: .aload 0 :: .iload 4 :: .iconst 0 :: .iconst 10 :: .invokeinterface 184 203 :: .aload 0 :: .iload 5 :: .iconst 0 :: .iconst 5 :: .invokeinterface 184 203 :: .aload 0 :: .iload 6 :: .iconst 0 :: .iconst 400 :: .invokeinterface 184 203 :: .aload 0 :: .iload 7 :: .iconst 0 :: .iconst 200 :: .invokeinterface 184 203 :: .aload 0 :: .getfield 1415 :: .iload 1 :: .iload 2 :: .iload 3 :: .iload 4 :: .iload 5 :: .iload 6 :: .iload 7 :: .invokeinterface 35 449 :: .ireturn :: []
-- 156: FogWatch.ahead(II)I
noncomputable def cb_156_31 : List Instr := .ireturn :: []
noncomputable def cb_156_23 : List Instr := .aload 0 :: .getfield 1427 :: .getfield 769 :: .iload 3 :: .aload 0 :: .getfield 1411 :: .getfield 1154 :: .invokeinterface 63 132 :: cb_156_31
noncomputable def cb_156_21 : List Instr := .iload 3 :: .goto 31 :: cb_156_23
noncomputable def cb_156_0 : List Instr := .aload 0 :: .iload 1 :: .iconst 0 :: .iconst 99 :: .invokeinterface 184 203 :: .aload 0 :: .iload 2 :: .iconst 0 :: .iconst 1 :: .invokeinterface 184 203 :: .aload 0 :: .getfield 1411 :: .aload 0 :: .getfield 1427 :: .getfield 769 :: .getfield 516 :: .iload 1 :: .invokeinterface 43 137 :: .istore 3 :: .iload 2 :: .ifCond .ne 23 :: cb_156_21
-- 157: FogWatch.goes(I)I
noncomputable def cb_157_25 : List Instr := .iload 2 :: .ireturn :: []
noncomputable def cb_157_14 : List Instr := .aload 0 :: .getfield 1433 :: .iload 2 :: .aload 0 :: .getfield 1421 :: .iload 3 :: .invokeinterface 53 74 :: .invokeinterface 96 135 :: .istore 2 :: .iinc 3 1 :: .goto 9 :: cb_157_25
noncomputable def cb_157_9 : List Instr := .iload 3 :: .aload 0 :: .getfield 1421 :: .getfield 1282 :: .if_icmp .ge 25 :: cb_157_14
noncomputable def cb_157_0 : List Instr := .aload 0 :: .iload 1 :: .invokeinterface 186 75 :: .aload 0 :: .invokeinterface 189 11 :: .iload 1 :: .istore 2 :: .iconst 0 :: .istore 3 :: cb_157_9
-- 158: FogWatch.reset(II)I
noncomputable def cb_158_34 : List Instr := .ireturn :: []
noncomputable def cb_158_31 : List Instr := .aload 0 :: .getfield 1435 :: .invokeinterface 109 0 :: cb_158_34
noncomputable def cb_158_27 : List Instr := .aload 0 :: .getfield 1435 :: .invokeinterface 108 0 :: .goto 34 :: cb_158_31
noncomputable def cb_158_16 : List Instr := .aload 0 :: .invokeinterface 189 11 :: .aload 0 :: .getfield 1435 :: .aload 0 :: .getfield 1433 :: .iload 1 :: .iconst 0 :: .invokeinterface 107 192 :: .iload 2 :: .ifCond .ne 31 :: cb_158_27
noncomputable def cb_158_15 : List Instr := .ireturn :: cb_158_16
noncomputable def cb_158_14 : List Instr := .iconst (-1) :: cb_158_15
noncomputable def cb_158_12 : List Instr := .iconst 0 :: .goto 15 :: cb_158_14
noncomputable def cb_158_10 : List Instr := .iload 2 :: .ifCond .ne 14 :: cb_158_12
noncomputable def cb_158_0 : List Instr := .aload 0 :: .iload 1 :: .invokeinterface 186 75 :: .aload 0 :: .iload 2 :: .iconst 0 :: .iconst 1 :: .invokeinterface 184 203 :: .iload 1 :: .ifCond .ne 16 :: cb_158_10
-- 159: FogWatch.row(II)I
noncomputable def cb_159_12 : List Instr := .aload 0 :: .invokeinterface 189 11 :: .aload 0 :: .getfield 1435 :: .aload 0 :: .getfield 1433 :: .iload 1 :: .iconst 0 :: .invokeinterface 107 192 :: .aload 0 :: .getfield 1435 :: .iload 2 :: .invokeinterface 110 64 :: .ireturn :: []
noncomputable def cb_159_10 : List Instr := .iconst (-1) :: .ireturn :: cb_159_12
noncomputable def cb_159_0 : List Instr := .aload 0 :: .iload 1 :: .invokeinterface 186 75 :: .aload 0 :: .iload 2 :: .iconst 0 :: .iconst 2147483647 :: .invokeinterface 184 203 :: .iload 1 :: .ifCond .ne 12 :: cb_159_10
-- 160: FogWatch.home(II)I
noncomputable def cb_160_10 : List Instr := .aload 0 :: .invokeinterface 189 11 :: .aload 0 :: .getfield 1435 :: .aload 0 :: .getfield 1433 :: .iload 1 :: .iconst 1 :: .iload 2 :: .ishl :: .invokeinterface 107 192 :: .aload 0 :: .getfield 1435 :: .invokeinterface 108 0 :: .ireturn :: []
noncomputable def cb_160_8 : List Instr := .iconst 0 :: .ireturn :: cb_160_10
noncomputable def cb_160_0 : List Instr := .aload 0 :: .iload 2 :: .invokeinterface 183 75 :: .aload 0 :: .iload 1 :: .invokeinterface 186 75 :: .iload 1 :: .ifCond .ne 10 :: cb_160_8
-- 161: FogWatch.cheap(I)I
noncomputable def cb_161_31 : List Instr := .aload 0 :: .getfield 1435 :: .aload 0 :: .getfield 1433 :: .iload 1 :: .invokeinterface 116 128 :: .ireturn :: []
noncomputable def cb_161_14 : List Instr := .aload 0 :: .getfield 1435 :: .getfield 11 :: .iload 2 :: .aload 0 :: .getfield 1427 :: .getfield 769 :: .iload 2 :: .aload 0 :: .getfield 1411 :: .getfield 1154 :: .aload 0 :: .getfield 1415 :: .invokeinterface 65 196 :: .iastore :: .iinc 2 1 :: .goto 11 :: cb_161_31
noncomputable def cb_161_11 : List Instr := .iload 2 :: .iconst 4 :: .if_icmp .ge 31 :: cb_161_14
noncomputable def cb_161_7 : List Instr := .aload 0 :: .invokeinterface 189 11 :: .iconst 0 :: .istore 2 :: cb_161_11
noncomputable def cb_161_5 : List Instr := .iconst 0 :: .ireturn :: cb_161_7
noncomputable def cb_161_0 : List Instr := .aload 0 :: .iload 1 :: .invokeinterface 186 75 :: .iload 1 :: .ifCond .ne 7 :: cb_161_5
-- 162: FogWatch.apart(II)I
noncomputable def cb_162_0 : List Instr := .aload 0 :: .iload 1 :: .invokeinterface 183 75 :: .aload 0 :: .iload 2 :: .invokeinterface 183 75 :: .aload 0 :: .invokeinterface 189 11 :: .aload 0 :: .getfield 1437 :: .aload 0 :: .getfield 1433 :: .aload 0 :: .getfield 1411 :: .invokeinterface 125 131 :: .aload 0 :: .getfield 1437 :: .iload 1 :: .iload 2 :: .invokeinterface 120 131 :: .ireturn :: []
-- 163: FogWatch.alike(I)I
noncomputable def cb_163_0 : List Instr := .aload 0 :: .iload 1 :: .invokeinterface 183 75 :: .aload 0 :: .invokeinterface 189 11 :: .aload 0 :: .getfield 1437 :: .aload 0 :: .getfield 1433 :: .aload 0 :: .getfield 1411 :: .invokeinterface 125 131 :: .aload 0 :: .getfield 1437 :: .iload 1 :: .aload 0 :: .getfield 1411 :: .getfield 1152 :: .invokeinterface 123 131 :: .ireturn :: []
-- 164: FogWatch.kinds()I
noncomputable def cb_164_37 : List Instr := .iload 1 :: .ireturn :: []
noncomputable def cb_164_35 : List Instr := .iinc 2 1 :: .goto 13 :: cb_164_37
noncomputable def cb_164_34 : List Instr := .iinc 1 1 :: cb_164_35
noncomputable def cb_164_18 : List Instr := .iconst 1 :: .iload 2 :: .ishl :: .iconst 1 :: .isub :: .istore 3 :: .aload 0 :: .getfield 1437 :: .iload 2 :: .aload 0 :: .getfield 1411 :: .getfield 1152 :: .invokeinterface 123 131 :: .iload 3 :: .iand :: .ifCond .ne 35 :: cb_164_34
noncomputable def cb_164_13 : List Instr := .iload 2 :: .aload 0 :: .getfield 1411 :: .getfield 1152 :: .if_icmp .ge 37 :: cb_164_18
noncomputable def cb_164_0 : List Instr := .aload 0 :: .invokeinterface 189 11 :: .aload 0 :: .getfield 1437 :: .aload 0 :: .getfield 1433 :: .aload 0 :: .getfield 1411 :: .invokeinterface 125 131 :: .iconst 0 :: .istore 1 :: .iconst 0 :: .istore 2 :: cb_164_13
-- 165: FogWatch.rows(III)J
noncomputable def cb_165_27 : List Instr := .aload 0 :: .getfield 1433 :: .iload 2 :: .invokeinterface 100 71 :: .lreturn :: []
noncomputable def cb_165_22 : List Instr := .aload 0 :: .getfield 1433 :: .invokeinterface 102 7 :: .iinc 4 1 :: .goto 19 :: cb_165_27
noncomputable def cb_165_19 : List Instr := .iload 4 :: .iload 3 :: .if_icmp .ge 27 :: cb_165_22
noncomputable def cb_165_0 : List Instr := .aload 0 :: .iload 1 :: .invokeinterface 183 75 :: .aload 0 :: .iload 2 :: .invokeinterface 183 75 :: .aload 0 :: .iload 3 :: .iconst 0 :: .iconst 30 :: .invokeinterface 184 203 :: .aload 0 :: .invokeinterface 189 11 :: .aload 0 :: .getfield 1433 :: .iload 1 :: .invokeinterface 99 71 :: .iconst 0 :: .istore 4 :: cb_165_19
-- 166: FogWatch.ring(II)I
noncomputable def cb_166_22 : List Instr := .invokeinterface 140 258 :: .ireturn :: []
noncomputable def cb_166_21 : List Instr := .iconst 0 :: cb_166_22
noncomputable def cb_166_19 : List Instr := .iconst 1 :: .goto 22 :: cb_166_21
noncomputable def cb_166_0 : List Instr := .aload 0 :: .iload 1 :: .invokeinterface 183 75 :: .aload 0 :: .iload 2 :: .iconst 0 :: .iconst 1 :: .invokeinterface 184 203 :: .aload 0 :: .invokeinterface 189 11 :: .aload 0 :: .getfield 1439 :: .aload 0 :: .getfield 1433 :: .aload 0 :: .getfield 1421 :: .iload 1 :: .iload 2 :: .ifCond .ne 21 :: cb_166_19
-- 167: FogWatch.fits()I
noncomputable def cb_167_0 : List Instr := .aload 0 :: .invokeinterface 190 11 :: .aload 0 :: .getfield 1439 :: .aload 0 :: .getfield 1411 :: .getfield 1152 :: .invokeinterface 135 66 :: .ireturn :: []
-- 168: FogWatch.now()I
noncomputable def cb_168_0 : List Instr := .aload 0 :: .invokeinterface 190 11 :: .aload 0 :: .getfield 1439 :: .aload 0 :: .getfield 1411 :: .getfield 1152 :: .invokeinterface 136 66 :: .ireturn :: []
-- 169: FogWatch.look(I)I
noncomputable def cb_169_32 : List Instr := .ireturn :: []
noncomputable def cb_169_29 : List Instr := .aload 0 :: .getfield 1439 :: .getfield 264 :: cb_169_32
noncomputable def cb_169_25 : List Instr := .aload 0 :: .getfield 1439 :: .getfield 262 :: .goto 32 :: cb_169_29
noncomputable def cb_169_16 : List Instr := .aload 0 :: .getfield 1439 :: .aload 0 :: .getfield 1433 :: .aload 0 :: .getfield 1411 :: .invokeinterface 137 130 :: .iload 1 :: .ifCond .ne 29 :: cb_169_25
noncomputable def cb_169_14 : List Instr := .iconst (-1) :: .ireturn :: cb_169_16
noncomputable def cb_169_0 : List Instr := .aload 0 :: .iload 1 :: .iconst 0 :: .iconst 1 :: .invokeinterface 184 203 :: .aload 0 :: .invokeinterface 190 11 :: .aload 0 :: .getfield 1439 :: .aload 0 :: .getfield 1411 :: .getfield 1152 :: .invokeinterface 135 66 :: .ifCond .ne 16 :: cb_169_14
-- 170: FogWatch.chance(IIIII)J
noncomputable def cb_170_60 : List Instr := .multianewarray 194 6 :: .lreturn :: []
noncomputable def cb_170_59 : List Instr := .iconst 0 :: cb_170_60
noncomputable def cb_170_57 : List Instr := .iconst 1 :: .goto 60 :: cb_170_59
noncomputable def cb_170_48 : List Instr := .aload 0 :: .getfield 1433 :: .iload 2 :: .invokeinterface 100 71 :: .iconst 4 :: .iload 6 :: .imul :: .iload 5 :: .ifCond .ne 59 :: cb_170_57
noncomputable def cb_170_38 : List Instr := .aload 0 :: .getfield 1433 :: .aload 0 :: .getfield 1421 :: .iload 7 :: .invokeinterface 53 74 :: .iload 4 :: .invokeinterface 103 135 :: .iinc 7 1 :: .goto 35 :: cb_170_48
noncomputable def cb_170_35 : List Instr := .iload 7 :: .iload 6 :: .if_icmp .ge 48 :: cb_170_38
noncomputable def cb_170_0 : List Instr := .aload 0 :: .iload 1 :: .invokeinterface 183 75 :: .aload 0 :: .iload 2 :: .invokeinterface 183 75 :: .aload 0 :: .iload 3 :: .iconst 0 :: .iconst 12 :: .invokeinterface 184 203 :: .aload 0 :: .iload 4 :: .iconst 0 :: .iconst 16 :: .invokeinterface 184 203 :: .aload 0 :: .iload 5 :: .iconst 0 :: .iconst 1 :: .invokeinterface 184 203 :: .aload 0 :: .invokeinterface 189 11 :: .aload 0 :: .getfield 1433 :: .iload 1 :: .invokeinterface 99 71 :: .iload 3 :: .aload 0 :: .getfield 1421 :: .getfield 1282 :: .invokedynamic 1 :: .istore 6 :: .iconst 0 :: .istore 7 :: cb_170_35
-- 171: FogWatch.duel(II)I
noncomputable def cb_171_0 : List Instr := .aload 0 :: .iload 1 :: .invokeinterface 183 75 :: .aload 0 :: .iload 2 :: .invokeinterface 183 75 :: .aload 0 :: .invokeinterface 189 11 :: .aload 0 :: .getfield 1437 :: .aload 0 :: .getfield 1433 :: .invokeinterface 129 67 :: .aload 0 :: .getfield 1437 :: .iload 1 :: .iload 2 :: .invokeinterface 120 131 :: .ireturn :: []
-- 172: FogWatch.reach(I)I
noncomputable def cb_172_35 : List Instr := .iload 2 :: .ireturn :: []
noncomputable def cb_172_31 : List Instr := .iload 4 :: .istore 2 :: .iinc 3 1 :: .goto 11 :: cb_172_35
noncomputable def cb_172_21 : List Instr := .iload 4 :: .aload 0 :: .getfield 1433 :: .iload 2 :: .iload 5 :: .invokeinterface 96 135 :: .ior :: .istore 4 :: .iinc 5 1 :: .goto 18 :: cb_172_31
noncomputable def cb_172_18 : List Instr := .iload 5 :: .iconst 4 :: .if_icmp .ge 31 :: cb_172_21
noncomputable def cb_172_14 : List Instr := .iload 2 :: .istore 4 :: .iconst 0 :: .istore 5 :: cb_172_18
noncomputable def cb_172_11 : List Instr := .iload 3 :: .iconst 10 :: .if_icmp .ge 35 :: cb_172_14
noncomputable def cb_172_0 : List Instr := .aload 0 :: .iload 1 :: .invokeinterface 183 75 :: .aload 0 :: .invokeinterface 189 11 :: .iconst 1 :: .iload 1 :: .ishl :: .istore 2 :: .iconst 0 :: .istore 3 :: cb_172_11
-- 173: FogWatch.from(II)I
noncomputable def cb_173_32 : List Instr := .iload 3 :: .ireturn :: []
noncomputable def cb_173_30 : List Instr := .iinc 4 1 :: .goto 12 :: cb_173_32
noncomputable def cb_173_24 : List Instr := .iload 3 :: .iconst 1 :: .iload 4 :: .ishl :: .ior :: .istore 3 :: cb_173_30
noncomputable def cb_173_17 : List Instr := .aload 0 :: .getfield 1433 :: .iload 4 :: .iload 2 :: .invokeinterface 94 135 :: .iload 1 :: .if_icmp .ne 30 :: cb_173_24
noncomputable def cb_173_12 : List Instr := .iload 4 :: .aload 0 :: .getfield 1411 :: .getfield 1152 :: .if_icmp .ge 32 :: cb_173_17
noncomputable def cb_173_0 : List Instr := .aload 0 :: .iload 1 :: .invokeinterface 183 75 :: .aload 0 :: .iload 2 :: .invokeinterface 185 75 :: .aload 0 :: .invokeinterface 189 11 :: .iconst 0 :: .istore 3 :: .iconst 0 :: .istore 4 :: cb_173_12
-- 174: FogWatch.still()I
noncomputable def cb_174_24 : List Instr := .iload 1 :: .ireturn :: []
noncomputable def cb_174_22 : List Instr := .iinc 2 1 :: .goto 6 :: cb_174_24
noncomputable def cb_174_16 : List Instr := .iload 1 :: .iconst 1 :: .iload 2 :: .ishl :: .ior :: .istore 1 :: cb_174_22
noncomputable def cb_174_11 : List Instr := .aload 0 :: .getfield 1433 :: .iload 2 :: .invokeinterface 97 71 :: .ifCond .eq 22 :: cb_174_16
noncomputable def cb_174_6 : List Instr := .iload 2 :: .aload 0 :: .getfield 1411 :: .getfield 1152 :: .if_icmp .ge 24 :: cb_174_11
noncomputable def cb_174_0 : List Instr := .aload 0 :: .invokeinterface 189 11 :: .iconst 0 :: .istore 1 :: .iconst 0 :: .istore 2 :: cb_174_6
-- 175: FogWatch.wind()I
noncomputable def cb_175_25 : List Instr := .iload 1 :: .ireturn :: []
noncomputable def cb_175_23 : List Instr := .iinc 2 1 :: .goto 4 :: cb_175_25
noncomputable def cb_175_22 : List Instr := .iinc 1 1 :: cb_175_23
noncomputable def cb_175_7 : List Instr := .aload 0 :: .getfield 1427 :: .getfield 769 :: .iload 2 :: .aload 0 :: .getfield 1411 :: .getfield 1154 :: .aload 0 :: .getfield 1415 :: .invokeinterface 65 196 :: .aload 0 :: .getfield 1427 :: .getfield 769 :: .getfield 512 :: .if_icmp .gt 23 :: cb_175_22
noncomputable def cb_175_4 : List Instr := .iload 2 :: .iconst 4 :: .if_icmp .ge 25 :: cb_175_7
noncomputable def cb_175_0 : List Instr := .iconst 0 :: .istore 1 :: .iconst 0 :: .istore 2 :: cb_175_4
-- 176: FogWatch.watch(IIII)I
noncomputable def cb_176_42 : List Instr := .aload 0 :: .getfield 1441 :: .getfield 516 :: .ireturn :: []
noncomputable def cb_176_33 : List Instr := .aload 0 :: .getfield 1441 :: .getfield 518 :: .aload 0 :: .getfield 1427 :: .getfield 769 :: .getfield 518 :: .isub :: .ireturn :: cb_176_42
noncomputable def cb_176_29 : List Instr := .aload 0 :: .getfield 1441 :: .getfield 512 :: .ireturn :: cb_176_33
noncomputable def cb_176_22 : List Instr := .aload 0 :: .getfield 1441 :: .aload 0 :: .getfield 1411 :: .getfield 1154 :: .invokeinterface 62 68 :: .ireturn :: cb_176_29
noncomputable def cb_176_0 : List Instr := .aload 0 :: .iload 2 :: .iconst 0 :: .iconst 16 :: .invokeinterface 184 203 :: .aload 0 :: .iload 3 :: .iconst 1 :: .iconst 48 :: .invokeinterface 184 203 :: .aload 0 :: .iload 4 :: .iconst 0 :: .iconst 3 :: .invokeinterface 184 203 :: .aload 0 :: .iload 1 :: .iload 2 :: .iload 3 :: .invokeinterface 191 203 :: .iload 4 :: .tableswitch 42 0 2 #[22, 29, 33] :: cb_176_22
-- 177: FogWatch.span(IIIIII)I
noncomputable def cb_177_89 : List Instr := .ireturn :: []
noncomputable def cb_177_88 : List Instr := .iload 9 :: cb_177_89
noncomputable def cb_177_86 : List Instr := .iload 8 :: .goto 89 :: cb_177_88
noncomputable def cb_177_83 : List Instr := .iload 5 :: .iconst 1 :: .if_icmp .ne 88 :: cb_177_86
noncomputable def cb_177_81 : List Instr := .iload 7 :: .ireturn :: cb_177_83
noncomputable def cb_177_79 : List Instr := .iload 5 :: .ifCond .ne 83 :: cb_177_81
noncomputable def cb_177_40 : List Instr := .aload 0 :: .iload 1 :: .iload 10 :: .iadd :: .iload 3 :: .iload 4 :: .invokeinterface 191 203 :: .aload 0 :: .getfield 1441 :: .getfield 518 :: .aload 0 :: .getfield 1427 :: .getfield 769 :: .getfield 518 :: .isub :: .istore 11 :: .iload 7 :: .iload 11 :: .invokedynamic 1 :: .istore 7 :: .iload 8 :: .iload 11 :: .invokedynamic 0 :: .istore 8 :: .iload 9 :: .aload 0 :: .getfield 1441 :: .aload 0 :: .getfield 1411 :: .getfield 1154 :: .invokeinterface 62 68 :: .iload 6 :: .ishr :: .iconst 1 :: .iand :: .iadd :: .istore 9 :: .iinc 10 1 :: .goto 37 :: cb_177_79
noncomputable def cb_177_37 : List Instr := .iload 10 :: .iload 2 :: .if_icmp .ge 79 :: cb_177_40
noncomputable def cb_177_0 : List Instr := .aload 0 :: .iload 2 :: .iconst 1 :: .iconst 10 :: .invokeinterface 184 203 :: .aload 0 :: .iload 3 :: .iconst 0 :: .iconst 16 :: .invokeinterface 184 203 :: .aload 0 :: .iload 4 :: .iconst 1 :: .iconst 48 :: .invokeinterface 184 203 :: .aload 0 :: .iload 5 :: .iconst 0 :: .iconst 2 :: .invokeinterface 184 203 :: .aload 0 :: .iload 6 :: .iconst 0 :: .aload 0 :: .getfield 1411 :: .getfield 1152 :: .iconst 1 :: .isub :: .invokeinterface 184 203 :: .iconst 2147483647 :: .istore 7 :: .iconst 0 :: .istore 8 :: .iconst 0 :: .istore 9 :: .iconst 0 :: .istore 10 :: cb_177_37
-- 178: FogWatch.image()I
noncomputable def cb_178_6 : List Instr := .aload 0 :: .getfield 1429 :: .aload 0 :: .getfield 1430 :: .aaload :: .aload 0 :: .getfield 1427 :: .invokeinterface 89 70 :: .aload 0 :: .dup :: .getfield 1430 :: .iconst 1 :: .iadd :: .putfield 1430 :: .aload 0 :: .getfield 1430 :: .ireturn :: []
noncomputable def cb_178_4 : List Instr := .iconst (-1) :: .ireturn :: cb_178_6
noncomputable def cb_178_0 : List Instr := .aload 0 :: .getfield 1430 :: .iconst 3 :: .if_icmp .lt 6 :: cb_178_4
-- 179: FogWatch.restore()I
noncomputable def cb_179_5 : List Instr := .aload 0 :: .dup :: .getfield 1430 :: .iconst 1 :: .isub :: .putfield 1430 :: .aload 0 :: .getfield 1427 :: .aload 0 :: .getfield 1429 :: .aload 0 :: .getfield 1430 :: .aaload :: .invokeinterface 89 70 :: .aload 0 :: .getfield 1419 :: .invokeinterface 74 5 :: .aload 0 :: .getfield 1430 :: .ireturn :: []
noncomputable def cb_179_3 : List Instr := .iconst (-1) :: .ireturn :: cb_179_5
noncomputable def cb_179_0 : List Instr := .aload 0 :: .getfield 1430 :: .ifCond .gt 5 :: cb_179_3
-- 180: FogWatch.status(I)I
noncomputable def cb_180_12 : List Instr := .ireturn :: []
noncomputable def cb_180_11 : List Instr := .iconst (-1) :: cb_180_12
noncomputable def cb_180_8 : List Instr := .aload 0 :: .getfield 1446 :: .goto 12 :: cb_180_11
noncomputable def cb_180_5 : List Instr := .iload 1 :: .iconst 1 :: .if_icmp .ne 11 :: cb_180_8
noncomputable def cb_180_2 : List Instr := .aload 0 :: .getfield 1444 :: .ireturn :: cb_180_5
noncomputable def cb_180_0 : List Instr := .iload 1 :: .ifCond .ne 5 :: cb_180_2
-- 181: FogWatch.count(I)I
noncomputable def cb_181_13 : List Instr := .iconst (-1) :: .ireturn :: []
noncomputable def cb_181_9 : List Instr := .aload 0 :: .getfield 1427 :: .getfield 772 :: .ireturn :: cb_181_13
noncomputable def cb_181_5 : List Instr := .aload 0 :: .getfield 1409 :: .getfield 1026 :: .ireturn :: cb_181_9
noncomputable def cb_181_2 : List Instr := .aload 0 :: .getfield 1430 :: .ireturn :: cb_181_5
noncomputable def cb_181_0 : List Instr := .iload 1 :: .tableswitch 13 0 2 #[2, 5, 9] :: cb_181_2
-- 182: FogWatch.refuseMissing()V
noncomputable def cb_182_0 : List Instr := .aload 0 :: .dup :: .getfield 1444 :: .iconst 1 :: .iadd :: .putfield 1444 :: .jsr 13 :: []
-- 183: FogWatch.demandCorner(I)V
noncomputable def cb_183_9 : List Instr := .return_ :: []
noncomputable def cb_183_7 : List Instr := .aload 0 :: .invokeinterface 182 11 :: cb_183_9
noncomputable def cb_183_2 : List Instr := .iload 1 :: .aload 0 :: .getfield 1411 :: .getfield 1152 :: .if_icmp .lt 9 :: cb_183_7
noncomputable def cb_183_0 : List Instr := .iload 1 :: .ifCond .lt 7 :: cb_183_2
-- 184: FogWatch.demandRange(III)V
noncomputable def cb_184_13 : List Instr := .return_ :: []
noncomputable def cb_184_6 : List Instr := .aload 0 :: .dup :: .getfield 1446 :: .iconst 1 :: .iadd :: .putfield 1446 :: .jsr 14 :: cb_184_13
noncomputable def cb_184_3 : List Instr := .iload 1 :: .iload 3 :: .if_icmp .le 13 :: cb_184_6
noncomputable def cb_184_0 : List Instr := .iload 1 :: .iload 2 :: .if_icmp .lt 6 :: cb_184_3
-- 185: FogWatch.demandWhistle(I)V
noncomputable def cb_185_0 : List Instr := .aload 0 :: .iload 1 :: .iconst 0 :: .iconst 3 :: .invokeinterface 184 203 :: .return_ :: []
-- 186: FogWatch.demandSet(I)V
noncomputable def cb_186_0 : List Instr := .aload 0 :: .iload 1 :: .iconst 0 :: .iconst 1 :: .aload 0 :: .getfield 1411 :: .getfield 1152 :: .ishl :: .iconst 1 :: .isub :: .invokeinterface 184 203 :: .return_ :: []
-- 187: FogWatch.openText(II)V
noncomputable def cb_187_0 : List Instr := .aload 0 :: .iload 1 :: .iconst 0 :: .iload 2 :: .aload 0 :: .getfield 1409 :: .getfield 1026 :: .invokedynamic 1 :: .invokeinterface 184 203 :: .aload 0 :: .getfield 1409 :: .iload 1 :: .invokeinterface 13 72 :: .return_ :: []
-- 188: FogWatch.faultAnswer()I
noncomputable def cb_188_0 : List Instr := .aload 0 :: .getfield 1409 :: .getfield 1034 :: .iconst 10 :: .isub :: .ireturn :: []
-- 189: FogWatch.layStreets()V
noncomputable def cb_189_13 : List Instr := .return_ :: []
noncomputable def cb_189_10 : List Instr := .aload 0 :: .getfield 1435 :: .invokeinterface 106 0 :: cb_189_13
noncomputable def cb_189_0 : List Instr := .aload 0 :: .getfield 1433 :: .aload 0 :: .getfield 1411 :: .aload 0 :: .getfield 1427 :: .getfield 769 :: .getfield 516 :: .invokeinterface 92 135 :: .ifCond .eq 13 :: cb_189_10
-- 190: FogWatch.listen()V
noncomputable def cb_190_0 : List Instr := .aload 0 :: .invokeinterface 189 11 :: .aload 0 :: .getfield 1439 :: .aload 0 :: .getfield 1433 :: .aload 0 :: .getfield 1411 :: .aload 0 :: .getfield 1421 :: .aload 0 :: .getfield 1423 :: .invokeinterface 133 258 :: .return_ :: []
-- 191: FogWatch.dreamOf(III)V
noncomputable def cb_191_31 : List Instr := .return_ :: []
noncomputable def cb_191_24 : List Instr := .aload 0 :: .getfield 1441 :: .aload 0 :: .getfield 1411 :: .invokeinterface 72 68 :: .iinc 4 1 :: .goto 11 :: cb_191_31
noncomputable def cb_191_18 : List Instr := .aload 0 :: .iload 2 :: .invokeinterface 192 75 :: .aload 0 :: .iload 2 :: .invokeinterface 192 75 :: cb_191_24
noncomputable def cb_191_14 : List Instr := .aload 0 :: .getfield 1411 :: .getfield 1152 :: .ifCond .le 24 :: cb_191_18
noncomputable def cb_191_11 : List Instr := .iload 4 :: .iload 3 :: .if_icmp .ge 31 :: cb_191_14
noncomputable def cb_191_0 : List Instr := .aload 0 :: .getfield 1441 :: .aload 0 :: .getfield 1427 :: .getfield 769 :: .invokeinterface 58 68 :: .aload 0 :: .iload 1 :: .putfield 1442 :: .iconst 0 :: .istore 4 :: cb_191_11
-- 192: FogWatch.dreamHalfNight(I)V
noncomputable def cb_192_25 : List Instr := .return_ :: []
noncomputable def cb_192_16 : List Instr := .aload 0 :: .getfield 1441 :: .aload 0 :: .aload 0 :: .getfield 1411 :: .getfield 1152 :: .invokeinterface 193 75 :: .invokeinterface 68 68 :: .pop :: cb_192_25
noncomputable def cb_192_0 : List Instr := .aload 0 :: .getfield 1441 :: .aload 0 :: .iconst 4 :: .invokeinterface 193 75 :: .aload 0 :: .getfield 1411 :: .aload 0 :: .getfield 1415 :: .invokeinterface 66 196 :: .pop :: .aload 0 :: .iconst 16 :: .invokeinterface 193 75 :: .iload 1 :: .if_icmp .ge 25 :: cb_192_16
-- 193: FogWatch.draw(I)I
noncomputable def cb_193_20 : List Instr := .ireturn :: []
noncomputable def cb_193_19 : List Instr := .iconst 0 :: cb_193_20
noncomputable def cb_193_10 : List Instr := .aload 0 :: .getfield 1442 :: .iconst 16 :: .iushr :: .iconst 32767 :: .iand :: .iload 1 :: .irem :: .goto 20 :: cb_193_19
noncomputable def cb_193_0 : List Instr := .aload 0 :: .aload 0 :: .getfield 1442 :: .iconst 1103515245 :: .imul :: .iconst 12345 :: .iadd :: .putfield 1442 :: .iload 1 :: .ifCond .le 19 :: cb_193_10
-- 194: FogWatch.leastTerms(JIZ)J
noncomputable def cb_194_32 : List Instr := .lreturn :: []
noncomputable def cb_194_31 : List Instr := .lload 6 :: cb_194_32
noncomputable def cb_194_29 : List Instr := .lload 4 :: .goto 32 :: cb_194_31
noncomputable def cb_194_27 : List Instr := .iload 3 :: .ifCond .eq 31 :: cb_194_29
noncomputable def cb_194_17 : List Instr := .lload 4 :: .iconst 1 :: .lshr :: .lstore 4 :: .lload 6 :: .iconst 1 :: .lshr :: .lstore 6 :: .iinc 8 1 :: .goto 8 :: cb_194_27
noncomputable def cb_194_11 : List Instr := .lload 4 :: .ldc2_w 1 :: .land :: .ldc2_w 0 :: .lcmp :: .ifCond .ne 27 :: cb_194_17
noncomputable def cb_194_8 : List Instr := .iload 8 :: .iload 2 :: .if_icmp .ge 27 :: cb_194_11
noncomputable def cb_194_0 : List Instr := .lload 0 :: .lstore 4 :: .ldc2_w 1 :: .iload 2 :: .lshl :: .lstore 6 :: .iconst 0 :: .istore 8 :: cb_194_8
-- 195: FogWatch.isOne(I)Z
noncomputable def cb_195_11 : List Instr := .freturn :: []
noncomputable def cb_195_10 : List Instr := .iconst 0 :: cb_195_11
noncomputable def cb_195_8 : List Instr := .iconst 1 :: .goto 11 :: cb_195_10
noncomputable def cb_195_2 : List Instr := .iload 0 :: .iload 0 :: .iconst 1 :: .isub :: .iand :: .ifCond .ne 10 :: cb_195_8
noncomputable def cb_195_0 : List Instr := .iload 0 :: .ifCond .eq 10 :: cb_195_2
-- 196: FogWatchModel.thrown()I
noncomputable def cb_196_0 : List Instr := .aload 0 :: .getfield 1536 :: .ireturn :: []
-- 197: FogWatchModel.may(ZII)Z
noncomputable def cb_197_22 : List Instr := .freturn :: []
noncomputable def cb_197_21 : List Instr := .iconst 0 :: cb_197_22
noncomputable def cb_197_19 : List Instr := .iconst 1 :: .goto 22 :: cb_197_21
noncomputable def cb_197_16 : List Instr := .aload 0 :: .getfield 1536 :: .ifCond .ne 21 :: cb_197_19
noncomputable def cb_197_5 : List Instr := .aload 0 :: .iload 2 :: .putfield 1536 :: .aload 0 :: .getfield 1539 :: .iload 3 :: .dup2 :: .iaload :: .iconst 1 :: .iadd :: .iastore :: cb_197_16
noncomputable def cb_197_2 : List Instr := .aload 0 :: .getfield 1536 :: .ifCond .ne 16 :: cb_197_5
noncomputable def cb_197_0 : List Instr := .iload 1 :: .ifCond .ne 16 :: cb_197_2
-- 198: FogWatchModel.within(III)Z
noncomputable def cb_198_9 : List Instr := .freturn :: []
noncomputable def cb_198_8 : List Instr := .iconst 0 :: cb_198_9
noncomputable def cb_198_6 : List Instr := .iconst 1 :: .goto 9 :: cb_198_8
noncomputable def cb_198_3 : List Instr := .iload 0 :: .iload 2 :: .if_icmp .gt 8 :: cb_198_6
noncomputable def cb_198_0 : List Instr := .iload 0 :: .iload 1 :: .if_icmp .lt 8 :: cb_198_3
-- 199: FogWatchModel.<init>()V
noncomputable def cb_199_0 : List Instr := .aload 0 :: .invokespecial 0 :: .aload 0 :: .iconst 2 :: .newarray .int :: .putfield 1539 :: .aload 0 :: .iconst (-1) :: .putfield 1552 :: .aload 0 :: .iconst 600 :: .newarray .int :: .putfield 1555 :: .aload 0 :: .iconst 10 :: .newarray .int :: .putfield 1557 :: .aload 0 :: .iconst 40 :: .newarray .int :: .putfield 1559 :: .aload 0 :: .iconst 5 :: .newarray .int :: .putfield 1561 :: .aload 0 :: .iconst 10 :: .newarray .int :: .putfield 1563 :: .aload 0 :: .iconst 40 :: .newarray .int :: .putfield 1565 :: .aload 0 :: .iconst 5 :: .newarray .int :: .putfield 1567 :: .aload 0 :: .iconst 150 :: .newarray .int :: .putfield 1581 :: .aload 0 :: .iconst 150 :: .newarray .int :: .putfield 1583 :: .aload 0 :: .iconst 150 :: .newarray .int :: .putfield 1585 :: .aload 0 :: .iconst 150 :: .newarray .int :: .putfield 1587 :: .aload 0 :: .iconst 150 :: .newarray .int :: .putfield 1589 :: .aload 0 :: .iconst 7 :: .newarray .int :: .putfield 1595 :: .aload 0 :: .iconst 150 :: .newarray .int :: .putfield 1597 :: .aload 0 :: .iconst 150 :: .newarray .int :: .putfield 1599 :: .aload 0 :: .iconst 20 :: .newarray .int :: .putfield 1613 :: .aload 0 :: .iconst 20 :: .newarray .int :: .putfield 1615 :: .aload 0 :: .iconst 20 :: .newarray .int :: .putfield 1617 :: .aload 0 :: .iconst 35 :: .newarray .int :: .putfield 1623 :: .aload 0 :: .iconst 35 :: .newarray .int :: .putfield 1625 :: .aload 0 :: .iconst 560 :: .newarray .int :: .putfield 1627 :: .aload 0 :: .iconst 1024 :: .newarray .int :: .putfield 1629 :: .aload 0 :: .iconst 1024 :: .newarray .int :: .putfield 1631 :: .aload 0 :: .iconst 1024 :: .newarray .int :: .putfield 1633 :: .aload 0 :: .iconst 1024 :: .newarray .int :: .putfield 1635 :: .aload 0 :: .iconst 100 :: .newarray .int :: .putfield 1637 :: .aload 0 :: .iconst 10 :: .newarray .long :: .putfield 1639 :: .aload 0 :: .iconst 10 :: .newarray .long :: .putfield 1641 :: .aload 0 :: .iconst 10 :: .newarray .int :: .putfield 1643 :: .aload 0 :: .iconst 11 :: .newarray .int :: .putfield 1645 :: .aload 0 :: .iconst 100 :: .newarray .int :: .putfield 1647 :: .aload 0 :: .iconst 1788 :: .newarray .int :: .putfield 1651 :: .aload 0 :: .invokeinterface 216 12 :: .aload 0 :: .invokeinterface 217 12 :: .return_ :: []
-- 200: FogWatchModel.feed(IIIII)I
noncomputable def cb_200_62 : List Instr := .aload 0 :: .getfield 1540 :: .ireturn :: []
noncomputable def cb_200_37 : List Instr := .istore 7 :: .aload 0 :: .getfield 1555 :: .aload 0 :: .getfield 1540 :: .iload 7 :: .iconst 24 :: .iconst 8 :: .iload 6 :: .iconst 4 :: .irem :: .imul :: .isub :: .ishr :: .iconst 255 :: .iand :: .iastore :: .aload 0 :: .dup :: .getfield 1540 :: .iconst 1 :: .iadd :: .putfield 1540 :: .iinc 6 1 :: .goto 13 :: cb_200_62
noncomputable def cb_200_36 : List Instr := .iload 5 :: cb_200_37
noncomputable def cb_200_34 : List Instr := .iload 4 :: .goto 37 :: cb_200_36
noncomputable def cb_200_31 : List Instr := .iload 6 :: .iconst 16 :: .if_icmp .ge 36 :: cb_200_34
noncomputable def cb_200_29 : List Instr := .iload 3 :: .goto 37 :: cb_200_31
noncomputable def cb_200_26 : List Instr := .iload 6 :: .iconst 12 :: .if_icmp .ge 31 :: cb_200_29
noncomputable def cb_200_24 : List Instr := .iload 2 :: .goto 37 :: cb_200_26
noncomputable def cb_200_21 : List Instr := .iload 6 :: .iconst 8 :: .if_icmp .ge 26 :: cb_200_24
noncomputable def cb_200_19 : List Instr := .iload 1 :: .goto 37 :: cb_200_21
noncomputable def cb_200_16 : List Instr := .iload 6 :: .iconst 4 :: .if_icmp .ge 21 :: cb_200_19
noncomputable def cb_200_13 : List Instr := .iload 6 :: .iconst 20 :: .if_icmp .ge 62 :: cb_200_16
noncomputable def cb_200_11 : List Instr := .iconst 0 :: .istore 6 :: cb_200_13
noncomputable def cb_200_9 : List Instr := .iconst (-1) :: .ireturn :: cb_200_11
noncomputable def cb_200_0 : List Instr := .aload 0 :: .iconst 0 :: .putfield 1536 :: .aload 0 :: .getfield 1540 :: .iconst 20 :: .iadd :: .iconst 600 :: .if_icmp .le 11 :: cb_200_9
-- 201: FogWatchModel.fine()Z
noncomputable def cb_201_7 : List Instr := .freturn :: []
noncomputable def cb_201_6 : List Instr := .iconst 0 :: cb_201_7
noncomputable def cb_201_4 : List Instr := .iconst 1 :: .goto 7 :: cb_201_6
noncomputable def cb_201_0 : List Instr := .aload 0 :: .getfield 1546 :: .iconst (-1) :: .if_icmp .ne 6 :: cb_201_4
-- 202: FogWatchModel.wrong(II)V
noncomputable def cb_202_5 : List Instr := .aload 0 :: .iload 2 :: .putfield 1546 :: .aload 0 :: .iload 1 :: .putfield 1548 :: .return_ :: []
noncomputable def cb_202_4 : List Instr := .return_ :: cb_202_5
noncomputable def cb_202_0 : List Instr := .aload 0 :: .getfield 1546 :: .iconst (-1) :: .if_icmp .eq 5 :: cb_202_4
-- 203: FogWatchModel.here()I
noncomputable def cb_203_31 : List Instr := .ireturn :: []
noncomputable def cb_203_30 : List Instr := .iconst 0 :: cb_203_31
noncomputable def cb_203_24 : List Instr := .aload 0 :: .getfield 1555 :: .aload 0 :: .getfield 1544 :: .iaload :: .goto 31 :: cb_203_30
noncomputable def cb_203_19 : List Instr := .aload 0 :: .getfield 1544 :: .aload 0 :: .getfield 1542 :: .if_icmp .ge 30 :: cb_203_24
noncomputable def cb_203_12 : List Instr := .aload 0 :: .dup :: .getfield 1544 :: .iconst 1 :: .iadd :: .putfield 1544 :: .goto 0 :: cb_203_19
noncomputable def cb_203_5 : List Instr := .aload 0 :: .getfield 1555 :: .aload 0 :: .getfield 1544 :: .iaload :: .iconst 32 :: .if_icmp .ne 19 :: cb_203_12
noncomputable def cb_203_0 : List Instr := .aload 0 :: .getfield 1544 :: .aload 0 :: .getfield 1542 :: .if_icmp .ge 19 :: cb_203_5
-- 204: FogWatchModel.isSmall(I)Z
noncomputable def cb_204_9 : List Instr := .freturn :: []
noncomputable def cb_204_8 : List Instr := .iconst 0 :: cb_204_9
noncomputable def cb_204_6 : List Instr := .iconst 1 :: .goto 9 :: cb_204_8
noncomputable def cb_204_3 : List Instr := .iload 0 :: .iconst 122 :: .if_icmp .gt 8 :: cb_204_6
noncomputable def cb_204_0 : List Instr := .iload 0 :: .iconst 97 :: .if_icmp .lt 8 :: cb_204_3
-- 205: FogWatchModel.isDigit(I)Z
noncomputable def cb_205_9 : List Instr := .freturn :: []
noncomputable def cb_205_8 : List Instr := .iconst 0 :: cb_205_9
noncomputable def cb_205_6 : List Instr := .iconst 1 :: .goto 9 :: cb_205_8
noncomputable def cb_205_3 : List Instr := .iload 0 :: .iconst 57 :: .if_icmp .gt 8 :: cb_205_6
noncomputable def cb_205_0 : List Instr := .iload 0 :: .iconst 48 :: .if_icmp .lt 8 :: cb_205_3
-- 206: FogWatchModel.word()I
noncomputable def cb_206_45 : List Instr := .ireturn :: []
noncomputable def cb_206_44 : List Instr := .iload 1 :: cb_206_45
noncomputable def cb_206_42 : List Instr := .iconst 0 :: .goto 45 :: cb_206_44
noncomputable def cb_206_39 : List Instr := .iload 2 :: .iconst 6 :: .if_icmp .le 44 :: cb_206_42
noncomputable def cb_206_35 : List Instr := .istore 1 :: .iinc 2 1 :: .iinc 3 1 :: .goto 10 :: cb_206_39
noncomputable def cb_206_34 : List Instr := .iconst 0 :: cb_206_35
noncomputable def cb_206_23 : List Instr := .iload 1 :: .iconst 5 :: .ishl :: .aload 0 :: .getfield 1555 :: .iload 3 :: .iaload :: .iconst 96 :: .isub :: .ior :: .goto 35 :: cb_206_34
noncomputable def cb_206_20 : List Instr := .iload 2 :: .iconst 6 :: .if_icmp .ge 34 :: cb_206_23
noncomputable def cb_206_14 : List Instr := .aload 0 :: .getfield 1555 :: .iload 3 :: .iaload :: .multianewarray 204 2 :: .ifCond .eq 39 :: cb_206_20
noncomputable def cb_206_10 : List Instr := .iload 3 :: .aload 0 :: .getfield 1542 :: .if_icmp .ge 39 :: cb_206_14
noncomputable def cb_206_0 : List Instr := .aload 0 :: .invokeinterface 203 12 :: .pop :: .iconst 0 :: .istore 1 :: .iconst 0 :: .istore 2 :: .aload 0 :: .getfield 1544 :: .istore 3 :: cb_206_10
-- 207: FogWatchModel.of(Ljava/lang/String;)I
noncomputable def cb_207_20 : List Instr := .iload 1 :: .ireturn :: []
noncomputable def cb_207_8 : List Instr := .iload 1 :: .iconst 5 :: .ishl :: .aload 0 :: .iload 2 :: .invokevirtual 81 :: .iconst 96 :: .isub :: .ior :: .istore 1 :: .iinc 2 1 :: .goto 4 :: cb_207_20
noncomputable def cb_207_4 : List Instr := .iload 2 :: .aload 0 :: .invokevirtual 64 :: .if_icmp .ge 20 :: cb_207_8
noncomputable def cb_207_0 : List Instr := .iconst 0 :: .istore 1 :: .iconst 0 :: .istore 2 :: cb_207_4
-- 208: FogWatchModel.pass()V
noncomputable def cb_208_19 : List Instr := .return_ :: []
noncomputable def cb_208_12 : List Instr := .aload 0 :: .dup :: .getfield 1544 :: .iconst 1 :: .iadd :: .putfield 1544 :: .goto 0 :: cb_208_19
noncomputable def cb_208_5 : List Instr := .aload 0 :: .getfield 1555 :: .aload 0 :: .getfield 1544 :: .iaload :: .multianewarray 204 2 :: .ifCond .eq 19 :: cb_208_12
noncomputable def cb_208_0 : List Instr := .aload 0 :: .getfield 1544 :: .aload 0 :: .getfield 1542 :: .if_icmp .ge 19 :: cb_208_5
-- 209: FogWatchModel.readNumber(II)I
noncomputable def cb_209_71 : List Instr := .iload 5 :: .ireturn :: []
noncomputable def cb_209_65 : List Instr := .aload 0 :: .iconst 2 :: .iload 4 :: .invokeinterface 202 140 :: .iconst 0 :: .ireturn :: cb_209_71
noncomputable def cb_209_62 : List Instr := .iload 5 :: .iload 2 :: .if_icmp .le 71 :: cb_209_65
noncomputable def cb_209_59 : List Instr := .iload 5 :: .iload 1 :: .if_icmp .lt 65 :: cb_209_62
noncomputable def cb_209_51 : List Instr := .istore 5 :: .aload 0 :: .dup :: .getfield 1544 :: .iconst 1 :: .iadd :: .putfield 1544 :: .goto 23 :: cb_209_59
noncomputable def cb_209_40 : List Instr := .iconst 10 :: .iload 5 :: .imul :: .aload 0 :: .getfield 1555 :: .aload 0 :: .getfield 1544 :: .iaload :: .iadd :: .iconst 48 :: .isub :: cb_209_51
noncomputable def cb_209_38 : List Instr := .iconst 10000 :: .goto 51 :: cb_209_40
noncomputable def cb_209_35 : List Instr := .iload 5 :: .iconst 9999 :: .if_icmp .le 40 :: cb_209_38
noncomputable def cb_209_28 : List Instr := .aload 0 :: .getfield 1555 :: .aload 0 :: .getfield 1544 :: .iaload :: .multianewarray 205 2 :: .ifCond .eq 59 :: cb_209_35
noncomputable def cb_209_23 : List Instr := .aload 0 :: .getfield 1544 :: .aload 0 :: .getfield 1542 :: .if_icmp .ge 59 :: cb_209_28
noncomputable def cb_209_16 : List Instr := .aload 0 :: .iconst 1 :: .aload 0 :: .getfield 1544 :: .invokeinterface 202 140 :: .iconst 0 :: .ireturn :: cb_209_23
noncomputable def cb_209_5 : List Instr := .aload 0 :: .invokeinterface 203 12 :: .istore 3 :: .aload 0 :: .getfield 1544 :: .istore 4 :: .iconst 0 :: .istore 5 :: .iload 3 :: .multianewarray 205 2 :: .ifCond .ne 23 :: cb_209_16
noncomputable def cb_209_3 : List Instr := .iconst 0 :: .ireturn :: cb_209_5
noncomputable def cb_209_0 : List Instr := .aload 0 :: .invokeinterface 201 12 :: .ifCond .ne 5 :: cb_209_3
-- 210: FogWatchModel.sign(I)V
noncomputable def cb_210_21 : List Instr := .return_ :: []
noncomputable def cb_210_15 : List Instr := .aload 0 :: .dup :: .getfield 1544 :: .iconst 1 :: .iadd :: .putfield 1544 :: cb_210_21
noncomputable def cb_210_12 : List Instr := .aload 0 :: .invokeinterface 201 12 :: .ifCond .eq 21 :: cb_210_15
noncomputable def cb_210_7 : List Instr := .aload 0 :: .iconst 1 :: .aload 0 :: .getfield 1544 :: .invokeinterface 202 140 :: cb_210_12
noncomputable def cb_210_3 : List Instr := .aload 0 :: .invokeinterface 203 12 :: .iload 1 :: .if_icmp .eq 12 :: cb_210_7
noncomputable def cb_210_0 : List Instr := .aload 0 :: .invokeinterface 201 12 :: .ifCond .eq 12 :: cb_210_3
-- 211: FogWatchModel.isMore()Z
noncomputable def cb_211_11 : List Instr := .freturn :: []
noncomputable def cb_211_10 : List Instr := .iconst 0 :: cb_211_11
noncomputable def cb_211_8 : List Instr := .iconst 1 :: .goto 11 :: cb_211_10
noncomputable def cb_211_0 : List Instr := .aload 0 :: .invokeinterface 203 12 :: .pop :: .aload 0 :: .getfield 1544 :: .aload 0 :: .getfield 1542 :: .if_icmp .ge 10 :: cb_211_8
-- 212: FogWatchModel.begins(I)V
noncomputable def cb_212_0 : List Instr := .aload 0 :: .iconst 0 :: .putfield 1540 :: .aload 0 :: .iconst (-1) :: .putfield 1552 :: .aload 0 :: .iload 1 :: .putfield 1542 :: .aload 0 :: .iconst 0 :: .putfield 1544 :: .aload 0 :: .iconst (-1) :: .putfield 1546 :: .aload 0 :: .iconst 0 :: .putfield 1550 :: .return_ :: []
-- 213: FogWatchModel.result(I)I
noncomputable def cb_213_13 : List Instr := .ireturn :: []
noncomputable def cb_213_9 : List Instr := .aload 0 :: .getfield 1548 :: .iconst 10 :: .isub :: cb_213_13
noncomputable def cb_213_7 : List Instr := .iload 1 :: .goto 13 :: cb_213_9
noncomputable def cb_213_0 : List Instr := .aload 0 :: .aload 0 :: .getfield 1546 :: .putfield 1552 :: .aload 0 :: .invokeinterface 201 12 :: .ifCond .eq 9 :: cb_213_7
-- 214: FogWatchModel.fault()I
noncomputable def cb_214_0 : List Instr := .aload 0 :: .iconst 0 :: .putfield 1536 :: .aload 0 :: .getfield 1552 :: .ireturn :: []
-- 215: FogWatchModel.copies([I[II)V
noncomputable def cb_215_13 : List Instr := .return_ :: []
noncomputable def cb_215_5 : List Instr := .aload 2 :: .iload 4 :: .aload 1 :: .iload 4 :: .iaload :: .iastore :: .iinc 4 1 :: .goto 2 :: cb_215_13
noncomputable def cb_215_2 : List Instr := .iload 4 :: .iload 3 :: .if_icmp .ge 13 :: cb_215_5
noncomputable def cb_215_0 : List Instr := .iconst 0 :: .istore 4 :: cb_215_2
-- 216: FogWatchModel.clears()V
noncomputable def cb_216_23 : List Instr := .return_ :: []
noncomputable def cb_216_14 : List Instr := .aload 0 :: .getfield 1559 :: .iload 1 :: .iload 1 :: .iconst 4 :: .idiv :: .iastore :: .iinc 1 1 :: .goto 11 :: cb_216_23
noncomputable def cb_216_11 : List Instr := .iload 1 :: .iconst 40 :: .if_icmp .ge 23 :: cb_216_14
noncomputable def cb_216_0 : List Instr := .aload 0 :: .iconst 0 :: .putfield 1568 :: .aload 0 :: .iconst 0 :: .putfield 1570 :: .aload 0 :: .iconst 60 :: .putfield 1572 :: .iconst 0 :: .istore 1 :: cb_216_11
-- 217: FogWatchModel.sets()V
noncomputable def cb_217_93 : List Instr := .aload 0 :: .getfield 1623 :: .iconst 30 :: .aload 0 :: .getfield 1578 :: .iastore :: .aload 0 :: .getfield 1623 :: .iconst 32 :: .iconst (-1) :: .iastore :: .return_ :: []
noncomputable def cb_217_83 : List Instr := .iastore :: .aload 0 :: .getfield 1623 :: .iconst 5 :: .iload 1 :: .iadd :: .iconst (-1) :: .iastore :: .iinc 1 1 :: .goto 65 :: cb_217_93
noncomputable def cb_217_82 : List Instr := .iconst 0 :: cb_217_83
noncomputable def cb_217_77 : List Instr := .aload 0 :: .getfield 1567 :: .iload 1 :: .iaload :: .goto 83 :: cb_217_82
noncomputable def cb_217_68 : List Instr := .aload 0 :: .getfield 1623 :: .iconst 0 :: .iload 1 :: .iadd :: .iload 1 :: .aload 0 :: .getfield 1576 :: .if_icmp .ge 82 :: cb_217_77
noncomputable def cb_217_65 : List Instr := .iload 1 :: .iconst 5 :: .if_icmp .ge 93 :: cb_217_68
noncomputable def cb_217_63 : List Instr := .iconst 0 :: .istore 1 :: cb_217_65
noncomputable def cb_217_56 : List Instr := .aload 0 :: .getfield 1623 :: .iload 1 :: .iconst 0 :: .iastore :: .iinc 1 1 :: .goto 53 :: cb_217_63
noncomputable def cb_217_53 : List Instr := .iload 1 :: .iconst 35 :: .if_icmp .ge 63 :: cb_217_56
noncomputable def cb_217_0 : List Instr := .aload 0 :: .aload 0 :: .getfield 1568 :: .putfield 1574 :: .aload 0 :: .aload 0 :: .getfield 1570 :: .putfield 1576 :: .aload 0 :: .aload 0 :: .getfield 1572 :: .putfield 1578 :: .aload 0 :: .aload 0 :: .getfield 1557 :: .aload 0 :: .getfield 1563 :: .iconst 10 :: .invokeinterface 215 204 :: .aload 0 :: .aload 0 :: .getfield 1559 :: .aload 0 :: .getfield 1565 :: .iconst 40 :: .invokeinterface 215 204 :: .aload 0 :: .aload 0 :: .getfield 1561 :: .aload 0 :: .getfield 1567 :: .iconst 5 :: .invokeinterface 215 204 :: .aload 0 :: .iconst 0 :: .putfield 1592 :: .aload 0 :: .iconst 0 :: .putfield 1618 :: .aload 0 :: .iconst 0 :: .putfield 1620 :: .aload 0 :: .iconst 0 :: .putfield 1602 :: .aload 0 :: .iconst 0 :: .putfield 1652 :: .aload 0 :: .iconst 0 :: .putfield 1604 :: .iconst 0 :: .istore 1 :: cb_217_53
-- 218: FogWatchModel.isRow(I)Z
noncomputable def cb_218_19 : List Instr := .freturn :: []
noncomputable def cb_218_18 : List Instr := .iconst 0 :: cb_218_19
noncomputable def cb_218_16 : List Instr := .iconst 1 :: .goto 19 :: cb_218_18
noncomputable def cb_218_12 : List Instr := .iload 0 :: .ldc 4 :: .multianewarray 207 2 :: .if_icmp .ne 18 :: cb_218_16
noncomputable def cb_218_8 : List Instr := .iload 0 :: .ldc 3 :: .multianewarray 207 2 :: .if_icmp .eq 16 :: cb_218_12
noncomputable def cb_218_4 : List Instr := .iload 0 :: .ldc 2 :: .multianewarray 207 2 :: .if_icmp .eq 16 :: cb_218_8
noncomputable def cb_218_0 : List Instr := .iload 0 :: .ldc 1 :: .multianewarray 207 2 :: .if_icmp .eq 16 :: cb_218_4
-- 219: FogWatchModel.isFull(I)Z
noncomputable def cb_219_23 : List Instr := .freturn :: []
noncomputable def cb_219_22 : List Instr := .iconst 0 :: cb_219_23
noncomputable def cb_219_20 : List Instr := .iconst 1 :: .goto 23 :: cb_219_22
noncomputable def cb_219_16 : List Instr := .aload 0 :: .getfield 1570 :: .iconst 5 :: .if_icmp .ne 22 :: cb_219_20
noncomputable def cb_219_12 : List Instr := .iload 1 :: .ldc 3 :: .multianewarray 207 2 :: .if_icmp .ne 22 :: cb_219_16
noncomputable def cb_219_10 : List Instr := .iconst 0 :: .goto 23 :: cb_219_12
noncomputable def cb_219_8 : List Instr := .iconst 1 :: .goto 23 :: cb_219_10
noncomputable def cb_219_4 : List Instr := .aload 0 :: .getfield 1568 :: .iconst 10 :: .if_icmp .ne 10 :: cb_219_8
noncomputable def cb_219_0 : List Instr := .iload 1 :: .ldc 1 :: .multianewarray 207 2 :: .if_icmp .ne 12 :: cb_219_4
-- 220: FogWatchModel.readCorner()I
noncomputable def cb_220_0 : List Instr := .aload 0 :: .iconst 0 :: .aload 0 :: .getfield 1568 :: .iconst 1 :: .isub :: .invokeinterface 209 140 :: .ireturn :: []
-- 221: FogWatchModel.readRow(I)V
noncomputable def cb_221_72 : List Instr := .return_ :: []
noncomputable def cb_221_66 : List Instr := .aload 0 :: .aload 0 :: .iconst 0 :: .iconst 200 :: .invokeinterface 209 140 :: .putfield 1572 :: cb_221_72
noncomputable def cb_221_52 : List Instr := .aload 0 :: .getfield 1561 :: .aload 0 :: .getfield 1570 :: .aload 0 :: .invokeinterface 220 12 :: .iastore :: .aload 0 :: .dup :: .getfield 1570 :: .iconst 1 :: .iadd :: .putfield 1570 :: .goto 72 :: cb_221_66
noncomputable def cb_221_48 : List Instr := .iload 1 :: .ldc 3 :: .multianewarray 207 2 :: .if_icmp .ne 66 :: cb_221_52
noncomputable def cb_221_47 : List Instr := .goto 72 :: cb_221_48
noncomputable def cb_221_38 : List Instr := .aload 0 :: .getfield 1559 :: .iconst 4 :: .iload 3 :: .imul :: .iload 2 :: .iadd :: .iload 4 :: .iastore :: cb_221_47
noncomputable def cb_221_24 : List Instr := .aload 0 :: .iconst 0 :: .iconst 3 :: .invokeinterface 209 140 :: .istore 2 :: .aload 0 :: .invokeinterface 220 12 :: .istore 3 :: .aload 0 :: .invokeinterface 220 12 :: .istore 4 :: .aload 0 :: .invokeinterface 201 12 :: .ifCond .eq 47 :: cb_221_38
noncomputable def cb_221_20 : List Instr := .iload 1 :: .ldc 2 :: .multianewarray 207 2 :: .if_icmp .ne 48 :: cb_221_24
noncomputable def cb_221_4 : List Instr := .aload 0 :: .getfield 1557 :: .aload 0 :: .getfield 1568 :: .aload 0 :: .iconst 0 :: .iconst 9 :: .invokeinterface 209 140 :: .iastore :: .aload 0 :: .dup :: .getfield 1568 :: .iconst 1 :: .iadd :: .putfield 1568 :: .goto 72 :: cb_221_20
noncomputable def cb_221_0 : List Instr := .iload 1 :: .ldc 1 :: .multianewarray 207 2 :: .if_icmp .ne 20 :: cb_221_4
-- 222: FogWatchModel.town(I)I
noncomputable def cb_222_81 : List Instr := .iload 3 :: .ireturn :: []
noncomputable def cb_222_79 : List Instr := .aload 0 :: .invokeinterface 217 12 :: cb_222_81
noncomputable def cb_222_70 : List Instr := .aload 0 :: .aload 0 :: .getfield 1568 :: .invokeinterface 213 76 :: .istore 3 :: .aload 0 :: .getfield 1546 :: .iconst (-1) :: .if_icmp .ne 81 :: cb_222_79
noncomputable def cb_222_60 : List Instr := .aload 0 :: .invokeinterface 208 12 :: .aload 0 :: .iload 3 :: .invokeinterface 221 76 :: .aload 0 :: .iconst 59 :: .invokeinterface 210 76 :: .iinc 2 1 :: .goto 26 :: cb_222_70
noncomputable def cb_222_59 : List Instr := .goto 70 :: cb_222_60
noncomputable def cb_222_56 : List Instr := .aload 0 :: .invokeinterface 201 12 :: .ifCond .ne 60 :: cb_222_59
noncomputable def cb_222_51 : List Instr := .aload 0 :: .iconst 3 :: .aload 0 :: .getfield 1544 :: .invokeinterface 202 140 :: cb_222_56
noncomputable def cb_222_47 : List Instr := .aload 0 :: .iload 3 :: .invokeinterface 219 76 :: .ifCond .eq 56 :: cb_222_51
noncomputable def cb_222_44 : List Instr := .iload 2 :: .iconst 60 :: .if_icmp .eq 51 :: cb_222_47
noncomputable def cb_222_38 : List Instr := .aload 0 :: .iconst 1 :: .aload 0 :: .getfield 1544 :: .invokeinterface 202 140 :: .goto 56 :: cb_222_44
noncomputable def cb_222_32 : List Instr := .aload 0 :: .invokeinterface 206 12 :: .istore 3 :: .iload 3 :: .multianewarray 218 2 :: .ifCond .ne 44 :: cb_222_38
noncomputable def cb_222_29 : List Instr := .aload 0 :: .invokeinterface 211 12 :: .ifCond .eq 70 :: cb_222_32
noncomputable def cb_222_26 : List Instr := .aload 0 :: .invokeinterface 201 12 :: .ifCond .eq 70 :: cb_222_29
noncomputable def cb_222_19 : List Instr := .aload 0 :: .iload 1 :: .invokeinterface 212 76 :: .aload 0 :: .invokeinterface 216 12 :: .iconst 0 :: .istore 2 :: cb_222_26
noncomputable def cb_222_17 : List Instr := .iconst 0 :: .ireturn :: cb_222_19
noncomputable def cb_222_13 : List Instr := .iconst 1 :: .iconst 1 :: .invokeinterface 197 204 :: .ifCond .ne 19 :: cb_222_17
noncomputable def cb_222_12 : List Instr := .iconst 0 :: cb_222_13
noncomputable def cb_222_10 : List Instr := .iconst 1 :: .goto 13 :: cb_222_12
noncomputable def cb_222_6 : List Instr := .iload 1 :: .aload 0 :: .getfield 1540 :: .if_icmp .gt 12 :: cb_222_10
noncomputable def cb_222_0 : List Instr := .aload 0 :: .iconst 0 :: .putfield 1536 :: .aload 0 :: .iload 1 :: .ifCond .lt 12 :: cb_222_6
-- 223: FogWatchModel.emit(II)V
noncomputable def cb_223_4 : List Instr := .aload 0 :: .getfield 1581 :: .aload 0 :: .getfield 1590 :: .iload 1 :: .iastore :: .aload 0 :: .getfield 1583 :: .aload 0 :: .getfield 1590 :: .iload 2 :: .iastore :: .aload 0 :: .dup :: .getfield 1590 :: .iconst 1 :: .iadd :: .putfield 1590 :: .return_ :: []
noncomputable def cb_223_3 : List Instr := .return_ :: cb_223_4
noncomputable def cb_223_0 : List Instr := .aload 0 :: .invokeinterface 201 12 :: .ifCond .ne 4 :: cb_223_3
-- 224: FogWatchModel.opensOne(I)V
noncomputable def cb_224_21 : List Instr := .aload 0 :: .dup :: .getfield 1550 :: .iconst 1 :: .iadd :: .putfield 1550 :: .return_ :: []
noncomputable def cb_224_15 : List Instr := .aload 0 :: .dup :: .getfield 1544 :: .iload 1 :: .iadd :: .putfield 1544 :: cb_224_21
noncomputable def cb_224_12 : List Instr := .aload 0 :: .invokeinterface 201 12 :: .ifCond .eq 21 :: cb_224_15
noncomputable def cb_224_7 : List Instr := .aload 0 :: .iconst 3 :: .aload 0 :: .getfield 1544 :: .invokeinterface 202 140 :: cb_224_12
noncomputable def cb_224_3 : List Instr := .aload 0 :: .getfield 1550 :: .iconst 6 :: .if_icmp .ne 12 :: cb_224_7
noncomputable def cb_224_0 : List Instr := .aload 0 :: .invokeinterface 201 12 :: .ifCond .eq 12 :: cb_224_3
-- 225: FogWatchModel.readSum()V
noncomputable def cb_225_34 : List Instr := .return_ :: []
noncomputable def cb_225_20 : List Instr := .istore 1 :: .aload 0 :: .dup :: .getfield 1544 :: .iconst 1 :: .iadd :: .putfield 1544 :: .aload 0 :: .invokeinterface 226 12 :: .aload 0 :: .iload 1 :: .iconst 0 :: .invokeinterface 223 140 :: .goto 2 :: cb_225_34
noncomputable def cb_225_19 : List Instr := .iconst 3 :: cb_225_20
noncomputable def cb_225_17 : List Instr := .iconst 2 :: .goto 20 :: cb_225_19
noncomputable def cb_225_13 : List Instr := .aload 0 :: .invokeinterface 203 12 :: .iconst 43 :: .if_icmp .ne 19 :: cb_225_17
noncomputable def cb_225_9 : List Instr := .aload 0 :: .invokeinterface 203 12 :: .iconst 45 :: .if_icmp .ne 34 :: cb_225_13
noncomputable def cb_225_5 : List Instr := .aload 0 :: .invokeinterface 203 12 :: .iconst 43 :: .if_icmp .eq 13 :: cb_225_9
noncomputable def cb_225_2 : List Instr := .aload 0 :: .invokeinterface 201 12 :: .ifCond .eq 34 :: cb_225_5
noncomputable def cb_225_0 : List Instr := .aload 0 :: .invokeinterface 226 12 :: cb_225_2
-- 226: FogWatchModel.readProduct()V
noncomputable def cb_226_44 : List Instr := .return_ :: []
noncomputable def cb_226_30 : List Instr := .istore 1 :: .aload 0 :: .dup :: .getfield 1544 :: .iconst 1 :: .iadd :: .putfield 1544 :: .aload 0 :: .invokeinterface 230 12 :: .aload 0 :: .iload 1 :: .iconst 0 :: .invokeinterface 223 140 :: .goto 2 :: cb_226_44
noncomputable def cb_226_29 : List Instr := .iconst 8 :: cb_226_30
noncomputable def cb_226_27 : List Instr := .iconst 5 :: .goto 30 :: cb_226_29
noncomputable def cb_226_23 : List Instr := .aload 0 :: .invokeinterface 203 12 :: .iconst 47 :: .if_icmp .ne 29 :: cb_226_27
noncomputable def cb_226_21 : List Instr := .iconst 4 :: .goto 30 :: cb_226_23
noncomputable def cb_226_17 : List Instr := .aload 0 :: .invokeinterface 203 12 :: .iconst 42 :: .if_icmp .ne 23 :: cb_226_21
noncomputable def cb_226_13 : List Instr := .aload 0 :: .invokeinterface 203 12 :: .iconst 37 :: .if_icmp .ne 44 :: cb_226_17
noncomputable def cb_226_9 : List Instr := .aload 0 :: .invokeinterface 203 12 :: .iconst 47 :: .if_icmp .eq 17 :: cb_226_13
noncomputable def cb_226_5 : List Instr := .aload 0 :: .invokeinterface 203 12 :: .iconst 42 :: .if_icmp .eq 17 :: cb_226_9
noncomputable def cb_226_2 : List Instr := .aload 0 :: .invokeinterface 201 12 :: .ifCond .eq 44 :: cb_226_5
noncomputable def cb_226_0 : List Instr := .aload 0 :: .invokeinterface 230 12 :: cb_226_2
-- 227: FogWatchModel.readTwo(II)V
noncomputable def cb_227_0 : List Instr := .aload 0 :: .iload 1 :: .invokeinterface 224 76 :: .aload 0 :: .iconst 91 :: .invokeinterface 210 76 :: .aload 0 :: .invokeinterface 225 12 :: .aload 0 :: .iconst 44 :: .invokeinterface 210 76 :: .aload 0 :: .invokeinterface 225 12 :: .aload 0 :: .iconst 93 :: .invokeinterface 210 76 :: .aload 0 :: .dup :: .getfield 1550 :: .iconst 1 :: .isub :: .putfield 1550 :: .aload 0 :: .iload 2 :: .iconst 0 :: .invokeinterface 223 140 :: .return_ :: []
-- 228: FogWatchModel.standsHere(Ljava/lang/String;)Z
noncomputable def cb_228_52 : List Instr := .freturn :: []
noncomputable def cb_228_51 : List Instr := .iconst 0 :: cb_228_52
noncomputable def cb_228_49 : List Instr := .iconst 1 :: .goto 52 :: cb_228_51
noncomputable def cb_228_39 : List Instr := .aload 0 :: .getfield 1555 :: .aload 0 :: .getfield 1544 :: .aload 1 :: .invokevirtual 64 :: .iadd :: .iaload :: .multianewarray 204 2 :: .ifCond .ne 51 :: cb_228_49
noncomputable def cb_228_31 : List Instr := .aload 0 :: .getfield 1544 :: .aload 1 :: .invokevirtual 64 :: .iadd :: .aload 0 :: .getfield 1542 :: .if_icmp .ge 49 :: cb_228_39
noncomputable def cb_228_29 : List Instr := .iinc 2 1 :: .goto 5 :: cb_228_31
noncomputable def cb_228_27 : List Instr := .iconst 0 :: .freturn :: cb_228_29
noncomputable def cb_228_16 : List Instr := .aload 0 :: .getfield 1555 :: .aload 0 :: .getfield 1544 :: .iload 2 :: .iadd :: .iaload :: .aload 1 :: .iload 2 :: .invokevirtual 81 :: .if_icmp .eq 29 :: cb_228_27
noncomputable def cb_228_9 : List Instr := .aload 0 :: .getfield 1544 :: .iload 2 :: .iadd :: .aload 0 :: .getfield 1542 :: .if_icmp .ge 27 :: cb_228_16
noncomputable def cb_228_5 : List Instr := .iload 2 :: .aload 1 :: .invokevirtual 64 :: .if_icmp .ge 31 :: cb_228_9
noncomputable def cb_228_0 : List Instr := .aload 0 :: .invokeinterface 203 12 :: .pop :: .iconst 0 :: .istore 2 :: cb_228_5
-- 229: FogWatchModel.factHere()I
noncomputable def cb_229_46 : List Instr := .ireturn :: []
noncomputable def cb_229_45 : List Instr := .iconst (-1) :: cb_229_46
noncomputable def cb_229_43 : List Instr := .iconst 6 :: .goto 46 :: cb_229_45
noncomputable def cb_229_39 : List Instr := .iload 1 :: .ldc 4 :: .multianewarray 207 2 :: .if_icmp .ne 45 :: cb_229_43
noncomputable def cb_229_37 : List Instr := .iconst 5 :: .goto 46 :: cb_229_39
noncomputable def cb_229_33 : List Instr := .iload 1 :: .ldc 10 :: .multianewarray 207 2 :: .if_icmp .ne 39 :: cb_229_37
noncomputable def cb_229_31 : List Instr := .iconst 4 :: .goto 46 :: cb_229_33
noncomputable def cb_229_27 : List Instr := .iload 1 :: .ldc 9 :: .multianewarray 207 2 :: .if_icmp .ne 33 :: cb_229_31
noncomputable def cb_229_25 : List Instr := .iconst 3 :: .goto 46 :: cb_229_27
noncomputable def cb_229_21 : List Instr := .iload 1 :: .ldc 8 :: .multianewarray 207 2 :: .if_icmp .ne 27 :: cb_229_25
noncomputable def cb_229_19 : List Instr := .iconst 2 :: .goto 46 :: cb_229_21
noncomputable def cb_229_15 : List Instr := .iload 1 :: .ldc 7 :: .multianewarray 207 2 :: .if_icmp .ne 21 :: cb_229_19
noncomputable def cb_229_13 : List Instr := .iconst 1 :: .goto 46 :: cb_229_15
noncomputable def cb_229_6 : List Instr := .aload 0 :: .invokeinterface 206 12 :: .istore 1 :: .iload 1 :: .ldc 6 :: .multianewarray 207 2 :: .if_icmp .ne 15 :: cb_229_13
noncomputable def cb_229_4 : List Instr := .iconst 0 :: .ireturn :: cb_229_6
noncomputable def cb_229_0 : List Instr := .aload 0 :: .ldc 5 :: .invokeinterface 228 76 :: .ifCond .eq 6 :: cb_229_4
-- 230: FogWatchModel.readUnit()V
noncomputable def cb_230_76 : List Instr := .return_ :: []
noncomputable def cb_230_70 : List Instr := .aload 0 :: .invokeinterface 208 12 :: .aload 0 :: .iconst 1 :: .iload 1 :: .invokeinterface 223 140 :: cb_230_76
noncomputable def cb_230_69 : List Instr := .return_ :: cb_230_70
noncomputable def cb_230_66 : List Instr := .aload 0 :: .invokeinterface 201 12 :: .ifCond .ne 70 :: cb_230_69
noncomputable def cb_230_61 : List Instr := .aload 0 :: .iconst 1 :: .aload 0 :: .getfield 1544 :: .invokeinterface 202 140 :: cb_230_66
noncomputable def cb_230_55 : List Instr := .aload 0 :: .invokeinterface 229 12 :: .istore 1 :: .iload 1 :: .iconst (-1) :: .if_icmp .ne 66 :: cb_230_61
noncomputable def cb_230_50 : List Instr := .aload 0 :: .iconst 4 :: .iconst 7 :: .invokeinterface 227 140 :: .goto 76 :: cb_230_55
noncomputable def cb_230_45 : List Instr := .aload 0 :: .invokeinterface 206 12 :: .ldc 12 :: .multianewarray 207 2 :: .if_icmp .ne 55 :: cb_230_50
noncomputable def cb_230_40 : List Instr := .aload 0 :: .iconst 5 :: .iconst 6 :: .invokeinterface 227 140 :: .goto 76 :: cb_230_45
noncomputable def cb_230_35 : List Instr := .aload 0 :: .invokeinterface 206 12 :: .ldc 11 :: .multianewarray 207 2 :: .if_icmp .ne 45 :: cb_230_40
noncomputable def cb_230_27 : List Instr := .aload 0 :: .iconst 0 :: .aload 0 :: .iconst 0 :: .iconst 999 :: .invokeinterface 209 140 :: .invokeinterface 223 140 :: .goto 76 :: cb_230_35
noncomputable def cb_230_23 : List Instr := .aload 0 :: .invokeinterface 203 12 :: .multianewarray 205 2 :: .ifCond .eq 35 :: cb_230_27
noncomputable def cb_230_8 : List Instr := .aload 0 :: .iconst 1 :: .invokeinterface 224 76 :: .aload 0 :: .invokeinterface 225 12 :: .aload 0 :: .iconst 41 :: .invokeinterface 210 76 :: .aload 0 :: .dup :: .getfield 1550 :: .iconst 1 :: .isub :: .putfield 1550 :: .goto 76 :: cb_230_23
noncomputable def cb_230_4 : List Instr := .aload 0 :: .invokeinterface 203 12 :: .iconst 40 :: .if_icmp .ne 23 :: cb_230_8
noncomputable def cb_230_3 : List Instr := .return_ :: cb_230_4
noncomputable def cb_230_0 : List Instr := .aload 0 :: .invokeinterface 201 12 :: .ifCond .ne 4 :: cb_230_3
-- 231: FogWatchModel.law(I)I
noncomputable def cb_231_51 : List Instr := .aload 0 :: .aload 0 :: .getfield 1590 :: .putfield 1592 :: .aload 0 :: .aload 0 :: .getfield 1581 :: .aload 0 :: .getfield 1585 :: .aload 0 :: .getfield 1590 :: .invokeinterface 215 204 :: .aload 0 :: .aload 0 :: .getfield 1583 :: .aload 0 :: .getfield 1587 :: .aload 0 :: .getfield 1590 :: .invokeinterface 215 204 :: .iload 2 :: .ireturn :: []
noncomputable def cb_231_49 : List Instr := .iload 2 :: .ireturn :: cb_231_51
noncomputable def cb_231_41 : List Instr := .aload 0 :: .iconst 1 :: .invokeinterface 213 76 :: .istore 2 :: .aload 0 :: .getfield 1546 :: .iconst (-1) :: .if_icmp .eq 51 :: cb_231_49
noncomputable def cb_231_36 : List Instr := .aload 0 :: .iconst 1 :: .aload 0 :: .getfield 1544 :: .invokeinterface 202 140 :: cb_231_41
noncomputable def cb_231_33 : List Instr := .aload 0 :: .invokeinterface 211 12 :: .ifCond .eq 41 :: cb_231_36
noncomputable def cb_231_22 : List Instr := .aload 0 :: .iload 1 :: .invokeinterface 212 76 :: .aload 0 :: .iconst 0 :: .putfield 1590 :: .aload 0 :: .invokeinterface 225 12 :: .aload 0 :: .invokeinterface 201 12 :: .ifCond .eq 41 :: cb_231_33
noncomputable def cb_231_20 : List Instr := .iconst 0 :: .ireturn :: cb_231_22
noncomputable def cb_231_16 : List Instr := .iconst 1 :: .iconst 1 :: .invokeinterface 197 204 :: .ifCond .ne 22 :: cb_231_20
noncomputable def cb_231_15 : List Instr := .iconst 0 :: cb_231_16
noncomputable def cb_231_13 : List Instr := .iconst 1 :: .goto 16 :: cb_231_15
noncomputable def cb_231_10 : List Instr := .iload 1 :: .iconst 150 :: .if_icmp .gt 15 :: cb_231_13
noncomputable def cb_231_6 : List Instr := .iload 1 :: .aload 0 :: .getfield 1540 :: .if_icmp .gt 15 :: cb_231_10
noncomputable def cb_231_0 : List Instr := .aload 0 :: .iconst 0 :: .putfield 1536 :: .aload 0 :: .iload 1 :: .ifCond .lt 15 :: cb_231_6
-- 232: FogWatchModel.valueNow()I
noncomputable def cb_232_57 : List Instr := .aload 0 :: .getfield 1589 :: .iconst 0 :: .iaload :: .ireturn :: []
noncomputable def cb_232_55 : List Instr := .iinc 2 1 :: .goto 4 :: cb_232_57
noncomputable def cb_232_36 : List Instr := .iinc 1 (-1) :: .aload 0 :: .getfield 1589 :: .iload 1 :: .iconst 1 :: .isub :: .iload 3 :: .aload 0 :: .getfield 1589 :: .iload 1 :: .iconst 1 :: .isub :: .iaload :: .aload 0 :: .getfield 1589 :: .iload 1 :: .iaload :: .multianewarray 233 6 :: .iastore :: cb_232_55
noncomputable def cb_232_33 : List Instr := .iastore :: .iinc 1 1 :: .goto 55 :: cb_232_36
noncomputable def cb_232_26 : List Instr := .aload 0 :: .getfield 1595 :: .aload 0 :: .getfield 1587 :: .iload 2 :: .iaload :: .iaload :: cb_232_33
noncomputable def cb_232_21 : List Instr := .aload 0 :: .getfield 1587 :: .iload 2 :: .iaload :: .goto 33 :: cb_232_26
noncomputable def cb_232_16 : List Instr := .aload 0 :: .getfield 1589 :: .iload 1 :: .iload 3 :: .ifCond .ne 26 :: cb_232_21
noncomputable def cb_232_8 : List Instr := .aload 0 :: .getfield 1585 :: .iload 2 :: .iaload :: .istore 3 :: .iload 3 :: .iconst 1 :: .if_icmp .gt 36 :: cb_232_16
noncomputable def cb_232_4 : List Instr := .iload 2 :: .aload 0 :: .getfield 1592 :: .if_icmp .ge 57 :: cb_232_8
noncomputable def cb_232_0 : List Instr := .iconst 0 :: .istore 1 :: .iconst 0 :: .istore 2 :: cb_232_4
-- 233: FogWatchModel.both(III)I
noncomputable def cb_233_58 : List Instr := .ireturn :: []
noncomputable def cb_233_57 : List Instr := .iload 2 :: cb_233_58
noncomputable def cb_233_55 : List Instr := .iload 1 :: .goto 58 :: cb_233_57
noncomputable def cb_233_54 : List Instr := .if_icmp .ne 57 :: cb_233_55
noncomputable def cb_233_53 : List Instr := .iconst 0 :: cb_233_54
noncomputable def cb_233_51 : List Instr := .iconst 1 :: .goto 54 :: cb_233_53
noncomputable def cb_233_48 : List Instr := .iload 0 :: .iconst 6 :: .if_icmp .ne 53 :: cb_233_51
noncomputable def cb_233_47 : List Instr := .iconst 0 :: cb_233_48
noncomputable def cb_233_45 : List Instr := .iconst 1 :: .goto 48 :: cb_233_47
noncomputable def cb_233_42 : List Instr := .iload 1 :: .iload 2 :: .if_icmp .ge 47 :: cb_233_45
noncomputable def cb_233_41 : List Instr := .ireturn :: cb_233_42
noncomputable def cb_233_38 : List Instr := .iload 1 :: .iload 2 :: .irem :: cb_233_41
noncomputable def cb_233_34 : List Instr := .iload 1 :: .iload 2 :: .idiv :: .goto 41 :: cb_233_38
noncomputable def cb_233_31 : List Instr := .iload 0 :: .iconst 5 :: .if_icmp .ne 38 :: cb_233_34
noncomputable def cb_233_29 : List Instr := .iconst 0 :: .goto 41 :: cb_233_31
noncomputable def cb_233_27 : List Instr := .iload 2 :: .ifCond .ne 31 :: cb_233_29
noncomputable def cb_233_24 : List Instr := .iload 0 :: .iconst 8 :: .if_icmp .ne 42 :: cb_233_27
noncomputable def cb_233_21 : List Instr := .iload 0 :: .iconst 5 :: .if_icmp .eq 27 :: cb_233_24
noncomputable def cb_233_17 : List Instr := .iload 1 :: .iload 2 :: .imul :: .ireturn :: cb_233_21
noncomputable def cb_233_14 : List Instr := .iload 0 :: .iconst 4 :: .if_icmp .ne 21 :: cb_233_17
noncomputable def cb_233_10 : List Instr := .iload 1 :: .iload 2 :: .isub :: .ireturn :: cb_233_14
noncomputable def cb_233_7 : List Instr := .iload 0 :: .iconst 3 :: .if_icmp .ne 14 :: cb_233_10
noncomputable def cb_233_3 : List Instr := .iload 1 :: .iload 2 :: .iadd :: .ireturn :: cb_233_7
noncomputable def cb_233_0 : List Instr := .iload 0 :: .iconst 2 :: .if_icmp .ne 7 :: cb_233_3
-- 234: FogWatchModel.costNow()I
noncomputable def cb_234_23 : List Instr := .ireturn :: []
noncomputable def cb_234_22 : List Instr := .iload 1 :: cb_234_23
noncomputable def cb_234_20 : List Instr := .iconst 60 :: .goto 23 :: cb_234_22
noncomputable def cb_234_17 : List Instr := .iload 1 :: .iconst 60 :: .if_icmp .le 22 :: cb_234_20
noncomputable def cb_234_15 : List Instr := .iconst 0 :: .goto 23 :: cb_234_17
noncomputable def cb_234_12 : List Instr := .istore 1 :: .iload 1 :: .ifCond .ge 17 :: cb_234_15
noncomputable def cb_234_10 : List Instr := .aload 0 :: .invokeinterface 232 12 :: cb_234_12
noncomputable def cb_234_3 : List Instr := .iconst 1 :: .aload 0 :: .getfield 1595 :: .iconst 2 :: .iaload :: .iadd :: .goto 12 :: cb_234_10
noncomputable def cb_234_0 : List Instr := .aload 0 :: .getfield 1592 :: .ifCond .ne 10 :: cb_234_3
-- 235: FogWatchModel.tellsStep(III)V
noncomputable def cb_235_4 : List Instr := .aload 0 :: .getfield 1597 :: .aload 0 :: .getfield 1600 :: .iload 1 :: .iastore :: .aload 0 :: .getfield 1597 :: .aload 0 :: .getfield 1600 :: .iconst 1 :: .iadd :: .iload 2 :: .iastore :: .aload 0 :: .getfield 1597 :: .aload 0 :: .getfield 1600 :: .iconst 2 :: .iadd :: .iload 3 :: .iastore :: .aload 0 :: .dup :: .getfield 1600 :: .iconst 3 :: .iadd :: .putfield 1600 :: .return_ :: []
noncomputable def cb_235_3 : List Instr := .return_ :: cb_235_4
noncomputable def cb_235_0 : List Instr := .aload 0 :: .invokeinterface 201 12 :: .ifCond .ne 4 :: cb_235_3
-- 236: FogWatchModel.stepOf(I)I
noncomputable def cb_236_37 : List Instr := .ireturn :: []
noncomputable def cb_236_36 : List Instr := .iconst (-1) :: cb_236_37
noncomputable def cb_236_34 : List Instr := .iconst 5 :: .goto 37 :: cb_236_36
noncomputable def cb_236_30 : List Instr := .iload 0 :: .ldc 16 :: .multianewarray 207 2 :: .if_icmp .ne 36 :: cb_236_34
noncomputable def cb_236_28 : List Instr := .iconst 4 :: .goto 37 :: cb_236_30
noncomputable def cb_236_24 : List Instr := .iload 0 :: .ldc 10 :: .multianewarray 207 2 :: .if_icmp .ne 30 :: cb_236_28
noncomputable def cb_236_22 : List Instr := .iconst 3 :: .goto 37 :: cb_236_24
noncomputable def cb_236_18 : List Instr := .iload 0 :: .ldc 15 :: .multianewarray 207 2 :: .if_icmp .ne 24 :: cb_236_22
noncomputable def cb_236_16 : List Instr := .iconst 2 :: .goto 37 :: cb_236_18
noncomputable def cb_236_12 : List Instr := .iload 0 :: .ldc 14 :: .multianewarray 207 2 :: .if_icmp .ne 18 :: cb_236_16
noncomputable def cb_236_10 : List Instr := .iconst 1 :: .goto 37 :: cb_236_12
noncomputable def cb_236_6 : List Instr := .iload 0 :: .ldc 8 :: .multianewarray 207 2 :: .if_icmp .ne 12 :: cb_236_10
noncomputable def cb_236_4 : List Instr := .iconst 0 :: .goto 37 :: cb_236_6
noncomputable def cb_236_0 : List Instr := .iload 0 :: .ldc 13 :: .multianewarray 207 2 :: .if_icmp .ne 6 :: cb_236_4
-- 237: FogWatchModel.readFirst(I)I
noncomputable def cb_237_33 : List Instr := .ireturn :: []
noncomputable def cb_237_30 : List Instr := .iconst 1 :: .isub :: .invokeinterface 209 140 :: cb_237_33
noncomputable def cb_237_28 : List Instr := .aload 0 :: .getfield 1576 :: cb_237_30
noncomputable def cb_237_25 : List Instr := .aload 0 :: .getfield 1574 :: .goto 30 :: cb_237_28
noncomputable def cb_237_20 : List Instr := .aload 0 :: .iconst 0 :: .iload 1 :: .iconst 1 :: .if_icmp .ne 28 :: cb_237_25
noncomputable def cb_237_15 : List Instr := .aload 0 :: .iconst 1 :: .iconst 60 :: .invokeinterface 209 140 :: .goto 33 :: cb_237_20
noncomputable def cb_237_12 : List Instr := .iload 1 :: .iconst 2 :: .if_icmp .ne 20 :: cb_237_15
noncomputable def cb_237_7 : List Instr := .aload 0 :: .iconst 0 :: .iconst 3 :: .invokeinterface 209 140 :: .goto 33 :: cb_237_12
noncomputable def cb_237_5 : List Instr := .iload 1 :: .ifCond .ne 12 :: cb_237_7
noncomputable def cb_237_3 : List Instr := .iconst 0 :: .goto 33 :: cb_237_5
noncomputable def cb_237_0 : List Instr := .iload 1 :: .iconst 4 :: .if_icmp .ne 5 :: cb_237_3
-- 238: FogWatchModel.readAgain()V
noncomputable def cb_238_49 : List Instr := .return_ :: []
noncomputable def cb_238_41 : List Instr := .aload 0 :: .getfield 1597 :: .iload 2 :: .iconst 2 :: .iadd :: .aload 0 :: .getfield 1600 :: .iastore :: cb_238_49
noncomputable def cb_238_29 : List Instr := .aload 0 :: .iconst 93 :: .invokeinterface 210 76 :: .aload 0 :: .dup :: .getfield 1550 :: .iconst 1 :: .isub :: .putfield 1550 :: .aload 0 :: .invokeinterface 201 12 :: .ifCond .eq 49 :: cb_238_41
noncomputable def cb_238_26 : List Instr := .aload 0 :: .invokeinterface 239 12 :: .goto 19 :: cb_238_29
noncomputable def cb_238_22 : List Instr := .aload 0 :: .invokeinterface 203 12 :: .iconst 93 :: .if_icmp .eq 29 :: cb_238_26
noncomputable def cb_238_19 : List Instr := .aload 0 :: .invokeinterface 201 12 :: .ifCond .eq 29 :: cb_238_22
noncomputable def cb_238_0 : List Instr := .aload 0 :: .iconst 5 :: .invokeinterface 224 76 :: .aload 0 :: .iconst 0 :: .iconst 40 :: .invokeinterface 209 140 :: .istore 1 :: .aload 0 :: .iconst 91 :: .invokeinterface 210 76 :: .aload 0 :: .getfield 1600 :: .istore 2 :: .aload 0 :: .iconst 5 :: .iload 1 :: .iconst 0 :: .invokeinterface 235 204 :: cb_238_19
-- 239: FogWatchModel.readStep()V
noncomputable def cb_239_41 : List Instr := .aload 0 :: .iconst 59 :: .invokeinterface 210 76 :: .return_ :: []
noncomputable def cb_239_40 : List Instr := .invokeinterface 235 204 :: cb_239_41
noncomputable def cb_239_39 : List Instr := .iconst 0 :: cb_239_40
noncomputable def cb_239_31 : List Instr := .aload 0 :: .iconst 0 :: .aload 0 :: .getfield 1574 :: .iconst 1 :: .isub :: .invokeinterface 209 140 :: .goto 40 :: cb_239_39
noncomputable def cb_239_19 : List Instr := .aload 0 :: .invokeinterface 208 12 :: .aload 0 :: .iload 1 :: .invokeinterface 237 76 :: .istore 2 :: .aload 0 :: .iload 1 :: .iload 2 :: .iload 1 :: .iconst 3 :: .if_icmp .ne 39 :: cb_239_31
noncomputable def cb_239_16 : List Instr := .aload 0 :: .invokeinterface 238 12 :: .goto 41 :: cb_239_19
noncomputable def cb_239_13 : List Instr := .iload 1 :: .iconst 5 :: .if_icmp .ne 19 :: cb_239_16
noncomputable def cb_239_7 : List Instr := .aload 0 :: .iconst 1 :: .aload 0 :: .getfield 1544 :: .invokeinterface 202 140 :: .goto 41 :: cb_239_13
noncomputable def cb_239_0 : List Instr := .aload 0 :: .invokeinterface 206 12 :: .multianewarray 236 2 :: .istore 1 :: .iload 1 :: .iconst (-1) :: .if_icmp .ne 13 :: cb_239_7
-- 240: FogWatchModel.work(I)I
noncomputable def cb_240_85 : List Instr := .aload 0 :: .dup :: .getfield 1602 :: .iconst 1 :: .iadd :: .putfield 1602 :: .aload 0 :: .invokeinterface 246 12 :: .aload 0 :: .iconst 0 :: .putfield 1606 :: .aload 0 :: .iconst 0 :: .putfield 1608 :: .aload 0 :: .iconst 0 :: .putfield 1610 :: .aload 0 :: .iconst 0 :: .aload 0 :: .getfield 1600 :: .invokeinterface 241 140 :: .aload 0 :: .aload 0 :: .getfield 1625 :: .aload 0 :: .getfield 1623 :: .iconst 35 :: .invokeinterface 215 204 :: .aload 0 :: .aload 0 :: .getfield 1610 :: .putfield 1604 :: .aload 0 :: .getfield 1608 :: .ireturn :: []
noncomputable def cb_240_70 : List Instr := .aload 0 :: .getfield 1627 :: .iconst 35 :: .aload 0 :: .getfield 1602 :: .imul :: .iload 3 :: .iadd :: .aload 0 :: .getfield 1623 :: .iload 3 :: .iaload :: .iastore :: .iinc 3 1 :: .goto 67 :: cb_240_85
noncomputable def cb_240_67 : List Instr := .iload 3 :: .iconst 35 :: .if_icmp .ge 85 :: cb_240_70
noncomputable def cb_240_57 : List Instr := .aload 0 :: .aload 0 :: .getfield 1597 :: .aload 0 :: .getfield 1599 :: .aload 0 :: .getfield 1600 :: .invokeinterface 215 204 :: .iconst 0 :: .istore 3 :: cb_240_67
noncomputable def cb_240_55 : List Instr := .iload 2 :: .ireturn :: cb_240_57
noncomputable def cb_240_47 : List Instr := .aload 0 :: .iconst 0 :: .invokeinterface 213 76 :: .istore 2 :: .aload 0 :: .getfield 1546 :: .iconst (-1) :: .if_icmp .eq 57 :: cb_240_55
noncomputable def cb_240_44 : List Instr := .aload 0 :: .invokeinterface 239 12 :: .goto 38 :: cb_240_47
noncomputable def cb_240_41 : List Instr := .aload 0 :: .invokeinterface 211 12 :: .ifCond .eq 47 :: cb_240_44
noncomputable def cb_240_38 : List Instr := .aload 0 :: .invokeinterface 201 12 :: .ifCond .eq 47 :: cb_240_41
noncomputable def cb_240_35 : List Instr := .aload 0 :: .iconst 0 :: .putfield 1600 :: cb_240_38
noncomputable def cb_240_29 : List Instr := .aload 0 :: .iconst 0 :: .invokeinterface 213 76 :: .pop :: .iconst (-20) :: .ireturn :: cb_240_35
noncomputable def cb_240_22 : List Instr := .aload 0 :: .iload 1 :: .invokeinterface 212 76 :: .aload 0 :: .getfield 1602 :: .iconst 16 :: .if_icmp .ne 35 :: cb_240_29
noncomputable def cb_240_20 : List Instr := .iconst 0 :: .ireturn :: cb_240_22
noncomputable def cb_240_16 : List Instr := .iconst 1 :: .iconst 1 :: .invokeinterface 197 204 :: .ifCond .ne 22 :: cb_240_20
noncomputable def cb_240_15 : List Instr := .iconst 0 :: cb_240_16
noncomputable def cb_240_13 : List Instr := .iconst 1 :: .goto 16 :: cb_240_15
noncomputable def cb_240_10 : List Instr := .iload 1 :: .iconst 150 :: .if_icmp .gt 15 :: cb_240_13
noncomputable def cb_240_6 : List Instr := .iload 1 :: .aload 0 :: .getfield 1540 :: .if_icmp .gt 15 :: cb_240_10
noncomputable def cb_240_0 : List Instr := .aload 0 :: .iconst 0 :: .putfield 1536 :: .aload 0 :: .iload 1 :: .ifCond .lt 15 :: cb_240_6
-- 241: FogWatchModel.goesSteps(II)V
noncomputable def cb_241_87 : List Instr := .return_ :: []
noncomputable def cb_241_85 : List Instr := .iinc 3 3 :: .goto 2 :: cb_241_87
noncomputable def cb_241_79 : List Instr := .aload 0 :: .dup :: .getfield 1610 :: .iconst 1 :: .iadd :: .putfield 1610 :: cb_241_85
noncomputable def cb_241_72 : List Instr := .aload 0 :: .dup :: .getfield 1608 :: .iconst 1 :: .iadd :: .putfield 1608 :: .goto 85 :: cb_241_79
noncomputable def cb_241_53 : List Instr := .aload 0 :: .aload 0 :: .getfield 1599 :: .iload 3 :: .iaload :: .aload 0 :: .getfield 1599 :: .iload 3 :: .iconst 1 :: .iadd :: .iaload :: .aload 0 :: .getfield 1599 :: .iload 3 :: .iconst 2 :: .iadd :: .iaload :: .invokeinterface 256 204 :: .ifCond .eq 79 :: cb_241_72
noncomputable def cb_241_50 : List Instr := .iload 4 :: .istore 3 :: .goto 2 :: cb_241_53
noncomputable def cb_241_42 : List Instr := .aload 0 :: .iload 3 :: .iconst 3 :: .iadd :: .iload 4 :: .invokeinterface 241 140 :: .iinc 5 1 :: .goto 30 :: cb_241_50
noncomputable def cb_241_38 : List Instr := .aload 0 :: .getfield 1606 :: .iconst 200 :: .if_icmp .ge 50 :: cb_241_42
noncomputable def cb_241_30 : List Instr := .iload 5 :: .aload 0 :: .getfield 1599 :: .iload 3 :: .iconst 1 :: .iadd :: .iaload :: .if_icmp .ge 50 :: cb_241_38
noncomputable def cb_241_21 : List Instr := .aload 0 :: .getfield 1599 :: .iload 3 :: .iconst 2 :: .iadd :: .iaload :: .istore 4 :: .iconst 0 :: .istore 5 :: cb_241_30
noncomputable def cb_241_9 : List Instr := .aload 0 :: .dup :: .getfield 1606 :: .iconst 1 :: .iadd :: .putfield 1606 :: .aload 0 :: .getfield 1599 :: .iload 3 :: .iaload :: .iconst 5 :: .if_icmp .ne 53 :: cb_241_21
noncomputable def cb_241_5 : List Instr := .aload 0 :: .getfield 1606 :: .iconst 200 :: .if_icmp .ge 87 :: cb_241_9
noncomputable def cb_241_2 : List Instr := .iload 3 :: .iload 2 :: .if_icmp .ge 87 :: cb_241_5
noncomputable def cb_241_0 : List Instr := .iload 1 :: .istore 3 :: cb_241_2
-- 242: FogWatchModel.readsRow(II)I
noncomputable def cb_242_43 : List Instr := .aload 0 :: .iload 3 :: .invokeinterface 213 76 :: .ireturn :: []
noncomputable def cb_242_36 : List Instr := .aload 0 :: .getfield 1613 :: .iload 3 :: .iload 5 :: .iastore :: .iinc 3 1 :: .goto 5 :: cb_242_43
noncomputable def cb_242_35 : List Instr := .goto 43 :: cb_242_36
noncomputable def cb_242_29 : List Instr := .aload 0 :: .iconst 59 :: .invokeinterface 210 76 :: .aload 0 :: .invokeinterface 201 12 :: .ifCond .ne 36 :: cb_242_35
noncomputable def cb_242_25 : List Instr := .aload 0 :: .iconst 3 :: .iload 4 :: .invokeinterface 202 140 :: cb_242_29
noncomputable def cb_242_22 : List Instr := .iload 3 :: .iconst 20 :: .if_icmp .ne 29 :: cb_242_25
noncomputable def cb_242_11 : List Instr := .aload 0 :: .getfield 1544 :: .istore 4 :: .aload 0 :: .iconst 0 :: .iload 2 :: .invokeinterface 209 140 :: .istore 5 :: .aload 0 :: .invokeinterface 201 12 :: .ifCond .eq 29 :: cb_242_22
noncomputable def cb_242_8 : List Instr := .aload 0 :: .invokeinterface 211 12 :: .ifCond .eq 43 :: cb_242_11
noncomputable def cb_242_5 : List Instr := .aload 0 :: .invokeinterface 201 12 :: .ifCond .eq 43 :: cb_242_8
noncomputable def cb_242_0 : List Instr := .aload 0 :: .iload 1 :: .invokeinterface 212 76 :: .iconst 0 :: .istore 3 :: cb_242_5
-- 243: FogWatchModel.maySmall(I)Z
noncomputable def cb_243_13 : List Instr := .iconst 1 :: .iconst 1 :: .invokeinterface 197 204 :: .freturn :: []
noncomputable def cb_243_12 : List Instr := .iconst 0 :: cb_243_13
noncomputable def cb_243_10 : List Instr := .iconst 1 :: .goto 13 :: cb_243_12
noncomputable def cb_243_7 : List Instr := .iload 1 :: .iconst 60 :: .if_icmp .gt 12 :: cb_243_10
noncomputable def cb_243_3 : List Instr := .iload 1 :: .aload 0 :: .getfield 1540 :: .if_icmp .gt 12 :: cb_243_7
noncomputable def cb_243_0 : List Instr := .aload 0 :: .iload 1 :: .ifCond .lt 12 :: cb_243_3
-- 244: FogWatchModel.song(I)I
noncomputable def cb_244_20 : List Instr := .aload 0 :: .iload 2 :: .putfield 1618 :: .aload 0 :: .aload 0 :: .getfield 1613 :: .aload 0 :: .getfield 1615 :: .iconst 20 :: .invokeinterface 215 204 :: .iload 2 :: .ireturn :: []
noncomputable def cb_244_18 : List Instr := .iload 2 :: .ireturn :: cb_244_20
noncomputable def cb_244_9 : List Instr := .aload 0 :: .iload 1 :: .iconst 3 :: .invokeinterface 242 140 :: .istore 2 :: .aload 0 :: .getfield 1546 :: .iconst (-1) :: .if_icmp .eq 20 :: cb_244_18
noncomputable def cb_244_7 : List Instr := .iconst 0 :: .ireturn :: cb_244_9
noncomputable def cb_244_0 : List Instr := .aload 0 :: .iconst 0 :: .putfield 1536 :: .aload 0 :: .iload 1 :: .invokeinterface 243 76 :: .ifCond .ne 9 :: cb_244_7
-- 245: FogWatchModel.book(I)I
noncomputable def cb_245_20 : List Instr := .aload 0 :: .iload 2 :: .putfield 1620 :: .aload 0 :: .aload 0 :: .getfield 1613 :: .aload 0 :: .getfield 1617 :: .iconst 20 :: .invokeinterface 215 204 :: .iload 2 :: .ireturn :: []
noncomputable def cb_245_18 : List Instr := .iload 2 :: .ireturn :: cb_245_20
noncomputable def cb_245_9 : List Instr := .aload 0 :: .iload 1 :: .iconst 9 :: .invokeinterface 242 140 :: .istore 2 :: .aload 0 :: .getfield 1546 :: .iconst (-1) :: .if_icmp .eq 20 :: cb_245_18
noncomputable def cb_245_7 : List Instr := .iconst 0 :: .ireturn :: cb_245_9
noncomputable def cb_245_0 : List Instr := .aload 0 :: .iconst 0 :: .putfield 1536 :: .aload 0 :: .iload 1 :: .invokeinterface 243 76 :: .ifCond .ne 9 :: cb_245_7
-- 246: FogWatchModel.take()V
noncomputable def cb_246_0 : List Instr := .aload 0 :: .aload 0 :: .getfield 1623 :: .aload 0 :: .getfield 1625 :: .iconst 35 :: .invokeinterface 215 204 :: .return_ :: []
-- 247: FogWatchModel.ones(I)I
noncomputable def cb_247_17 : List Instr := .iload 1 :: .ireturn :: []
noncomputable def cb_247_7 : List Instr := .iload 1 :: .iload 0 :: .iload 2 :: .ishr :: .iconst 1 :: .iand :: .iadd :: .istore 1 :: .iinc 2 1 :: .goto 4 :: cb_247_17
noncomputable def cb_247_4 : List Instr := .iload 2 :: .iconst 10 :: .if_icmp .ge 17 :: cb_247_7
noncomputable def cb_247_0 : List Instr := .iconst 0 :: .istore 1 :: .iconst 0 :: .istore 2 :: cb_247_4
-- 248: FogWatchModel.fogBits()I
noncomputable def cb_248_21 : List Instr := .iload 1 :: .ireturn :: []
noncomputable def cb_248_8 : List Instr := .iload 1 :: .aload 0 :: .getfield 1625 :: .iconst 20 :: .iload 2 :: .iadd :: .iaload :: .iload 2 :: .ishl :: .ior :: .istore 1 :: .iinc 2 1 :: .goto 4 :: cb_248_21
noncomputable def cb_248_4 : List Instr := .iload 2 :: .aload 0 :: .getfield 1574 :: .if_icmp .ge 21 :: cb_248_8
noncomputable def cb_248_0 : List Instr := .iconst 0 :: .istore 1 :: .iconst 0 :: .istore 2 :: cb_248_4
-- 249: FogWatchModel.menAt(I)I
noncomputable def cb_249_26 : List Instr := .iload 2 :: .ireturn :: []
noncomputable def cb_249_22 : List Instr := .ior :: .istore 2 :: .iinc 3 1 :: .goto 4 :: cb_249_26
noncomputable def cb_249_21 : List Instr := .iconst 0 :: cb_249_22
noncomputable def cb_249_17 : List Instr := .iconst 1 :: .iload 3 :: .ishl :: .goto 22 :: cb_249_21
noncomputable def cb_249_8 : List Instr := .iload 2 :: .aload 0 :: .getfield 1625 :: .iconst 0 :: .iload 3 :: .iadd :: .iaload :: .iload 1 :: .if_icmp .ne 21 :: cb_249_17
noncomputable def cb_249_4 : List Instr := .iload 3 :: .aload 0 :: .getfield 1576 :: .if_icmp .ge 26 :: cb_249_8
noncomputable def cb_249_0 : List Instr := .iconst 0 :: .istore 2 :: .iconst 0 :: .istore 3 :: cb_249_4
-- 250: FogWatchModel.mostMen()I
noncomputable def cb_250_23 : List Instr := .iload 1 :: .ireturn :: []
noncomputable def cb_250_20 : List Instr := .istore 1 :: .iinc 2 1 :: .goto 4 :: cb_250_23
noncomputable def cb_250_19 : List Instr := .iload 1 :: cb_250_20
noncomputable def cb_250_14 : List Instr := .aload 0 :: .iload 2 :: .invokeinterface 249 76 :: .multianewarray 247 2 :: .goto 20 :: cb_250_19
noncomputable def cb_250_8 : List Instr := .aload 0 :: .iload 2 :: .invokeinterface 249 76 :: .multianewarray 247 2 :: .iload 1 :: .if_icmp .le 19 :: cb_250_14
noncomputable def cb_250_4 : List Instr := .iload 2 :: .aload 0 :: .getfield 1574 :: .if_icmp .ge 23 :: cb_250_8
noncomputable def cb_250_0 : List Instr := .iconst 0 :: .istore 1 :: .iconst 0 :: .istore 2 :: cb_250_4
-- 251: FogWatchModel.costOf(IIIIIII)I
noncomputable def cb_251_0 : List Instr := .aload 0 :: .getfield 1595 :: .iconst 0 :: .iload 1 :: .iastore :: .aload 0 :: .getfield 1595 :: .iconst 1 :: .iload 2 :: .iastore :: .aload 0 :: .getfield 1595 :: .iconst 2 :: .iload 3 :: .iastore :: .aload 0 :: .getfield 1595 :: .iconst 3 :: .iload 4 :: .iastore :: .aload 0 :: .getfield 1595 :: .iconst 4 :: .iload 5 :: .iastore :: .aload 0 :: .getfield 1595 :: .iconst 5 :: .iload 6 :: .iastore :: .aload 0 :: .getfield 1595 :: .iconst 6 :: .iload 7 :: .iastore :: .aload 0 :: .invokeinterface 234 12 :: .ireturn :: []
-- 252: FogWatchModel.costBy(I)I
noncomputable def cb_252_18 : List Instr := .aload 0 :: .invokeinterface 248 12 :: .multianewarray 247 2 :: .aload 0 :: .invokeinterface 250 12 :: .aload 0 :: .getfield 1625 :: .iconst 34 :: .iaload :: .aload 0 :: .getfield 1625 :: .iconst 30 :: .iaload :: .invokeinterface 251 460 :: .ireturn :: []
noncomputable def cb_252_17 : List Instr := .iconst 0 :: cb_252_18
noncomputable def cb_252_12 : List Instr := .aload 0 :: .getfield 1625 :: .iconst 33 :: .iaload :: .goto 18 :: cb_252_17
noncomputable def cb_252_0 : List Instr := .aload 0 :: .iload 1 :: .aload 0 :: .getfield 1625 :: .iconst 31 :: .iaload :: .aload 0 :: .getfield 1625 :: .iconst 32 :: .iaload :: .iload 1 :: .if_icmp .ne 17 :: cb_252_12
-- 253: FogWatchModel.stepTo(II)I
noncomputable def cb_253_18 : List Instr := .ireturn :: []
noncomputable def cb_253_10 : List Instr := .aload 0 :: .getfield 1565 :: .iconst 4 :: .iload 1 :: .imul :: .iload 2 :: .iadd :: .iaload :: cb_253_18
noncomputable def cb_253_8 : List Instr := .iload 1 :: .goto 18 :: cb_253_10
noncomputable def cb_253_0 : List Instr := .aload 0 :: .getfield 1625 :: .iconst 20 :: .iload 1 :: .iadd :: .iaload :: .iconst 1 :: .if_icmp .ne 10 :: cb_253_8
-- 254: FogWatchModel.isBlown(I)Z
noncomputable def cb_254_113 : List Instr := .iastore :: .aload 0 :: .getfield 1625 :: .iconst 32 :: .iload 1 :: .iastore :: .aload 0 :: .getfield 1625 :: .iconst 31 :: .dup2 :: .iaload :: .iconst 1 :: .iadd :: .iastore :: .iconst 1 :: .freturn :: []
noncomputable def cb_254_112 : List Instr := .iconst 1 :: cb_254_113
noncomputable def cb_254_105 : List Instr := .aload 0 :: .getfield 1625 :: .iconst 33 :: .iaload :: .iconst 1 :: .iadd :: .goto 113 :: cb_254_112
noncomputable def cb_254_96 : List Instr := .aload 0 :: .getfield 1625 :: .iconst 33 :: .aload 0 :: .getfield 1625 :: .iconst 32 :: .iaload :: .iload 1 :: .if_icmp .ne 112 :: cb_254_105
noncomputable def cb_254_94 : List Instr := .iinc 3 1 :: .goto 22 :: cb_254_96
noncomputable def cb_254_50 : List Instr := .aload 0 :: .getfield 1625 :: .iconst 0 :: .iload 3 :: .iadd :: .aload 0 :: .getfield 1565 :: .iconst 4 :: .aload 0 :: .getfield 1625 :: .iconst 0 :: .iload 3 :: .iadd :: .iaload :: .imul :: .iload 1 :: .iadd :: .iaload :: .iastore :: .aload 0 :: .getfield 1625 :: .iconst 5 :: .iload 3 :: .iadd :: .aload 0 :: .getfield 1563 :: .aload 0 :: .getfield 1625 :: .iconst 0 :: .iload 3 :: .iadd :: .iaload :: .iaload :: .iastore :: .aload 0 :: .getfield 1625 :: .iconst 10 :: .iload 3 :: .iadd :: .dup2 :: .iaload :: .iconst 1 :: .iadd :: .iastore :: cb_254_94
noncomputable def cb_254_39 : List Instr := .aload 0 :: .getfield 1625 :: .iconst 15 :: .iload 3 :: .iadd :: .dup2 :: .iaload :: .iconst 1 :: .iadd :: .iastore :: .goto 94 :: cb_254_50
noncomputable def cb_254_26 : List Instr := .aload 0 :: .getfield 1625 :: .iconst 20 :: .aload 0 :: .getfield 1625 :: .iconst 0 :: .iload 3 :: .iadd :: .iaload :: .iadd :: .iaload :: .iconst 1 :: .if_icmp .ne 50 :: cb_254_39
noncomputable def cb_254_22 : List Instr := .iload 3 :: .aload 0 :: .getfield 1576 :: .if_icmp .ge 96 :: cb_254_26
noncomputable def cb_254_12 : List Instr := .aload 0 :: .getfield 1625 :: .iconst 30 :: .dup2 :: .iaload :: .iload 2 :: .isub :: .iastore :: .iconst 0 :: .istore 3 :: cb_254_22
noncomputable def cb_254_10 : List Instr := .iconst 0 :: .freturn :: cb_254_12
noncomputable def cb_254_0 : List Instr := .aload 0 :: .iload 1 :: .invokeinterface 252 76 :: .istore 2 :: .iload 2 :: .aload 0 :: .getfield 1625 :: .iconst 30 :: .iaload :: .if_icmp .le 12 :: cb_254_10
-- 255: FogWatchModel.passes()V
noncomputable def cb_255_46 : List Instr := .aload 0 :: .getfield 1625 :: .iconst 32 :: .iconst (-1) :: .iastore :: .aload 0 :: .getfield 1625 :: .iconst 33 :: .iconst 0 :: .iastore :: .aload 0 :: .getfield 1625 :: .iconst 34 :: .dup2 :: .iaload :: .iconst 1 :: .iadd :: .iastore :: .return_ :: []
noncomputable def cb_255_41 : List Instr := .aload 0 :: .getfield 1625 :: .iconst 20 :: .iload 1 :: .iastore :: cb_255_46
noncomputable def cb_255_38 : List Instr := .aload 0 :: .getfield 1574 :: .ifCond .le 46 :: cb_255_41
noncomputable def cb_255_22 : List Instr := .aload 0 :: .getfield 1625 :: .iconst 20 :: .iload 2 :: .iadd :: .aload 0 :: .getfield 1625 :: .iconst 20 :: .iload 2 :: .iadd :: .iconst 1 :: .isub :: .iaload :: .iastore :: .iinc 2 (-1) :: .goto 20 :: cb_255_38
noncomputable def cb_255_20 : List Instr := .iload 2 :: .ifCond .le 38 :: cb_255_22
noncomputable def cb_255_14 : List Instr := .istore 1 :: .aload 0 :: .getfield 1574 :: .iconst 1 :: .isub :: .istore 2 :: cb_255_20
noncomputable def cb_255_5 : List Instr := .aload 0 :: .getfield 1625 :: .iconst 20 :: .aload 0 :: .getfield 1574 :: .iadd :: .iconst 1 :: .isub :: .iaload :: cb_255_14
noncomputable def cb_255_3 : List Instr := .iconst 0 :: .goto 14 :: cb_255_5
noncomputable def cb_255_0 : List Instr := .aload 0 :: .getfield 1574 :: .ifCond .ne 5 :: cb_255_3
-- 256: FogWatchModel.isDone(III)Z
noncomputable def cb_256_92 : List Instr := .iconst 1 :: .freturn :: []
noncomputable def cb_256_90 : List Instr := .aload 0 :: .invokeinterface 255 12 :: cb_256_92
noncomputable def cb_256_82 : List Instr := .aload 0 :: .getfield 1625 :: .iconst 0 :: .iload 2 :: .iadd :: .iload 3 :: .iastore :: .goto 92 :: cb_256_90
noncomputable def cb_256_79 : List Instr := .iload 1 :: .iconst 3 :: .if_icmp .ne 90 :: cb_256_82
noncomputable def cb_256_77 : List Instr := .iastore :: .goto 92 :: cb_256_79
noncomputable def cb_256_71 : List Instr := .aload 0 :: .getfield 1625 :: .iconst 30 :: .iaload :: .iload 2 :: .iadd :: cb_256_77
noncomputable def cb_256_69 : List Instr := .iconst 200 :: .goto 77 :: cb_256_71
noncomputable def cb_256_58 : List Instr := .aload 0 :: .getfield 1625 :: .iconst 30 :: .aload 0 :: .getfield 1625 :: .iconst 30 :: .iaload :: .iload 2 :: .iadd :: .iconst 200 :: .if_icmp .le 71 :: cb_256_69
noncomputable def cb_256_55 : List Instr := .iload 1 :: .iconst 2 :: .if_icmp .ne 79 :: cb_256_58
noncomputable def cb_256_40 : List Instr := .aload 0 :: .getfield 1625 :: .iconst 20 :: .iload 2 :: .iadd :: .iconst 1 :: .aload 0 :: .getfield 1625 :: .iconst 20 :: .iload 2 :: .iadd :: .iaload :: .isub :: .iastore :: .goto 92 :: cb_256_55
noncomputable def cb_256_37 : List Instr := .iload 1 :: .iconst 1 :: .if_icmp .ne 55 :: cb_256_40
noncomputable def cb_256_35 : List Instr := .iconst 0 :: .freturn :: cb_256_37
noncomputable def cb_256_29 : List Instr := .aload 0 :: .getfield 1625 :: .iconst 34 :: .iaload :: .iconst 400 :: .if_icmp .lt 37 :: cb_256_35
noncomputable def cb_256_26 : List Instr := .iload 1 :: .iconst 4 :: .if_icmp .ne 37 :: cb_256_29
noncomputable def cb_256_18 : List Instr := .aload 0 :: .getfield 1625 :: .iconst 0 :: .iload 2 :: .iadd :: .iaload :: .iload 3 :: .if_icmp .eq 35 :: cb_256_26
noncomputable def cb_256_15 : List Instr := .iload 1 :: .iconst 3 :: .if_icmp .ne 26 :: cb_256_18
noncomputable def cb_256_9 : List Instr := .aload 0 :: .getfield 1625 :: .iconst 30 :: .iaload :: .iconst 200 :: .if_icmp .eq 35 :: cb_256_15
noncomputable def cb_256_6 : List Instr := .iload 1 :: .iconst 2 :: .if_icmp .ne 15 :: cb_256_9
noncomputable def cb_256_2 : List Instr := .aload 0 :: .iload 2 :: .invokeinterface 254 76 :: .freturn :: cb_256_6
noncomputable def cb_256_0 : List Instr := .iload 1 :: .ifCond .ne 6 :: cb_256_2
-- 257: FogWatchModel.undo()I
noncomputable def cb_257_34 : List Instr := .aload 0 :: .iconst 0 :: .putfield 1604 :: .aload 0 :: .getfield 1602 :: .ireturn :: []
noncomputable def cb_257_19 : List Instr := .aload 0 :: .getfield 1623 :: .iload 1 :: .aload 0 :: .getfield 1627 :: .iconst 35 :: .aload 0 :: .getfield 1602 :: .imul :: .iload 1 :: .iadd :: .iaload :: .iastore :: .iinc 1 1 :: .goto 16 :: cb_257_34
noncomputable def cb_257_16 : List Instr := .iload 1 :: .iconst 35 :: .if_icmp .ge 34 :: cb_257_19
noncomputable def cb_257_8 : List Instr := .aload 0 :: .dup :: .getfield 1602 :: .iconst 1 :: .isub :: .putfield 1602 :: .iconst 0 :: .istore 1 :: cb_257_16
noncomputable def cb_257_6 : List Instr := .iconst (-1) :: .ireturn :: cb_257_8
noncomputable def cb_257_0 : List Instr := .aload 0 :: .iconst 0 :: .putfield 1536 :: .aload 0 :: .getfield 1602 :: .ifCond .ne 8 :: cb_257_6
-- 258: FogWatchModel.menAnywhere()I
noncomputable def cb_258_21 : List Instr := .iload 1 :: .ireturn :: []
noncomputable def cb_258_8 : List Instr := .iload 1 :: .iconst 1 :: .aload 0 :: .getfield 1625 :: .iconst 0 :: .iload 2 :: .iadd :: .iaload :: .ishl :: .ior :: .istore 1 :: .iinc 2 1 :: .goto 4 :: cb_258_21
noncomputable def cb_258_4 : List Instr := .iload 2 :: .aload 0 :: .getfield 1576 :: .if_icmp .ge 21 :: cb_258_8
noncomputable def cb_258_0 : List Instr := .iconst 0 :: .istore 1 :: .iconst 0 :: .istore 2 :: cb_258_4
-- 259: FogWatchModel.told(I)I
noncomputable def cb_259_91 : List Instr := .ireturn :: []
noncomputable def cb_259_89 : List Instr := .aload 0 :: .invokeinterface 250 12 :: cb_259_91
noncomputable def cb_259_86 : List Instr := .aload 0 :: .getfield 1604 :: .goto 91 :: cb_259_89
noncomputable def cb_259_83 : List Instr := .iload 1 :: .iconst 10 :: .if_icmp .ne 89 :: cb_259_86
noncomputable def cb_259_80 : List Instr := .aload 0 :: .getfield 1620 :: .goto 91 :: cb_259_83
noncomputable def cb_259_77 : List Instr := .iload 1 :: .iconst 9 :: .if_icmp .ne 83 :: cb_259_80
noncomputable def cb_259_74 : List Instr := .aload 0 :: .getfield 1618 :: .goto 91 :: cb_259_77
noncomputable def cb_259_71 : List Instr := .iload 1 :: .iconst 8 :: .if_icmp .ne 77 :: cb_259_74
noncomputable def cb_259_70 : List Instr := .ireturn :: cb_259_71
noncomputable def cb_259_68 : List Instr := .aload 0 :: .invokeinterface 258 12 :: cb_259_70
noncomputable def cb_259_63 : List Instr := .aload 0 :: .getfield 1625 :: .iconst 32 :: .iaload :: .goto 70 :: cb_259_68
noncomputable def cb_259_60 : List Instr := .iload 1 :: .iconst 6 :: .if_icmp .ne 68 :: cb_259_63
noncomputable def cb_259_55 : List Instr := .aload 0 :: .getfield 1625 :: .iconst 31 :: .iaload :: .goto 70 :: cb_259_60
noncomputable def cb_259_52 : List Instr := .iload 1 :: .iconst 5 :: .if_icmp .ne 60 :: cb_259_55
noncomputable def cb_259_49 : List Instr := .aload 0 :: .invokeinterface 248 12 :: .goto 70 :: cb_259_52
noncomputable def cb_259_46 : List Instr := .iload 1 :: .iconst 4 :: .if_icmp .ne 52 :: cb_259_49
noncomputable def cb_259_43 : List Instr := .iload 1 :: .iconst 8 :: .if_icmp .ge 71 :: cb_259_46
noncomputable def cb_259_42 : List Instr := .ireturn :: cb_259_43
noncomputable def cb_259_38 : List Instr := .aload 0 :: .getfield 1625 :: .iconst 34 :: .iaload :: cb_259_42
noncomputable def cb_259_33 : List Instr := .aload 0 :: .getfield 1625 :: .iconst 30 :: .iaload :: .goto 42 :: cb_259_38
noncomputable def cb_259_30 : List Instr := .iload 1 :: .iconst 2 :: .if_icmp .ne 38 :: cb_259_33
noncomputable def cb_259_27 : List Instr := .aload 0 :: .getfield 1576 :: .goto 42 :: cb_259_30
noncomputable def cb_259_24 : List Instr := .iload 1 :: .iconst 1 :: .if_icmp .ne 30 :: cb_259_27
noncomputable def cb_259_21 : List Instr := .aload 0 :: .getfield 1574 :: .goto 42 :: cb_259_24
noncomputable def cb_259_19 : List Instr := .iload 1 :: .ifCond .ne 24 :: cb_259_21
noncomputable def cb_259_14 : List Instr := .aload 0 :: .invokeinterface 246 12 :: .iload 1 :: .iconst 4 :: .if_icmp .ge 43 :: cb_259_19
noncomputable def cb_259_12 : List Instr := .iconst 0 :: .ireturn :: cb_259_14
noncomputable def cb_259_0 : List Instr := .aload 0 :: .iconst 0 :: .putfield 1536 :: .aload 0 :: .iload 1 :: .iconst 0 :: .iconst 11 :: .multianewarray 198 6 :: .iconst 1 :: .iconst 1 :: .invokeinterface 197 204 :: .ifCond .ne 14 :: cb_259_12
-- 260: FogWatchModel.isCorner(II)Z
noncomputable def cb_260_0 : List Instr := .aload 0 :: .iload 1 :: .iconst 0 :: .aload 0 :: .getfield 1574 :: .iconst 1 :: .isub :: .multianewarray 198 6 :: .iload 2 :: .iconst 0 :: .invokeinterface 197 204 :: .freturn :: []
-- 261: FogWatchModel.isMan(II)Z
noncomputable def cb_261_0 : List Instr := .aload 0 :: .iload 1 :: .iconst 0 :: .aload 0 :: .getfield 1576 :: .iconst 1 :: .isub :: .multianewarray 198 6 :: .iload 2 :: .iconst 0 :: .invokeinterface 197 204 :: .freturn :: []
-- 262: FogWatchModel.isWhistle(I)Z
noncomputable def cb_262_8 : List Instr := .freturn :: []
noncomputable def cb_262_7 : List Instr := .iconst 0 :: cb_262_8
noncomputable def cb_262_5 : List Instr := .iconst 1 :: .goto 8 :: cb_262_7
noncomputable def cb_262_2 : List Instr := .iload 0 :: .iconst 4 :: .if_icmp .ge 7 :: cb_262_5
noncomputable def cb_262_0 : List Instr := .iload 0 :: .ifCond .lt 7 :: cb_262_2
-- 263: FogWatchModel.isSet(I)Z
noncomputable def cb_263_11 : List Instr := .freturn :: []
noncomputable def cb_263_10 : List Instr := .iconst 0 :: cb_263_11
noncomputable def cb_263_8 : List Instr := .iconst 1 :: .goto 11 :: cb_263_10
noncomputable def cb_263_2 : List Instr := .iload 1 :: .iconst 1 :: .aload 0 :: .getfield 1574 :: .ishl :: .if_icmp .ge 10 :: cb_263_8
noncomputable def cb_263_0 : List Instr := .iload 1 :: .ifCond .lt 10 :: cb_263_2
-- 264: FogWatchModel.corner(II)I
noncomputable def cb_264_41 : List Instr := .ireturn :: []
noncomputable def cb_264_38 : List Instr := .aload 0 :: .iload 1 :: .invokeinterface 249 76 :: cb_264_41
noncomputable def cb_264_31 : List Instr := .aload 0 :: .getfield 1625 :: .iconst 20 :: .iload 1 :: .iadd :: .iaload :: .goto 41 :: cb_264_38
noncomputable def cb_264_28 : List Instr := .iload 2 :: .iconst 1 :: .if_icmp .ne 38 :: cb_264_31
noncomputable def cb_264_23 : List Instr := .aload 0 :: .getfield 1563 :: .iload 1 :: .iaload :: .goto 41 :: cb_264_28
noncomputable def cb_264_19 : List Instr := .aload 0 :: .invokeinterface 246 12 :: .iload 2 :: .ifCond .ne 28 :: cb_264_23
noncomputable def cb_264_17 : List Instr := .iconst 0 :: .ireturn :: cb_264_19
noncomputable def cb_264_8 : List Instr := .aload 0 :: .iload 2 :: .iconst 0 :: .iconst 2 :: .multianewarray 198 6 :: .iconst 2 :: .iconst 1 :: .invokeinterface 197 204 :: .ifCond .ne 19 :: cb_264_17
noncomputable def cb_264_0 : List Instr := .aload 0 :: .iconst 0 :: .putfield 1536 :: .aload 0 :: .iload 1 :: .iconst 1 :: .invokeinterface 260 140 :: .ifCond .eq 17 :: cb_264_8
-- 265: FogWatchModel.way(II)I
noncomputable def cb_265_17 : List Instr := .aload 0 :: .getfield 1565 :: .iconst 4 :: .iload 1 :: .imul :: .iload 2 :: .iadd :: .iaload :: .ireturn :: []
noncomputable def cb_265_15 : List Instr := .iconst 0 :: .ireturn :: cb_265_17
noncomputable def cb_265_8 : List Instr := .aload 0 :: .iload 2 :: .multianewarray 262 2 :: .iconst 2 :: .iconst 1 :: .invokeinterface 197 204 :: .ifCond .ne 17 :: cb_265_15
noncomputable def cb_265_0 : List Instr := .aload 0 :: .iconst 0 :: .putfield 1536 :: .aload 0 :: .iload 1 :: .iconst 1 :: .invokeinterface 260 140 :: .ifCond .eq 15 :: cb_265_8
-- 266: FogWatchModel.man(II)I
noncomputable def cb_266_19 : List Instr := .aload 0 :: .getfield 1623 :: .iconst 0 :: .iconst 5 :: .iload 2 :: .imul :: .iadd :: .iload 1 :: .iadd :: .iaload :: .ireturn :: []
noncomputable def cb_266_17 : List Instr := .iconst 0 :: .ireturn :: cb_266_19
noncomputable def cb_266_8 : List Instr := .aload 0 :: .iload 2 :: .iconst 0 :: .iconst 3 :: .multianewarray 198 6 :: .iconst 2 :: .iconst 1 :: .invokeinterface 197 204 :: .ifCond .ne 19 :: cb_266_17
noncomputable def cb_266_0 : List Instr := .aload 0 :: .iconst 0 :: .putfield 1536 :: .aload 0 :: .iload 1 :: .iconst 1 :: .invokeinterface 261 140 :: .ifCond .eq 17 :: cb_266_8
-- 267: FogWatchModel.cost(I)I
noncomputable def cb_267_12 : List Instr := .aload 0 :: .invokeinterface 246 12 :: .aload 0 :: .iload 1 :: .invokeinterface 252 76 :: .ireturn :: []
noncomputable def cb_267_10 : List Instr := .iconst 0 :: .ireturn :: cb_267_12
noncomputable def cb_267_0 : List Instr := .aload 0 :: .iconst 0 :: .putfield 1536 :: .aload 0 :: .iload 1 :: .multianewarray 262 2 :: .iconst 1 :: .iconst 1 :: .invokeinterface 197 204 :: .ifCond .ne 12 :: cb_267_10
-- 268: FogWatchModel.would(IIIIIII)I
noncomputable def cb_268_46 : List Instr := .aload 0 :: .iload 1 :: .iload 2 :: .iload 3 :: .iload 4 :: .iload 5 :: .iload 6 :: .iload 7 :: .invokeinterface 251 460 :: .ireturn :: []
noncomputable def cb_268_44 : List Instr := .iconst 0 :: .ireturn :: cb_268_46
noncomputable def cb_268_40 : List Instr := .iconst 1 :: .iconst 1 :: .invokeinterface 197 204 :: .ifCond .ne 46 :: cb_268_44
noncomputable def cb_268_39 : List Instr := .iconst 0 :: cb_268_40
noncomputable def cb_268_37 : List Instr := .iconst 1 :: .goto 40 :: cb_268_39
noncomputable def cb_268_32 : List Instr := .iload 7 :: .iconst 0 :: .iconst 200 :: .multianewarray 198 6 :: .ifCond .eq 39 :: cb_268_37
noncomputable def cb_268_27 : List Instr := .iload 6 :: .iconst 0 :: .iconst 400 :: .multianewarray 198 6 :: .ifCond .eq 39 :: cb_268_32
noncomputable def cb_268_22 : List Instr := .iload 5 :: .iconst 0 :: .iconst 5 :: .multianewarray 198 6 :: .ifCond .eq 39 :: cb_268_27
noncomputable def cb_268_17 : List Instr := .iload 4 :: .iconst 0 :: .iconst 10 :: .multianewarray 198 6 :: .ifCond .eq 39 :: cb_268_22
noncomputable def cb_268_12 : List Instr := .iload 3 :: .iconst 0 :: .iconst 999 :: .multianewarray 198 6 :: .ifCond .eq 39 :: cb_268_17
noncomputable def cb_268_7 : List Instr := .iload 2 :: .iconst 0 :: .iconst 999 :: .multianewarray 198 6 :: .ifCond .eq 39 :: cb_268_12
noncomputable def cb_268_0 : List Instr := .aload 0 :: .iconst 0 :: .putfield 1536 :: .aload 0 :: .iload 1 :: .multianewarray 262 2 :: .ifCond .eq 39 :: cb_268_7
-- 269: FogWatchModel.ahead(II)I
noncomputable def cb_269_65 : List Instr := .iload 3 :: .ireturn :: []
noncomputable def cb_269_47 : List Instr := .iload 3 :: .aload 0 :: .getfield 1625 :: .iconst 20 :: .aload 0 :: .getfield 1625 :: .iconst 0 :: .iload 4 :: .iadd :: .iaload :: .iadd :: .iaload :: .iload 4 :: .ishl :: .ior :: .istore 3 :: .iinc 4 1 :: .goto 43 :: cb_269_65
noncomputable def cb_269_43 : List Instr := .iload 4 :: .aload 0 :: .getfield 1576 :: .if_icmp .ge 65 :: cb_269_47
noncomputable def cb_269_39 : List Instr := .iconst 0 :: .istore 3 :: .iconst 0 :: .istore 4 :: cb_269_43
noncomputable def cb_269_36 : List Instr := .aload 0 :: .invokeinterface 248 12 :: .ireturn :: cb_269_39
noncomputable def cb_269_34 : List Instr := .iload 2 :: .ifCond .ne 39 :: cb_269_36
noncomputable def cb_269_30 : List Instr := .aload 0 :: .invokeinterface 255 12 :: .iinc 3 1 :: .goto 27 :: cb_269_34
noncomputable def cb_269_27 : List Instr := .iload 3 :: .iload 1 :: .if_icmp .ge 34 :: cb_269_30
noncomputable def cb_269_23 : List Instr := .aload 0 :: .invokeinterface 246 12 :: .iconst 0 :: .istore 3 :: cb_269_27
noncomputable def cb_269_21 : List Instr := .iconst 0 :: .ireturn :: cb_269_23
noncomputable def cb_269_17 : List Instr := .iconst 1 :: .iconst 1 :: .invokeinterface 197 204 :: .ifCond .ne 23 :: cb_269_21
noncomputable def cb_269_16 : List Instr := .iconst 0 :: cb_269_17
noncomputable def cb_269_14 : List Instr := .iconst 1 :: .goto 17 :: cb_269_16
noncomputable def cb_269_9 : List Instr := .iload 2 :: .iconst 0 :: .iconst 1 :: .multianewarray 198 6 :: .ifCond .eq 16 :: cb_269_14
noncomputable def cb_269_0 : List Instr := .aload 0 :: .iconst 0 :: .putfield 1536 :: .aload 0 :: .iload 1 :: .iconst 0 :: .iconst 99 :: .multianewarray 198 6 :: .ifCond .eq 16 :: cb_269_9
-- 270: FogWatchModel.allTo(II)I
noncomputable def cb_270_28 : List Instr := .iload 3 :: .ireturn :: []
noncomputable def cb_270_24 : List Instr := .ior :: .istore 3 :: .iinc 4 1 :: .goto 4 :: cb_270_28
noncomputable def cb_270_23 : List Instr := .iconst 0 :: cb_270_24
noncomputable def cb_270_16 : List Instr := .iconst 1 :: .aload 0 :: .iload 4 :: .iload 2 :: .invokeinterface 253 140 :: .ishl :: .goto 24 :: cb_270_23
noncomputable def cb_270_8 : List Instr := .iload 3 :: .iload 1 :: .iload 4 :: .ishr :: .iconst 1 :: .iand :: .iconst 1 :: .if_icmp .ne 23 :: cb_270_16
noncomputable def cb_270_4 : List Instr := .iload 4 :: .aload 0 :: .getfield 1574 :: .if_icmp .ge 28 :: cb_270_8
noncomputable def cb_270_0 : List Instr := .iconst 0 :: .istore 3 :: .iconst 0 :: .istore 4 :: cb_270_4
-- 271: FogWatchModel.goes(I)I
noncomputable def cb_271_33 : List Instr := .iload 2 :: .ireturn :: []
noncomputable def cb_271_23 : List Instr := .aload 0 :: .iload 2 :: .aload 0 :: .getfield 1615 :: .iload 3 :: .iaload :: .invokeinterface 270 140 :: .istore 2 :: .iinc 3 1 :: .goto 19 :: cb_271_33
noncomputable def cb_271_19 : List Instr := .iload 3 :: .aload 0 :: .getfield 1618 :: .if_icmp .ge 33 :: cb_271_23
noncomputable def cb_271_13 : List Instr := .aload 0 :: .invokeinterface 246 12 :: .iload 1 :: .istore 2 :: .iconst 0 :: .istore 3 :: cb_271_19
noncomputable def cb_271_11 : List Instr := .iconst 0 :: .ireturn :: cb_271_13
noncomputable def cb_271_0 : List Instr := .aload 0 :: .iconst 0 :: .putfield 1536 :: .aload 0 :: .aload 0 :: .iload 1 :: .invokeinterface 263 76 :: .iconst 1 :: .iconst 1 :: .invokeinterface 197 204 :: .ifCond .ne 13 :: cb_271_11
-- 272: FogWatchModel.goesRound(II)I
noncomputable def cb_272_96 : List Instr := .iconst (-1) :: .ireturn :: []
noncomputable def cb_272_94 : List Instr := .iinc 4 1 :: .goto 26 :: cb_272_96
noncomputable def cb_272_92 : List Instr := .iinc 6 1 :: .goto 51 :: cb_272_94
noncomputable def cb_272_66 : List Instr := .aload 0 :: .getfield 1635 :: .iload 7 :: .aload 0 :: .getfield 1635 :: .iload 5 :: .iaload :: .iconst 1 :: .iadd :: .iastore :: .aload 0 :: .getfield 1631 :: .iload 7 :: .iload 5 :: .iastore :: .aload 0 :: .getfield 1633 :: .iload 7 :: .iload 6 :: .iastore :: .aload 0 :: .getfield 1629 :: .iload 3 :: .iload 7 :: .iastore :: .iinc 3 1 :: cb_272_92
noncomputable def cb_272_65 : List Instr := .goto 92 :: cb_272_66
noncomputable def cb_272_54 : List Instr := .aload 0 :: .iload 5 :: .iload 6 :: .invokeinterface 270 140 :: .istore 7 :: .aload 0 :: .getfield 1635 :: .iload 7 :: .iaload :: .iconst (-1) :: .if_icmp .eq 66 :: cb_272_65
noncomputable def cb_272_51 : List Instr := .iload 6 :: .iconst 4 :: .if_icmp .ge 94 :: cb_272_54
noncomputable def cb_272_49 : List Instr := .iconst 0 :: .istore 6 :: cb_272_51
noncomputable def cb_272_47 : List Instr := .iload 5 :: .ireturn :: cb_272_49
noncomputable def cb_272_42 : List Instr := .iload 5 :: .iconst 1 :: .iload 2 :: .ishl :: .if_icmp .ne 49 :: cb_272_47
noncomputable def cb_272_41 : List Instr := .goto 47 :: cb_272_42
noncomputable def cb_272_37 : List Instr := .iload 5 :: .multianewarray 247 2 :: .iconst 1 :: .if_icmp .ne 49 :: cb_272_41
noncomputable def cb_272_29 : List Instr := .aload 0 :: .getfield 1629 :: .iload 4 :: .iaload :: .istore 5 :: .iload 2 :: .iconst (-1) :: .if_icmp .ne 42 :: cb_272_37
noncomputable def cb_272_26 : List Instr := .iload 4 :: .iload 3 :: .if_icmp .ge 96 :: cb_272_29
noncomputable def cb_272_12 : List Instr := .aload 0 :: .getfield 1635 :: .iload 1 :: .iconst 0 :: .iastore :: .aload 0 :: .getfield 1629 :: .iconst 0 :: .iload 1 :: .iastore :: .iconst 1 :: .istore 3 :: .iconst 0 :: .istore 4 :: cb_272_26
noncomputable def cb_272_5 : List Instr := .aload 0 :: .getfield 1635 :: .iload 3 :: .iconst (-1) :: .iastore :: .iinc 3 1 :: .goto 2 :: cb_272_12
noncomputable def cb_272_2 : List Instr := .iload 3 :: .iconst 1024 :: .if_icmp .ge 12 :: cb_272_5
noncomputable def cb_272_0 : List Instr := .iconst 0 :: .istore 3 :: cb_272_2
-- 273: FogWatchModel.cornerOf(I)I
noncomputable def cb_273_10 : List Instr := .iload 1 :: .ireturn :: []
noncomputable def cb_273_8 : List Instr := .iinc 1 1 :: .goto 2 :: cb_273_10
noncomputable def cb_273_2 : List Instr := .iload 0 :: .iload 1 :: .ishr :: .iconst 1 :: .iand :: .ifCond .ne 10 :: cb_273_8
noncomputable def cb_273_0 : List Instr := .iconst 0 :: .istore 1 :: cb_273_2
-- 274: FogWatchModel.reset(II)I
noncomputable def cb_274_51 : List Instr := .ireturn :: []
noncomputable def cb_274_49 : List Instr := .iload 3 :: .multianewarray 273 2 :: cb_274_51
noncomputable def cb_274_44 : List Instr := .aload 0 :: .getfield 1635 :: .iload 3 :: .iaload :: .goto 51 :: cb_274_49
noncomputable def cb_274_42 : List Instr := .iload 2 :: .ifCond .ne 49 :: cb_274_44
noncomputable def cb_274_40 : List Instr := .iconst (-1) :: .goto 51 :: cb_274_42
noncomputable def cb_274_30 : List Instr := .aload 0 :: .invokeinterface 246 12 :: .aload 0 :: .iload 1 :: .iconst (-1) :: .invokeinterface 272 140 :: .istore 3 :: .iload 3 :: .iconst (-1) :: .if_icmp .ne 42 :: cb_274_40
noncomputable def cb_274_29 : List Instr := .ireturn :: cb_274_30
noncomputable def cb_274_28 : List Instr := .iconst (-1) :: cb_274_29
noncomputable def cb_274_26 : List Instr := .iconst 0 :: .goto 29 :: cb_274_28
noncomputable def cb_274_24 : List Instr := .iload 2 :: .ifCond .ne 28 :: cb_274_26
noncomputable def cb_274_22 : List Instr := .iload 1 :: .ifCond .ne 30 :: cb_274_24
noncomputable def cb_274_20 : List Instr := .iconst 0 :: .ireturn :: cb_274_22
noncomputable def cb_274_16 : List Instr := .iconst 1 :: .iconst 1 :: .invokeinterface 197 204 :: .ifCond .ne 22 :: cb_274_20
noncomputable def cb_274_15 : List Instr := .iconst 0 :: cb_274_16
noncomputable def cb_274_13 : List Instr := .iconst 1 :: .goto 16 :: cb_274_15
noncomputable def cb_274_8 : List Instr := .iload 2 :: .iconst 0 :: .iconst 1 :: .multianewarray 198 6 :: .ifCond .eq 15 :: cb_274_13
noncomputable def cb_274_0 : List Instr := .aload 0 :: .iconst 0 :: .putfield 1536 :: .aload 0 :: .aload 0 :: .iload 1 :: .invokeinterface 263 76 :: .ifCond .eq 15 :: cb_274_8
-- 275: FogWatchModel.row(II)I
noncomputable def cb_275_55 : List Instr := .aload 0 :: .getfield 1633 :: .iload 3 :: .iaload :: .ireturn :: []
noncomputable def cb_275_49 : List Instr := .aload 0 :: .getfield 1631 :: .iload 3 :: .iaload :: .istore 3 :: .goto 41 :: cb_275_55
noncomputable def cb_275_41 : List Instr := .aload 0 :: .getfield 1635 :: .iload 3 :: .iaload :: .iload 2 :: .iconst 1 :: .iadd :: .if_icmp .le 55 :: cb_275_49
noncomputable def cb_275_39 : List Instr := .iconst (-1) :: .ireturn :: cb_275_41
noncomputable def cb_275_33 : List Instr := .iload 2 :: .aload 0 :: .getfield 1635 :: .iload 3 :: .iaload :: .if_icmp .lt 41 :: cb_275_39
noncomputable def cb_275_23 : List Instr := .aload 0 :: .invokeinterface 246 12 :: .aload 0 :: .iload 1 :: .iconst (-1) :: .invokeinterface 272 140 :: .istore 3 :: .iload 3 :: .iconst (-1) :: .if_icmp .eq 39 :: cb_275_33
noncomputable def cb_275_21 : List Instr := .iconst (-1) :: .ireturn :: cb_275_23
noncomputable def cb_275_19 : List Instr := .iload 1 :: .ifCond .ne 23 :: cb_275_21
noncomputable def cb_275_17 : List Instr := .iconst 0 :: .ireturn :: cb_275_19
noncomputable def cb_275_13 : List Instr := .iconst 1 :: .iconst 1 :: .invokeinterface 197 204 :: .ifCond .ne 19 :: cb_275_17
noncomputable def cb_275_12 : List Instr := .iconst 0 :: cb_275_13
noncomputable def cb_275_10 : List Instr := .iconst 1 :: .goto 13 :: cb_275_12
noncomputable def cb_275_8 : List Instr := .iload 2 :: .ifCond .lt 12 :: cb_275_10
noncomputable def cb_275_0 : List Instr := .aload 0 :: .iconst 0 :: .putfield 1536 :: .aload 0 :: .aload 0 :: .iload 1 :: .invokeinterface 263 76 :: .ifCond .eq 12 :: cb_275_8
-- 276: FogWatchModel.home(II)I
noncomputable def cb_276_38 : List Instr := .ireturn :: []
noncomputable def cb_276_34 : List Instr := .aload 0 :: .getfield 1635 :: .iload 3 :: .iaload :: cb_276_38
noncomputable def cb_276_32 : List Instr := .iconst (-1) :: .goto 38 :: cb_276_34
noncomputable def cb_276_22 : List Instr := .aload 0 :: .invokeinterface 246 12 :: .aload 0 :: .iload 1 :: .iload 2 :: .invokeinterface 272 140 :: .istore 3 :: .iload 3 :: .iconst (-1) :: .if_icmp .ne 34 :: cb_276_32
noncomputable def cb_276_20 : List Instr := .iconst 0 :: .ireturn :: cb_276_22
noncomputable def cb_276_18 : List Instr := .iload 1 :: .ifCond .ne 22 :: cb_276_20
noncomputable def cb_276_16 : List Instr := .iconst 0 :: .ireturn :: cb_276_18
noncomputable def cb_276_8 : List Instr := .aload 0 :: .aload 0 :: .iload 1 :: .invokeinterface 263 76 :: .iconst 2 :: .iconst 1 :: .invokeinterface 197 204 :: .ifCond .ne 18 :: cb_276_16
noncomputable def cb_276_0 : List Instr := .aload 0 :: .iconst 0 :: .putfield 1536 :: .aload 0 :: .iload 2 :: .iconst 1 :: .invokeinterface 260 140 :: .ifCond .eq 16 :: cb_276_8
-- 277: FogWatchModel.cheap(I)I
noncomputable def cb_277_128 : List Instr := .ireturn :: []
noncomputable def cb_277_127 : List Instr := .iload 3 :: cb_277_128
noncomputable def cb_277_125 : List Instr := .iconst (-1) :: .goto 128 :: cb_277_127
noncomputable def cb_277_122 : List Instr := .iload 3 :: .iconst 999999 :: .if_icmp .ne 127 :: cb_277_125
noncomputable def cb_277_119 : List Instr := .istore 3 :: .iinc 4 1 :: .goto 99 :: cb_277_122
noncomputable def cb_277_118 : List Instr := .iload 3 :: cb_277_119
noncomputable def cb_277_111 : List Instr := .aload 0 :: .getfield 1635 :: .iconst 1 :: .iload 4 :: .ishl :: .iaload :: .goto 119 :: cb_277_118
noncomputable def cb_277_103 : List Instr := .aload 0 :: .getfield 1635 :: .iconst 1 :: .iload 4 :: .ishl :: .iaload :: .iload 3 :: .if_icmp .ge 118 :: cb_277_111
noncomputable def cb_277_99 : List Instr := .iload 4 :: .aload 0 :: .getfield 1574 :: .if_icmp .ge 122 :: cb_277_103
noncomputable def cb_277_95 : List Instr := .iconst 999999 :: .istore 3 :: .iconst 0 :: .istore 4 :: cb_277_99
noncomputable def cb_277_94 : List Instr := .goto 38 :: cb_277_95
noncomputable def cb_277_92 : List Instr := .iinc 3 1 :: .goto 44 :: cb_277_94
noncomputable def cb_277_90 : List Instr := .iinc 4 1 :: .goto 59 :: cb_277_92
noncomputable def cb_277_83 : List Instr := .aload 0 :: .getfield 1635 :: .iload 5 :: .iload 6 :: .iastore :: .iconst 1 :: .istore 2 :: cb_277_90
noncomputable def cb_277_82 : List Instr := .goto 90 :: cb_277_83
noncomputable def cb_277_62 : List Instr := .aload 0 :: .iload 3 :: .iload 4 :: .invokeinterface 270 140 :: .istore 5 :: .aload 0 :: .getfield 1635 :: .iload 3 :: .iaload :: .aload 0 :: .iload 4 :: .invokeinterface 252 76 :: .iadd :: .istore 6 :: .iload 6 :: .aload 0 :: .getfield 1635 :: .iload 5 :: .iaload :: .if_icmp .lt 83 :: cb_277_82
noncomputable def cb_277_59 : List Instr := .iload 4 :: .iconst 4 :: .if_icmp .ge 92 :: cb_277_62
noncomputable def cb_277_57 : List Instr := .iconst 0 :: .istore 4 :: cb_277_59
noncomputable def cb_277_56 : List Instr := .goto 92 :: cb_277_57
noncomputable def cb_277_50 : List Instr := .aload 0 :: .getfield 1635 :: .iload 3 :: .iaload :: .iconst 999999 :: .if_icmp .ne 57 :: cb_277_56
noncomputable def cb_277_44 : List Instr := .iload 3 :: .iconst 1 :: .aload 0 :: .getfield 1574 :: .ishl :: .if_icmp .ge 94 :: cb_277_50
noncomputable def cb_277_40 : List Instr := .iconst 0 :: .istore 2 :: .iconst 1 :: .istore 3 :: cb_277_44
noncomputable def cb_277_38 : List Instr := .iload 2 :: .ifCond .eq 95 :: cb_277_40
noncomputable def cb_277_36 : List Instr := .iconst 1 :: .istore 2 :: cb_277_38
noncomputable def cb_277_33 : List Instr := .iastore :: .iinc 2 1 :: .goto 21 :: cb_277_36
noncomputable def cb_277_32 : List Instr := .iconst 999999 :: cb_277_33
noncomputable def cb_277_30 : List Instr := .iconst 0 :: .goto 33 :: cb_277_32
noncomputable def cb_277_24 : List Instr := .aload 0 :: .getfield 1635 :: .iload 2 :: .iload 2 :: .iload 1 :: .if_icmp .ne 32 :: cb_277_30
noncomputable def cb_277_21 : List Instr := .iload 2 :: .iconst 1024 :: .if_icmp .ge 36 :: cb_277_24
noncomputable def cb_277_17 : List Instr := .aload 0 :: .invokeinterface 246 12 :: .iconst 0 :: .istore 2 :: cb_277_21
noncomputable def cb_277_15 : List Instr := .iconst 0 :: .ireturn :: cb_277_17
noncomputable def cb_277_13 : List Instr := .iload 1 :: .ifCond .ne 17 :: cb_277_15
noncomputable def cb_277_11 : List Instr := .iconst 0 :: .ireturn :: cb_277_13
noncomputable def cb_277_0 : List Instr := .aload 0 :: .iconst 0 :: .putfield 1536 :: .aload 0 :: .aload 0 :: .iload 1 :: .invokeinterface 263 76 :: .iconst 1 :: .iconst 1 :: .invokeinterface 197 204 :: .ifCond .ne 13 :: cb_277_11
-- 278: FogWatchModel.laysTells()V
noncomputable def cb_278_108 : List Instr := .return_ :: []
noncomputable def cb_278_107 : List Instr := .goto 41 :: cb_278_108
noncomputable def cb_278_105 : List Instr := .iinc 2 1 :: .goto 47 :: cb_278_107
noncomputable def cb_278_103 : List Instr := .iinc 3 1 :: .goto 53 :: cb_278_105
noncomputable def cb_278_101 : List Instr := .iinc 4 1 :: .goto 59 :: cb_278_103
noncomputable def cb_278_90 : List Instr := .aload 0 :: .getfield 1637 :: .iconst 10 :: .iload 2 :: .imul :: .iload 3 :: .iadd :: .iload 5 :: .iastore :: .iconst 1 :: .istore 1 :: cb_278_101
noncomputable def cb_278_89 : List Instr := .goto 101 :: cb_278_90
noncomputable def cb_278_62 : List Instr := .aload 0 :: .getfield 1637 :: .iconst 10 :: .aload 0 :: .iload 2 :: .iload 4 :: .invokeinterface 253 140 :: .imul :: .aload 0 :: .iload 3 :: .iload 4 :: .invokeinterface 253 140 :: .iadd :: .iaload :: .iconst 1 :: .iadd :: .istore 5 :: .iload 5 :: .aload 0 :: .getfield 1637 :: .iconst 10 :: .iload 2 :: .imul :: .iload 3 :: .iadd :: .iaload :: .if_icmp .lt 90 :: cb_278_89
noncomputable def cb_278_59 : List Instr := .iload 4 :: .iconst 4 :: .if_icmp .ge 103 :: cb_278_62
noncomputable def cb_278_57 : List Instr := .iconst 0 :: .istore 4 :: cb_278_59
noncomputable def cb_278_53 : List Instr := .iload 3 :: .aload 0 :: .getfield 1574 :: .if_icmp .ge 105 :: cb_278_57
noncomputable def cb_278_51 : List Instr := .iconst 0 :: .istore 3 :: cb_278_53
noncomputable def cb_278_47 : List Instr := .iload 2 :: .aload 0 :: .getfield 1574 :: .if_icmp .ge 107 :: cb_278_51
noncomputable def cb_278_43 : List Instr := .iconst 0 :: .istore 1 :: .iconst 0 :: .istore 2 :: cb_278_47
noncomputable def cb_278_41 : List Instr := .iload 1 :: .ifCond .eq 108 :: cb_278_43
noncomputable def cb_278_39 : List Instr := .iconst 1 :: .istore 1 :: cb_278_41
noncomputable def cb_278_36 : List Instr := .iastore :: .iinc 1 1 :: .goto 2 :: cb_278_39
noncomputable def cb_278_35 : List Instr := .iconst 999999 :: cb_278_36
noncomputable def cb_278_33 : List Instr := .iconst 0 :: .goto 36 :: cb_278_35
noncomputable def cb_278_20 : List Instr := .aload 0 :: .getfield 1563 :: .iload 1 :: .iconst 10 :: .idiv :: .iaload :: .aload 0 :: .getfield 1563 :: .iload 1 :: .iconst 10 :: .irem :: .iaload :: .if_icmp .eq 35 :: cb_278_33
noncomputable def cb_278_14 : List Instr := .iload 1 :: .iconst 10 :: .irem :: .aload 0 :: .getfield 1574 :: .if_icmp .ge 35 :: cb_278_20
noncomputable def cb_278_5 : List Instr := .aload 0 :: .getfield 1637 :: .iload 1 :: .iload 1 :: .iconst 10 :: .idiv :: .aload 0 :: .getfield 1574 :: .if_icmp .ge 35 :: cb_278_14
noncomputable def cb_278_2 : List Instr := .iload 1 :: .iconst 100 :: .if_icmp .ge 39 :: cb_278_5
noncomputable def cb_278_0 : List Instr := .iconst 0 :: .istore 1 :: cb_278_2
-- 279: FogWatchModel.apart(II)I
noncomputable def cb_279_39 : List Instr := .ireturn :: []
noncomputable def cb_279_31 : List Instr := .aload 0 :: .getfield 1637 :: .iconst 10 :: .iload 1 :: .imul :: .iload 2 :: .iadd :: .iaload :: cb_279_39
noncomputable def cb_279_29 : List Instr := .iconst (-1) :: .goto 39 :: cb_279_31
noncomputable def cb_279_15 : List Instr := .aload 0 :: .invokeinterface 246 12 :: .aload 0 :: .invokeinterface 278 12 :: .aload 0 :: .getfield 1637 :: .iconst 10 :: .iload 1 :: .imul :: .iload 2 :: .iadd :: .iaload :: .iconst 999999 :: .if_icmp .lt 31 :: cb_279_29
noncomputable def cb_279_13 : List Instr := .iconst 0 :: .ireturn :: cb_279_15
noncomputable def cb_279_8 : List Instr := .aload 0 :: .iload 2 :: .iconst 1 :: .invokeinterface 260 140 :: .ifCond .ne 15 :: cb_279_13
noncomputable def cb_279_0 : List Instr := .aload 0 :: .iconst 0 :: .putfield 1536 :: .aload 0 :: .iload 1 :: .iconst 1 :: .invokeinterface 260 140 :: .ifCond .eq 13 :: cb_279_8
-- 280: FogWatchModel.alikeOf(I)I
noncomputable def cb_280_28 : List Instr := .iload 2 :: .ireturn :: []
noncomputable def cb_280_24 : List Instr := .ior :: .istore 2 :: .iinc 3 1 :: .goto 4 :: cb_280_28
noncomputable def cb_280_23 : List Instr := .iconst 0 :: cb_280_24
noncomputable def cb_280_19 : List Instr := .iconst 1 :: .iload 3 :: .ishl :: .goto 24 :: cb_280_23
noncomputable def cb_280_8 : List Instr := .iload 2 :: .aload 0 :: .getfield 1637 :: .iconst 10 :: .iload 1 :: .imul :: .iload 3 :: .iadd :: .iaload :: .iconst 999999 :: .if_icmp .lt 23 :: cb_280_19
noncomputable def cb_280_4 : List Instr := .iload 3 :: .aload 0 :: .getfield 1574 :: .if_icmp .ge 28 :: cb_280_8
noncomputable def cb_280_0 : List Instr := .iconst 0 :: .istore 2 :: .iconst 0 :: .istore 3 :: cb_280_4
-- 281: FogWatchModel.alike(I)I
noncomputable def cb_281_10 : List Instr := .aload 0 :: .invokeinterface 246 12 :: .aload 0 :: .invokeinterface 278 12 :: .aload 0 :: .iload 1 :: .invokeinterface 280 76 :: .ireturn :: []
noncomputable def cb_281_8 : List Instr := .iconst 0 :: .ireturn :: cb_281_10
noncomputable def cb_281_0 : List Instr := .aload 0 :: .iconst 0 :: .putfield 1536 :: .aload 0 :: .iload 1 :: .iconst 1 :: .invokeinterface 260 140 :: .ifCond .ne 10 :: cb_281_8
-- 282: FogWatchModel.kinds()I
noncomputable def cb_282_29 : List Instr := .iload 1 :: .ireturn :: []
noncomputable def cb_282_25 : List Instr := .iadd :: .istore 1 :: .iinc 2 1 :: .goto 11 :: cb_282_29
noncomputable def cb_282_24 : List Instr := .iconst 0 :: cb_282_25
noncomputable def cb_282_22 : List Instr := .iconst 1 :: .goto 25 :: cb_282_24
noncomputable def cb_282_15 : List Instr := .iload 1 :: .aload 0 :: .iload 2 :: .invokeinterface 280 76 :: .multianewarray 273 2 :: .iload 2 :: .if_icmp .ne 24 :: cb_282_22
noncomputable def cb_282_11 : List Instr := .iload 2 :: .aload 0 :: .getfield 1574 :: .if_icmp .ge 29 :: cb_282_15
noncomputable def cb_282_0 : List Instr := .aload 0 :: .iconst 0 :: .putfield 1536 :: .aload 0 :: .invokeinterface 246 12 :: .aload 0 :: .invokeinterface 278 12 :: .iconst 0 :: .istore 1 :: .iconst 0 :: .istore 2 :: cb_282_11
-- 283: FogWatchModel.rows(III)J
noncomputable def cb_283_106 : List Instr := .aload 0 :: .getfield 1639 :: .iload 2 :: .laload :: .lreturn :: []
noncomputable def cb_283_104 : List Instr := .iinc 4 1 :: .goto 45 :: cb_283_106
noncomputable def cb_283_94 : List Instr := .aload 0 :: .getfield 1639 :: .iload 5 :: .aload 0 :: .getfield 1641 :: .iload 5 :: .laload :: .lastore :: .iinc 5 1 :: .goto 91 :: cb_283_104
noncomputable def cb_283_91 : List Instr := .iload 5 :: .iconst 10 :: .if_icmp .ge 104 :: cb_283_94
noncomputable def cb_283_89 : List Instr := .iconst 0 :: .istore 5 :: cb_283_91
noncomputable def cb_283_87 : List Instr := .iinc 5 1 :: .goto 62 :: cb_283_89
noncomputable def cb_283_71 : List Instr := .aload 0 :: .getfield 1641 :: .aload 0 :: .iload 5 :: .iload 6 :: .invokeinterface 253 140 :: .dup2 :: .laload :: .aload 0 :: .getfield 1639 :: .iload 5 :: .laload :: .ladd :: .lastore :: .iinc 6 1 :: .goto 68 :: cb_283_87
noncomputable def cb_283_68 : List Instr := .iload 6 :: .iconst 4 :: .if_icmp .ge 87 :: cb_283_71
noncomputable def cb_283_66 : List Instr := .iconst 0 :: .istore 6 :: cb_283_68
noncomputable def cb_283_62 : List Instr := .iload 5 :: .aload 0 :: .getfield 1574 :: .if_icmp .ge 89 :: cb_283_66
noncomputable def cb_283_60 : List Instr := .iconst 0 :: .istore 5 :: cb_283_62
noncomputable def cb_283_53 : List Instr := .aload 0 :: .getfield 1641 :: .iload 5 :: .ldc2_w 0 :: .lastore :: .iinc 5 1 :: .goto 50 :: cb_283_60
noncomputable def cb_283_50 : List Instr := .iload 5 :: .iconst 10 :: .if_icmp .ge 60 :: cb_283_53
noncomputable def cb_283_48 : List Instr := .iconst 0 :: .istore 5 :: cb_283_50
noncomputable def cb_283_45 : List Instr := .iload 4 :: .iload 3 :: .if_icmp .ge 106 :: cb_283_48
noncomputable def cb_283_43 : List Instr := .iconst 0 :: .istore 4 :: cb_283_45
noncomputable def cb_283_40 : List Instr := .lastore :: .iinc 4 1 :: .goto 28 :: cb_283_43
noncomputable def cb_283_39 : List Instr := .ldc2_w 0 :: cb_283_40
noncomputable def cb_283_37 : List Instr := .ldc2_w 1 :: .goto 40 :: cb_283_39
noncomputable def cb_283_31 : List Instr := .aload 0 :: .getfield 1639 :: .iload 4 :: .iload 4 :: .iload 1 :: .if_icmp .ne 39 :: cb_283_37
noncomputable def cb_283_28 : List Instr := .iload 4 :: .iconst 10 :: .if_icmp .ge 43 :: cb_283_31
noncomputable def cb_283_24 : List Instr := .aload 0 :: .invokeinterface 246 12 :: .iconst 0 :: .istore 4 :: cb_283_28
noncomputable def cb_283_22 : List Instr := .ldc2_w 0 :: .lreturn :: cb_283_24
noncomputable def cb_283_13 : List Instr := .aload 0 :: .iload 3 :: .iconst 0 :: .iconst 30 :: .multianewarray 198 6 :: .iconst 2 :: .iconst 1 :: .invokeinterface 197 204 :: .ifCond .ne 24 :: cb_283_22
noncomputable def cb_283_8 : List Instr := .aload 0 :: .iload 2 :: .iconst 1 :: .invokeinterface 260 140 :: .ifCond .eq 22 :: cb_283_13
noncomputable def cb_283_0 : List Instr := .aload 0 :: .iconst 0 :: .putfield 1536 :: .aload 0 :: .iload 1 :: .iconst 1 :: .invokeinterface 260 140 :: .ifCond .eq 22 :: cb_283_8
-- 284: FogWatchModel.songFrom(II)I
noncomputable def cb_284_17 : List Instr := .iload 3 :: .ireturn :: []
noncomputable def cb_284_7 : List Instr := .aload 0 :: .iload 3 :: .aload 0 :: .getfield 1615 :: .iload 4 :: .iaload :: .invokeinterface 253 140 :: .istore 3 :: .iinc 4 1 :: .goto 4 :: cb_284_17
noncomputable def cb_284_4 : List Instr := .iload 4 :: .iload 2 :: .if_icmp .ge 17 :: cb_284_7
noncomputable def cb_284_0 : List Instr := .iload 1 :: .istore 3 :: .iconst 0 :: .istore 4 :: cb_284_4
-- 285: FogWatchModel.ring(II)I
noncomputable def cb_285_66 : List Instr := .ireturn :: []
noncomputable def cb_285_60 : List Instr := .iload 4 :: .aload 0 :: .getfield 1643 :: .iload 3 :: .iaload :: .isub :: cb_285_66
noncomputable def cb_285_58 : List Instr := .iload 4 :: .goto 66 :: cb_285_60
noncomputable def cb_285_56 : List Instr := .iload 2 :: .ifCond .ne 60 :: cb_285_58
noncomputable def cb_285_43 : List Instr := .aload 0 :: .getfield 1643 :: .iload 3 :: .iload 4 :: .iastore :: .aload 0 :: .iload 3 :: .aload 0 :: .getfield 1618 :: .invokeinterface 284 140 :: .istore 3 :: .iinc 4 1 :: .goto 37 :: cb_285_56
noncomputable def cb_285_37 : List Instr := .aload 0 :: .getfield 1643 :: .iload 3 :: .iaload :: .iconst (-1) :: .if_icmp .ne 56 :: cb_285_43
noncomputable def cb_285_33 : List Instr := .iload 1 :: .istore 3 :: .iconst 0 :: .istore 4 :: cb_285_37
noncomputable def cb_285_26 : List Instr := .aload 0 :: .getfield 1643 :: .iload 3 :: .iconst (-1) :: .iastore :: .iinc 3 1 :: .goto 23 :: cb_285_33
noncomputable def cb_285_23 : List Instr := .iload 3 :: .iconst 10 :: .if_icmp .ge 33 :: cb_285_26
noncomputable def cb_285_19 : List Instr := .aload 0 :: .invokeinterface 246 12 :: .iconst 0 :: .istore 3 :: cb_285_23
noncomputable def cb_285_17 : List Instr := .iconst 0 :: .ireturn :: cb_285_19
noncomputable def cb_285_8 : List Instr := .aload 0 :: .iload 2 :: .iconst 0 :: .iconst 1 :: .multianewarray 198 6 :: .iconst 2 :: .iconst 1 :: .invokeinterface 197 204 :: .ifCond .ne 19 :: cb_285_17
noncomputable def cb_285_0 : List Instr := .aload 0 :: .iconst 0 :: .putfield 1536 :: .aload 0 :: .iload 1 :: .iconst 1 :: .invokeinterface 260 140 :: .ifCond .eq 17 :: cb_285_8
-- 286: FogWatchModel.heardMany()I
noncomputable def cb_286_10 : List Instr := .ireturn :: []
noncomputable def cb_286_8 : List Instr := .aload 0 :: .getfield 1620 :: cb_286_10
noncomputable def cb_286_5 : List Instr := .aload 0 :: .getfield 1618 :: .goto 10 :: cb_286_8
noncomputable def cb_286_0 : List Instr := .aload 0 :: .getfield 1618 :: .aload 0 :: .getfield 1620 :: .if_icmp .ge 8 :: cb_286_5
-- 287: FogWatchModel.isFit(I)Z
noncomputable def cb_287_39 : List Instr := .iconst 1 :: .freturn :: []
noncomputable def cb_287_37 : List Instr := .iinc 3 1 :: .goto 4 :: cb_287_39
noncomputable def cb_287_35 : List Instr := .iconst 0 :: .freturn :: cb_287_37
noncomputable def cb_287_18 : List Instr := .aload 0 :: .iload 2 :: .aload 0 :: .getfield 1615 :: .iload 3 :: .iaload :: .invokeinterface 253 140 :: .istore 2 :: .aload 0 :: .getfield 1563 :: .iload 2 :: .iaload :: .aload 0 :: .getfield 1617 :: .iload 3 :: .iaload :: .if_icmp .eq 37 :: cb_287_35
noncomputable def cb_287_16 : List Instr := .iconst 0 :: .freturn :: cb_287_18
noncomputable def cb_287_8 : List Instr := .aload 0 :: .getfield 1625 :: .iconst 20 :: .iload 2 :: .iadd :: .iaload :: .iconst 1 :: .if_icmp .ne 18 :: cb_287_16
noncomputable def cb_287_4 : List Instr := .iload 3 :: .aload 0 :: .invokeinterface 286 12 :: .if_icmp .ge 39 :: cb_287_8
noncomputable def cb_287_0 : List Instr := .iload 1 :: .istore 2 :: .iconst 0 :: .istore 3 :: cb_287_4
-- 288: FogWatchModel.fitBits()I
noncomputable def cb_288_22 : List Instr := .iload 1 :: .ireturn :: []
noncomputable def cb_288_18 : List Instr := .ior :: .istore 1 :: .iinc 2 1 :: .goto 4 :: cb_288_22
noncomputable def cb_288_17 : List Instr := .iconst 0 :: cb_288_18
noncomputable def cb_288_13 : List Instr := .iconst 1 :: .iload 2 :: .ishl :: .goto 18 :: cb_288_17
noncomputable def cb_288_8 : List Instr := .iload 1 :: .aload 0 :: .iload 2 :: .invokeinterface 287 76 :: .ifCond .eq 17 :: cb_288_13
noncomputable def cb_288_4 : List Instr := .iload 2 :: .aload 0 :: .getfield 1574 :: .if_icmp .ge 22 :: cb_288_8
noncomputable def cb_288_0 : List Instr := .iconst 0 :: .istore 1 :: .iconst 0 :: .istore 2 :: cb_288_4
-- 289: FogWatchModel.fits()I
noncomputable def cb_289_0 : List Instr := .aload 0 :: .iconst 0 :: .putfield 1536 :: .aload 0 :: .invokeinterface 246 12 :: .aload 0 :: .invokeinterface 288 12 :: .ireturn :: []
-- 290: FogWatchModel.endOf(I)I
noncomputable def cb_290_0 : List Instr := .aload 0 :: .iload 1 :: .aload 0 :: .invokeinterface 286 12 :: .invokeinterface 284 140 :: .ireturn :: []
-- 291: FogWatchModel.now()I
noncomputable def cb_291_35 : List Instr := .iload 2 :: .ireturn :: []
noncomputable def cb_291_31 : List Instr := .ior :: .istore 2 :: .iinc 3 1 :: .goto 12 :: cb_291_35
noncomputable def cb_291_30 : List Instr := .iconst 0 :: cb_291_31
noncomputable def cb_291_24 : List Instr := .iconst 1 :: .aload 0 :: .iload 3 :: .invokeinterface 290 76 :: .ishl :: .goto 31 :: cb_291_30
noncomputable def cb_291_16 : List Instr := .iload 2 :: .iload 1 :: .iload 3 :: .ishr :: .iconst 1 :: .iand :: .iconst 1 :: .if_icmp .ne 30 :: cb_291_24
noncomputable def cb_291_12 : List Instr := .iload 3 :: .aload 0 :: .getfield 1574 :: .if_icmp .ge 35 :: cb_291_16
noncomputable def cb_291_0 : List Instr := .aload 0 :: .iconst 0 :: .putfield 1536 :: .aload 0 :: .invokeinterface 246 12 :: .aload 0 :: .invokeinterface 288 12 :: .istore 1 :: .iconst 0 :: .istore 2 :: .iconst 0 :: .istore 3 :: cb_291_12
-- 292: FogWatchModel.worstOf(II)I
noncomputable def cb_292_72 : List Instr := .iload 3 :: .ireturn :: []
noncomputable def cb_292_70 : List Instr := .iinc 4 1 :: .goto 16 :: cb_292_72
noncomputable def cb_292_69 : List Instr := .istore 3 :: cb_292_70
noncomputable def cb_292_68 : List Instr := .iload 3 :: cb_292_69
noncomputable def cb_292_63 : List Instr := .aload 0 :: .getfield 1645 :: .iload 6 :: .iaload :: .goto 69 :: cb_292_68
noncomputable def cb_292_48 : List Instr := .istore 6 :: .aload 0 :: .getfield 1645 :: .iload 6 :: .dup2 :: .iaload :: .iconst 1 :: .iadd :: .iastore :: .aload 0 :: .getfield 1645 :: .iload 6 :: .iaload :: .iload 3 :: .if_icmp .le 68 :: cb_292_63
noncomputable def cb_292_41 : List Instr := .aload 0 :: .getfield 1563 :: .aload 0 :: .iload 5 :: .iload 2 :: .invokeinterface 253 140 :: .iaload :: cb_292_48
noncomputable def cb_292_39 : List Instr := .iconst 10 :: .goto 48 :: cb_292_41
noncomputable def cb_292_27 : List Instr := .aload 0 :: .iload 4 :: .invokeinterface 290 76 :: .istore 5 :: .aload 0 :: .getfield 1625 :: .iconst 20 :: .iload 5 :: .iadd :: .iaload :: .iconst 1 :: .if_icmp .ne 41 :: cb_292_39
noncomputable def cb_292_26 : List Instr := .goto 70 :: cb_292_27
noncomputable def cb_292_20 : List Instr := .iload 1 :: .iload 4 :: .ishr :: .iconst 1 :: .iand :: .ifCond .ne 27 :: cb_292_26
noncomputable def cb_292_16 : List Instr := .iload 4 :: .aload 0 :: .getfield 1574 :: .if_icmp .ge 72 :: cb_292_20
noncomputable def cb_292_12 : List Instr := .iconst 0 :: .istore 3 :: .iconst 0 :: .istore 4 :: cb_292_16
noncomputable def cb_292_5 : List Instr := .aload 0 :: .getfield 1645 :: .iload 3 :: .iconst 0 :: .iastore :: .iinc 3 1 :: .goto 2 :: cb_292_12
noncomputable def cb_292_2 : List Instr := .iload 3 :: .iconst 11 :: .if_icmp .ge 12 :: cb_292_5
noncomputable def cb_292_0 : List Instr := .iconst 0 :: .istore 3 :: cb_292_2
-- 293: FogWatchModel.look(I)I
noncomputable def cb_293_53 : List Instr := .ireturn :: []
noncomputable def cb_293_49 : List Instr := .aload 0 :: .iload 2 :: .iload 3 :: .invokeinterface 292 140 :: cb_293_53
noncomputable def cb_293_47 : List Instr := .iload 3 :: .goto 53 :: cb_293_49
noncomputable def cb_293_45 : List Instr := .iload 1 :: .ifCond .ne 49 :: cb_293_47
noncomputable def cb_293_42 : List Instr := .istore 3 :: .iinc 4 1 :: .goto 27 :: cb_293_45
noncomputable def cb_293_41 : List Instr := .iload 3 :: cb_293_42
noncomputable def cb_293_39 : List Instr := .iload 4 :: .goto 42 :: cb_293_41
noncomputable def cb_293_30 : List Instr := .aload 0 :: .iload 2 :: .iload 4 :: .invokeinterface 292 140 :: .aload 0 :: .iload 2 :: .iload 3 :: .invokeinterface 292 140 :: .if_icmp .ge 41 :: cb_293_39
noncomputable def cb_293_27 : List Instr := .iload 4 :: .iconst 4 :: .if_icmp .ge 45 :: cb_293_30
noncomputable def cb_293_23 : List Instr := .iconst 0 :: .istore 3 :: .iconst 1 :: .istore 4 :: cb_293_27
noncomputable def cb_293_21 : List Instr := .iconst (-1) :: .ireturn :: cb_293_23
noncomputable def cb_293_14 : List Instr := .aload 0 :: .invokeinterface 246 12 :: .aload 0 :: .invokeinterface 288 12 :: .istore 2 :: .iload 2 :: .ifCond .ne 23 :: cb_293_21
noncomputable def cb_293_12 : List Instr := .iconst 0 :: .ireturn :: cb_293_14
noncomputable def cb_293_0 : List Instr := .aload 0 :: .iconst 0 :: .putfield 1536 :: .aload 0 :: .iload 1 :: .iconst 0 :: .iconst 1 :: .multianewarray 198 6 :: .iconst 1 :: .iconst 1 :: .invokeinterface 197 204 :: .ifCond .ne 14 :: cb_293_12
-- 294: FogWatchModel.least(JJI)J
noncomputable def cb_294_22 : List Instr := .lload 5 :: .ldiv :: .lreturn :: []
noncomputable def cb_294_21 : List Instr := .lload 2 :: cb_294_22
noncomputable def cb_294_19 : List Instr := .lload 0 :: .goto 22 :: cb_294_21
noncomputable def cb_294_17 : List Instr := .iload 4 :: .ifCond .ne 21 :: cb_294_19
noncomputable def cb_294_8 : List Instr := .lload 5 :: .lload 7 :: .lrem :: .lstore 9 :: .lload 7 :: .lstore 5 :: .lload 9 :: .lstore 7 :: .goto 4 :: cb_294_17
noncomputable def cb_294_4 : List Instr := .lload 7 :: .ldc2_w 0 :: .lcmp :: .ifCond .eq 17 :: cb_294_8
noncomputable def cb_294_0 : List Instr := .lload 0 :: .lstore 5 :: .lload 2 :: .lstore 7 :: cb_294_4
-- 295: FogWatchModel.chance(IIIII)J
noncomputable def cb_295_137 : List Instr := .aload 0 :: .getfield 1639 :: .iload 2 :: .laload :: .lload 6 :: .iload 5 :: .multianewarray 294 6 :: .lreturn :: []
noncomputable def cb_295_131 : List Instr := .lload 6 :: .ldc2_w 16 :: .lmul :: .lstore 6 :: .iinc 8 1 :: .goto 61 :: cb_295_137
noncomputable def cb_295_121 : List Instr := .aload 0 :: .getfield 1639 :: .iload 9 :: .aload 0 :: .getfield 1641 :: .iload 9 :: .laload :: .lastore :: .iinc 9 1 :: .goto 118 :: cb_295_131
noncomputable def cb_295_118 : List Instr := .iload 9 :: .iconst 10 :: .if_icmp .ge 131 :: cb_295_121
noncomputable def cb_295_116 : List Instr := .iconst 0 :: .istore 9 :: cb_295_118
noncomputable def cb_295_92 : List Instr := .aload 0 :: .getfield 1641 :: .aload 0 :: .iload 9 :: .aload 0 :: .getfield 1615 :: .iload 8 :: .iaload :: .invokeinterface 253 140 :: .dup2 :: .laload :: .aload 0 :: .getfield 1639 :: .iload 9 :: .laload :: .iconst 16 :: .iload 4 :: .isub :: .i2l :: .lmul :: .ladd :: .lastore :: .iinc 9 1 :: .goto 88 :: cb_295_116
noncomputable def cb_295_88 : List Instr := .iload 9 :: .aload 0 :: .getfield 1574 :: .if_icmp .ge 116 :: cb_295_92
noncomputable def cb_295_86 : List Instr := .iconst 0 :: .istore 9 :: cb_295_88
noncomputable def cb_295_73 : List Instr := .aload 0 :: .getfield 1641 :: .iload 9 :: .aload 0 :: .getfield 1639 :: .iload 9 :: .laload :: .iload 4 :: .i2l :: .lmul :: .lastore :: .iinc 9 1 :: .goto 70 :: cb_295_86
noncomputable def cb_295_70 : List Instr := .iload 9 :: .iconst 10 :: .if_icmp .ge 86 :: cb_295_73
noncomputable def cb_295_68 : List Instr := .iconst 0 :: .istore 9 :: cb_295_70
noncomputable def cb_295_64 : List Instr := .iload 8 :: .aload 0 :: .getfield 1618 :: .if_icmp .ge 137 :: cb_295_68
noncomputable def cb_295_61 : List Instr := .iload 8 :: .iload 3 :: .if_icmp .ge 137 :: cb_295_64
noncomputable def cb_295_57 : List Instr := .ldc2_w 1 :: .lstore 6 :: .iconst 0 :: .istore 8 :: cb_295_61
noncomputable def cb_295_54 : List Instr := .lastore :: .iinc 6 1 :: .goto 42 :: cb_295_57
noncomputable def cb_295_53 : List Instr := .ldc2_w 0 :: cb_295_54
noncomputable def cb_295_51 : List Instr := .ldc2_w 1 :: .goto 54 :: cb_295_53
noncomputable def cb_295_45 : List Instr := .aload 0 :: .getfield 1639 :: .iload 6 :: .iload 6 :: .iload 1 :: .if_icmp .ne 53 :: cb_295_51
noncomputable def cb_295_42 : List Instr := .iload 6 :: .iconst 10 :: .if_icmp .ge 57 :: cb_295_45
noncomputable def cb_295_38 : List Instr := .aload 0 :: .invokeinterface 246 12 :: .iconst 0 :: .istore 6 :: cb_295_42
noncomputable def cb_295_36 : List Instr := .ldc2_w 0 :: .lreturn :: cb_295_38
noncomputable def cb_295_32 : List Instr := .iconst 2 :: .iconst 1 :: .invokeinterface 197 204 :: .ifCond .ne 38 :: cb_295_36
noncomputable def cb_295_31 : List Instr := .iconst 0 :: cb_295_32
noncomputable def cb_295_29 : List Instr := .iconst 1 :: .goto 32 :: cb_295_31
noncomputable def cb_295_24 : List Instr := .iload 5 :: .iconst 0 :: .iconst 1 :: .multianewarray 198 6 :: .ifCond .eq 31 :: cb_295_29
noncomputable def cb_295_19 : List Instr := .iload 4 :: .iconst 0 :: .iconst 16 :: .multianewarray 198 6 :: .ifCond .eq 31 :: cb_295_24
noncomputable def cb_295_13 : List Instr := .aload 0 :: .iload 3 :: .iconst 0 :: .iconst 12 :: .multianewarray 198 6 :: .ifCond .eq 31 :: cb_295_19
noncomputable def cb_295_8 : List Instr := .aload 0 :: .iload 2 :: .iconst 1 :: .invokeinterface 260 140 :: .ifCond .eq 36 :: cb_295_13
noncomputable def cb_295_0 : List Instr := .aload 0 :: .iconst 0 :: .putfield 1536 :: .aload 0 :: .iload 1 :: .iconst 1 :: .invokeinterface 260 140 :: .ifCond .eq 36 :: cb_295_8
-- 296: FogWatchModel.valueBy(II)I
noncomputable def cb_296_55 : List Instr := .ireturn :: []
noncomputable def cb_296_54 : List Instr := .iconst 0 :: cb_296_55
noncomputable def cb_296_52 : List Instr := .iconst 2 :: .goto 55 :: cb_296_54
noncomputable def cb_296_50 : List Instr := .iload 3 :: .ifCond .eq 54 :: cb_296_52
noncomputable def cb_296_47 : List Instr := .istore 3 :: .iinc 4 1 :: .goto 4 :: cb_296_50
noncomputable def cb_296_46 : List Instr := .iconst 0 :: cb_296_47
noncomputable def cb_296_44 : List Instr := .iconst 1 :: .goto 47 :: cb_296_46
noncomputable def cb_296_34 : List Instr := .aload 0 :: .getfield 1647 :: .iconst 10 :: .iload 5 :: .imul :: .iload 6 :: .iadd :: .iaload :: .iconst 1 :: .if_icmp .ne 46 :: cb_296_44
noncomputable def cb_296_32 : List Instr := .iload 3 :: .ifCond .eq 46 :: cb_296_34
noncomputable def cb_296_30 : List Instr := .iconst 1 :: .ireturn :: cb_296_32
noncomputable def cb_296_20 : List Instr := .aload 0 :: .getfield 1647 :: .iconst 10 :: .iload 5 :: .imul :: .iload 6 :: .iadd :: .iaload :: .iconst 2 :: .if_icmp .ne 32 :: cb_296_30
noncomputable def cb_296_7 : List Instr := .aload 0 :: .iload 1 :: .iload 4 :: .invokeinterface 253 140 :: .istore 5 :: .aload 0 :: .iload 2 :: .iload 4 :: .invokeinterface 253 140 :: .istore 6 :: .iload 5 :: .iload 6 :: .if_icmp .eq 30 :: cb_296_20
noncomputable def cb_296_4 : List Instr := .iload 4 :: .iconst 4 :: .if_icmp .ge 50 :: cb_296_7
noncomputable def cb_296_0 : List Instr := .iconst 1 :: .istore 3 :: .iconst 0 :: .istore 4 :: cb_296_4
-- 297: FogWatchModel.duel(II)I
noncomputable def cb_297_97 : List Instr := .aload 0 :: .getfield 1647 :: .iconst 10 :: .iload 1 :: .imul :: .iload 2 :: .iadd :: .iaload :: .ireturn :: []
noncomputable def cb_297_96 : List Instr := .goto 36 :: cb_297_97
noncomputable def cb_297_94 : List Instr := .iinc 4 1 :: .goto 42 :: cb_297_96
noncomputable def cb_297_92 : List Instr := .iinc 5 1 :: .goto 48 :: cb_297_94
noncomputable def cb_297_91 : List Instr := .istore 3 :: cb_297_92
noncomputable def cb_297_90 : List Instr := .iconst 0 :: cb_297_91
noncomputable def cb_297_88 : List Instr := .iconst 1 :: .goto 91 :: cb_297_90
noncomputable def cb_297_79 : List Instr := .aload 0 :: .getfield 1647 :: .iconst 10 :: .iload 4 :: .imul :: .iload 5 :: .iadd :: .iaload :: .ifCond .eq 90 :: cb_297_88
noncomputable def cb_297_65 : List Instr := .aload 0 :: .getfield 1647 :: .iconst 10 :: .iload 4 :: .imul :: .iload 5 :: .iadd :: .aload 0 :: .iload 4 :: .iload 5 :: .invokeinterface 296 140 :: .iastore :: .iload 3 :: .ifCond .ne 88 :: cb_297_79
noncomputable def cb_297_64 : List Instr := .goto 92 :: cb_297_65
noncomputable def cb_297_55 : List Instr := .aload 0 :: .getfield 1647 :: .iconst 10 :: .iload 4 :: .imul :: .iload 5 :: .iadd :: .iaload :: .ifCond .eq 65 :: cb_297_64
noncomputable def cb_297_52 : List Instr := .iload 4 :: .iload 5 :: .if_icmp .eq 92 :: cb_297_55
noncomputable def cb_297_48 : List Instr := .iload 5 :: .aload 0 :: .getfield 1574 :: .if_icmp .ge 94 :: cb_297_52
noncomputable def cb_297_46 : List Instr := .iconst 0 :: .istore 5 :: cb_297_48
noncomputable def cb_297_42 : List Instr := .iload 4 :: .aload 0 :: .getfield 1574 :: .if_icmp .ge 96 :: cb_297_46
noncomputable def cb_297_38 : List Instr := .iconst 0 :: .istore 3 :: .iconst 0 :: .istore 4 :: cb_297_42
noncomputable def cb_297_36 : List Instr := .iload 3 :: .ifCond .eq 97 :: cb_297_38
noncomputable def cb_297_34 : List Instr := .iconst 1 :: .istore 3 :: cb_297_36
noncomputable def cb_297_27 : List Instr := .aload 0 :: .getfield 1647 :: .iload 3 :: .iconst 0 :: .iastore :: .iinc 3 1 :: .goto 24 :: cb_297_34
noncomputable def cb_297_24 : List Instr := .iload 3 :: .iconst 100 :: .if_icmp .ge 34 :: cb_297_27
noncomputable def cb_297_20 : List Instr := .aload 0 :: .invokeinterface 246 12 :: .iconst 0 :: .istore 3 :: cb_297_24
noncomputable def cb_297_18 : List Instr := .iconst 2 :: .ireturn :: cb_297_20
noncomputable def cb_297_15 : List Instr := .iload 1 :: .iload 2 :: .if_icmp .ne 20 :: cb_297_18
noncomputable def cb_297_13 : List Instr := .iconst 0 :: .ireturn :: cb_297_15
noncomputable def cb_297_8 : List Instr := .aload 0 :: .iload 2 :: .iconst 1 :: .invokeinterface 260 140 :: .ifCond .ne 15 :: cb_297_13
noncomputable def cb_297_0 : List Instr := .aload 0 :: .iconst 0 :: .putfield 1536 :: .aload 0 :: .iload 1 :: .iconst 1 :: .invokeinterface 260 140 :: .ifCond .eq 13 :: cb_297_8
-- 298: FogWatchModel.reach(I)I
noncomputable def cb_298_38 : List Instr := .iload 2 :: .ireturn :: []
noncomputable def cb_298_36 : List Instr := .iinc 3 1 :: .goto 18 :: cb_298_38
noncomputable def cb_298_27 : List Instr := .iload 2 :: .aload 0 :: .iload 2 :: .iload 4 :: .invokeinterface 270 140 :: .ior :: .istore 2 :: .iinc 4 1 :: .goto 24 :: cb_298_36
noncomputable def cb_298_24 : List Instr := .iload 4 :: .iconst 4 :: .if_icmp .ge 36 :: cb_298_27
noncomputable def cb_298_22 : List Instr := .iconst 0 :: .istore 4 :: cb_298_24
noncomputable def cb_298_18 : List Instr := .iload 3 :: .aload 0 :: .getfield 1574 :: .if_icmp .ge 38 :: cb_298_22
noncomputable def cb_298_10 : List Instr := .aload 0 :: .invokeinterface 246 12 :: .iconst 1 :: .iload 1 :: .ishl :: .istore 2 :: .iconst 0 :: .istore 3 :: cb_298_18
noncomputable def cb_298_8 : List Instr := .iconst 0 :: .ireturn :: cb_298_10
noncomputable def cb_298_0 : List Instr := .aload 0 :: .iconst 0 :: .putfield 1536 :: .aload 0 :: .iload 1 :: .iconst 1 :: .invokeinterface 260 140 :: .ifCond .ne 10 :: cb_298_8
-- 299: FogWatchModel.from(II)I
noncomputable def cb_299_43 : List Instr := .iload 3 :: .ireturn :: []
noncomputable def cb_299_39 : List Instr := .ior :: .istore 3 :: .iinc 4 1 :: .goto 23 :: cb_299_43
noncomputable def cb_299_38 : List Instr := .iconst 0 :: cb_299_39
noncomputable def cb_299_34 : List Instr := .iconst 1 :: .iload 4 :: .ishl :: .goto 39 :: cb_299_38
noncomputable def cb_299_27 : List Instr := .iload 3 :: .aload 0 :: .iload 4 :: .iload 2 :: .invokeinterface 253 140 :: .iload 1 :: .if_icmp .ne 38 :: cb_299_34
noncomputable def cb_299_23 : List Instr := .iload 4 :: .aload 0 :: .getfield 1574 :: .if_icmp .ge 43 :: cb_299_27
noncomputable def cb_299_17 : List Instr := .aload 0 :: .invokeinterface 246 12 :: .iconst 0 :: .istore 3 :: .iconst 0 :: .istore 4 :: cb_299_23
noncomputable def cb_299_15 : List Instr := .iconst 0 :: .ireturn :: cb_299_17
noncomputable def cb_299_8 : List Instr := .aload 0 :: .iload 2 :: .multianewarray 262 2 :: .iconst 2 :: .iconst 1 :: .invokeinterface 197 204 :: .ifCond .ne 17 :: cb_299_15
noncomputable def cb_299_0 : List Instr := .aload 0 :: .iconst 0 :: .putfield 1536 :: .aload 0 :: .iload 1 :: .iconst 1 :: .invokeinterface 260 140 :: .ifCond .eq 15 :: cb_299_8
-- 300: FogWatchModel.still()I
noncomputable def cb_300_46 : List Instr := .iload 1 :: .ireturn :: []
noncomputable def cb_300_42 : List Instr := .ior :: .istore 1 :: .iinc 2 1 :: .goto 9 :: cb_300_46
noncomputable def cb_300_41 : List Instr := .iconst 0 :: cb_300_42
noncomputable def cb_300_37 : List Instr := .iconst 1 :: .iload 2 :: .ishl :: .goto 42 :: cb_300_41
noncomputable def cb_300_34 : List Instr := .iload 1 :: .iload 3 :: .ifCond .eq 41 :: cb_300_37
noncomputable def cb_300_31 : List Instr := .istore 3 :: .iinc 4 1 :: .goto 17 :: cb_300_34
noncomputable def cb_300_30 : List Instr := .iconst 0 :: cb_300_31
noncomputable def cb_300_28 : List Instr := .iconst 1 :: .goto 31 :: cb_300_30
noncomputable def cb_300_22 : List Instr := .aload 0 :: .iload 2 :: .iload 4 :: .invokeinterface 253 140 :: .iload 2 :: .if_icmp .ne 30 :: cb_300_28
noncomputable def cb_300_20 : List Instr := .iload 3 :: .ifCond .eq 30 :: cb_300_22
noncomputable def cb_300_17 : List Instr := .iload 4 :: .iconst 4 :: .if_icmp .ge 34 :: cb_300_20
noncomputable def cb_300_13 : List Instr := .iconst 1 :: .istore 3 :: .iconst 0 :: .istore 4 :: cb_300_17
noncomputable def cb_300_9 : List Instr := .iload 2 :: .aload 0 :: .getfield 1574 :: .if_icmp .ge 46 :: cb_300_13
noncomputable def cb_300_0 : List Instr := .aload 0 :: .iconst 0 :: .putfield 1536 :: .aload 0 :: .invokeinterface 246 12 :: .iconst 0 :: .istore 1 :: .iconst 0 :: .istore 2 :: cb_300_9
-- 301: FogWatchModel.wind()I
noncomputable def cb_301_28 : List Instr := .iload 1 :: .ireturn :: []
noncomputable def cb_301_24 : List Instr := .iadd :: .istore 1 :: .iinc 2 1 :: .goto 9 :: cb_301_28
noncomputable def cb_301_23 : List Instr := .iconst 0 :: cb_301_24
noncomputable def cb_301_21 : List Instr := .iconst 1 :: .goto 24 :: cb_301_23
noncomputable def cb_301_12 : List Instr := .iload 1 :: .aload 0 :: .iload 2 :: .invokeinterface 252 76 :: .aload 0 :: .getfield 1625 :: .iconst 30 :: .iaload :: .if_icmp .gt 23 :: cb_301_21
noncomputable def cb_301_9 : List Instr := .iload 2 :: .iconst 4 :: .if_icmp .ge 28 :: cb_301_12
noncomputable def cb_301_0 : List Instr := .aload 0 :: .iconst 0 :: .putfield 1536 :: .aload 0 :: .invokeinterface 246 12 :: .iconst 0 :: .istore 1 :: .iconst 0 :: .istore 2 :: cb_301_9
-- 302: FogWatchModel.draws(I)I
noncomputable def cb_302_0 : List Instr := .aload 0 :: .aload 0 :: .getfield 1648 :: .iconst 1103515245 :: .imul :: .iconst 12345 :: .iadd :: .putfield 1648 :: .aload 0 :: .getfield 1648 :: .iconst 16 :: .ishr :: .iconst 32767 :: .iand :: .iload 1 :: .irem :: .ireturn :: []
-- 303: FogWatchModel.watchGoes(III)V
noncomputable def cb_303_44 : List Instr := .return_ :: []
noncomputable def cb_303_42 : List Instr := .iinc 4 1 :: .goto 7 :: cb_303_44
noncomputable def cb_303_40 : List Instr := .aload 0 :: .invokeinterface 255 12 :: cb_303_42
noncomputable def cb_303_35 : List Instr := .iload 4 :: .iconst 2 :: .irem :: .iconst 1 :: .if_icmp .ne 42 :: cb_303_40
noncomputable def cb_303_26 : List Instr := .aload 0 :: .iconst 1 :: .aload 0 :: .aload 0 :: .getfield 1574 :: .invokeinterface 302 76 :: .iconst 0 :: .invokeinterface 256 204 :: .pop :: cb_303_35
noncomputable def cb_303_15 : List Instr := .aload 0 :: .aload 0 :: .iconst 4 :: .invokeinterface 302 76 :: .invokeinterface 254 76 :: .pop :: .aload 0 :: .iconst 16 :: .invokeinterface 302 76 :: .iload 2 :: .if_icmp .ge 35 :: cb_303_26
noncomputable def cb_303_12 : List Instr := .aload 0 :: .getfield 1574 :: .ifCond .le 35 :: cb_303_15
noncomputable def cb_303_7 : List Instr := .iload 4 :: .iconst 2 :: .iload 3 :: .imul :: .if_icmp .ge 44 :: cb_303_12
noncomputable def cb_303_0 : List Instr := .aload 0 :: .invokeinterface 246 12 :: .aload 0 :: .iload 1 :: .putfield 1648 :: .iconst 0 :: .istore 4 :: cb_303_7
-- 304: FogWatchModel.isWatch(II)Z
noncomputable def cb_304_14 : List Instr := .freturn :: []
noncomputable def cb_304_13 : List Instr := .iconst 0 :: cb_304_14
noncomputable def cb_304_11 : List Instr := .iconst 1 :: .goto 14 :: cb_304_13
noncomputable def cb_304_8 : List Instr := .iload 1 :: .iconst 48 :: .if_icmp .gt 13 :: cb_304_11
noncomputable def cb_304_5 : List Instr := .iload 1 :: .iconst 1 :: .if_icmp .lt 13 :: cb_304_8
noncomputable def cb_304_2 : List Instr := .iload 0 :: .iconst 16 :: .if_icmp .gt 13 :: cb_304_5
noncomputable def cb_304_0 : List Instr := .iload 0 :: .ifCond .lt 13 :: cb_304_2
-- 305: FogWatchModel.watch(IIII)I
noncomputable def cb_305_55 : List Instr := .ireturn :: []
noncomputable def cb_305_53 : List Instr := .aload 0 :: .invokeinterface 248 12 :: cb_305_55
noncomputable def cb_305_43 : List Instr := .aload 0 :: .getfield 1625 :: .iconst 31 :: .iaload :: .aload 0 :: .getfield 1623 :: .iconst 31 :: .iaload :: .isub :: .goto 55 :: cb_305_53
noncomputable def cb_305_40 : List Instr := .iload 4 :: .iconst 2 :: .if_icmp .ne 53 :: cb_305_43
noncomputable def cb_305_35 : List Instr := .aload 0 :: .getfield 1625 :: .iconst 30 :: .iaload :: .goto 55 :: cb_305_40
noncomputable def cb_305_32 : List Instr := .iload 4 :: .iconst 1 :: .if_icmp .ne 40 :: cb_305_35
noncomputable def cb_305_29 : List Instr := .aload 0 :: .invokeinterface 258 12 :: .goto 55 :: cb_305_32
noncomputable def cb_305_22 : List Instr := .aload 0 :: .iload 1 :: .iload 2 :: .iload 3 :: .invokeinterface 303 204 :: .iload 4 :: .ifCond .ne 32 :: cb_305_29
noncomputable def cb_305_20 : List Instr := .iconst 0 :: .ireturn :: cb_305_22
noncomputable def cb_305_16 : List Instr := .iconst 1 :: .iconst 1 :: .invokeinterface 197 204 :: .ifCond .ne 22 :: cb_305_20
noncomputable def cb_305_15 : List Instr := .iconst 0 :: cb_305_16
noncomputable def cb_305_13 : List Instr := .iconst 1 :: .goto 16 :: cb_305_15
noncomputable def cb_305_8 : List Instr := .iload 4 :: .iconst 0 :: .iconst 3 :: .multianewarray 198 6 :: .ifCond .eq 15 :: cb_305_13
noncomputable def cb_305_0 : List Instr := .aload 0 :: .iconst 0 :: .putfield 1536 :: .aload 0 :: .iload 2 :: .iload 3 :: .multianewarray 304 4 :: .ifCond .eq 15 :: cb_305_8
-- 306: FogWatchModel.span(IIIIII)I
noncomputable def cb_306_102 : List Instr := .ireturn :: []
noncomputable def cb_306_101 : List Instr := .iload 9 :: cb_306_102
noncomputable def cb_306_99 : List Instr := .iload 8 :: .goto 102 :: cb_306_101
noncomputable def cb_306_96 : List Instr := .iload 5 :: .iconst 1 :: .if_icmp .ne 101 :: cb_306_99
noncomputable def cb_306_94 : List Instr := .iload 7 :: .goto 102 :: cb_306_96
noncomputable def cb_306_92 : List Instr := .iload 5 :: .ifCond .ne 96 :: cb_306_94
noncomputable def cb_306_88 : List Instr := .iadd :: .istore 9 :: .iinc 10 1 :: .goto 43 :: cb_306_92
noncomputable def cb_306_87 : List Instr := .iconst 0 :: cb_306_88
noncomputable def cb_306_85 : List Instr := .iconst 1 :: .goto 88 :: cb_306_87
noncomputable def cb_306_79 : List Instr := .istore 8 :: .iload 9 :: .aload 0 :: .iload 6 :: .invokeinterface 249 76 :: .ifCond .eq 87 :: cb_306_85
noncomputable def cb_306_78 : List Instr := .iload 8 :: cb_306_79
noncomputable def cb_306_76 : List Instr := .iload 11 :: .goto 79 :: cb_306_78
noncomputable def cb_306_72 : List Instr := .istore 7 :: .iload 11 :: .iload 8 :: .if_icmp .le 78 :: cb_306_76
noncomputable def cb_306_71 : List Instr := .iload 7 :: cb_306_72
noncomputable def cb_306_69 : List Instr := .iload 11 :: .goto 72 :: cb_306_71
noncomputable def cb_306_66 : List Instr := .iload 11 :: .iload 7 :: .if_icmp .ge 71 :: cb_306_69
noncomputable def cb_306_46 : List Instr := .aload 0 :: .iload 1 :: .iload 10 :: .iadd :: .iload 3 :: .iload 4 :: .invokeinterface 303 204 :: .aload 0 :: .getfield 1625 :: .iconst 31 :: .iaload :: .aload 0 :: .getfield 1623 :: .iconst 31 :: .iaload :: .isub :: .istore 11 :: .iload 7 :: .iconst (-1) :: .if_icmp .eq 69 :: cb_306_66
noncomputable def cb_306_43 : List Instr := .iload 10 :: .iload 2 :: .if_icmp .ge 92 :: cb_306_46
noncomputable def cb_306_35 : List Instr := .iconst (-1) :: .istore 7 :: .iconst 0 :: .istore 8 :: .iconst 0 :: .istore 9 :: .iconst 0 :: .istore 10 :: cb_306_43
noncomputable def cb_306_33 : List Instr := .iconst 0 :: .ireturn :: cb_306_35
noncomputable def cb_306_29 : List Instr := .iconst 1 :: .iconst 1 :: .invokeinterface 197 204 :: .ifCond .ne 35 :: cb_306_33
noncomputable def cb_306_28 : List Instr := .iconst 0 :: cb_306_29
noncomputable def cb_306_26 : List Instr := .iconst 1 :: .goto 29 :: cb_306_28
noncomputable def cb_306_18 : List Instr := .iload 6 :: .iconst 0 :: .aload 0 :: .getfield 1574 :: .iconst 1 :: .isub :: .multianewarray 198 6 :: .ifCond .eq 28 :: cb_306_26
noncomputable def cb_306_13 : List Instr := .iload 5 :: .iconst 0 :: .iconst 2 :: .multianewarray 198 6 :: .ifCond .eq 28 :: cb_306_18
noncomputable def cb_306_9 : List Instr := .iload 3 :: .iload 4 :: .multianewarray 304 4 :: .ifCond .eq 28 :: cb_306_13
noncomputable def cb_306_0 : List Instr := .aload 0 :: .iconst 0 :: .putfield 1536 :: .aload 0 :: .iload 2 :: .iconst 1 :: .iconst 10 :: .multianewarray 198 6 :: .ifCond .eq 28 :: cb_306_9
-- 307: FogWatchModel.keepsRow(I[IIZ)I
noncomputable def cb_307_28 : List Instr := .iload 1 :: .iload 3 :: .iadd :: .ireturn :: []
noncomputable def cb_307_26 : List Instr := .iinc 5 1 :: .goto 2 :: cb_307_28
noncomputable def cb_307_17 : List Instr := .aload 2 :: .iload 5 :: .aload 0 :: .getfield 1651 :: .iload 1 :: .iload 5 :: .iadd :: .iaload :: .iastore :: cb_307_26
noncomputable def cb_307_7 : List Instr := .aload 0 :: .getfield 1651 :: .iload 1 :: .iload 5 :: .iadd :: .aload 2 :: .iload 5 :: .iaload :: .iastore :: .goto 26 :: cb_307_17
noncomputable def cb_307_5 : List Instr := .iload 4 :: .ifCond .eq 17 :: cb_307_7
noncomputable def cb_307_2 : List Instr := .iload 5 :: .iload 3 :: .if_icmp .ge 28 :: cb_307_5
noncomputable def cb_307_0 : List Instr := .iconst 0 :: .istore 5 :: cb_307_2
-- 308: FogWatchModel.keepsAll(IZ)V
noncomputable def cb_308_33 : List Instr := .return_ :: []
noncomputable def cb_308_27 : List Instr := .aload 0 :: .aload 0 :: .getfield 1651 :: .iload 3 :: .iaload :: .putfield 1602 :: cb_308_33
noncomputable def cb_308_20 : List Instr := .aload 0 :: .getfield 1651 :: .iload 3 :: .aload 0 :: .getfield 1602 :: .iastore :: .goto 33 :: cb_308_27
noncomputable def cb_308_0 : List Instr := .aload 0 :: .iconst 596 :: .iload 1 :: .imul :: .aload 0 :: .getfield 1623 :: .iconst 35 :: .iload 2 :: .invokeinterface 307 268 :: .istore 3 :: .aload 0 :: .iload 3 :: .aload 0 :: .getfield 1627 :: .iconst 560 :: .iload 2 :: .invokeinterface 307 268 :: .istore 3 :: .iload 2 :: .ifCond .eq 27 :: cb_308_20
-- 309: FogWatchModel.image()I
noncomputable def cb_309_9 : List Instr := .aload 0 :: .aload 0 :: .getfield 1652 :: .iconst 1 :: .invokeinterface 308 140 :: .aload 0 :: .dup :: .getfield 1652 :: .iconst 1 :: .iadd :: .putfield 1652 :: .aload 0 :: .getfield 1652 :: .ireturn :: []
noncomputable def cb_309_7 : List Instr := .iconst (-1) :: .ireturn :: cb_309_9
noncomputable def cb_309_0 : List Instr := .aload 0 :: .iconst 0 :: .putfield 1536 :: .aload 0 :: .getfield 1652 :: .iconst 3 :: .if_icmp .ne 9 :: cb_309_7
-- 310: FogWatchModel.restore()I
noncomputable def cb_310_8 : List Instr := .aload 0 :: .dup :: .getfield 1652 :: .iconst 1 :: .isub :: .putfield 1652 :: .aload 0 :: .aload 0 :: .getfield 1652 :: .iconst 0 :: .invokeinterface 308 140 :: .aload 0 :: .iconst 0 :: .putfield 1604 :: .aload 0 :: .getfield 1652 :: .ireturn :: []
noncomputable def cb_310_6 : List Instr := .iconst (-1) :: .ireturn :: cb_310_8
noncomputable def cb_310_0 : List Instr := .aload 0 :: .iconst 0 :: .putfield 1536 :: .aload 0 :: .getfield 1652 :: .ifCond .ne 8 :: cb_310_6
-- 311: FogWatchModel.status(I)I
noncomputable def cb_311_14 : List Instr := .ireturn :: []
noncomputable def cb_311_13 : List Instr := .iconst (-1) :: cb_311_14
noncomputable def cb_311_8 : List Instr := .aload 0 :: .getfield 1539 :: .iload 1 :: .iaload :: .goto 14 :: cb_311_13
noncomputable def cb_311_0 : List Instr := .aload 0 :: .iconst 0 :: .putfield 1536 :: .iload 1 :: .iconst 0 :: .iconst 1 :: .multianewarray 198 6 :: .ifCond .eq 13 :: cb_311_8
-- 312: FogWatchModel.count(I)I
noncomputable def cb_312_21 : List Instr := .ireturn :: []
noncomputable def cb_312_20 : List Instr := .iconst (-1) :: cb_312_21
noncomputable def cb_312_17 : List Instr := .aload 0 :: .getfield 1602 :: .goto 21 :: cb_312_20
noncomputable def cb_312_14 : List Instr := .iload 1 :: .iconst 2 :: .if_icmp .ne 20 :: cb_312_17
noncomputable def cb_312_11 : List Instr := .aload 0 :: .getfield 1540 :: .goto 21 :: cb_312_14
noncomputable def cb_312_8 : List Instr := .iload 1 :: .iconst 1 :: .if_icmp .ne 14 :: cb_312_11
noncomputable def cb_312_5 : List Instr := .aload 0 :: .getfield 1652 :: .goto 21 :: cb_312_8
noncomputable def cb_312_0 : List Instr := .aload 0 :: .iconst 0 :: .putfield 1536 :: .iload 1 :: .ifCond .ne 8 :: cb_312_5
-- 313: FogWatchLaw.town(LFogWatch;I[J)I
noncomputable def cb_313_11 : List Instr := .iconst 0 :: .ireturn :: []
noncomputable def cb_313_9 : List Instr := .iconst 1 :: .ireturn :: cb_313_11
noncomputable def cb_313_8 : List Instr := .astore 3 :: cb_313_9
noncomputable def cb_313_0 : List Instr := .aload 2 :: .iconst 0 :: .aload 0 :: .iload 1 :: .invokeinterface 143 75 :: .i2l :: .lastore :: .goto 11 :: cb_313_8
-- 314: FogWatchLaw.law(LFogWatch;I[J)I
noncomputable def cb_314_11 : List Instr := .iconst 0 :: .ireturn :: []
noncomputable def cb_314_9 : List Instr := .iconst 1 :: .ireturn :: cb_314_11
noncomputable def cb_314_8 : List Instr := .astore 3 :: cb_314_9
noncomputable def cb_314_0 : List Instr := .aload 2 :: .iconst 0 :: .aload 0 :: .iload 1 :: .invokeinterface 144 75 :: .i2l :: .lastore :: .goto 11 :: cb_314_8
-- 315: FogWatchLaw.work(LFogWatch;I[J)I
noncomputable def cb_315_11 : List Instr := .iconst 0 :: .ireturn :: []
noncomputable def cb_315_9 : List Instr := .iconst 1 :: .ireturn :: cb_315_11
noncomputable def cb_315_8 : List Instr := .astore 3 :: cb_315_9
noncomputable def cb_315_0 : List Instr := .aload 2 :: .iconst 0 :: .aload 0 :: .iload 1 :: .invokeinterface 145 75 :: .i2l :: .lastore :: .goto 11 :: cb_315_8
-- 316: FogWatchLaw.song(LFogWatch;I[J)I
noncomputable def cb_316_11 : List Instr := .iconst 0 :: .ireturn :: []
noncomputable def cb_316_9 : List Instr := .iconst 1 :: .ireturn :: cb_316_11
noncomputable def cb_316_8 : List Instr := .astore 3 :: cb_316_9
noncomputable def cb_316_0 : List Instr := .aload 2 :: .iconst 0 :: .aload 0 :: .iload 1 :: .invokeinterface 146 75 :: .i2l :: .lastore :: .goto 11 :: cb_316_8
-- 317: FogWatchLaw.book(LFogWatch;I[J)I
noncomputable def cb_317_11 : List Instr := .iconst 0 :: .ireturn :: []
noncomputable def cb_317_9 : List Instr := .iconst 1 :: .ireturn :: cb_317_11
noncomputable def cb_317_8 : List Instr := .astore 3 :: cb_317_9
noncomputable def cb_317_0 : List Instr := .aload 2 :: .iconst 0 :: .aload 0 :: .iload 1 :: .invokeinterface 147 75 :: .i2l :: .lastore :: .goto 11 :: cb_317_8
-- 318: FogWatchLaw.told(LFogWatch;I[J)I
noncomputable def cb_318_11 : List Instr := .iconst 0 :: .ireturn :: []
noncomputable def cb_318_9 : List Instr := .iconst 1 :: .ireturn :: cb_318_11
noncomputable def cb_318_8 : List Instr := .astore 3 :: cb_318_9
noncomputable def cb_318_0 : List Instr := .aload 2 :: .iconst 0 :: .aload 0 :: .iload 1 :: .invokeinterface 150 75 :: .i2l :: .lastore :: .goto 11 :: cb_318_8
-- 319: FogWatchLaw.corner(LFogWatch;II[J)I
noncomputable def cb_319_15 : List Instr := .iconst 0 :: .ireturn :: []
noncomputable def cb_319_13 : List Instr := .iconst 2 :: .ireturn :: cb_319_15
noncomputable def cb_319_12 : List Instr := .astore 4 :: cb_319_13
noncomputable def cb_319_10 : List Instr := .iconst 1 :: .ireturn :: cb_319_12
noncomputable def cb_319_9 : List Instr := .astore 4 :: cb_319_10
noncomputable def cb_319_0 : List Instr := .aload 3 :: .iconst 0 :: .aload 0 :: .iload 1 :: .iload 2 :: .invokeinterface 151 139 :: .i2l :: .lastore :: .goto 15 :: cb_319_9
-- 320: FogWatchLaw.way(LFogWatch;II[J)I
noncomputable def cb_320_15 : List Instr := .iconst 0 :: .ireturn :: []
noncomputable def cb_320_13 : List Instr := .iconst 2 :: .ireturn :: cb_320_15
noncomputable def cb_320_12 : List Instr := .astore 4 :: cb_320_13
noncomputable def cb_320_10 : List Instr := .iconst 1 :: .ireturn :: cb_320_12
noncomputable def cb_320_9 : List Instr := .astore 4 :: cb_320_10
noncomputable def cb_320_0 : List Instr := .aload 3 :: .iconst 0 :: .aload 0 :: .iload 1 :: .iload 2 :: .invokeinterface 152 139 :: .i2l :: .lastore :: .goto 15 :: cb_320_9
-- 321: FogWatchLaw.man(LFogWatch;II[J)I
noncomputable def cb_321_15 : List Instr := .iconst 0 :: .ireturn :: []
noncomputable def cb_321_13 : List Instr := .iconst 2 :: .ireturn :: cb_321_15
noncomputable def cb_321_12 : List Instr := .astore 4 :: cb_321_13
noncomputable def cb_321_10 : List Instr := .iconst 1 :: .ireturn :: cb_321_12
noncomputable def cb_321_9 : List Instr := .astore 4 :: cb_321_10
noncomputable def cb_321_0 : List Instr := .aload 3 :: .iconst 0 :: .aload 0 :: .iload 1 :: .iload 2 :: .invokeinterface 153 139 :: .i2l :: .lastore :: .goto 15 :: cb_321_9
-- 322: FogWatchLaw.cost(LFogWatch;I[J)I
noncomputable def cb_322_11 : List Instr := .iconst 0 :: .ireturn :: []
noncomputable def cb_322_9 : List Instr := .iconst 1 :: .ireturn :: cb_322_11
noncomputable def cb_322_8 : List Instr := .astore 3 :: cb_322_9
noncomputable def cb_322_0 : List Instr := .aload 2 :: .iconst 0 :: .aload 0 :: .iload 1 :: .invokeinterface 154 75 :: .i2l :: .lastore :: .goto 11 :: cb_322_8
-- 323: FogWatchLaw.would(LFogWatch;IIIIIII[J)I
noncomputable def cb_323_17 : List Instr := .iconst 0 :: .ireturn :: []
noncomputable def cb_323_15 : List Instr := .iconst 1 :: .ireturn :: cb_323_17
noncomputable def cb_323_14 : List Instr := .astore 9 :: cb_323_15
noncomputable def cb_323_0 : List Instr := .aload 8 :: .iconst 0 :: .aload 0 :: .iload 1 :: .iload 2 :: .iload 3 :: .iload 4 :: .iload 5 :: .iload 6 :: .iload 7 :: .invokeinterface 155 459 :: .i2l :: .lastore :: .goto 17 :: cb_323_14
-- 324: FogWatchLaw.ahead(LFogWatch;II[J)I
noncomputable def cb_324_12 : List Instr := .iconst 0 :: .ireturn :: []
noncomputable def cb_324_10 : List Instr := .iconst 1 :: .ireturn :: cb_324_12
noncomputable def cb_324_9 : List Instr := .astore 4 :: cb_324_10
noncomputable def cb_324_0 : List Instr := .aload 3 :: .iconst 0 :: .aload 0 :: .iload 1 :: .iload 2 :: .invokeinterface 156 139 :: .i2l :: .lastore :: .goto 12 :: cb_324_9
-- 325: FogWatchLaw.goes(LFogWatch;I[J)I
noncomputable def cb_325_11 : List Instr := .iconst 0 :: .ireturn :: []
noncomputable def cb_325_9 : List Instr := .iconst 1 :: .ireturn :: cb_325_11
noncomputable def cb_325_8 : List Instr := .astore 3 :: cb_325_9
noncomputable def cb_325_0 : List Instr := .aload 2 :: .iconst 0 :: .aload 0 :: .iload 1 :: .invokeinterface 157 75 :: .i2l :: .lastore :: .goto 11 :: cb_325_8
-- 326: FogWatchLaw.reset(LFogWatch;II[J)I
noncomputable def cb_326_12 : List Instr := .iconst 0 :: .ireturn :: []
noncomputable def cb_326_10 : List Instr := .iconst 1 :: .ireturn :: cb_326_12
noncomputable def cb_326_9 : List Instr := .astore 4 :: cb_326_10
noncomputable def cb_326_0 : List Instr := .aload 3 :: .iconst 0 :: .aload 0 :: .iload 1 :: .iload 2 :: .invokeinterface 158 139 :: .i2l :: .lastore :: .goto 12 :: cb_326_9
-- 327: FogWatchLaw.row(LFogWatch;II[J)I
noncomputable def cb_327_12 : List Instr := .iconst 0 :: .ireturn :: []
noncomputable def cb_327_10 : List Instr := .iconst 1 :: .ireturn :: cb_327_12
noncomputable def cb_327_9 : List Instr := .astore 4 :: cb_327_10
noncomputable def cb_327_0 : List Instr := .aload 3 :: .iconst 0 :: .aload 0 :: .iload 1 :: .iload 2 :: .invokeinterface 159 139 :: .i2l :: .lastore :: .goto 12 :: cb_327_9
-- 328: FogWatchLaw.home(LFogWatch;II[J)I
noncomputable def cb_328_15 : List Instr := .iconst 0 :: .ireturn :: []
noncomputable def cb_328_13 : List Instr := .iconst 2 :: .ireturn :: cb_328_15
noncomputable def cb_328_12 : List Instr := .astore 4 :: cb_328_13
noncomputable def cb_328_10 : List Instr := .iconst 1 :: .ireturn :: cb_328_12
noncomputable def cb_328_9 : List Instr := .astore 4 :: cb_328_10
noncomputable def cb_328_0 : List Instr := .aload 3 :: .iconst 0 :: .aload 0 :: .iload 1 :: .iload 2 :: .invokeinterface 160 139 :: .i2l :: .lastore :: .goto 15 :: cb_328_9
-- 329: FogWatchLaw.cheap(LFogWatch;I[J)I
noncomputable def cb_329_11 : List Instr := .iconst 0 :: .ireturn :: []
noncomputable def cb_329_9 : List Instr := .iconst 1 :: .ireturn :: cb_329_11
noncomputable def cb_329_8 : List Instr := .astore 3 :: cb_329_9
noncomputable def cb_329_0 : List Instr := .aload 2 :: .iconst 0 :: .aload 0 :: .iload 1 :: .invokeinterface 161 75 :: .i2l :: .lastore :: .goto 11 :: cb_329_8
-- 330: FogWatchLaw.apart(LFogWatch;II[J)I
noncomputable def cb_330_12 : List Instr := .iconst 0 :: .ireturn :: []
noncomputable def cb_330_10 : List Instr := .iconst 1 :: .ireturn :: cb_330_12
noncomputable def cb_330_9 : List Instr := .astore 4 :: cb_330_10
noncomputable def cb_330_0 : List Instr := .aload 3 :: .iconst 0 :: .aload 0 :: .iload 1 :: .iload 2 :: .invokeinterface 162 139 :: .i2l :: .lastore :: .goto 12 :: cb_330_9
-- 331: FogWatchLaw.alike(LFogWatch;I[J)I
noncomputable def cb_331_11 : List Instr := .iconst 0 :: .ireturn :: []
noncomputable def cb_331_9 : List Instr := .iconst 1 :: .ireturn :: cb_331_11
noncomputable def cb_331_8 : List Instr := .astore 3 :: cb_331_9
noncomputable def cb_331_0 : List Instr := .aload 2 :: .iconst 0 :: .aload 0 :: .iload 1 :: .invokeinterface 163 75 :: .i2l :: .lastore :: .goto 11 :: cb_331_8
-- 332: FogWatchLaw.rows(LFogWatch;III[J)I
noncomputable def cb_332_15 : List Instr := .iconst 0 :: .ireturn :: []
noncomputable def cb_332_13 : List Instr := .iconst 2 :: .ireturn :: cb_332_15
noncomputable def cb_332_12 : List Instr := .astore 5 :: cb_332_13
noncomputable def cb_332_10 : List Instr := .iconst 1 :: .ireturn :: cb_332_12
noncomputable def cb_332_9 : List Instr := .astore 5 :: cb_332_10
noncomputable def cb_332_0 : List Instr := .aload 4 :: .iconst 0 :: .aload 0 :: .iload 1 :: .iload 2 :: .iload 3 :: .invokeinterface 165 203 :: .lastore :: .goto 15 :: cb_332_9
-- 333: FogWatchLaw.ring(LFogWatch;II[J)I
noncomputable def cb_333_15 : List Instr := .iconst 0 :: .ireturn :: []
noncomputable def cb_333_13 : List Instr := .iconst 2 :: .ireturn :: cb_333_15
noncomputable def cb_333_12 : List Instr := .astore 4 :: cb_333_13
noncomputable def cb_333_10 : List Instr := .iconst 1 :: .ireturn :: cb_333_12
noncomputable def cb_333_9 : List Instr := .astore 4 :: cb_333_10
noncomputable def cb_333_0 : List Instr := .aload 3 :: .iconst 0 :: .aload 0 :: .iload 1 :: .iload 2 :: .invokeinterface 166 139 :: .i2l :: .lastore :: .goto 15 :: cb_333_9
-- 334: FogWatchLaw.look(LFogWatch;I[J)I
noncomputable def cb_334_11 : List Instr := .iconst 0 :: .ireturn :: []
noncomputable def cb_334_9 : List Instr := .iconst 1 :: .ireturn :: cb_334_11
noncomputable def cb_334_8 : List Instr := .astore 3 :: cb_334_9
noncomputable def cb_334_0 : List Instr := .aload 2 :: .iconst 0 :: .aload 0 :: .iload 1 :: .invokeinterface 169 75 :: .i2l :: .lastore :: .goto 11 :: cb_334_8
-- 335: FogWatchLaw.chance(LFogWatch;IIIII[J)I
noncomputable def cb_335_17 : List Instr := .iconst 0 :: .ireturn :: []
noncomputable def cb_335_15 : List Instr := .iconst 2 :: .ireturn :: cb_335_17
noncomputable def cb_335_14 : List Instr := .astore 7 :: cb_335_15
noncomputable def cb_335_12 : List Instr := .iconst 1 :: .ireturn :: cb_335_14
noncomputable def cb_335_11 : List Instr := .astore 7 :: cb_335_12
noncomputable def cb_335_0 : List Instr := .aload 6 :: .iconst 0 :: .aload 0 :: .iload 1 :: .iload 2 :: .iload 3 :: .iload 4 :: .iload 5 :: .invokeinterface 170 331 :: .lastore :: .goto 17 :: cb_335_11
-- 336: FogWatchLaw.duel(LFogWatch;II[J)I
noncomputable def cb_336_12 : List Instr := .iconst 0 :: .ireturn :: []
noncomputable def cb_336_10 : List Instr := .iconst 1 :: .ireturn :: cb_336_12
noncomputable def cb_336_9 : List Instr := .astore 4 :: cb_336_10
noncomputable def cb_336_0 : List Instr := .aload 3 :: .iconst 0 :: .aload 0 :: .iload 1 :: .iload 2 :: .invokeinterface 171 139 :: .i2l :: .lastore :: .goto 12 :: cb_336_9
-- 337: FogWatchLaw.reach(LFogWatch;I[J)I
noncomputable def cb_337_11 : List Instr := .iconst 0 :: .ireturn :: []
noncomputable def cb_337_9 : List Instr := .iconst 1 :: .ireturn :: cb_337_11
noncomputable def cb_337_8 : List Instr := .astore 3 :: cb_337_9
noncomputable def cb_337_0 : List Instr := .aload 2 :: .iconst 0 :: .aload 0 :: .iload 1 :: .invokeinterface 172 75 :: .i2l :: .lastore :: .goto 11 :: cb_337_8
-- 338: FogWatchLaw.from(LFogWatch;II[J)I
noncomputable def cb_338_15 : List Instr := .iconst 0 :: .ireturn :: []
noncomputable def cb_338_13 : List Instr := .iconst 2 :: .ireturn :: cb_338_15
noncomputable def cb_338_12 : List Instr := .astore 4 :: cb_338_13
noncomputable def cb_338_10 : List Instr := .iconst 1 :: .ireturn :: cb_338_12
noncomputable def cb_338_9 : List Instr := .astore 4 :: cb_338_10
noncomputable def cb_338_0 : List Instr := .aload 3 :: .iconst 0 :: .aload 0 :: .iload 1 :: .iload 2 :: .invokeinterface 173 139 :: .i2l :: .lastore :: .goto 15 :: cb_338_9
-- 339: FogWatchLaw.watch(LFogWatch;IIII[J)I
noncomputable def cb_339_14 : List Instr := .iconst 0 :: .ireturn :: []
noncomputable def cb_339_12 : List Instr := .iconst 1 :: .ireturn :: cb_339_14
noncomputable def cb_339_11 : List Instr := .astore 6 :: cb_339_12
noncomputable def cb_339_0 : List Instr := .aload 5 :: .iconst 0 :: .aload 0 :: .iload 1 :: .iload 2 :: .iload 3 :: .iload 4 :: .invokeinterface 176 267 :: .i2l :: .lastore :: .goto 14 :: cb_339_11
-- 340: FogWatchLaw.span(LFogWatch;IIIIII[J)I
noncomputable def cb_340_16 : List Instr := .iconst 0 :: .ireturn :: []
noncomputable def cb_340_14 : List Instr := .iconst 1 :: .ireturn :: cb_340_16
noncomputable def cb_340_13 : List Instr := .astore 8 :: cb_340_14
noncomputable def cb_340_0 : List Instr := .aload 7 :: .iconst 0 :: .aload 0 :: .iload 1 :: .iload 2 :: .iload 3 :: .iload 4 :: .iload 5 :: .iload 6 :: .invokeinterface 177 395 :: .i2l :: .lastore :: .goto 16 :: cb_340_13
-- 341: FogWatchLaw.law([I)Z
noncomputable def cb_341_1469 : List Instr := .iconst 1 :: .freturn :: []
noncomputable def cb_341_1467 : List Instr := .iinc 4 8 :: .goto 13 :: cb_341_1469
noncomputable def cb_341_1465 : List Instr := .iconst 0 :: .freturn :: cb_341_1467
noncomputable def cb_341_1450 : List Instr := .aload 1 :: .aload 0 :: .iload 4 :: .iconst 1 :: .iadd :: .faload :: .invokeinterface 181 75 :: .aload 2 :: .aload 0 :: .iload 4 :: .iconst 1 :: .iadd :: .faload :: .invokeinterface 312 76 :: .if_icmp .eq 1467 :: cb_341_1465
noncomputable def cb_341_1448 : List Instr := .iconst 0 :: .freturn :: cb_341_1450
noncomputable def cb_341_1433 : List Instr := .aload 1 :: .aload 0 :: .iload 4 :: .iconst 1 :: .iadd :: .faload :: .invokeinterface 180 75 :: .aload 2 :: .aload 0 :: .iload 4 :: .iconst 1 :: .iadd :: .faload :: .invokeinterface 311 76 :: .if_icmp .eq 1467 :: cb_341_1448
noncomputable def cb_341_1431 : List Instr := .iconst 0 :: .freturn :: cb_341_1433
noncomputable def cb_341_1426 : List Instr := .aload 1 :: .invokeinterface 179 11 :: .aload 2 :: .invokeinterface 310 12 :: .if_icmp .eq 1467 :: cb_341_1431
noncomputable def cb_341_1424 : List Instr := .iconst 0 :: .freturn :: cb_341_1426
noncomputable def cb_341_1419 : List Instr := .aload 1 :: .invokeinterface 178 11 :: .aload 2 :: .invokeinterface 309 12 :: .if_icmp .eq 1467 :: cb_341_1424
noncomputable def cb_341_1418 : List Instr := .goto 1467 :: cb_341_1419
noncomputable def cb_341_1416 : List Instr := .iconst 0 :: .freturn :: cb_341_1418
noncomputable def cb_341_1409 : List Instr := .aload 3 :: .iconst 0 :: .laload :: .iload 6 :: .i2l :: .lcmp :: .ifCond .eq 1418 :: cb_341_1416
noncomputable def cb_341_1407 : List Instr := .iload 5 :: .ifCond .ne 1418 :: cb_341_1409
noncomputable def cb_341_1405 : List Instr := .iconst 0 :: .freturn :: cb_341_1407
noncomputable def cb_341_1334 : List Instr := .aload 1 :: .aload 0 :: .iload 4 :: .iconst 1 :: .iadd :: .faload :: .aload 0 :: .iload 4 :: .iconst 2 :: .iadd :: .faload :: .aload 0 :: .iload 4 :: .iconst 3 :: .iadd :: .faload :: .aload 0 :: .iload 4 :: .iconst 4 :: .iadd :: .faload :: .aload 0 :: .iload 4 :: .iconst 5 :: .iadd :: .faload :: .aload 0 :: .iload 4 :: .iconst 6 :: .iadd :: .faload :: .aload 3 :: .multianewarray 340 17 :: .istore 5 :: .aload 2 :: .aload 0 :: .iload 4 :: .iconst 1 :: .iadd :: .faload :: .aload 0 :: .iload 4 :: .iconst 2 :: .iadd :: .faload :: .aload 0 :: .iload 4 :: .iconst 3 :: .iadd :: .faload :: .aload 0 :: .iload 4 :: .iconst 4 :: .iadd :: .faload :: .aload 0 :: .iload 4 :: .iconst 5 :: .iadd :: .faload :: .aload 0 :: .iload 4 :: .iconst 6 :: .iadd :: .faload :: .invokeinterface 306 396 :: .istore 6 :: .aload 2 :: .invokeinterface 196 12 :: .iload 5 :: .if_icmp .eq 1407 :: cb_341_1405
noncomputable def cb_341_1333 : List Instr := .goto 1467 :: cb_341_1334
noncomputable def cb_341_1331 : List Instr := .iconst 0 :: .freturn :: cb_341_1333
noncomputable def cb_341_1324 : List Instr := .aload 3 :: .iconst 0 :: .laload :: .iload 6 :: .i2l :: .lcmp :: .ifCond .eq 1333 :: cb_341_1331
noncomputable def cb_341_1322 : List Instr := .iload 5 :: .ifCond .ne 1333 :: cb_341_1324
noncomputable def cb_341_1320 : List Instr := .iconst 0 :: .freturn :: cb_341_1322
noncomputable def cb_341_1269 : List Instr := .aload 1 :: .aload 0 :: .iload 4 :: .iconst 1 :: .iadd :: .faload :: .aload 0 :: .iload 4 :: .iconst 2 :: .iadd :: .faload :: .aload 0 :: .iload 4 :: .iconst 3 :: .iadd :: .faload :: .aload 0 :: .iload 4 :: .iconst 4 :: .iadd :: .faload :: .aload 3 :: .multianewarray 339 13 :: .istore 5 :: .aload 2 :: .aload 0 :: .iload 4 :: .iconst 1 :: .iadd :: .faload :: .aload 0 :: .iload 4 :: .iconst 2 :: .iadd :: .faload :: .aload 0 :: .iload 4 :: .iconst 3 :: .iadd :: .faload :: .aload 0 :: .iload 4 :: .iconst 4 :: .iadd :: .faload :: .invokeinterface 305 268 :: .istore 6 :: .aload 2 :: .invokeinterface 196 12 :: .iload 5 :: .if_icmp .eq 1322 :: cb_341_1320
noncomputable def cb_341_1267 : List Instr := .iconst 0 :: .freturn :: cb_341_1269
noncomputable def cb_341_1262 : List Instr := .aload 1 :: .invokeinterface 175 11 :: .aload 2 :: .invokeinterface 301 12 :: .if_icmp .eq 1467 :: cb_341_1267
noncomputable def cb_341_1260 : List Instr := .iconst 0 :: .freturn :: cb_341_1262
noncomputable def cb_341_1255 : List Instr := .aload 1 :: .invokeinterface 174 11 :: .aload 2 :: .invokeinterface 300 12 :: .if_icmp .eq 1467 :: cb_341_1260
noncomputable def cb_341_1254 : List Instr := .goto 1467 :: cb_341_1255
noncomputable def cb_341_1252 : List Instr := .iconst 0 :: .freturn :: cb_341_1254
noncomputable def cb_341_1245 : List Instr := .aload 3 :: .iconst 0 :: .laload :: .iload 6 :: .i2l :: .lcmp :: .ifCond .eq 1254 :: cb_341_1252
noncomputable def cb_341_1243 : List Instr := .iload 5 :: .ifCond .ne 1254 :: cb_341_1245
noncomputable def cb_341_1241 : List Instr := .iconst 0 :: .freturn :: cb_341_1243
noncomputable def cb_341_1210 : List Instr := .aload 1 :: .aload 0 :: .iload 4 :: .iconst 1 :: .iadd :: .faload :: .aload 0 :: .iload 4 :: .iconst 2 :: .iadd :: .faload :: .aload 3 :: .multianewarray 338 9 :: .istore 5 :: .aload 2 :: .aload 0 :: .iload 4 :: .iconst 1 :: .iadd :: .faload :: .aload 0 :: .iload 4 :: .iconst 2 :: .iadd :: .faload :: .invokeinterface 299 140 :: .istore 6 :: .aload 2 :: .invokeinterface 196 12 :: .iload 5 :: .if_icmp .eq 1243 :: cb_341_1241
noncomputable def cb_341_1209 : List Instr := .goto 1467 :: cb_341_1210
noncomputable def cb_341_1207 : List Instr := .iconst 0 :: .freturn :: cb_341_1209
noncomputable def cb_341_1200 : List Instr := .aload 3 :: .iconst 0 :: .laload :: .iload 6 :: .i2l :: .lcmp :: .ifCond .eq 1209 :: cb_341_1207
noncomputable def cb_341_1198 : List Instr := .iload 5 :: .ifCond .ne 1209 :: cb_341_1200
noncomputable def cb_341_1196 : List Instr := .iconst 0 :: .freturn :: cb_341_1198
noncomputable def cb_341_1175 : List Instr := .aload 1 :: .aload 0 :: .iload 4 :: .iconst 1 :: .iadd :: .faload :: .aload 3 :: .multianewarray 337 7 :: .istore 5 :: .aload 2 :: .aload 0 :: .iload 4 :: .iconst 1 :: .iadd :: .faload :: .invokeinterface 298 76 :: .istore 6 :: .aload 2 :: .invokeinterface 196 12 :: .iload 5 :: .if_icmp .eq 1198 :: cb_341_1196
noncomputable def cb_341_1174 : List Instr := .goto 1467 :: cb_341_1175
noncomputable def cb_341_1172 : List Instr := .iconst 0 :: .freturn :: cb_341_1174
noncomputable def cb_341_1165 : List Instr := .aload 3 :: .iconst 0 :: .laload :: .iload 6 :: .i2l :: .lcmp :: .ifCond .eq 1174 :: cb_341_1172
noncomputable def cb_341_1163 : List Instr := .iload 5 :: .ifCond .ne 1174 :: cb_341_1165
noncomputable def cb_341_1161 : List Instr := .iconst 0 :: .freturn :: cb_341_1163
noncomputable def cb_341_1130 : List Instr := .aload 1 :: .aload 0 :: .iload 4 :: .iconst 1 :: .iadd :: .faload :: .aload 0 :: .iload 4 :: .iconst 2 :: .iadd :: .faload :: .aload 3 :: .multianewarray 336 9 :: .istore 5 :: .aload 2 :: .aload 0 :: .iload 4 :: .iconst 1 :: .iadd :: .faload :: .aload 0 :: .iload 4 :: .iconst 2 :: .iadd :: .faload :: .invokeinterface 297 140 :: .istore 6 :: .aload 2 :: .invokeinterface 196 12 :: .iload 5 :: .if_icmp .eq 1163 :: cb_341_1161
noncomputable def cb_341_1129 : List Instr := .goto 1467 :: cb_341_1130
noncomputable def cb_341_1127 : List Instr := .iconst 0 :: .freturn :: cb_341_1129
noncomputable def cb_341_1121 : List Instr := .aload 3 :: .iconst 0 :: .laload :: .lload 6 :: .lcmp :: .ifCond .eq 1129 :: cb_341_1127
noncomputable def cb_341_1119 : List Instr := .iload 5 :: .ifCond .ne 1129 :: cb_341_1121
noncomputable def cb_341_1117 : List Instr := .iconst 0 :: .freturn :: cb_341_1119
noncomputable def cb_341_1056 : List Instr := .aload 1 :: .aload 0 :: .iload 4 :: .iconst 1 :: .iadd :: .faload :: .aload 0 :: .iload 4 :: .iconst 2 :: .iadd :: .faload :: .aload 0 :: .iload 4 :: .iconst 3 :: .iadd :: .faload :: .aload 0 :: .iload 4 :: .iconst 4 :: .iadd :: .faload :: .aload 0 :: .iload 4 :: .iconst 5 :: .iadd :: .faload :: .aload 3 :: .multianewarray 335 15 :: .istore 5 :: .aload 2 :: .aload 0 :: .iload 4 :: .iconst 1 :: .iadd :: .faload :: .aload 0 :: .iload 4 :: .iconst 2 :: .iadd :: .faload :: .aload 0 :: .iload 4 :: .iconst 3 :: .iadd :: .faload :: .aload 0 :: .iload 4 :: .iconst 4 :: .iadd :: .faload :: .aload 0 :: .iload 4 :: .iconst 5 :: .iadd :: .faload :: .invokeinterface 295 332 :: .lstore 6 :: .aload 2 :: .invokeinterface 196 12 :: .iload 5 :: .if_icmp .eq 1119 :: cb_341_1117
noncomputable def cb_341_1055 : List Instr := .goto 1467 :: cb_341_1056
noncomputable def cb_341_1053 : List Instr := .iconst 0 :: .freturn :: cb_341_1055
noncomputable def cb_341_1046 : List Instr := .aload 3 :: .iconst 0 :: .laload :: .iload 6 :: .i2l :: .lcmp :: .ifCond .eq 1055 :: cb_341_1053
noncomputable def cb_341_1044 : List Instr := .iload 5 :: .ifCond .ne 1055 :: cb_341_1046
noncomputable def cb_341_1042 : List Instr := .iconst 0 :: .freturn :: cb_341_1044
noncomputable def cb_341_1021 : List Instr := .aload 1 :: .aload 0 :: .iload 4 :: .iconst 1 :: .iadd :: .faload :: .aload 3 :: .multianewarray 334 7 :: .istore 5 :: .aload 2 :: .aload 0 :: .iload 4 :: .iconst 1 :: .iadd :: .faload :: .invokeinterface 293 76 :: .istore 6 :: .aload 2 :: .invokeinterface 196 12 :: .iload 5 :: .if_icmp .eq 1044 :: cb_341_1042
noncomputable def cb_341_1019 : List Instr := .iconst 0 :: .freturn :: cb_341_1021
noncomputable def cb_341_1014 : List Instr := .aload 1 :: .invokeinterface 168 11 :: .aload 2 :: .invokeinterface 291 12 :: .if_icmp .eq 1467 :: cb_341_1019
noncomputable def cb_341_1012 : List Instr := .iconst 0 :: .freturn :: cb_341_1014
noncomputable def cb_341_1007 : List Instr := .aload 1 :: .invokeinterface 167 11 :: .aload 2 :: .invokeinterface 289 12 :: .if_icmp .eq 1467 :: cb_341_1012
noncomputable def cb_341_1006 : List Instr := .goto 1467 :: cb_341_1007
noncomputable def cb_341_1004 : List Instr := .iconst 0 :: .freturn :: cb_341_1006
noncomputable def cb_341_997 : List Instr := .aload 3 :: .iconst 0 :: .laload :: .iload 6 :: .i2l :: .lcmp :: .ifCond .eq 1006 :: cb_341_1004
noncomputable def cb_341_995 : List Instr := .iload 5 :: .ifCond .ne 1006 :: cb_341_997
noncomputable def cb_341_993 : List Instr := .iconst 0 :: .freturn :: cb_341_995
noncomputable def cb_341_962 : List Instr := .aload 1 :: .aload 0 :: .iload 4 :: .iconst 1 :: .iadd :: .faload :: .aload 0 :: .iload 4 :: .iconst 2 :: .iadd :: .faload :: .aload 3 :: .multianewarray 333 9 :: .istore 5 :: .aload 2 :: .aload 0 :: .iload 4 :: .iconst 1 :: .iadd :: .faload :: .aload 0 :: .iload 4 :: .iconst 2 :: .iadd :: .faload :: .invokeinterface 285 140 :: .istore 6 :: .aload 2 :: .invokeinterface 196 12 :: .iload 5 :: .if_icmp .eq 995 :: cb_341_993
noncomputable def cb_341_961 : List Instr := .goto 1467 :: cb_341_962
noncomputable def cb_341_959 : List Instr := .iconst 0 :: .freturn :: cb_341_961
noncomputable def cb_341_953 : List Instr := .aload 3 :: .iconst 0 :: .laload :: .lload 6 :: .lcmp :: .ifCond .eq 961 :: cb_341_959
noncomputable def cb_341_951 : List Instr := .iload 5 :: .ifCond .ne 961 :: cb_341_953
noncomputable def cb_341_949 : List Instr := .iconst 0 :: .freturn :: cb_341_951
noncomputable def cb_341_908 : List Instr := .aload 1 :: .aload 0 :: .iload 4 :: .iconst 1 :: .iadd :: .faload :: .aload 0 :: .iload 4 :: .iconst 2 :: .iadd :: .faload :: .aload 0 :: .iload 4 :: .iconst 3 :: .iadd :: .faload :: .aload 3 :: .multianewarray 332 11 :: .istore 5 :: .aload 2 :: .aload 0 :: .iload 4 :: .iconst 1 :: .iadd :: .faload :: .aload 0 :: .iload 4 :: .iconst 2 :: .iadd :: .faload :: .aload 0 :: .iload 4 :: .iconst 3 :: .iadd :: .faload :: .invokeinterface 283 204 :: .lstore 6 :: .aload 2 :: .invokeinterface 196 12 :: .iload 5 :: .if_icmp .eq 951 :: cb_341_949
noncomputable def cb_341_906 : List Instr := .iconst 0 :: .freturn :: cb_341_908
noncomputable def cb_341_901 : List Instr := .aload 1 :: .invokeinterface 164 11 :: .aload 2 :: .invokeinterface 282 12 :: .if_icmp .eq 1467 :: cb_341_906
noncomputable def cb_341_900 : List Instr := .goto 1467 :: cb_341_901
noncomputable def cb_341_898 : List Instr := .iconst 0 :: .freturn :: cb_341_900
noncomputable def cb_341_891 : List Instr := .aload 3 :: .iconst 0 :: .laload :: .iload 6 :: .i2l :: .lcmp :: .ifCond .eq 900 :: cb_341_898
noncomputable def cb_341_889 : List Instr := .iload 5 :: .ifCond .ne 900 :: cb_341_891
noncomputable def cb_341_887 : List Instr := .iconst 0 :: .freturn :: cb_341_889
noncomputable def cb_341_866 : List Instr := .aload 1 :: .aload 0 :: .iload 4 :: .iconst 1 :: .iadd :: .faload :: .aload 3 :: .multianewarray 331 7 :: .istore 5 :: .aload 2 :: .aload 0 :: .iload 4 :: .iconst 1 :: .iadd :: .faload :: .invokeinterface 281 76 :: .istore 6 :: .aload 2 :: .invokeinterface 196 12 :: .iload 5 :: .if_icmp .eq 889 :: cb_341_887
noncomputable def cb_341_865 : List Instr := .goto 1467 :: cb_341_866
noncomputable def cb_341_863 : List Instr := .iconst 0 :: .freturn :: cb_341_865
noncomputable def cb_341_856 : List Instr := .aload 3 :: .iconst 0 :: .laload :: .iload 6 :: .i2l :: .lcmp :: .ifCond .eq 865 :: cb_341_863
noncomputable def cb_341_854 : List Instr := .iload 5 :: .ifCond .ne 865 :: cb_341_856
noncomputable def cb_341_852 : List Instr := .iconst 0 :: .freturn :: cb_341_854
noncomputable def cb_341_821 : List Instr := .aload 1 :: .aload 0 :: .iload 4 :: .iconst 1 :: .iadd :: .faload :: .aload 0 :: .iload 4 :: .iconst 2 :: .iadd :: .faload :: .aload 3 :: .multianewarray 330 9 :: .istore 5 :: .aload 2 :: .aload 0 :: .iload 4 :: .iconst 1 :: .iadd :: .faload :: .aload 0 :: .iload 4 :: .iconst 2 :: .iadd :: .faload :: .invokeinterface 279 140 :: .istore 6 :: .aload 2 :: .invokeinterface 196 12 :: .iload 5 :: .if_icmp .eq 854 :: cb_341_852
noncomputable def cb_341_820 : List Instr := .goto 1467 :: cb_341_821
noncomputable def cb_341_818 : List Instr := .iconst 0 :: .freturn :: cb_341_820
noncomputable def cb_341_811 : List Instr := .aload 3 :: .iconst 0 :: .laload :: .iload 6 :: .i2l :: .lcmp :: .ifCond .eq 820 :: cb_341_818
noncomputable def cb_341_809 : List Instr := .iload 5 :: .ifCond .ne 820 :: cb_341_811
noncomputable def cb_341_807 : List Instr := .iconst 0 :: .freturn :: cb_341_809
noncomputable def cb_341_786 : List Instr := .aload 1 :: .aload 0 :: .iload 4 :: .iconst 1 :: .iadd :: .faload :: .aload 3 :: .multianewarray 329 7 :: .istore 5 :: .aload 2 :: .aload 0 :: .iload 4 :: .iconst 1 :: .iadd :: .faload :: .invokeinterface 277 76 :: .istore 6 :: .aload 2 :: .invokeinterface 196 12 :: .iload 5 :: .if_icmp .eq 809 :: cb_341_807
noncomputable def cb_341_785 : List Instr := .goto 1467 :: cb_341_786
noncomputable def cb_341_783 : List Instr := .iconst 0 :: .freturn :: cb_341_785
noncomputable def cb_341_776 : List Instr := .aload 3 :: .iconst 0 :: .laload :: .iload 6 :: .i2l :: .lcmp :: .ifCond .eq 785 :: cb_341_783
noncomputable def cb_341_774 : List Instr := .iload 5 :: .ifCond .ne 785 :: cb_341_776
noncomputable def cb_341_772 : List Instr := .iconst 0 :: .freturn :: cb_341_774
noncomputable def cb_341_741 : List Instr := .aload 1 :: .aload 0 :: .iload 4 :: .iconst 1 :: .iadd :: .faload :: .aload 0 :: .iload 4 :: .iconst 2 :: .iadd :: .faload :: .aload 3 :: .multianewarray 328 9 :: .istore 5 :: .aload 2 :: .aload 0 :: .iload 4 :: .iconst 1 :: .iadd :: .faload :: .aload 0 :: .iload 4 :: .iconst 2 :: .iadd :: .faload :: .invokeinterface 276 140 :: .istore 6 :: .aload 2 :: .invokeinterface 196 12 :: .iload 5 :: .if_icmp .eq 774 :: cb_341_772
noncomputable def cb_341_740 : List Instr := .goto 1467 :: cb_341_741
noncomputable def cb_341_738 : List Instr := .iconst 0 :: .freturn :: cb_341_740
noncomputable def cb_341_731 : List Instr := .aload 3 :: .iconst 0 :: .laload :: .iload 6 :: .i2l :: .lcmp :: .ifCond .eq 740 :: cb_341_738
noncomputable def cb_341_729 : List Instr := .iload 5 :: .ifCond .ne 740 :: cb_341_731
noncomputable def cb_341_727 : List Instr := .iconst 0 :: .freturn :: cb_341_729
noncomputable def cb_341_696 : List Instr := .aload 1 :: .aload 0 :: .iload 4 :: .iconst 1 :: .iadd :: .faload :: .aload 0 :: .iload 4 :: .iconst 2 :: .iadd :: .faload :: .aload 3 :: .multianewarray 327 9 :: .istore 5 :: .aload 2 :: .aload 0 :: .iload 4 :: .iconst 1 :: .iadd :: .faload :: .aload 0 :: .iload 4 :: .iconst 2 :: .iadd :: .faload :: .invokeinterface 275 140 :: .istore 6 :: .aload 2 :: .invokeinterface 196 12 :: .iload 5 :: .if_icmp .eq 729 :: cb_341_727
noncomputable def cb_341_695 : List Instr := .goto 1467 :: cb_341_696
noncomputable def cb_341_693 : List Instr := .iconst 0 :: .freturn :: cb_341_695
noncomputable def cb_341_686 : List Instr := .aload 3 :: .iconst 0 :: .laload :: .iload 6 :: .i2l :: .lcmp :: .ifCond .eq 695 :: cb_341_693
noncomputable def cb_341_684 : List Instr := .iload 5 :: .ifCond .ne 695 :: cb_341_686
noncomputable def cb_341_682 : List Instr := .iconst 0 :: .freturn :: cb_341_684
noncomputable def cb_341_651 : List Instr := .aload 1 :: .aload 0 :: .iload 4 :: .iconst 1 :: .iadd :: .faload :: .aload 0 :: .iload 4 :: .iconst 2 :: .iadd :: .faload :: .aload 3 :: .multianewarray 326 9 :: .istore 5 :: .aload 2 :: .aload 0 :: .iload 4 :: .iconst 1 :: .iadd :: .faload :: .aload 0 :: .iload 4 :: .iconst 2 :: .iadd :: .faload :: .invokeinterface 274 140 :: .istore 6 :: .aload 2 :: .invokeinterface 196 12 :: .iload 5 :: .if_icmp .eq 684 :: cb_341_682
noncomputable def cb_341_650 : List Instr := .goto 1467 :: cb_341_651
noncomputable def cb_341_648 : List Instr := .iconst 0 :: .freturn :: cb_341_650
noncomputable def cb_341_641 : List Instr := .aload 3 :: .iconst 0 :: .laload :: .iload 6 :: .i2l :: .lcmp :: .ifCond .eq 650 :: cb_341_648
noncomputable def cb_341_639 : List Instr := .iload 5 :: .ifCond .ne 650 :: cb_341_641
noncomputable def cb_341_637 : List Instr := .iconst 0 :: .freturn :: cb_341_639
noncomputable def cb_341_616 : List Instr := .aload 1 :: .aload 0 :: .iload 4 :: .iconst 1 :: .iadd :: .faload :: .aload 3 :: .multianewarray 325 7 :: .istore 5 :: .aload 2 :: .aload 0 :: .iload 4 :: .iconst 1 :: .iadd :: .faload :: .invokeinterface 271 76 :: .istore 6 :: .aload 2 :: .invokeinterface 196 12 :: .iload 5 :: .if_icmp .eq 639 :: cb_341_637
noncomputable def cb_341_615 : List Instr := .goto 1467 :: cb_341_616
noncomputable def cb_341_613 : List Instr := .iconst 0 :: .freturn :: cb_341_615
noncomputable def cb_341_606 : List Instr := .aload 3 :: .iconst 0 :: .laload :: .iload 6 :: .i2l :: .lcmp :: .ifCond .eq 615 :: cb_341_613
noncomputable def cb_341_604 : List Instr := .iload 5 :: .ifCond .ne 615 :: cb_341_606
noncomputable def cb_341_602 : List Instr := .iconst 0 :: .freturn :: cb_341_604
noncomputable def cb_341_571 : List Instr := .aload 1 :: .aload 0 :: .iload 4 :: .iconst 1 :: .iadd :: .faload :: .aload 0 :: .iload 4 :: .iconst 2 :: .iadd :: .faload :: .aload 3 :: .multianewarray 324 9 :: .istore 5 :: .aload 2 :: .aload 0 :: .iload 4 :: .iconst 1 :: .iadd :: .faload :: .aload 0 :: .iload 4 :: .iconst 2 :: .iadd :: .faload :: .invokeinterface 269 140 :: .istore 6 :: .aload 2 :: .invokeinterface 196 12 :: .iload 5 :: .if_icmp .eq 604 :: cb_341_602
noncomputable def cb_341_570 : List Instr := .goto 1467 :: cb_341_571
noncomputable def cb_341_568 : List Instr := .iconst 0 :: .freturn :: cb_341_570
noncomputable def cb_341_561 : List Instr := .aload 3 :: .iconst 0 :: .laload :: .iload 6 :: .i2l :: .lcmp :: .ifCond .eq 570 :: cb_341_568
noncomputable def cb_341_559 : List Instr := .iload 5 :: .ifCond .ne 570 :: cb_341_561
noncomputable def cb_341_557 : List Instr := .iconst 0 :: .freturn :: cb_341_559
noncomputable def cb_341_476 : List Instr := .aload 1 :: .aload 0 :: .iload 4 :: .iconst 1 :: .iadd :: .faload :: .aload 0 :: .iload 4 :: .iconst 2 :: .iadd :: .faload :: .aload 0 :: .iload 4 :: .iconst 3 :: .iadd :: .faload :: .aload 0 :: .iload 4 :: .iconst 4 :: .iadd :: .faload :: .aload 0 :: .iload 4 :: .iconst 5 :: .iadd :: .faload :: .aload 0 :: .iload 4 :: .iconst 6 :: .iadd :: .faload :: .aload 0 :: .iload 4 :: .iconst 7 :: .iadd :: .faload :: .aload 3 :: .multianewarray 323 19 :: .istore 5 :: .aload 2 :: .aload 0 :: .iload 4 :: .iconst 1 :: .iadd :: .faload :: .aload 0 :: .iload 4 :: .iconst 2 :: .iadd :: .faload :: .aload 0 :: .iload 4 :: .iconst 3 :: .iadd :: .faload :: .aload 0 :: .iload 4 :: .iconst 4 :: .iadd :: .faload :: .aload 0 :: .iload 4 :: .iconst 5 :: .iadd :: .faload :: .aload 0 :: .iload 4 :: .iconst 6 :: .iadd :: .faload :: .aload 0 :: .iload 4 :: .iconst 7 :: .iadd :: .faload :: .invokeinterface 268 460 :: .istore 6 :: .aload 2 :: .invokeinterface 196 12 :: .iload 5 :: .if_icmp .eq 559 :: cb_341_557
noncomputable def cb_341_475 : List Instr := .goto 1467 :: cb_341_476
noncomputable def cb_341_473 : List Instr := .iconst 0 :: .freturn :: cb_341_475
noncomputable def cb_341_466 : List Instr := .aload 3 :: .iconst 0 :: .laload :: .iload 6 :: .i2l :: .lcmp :: .ifCond .eq 475 :: cb_341_473
noncomputable def cb_341_464 : List Instr := .iload 5 :: .ifCond .ne 475 :: cb_341_466
noncomputable def cb_341_462 : List Instr := .iconst 0 :: .freturn :: cb_341_464
noncomputable def cb_341_441 : List Instr := .aload 1 :: .aload 0 :: .iload 4 :: .iconst 1 :: .iadd :: .faload :: .aload 3 :: .multianewarray 322 7 :: .istore 5 :: .aload 2 :: .aload 0 :: .iload 4 :: .iconst 1 :: .iadd :: .faload :: .invokeinterface 267 76 :: .istore 6 :: .aload 2 :: .invokeinterface 196 12 :: .iload 5 :: .if_icmp .eq 464 :: cb_341_462
noncomputable def cb_341_440 : List Instr := .goto 1467 :: cb_341_441
noncomputable def cb_341_438 : List Instr := .iconst 0 :: .freturn :: cb_341_440
noncomputable def cb_341_431 : List Instr := .aload 3 :: .iconst 0 :: .laload :: .iload 6 :: .i2l :: .lcmp :: .ifCond .eq 440 :: cb_341_438
noncomputable def cb_341_429 : List Instr := .iload 5 :: .ifCond .ne 440 :: cb_341_431
noncomputable def cb_341_427 : List Instr := .iconst 0 :: .freturn :: cb_341_429
noncomputable def cb_341_396 : List Instr := .aload 1 :: .aload 0 :: .iload 4 :: .iconst 1 :: .iadd :: .faload :: .aload 0 :: .iload 4 :: .iconst 2 :: .iadd :: .faload :: .aload 3 :: .multianewarray 321 9 :: .istore 5 :: .aload 2 :: .aload 0 :: .iload 4 :: .iconst 1 :: .iadd :: .faload :: .aload 0 :: .iload 4 :: .iconst 2 :: .iadd :: .faload :: .invokeinterface 266 140 :: .istore 6 :: .aload 2 :: .invokeinterface 196 12 :: .iload 5 :: .if_icmp .eq 429 :: cb_341_427
noncomputable def cb_341_395 : List Instr := .goto 1467 :: cb_341_396
noncomputable def cb_341_393 : List Instr := .iconst 0 :: .freturn :: cb_341_395
noncomputable def cb_341_386 : List Instr := .aload 3 :: .iconst 0 :: .laload :: .iload 6 :: .i2l :: .lcmp :: .ifCond .eq 395 :: cb_341_393
noncomputable def cb_341_384 : List Instr := .iload 5 :: .ifCond .ne 395 :: cb_341_386
noncomputable def cb_341_382 : List Instr := .iconst 0 :: .freturn :: cb_341_384
noncomputable def cb_341_351 : List Instr := .aload 1 :: .aload 0 :: .iload 4 :: .iconst 1 :: .iadd :: .faload :: .aload 0 :: .iload 4 :: .iconst 2 :: .iadd :: .faload :: .aload 3 :: .multianewarray 320 9 :: .istore 5 :: .aload 2 :: .aload 0 :: .iload 4 :: .iconst 1 :: .iadd :: .faload :: .aload 0 :: .iload 4 :: .iconst 2 :: .iadd :: .faload :: .invokeinterface 265 140 :: .istore 6 :: .aload 2 :: .invokeinterface 196 12 :: .iload 5 :: .if_icmp .eq 384 :: cb_341_382
noncomputable def cb_341_350 : List Instr := .goto 1467 :: cb_341_351
noncomputable def cb_341_348 : List Instr := .iconst 0 :: .freturn :: cb_341_350
noncomputable def cb_341_341 : List Instr := .aload 3 :: .iconst 0 :: .laload :: .iload 6 :: .i2l :: .lcmp :: .ifCond .eq 350 :: cb_341_348
noncomputable def cb_341_339 : List Instr := .iload 5 :: .ifCond .ne 350 :: cb_341_341
noncomputable def cb_341_337 : List Instr := .iconst 0 :: .freturn :: cb_341_339
noncomputable def cb_341_306 : List Instr := .aload 1 :: .aload 0 :: .iload 4 :: .iconst 1 :: .iadd :: .faload :: .aload 0 :: .iload 4 :: .iconst 2 :: .iadd :: .faload :: .aload 3 :: .multianewarray 319 9 :: .istore 5 :: .aload 2 :: .aload 0 :: .iload 4 :: .iconst 1 :: .iadd :: .faload :: .aload 0 :: .iload 4 :: .iconst 2 :: .iadd :: .faload :: .invokeinterface 264 140 :: .istore 6 :: .aload 2 :: .invokeinterface 196 12 :: .iload 5 :: .if_icmp .eq 339 :: cb_341_337
noncomputable def cb_341_305 : List Instr := .goto 1467 :: cb_341_306
noncomputable def cb_341_303 : List Instr := .iconst 0 :: .freturn :: cb_341_305
noncomputable def cb_341_296 : List Instr := .aload 3 :: .iconst 0 :: .laload :: .iload 6 :: .i2l :: .lcmp :: .ifCond .eq 305 :: cb_341_303
noncomputable def cb_341_294 : List Instr := .iload 5 :: .ifCond .ne 305 :: cb_341_296
noncomputable def cb_341_292 : List Instr := .iconst 0 :: .freturn :: cb_341_294
noncomputable def cb_341_271 : List Instr := .aload 1 :: .aload 0 :: .iload 4 :: .iconst 1 :: .iadd :: .faload :: .aload 3 :: .multianewarray 318 7 :: .istore 5 :: .aload 2 :: .aload 0 :: .iload 4 :: .iconst 1 :: .iadd :: .faload :: .invokeinterface 259 76 :: .istore 6 :: .aload 2 :: .invokeinterface 196 12 :: .iload 5 :: .if_icmp .eq 294 :: cb_341_292
noncomputable def cb_341_269 : List Instr := .iconst 0 :: .freturn :: cb_341_271
noncomputable def cb_341_264 : List Instr := .aload 1 :: .invokeinterface 149 11 :: .aload 2 :: .invokeinterface 257 12 :: .if_icmp .eq 1467 :: cb_341_269
noncomputable def cb_341_262 : List Instr := .iconst 0 :: .freturn :: cb_341_264
noncomputable def cb_341_257 : List Instr := .aload 1 :: .invokeinterface 148 11 :: .aload 2 :: .invokeinterface 214 12 :: .if_icmp .eq 1467 :: cb_341_262
noncomputable def cb_341_256 : List Instr := .goto 1467 :: cb_341_257
noncomputable def cb_341_254 : List Instr := .iconst 0 :: .freturn :: cb_341_256
noncomputable def cb_341_247 : List Instr := .aload 3 :: .iconst 0 :: .laload :: .iload 6 :: .i2l :: .lcmp :: .ifCond .eq 256 :: cb_341_254
noncomputable def cb_341_245 : List Instr := .iload 5 :: .ifCond .ne 256 :: cb_341_247
noncomputable def cb_341_243 : List Instr := .iconst 0 :: .freturn :: cb_341_245
noncomputable def cb_341_222 : List Instr := .aload 1 :: .aload 0 :: .iload 4 :: .iconst 1 :: .iadd :: .faload :: .aload 3 :: .multianewarray 317 7 :: .istore 5 :: .aload 2 :: .aload 0 :: .iload 4 :: .iconst 1 :: .iadd :: .faload :: .invokeinterface 245 76 :: .istore 6 :: .aload 2 :: .invokeinterface 196 12 :: .iload 5 :: .if_icmp .eq 245 :: cb_341_243
noncomputable def cb_341_221 : List Instr := .goto 1467 :: cb_341_222
noncomputable def cb_341_219 : List Instr := .iconst 0 :: .freturn :: cb_341_221
noncomputable def cb_341_212 : List Instr := .aload 3 :: .iconst 0 :: .laload :: .iload 6 :: .i2l :: .lcmp :: .ifCond .eq 221 :: cb_341_219
noncomputable def cb_341_210 : List Instr := .iload 5 :: .ifCond .ne 221 :: cb_341_212
noncomputable def cb_341_208 : List Instr := .iconst 0 :: .freturn :: cb_341_210
noncomputable def cb_341_187 : List Instr := .aload 1 :: .aload 0 :: .iload 4 :: .iconst 1 :: .iadd :: .faload :: .aload 3 :: .multianewarray 316 7 :: .istore 5 :: .aload 2 :: .aload 0 :: .iload 4 :: .iconst 1 :: .iadd :: .faload :: .invokeinterface 244 76 :: .istore 6 :: .aload 2 :: .invokeinterface 196 12 :: .iload 5 :: .if_icmp .eq 210 :: cb_341_208
noncomputable def cb_341_186 : List Instr := .goto 1467 :: cb_341_187
noncomputable def cb_341_184 : List Instr := .iconst 0 :: .freturn :: cb_341_186
noncomputable def cb_341_177 : List Instr := .aload 3 :: .iconst 0 :: .laload :: .iload 6 :: .i2l :: .lcmp :: .ifCond .eq 186 :: cb_341_184
noncomputable def cb_341_175 : List Instr := .iload 5 :: .ifCond .ne 186 :: cb_341_177
noncomputable def cb_341_173 : List Instr := .iconst 0 :: .freturn :: cb_341_175
noncomputable def cb_341_152 : List Instr := .aload 1 :: .aload 0 :: .iload 4 :: .iconst 1 :: .iadd :: .faload :: .aload 3 :: .multianewarray 315 7 :: .istore 5 :: .aload 2 :: .aload 0 :: .iload 4 :: .iconst 1 :: .iadd :: .faload :: .invokeinterface 240 76 :: .istore 6 :: .aload 2 :: .invokeinterface 196 12 :: .iload 5 :: .if_icmp .eq 175 :: cb_341_173
noncomputable def cb_341_151 : List Instr := .goto 1467 :: cb_341_152
noncomputable def cb_341_149 : List Instr := .iconst 0 :: .freturn :: cb_341_151
noncomputable def cb_341_142 : List Instr := .aload 3 :: .iconst 0 :: .laload :: .iload 6 :: .i2l :: .lcmp :: .ifCond .eq 151 :: cb_341_149
noncomputable def cb_341_140 : List Instr := .iload 5 :: .ifCond .ne 151 :: cb_341_142
noncomputable def cb_341_138 : List Instr := .iconst 0 :: .freturn :: cb_341_140
noncomputable def cb_341_117 : List Instr := .aload 1 :: .aload 0 :: .iload 4 :: .iconst 1 :: .iadd :: .faload :: .aload 3 :: .multianewarray 314 7 :: .istore 5 :: .aload 2 :: .aload 0 :: .iload 4 :: .iconst 1 :: .iadd :: .faload :: .invokeinterface 231 76 :: .istore 6 :: .aload 2 :: .invokeinterface 196 12 :: .iload 5 :: .if_icmp .eq 140 :: cb_341_138
noncomputable def cb_341_116 : List Instr := .goto 1467 :: cb_341_117
noncomputable def cb_341_114 : List Instr := .iconst 0 :: .freturn :: cb_341_116
noncomputable def cb_341_107 : List Instr := .aload 3 :: .iconst 0 :: .laload :: .iload 6 :: .i2l :: .lcmp :: .ifCond .eq 116 :: cb_341_114
noncomputable def cb_341_105 : List Instr := .iload 5 :: .ifCond .ne 116 :: cb_341_107
noncomputable def cb_341_103 : List Instr := .iconst 0 :: .freturn :: cb_341_105
noncomputable def cb_341_82 : List Instr := .aload 1 :: .aload 0 :: .iload 4 :: .iconst 1 :: .iadd :: .faload :: .aload 3 :: .multianewarray 313 7 :: .istore 5 :: .aload 2 :: .aload 0 :: .iload 4 :: .iconst 1 :: .iadd :: .faload :: .invokeinterface 222 76 :: .istore 6 :: .aload 2 :: .invokeinterface 196 12 :: .iload 5 :: .if_icmp .eq 105 :: cb_341_103
noncomputable def cb_341_80 : List Instr := .iconst 0 :: .freturn :: cb_341_82
noncomputable def cb_341_25 : List Instr := .aload 1 :: .aload 0 :: .iload 4 :: .iconst 1 :: .iadd :: .faload :: .aload 0 :: .iload 4 :: .iconst 2 :: .iadd :: .faload :: .aload 0 :: .iload 4 :: .iconst 3 :: .iadd :: .faload :: .aload 0 :: .iload 4 :: .iconst 4 :: .iadd :: .faload :: .aload 0 :: .iload 4 :: .iconst 5 :: .iadd :: .faload :: .invokeinterface 142 331 :: .aload 2 :: .aload 0 :: .iload 4 :: .iconst 1 :: .iadd :: .faload :: .aload 0 :: .iload 4 :: .iconst 2 :: .iadd :: .faload :: .aload 0 :: .iload 4 :: .iconst 3 :: .iadd :: .faload :: .aload 0 :: .iload 4 :: .iconst 4 :: .iadd :: .faload :: .aload 0 :: .iload 4 :: .iconst 5 :: .iadd :: .faload :: .invokeinterface 200 332 :: .if_icmp .eq 1467 :: cb_341_80
noncomputable def cb_341_19 : List Instr := .aload 0 :: .iload 4 :: .faload :: .iconst 63 :: .iand :: .tableswitch 1467 0 39 #[25, 82, 117, 152, 187, 222, 257, 264, 271, 306, 351, 396, 441, 476, 571, 616, 651, 696, 741, 786, 821, 866, 901, 908, 962, 1007, 1014, 1021, 1056, 1130, 1175, 1210, 1255, 1262, 1269, 1334, 1419, 1426, 1433, 1450] :: cb_341_25
noncomputable def cb_341_13 : List Instr := .iload 4 :: .aload 0 :: .arraylength :: .iconst 8 :: .isub :: .if_icmp .gt 1469 :: cb_341_19
noncomputable def cb_341_0 : List Instr := .new 11 :: .dup :: .invokeinterface 141 43 :: .astore 1 :: .new 12 :: .dup :: .invokeinterface 199 44 :: .astore 2 :: .iconst 1 :: .newarray .long :: .astore 3 :: .iconst 0 :: .istore 4 :: cb_341_13
set_option maxRecDepth 100000 in
noncomputable def pg_cd (k : Nat) : List Instr := ([cb_0_0, cb_1_0, cb_2_0, cb_3_0, cb_4_0, cb_5_0, cb_6_0, cb_7_0, cb_8_0, cb_9_0, cb_10_0, cb_11_0, cb_12_0, cb_13_0, cb_14_0, cb_15_0, cb_16_0, cb_17_0, cb_18_0, cb_19_0, cb_20_0, cb_21_0, cb_22_0, cb_23_0, cb_24_0, cb_25_0, cb_26_0, cb_27_0, cb_28_0, cb_29_0, cb_30_0, cb_31_0, cb_32_0, cb_33_0, cb_34_0, cb_35_0, cb_36_0, cb_37_0, cb_38_0, cb_39_0, cb_40_0, cb_41_0, cb_42_0, cb_43_0, cb_44_0, cb_45_0, cb_46_0, cb_47_0, cb_48_0, cb_49_0, cb_50_0, cb_51_0, cb_52_0, cb_53_0, cb_54_0, cb_55_0, cb_56_0, cb_57_0, cb_58_0, cb_59_0, cb_60_0, cb_61_0, cb_62_0, cb_63_0, cb_64_0, cb_65_0, cb_66_0, cb_67_0, cb_68_0, cb_69_0, cb_70_0, cb_71_0, cb_72_0, cb_73_0, cb_74_0, cb_75_0, cb_76_0, cb_77_0, cb_78_0, cb_79_0, cb_80_0, cb_81_0, cb_82_0, cb_83_0, cb_84_0, cb_85_0, cb_86_0, cb_87_0, cb_88_0, cb_89_0, cb_90_0, cb_91_0, cb_92_0, cb_93_0, cb_94_0, cb_95_0, cb_96_0, cb_97_0, cb_98_0, cb_99_0, cb_100_0, cb_101_0, cb_102_0, cb_103_0, cb_104_0, cb_105_0, cb_106_0, cb_107_0, cb_108_0, cb_109_0, cb_110_0, cb_111_0, cb_112_0, cb_113_0, cb_114_0, cb_115_0, cb_116_0, cb_117_0, cb_118_0, cb_119_0, cb_120_0, cb_121_0, cb_122_0, cb_123_0, cb_124_0, cb_125_0, cb_126_0, cb_127_0, cb_128_0, cb_129_0, cb_130_0, cb_131_0, cb_132_0, cb_133_0, cb_134_0, cb_135_0, cb_136_0, cb_137_0, cb_138_0, cb_139_0, cb_140_0, cb_141_0, cb_142_0, cb_143_0, cb_144_0, cb_145_0, cb_146_0, cb_147_0, cb_148_0, cb_149_0, cb_150_0, cb_151_0, cb_152_0, cb_153_0, cb_154_0, cb_155_0, cb_156_0, cb_157_0, cb_158_0, cb_159_0, cb_160_0, cb_161_0, cb_162_0, cb_163_0, cb_164_0, cb_165_0, cb_166_0, cb_167_0, cb_168_0, cb_169_0, cb_170_0, cb_171_0, cb_172_0, cb_173_0, cb_174_0, cb_175_0, cb_176_0, cb_177_0, cb_178_0, cb_179_0, cb_180_0, cb_181_0, cb_182_0, cb_183_0, cb_184_0, cb_185_0, cb_186_0, cb_187_0, cb_188_0, cb_189_0, cb_190_0, cb_191_0, cb_192_0, cb_193_0, cb_194_0, cb_195_0, cb_196_0, cb_197_0, cb_198_0, cb_199_0, cb_200_0, cb_201_0, cb_202_0, cb_203_0, cb_204_0, cb_205_0, cb_206_0, cb_207_0, cb_208_0, cb_209_0, cb_210_0, cb_211_0, cb_212_0, cb_213_0, cb_214_0, cb_215_0, cb_216_0, cb_217_0, cb_218_0, cb_219_0, cb_220_0, cb_221_0, cb_222_0, cb_223_0, cb_224_0, cb_225_0, cb_226_0, cb_227_0, cb_228_0, cb_229_0, cb_230_0, cb_231_0, cb_232_0, cb_233_0, cb_234_0, cb_235_0, cb_236_0, cb_237_0, cb_238_0, cb_239_0, cb_240_0, cb_241_0, cb_242_0, cb_243_0, cb_244_0, cb_245_0, cb_246_0, cb_247_0, cb_248_0, cb_249_0, cb_250_0, cb_251_0, cb_252_0, cb_253_0, cb_254_0, cb_255_0, cb_256_0, cb_257_0, cb_258_0, cb_259_0, cb_260_0, cb_261_0, cb_262_0, cb_263_0, cb_264_0, cb_265_0, cb_266_0, cb_267_0, cb_268_0, cb_269_0, cb_270_0, cb_271_0, cb_272_0, cb_273_0, cb_274_0, cb_275_0, cb_276_0, cb_277_0, cb_278_0, cb_279_0, cb_280_0, cb_281_0, cb_282_0, cb_283_0, cb_284_0, cb_285_0, cb_286_0, cb_287_0, cb_288_0, cb_289_0, cb_290_0, cb_291_0, cb_292_0, cb_293_0, cb_294_0, cb_295_0, cb_296_0, cb_297_0, cb_298_0, cb_299_0, cb_300_0, cb_301_0, cb_302_0, cb_303_0, cb_304_0, cb_305_0, cb_306_0, cb_307_0, cb_308_0, cb_309_0, cb_310_0, cb_311_0, cb_312_0, cb_313_0, cb_314_0, cb_315_0, cb_316_0, cb_317_0, cb_318_0, cb_319_0, cb_320_0, cb_321_0, cb_322_0, cb_323_0, cb_324_0, cb_325_0, cb_326_0, cb_327_0, cb_328_0, cb_329_0, cb_330_0, cb_331_0, cb_332_0, cb_333_0, cb_334_0, cb_335_0, cb_336_0, cb_337_0, cb_338_0, cb_339_0, cb_340_0] : List (List Instr)).getD k []
