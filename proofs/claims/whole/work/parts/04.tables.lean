/-! ===== THE PROGRAM AS TABLES (by wip/whole/mk_prog.py, out of the Statement) ===== -/
set_option maxRecDepth 100000 in
noncomputable def pg_R (k : Nat) : String := (["FogWatch$Gather", "FogWatch$Law", "FogWatch$Listener", "FogWatch$Pairs", "FogWatch$Scene", "FogWatch$Steps", "FogWatch$Story", "FogWatch$Streets", "FogWatch$Tape", "FogWatch$Town", "FogWatch$Tune", "FogWatch", "FogWatchModel", "java/util/NoSuchElementException", "java/lang/IllegalArgumentException", "FogWatchLaw", "java/lang/Integer", "java/lang/Math", "java/lang/String", "java/lang/StringLatin1", "java/util/Arrays", "jdk/internal/util/Preconditions"] : List String).getD k ""
set_option maxRecDepth 100000 in
noncomputable def pg_own (k : Nat) : Nat := ([16, 20, 20, 21, 18, 18, 18, 18, 18, 19, 8, 8, 8, 8, 8, 8, 8, 8, 8, 8, 8, 8, 8, 8, 8, 8, 1, 1, 1, 1, 1, 1, 1, 1, 1, 1, 1, 1, 1, 9, 9, 9, 9, 9, 9, 9, 9, 9, 9, 9, 9, 10, 10, 10, 10, 10, 4, 4, 4, 4, 4, 4, 4, 4, 4, 4, 4, 4, 4, 4, 4, 4, 4, 5, 5, 5, 5, 5, 5, 5, 5, 5, 5, 5, 5, 6, 6, 6, 6, 6, 7, 7, 7, 7, 7, 7, 7, 7, 7, 7, 7, 7, 7, 7, 7, 0, 0, 0, 0, 0, 0, 0, 0, 0, 0, 0, 0, 0, 0, 3, 3, 3, 3, 3, 3, 3, 3, 3, 3, 3, 3, 3, 2, 2, 2, 2, 2, 2, 2, 2, 2, 11, 11, 11, 11, 11, 11, 11, 11, 11, 11, 11, 11, 11, 11, 11, 11, 11, 11, 11, 11, 11, 11, 11, 11, 11, 11, 11, 11, 11, 11, 11, 11, 11, 11, 11, 11, 11, 11, 11, 11, 11, 11, 11, 11, 11, 11, 11, 11, 11, 11, 11, 11, 11, 11, 11, 12, 12, 12, 12, 12, 12, 12, 12, 12, 12, 12, 12, 12, 12, 12, 12, 12, 12, 12, 12, 12, 12, 12, 12, 12, 12, 12, 12, 12, 12, 12, 12, 12, 12, 12, 12, 12, 12, 12, 12, 12, 12, 12, 12, 12, 12, 12, 12, 12, 12, 12, 12, 12, 12, 12, 12, 12, 12, 12, 12, 12, 12, 12, 12, 12, 12, 12, 12, 12, 12, 12, 12, 12, 12, 12, 12, 12, 12, 12, 12, 12, 12, 12, 12, 12, 12, 12, 12, 12, 12, 12, 12, 12, 12, 12, 12, 12, 12, 12, 12, 12, 12, 12, 12, 12, 12, 12, 12, 12, 12, 12, 12, 12, 12, 12, 12, 12, 15, 15, 15, 15, 15, 15, 15, 15, 15, 15, 15, 15, 15, 15, 15, 15, 15, 15, 15, 15, 15, 15, 15, 15, 15, 15, 15, 15, 15] : List Nat).getD k 99
set_option maxRecDepth 100000 in
noncomputable def pg_nd (k : Nat) : String × String := ([("bitCount", "(I)I"), ("fill", "([JJ)V"), ("fill", "([II)V"), ("checkIndex", "(IILjava/util/function/BiFunction;)I"), ("length", "()I"), ("charAt", "(I)C"), ("coder", "()B"), ("isLatin1", "()Z"), ("checkIndex", "(II)V"), ("charAt", "([BI)C"), ("<init>", "()V"), ("add", "(IIIII)I"), ("addNumber", "(I)V"), ("open", "(I)V"), ("isSound", "()Z"), ("refuse", "(II)V"), ("byteAt", "(I)I"), ("peek", "()I"), ("pass", "()V"), ("isAtEnd", "()Z"), ("readSign", "(I)V"), ("readWord", "()V"), ("wordIs", "(Ljava/lang/String;)Z"), ("readNumber", "(II)I"), ("isDigit", "(I)Z"), ("isSmallLetter", "(I)Z"), ("<init>", "()V"), ("useCommon", "()V"), ("put", "(II)V"), ("read", "(LFogWatch$Tape;)Z"), ("readSum", "(LFogWatch$Tape;I)V"), ("readProduct", "(LFogWatch$Tape;I)V"), ("readUnit", "(LFogWatch$Tape;I)V"), ("readNamed", "(LFogWatch$Tape;I)V"), ("factOf", "(LFogWatch$Tape;)I"), ("price", "(IIIIIII)I"), ("workOut", "()I"), ("fact", "(I)I"), ("join", "(III)I"), ("<init>", "()V"), ("bellOf", "(I)I"), ("leadsTo", "(II)I"), ("startOf", "(I)I"), ("drift", "(II)I"), ("read", "(LFogWatch$Tape;)Z"), ("readClause", "(LFogWatch$Tape;Z)V"), ("kindOf", "(LFogWatch$Tape;)I"), ("isFullOf", "(I)Z"), ("addCorner", "(I)V"), ("readWay", "(LFogWatch$Tape;)V"), ("addMan", "(I)V"), ("<init>", "()V"), ("clear", "()V"), ("note", "(I)I"), ("read", "(LFogWatch$Tape;I)Z"), ("add", "(ILFogWatch$Tape;)V"), ("<init>", "()V"), ("begin", "(LFogWatch$Town;)V"), ("copyFrom", "(LFogWatch$Scene;)V"), ("ofMan", "(II)I"), ("setOfMan", "(III)V"), ("isInFog", "(I)Z"), ("peopled", "(I)I"), ("menIn", "(II)I"), ("crowd", "(I)I"), ("price", "(IILFogWatch$Law;)I"), ("blow", "(ILFogWatch$Town;LFogWatch$Law;)Z"), ("moveMan", "(IILFogWatch$Town;)V"), ("turnFog", "(I)Z"), ("rest", "(I)Z"), ("walk", "(II)Z"), ("endNightByWork", "(LFogWatch$Town;)Z"), ("endNight", "(LFogWatch$Town;)V"), ("<init>", "()V"), ("forget", "()V"), ("put", "(III)I"), ("read", "(LFogWatch$Tape;LFogWatch$Town;)Z"), ("readAll", "(LFogWatch$Tape;LFogWatch$Town;I)V"), ("readStep", "(LFogWatch$Tape;LFogWatch$Town;I)V"), ("kindOf", "(LFogWatch$Tape;)I"), ("readWalk", "(LFogWatch$Tape;LFogWatch$Town;)V"), ("readAgain", "(LFogWatch$Tape;LFogWatch$Town;I)V"), ("perform", "(LFogWatch$Scene;LFogWatch$Town;LFogWatch$Law;)I"), ("behindClosing", "(I)I"), ("takeStep", "(ILFogWatch$Scene;LFogWatch$Town;LFogWatch$Law;)Z"), ("<init>", "()V"), ("begin", "(LFogWatch$Town;)V"), ("remember", "()V"), ("goBack", "()Z"), ("copyFrom", "(LFogWatch$Story;)V"), ("<init>", "()V"), ("forget", "()V"), ("lay", "(LFogWatch$Town;I)Z"), ("fillHalf", "([III)V"), ("next", "(II)I"), ("isFoggy", "(I)Z"), ("bring", "(II)I"), ("staysAt", "(I)Z"), ("afterTune", "(ILFogWatch$Tune;)I"), ("startWeights", "(I)V"), ("weightOf", "(I)J"), ("addWeight", "([JIJ)V"), ("spreadByAll", "()V"), ("spreadByChance", "(II)V"), ("swapWeights", "()V"), ("<init>", "()V"), ("forget", "()V"), ("find", "(LFogWatch$Streets;II)V"), ("length", "()I"), ("meeting", "()I"), ("whistle", "(I)I"), ("isAim", "(II)Z"), ("start", "(I)V"), ("add", "(II)V"), ("isNew", "(I)Z"), ("search", "(LFogWatch$Streets;II)I"), ("cheapest", "(LFogWatch$Streets;I)I"), ("cheapestWhistle", "()I"), ("priceBehindHead", "(I)I"), ("<init>", "()V"), ("markOf", "(II)I"), ("setBoth", "(III)V"), ("setMark", "(III)V"), ("unmarkedWith", "(II)I"), ("markBehind", "(LFogWatch$Streets;III)I"), ("tellApart", "(LFogWatch$Streets;LFogWatch$Town;)V"), ("tellBy", "(LFogWatch$Streets;I)Z"), ("leadsToMark", "(LFogWatch$Streets;III)Z"), ("allLeadToMark", "(LFogWatch$Streets;III)Z"), ("playTurns", "(LFogWatch$Streets;)V"), ("settleTurns", "(LFogWatch$Streets;)Z"), ("winner", "(LFogWatch$Streets;II)I"), ("<init>", "()V"), ("hear", "(LFogWatch$Streets;LFogWatch$Town;LFogWatch$Tune;LFogWatch$Tune;)V"), ("endOf", "(ILFogWatch$Streets;LFogWatch$Town;LFogWatch$Tune;LFogWatch$Tune;)I"), ("fitting", "(I)I"), ("endings", "(I)I"), ("chooseWhistle", "(LFogWatch$Streets;LFogWatch$Town;)V"), ("mostLeft", "(LFogWatch$Streets;LFogWatch$Town;I)I"), ("bellBehind", "(LFogWatch$Streets;LFogWatch$Town;II)I"), ("roundOf", "(LFogWatch$Streets;LFogWatch$Tune;IZ)I"), ("<init>", "()V"), ("feed", "(IIIII)I"), ("town", "(I)I"), ("law", "(I)I"), ("work", "(I)I"), ("song", "(I)I"), ("book", "(I)I"), ("fault", "()I"), ("undo", "()I"), ("told", "(I)I"), ("corner", "(II)I"), ("way", "(II)I"), ("man", "(II)I"), ("cost", "(I)I"), ("would", "(IIIIIII)I"), ("ahead", "(II)I"), ("goes", "(I)I"), ("reset", "(II)I"), ("row", "(II)I"), ("home", "(II)I"), ("cheap", "(I)I"), ("apart", "(II)I"), ("alike", "(I)I"), ("kinds", "()I"), ("rows", "(III)J"), ("ring", "(II)I"), ("fits", "()I"), ("now", "()I"), ("look", "(I)I"), ("chance", "(IIIII)J"), ("duel", "(II)I"), ("reach", "(I)I"), ("from", "(II)I"), ("still", "()I"), ("wind", "()I"), ("watch", "(IIII)I"), ("span", "(IIIIII)I"), ("image", "()I"), ("restore", "()I"), ("status", "(I)I"), ("count", "(I)I"), ("refuseMissing", "()V"), ("demandCorner", "(I)V"), ("demandRange", "(III)V"), ("demandWhistle", "(I)V"), ("demandSet", "(I)V"), ("openText", "(II)V"), ("faultAnswer", "()I"), ("layStreets", "()V"), ("listen", "()V"), ("dreamOf", "(III)V"), ("dreamHalfNight", "(I)V"), ("draw", "(I)I"), ("leastTerms", "(JIZ)J"), ("isOne", "(I)Z"), ("thrown", "()I"), ("may", "(ZII)Z"), ("within", "(III)Z"), ("<init>", "()V"), ("feed", "(IIIII)I"), ("fine", "()Z"), ("wrong", "(II)V"), ("here", "()I"), ("isSmall", "(I)Z"), ("isDigit", "(I)Z"), ("word", "()I"), ("of", "(Ljava/lang/String;)I"), ("pass", "()V"), ("readNumber", "(II)I"), ("sign", "(I)V"), ("isMore", "()Z"), ("begins", "(I)V"), ("result", "(I)I"), ("fault", "()I"), ("copies", "([I[II)V"), ("clears", "()V"), ("sets", "()V"), ("isRow", "(I)Z"), ("isFull", "(I)Z"), ("readCorner", "()I"), ("readRow", "(I)V"), ("town", "(I)I"), ("emit", "(II)V"), ("opensOne", "(I)V"), ("readSum", "()V"), ("readProduct", "()V"), ("readTwo", "(II)V"), ("standsHere", "(Ljava/lang/String;)Z"), ("factHere", "()I"), ("readUnit", "()V"), ("law", "(I)I"), ("valueNow", "()I"), ("both", "(III)I"), ("costNow", "()I"), ("tellsStep", "(III)V"), ("stepOf", "(I)I"), ("readFirst", "(I)I"), ("readAgain", "()V"), ("readStep", "()V"), ("work", "(I)I"), ("goesSteps", "(II)V"), ("readsRow", "(II)I"), ("maySmall", "(I)Z"), ("song", "(I)I"), ("book", "(I)I"), ("take", "()V"), ("ones", "(I)I"), ("fogBits", "()I"), ("menAt", "(I)I"), ("mostMen", "()I"), ("costOf", "(IIIIIII)I"), ("costBy", "(I)I"), ("stepTo", "(II)I"), ("isBlown", "(I)Z"), ("passes", "()V"), ("isDone", "(III)Z"), ("undo", "()I"), ("menAnywhere", "()I"), ("told", "(I)I"), ("isCorner", "(II)Z"), ("isMan", "(II)Z"), ("isWhistle", "(I)Z"), ("isSet", "(I)Z"), ("corner", "(II)I"), ("way", "(II)I"), ("man", "(II)I"), ("cost", "(I)I"), ("would", "(IIIIIII)I"), ("ahead", "(II)I"), ("allTo", "(II)I"), ("goes", "(I)I"), ("goesRound", "(II)I"), ("cornerOf", "(I)I"), ("reset", "(II)I"), ("row", "(II)I"), ("home", "(II)I"), ("cheap", "(I)I"), ("laysTells", "()V"), ("apart", "(II)I"), ("alikeOf", "(I)I"), ("alike", "(I)I"), ("kinds", "()I"), ("rows", "(III)J"), ("songFrom", "(II)I"), ("ring", "(II)I"), ("heardMany", "()I"), ("isFit", "(I)Z"), ("fitBits", "()I"), ("fits", "()I"), ("endOf", "(I)I"), ("now", "()I"), ("worstOf", "(II)I"), ("look", "(I)I"), ("least", "(JJI)J"), ("chance", "(IIIII)J"), ("valueBy", "(II)I"), ("duel", "(II)I"), ("reach", "(I)I"), ("from", "(II)I"), ("still", "()I"), ("wind", "()I"), ("draws", "(I)I"), ("watchGoes", "(III)V"), ("isWatch", "(II)Z"), ("watch", "(IIII)I"), ("span", "(IIIIII)I"), ("keepsRow", "(I[IIZ)I"), ("keepsAll", "(IZ)V"), ("image", "()I"), ("restore", "()I"), ("status", "(I)I"), ("count", "(I)I"), ("town", "(LFogWatch;I[J)I"), ("law", "(LFogWatch;I[J)I"), ("work", "(LFogWatch;I[J)I"), ("song", "(LFogWatch;I[J)I"), ("book", "(LFogWatch;I[J)I"), ("told", "(LFogWatch;I[J)I"), ("corner", "(LFogWatch;II[J)I"), ("way", "(LFogWatch;II[J)I"), ("man", "(LFogWatch;II[J)I"), ("cost", "(LFogWatch;I[J)I"), ("would", "(LFogWatch;IIIIIII[J)I"), ("ahead", "(LFogWatch;II[J)I"), ("goes", "(LFogWatch;I[J)I"), ("reset", "(LFogWatch;II[J)I"), ("row", "(LFogWatch;II[J)I"), ("home", "(LFogWatch;II[J)I"), ("cheap", "(LFogWatch;I[J)I"), ("apart", "(LFogWatch;II[J)I"), ("alike", "(LFogWatch;I[J)I"), ("rows", "(LFogWatch;III[J)I"), ("ring", "(LFogWatch;II[J)I"), ("look", "(LFogWatch;I[J)I"), ("chance", "(LFogWatch;IIIII[J)I"), ("duel", "(LFogWatch;II[J)I"), ("reach", "(LFogWatch;I[J)I"), ("from", "(LFogWatch;II[J)I"), ("watch", "(LFogWatch;IIII[J)I"), ("span", "(LFogWatch;IIIIII[J)I"), ("law", "([I)Z")] : List (String × String)).getD k ("", "")
set_option maxRecDepth 100000 in
noncomputable def pg_yy (k : Nat) : MethodName := ⟨pg_R (pg_own k), (pg_nd k).1, (pg_nd k).2⟩
set_option maxRecDepth 100000 in
noncomputable def pg_bb (k : Nat) : ByteArray := ([prog_20_method_49_code, prog_29_method_101_code, prog_29_method_103_code, prog_31_method_11_code, prog_23_method_54_code, prog_23_method_56_code, prog_23_method_152_code, prog_23_method_154_code, prog_23_method_155_code, prog_24_method_2_code, prog_10_method_1_code, prog_10_method_2_code, prog_10_method_3_code, prog_10_method_4_code, prog_10_method_5_code, prog_10_method_6_code, prog_10_method_7_code, prog_10_method_8_code, prog_10_method_9_code, prog_10_method_10_code, prog_10_method_11_code, prog_10_method_12_code, prog_10_method_13_code, prog_10_method_14_code, prog_10_method_15_code, prog_10_method_16_code, prog_3_method_1_code, prog_3_method_2_code, prog_3_method_3_code, prog_3_method_4_code, prog_3_method_5_code, prog_3_method_6_code, prog_3_method_7_code, prog_3_method_8_code, prog_3_method_9_code, prog_3_method_10_code, prog_3_method_11_code, prog_3_method_12_code, prog_3_method_13_code, prog_11_method_1_code, prog_11_method_2_code, prog_11_method_3_code, prog_11_method_4_code, prog_11_method_5_code, prog_11_method_6_code, prog_11_method_7_code, prog_11_method_8_code, prog_11_method_9_code, prog_11_method_10_code, prog_11_method_11_code, prog_11_method_12_code, prog_12_method_1_code, prog_12_method_2_code, prog_12_method_3_code, prog_12_method_4_code, prog_12_method_5_code, prog_6_method_1_code, prog_6_method_2_code, prog_6_method_3_code, prog_6_method_4_code, prog_6_method_5_code, prog_6_method_6_code, prog_6_method_7_code, prog_6_method_8_code, prog_6_method_9_code, prog_6_method_10_code, prog_6_method_11_code, prog_6_method_12_code, prog_6_method_13_code, prog_6_method_14_code, prog_6_method_15_code, prog_6_method_16_code, prog_6_method_17_code, prog_7_method_1_code, prog_7_method_2_code, prog_7_method_3_code, prog_7_method_4_code, prog_7_method_5_code, prog_7_method_6_code, prog_7_method_7_code, prog_7_method_8_code, prog_7_method_9_code, prog_7_method_10_code, prog_7_method_11_code, prog_7_method_12_code, prog_8_method_1_code, prog_8_method_2_code, prog_8_method_3_code, prog_8_method_4_code, prog_8_method_5_code, prog_9_method_1_code, prog_9_method_2_code, prog_9_method_3_code, prog_9_method_4_code, prog_9_method_5_code, prog_9_method_6_code, prog_9_method_7_code, prog_9_method_8_code, prog_9_method_9_code, prog_9_method_10_code, prog_9_method_11_code, prog_9_method_12_code, prog_9_method_13_code, prog_9_method_14_code, prog_9_method_15_code, prog_2_method_1_code, prog_2_method_2_code, prog_2_method_3_code, prog_2_method_4_code, prog_2_method_5_code, prog_2_method_6_code, prog_2_method_7_code, prog_2_method_8_code, prog_2_method_9_code, prog_2_method_10_code, prog_2_method_11_code, prog_2_method_12_code, prog_2_method_13_code, prog_2_method_14_code, prog_5_method_1_code, prog_5_method_2_code, prog_5_method_3_code, prog_5_method_4_code, prog_5_method_5_code, prog_5_method_6_code, prog_5_method_7_code, prog_5_method_8_code, prog_5_method_9_code, prog_5_method_10_code, prog_5_method_11_code, prog_5_method_12_code, prog_5_method_13_code, prog_4_method_1_code, prog_4_method_2_code, prog_4_method_3_code, prog_4_method_4_code, prog_4_method_5_code, prog_4_method_6_code, prog_4_method_7_code, prog_4_method_8_code, prog_4_method_9_code, prog_1_method_1_code, prog_1_method_2_code, prog_1_method_3_code, prog_1_method_4_code, prog_1_method_5_code, prog_1_method_6_code, prog_1_method_7_code, prog_1_method_8_code, prog_1_method_9_code, prog_1_method_10_code, prog_1_method_11_code, prog_1_method_12_code, prog_1_method_13_code, prog_1_method_14_code, prog_1_method_15_code, prog_1_method_16_code, prog_1_method_17_code, prog_1_method_18_code, prog_1_method_19_code, prog_1_method_20_code, prog_1_method_21_code, prog_1_method_22_code, prog_1_method_23_code, prog_1_method_24_code, prog_1_method_25_code, prog_1_method_26_code, prog_1_method_27_code, prog_1_method_28_code, prog_1_method_29_code, prog_1_method_30_code, prog_1_method_31_code, prog_1_method_32_code, prog_1_method_33_code, prog_1_method_34_code, prog_1_method_35_code, prog_1_method_36_code, prog_1_method_37_code, prog_1_method_38_code, prog_1_method_39_code, prog_1_method_40_code, prog_1_method_41_code, prog_1_method_42_code, prog_1_method_43_code, prog_1_method_44_code, prog_1_method_45_code, prog_1_method_46_code, prog_1_method_47_code, prog_1_method_48_code, prog_1_method_49_code, prog_1_method_50_code, prog_1_method_51_code, prog_1_method_52_code, prog_1_method_53_code, prog_1_method_54_code, prog_1_method_55_code, prog_14_method_1_code, prog_14_method_2_code, prog_14_method_3_code, prog_14_method_4_code, prog_14_method_5_code, prog_14_method_6_code, prog_14_method_7_code, prog_14_method_8_code, prog_14_method_9_code, prog_14_method_10_code, prog_14_method_11_code, prog_14_method_12_code, prog_14_method_13_code, prog_14_method_14_code, prog_14_method_15_code, prog_14_method_16_code, prog_14_method_17_code, prog_14_method_18_code, prog_14_method_19_code, prog_14_method_20_code, prog_14_method_21_code, prog_14_method_22_code, prog_14_method_23_code, prog_14_method_24_code, prog_14_method_25_code, prog_14_method_26_code, prog_14_method_27_code, prog_14_method_28_code, prog_14_method_29_code, prog_14_method_30_code, prog_14_method_31_code, prog_14_method_32_code, prog_14_method_33_code, prog_14_method_34_code, prog_14_method_35_code, prog_14_method_36_code, prog_14_method_37_code, prog_14_method_38_code, prog_14_method_39_code, prog_14_method_40_code, prog_14_method_41_code, prog_14_method_42_code, prog_14_method_43_code, prog_14_method_44_code, prog_14_method_45_code, prog_14_method_46_code, prog_14_method_47_code, prog_14_method_48_code, prog_14_method_49_code, prog_14_method_50_code, prog_14_method_51_code, prog_14_method_52_code, prog_14_method_53_code, prog_14_method_54_code, prog_14_method_55_code, prog_14_method_56_code, prog_14_method_57_code, prog_14_method_58_code, prog_14_method_59_code, prog_14_method_60_code, prog_14_method_61_code, prog_14_method_62_code, prog_14_method_63_code, prog_14_method_64_code, prog_14_method_65_code, prog_14_method_66_code, prog_14_method_67_code, prog_14_method_68_code, prog_14_method_69_code, prog_14_method_70_code, prog_14_method_71_code, prog_14_method_72_code, prog_14_method_73_code, prog_14_method_74_code, prog_14_method_75_code, prog_14_method_76_code, prog_14_method_77_code, prog_14_method_78_code, prog_14_method_79_code, prog_14_method_80_code, prog_14_method_81_code, prog_14_method_82_code, prog_14_method_83_code, prog_14_method_84_code, prog_14_method_85_code, prog_14_method_86_code, prog_14_method_87_code, prog_14_method_88_code, prog_14_method_89_code, prog_14_method_90_code, prog_14_method_91_code, prog_14_method_92_code, prog_14_method_93_code, prog_14_method_94_code, prog_14_method_95_code, prog_14_method_96_code, prog_14_method_97_code, prog_14_method_98_code, prog_14_method_99_code, prog_14_method_100_code, prog_14_method_101_code, prog_14_method_102_code, prog_14_method_103_code, prog_14_method_104_code, prog_14_method_105_code, prog_14_method_106_code, prog_14_method_107_code, prog_14_method_108_code, prog_14_method_109_code, prog_14_method_110_code, prog_14_method_111_code, prog_14_method_112_code, prog_14_method_113_code, prog_14_method_114_code, prog_14_method_115_code, prog_14_method_116_code, prog_14_method_117_code, method_3_code, method_4_code, method_5_code, method_6_code, method_7_code, method_8_code, method_9_code, method_10_code, method_11_code, method_12_code, method_13_code, method_14_code, method_15_code, method_16_code, method_17_code, method_18_code, method_19_code, method_20_code, method_21_code, method_22_code, method_23_code, method_24_code, method_25_code, method_26_code, method_27_code, method_28_code, method_29_code, method_30_code, code] : List ByteArray).getD k ⟨#[]⟩
set_option maxRecDepth 100000 in
noncomputable def pg_nl (k : Nat) : Nat := ([1, 5, 4, 3, 1, 2, 1, 1, 2, 2, 1, 6, 3, 2, 1, 3, 2, 3, 1, 1, 2, 2, 4, 5, 1, 1, 1, 1, 3, 2, 5, 5, 4, 5, 1, 8, 3, 2, 3, 1, 2, 4, 2, 4, 3, 4, 1, 2, 3, 6, 2, 1, 1, 2, 4, 3, 1, 3, 3, 4, 5, 2, 4, 5, 6, 5, 6, 6, 2, 2, 3, 2, 2, 1, 1, 4, 3, 6, 4, 1, 4, 6, 8, 3, 5, 2, 2, 1, 1, 3, 1, 1, 6, 7, 4, 2, 5, 3, 5, 2, 2, 4, 3, 4, 2, 1, 1, 4, 1, 1, 5, 2, 2, 3, 2, 8, 7, 5, 3, 1, 4, 4, 5, 5, 5, 6, 6, 6, 6, 4, 6, 4, 1, 6, 8, 4, 4, 5, 7, 5, 7, 2, 6, 3, 3, 2, 3, 3, 1, 1, 3, 4, 3, 3, 2, 8, 4, 4, 3, 3, 3, 3, 3, 2, 4, 5, 3, 1, 1, 2, 8, 3, 6, 5, 3, 3, 5, 12, 1, 1, 2, 2, 1, 2, 4, 2, 2, 3, 1, 1, 1, 5, 2, 2, 9, 1, 1, 4, 3, 1, 8, 1, 3, 1, 1, 1, 4, 3, 1, 6, 2, 1, 2, 2, 1, 5, 2, 2, 1, 2, 1, 5, 4, 3, 2, 2, 2, 3, 3, 2, 2, 3, 4, 3, 2, 4, 1, 2, 3, 3, 4, 6, 6, 2, 3, 3, 1, 3, 3, 4, 3, 8, 2, 3, 4, 3, 4, 2, 3, 2, 3, 3, 1, 2, 3, 3, 3, 2, 8, 5, 5, 4, 8, 2, 4, 4, 4, 7, 6, 3, 4, 2, 3, 7, 5, 5, 1, 4, 3, 1, 2, 4, 7, 5, 11, 10, 7, 6, 5, 5, 5, 3, 2, 5, 2, 5, 12, 6, 4, 1, 1, 2, 2, 4, 4, 4, 4, 4, 4, 5, 5, 5, 4, 10, 5, 4, 5, 5, 5, 4, 5, 4, 6, 5, 4, 8, 5, 4, 5, 7, 9, 8] : List Nat).getD k 0
set_option maxRecDepth 100000 in
noncomputable def pg_rr (k : Nat) : Option FieldType := ([some .int, none, none, some .int, some .int, some .char, some .byte, some .boolean, none, some .char, none, some .int, none, none, some .boolean, none, some .int, some .int, none, some .boolean, none, none, some .boolean, some .int, some .boolean, some .boolean, none, none, none, some .boolean, none, none, none, none, some .int, some .int, some .int, some .int, some .int, none, some .int, some .int, some .int, some .int, some .boolean, none, some .int, some .boolean, none, none, none, none, none, some .int, some .boolean, none, none, none, none, some .int, none, some .boolean, some .int, some .int, some .int, some .int, some .boolean, none, some .boolean, some .boolean, some .boolean, some .boolean, none, none, none, some .int, some .boolean, none, none, some .int, none, none, some .int, some .int, some .boolean, none, none, none, some .boolean, none, none, none, some .boolean, none, some .int, some .boolean, some .int, some .boolean, some .int, none, some .long, none, none, none, none, none, none, none, some .int, some .int, some .int, some .boolean, none, none, some .boolean, some .int, some .int, some .int, some .int, none, some .int, none, none, some .int, some .int, none, some .boolean, some .boolean, some .boolean, none, some .boolean, some .int, none, none, some .int, some .int, some .int, none, some .int, some .int, some .int, none, some .int, some .int, some .int, some .int, some .int, some .int, some .int, some .int, some .int, some .int, some .int, some .int, some .int, some .int, some .int, some .int, some .int, some .int, some .int, some .int, some .int, some .int, some .int, some .long, some .int, some .int, some .int, some .int, some .long, some .int, some .int, some .int, some .int, some .int, some .int, some .int, some .int, some .int, some .int, some .int, none, none, none, none, none, none, some .int, none, none, none, none, some .int, some .long, some .boolean, some .int, some .boolean, some .boolean, none, some .int, some .boolean, none, some .int, some .boolean, some .boolean, some .int, some .int, none, some .int, none, some .boolean, none, some .int, some .int, none, none, none, some .boolean, some .boolean, some .int, none, some .int, none, none, none, none, none, some .boolean, some .int, none, some .int, some .int, some .int, some .int, none, some .int, some .int, none, none, some .int, none, some .int, some .boolean, some .int, some .int, none, some .int, some .int, some .int, some .int, some .int, some .int, some .int, some .boolean, none, some .boolean, some .int, some .int, some .int, some .boolean, some .boolean, some .boolean, some .boolean, some .int, some .int, some .int, some .int, some .int, some .int, some .int, some .int, some .int, some .int, some .int, some .int, some .int, some .int, none, some .int, some .int, some .int, some .int, some .long, some .int, some .int, some .int, some .boolean, some .int, some .int, some .int, some .int, some .int, some .int, some .long, some .long, some .int, some .int, some .int, some .int, some .int, some .int, some .int, none, some .boolean, some .int, some .int, some .int, none, some .int, some .int, some .int, some .int, some .int, some .int, some .int, some .int, some .int, some .int, some .int, some .int, some .int, some .int, some .int, some .int, some .int, some .int, some .int, some .int, some .int, some .int, some .int, some .int, some .int, some .int, some .int, some .int, some .int, some .int, some .int, some .int, some .boolean] : List (Option FieldType)).getD k none
set_option maxRecDepth 100000 in
noncomputable def pg_na (k : Nat) : Nat := ([1, 2, 2, 3, 0, 1, 0, 0, 2, 2, 0, 5, 1, 1, 0, 2, 1, 0, 0, 0, 1, 0, 1, 2, 1, 1, 0, 0, 2, 1, 2, 2, 2, 2, 1, 7, 0, 1, 3, 0, 1, 2, 1, 2, 1, 2, 1, 1, 1, 1, 1, 0, 0, 1, 2, 2, 0, 1, 1, 2, 3, 1, 1, 2, 1, 3, 3, 3, 1, 1, 2, 1, 1, 0, 0, 3, 2, 3, 3, 1, 2, 3, 3, 1, 4, 0, 1, 0, 0, 1, 0, 0, 2, 3, 2, 1, 2, 1, 2, 1, 1, 3, 0, 2, 0, 0, 0, 3, 0, 0, 1, 2, 1, 2, 1, 3, 2, 0, 1, 0, 2, 3, 3, 2, 4, 2, 2, 4, 4, 1, 1, 3, 0, 4, 5, 1, 1, 2, 3, 4, 4, 0, 5, 1, 1, 1, 1, 1, 0, 0, 1, 2, 2, 2, 1, 7, 2, 1, 2, 2, 2, 1, 2, 1, 0, 3, 2, 0, 0, 1, 5, 2, 1, 2, 0, 0, 4, 6, 0, 0, 1, 1, 0, 1, 3, 1, 1, 2, 0, 0, 0, 3, 1, 1, 3, 1, 0, 3, 3, 0, 5, 0, 2, 0, 1, 1, 0, 1, 0, 2, 1, 0, 1, 1, 0, 3, 0, 0, 1, 1, 0, 1, 1, 2, 1, 0, 0, 2, 1, 0, 0, 1, 0, 3, 0, 3, 1, 1, 0, 0, 1, 2, 2, 1, 1, 1, 0, 1, 0, 1, 0, 7, 1, 2, 1, 0, 3, 0, 0, 1, 2, 2, 1, 1, 2, 2, 2, 1, 7, 2, 2, 1, 2, 1, 2, 2, 2, 1, 0, 2, 1, 1, 0, 3, 2, 2, 0, 1, 0, 0, 1, 0, 2, 1, 3, 5, 2, 2, 1, 2, 0, 0, 1, 3, 2, 4, 6, 4, 2, 0, 0, 1, 1, 3, 3, 3, 3, 3, 3, 4, 4, 4, 3, 9, 4, 3, 4, 4, 4, 3, 4, 3, 5, 4, 3, 7, 4, 3, 4, 6, 8, 1] : List Nat).getD k 0
set_option maxRecDepth 100000 in
noncomputable def pg_hh (k : Nat) : List (Nat × Nat × Nat × Nat) := ([[], [], [], [], [], [], [], [], [], [], [], [], [], [], [], [], [], [], [], [], [], [], [], [], [], [], [], [], [], [], [], [], [], [], [], [], [], [], [], [], [], [], [], [], [], [], [], [], [], [], [], [], [], [], [], [], [], [], [], [], [], [], [], [], [], [], [], [], [], [], [], [], [], [], [], [], [], [], [], [], [], [], [], [], [], [], [], [], [], [], [], [], [], [], [], [], [], [], [], [], [], [], [], [], [], [], [], [], [], [], [], [], [], [], [], [], [], [], [], [], [], [], [], [], [], [], [], [], [], [], [], [], [], [], [], [], [], [], [], [], [], [], [], [], [], [], [], [], [], [], [], [], [], [], [], [], [], [], [], [], [], [], [], [], [], [], [], [], [], [], [], [], [], [], [], [], [], [], [], [], [], [], [], [], [], [], [], [], [], [], [], [], [], [], [], [], [], [], [], [], [], [], [], [], [], [], [], [], [], [], [], [], [], [], [], [], [], [], [], [], [], [], [], [], [], [], [], [], [], [], [], [], [], [], [], [], [], [], [], [], [], [], [], [], [], [], [], [], [], [], [], [], [], [], [], [], [], [], [], [], [], [], [], [], [], [], [], [], [], [], [], [], [], [], [], [], [], [], [], [], [], [], [], [], [], [], [], [], [], [], [], [], [], [], [], [], [], [], [], [], [], [], [], [], [], [], [], [], [], [], [], [], [], [(0, 9, 12, 13)], [(0, 9, 12, 13)], [(0, 9, 12, 13)], [(0, 9, 12, 13)], [(0, 9, 12, 13)], [(0, 9, 12, 13)], [(0, 10, 13, 34), (0, 10, 17, 13)], [(0, 10, 13, 34), (0, 10, 17, 13)], [(0, 10, 13, 34), (0, 10, 17, 13)], [(0, 9, 12, 13)], [(0, 20, 23, 13)], [(0, 10, 13, 13)], [(0, 9, 12, 13)], [(0, 10, 13, 13)], [(0, 10, 13, 13)], [(0, 10, 13, 34), (0, 10, 17, 13)], [(0, 9, 12, 13)], [(0, 10, 13, 34)], [(0, 9, 12, 34)], [(0, 11, 14, 34), (0, 11, 18, 13)], [(0, 10, 13, 34), (0, 10, 17, 13)], [(0, 9, 12, 13)], [(0, 15, 18, 34), (0, 15, 22, 13)], [(0, 10, 13, 34)], [(0, 9, 12, 34)], [(0, 10, 13, 34), (0, 10, 17, 13)], [(0, 14, 17, 13)], [(0, 18, 21, 13)], []] : List (List (Nat × Nat × Nat × Nat))).getD k []
set_option maxRecDepth 100000 in
noncomputable def pg_hd (k g : Nat) : Option (Nat × Nat) := match (([[], [], [], [], [], [], [], [], [], [], [], [], [], [], [], [], [], [], [], [], [], [], [], [], [], [], [], [], [], [], [], [], [], [], [], [], [], [], [], [], [], [], [], [], [], [], [], [], [], [], [], [], [], [], [], [], [], [], [], [], [], [], [], [], [], [], [], [], [], [], [], [], [], [], [], [], [], [], [], [], [], [], [], [], [], [], [], [], [], [], [], [], [], [], [], [], [], [], [], [], [], [], [], [], [], [], [], [], [], [], [], [], [], [], [], [], [], [], [], [], [], [], [], [], [], [], [], [], [], [], [], [], [], [], [], [], [], [], [], [], [], [], [], [], [], [], [], [], [], [], [], [], [], [], [], [], [], [], [], [], [], [], [], [], [], [], [], [], [], [], [], [], [], [], [], [], [], [], [], [], [], [], [], [], [], [], [], [], [], [], [], [], [], [], [], [], [], [], [], [], [], [], [], [], [], [], [], [], [], [], [], [], [], [], [], [], [], [], [], [], [], [], [], [], [], [], [], [], [], [], [], [], [], [], [], [], [], [], [], [], [], [], [], [], [], [], [], [], [], [], [], [], [], [], [], [], [], [], [], [], [], [], [], [], [], [], [], [], [], [], [], [], [], [], [], [], [], [], [], [], [], [], [], [], [], [], [], [], [], [], [], [], [], [], [], [], [], [], [], [], [], [], [], [], [], [], [], [], [], [], [], [], [], [(9999, 0), (9, 3)], [(9999, 0), (9, 3)], [(9999, 0), (9, 3)], [(9999, 0), (9, 3)], [(9999, 0), (9, 3)], [(9999, 0), (9, 3)], [(10, 4), (13, 4)], [(10, 4), (13, 4)], [(10, 4), (13, 4)], [(9999, 0), (9, 3)], [(9999, 0), (15, 9)], [(9999, 0), (10, 4)], [(9999, 0), (9, 3)], [(9999, 0), (10, 4)], [(9999, 0), (10, 4)], [(10, 4), (13, 4)], [(9999, 0), (9, 3)], [(10, 4), (9999, 0)], [(9, 3), (9999, 0)], [(10, 5), (13, 5)], [(10, 4), (13, 4)], [(9999, 0), (9, 3)], [(12, 7), (15, 7)], [(10, 4), (9999, 0)], [(9, 3), (9999, 0)], [(10, 4), (13, 4)], [(9999, 0), (12, 6)], [(9999, 0), (14, 8)], []] : List (List (Nat × Nat))).getD k []) with
  | [] => none
  | [a, b] => if g = 13 then some a else if g = 14 then some b else some (9999, 0)
  | _ => some (9999, 0)
set_option maxRecDepth 100000 in
noncomputable def pp_0 : List Nat := [0, 1, 2, 3, 4, 7, 8, 9, 10, 11, 14, 15, 16, 17, 18, 21, 22, 23, 24, 25, 26, 27, 28, 29, 32, 33, 34, 35, 36, 38, 39, 40, 41, 42, 43, 45, 46, 47, 48, 49, 51, 52, 53]
set_option maxRecDepth 100000 in
noncomputable def pp_1 : List Nat := [0, 1, 2, 3, 4, 6, 7, 9, 12, 13, 14, 15, 16, 19, 22, 23]
set_option maxRecDepth 100000 in
noncomputable def pp_2 : List Nat := [0, 1, 2, 3, 4, 5, 6, 7, 10, 11, 12, 13, 14, 17, 20, 21]
set_option maxRecDepth 100000 in
noncomputable def pp_3 : List Nat := [0, 1, 4, 5, 6, 9, 10, 11, 12, 15, 16, 17, 18]
set_option maxRecDepth 100000 in
noncomputable def pp_4 : List Nat := [0, 1, 4, 5, 6, 9, 10, 11]
set_option maxRecDepth 100000 in
noncomputable def pp_5 : List Nat := [0, 1, 4, 7, 8, 11, 12, 15, 16, 17, 20, 21, 24, 25]
set_option maxRecDepth 100000 in
noncomputable def pp_6 : List Nat := [0, 3, 6, 7, 10, 13, 14, 15]
set_option maxRecDepth 100000 in
noncomputable def pp_7 : List Nat := [0, 3, 6, 7, 10, 13, 14, 17, 18, 19]
set_option maxRecDepth 100000 in
noncomputable def pp_8 : List Nat := [0, 1, 2, 5, 8, 9, 10]
set_option maxRecDepth 100000 in
noncomputable def pp_9 : List Nat := [0, 1, 2, 3, 6, 7, 8, 9, 12, 13, 14, 15]
set_option maxRecDepth 100000 in
noncomputable def pp_10 : List Nat := [0, 1, 4, 5, 8, 10, 13, 14, 15, 18, 19, 20, 23, 24, 25, 28, 29, 30, 33, 34, 35, 38, 39, 40, 43, 44]
set_option maxRecDepth 100000 in
noncomputable def pp_11 : List Nat := [0, 1, 4, 6, 7, 10, 13, 14, 15, 16, 17, 20, 21, 22, 25, 26, 27, 30, 31, 33, 36, 37, 39, 42, 43, 46, 47]
set_option maxRecDepth 100000 in
noncomputable def pp_12 : List Nat := [0, 2, 3, 4, 7, 8, 11, 14, 15, 18, 19, 22, 23, 26, 27, 30, 31, 34, 35, 36, 37, 38, 39, 40, 41, 44, 45, 46, 49, 52, 55, 56]
set_option maxRecDepth 100000 in
noncomputable def pp_13 : List Nat := [0, 1, 2, 5, 6, 7, 10, 11, 12, 15, 16, 17, 20, 21, 22, 25, 26, 27, 30, 31]
set_option maxRecDepth 100000 in
noncomputable def pp_14 : List Nat := [0, 1, 4, 7, 8, 11, 12, 13]
set_option maxRecDepth 100000 in
noncomputable def pp_15 : List Nat := [0, 1, 4, 7, 8, 9, 12, 13, 14, 17, 18]
set_option maxRecDepth 100000 in
noncomputable def pp_16 : List Nat := [0, 1, 4, 5, 6, 9, 12, 13, 14, 17, 18, 21, 22, 25, 26, 27, 30, 31, 34, 35, 36]
set_option maxRecDepth 100000 in
noncomputable def pp_17 : List Nat := [0, 1, 4, 7, 8, 9, 10, 13, 14, 17, 18, 21, 22, 23, 26, 27, 28, 29, 32, 33, 36, 37, 38, 40, 43, 44, 45, 46, 47, 50, 53, 56, 57, 60, 61, 64, 65, 68, 69, 72, 73, 76, 77, 80, 81, 82]
set_option maxRecDepth 100000 in
noncomputable def pp_18 : List Nat := [0, 1, 2, 5, 6, 7, 10, 11]
set_option maxRecDepth 100000 in
noncomputable def pp_19 : List Nat := [0, 1, 4, 5, 8, 9, 12, 13, 14]
set_option maxRecDepth 100000 in
noncomputable def pp_20 : List Nat := [0, 1, 4, 5, 8, 9, 10, 13, 14, 15, 18, 21, 22, 23, 24, 27, 30, 31]
set_option maxRecDepth 100000 in
noncomputable def pp_21 : List Nat := [0, 1, 4, 5, 6, 7, 10, 13, 14, 15, 16, 19, 22, 23, 24, 27, 30, 33, 36, 37, 38, 41, 42, 43, 46, 49, 52, 53]
set_option maxRecDepth 100000 in
noncomputable def pp_22 : List Nat := [0, 1, 4, 7, 8, 11, 12, 15, 16, 17, 20, 23, 24, 25, 26, 27, 28, 29, 32, 35, 36, 39, 40, 41, 42, 43, 46, 47, 48, 51, 52, 55, 56, 59, 60, 61, 62, 63, 66, 69, 70, 71, 74, 77, 78, 79]
set_option maxRecDepth 100000 in
noncomputable def pp_23 : List Nat := [0, 1, 4, 7, 10, 11, 12, 13, 16, 19, 20, 21, 22, 23, 26, 29, 30, 31, 32, 34, 36, 39, 42, 43, 44, 47, 50, 53, 56, 57, 59, 60, 61, 62, 65, 68, 69, 71, 72, 75, 78, 79, 80, 81, 84, 85, 86, 89, 92, 95, 96, 97, 100, 101, 102, 105, 106, 107, 108, 111, 114, 115, 116, 117, 118]
set_option maxRecDepth 100000 in
noncomputable def pp_24 : List Nat := [0, 1, 3, 6, 7, 9, 12, 13, 16, 17, 18]
set_option maxRecDepth 100000 in
noncomputable def pp_25 : List Nat := [0, 1, 3, 6, 7, 9, 12, 13, 16, 17, 18]
set_option maxRecDepth 100000 in
noncomputable def pp_26 : List Nat := [0, 1, 4, 5, 8, 10, 13, 14, 17, 19, 22, 23, 26, 28, 31, 32, 34, 36, 39, 40, 41, 44, 45, 48, 49]
set_option maxRecDepth 100000 in
noncomputable def pp_27 : List Nat := [0, 1, 2, 5, 6, 7, 8, 11, 12, 13, 14, 17, 18, 19, 20, 23, 24]
set_option maxRecDepth 100000 in
noncomputable def pp_28 : List Nat := [0, 1, 4, 7, 8, 11, 12, 15, 16, 19, 20, 23, 24, 27, 28, 31, 32, 35, 36, 39, 40, 41, 42, 45, 46, 49, 50, 51, 52, 53, 56, 57, 58, 61, 62]
set_option maxRecDepth 100000 in
noncomputable def pp_29 : List Nat := [0, 1, 2, 5, 6, 7, 8, 11, 12, 15, 18, 19, 20, 21, 24, 27, 28, 31, 32]
set_option maxRecDepth 100000 in
noncomputable def pp_30 : List Nat := [0, 1, 2, 3, 6, 7, 8, 9, 12, 15, 16, 19, 21, 23, 25, 28, 30, 32, 35, 36, 37, 40, 41, 42, 43, 46, 47, 49, 51, 54, 55, 58, 59, 60, 63, 66, 69, 70]
set_option maxRecDepth 100000 in
noncomputable def pp_31 : List Nat := [0, 1, 2, 3, 6, 7, 8, 9, 12, 15, 16, 19, 21, 23, 25, 28, 30, 32, 35, 37, 39, 42, 43, 44, 47, 48, 49, 50, 53, 54, 56, 58, 61, 62, 65, 67, 69, 72, 73, 76, 78, 79, 82, 85, 88, 89]
set_option maxRecDepth 100000 in
noncomputable def pp_32 : List Nat := [0, 1, 4, 5, 6, 9, 12, 13, 14, 15, 16, 19, 22, 25, 28, 29, 31, 34, 35, 36, 37, 40, 43, 44, 46, 49, 50, 51, 52, 55, 58, 61, 62, 65, 66, 67, 68, 69, 70, 73, 74, 76, 79, 80]
set_option maxRecDepth 100000 in
noncomputable def pp_33 : List Nat := [0, 1, 4, 5, 8, 9, 10, 12, 15, 17, 18, 19, 22, 23, 24, 25, 28, 31, 33, 36, 37, 39, 42, 45, 46, 47, 48, 51, 54, 57, 58, 60, 63, 64, 65, 66, 69, 72, 75, 76, 78, 81, 82, 83, 84, 85, 86, 89, 90, 92, 95, 96, 97, 98, 99, 100, 103, 104, 106, 109, 110, 112, 115, 117, 120, 122, 123, 126, 127]
set_option maxRecDepth 100000 in
noncomputable def pp_34 : List Nat := [0, 1, 3, 6, 9, 10, 11, 12, 14, 17, 20, 21, 22, 23, 25, 28, 31, 32, 33, 34, 36, 39, 42, 43, 44, 45, 47, 50, 53, 54, 55, 56, 58, 61, 64, 65, 66, 67, 69, 72, 75, 77, 80, 81, 82]
set_option maxRecDepth 100000 in
noncomputable def pp_35 : List Nat := [0, 1, 4, 5, 6, 7, 8, 11, 12, 13, 14, 15, 18, 19, 20, 21, 22, 25, 26, 28, 29, 30, 33, 34, 36, 37, 38, 41, 42, 44, 45, 46, 49, 51, 53, 54, 55, 57, 58, 61, 64, 67, 68]
set_option maxRecDepth 100000 in
noncomputable def pp_36 : List Nat := [0, 1, 2, 3, 4, 5, 6, 9, 12, 13, 14, 17, 18, 21, 22, 23, 26, 27, 30, 31, 34, 35, 36, 39, 40, 43, 44, 45, 46, 49, 50, 51, 54, 55, 58, 59, 62, 63, 64, 67, 68, 69, 72, 73, 76, 77, 78, 81, 82, 83, 86, 87, 88, 91, 92, 95, 98, 99, 100, 103, 104, 105, 108, 109, 112, 115, 116, 119, 120, 121, 122, 123, 126, 127, 128, 129, 132, 133, 134, 135, 136, 137, 140, 141, 142, 145, 146, 149, 152, 153, 156, 157, 158, 159]
set_option maxRecDepth 100000 in
noncomputable def pp_37 : List Nat := [0, 1, 4, 5, 6, 9, 10, 13, 14, 17, 18, 19, 22, 23, 24]
set_option maxRecDepth 100000 in
noncomputable def pp_38 : List Nat := [0, 1, 40, 41, 42, 43, 44, 45, 46, 47, 48, 49, 50, 51, 52, 53, 56, 57, 60, 61, 62, 63, 64, 65, 68, 69, 72, 73, 74, 75, 76, 77, 78, 81, 82, 85, 86, 87, 88, 89, 92, 93, 96, 97, 98]
set_option maxRecDepth 100000 in
noncomputable def pp_39 : List Nat := [0, 1, 4, 5, 6, 9, 10, 11, 14, 15, 17, 20, 21, 23, 25, 28, 29, 31, 33, 36, 37, 38, 40, 43, 44]
set_option maxRecDepth 100000 in
noncomputable def pp_40 : List Nat := [0, 1, 4, 5, 6, 9, 10, 13, 14, 17, 18, 19, 22, 23, 24]
set_option maxRecDepth 100000 in
noncomputable def pp_41 : List Nat := [0, 1, 3, 4, 5, 6, 7, 8, 11, 12, 13, 16, 17, 20, 21, 24, 25, 26, 29, 30, 31]
set_option maxRecDepth 100000 in
noncomputable def pp_42 : List Nat := [0, 1, 4, 5, 6, 9, 10, 13, 14, 17, 18, 19, 22, 23, 24]
set_option maxRecDepth 100000 in
noncomputable def pp_43 : List Nat := [0, 1, 4, 7, 8, 9, 10, 11, 14, 15, 16, 17, 18, 19, 20, 21, 24, 25, 26, 27, 28, 29, 30, 33, 34, 35, 36, 37, 38]
set_option maxRecDepth 100000 in
noncomputable def pp_44 : List Nat := [0, 1, 2, 5, 6, 7, 10, 11, 13, 16, 17, 18, 19, 21, 24, 25, 28, 31, 32, 33, 34, 36, 39, 40, 43, 44, 47, 48, 50, 53, 56, 59, 60, 63, 64]
set_option maxRecDepth 100000 in
noncomputable def pp_45 : List Nat := [0, 1, 4, 5, 8, 9, 10, 13, 14, 15, 16, 19, 22, 25, 26, 29, 30, 31, 34, 37, 38, 39, 40, 43, 46, 49, 50, 51, 54, 55, 56, 57, 59, 62, 65, 68, 69, 70, 73, 74, 75, 78, 81, 82, 83, 86, 87, 88, 89, 90, 93, 94, 95, 98, 101, 104, 105, 106, 107, 110, 113, 116, 117]
set_option maxRecDepth 100000 in
noncomputable def pp_46 : List Nat := [0, 1, 3, 6, 9, 10, 11, 12, 14, 17, 20, 21, 22, 23, 25, 28, 31, 32, 33, 34, 36, 39, 42, 43, 46, 47, 48]
set_option maxRecDepth 100000 in
noncomputable def pp_47 : List Nat := [0, 1, 2, 5, 6, 9, 11, 14, 15, 16, 19, 20, 23, 24, 27, 28, 31, 32, 33]
set_option maxRecDepth 100000 in
noncomputable def pp_48 : List Nat := [0, 1, 4, 5, 8, 9, 12, 13, 14, 17, 18, 21, 22, 23, 24, 25, 26, 27, 30, 31, 34, 35, 37, 38, 39, 42, 43, 44, 47, 48, 51, 54, 55, 56, 59, 60, 61, 64, 65]
set_option maxRecDepth 100000 in
noncomputable def pp_49 : List Nat := [0, 1, 2, 3, 6, 7, 8, 9, 10, 13, 14, 15, 18, 19, 20, 21, 22, 25, 26, 27, 30, 32, 33, 35, 36, 37, 38, 40, 41, 44, 47, 49, 52, 54, 55, 58, 59, 62, 63, 66, 68, 70, 71, 72]
set_option maxRecDepth 100000 in
noncomputable def pp_50 : List Nat := [0, 1, 4, 5, 8, 9, 12, 13, 16, 17, 20, 21, 22, 23, 24, 27, 28, 29, 32, 33]
set_option maxRecDepth 100000 in
noncomputable def pp_51 : List Nat := [0, 1, 4, 5, 7, 9, 12, 13, 14, 17, 18]
set_option maxRecDepth 100000 in
noncomputable def pp_52 : List Nat := [0, 1, 2, 5, 6]
set_option maxRecDepth 100000 in
noncomputable def pp_53 : List Nat := [0, 1, 4, 5, 6, 9, 10, 13, 14, 17, 18, 19, 22, 23, 24]
set_option maxRecDepth 100000 in
noncomputable def pp_54 : List Nat := [0, 1, 2, 5, 6, 7, 8, 10, 13, 14, 17, 20, 21, 22, 23, 24, 27, 28, 31, 32, 34, 37, 40, 43, 44, 47, 48]
set_option maxRecDepth 100000 in
noncomputable def pp_55 : List Nat := [0, 1, 4, 5, 8, 9, 12, 13, 14, 15, 18, 21, 24, 25, 28, 29, 32, 33, 34, 35, 36, 39, 40, 41, 44, 45]
set_option maxRecDepth 100000 in
noncomputable def pp_56 : List Nat := [0, 1, 4, 5, 7, 10, 11, 12, 15, 16, 17, 20, 21, 22, 25, 26, 27, 30, 31, 32, 35, 36, 38, 40, 43, 44]
set_option maxRecDepth 100000 in
noncomputable def pp_57 : List Nat := [0, 1, 2, 5, 8, 9, 10, 13, 14, 15, 18, 19, 20, 23, 24, 25, 28, 29, 30, 33, 34, 35, 36, 37, 40, 41, 42, 43, 44, 45, 48, 51, 52, 53, 54, 55, 58, 59, 60, 61, 62, 65, 66, 67, 68, 69, 72, 75, 78, 79]
set_option maxRecDepth 100000 in
noncomputable def pp_58 : List Nat := [0, 1, 2, 5, 8, 9, 10, 13, 16, 17, 18, 21, 24, 25, 26, 29, 32, 33, 34, 37, 40, 41, 42, 45, 48, 49, 50, 51, 53, 56, 57, 60, 61, 62, 65, 66, 67, 68, 71, 74, 75]
set_option maxRecDepth 100000 in
noncomputable def pp_59 : List Nat := [0, 1, 2, 3, 4, 5, 6, 7, 10, 11, 12, 15, 16, 19, 20, 23, 24, 25, 28, 29, 30]
set_option maxRecDepth 100000 in
noncomputable def pp_60 : List Nat := [0, 1, 2, 3, 4, 5, 7, 9, 12, 14, 15, 18, 19, 22, 23, 26, 28, 29, 30, 31]
set_option maxRecDepth 100000 in
noncomputable def pp_61 : List Nat := [0, 1, 4, 5, 6, 7, 8, 11, 12, 15, 16, 17]
set_option maxRecDepth 100000 in
noncomputable def pp_62 : List Nat := [0, 1, 2, 3, 4, 5, 6, 9, 10, 11, 12, 13, 14, 17, 18, 19, 20, 23, 26, 27, 28]
set_option maxRecDepth 100000 in
noncomputable def pp_63 : List Nat := [0, 1, 2, 3, 5, 7, 8, 11, 12, 13, 14, 16, 17, 20, 21, 22, 23, 25, 26, 27, 28, 31, 34, 35, 36]
set_option maxRecDepth 100000 in
noncomputable def pp_64 : List Nat := [0, 1, 2, 3, 4, 5, 7, 9, 10, 13, 14, 15, 17, 18, 21, 22, 24, 25, 26, 28, 29, 30, 31, 32, 33, 35, 36, 38, 39, 42, 43, 46, 49, 50, 51]
set_option maxRecDepth 100000 in
noncomputable def pp_65 : List Nat := [0, 1, 4, 5, 8, 9, 12, 15, 16, 18, 19, 20, 21, 24, 26, 27, 30, 33, 34, 35, 38, 39, 42, 43, 46, 49, 50]
set_option maxRecDepth 100000 in
noncomputable def pp_66 : List Nat := [0, 1, 2, 3, 6, 7, 10, 12, 14, 15, 18, 21, 22, 23, 24, 25, 28, 30, 31, 34, 35, 36, 39, 40, 41, 44, 45, 46, 49, 50, 53, 54, 57, 58, 59, 62, 63, 66, 67, 68, 71, 72, 74, 76, 77, 80, 83, 84, 86, 87, 88, 91, 94, 97, 98, 99]
set_option maxRecDepth 100000 in
noncomputable def pp_67 : List Nat := [0, 1, 2, 3, 6, 8, 9, 11, 14, 17, 18, 19, 20, 21, 22, 23, 26, 27, 28, 31, 32, 33, 35, 36, 39, 41, 42, 43, 44, 46, 49, 50, 51, 52, 53, 55, 58, 61, 62, 63, 64, 65, 66, 67, 70, 71, 72, 75, 76]
set_option maxRecDepth 100000 in
noncomputable def pp_68 : List Nat := [0, 1, 2, 5, 6, 7, 8, 9, 12, 13, 14]
set_option maxRecDepth 100000 in
noncomputable def pp_69 : List Nat := [0, 1, 4, 7, 10, 11, 12, 13, 16, 17, 20, 21, 22, 25, 28, 29, 30]
set_option maxRecDepth 100000 in
noncomputable def pp_70 : List Nat := [0, 1, 2, 3, 6, 7, 10, 11, 12, 13, 14, 15, 16, 19, 20, 21]
set_option maxRecDepth 100000 in
noncomputable def pp_71 : List Nat := [0, 1, 4, 7, 10, 11, 12, 13, 14, 17, 18, 19]
set_option maxRecDepth 100000 in
noncomputable def pp_72 : List Nat := [0, 1, 2, 5, 6, 7, 10, 11, 12, 13, 16, 17, 20, 23, 24, 25, 28, 29, 30, 33, 34]
set_option maxRecDepth 100000 in
noncomputable def pp_73 : List Nat := [0, 1, 4, 5, 8, 10, 13, 14, 17, 19, 22, 23, 26, 28, 31, 32, 35, 37, 40, 41, 42, 45, 46, 47, 50, 51]
set_option maxRecDepth 100000 in
noncomputable def pp_74 : List Nat := [0, 1, 2, 5, 6]
set_option maxRecDepth 100000 in
noncomputable def pp_75 : List Nat := [0, 1, 4, 7, 8, 11, 14, 17, 18, 19, 20, 23, 24, 27, 28, 29, 30, 33, 34, 37, 38, 39, 40, 43, 44, 47, 48, 49, 50, 51, 54, 55, 56, 59, 60, 63, 64, 65, 66]
set_option maxRecDepth 100000 in
noncomputable def pp_76 : List Nat := [0, 1, 2, 5, 6, 7, 8, 9, 12, 13, 16, 17]
set_option maxRecDepth 100000 in
noncomputable def pp_77 : List Nat := [0, 1, 3, 5, 8, 11, 12, 15, 18, 19, 22, 24, 25, 28, 30, 31, 34, 37, 39, 41, 44, 45, 46, 47, 48, 49, 52, 53, 55, 58, 61, 64, 65]
set_option maxRecDepth 100000 in
noncomputable def pp_78 : List Nat := [0, 1, 4, 5, 8, 48, 49, 50, 51, 52, 53, 56, 57, 60, 61, 64, 65, 66, 67, 68, 69, 72, 73, 74, 77, 78, 81, 82, 85, 86, 87, 88, 89, 91, 94, 95, 98, 99, 102, 103, 104, 105, 108, 111, 112, 113, 114, 115, 118, 119, 122, 123, 124, 125, 126, 129, 132, 133, 134, 135, 138, 141, 142]
set_option maxRecDepth 100000 in
noncomputable def pp_79 : List Nat := [0, 1, 3, 6, 9, 10, 11, 12, 14, 17, 20, 21, 22, 23, 25, 28, 31, 32, 33, 34, 36, 39, 42, 43, 44, 45, 47, 50, 53, 54, 55, 56, 58, 61, 64, 66, 69, 70, 71]
set_option maxRecDepth 100000 in
noncomputable def pp_80 : List Nat := [0, 1, 2, 3, 6, 7, 8, 11, 12, 13, 14, 15, 16, 17, 18, 21, 22, 23, 26, 29, 30, 31]
set_option maxRecDepth 100000 in
noncomputable def pp_81 : List Nat := [0, 1, 3, 6, 7, 8, 9, 12, 15, 16, 17, 19, 20, 21, 23, 26, 27, 30, 32, 33, 35, 38, 39, 40, 41, 42, 43, 44, 47, 48, 50, 53, 54, 56, 58, 59, 62, 64, 66, 69, 71, 74, 77, 78, 81, 83, 85, 86, 87]
set_option maxRecDepth 100000 in
noncomputable def pp_82 : List Nat := [0, 1, 3, 4, 6, 7, 9, 10, 11, 14, 15, 17, 19, 22, 25, 27, 30, 32, 33, 36, 39, 40, 43, 45, 46, 48, 51, 52, 54, 57, 59, 62, 64, 67, 70, 72, 73, 76, 77, 80, 82, 83, 85, 88, 89, 92, 94, 95, 98, 100, 101, 102, 103, 106, 108, 109, 112, 114, 115, 116, 119, 120, 123, 125, 126, 127, 128, 130, 133, 134, 136, 137, 138, 139, 142, 145, 148, 151, 152, 153, 156, 157, 158, 161, 164, 167, 170, 172, 173]
set_option maxRecDepth 100000 in
noncomputable def pp_83 : List Nat := [0, 1, 4, 5, 6, 7, 8, 11, 12, 15, 18, 19, 20, 21, 22, 23, 26, 27, 28, 29, 30, 31, 32, 33, 36, 37, 38, 41, 42, 43, 44, 47, 48, 49, 50, 51]
set_option maxRecDepth 100000 in
noncomputable def pp_84 : List Nat := [0, 1, 4, 5, 6, 36, 37, 38, 41, 42, 43, 44, 46, 49, 50, 51, 52, 55, 56, 57, 60, 61, 62, 63, 66, 67, 68, 71, 72, 73, 74, 77, 78, 79, 80, 83, 84, 85, 88, 89, 90, 91, 94, 95]
set_option maxRecDepth 100000 in
noncomputable def pp_85 : List Nat := [0, 1, 4, 5, 8, 9, 12, 15, 16, 18, 21, 24, 25, 26, 29, 30, 31, 32, 33, 36, 37, 40, 41, 44, 45, 48, 49, 52, 53, 56, 59, 60]
set_option maxRecDepth 100000 in
noncomputable def pp_86 : List Nat := [0, 1, 4, 5, 8, 9, 10, 13, 14]
set_option maxRecDepth 100000 in
noncomputable def pp_87 : List Nat := [0, 1, 4, 7, 8, 11, 12, 15, 16, 19, 20, 23, 24, 27, 28, 29, 32, 35, 36, 37, 40, 41, 42, 45, 46]
set_option maxRecDepth 100000 in
noncomputable def pp_88 : List Nat := [0, 1, 4, 7, 8, 11, 12, 15, 16, 19, 20, 21, 22, 23, 26, 27, 28, 31, 32, 35, 36, 39, 40, 43, 44, 47, 48, 49]
set_option maxRecDepth 100000 in
noncomputable def pp_89 : List Nat := [0, 1, 4, 5, 8, 11, 12, 13, 16, 19, 20, 21, 22, 23, 26, 29, 30, 32, 35, 36, 39, 40, 41, 42, 45, 46, 47, 50, 53, 56, 57]
set_option maxRecDepth 100000 in
noncomputable def pp_90 : List Nat := [0, 1, 4, 5, 6, 9, 10, 11, 14, 15, 17, 19, 22, 23, 26, 28, 31, 32, 35, 37, 40, 41, 43, 45, 48, 49, 51, 53, 56, 57]
set_option maxRecDepth 100000 in
noncomputable def pp_91 : List Nat := [0, 1, 2, 5, 6]
set_option maxRecDepth 100000 in
noncomputable def pp_92 : List Nat := [0, 1, 2, 5, 8, 9, 10, 11, 12, 15, 16, 17, 20, 23, 24, 25, 26, 27, 30, 31, 33, 35, 37, 40, 42, 43, 46, 49, 50, 52, 53, 54, 55, 58, 59, 62, 63, 65, 66, 69, 70, 72, 73, 75, 76, 78, 81, 82, 84, 85, 88, 91, 93, 94, 97, 100, 101, 102, 105, 106, 107, 110, 111, 112, 115, 116, 117, 120, 123, 126, 127, 128]
set_option maxRecDepth 100000 in
noncomputable def pp_93 : List Nat := [0, 1, 3, 5, 7, 10, 11, 13, 14, 16, 18, 19, 22, 24, 26, 27, 28, 29, 32, 34, 35, 36, 37, 39, 40, 41, 44, 45, 46, 48, 51, 54, 55, 57, 58, 60, 61, 63, 65, 68, 70, 71, 72, 75, 76, 78, 80, 81, 84, 87, 88]
set_option maxRecDepth 100000 in
noncomputable def pp_94 : List Nat := [0, 1, 3, 4, 5, 6, 7, 8, 11, 12, 13, 16, 17, 20, 21, 24, 25, 26, 29, 30, 31]
set_option maxRecDepth 100000 in
noncomputable def pp_95 : List Nat := [0, 1, 4, 5, 6, 7, 8, 11, 12, 15, 16, 17]
set_option maxRecDepth 100000 in
noncomputable def pp_96 : List Nat := [0, 1, 3, 4, 5, 7, 8, 9, 10, 11, 13, 14, 15, 16, 17, 19, 20, 21, 23, 24, 27, 29, 32, 33, 34, 37, 38, 41, 43, 44, 47, 48, 51, 52, 53, 54, 57, 58, 59, 60, 63, 65, 66, 67, 68]
set_option maxRecDepth 100000 in
noncomputable def pp_97 : List Nat := [0, 1, 2, 3, 4, 7, 8, 9, 10, 13, 14, 17, 18, 19, 22, 25, 26, 27]
set_option maxRecDepth 100000 in
noncomputable def pp_98 : List Nat := [0, 1, 2, 3, 5, 7, 8, 11, 14, 15, 16, 17, 19, 22, 25, 26, 29, 32, 33, 34]
set_option maxRecDepth 100000 in
noncomputable def pp_99 : List Nat := [0, 1, 4, 5, 8, 9, 12, 13, 14, 17, 18]
set_option maxRecDepth 100000 in
noncomputable def pp_100 : List Nat := [0, 1, 4, 5, 6, 9, 10, 13, 14, 17, 18, 19, 22, 23, 24]
set_option maxRecDepth 100000 in
noncomputable def pp_101 : List Nat := [0, 1, 4, 5, 6, 7, 10, 11, 12, 13, 14, 15, 16, 17, 18]
set_option maxRecDepth 100000 in
noncomputable def pp_102 : List Nat := [0, 1, 4, 5, 8, 9, 10, 11, 12, 15, 18, 19, 20, 21, 22, 25, 26, 29, 30, 31, 32, 35, 36, 37, 40, 43, 46, 49, 52, 55, 56, 59, 60]
set_option maxRecDepth 100000 in
noncomputable def pp_103 : List Nat := [0, 1, 4, 5, 8, 9, 10, 11, 12, 15, 18, 19, 22, 23, 24, 25, 28, 29, 30, 31, 34, 35, 38, 39, 40, 41, 44, 45, 46, 49, 51, 52, 53, 54, 55, 58, 61, 64, 65, 68, 69]
set_option maxRecDepth 100000 in
noncomputable def pp_104 : List Nat := [0, 1, 4, 5, 6, 7, 10, 13, 14, 15, 18, 19]
set_option maxRecDepth 100000 in
noncomputable def pp_105 : List Nat := [0, 1, 4, 5, 8, 10, 13, 14, 17, 19, 22, 23, 26, 28, 31, 32, 35, 37, 40, 41, 42, 44, 47, 48, 49, 51, 54, 55, 56, 59, 60, 61, 64, 65, 66, 69, 70, 71, 74, 75]
set_option maxRecDepth 100000 in
noncomputable def pp_106 : List Nat := [0, 1, 2, 5, 6, 7, 10, 11, 12, 15, 16]
set_option maxRecDepth 100000 in
noncomputable def pp_107 : List Nat := [0, 1, 2, 5, 8, 9, 10, 13, 16, 17, 18, 19, 22, 23, 24, 27, 28, 29, 30, 31, 32, 35, 38, 39]
set_option maxRecDepth 100000 in
noncomputable def pp_108 : List Nat := [0, 1, 4, 7, 8, 11, 14, 17, 18, 21, 22, 25, 26, 29, 30, 31]
set_option maxRecDepth 100000 in
noncomputable def pp_109 : List Nat := [0, 1, 4, 7, 8, 11, 12, 13, 16, 19, 20, 21]
set_option maxRecDepth 100000 in
noncomputable def pp_110 : List Nat := [0, 1, 4, 5, 6, 9, 10, 11, 14, 15, 16, 17, 20, 21, 22, 23, 24, 26, 28, 29, 32, 33, 36, 37, 40, 43, 44, 47, 48, 49, 50, 53, 56, 57, 60, 61, 64, 67, 68, 71, 72, 73, 76, 77, 78]
set_option maxRecDepth 100000 in
noncomputable def pp_111 : List Nat := [0, 1, 4, 5, 8, 11, 12, 13, 16, 17, 20, 21, 22]
set_option maxRecDepth 100000 in
noncomputable def pp_112 : List Nat := [0, 1, 4, 5, 8, 9, 10, 13, 14, 15, 16, 19, 20]
set_option maxRecDepth 100000 in
noncomputable def pp_113 : List Nat := [0, 1, 4, 5, 8, 11, 12, 15, 18, 21, 22, 25, 26, 27, 28, 29, 32, 33, 36, 37, 38, 39, 40, 43, 44, 45, 48, 49]
set_option maxRecDepth 100000 in
noncomputable def pp_114 : List Nat := [0, 1, 4, 5, 8, 11, 12, 15, 16, 17, 18, 21, 22, 25, 26, 27]
set_option maxRecDepth 100000 in
noncomputable def pp_115 : List Nat := [0, 1, 2, 5, 6, 7, 10, 13, 14, 15, 16, 18, 20, 21, 24, 27, 29, 32, 35, 36, 39, 41, 42, 44, 45, 47, 49, 50, 53, 54, 56, 58, 61, 63, 64, 66, 69, 72, 75, 76, 79, 81, 83, 84, 85, 88, 90, 92, 93, 94, 96, 97, 100, 102, 103, 104, 105, 108, 110, 111, 114, 117, 119, 120, 123, 126, 129, 132, 133, 134]
set_option maxRecDepth 100000 in
noncomputable def pp_116 : List Nat := [0, 1, 4, 5, 6, 9, 10, 13, 14, 17, 18, 21, 24, 25, 26, 27, 28, 29, 32, 35, 36, 39, 41, 43, 46, 48, 49, 52, 53, 54, 55, 57, 60, 62, 63, 64, 67, 68, 71, 73, 74, 75, 77, 80, 82, 83, 86, 88, 89, 90, 91, 92, 93, 94, 96, 99, 102, 103, 105, 107, 110, 112, 115, 118, 120, 121, 124, 127, 128, 129]
set_option maxRecDepth 100000 in
noncomputable def pp_117 : List Nat := [0, 1, 2, 4, 5, 6, 7, 8, 9, 12, 13, 14, 17, 19, 21, 22, 25, 26, 27, 29, 30, 33, 36, 37, 38]
set_option maxRecDepth 100000 in
noncomputable def pp_118 : List Nat := [0, 1, 4, 5, 6, 7, 8, 11, 12, 13, 16, 19, 20, 23, 26, 28, 29, 30, 33, 34, 37, 38, 39, 40, 41, 44, 45, 46, 47, 48]
set_option maxRecDepth 100000 in
noncomputable def pp_119 : List Nat := [0, 1, 4, 5, 7, 9, 12, 13]
set_option maxRecDepth 100000 in
noncomputable def pp_120 : List Nat := [0, 1, 3, 4, 5, 6, 7, 8, 11, 12, 13, 16, 17, 20, 21, 24, 25, 26, 29, 30, 31]
set_option maxRecDepth 100000 in
noncomputable def pp_121 : List Nat := [0, 1, 2, 3, 4, 7, 8, 9, 10, 11, 14, 15]
set_option maxRecDepth 100000 in
noncomputable def pp_122 : List Nat := [0, 1, 3, 4, 5, 6, 8, 10, 13, 15, 16, 19, 20, 23, 24, 27, 29, 30, 31, 32]
set_option maxRecDepth 100000 in
noncomputable def pp_123 : List Nat := [0, 1, 2, 3, 5, 7, 8, 11, 12, 13, 15, 18, 19, 22, 23, 24, 26, 27, 28, 29, 32, 35, 36, 37]
set_option maxRecDepth 100000 in
noncomputable def pp_124 : List Nat := [0, 1, 2, 3, 5, 8, 9, 10, 12, 15, 18, 19]
set_option maxRecDepth 100000 in
noncomputable def pp_125 : List Nat := [0, 1, 2, 3, 4, 7, 10, 11, 13, 15, 16, 19, 20, 21, 24, 25, 27, 30, 33, 34, 37, 38, 40, 41, 42, 44, 46, 49, 50, 53, 54, 57, 60, 63, 66, 69, 70, 71, 72, 74, 76, 78, 81, 82, 85, 86, 87, 89, 92, 93, 96, 99, 100]
set_option maxRecDepth 100000 in
noncomputable def pp_126 : List Nat := [0, 1, 2, 3, 5, 7, 8, 11, 14, 15, 17, 19, 21, 24, 25, 27, 29, 32, 33, 36, 37, 38, 40, 42, 43, 44, 45, 48, 51, 52, 54, 56, 57, 60, 61, 62, 65, 68, 71, 74, 75, 76]
set_option maxRecDepth 100000 in
noncomputable def pp_127 : List Nat := [0, 1, 3, 5, 6, 9, 10, 11, 12, 13, 15, 18, 20, 23, 24, 25, 28, 31, 32, 33]
set_option maxRecDepth 100000 in
noncomputable def pp_128 : List Nat := [0, 1, 3, 5, 6, 9, 10, 11, 12, 13, 15, 18, 20, 23, 24, 25, 28, 31, 32, 33]
set_option maxRecDepth 100000 in
noncomputable def pp_129 : List Nat := [0, 1, 2, 3, 4, 7, 10, 11, 12, 13, 14, 17, 18, 19, 20, 21, 22, 25, 26, 29, 30, 33, 36, 39, 42, 45, 46, 47, 48, 49, 50, 52, 55, 56, 59, 60, 61, 64, 65, 68, 71, 72]
set_option maxRecDepth 100000 in
noncomputable def pp_130 : List Nat := [0, 1, 2, 3, 4, 5, 6, 9, 12, 13, 15, 17, 18, 21, 22, 23, 25, 28, 31, 32, 33, 34, 36, 39, 41, 42, 43, 45, 47, 50, 51, 54, 56, 59, 60, 63, 64, 65, 68, 71, 74, 77, 78, 79]
set_option maxRecDepth 100000 in
noncomputable def pp_131 : List Nat := [0, 1, 2, 3, 4, 5, 8, 11, 12, 13, 14, 15, 16, 17, 18, 21, 24, 25, 28, 29, 30]
set_option maxRecDepth 100000 in
noncomputable def pp_132 : List Nat := [0, 1, 4, 5, 7, 9, 12, 13, 15, 17, 20, 21, 23, 25, 28, 29, 30, 33, 34, 35, 38, 39]
set_option maxRecDepth 100000 in
noncomputable def pp_133 : List Nat := [0, 1, 3, 5, 6, 9, 12, 14, 15, 18, 19, 22, 23, 26, 28, 30, 31, 32, 33, 35, 38, 39, 42, 45, 46]
set_option maxRecDepth 100000 in
noncomputable def pp_134 : List Nat := [0, 1, 3, 4, 7, 9, 12, 15, 17, 18, 20, 22, 24, 27, 28, 30, 33, 36, 37, 38, 39, 41, 42, 44, 47, 50, 52, 53, 55, 58, 60, 62, 65, 68, 69, 70, 73, 76, 78, 79]
set_option maxRecDepth 100000 in
noncomputable def pp_135 : List Nat := [0, 1, 2, 3, 4, 5, 6, 9, 10, 11, 14, 15, 18, 19, 22, 23, 24, 25, 28, 29, 30, 31, 32, 33, 34, 37, 40, 41, 42]
set_option maxRecDepth 100000 in
noncomputable def pp_136 : List Nat := [0, 1, 2, 3, 4, 5, 6, 9, 10, 11, 14, 15, 18, 19, 22, 23, 24, 25, 28, 29, 30, 31, 34, 35, 36, 37, 38, 39, 42, 45, 46, 47]
set_option maxRecDepth 100000 in
noncomputable def pp_137 : List Nat := [0, 1, 2, 5, 6, 8, 11, 12, 13, 14, 15, 18, 19, 20, 21, 22, 25, 27, 29, 30, 33, 36, 37, 39, 42, 43, 44, 47, 50, 53, 54]
set_option maxRecDepth 100000 in
noncomputable def pp_138 : List Nat := [0, 1, 4, 5, 8, 9, 11, 12, 14, 16, 17, 20, 23, 25, 26, 29, 30, 33, 34, 37, 39, 40, 41, 44, 45, 46, 47, 50, 52, 53, 54, 57, 59, 60, 63, 65, 66, 67, 68, 69, 70, 72, 73, 76, 78, 79, 82, 84, 87, 90, 92, 93]
set_option maxRecDepth 100000 in
noncomputable def pp_139 : List Nat := [0, 1, 2, 5, 8, 10, 11, 12, 13, 14, 15, 18, 21, 23, 25, 28, 30, 32, 35, 37, 40, 42, 43]
set_option maxRecDepth 100000 in
noncomputable def pp_140 : List Nat := [0, 1, 4, 5, 8, 9, 11, 12, 14, 16, 18, 21, 23, 26, 28, 29, 32, 33, 36, 37, 40, 42, 43, 44, 47, 49, 52, 54, 57, 59, 60, 63, 65, 66, 67, 68, 69, 72, 74, 76, 77, 78, 80, 81, 84, 86, 89, 92, 93, 94]
set_option maxRecDepth 100000 in
noncomputable def pp_141 : List Nat := [0, 1, 4, 5, 8, 9, 12, 15, 16, 19, 20, 23, 26, 27, 30, 31, 34, 37, 38, 41, 42, 45, 48, 49, 52, 53, 56, 59, 60, 63, 64, 67, 70, 71, 74, 75, 78, 81, 82, 85, 86, 89, 92, 93, 96, 97, 100, 103, 104, 107, 108, 111, 114, 115, 116, 119, 122, 123, 124, 127, 128, 131, 132, 135, 138, 139, 142, 143, 146, 149, 150, 153, 154, 157, 160, 161, 164, 165, 168, 171, 172, 175, 176, 179, 182, 183, 184, 187, 188, 189, 192, 193, 194, 197, 198, 199, 200, 201, 204, 205, 208, 209, 212, 213, 216, 217, 220, 221, 224, 227, 228, 231, 232, 235, 238, 239]
set_option maxRecDepth 100000 in
noncomputable def pp_142 : List Nat := [0, 1, 4, 5, 6, 7, 9, 11, 14, 15]
set_option maxRecDepth 100000 in
noncomputable def pp_143 : List Nat := [0, 1, 2, 5, 8, 9, 12, 13, 16, 19, 22, 23, 26, 27, 28, 31, 32, 33, 34, 37, 40, 41, 42, 45, 46, 49, 52, 53, 56, 59, 60, 63, 66, 67, 68, 71, 72, 75, 76, 79, 82, 83, 86, 89, 90, 93, 96, 97, 100, 103, 104]
set_option maxRecDepth 100000 in
noncomputable def pp_144 : List Nat := [0, 1, 2, 5, 8, 9, 12, 13, 16, 19, 22, 23, 26, 27, 28, 31, 32, 33, 34, 37, 40, 41, 42, 45, 46, 47]
set_option maxRecDepth 100000 in
noncomputable def pp_145 : List Nat := [0, 1, 2, 5, 8, 9, 12, 15, 17, 20, 22, 23, 24, 27, 28, 31, 32, 35, 38, 41, 42, 45, 46, 47, 50, 53, 54, 57, 58, 61, 64, 65, 68, 69, 72, 75, 76]
set_option maxRecDepth 100000 in
noncomputable def pp_146 : List Nat := [0, 1, 2, 4, 7, 8, 11, 12, 15, 16, 19, 22, 23, 26, 27, 28, 31, 32, 33, 34, 37, 40, 41, 42, 45, 46, 49, 50]
set_option maxRecDepth 100000 in
noncomputable def pp_147 : List Nat := [0, 1, 2, 4, 7, 8, 11, 12, 15, 17, 20, 23, 24, 27, 28, 29, 32, 33, 34, 35, 38, 41, 42, 43, 46, 47, 50, 51]
set_option maxRecDepth 100000 in
noncomputable def pp_148 : List Nat := [0, 1, 4, 7, 8]
set_option maxRecDepth 100000 in
noncomputable def pp_149 : List Nat := [0, 1, 4, 7, 10, 11, 12, 13, 16, 19, 20, 23, 26, 27]
set_option maxRecDepth 100000 in
noncomputable def pp_150 : List Nat := [0, 1, 2, 3, 5, 8, 9, 12, 15, 16, 17, 76, 77, 80, 83, 84, 85, 88, 91, 92, 93, 96, 97, 98, 101, 102, 103, 106, 107, 108, 111, 112, 113, 116, 117, 118, 119, 122, 125, 128, 129, 130, 133, 136, 137, 138, 141, 144, 145, 146, 149, 152, 153, 154, 155, 158, 161, 164, 165]
set_option maxRecDepth 100000 in
noncomputable def pp_151 : List Nat := [0, 1, 2, 5, 6, 7, 8, 9, 12, 13, 16, 19, 20, 21, 24, 25, 28, 29, 32, 33, 34, 35, 38, 39, 42, 43, 44, 45, 46, 49, 50, 51, 52, 53, 54, 57, 60, 63, 64]
set_option maxRecDepth 100000 in
noncomputable def pp_152 : List Nat := [0, 1, 2, 5, 6, 7, 10, 11, 14, 15, 16, 19, 20]
set_option maxRecDepth 100000 in
noncomputable def pp_153 : List Nat := [0, 1, 4, 5, 6, 9, 12, 15, 16, 19, 20, 21, 22, 23, 26, 27, 30, 33, 34, 35, 38, 39]
set_option maxRecDepth 100000 in
noncomputable def pp_154 : List Nat := [0, 1, 2, 5, 6, 9, 12, 13, 14, 17, 20, 21, 24, 27, 28]
set_option maxRecDepth 100000 in
noncomputable def pp_155 : List Nat := [0, 1, 2, 5, 6, 7, 8, 11, 14, 15, 16, 17, 20, 23, 24, 26, 27, 29, 32, 33, 35, 36, 37, 40, 41, 43, 44, 47, 50, 51, 53, 54, 57, 60, 61, 64, 65, 66, 67, 69, 71, 73, 75, 78, 79]
set_option maxRecDepth 100000 in
noncomputable def pp_156 : List Nat := [0, 1, 2, 3, 5, 8, 9, 10, 11, 12, 15, 16, 19, 20, 23, 26, 29, 30, 33, 34, 35, 38, 39, 42, 43, 46, 49, 50, 51, 54, 57, 60, 61]
set_option maxRecDepth 100000 in
noncomputable def pp_157 : List Nat := [0, 1, 2, 5, 6, 9, 10, 11, 12, 13, 14, 15, 18, 21, 24, 25, 28, 29, 30, 33, 34, 37, 40, 41, 44, 47, 48, 49]
set_option maxRecDepth 100000 in
noncomputable def pp_158 : List Nat := [0, 1, 2, 5, 6, 7, 8, 9, 12, 13, 16, 17, 20, 21, 24, 25, 26, 27, 30, 31, 34, 35, 38, 39, 40, 43, 44, 47, 48, 51, 54, 57, 58, 61, 64, 65]
set_option maxRecDepth 100000 in
noncomputable def pp_159 : List Nat := [0, 1, 2, 5, 6, 7, 8, 11, 14, 15, 18, 19, 20, 21, 24, 25, 28, 29, 32, 33, 34, 37, 38, 41, 42, 45, 46]
set_option maxRecDepth 100000 in
noncomputable def pp_160 : List Nat := [0, 1, 2, 5, 6, 7, 10, 11, 14, 15, 16, 17, 20, 21, 24, 25, 28, 29, 30, 31, 32, 35, 36, 39, 42, 43]
set_option maxRecDepth 100000 in
noncomputable def pp_161 : List Nat := [0, 1, 2, 5, 6, 9, 10, 11, 12, 15, 16, 17, 18, 19, 22, 23, 26, 29, 30, 31, 34, 37, 38, 39, 42, 45, 46, 49, 52, 53, 56, 59, 60, 63, 64, 67, 68, 71, 72]
set_option maxRecDepth 100000 in
noncomputable def pp_162 : List Nat := [0, 1, 2, 5, 6, 7, 10, 11, 14, 15, 18, 19, 22, 23, 26, 29, 30, 33, 34, 35, 38, 39]
set_option maxRecDepth 100000 in
noncomputable def pp_163 : List Nat := [0, 1, 2, 5, 6, 9, 10, 13, 14, 17, 18, 21, 24, 25, 28, 29, 30, 33, 36, 39, 40]
set_option maxRecDepth 100000 in
noncomputable def pp_164 : List Nat := [0, 1, 4, 5, 8, 9, 12, 13, 16, 19, 20, 21, 22, 23, 24, 25, 28, 31, 34, 35, 36, 37, 38, 39, 40, 41, 44, 45, 46, 49, 52, 55, 56, 57, 60, 63, 66, 69, 70, 71]
set_option maxRecDepth 100000 in
noncomputable def pp_165 : List Nat := [0, 1, 2, 5, 6, 7, 10, 11, 12, 13, 15, 18, 19, 22, 23, 26, 27, 30, 31, 33, 35, 36, 39, 40, 43, 46, 49, 52, 53, 56, 57, 60, 61]
set_option maxRecDepth 100000 in
noncomputable def pp_166 : List Nat := [0, 1, 2, 5, 6, 7, 8, 9, 12, 13, 16, 17, 20, 21, 24, 25, 28, 29, 30, 33, 34, 37, 38, 41, 42]
set_option maxRecDepth 100000 in
noncomputable def pp_167 : List Nat := [0, 1, 4, 5, 8, 9, 12, 15, 18, 19]
set_option maxRecDepth 100000 in
noncomputable def pp_168 : List Nat := [0, 1, 4, 5, 8, 9, 12, 15, 18, 19]
set_option maxRecDepth 100000 in
noncomputable def pp_169 : List Nat := [0, 1, 2, 3, 4, 7, 8, 11, 12, 15, 16, 19, 22, 25, 28, 29, 30, 31, 34, 35, 38, 39, 42, 45, 46, 49, 50, 53, 56, 59, 60, 63, 66, 67]
set_option maxRecDepth 100000 in
noncomputable def pp_170 : List Nat := [0, 1, 2, 5, 6, 7, 10, 11, 12, 13, 15, 18, 19, 21, 22, 24, 27, 28, 30, 31, 32, 35, 36, 39, 40, 43, 44, 47, 48, 49, 52, 55, 58, 60, 61, 63, 65, 67, 70, 71, 74, 75, 78, 80, 83, 85, 88, 91, 94, 95, 98, 99, 102, 103, 105, 106, 108, 111, 112, 115, 116, 119, 120]
set_option maxRecDepth 100000 in
noncomputable def pp_171 : List Nat := [0, 1, 2, 5, 6, 7, 10, 11, 14, 15, 18, 19, 22, 25, 26, 29, 30, 31, 34, 35]
set_option maxRecDepth 100000 in
noncomputable def pp_172 : List Nat := [0, 1, 2, 5, 6, 9, 10, 11, 12, 13, 14, 15, 16, 18, 21, 22, 24, 25, 27, 29, 30, 33, 35, 36, 39, 40, 42, 45, 46, 48, 51, 54, 56, 57, 60, 63, 64, 65]
set_option maxRecDepth 100000 in
noncomputable def pp_173 : List Nat := [0, 1, 2, 5, 6, 7, 10, 11, 14, 15, 16, 17, 19, 21, 22, 25, 28, 31, 32, 35, 37, 38, 41, 42, 45, 46, 47, 49, 50, 51, 52, 55, 58, 59, 60]
set_option maxRecDepth 100000 in
noncomputable def pp_174 : List Nat := [0, 1, 4, 5, 6, 7, 8, 9, 10, 13, 16, 19, 20, 23, 24, 27, 30, 31, 32, 33, 34, 35, 36, 39, 42, 43, 44]
set_option maxRecDepth 100000 in
noncomputable def pp_175 : List Nat := [0, 1, 2, 3, 4, 5, 6, 9, 10, 13, 16, 17, 18, 21, 24, 25, 28, 31, 32, 35, 38, 41, 44, 47, 50, 53, 54, 55]
set_option maxRecDepth 100000 in
noncomputable def pp_176 : List Nat := [0, 1, 2, 3, 5, 8, 9, 10, 11, 13, 16, 17, 19, 20, 21, 24, 25, 26, 27, 28, 31, 33, 60, 61, 64, 65, 68, 71, 74, 75, 76, 79, 82, 83, 84, 87, 90, 91, 94, 97, 100, 101, 102, 103, 106, 109, 110]
set_option maxRecDepth 100000 in
noncomputable def pp_177 : List Nat := [0, 1, 2, 3, 5, 8, 9, 10, 11, 13, 16, 17, 19, 20, 22, 25, 26, 28, 29, 30, 33, 34, 36, 37, 38, 41, 44, 45, 46, 49, 52, 54, 55, 57, 58, 60, 61, 63, 65, 66, 69, 70, 71, 73, 74, 75, 77, 80, 81, 84, 87, 88, 91, 94, 97, 98, 100, 102, 104, 107, 109, 111, 113, 116, 118, 120, 121, 124, 125, 128, 131, 134, 136, 137, 138, 139, 140, 142, 145, 148, 150, 153, 155, 156, 158, 159, 162, 164, 167, 169, 170]
set_option maxRecDepth 100000 in
noncomputable def pp_178 : List Nat := [0, 1, 4, 5, 8, 9, 10, 11, 14, 15, 18, 19, 20, 23, 26, 27, 28, 31, 32, 33, 36, 37, 40, 41]
set_option maxRecDepth 100000 in
noncomputable def pp_179 : List Nat := [0, 1, 4, 7, 8, 9, 10, 11, 14, 15, 16, 19, 20, 23, 24, 27, 28, 31, 32, 35, 36, 39, 42, 43, 46, 47]
set_option maxRecDepth 100000 in
noncomputable def pp_180 : List Nat := [0, 1, 4, 5, 8, 9, 10, 11, 14, 15, 18, 21, 22, 23]
set_option maxRecDepth 100000 in
noncomputable def pp_181 : List Nat := [0, 1, 28, 29, 32, 33, 34, 37, 40, 41, 42, 45, 48, 49, 50, 51]
set_option maxRecDepth 100000 in
noncomputable def pp_182 : List Nat := [0, 1, 2, 5, 6, 7, 10, 21]
set_option maxRecDepth 100000 in
noncomputable def pp_183 : List Nat := [0, 1, 4, 5, 6, 9, 12, 15, 16, 19, 20]
set_option maxRecDepth 100000 in
noncomputable def pp_184 : List Nat := [0, 1, 2, 5, 6, 7, 10, 11, 12, 15, 16, 17, 20, 31, 32]
set_option maxRecDepth 100000 in
noncomputable def pp_185 : List Nat := [0, 1, 2, 3, 4, 7, 8]
set_option maxRecDepth 100000 in
noncomputable def pp_186 : List Nat := [0, 1, 2, 3, 4, 5, 8, 11, 12, 13, 14, 17, 18]
set_option maxRecDepth 100000 in
noncomputable def pp_187 : List Nat := [0, 1, 2, 3, 4, 5, 8, 11, 14, 17, 18, 21, 22, 25, 26]
set_option maxRecDepth 100000 in
noncomputable def pp_188 : List Nat := [0, 1, 4, 7, 9, 10, 11]
set_option maxRecDepth 100000 in
noncomputable def pp_189 : List Nat := [0, 1, 4, 5, 8, 9, 12, 15, 18, 21, 24, 25, 28, 31, 32]
set_option maxRecDepth 100000 in
noncomputable def pp_190 : List Nat := [0, 1, 4, 5, 8, 9, 12, 13, 16, 17, 20, 21, 24, 27, 28]
set_option maxRecDepth 100000 in
noncomputable def pp_191 : List Nat := [0, 1, 4, 5, 8, 11, 14, 15, 16, 19, 20, 22, 24, 25, 28, 29, 32, 35, 38, 39, 40, 43, 44, 45, 48, 49, 52, 53, 56, 59, 62, 65, 66]
set_option maxRecDepth 100000 in
noncomputable def pp_192 : List Nat := [0, 1, 4, 5, 6, 9, 10, 13, 14, 17, 20, 21, 22, 24, 27, 28, 31, 32, 35, 36, 37, 40, 43, 46, 49, 50, 51]
set_option maxRecDepth 100000 in
noncomputable def pp_193 : List Nat := [0, 1, 2, 5, 8, 9, 12, 13, 16, 17, 20, 21, 24, 26, 27, 30, 31, 32, 33, 36, 37, 38]
set_option maxRecDepth 100000 in
noncomputable def pp_194 : List Nat := [0, 1, 3, 4, 5, 6, 8, 9, 11, 13, 14, 17, 19, 20, 21, 22, 23, 26, 28, 29, 30, 32, 34, 35, 36, 38, 41, 44, 45, 48, 50, 53, 55, 56]
set_option maxRecDepth 100000 in
noncomputable def pp_195 : List Nat := [0, 1, 4, 5, 6, 7, 8, 9, 12, 13, 16, 17, 18]
set_option maxRecDepth 100000 in
noncomputable def pp_196 : List Nat := [0, 1, 4, 5]
set_option maxRecDepth 100000 in
noncomputable def pp_197 : List Nat := [0, 1, 4, 5, 8, 11, 12, 13, 16, 17, 20, 21, 22, 23, 24, 25, 26, 27, 30, 33, 34, 37, 38, 39]
set_option maxRecDepth 100000 in
noncomputable def pp_198 : List Nat := [0, 1, 2, 5, 6, 7, 10, 11, 14, 15, 16]
set_option maxRecDepth 100000 in
noncomputable def pp_199 : List Nat := [0, 1, 4, 5, 6, 8, 11, 12, 13, 16, 17, 20, 22, 25, 26, 28, 30, 33, 34, 36, 38, 41, 42, 43, 45, 48, 49, 51, 53, 56, 57, 59, 61, 64, 65, 66, 68, 71, 72, 75, 77, 80, 81, 84, 86, 89, 90, 93, 95, 98, 99, 102, 104, 107, 108, 111, 113, 116, 117, 119, 121, 124, 125, 128, 130, 133, 134, 137, 139, 142, 143, 145, 147, 150, 151, 153, 155, 158, 159, 161, 163, 166, 167, 169, 171, 174, 175, 177, 179, 182, 183, 186, 188, 191, 192, 195, 197, 200, 201, 204, 206, 209, 210, 213, 215, 218, 219, 222, 224, 227, 228, 230, 232, 235, 236, 238, 240, 243, 244, 246, 248, 251, 252, 254, 256, 259, 260, 262, 264, 267, 268, 270, 272, 275, 276, 279, 281, 284, 285, 288, 289, 292, 293]
set_option maxRecDepth 100000 in
noncomputable def pp_200 : List Nat := [0, 1, 2, 5, 6, 9, 11, 12, 15, 18, 19, 20, 21, 23, 25, 27, 30, 32, 33, 36, 37, 40, 42, 44, 47, 48, 51, 53, 55, 58, 59, 62, 64, 66, 69, 71, 74, 76, 78, 79, 82, 83, 86, 88, 90, 92, 94, 95, 96, 97, 98, 99, 102, 103, 104, 105, 106, 109, 110, 111, 114, 117, 120, 121, 124, 125]
set_option maxRecDepth 100000 in
noncomputable def pp_201 : List Nat := [0, 1, 4, 5, 8, 9, 12, 13, 14]
set_option maxRecDepth 100000 in
noncomputable def pp_202 : List Nat := [0, 1, 4, 5, 8, 9, 10, 11, 14, 15, 16, 19, 20]
set_option maxRecDepth 100000 in
noncomputable def pp_203 : List Nat := [0, 1, 4, 5, 8, 11, 12, 15, 16, 19, 20, 22, 25, 26, 27, 30, 31, 32, 35, 38, 39, 42, 43, 46, 49, 50, 53, 54, 57, 58, 61, 62, 63]
set_option maxRecDepth 100000 in
noncomputable def pp_204 : List Nat := [0, 1, 3, 6, 7, 9, 12, 13, 16, 17, 18]
set_option maxRecDepth 100000 in
noncomputable def pp_205 : List Nat := [0, 1, 3, 6, 7, 9, 12, 13, 16, 17, 18]
set_option maxRecDepth 100000 in
noncomputable def pp_206 : List Nat := [0, 1, 4, 5, 6, 7, 8, 9, 10, 13, 14, 15, 16, 19, 22, 23, 26, 27, 28, 31, 34, 35, 37, 40, 41, 42, 43, 44, 47, 48, 49, 51, 52, 53, 56, 57, 58, 61, 64, 67, 68, 70, 73, 74, 77, 78, 79]
set_option maxRecDepth 100000 in
noncomputable def pp_207 : List Nat := [0, 1, 2, 3, 4, 5, 6, 9, 12, 13, 14, 15, 16, 17, 20, 22, 23, 24, 25, 28, 31, 32, 33]
set_option maxRecDepth 100000 in
noncomputable def pp_208 : List Nat := [0, 1, 4, 5, 8, 11, 12, 15, 16, 19, 20, 23, 26, 27, 28, 31, 32, 33, 36, 39, 40]
set_option maxRecDepth 100000 in
noncomputable def pp_209 : List Nat := [0, 1, 4, 7, 8, 9, 10, 13, 14, 15, 18, 20, 21, 23, 24, 27, 30, 31, 32, 33, 36, 39, 40, 41, 42, 45, 46, 49, 52, 53, 56, 57, 60, 61, 64, 67, 69, 72, 75, 78, 81, 83, 85, 86, 87, 90, 91, 94, 95, 96, 98, 99, 101, 102, 103, 106, 107, 108, 111, 114, 116, 117, 120, 122, 123, 126, 127, 128, 130, 133, 134, 135, 137, 138]
set_option maxRecDepth 100000 in
noncomputable def pp_210 : List Nat := [0, 1, 4, 7, 8, 11, 12, 15, 16, 17, 18, 21, 24, 25, 28, 31, 32, 33, 36, 37, 38, 41, 42]
set_option maxRecDepth 100000 in
noncomputable def pp_211 : List Nat := [0, 1, 4, 5, 6, 9, 10, 13, 16, 17, 20, 21, 22]
set_option maxRecDepth 100000 in
noncomputable def pp_212 : List Nat := [0, 1, 2, 5, 6, 7, 10, 11, 12, 15, 16, 17, 20, 21, 22, 25, 26, 27, 30, 31]
set_option maxRecDepth 100000 in
noncomputable def pp_213 : List Nat := [0, 1, 2, 5, 8, 9, 12, 15, 16, 19, 20, 23, 25, 26, 27]
set_option maxRecDepth 100000 in
noncomputable def pp_214 : List Nat := [0, 1, 2, 5, 6, 9, 10]
set_option maxRecDepth 100000 in
noncomputable def pp_215 : List Nat := [0, 1, 3, 5, 6, 9, 10, 12, 13, 15, 16, 17, 20, 23, 24]
set_option maxRecDepth 100000 in
noncomputable def pp_216 : List Nat := [0, 1, 2, 5, 6, 7, 10, 11, 13, 16, 17, 18, 19, 21, 24, 25, 28, 29, 30, 31, 32, 33, 36, 39, 40]
set_option maxRecDepth 100000 in
noncomputable def pp_217 : List Nat := [0, 1, 2, 5, 8, 9, 10, 13, 16, 17, 18, 21, 24, 25, 26, 29, 30, 33, 35, 38, 39, 40, 43, 44, 47, 49, 52, 53, 54, 57, 58, 61, 62, 65, 66, 67, 70, 71, 72, 75, 76, 77, 80, 81, 82, 85, 86, 87, 90, 91, 92, 95, 96, 97, 98, 100, 103, 104, 107, 108, 109, 110, 113, 116, 117, 118, 119, 120, 123, 124, 127, 128, 129, 130, 131, 132, 135, 138, 139, 142, 143, 144, 147, 148, 149, 150, 153, 154, 155, 156, 157, 158, 161, 164, 165, 168, 170, 171, 174, 175, 176, 179, 181, 182, 183, 184]
set_option maxRecDepth 100000 in
noncomputable def pp_218 : List Nat := [0, 1, 3, 6, 9, 10, 12, 15, 18, 19, 21, 24, 27, 28, 30, 33, 36, 37, 40, 41, 42]
set_option maxRecDepth 100000 in
noncomputable def pp_219 : List Nat := [0, 1, 3, 6, 9, 10, 13, 15, 18, 19, 22, 23, 26, 27, 29, 32, 35, 36, 39, 40, 43, 44, 47, 48, 49]
set_option maxRecDepth 100000 in
noncomputable def pp_220 : List Nat := [0, 1, 2, 3, 6, 7, 8, 11, 12]
set_option maxRecDepth 100000 in
noncomputable def pp_221 : List Nat := [0, 1, 3, 6, 9, 10, 13, 14, 17, 18, 19, 21, 24, 25, 26, 27, 30, 31, 32, 35, 38, 39, 41, 44, 47, 48, 49, 50, 53, 54, 55, 58, 59, 60, 63, 65, 66, 69, 72, 73, 76, 77, 78, 79, 80, 81, 83, 84, 87, 88, 90, 93, 96, 97, 100, 101, 104, 105, 108, 109, 110, 111, 114, 115, 116, 119, 122, 123, 124, 125, 128, 131, 134, 135]
set_option maxRecDepth 100000 in
noncomputable def pp_222 : List Nat := [0, 1, 2, 5, 6, 7, 10, 11, 12, 15, 18, 19, 22, 23, 24, 25, 28, 31, 32, 33, 34, 35, 38, 39, 42, 43, 44, 45, 48, 51, 52, 55, 58, 59, 62, 63, 64, 67, 70, 71, 72, 73, 76, 79, 82, 83, 85, 88, 89, 90, 93, 96, 97, 98, 99, 102, 105, 106, 109, 112, 115, 116, 119, 120, 121, 124, 125, 127, 130, 133, 136, 137, 138, 141, 144, 145, 146, 149, 150, 153, 154, 157, 158, 159]
set_option maxRecDepth 100000 in
noncomputable def pp_223 : List Nat := [0, 1, 4, 7, 8, 9, 12, 13, 16, 17, 18, 19, 22, 23, 26, 27, 28, 29, 30, 33, 34, 35, 38, 39]
set_option maxRecDepth 100000 in
noncomputable def pp_224 : List Nat := [0, 1, 4, 7, 8, 11, 13, 16, 17, 18, 19, 22, 25, 26, 29, 32, 33, 34, 37, 38, 39, 42, 43, 44, 47, 48, 49, 52, 53]
set_option maxRecDepth 100000 in
noncomputable def pp_225 : List Nat := [0, 1, 4, 5, 8, 11, 12, 15, 17, 20, 21, 24, 26, 29, 30, 33, 35, 38, 39, 42, 43, 44, 45, 46, 49, 50, 51, 54, 55, 58, 59, 60, 61, 64, 67, 68]
set_option maxRecDepth 100000 in
noncomputable def pp_226 : List Nat := [0, 1, 4, 5, 8, 11, 12, 15, 17, 20, 21, 24, 26, 29, 30, 33, 35, 38, 39, 42, 44, 47, 48, 51, 52, 55, 57, 60, 61, 64, 66, 67, 68, 69, 72, 73, 74, 77, 78, 81, 82, 83, 84, 87, 90, 91]
set_option maxRecDepth 100000 in
noncomputable def pp_227 : List Nat := [0, 1, 2, 5, 6, 8, 11, 12, 15, 16, 18, 21, 22, 25, 26, 28, 31, 32, 33, 36, 37, 38, 41, 42, 43, 44, 47, 48]
set_option maxRecDepth 100000 in
noncomputable def pp_228 : List Nat := [0, 1, 4, 5, 6, 7, 8, 9, 12, 15, 16, 19, 20, 21, 22, 25, 28, 29, 32, 33, 36, 37, 38, 39, 40, 41, 44, 47, 48, 49, 52, 55, 56, 59, 60, 63, 64, 65, 68, 71, 72, 75, 76, 79, 80, 83, 84, 85, 88, 91, 92, 95, 96, 97]
set_option maxRecDepth 100000 in
noncomputable def pp_229 : List Nat := [0, 1, 4, 7, 10, 11, 12, 13, 16, 17, 18, 21, 24, 27, 28, 31, 32, 35, 38, 41, 42, 45, 46, 49, 52, 55, 56, 59, 60, 63, 66, 69, 70, 73, 74, 77, 80, 83, 84, 87, 88, 90, 93, 96, 98, 101, 102, 103]
set_option maxRecDepth 100000 in
noncomputable def pp_230 : List Nat := [0, 1, 4, 7, 8, 9, 12, 14, 17, 18, 19, 22, 23, 26, 27, 29, 32, 33, 34, 37, 38, 39, 42, 45, 46, 49, 52, 55, 56, 57, 58, 59, 62, 65, 68, 71, 72, 75, 78, 81, 84, 85, 86, 88, 91, 94, 95, 98, 101, 104, 107, 108, 109, 111, 114, 117, 118, 121, 122, 123, 124, 127, 128, 129, 130, 133, 136, 137, 140, 143, 144, 145, 148, 149, 150, 151, 154, 155]
set_option maxRecDepth 100000 in
noncomputable def pp_231 : List Nat := [0, 1, 2, 5, 6, 7, 10, 11, 12, 15, 18, 19, 22, 25, 26, 29, 30, 31, 32, 35, 38, 39, 40, 41, 42, 45, 46, 47, 50, 51, 54, 55, 58, 61, 62, 65, 68, 69, 70, 71, 74, 77, 78, 79, 82, 83, 84, 87, 88, 91, 92, 93, 94, 95, 98, 101, 102, 103, 106, 107, 110, 111, 114, 117, 118, 119, 122, 123, 126, 127, 130, 133, 134, 135]
set_option maxRecDepth 100000 in
noncomputable def pp_232 : List Nat := [0, 1, 2, 3, 4, 5, 6, 9, 12, 13, 16, 17, 18, 19, 20, 21, 24, 25, 28, 29, 30, 33, 34, 37, 38, 39, 42, 43, 46, 47, 50, 51, 52, 53, 54, 57, 60, 63, 64, 67, 68, 69, 70, 71, 72, 75, 76, 77, 78, 79, 80, 83, 84, 85, 88, 89, 92, 95, 96, 99, 100, 101, 102]
set_option maxRecDepth 100000 in
noncomputable def pp_233 : List Nat := [0, 1, 2, 5, 6, 7, 8, 9, 10, 11, 14, 15, 16, 17, 18, 19, 20, 23, 24, 25, 26, 27, 28, 29, 32, 33, 35, 38, 39, 42, 43, 46, 47, 48, 51, 52, 53, 54, 57, 58, 59, 60, 61, 62, 63, 66, 67, 70, 71, 72, 74, 77, 78, 81, 82, 85, 86, 89, 90, 91]
set_option maxRecDepth 100000 in
noncomputable def pp_234 : List Nat := [0, 1, 4, 7, 8, 9, 12, 13, 14, 15, 18, 19, 22, 23, 24, 27, 28, 31, 32, 34, 37, 39, 42, 43, 44]
set_option maxRecDepth 100000 in
noncomputable def pp_235 : List Nat := [0, 1, 4, 7, 8, 9, 12, 13, 16, 17, 18, 19, 22, 23, 26, 27, 28, 29, 30, 31, 34, 35, 38, 39, 40, 41, 42, 43, 44, 47, 48, 49, 52, 53]
set_option maxRecDepth 100000 in
noncomputable def pp_236 : List Nat := [0, 1, 4, 7, 10, 11, 14, 15, 18, 21, 24, 25, 28, 29, 32, 35, 38, 39, 42, 43, 46, 49, 52, 53, 56, 57, 60, 63, 66, 67, 70, 71, 74, 77, 80, 81, 84, 85, 86]
set_option maxRecDepth 100000 in
noncomputable def pp_237 : List Nat := [0, 1, 2, 5, 6, 9, 10, 13, 14, 15, 16, 19, 22, 23, 24, 27, 28, 29, 31, 34, 37, 38, 39, 40, 41, 44, 45, 48, 51, 52, 55, 56, 57, 60, 61]
set_option maxRecDepth 100000 in
noncomputable def pp_238 : List Nat := [0, 1, 2, 5, 6, 7, 9, 12, 13, 14, 16, 19, 20, 23, 24, 25, 26, 27, 28, 31, 32, 35, 38, 39, 42, 44, 47, 48, 51, 54, 55, 57, 60, 61, 62, 65, 66, 67, 70, 71, 74, 77, 78, 81, 82, 83, 84, 85, 88, 89, 90]
set_option maxRecDepth 100000 in
noncomputable def pp_239 : List Nat := [0, 1, 4, 7, 8, 9, 10, 13, 14, 15, 16, 19, 22, 25, 26, 27, 30, 31, 34, 37, 38, 41, 42, 43, 46, 47, 48, 49, 50, 51, 52, 55, 56, 57, 58, 61, 62, 63, 66, 69, 70, 73, 74, 76, 79, 80]
set_option maxRecDepth 100000 in
noncomputable def pp_240 : List Nat := [0, 1, 2, 5, 6, 7, 10, 11, 12, 15, 18, 19, 22, 25, 26, 29, 30, 31, 32, 35, 38, 39, 40, 41, 42, 45, 46, 49, 51, 54, 55, 56, 59, 60, 62, 63, 64, 65, 68, 69, 72, 75, 76, 79, 82, 83, 86, 89, 90, 91, 94, 95, 96, 99, 100, 103, 104, 105, 106, 107, 110, 111, 114, 115, 118, 121, 122, 123, 124, 126, 129, 130, 133, 135, 136, 139, 140, 141, 142, 143, 146, 147, 148, 149, 152, 155, 156, 157, 160, 161, 162, 165, 166, 169, 170, 171, 174, 175, 176, 179, 180, 181, 184, 185, 186, 187, 190, 193, 194, 195, 198, 199, 202, 204, 207, 208, 209, 212, 215, 216, 219, 220]
set_option maxRecDepth 100000 in
noncomputable def pp_241 : List Nat := [0, 1, 2, 3, 4, 7, 8, 11, 14, 17, 18, 19, 22, 23, 24, 27, 28, 31, 32, 33, 34, 37, 38, 41, 42, 43, 44, 45, 47, 48, 50, 52, 53, 56, 57, 58, 59, 60, 63, 64, 67, 70, 73, 74, 75, 76, 77, 79, 82, 85, 88, 90, 91, 94, 95, 96, 99, 100, 101, 102, 105, 106, 107, 108, 109, 110, 113, 114, 115, 116, 117, 120, 123, 124, 125, 128, 129, 130, 133, 136, 137, 138, 141, 142, 143, 146, 149, 152, 153]
set_option maxRecDepth 100000 in
noncomputable def pp_242 : List Nat := [0, 1, 2, 5, 6, 7, 8, 11, 14, 15, 18, 21, 22, 25, 27, 28, 29, 30, 33, 35, 36, 39, 42, 43, 45, 48, 49, 50, 52, 55, 56, 58, 61, 62, 65, 68, 71, 72, 75, 76, 78, 79, 82, 85, 86, 87, 90, 91]
set_option maxRecDepth 100000 in
noncomputable def pp_243 : List Nat := [0, 1, 2, 5, 6, 7, 10, 13, 14, 16, 19, 20, 23, 24, 25, 26, 29, 30]
set_option maxRecDepth 100000 in
noncomputable def pp_244 : List Nat := [0, 1, 2, 5, 6, 7, 10, 13, 14, 15, 16, 17, 18, 21, 22, 23, 26, 27, 30, 31, 32, 33, 34, 37, 38, 39, 42, 43, 46, 48, 51, 52, 53]
set_option maxRecDepth 100000 in
noncomputable def pp_245 : List Nat := [0, 1, 2, 5, 6, 7, 10, 13, 14, 15, 16, 17, 19, 22, 23, 24, 27, 28, 31, 32, 33, 34, 35, 38, 39, 40, 43, 44, 47, 49, 52, 53, 54]
set_option maxRecDepth 100000 in
noncomputable def pp_246 : List Nat := [0, 1, 2, 5, 6, 9, 11, 14, 15]
set_option maxRecDepth 100000 in
noncomputable def pp_247 : List Nat := [0, 1, 2, 3, 4, 5, 7, 10, 11, 12, 13, 14, 15, 16, 17, 18, 21, 24, 25, 26]
set_option maxRecDepth 100000 in
noncomputable def pp_248 : List Nat := [0, 1, 2, 3, 4, 5, 6, 9, 12, 13, 14, 17, 19, 20, 21, 22, 23, 24, 25, 26, 29, 32, 33, 34]
set_option maxRecDepth 100000 in
noncomputable def pp_249 : List Nat := [0, 1, 2, 3, 4, 5, 6, 9, 12, 13, 14, 17, 18, 19, 20, 21, 22, 25, 26, 27, 28, 31, 32, 33, 34, 37, 40, 41, 42]
set_option maxRecDepth 100000 in
noncomputable def pp_250 : List Nat := [0, 1, 2, 3, 4, 5, 6, 9, 12, 13, 14, 17, 20, 21, 24, 25, 26, 29, 32, 35, 36, 37, 40, 43, 44, 45]
set_option maxRecDepth 100000 in
noncomputable def pp_251 : List Nat := [0, 1, 4, 5, 6, 7, 8, 11, 12, 13, 14, 15, 18, 19, 20, 21, 22, 25, 26, 28, 29, 30, 33, 34, 36, 37, 38, 41, 42, 44, 45, 46, 49, 51, 53, 54, 55, 58, 59]
set_option maxRecDepth 100000 in
noncomputable def pp_252 : List Nat := [0, 1, 2, 3, 6, 8, 9, 10, 13, 15, 16, 17, 20, 21, 24, 26, 27, 30, 31, 32, 35, 38, 39, 42, 43, 46, 48, 49, 50, 53, 55, 56, 59, 60]
set_option maxRecDepth 100000 in
noncomputable def pp_253 : List Nat := [0, 1, 4, 6, 7, 8, 9, 10, 13, 14, 17, 18, 21, 22, 23, 24, 25, 26, 27, 28]
set_option maxRecDepth 100000 in
noncomputable def pp_254 : List Nat := [0, 1, 2, 5, 6, 7, 8, 11, 13, 14, 17, 18, 19, 20, 23, 25, 26, 27, 28, 29, 30, 31, 32, 33, 34, 37, 40, 41, 44, 46, 47, 50, 51, 52, 53, 54, 55, 56, 57, 60, 61, 64, 66, 67, 68, 69, 70, 71, 72, 73, 76, 77, 80, 81, 82, 83, 84, 87, 88, 89, 92, 93, 94, 95, 96, 97, 98, 99, 100, 101, 102, 105, 106, 107, 108, 109, 112, 113, 116, 117, 118, 119, 120, 121, 122, 123, 126, 128, 129, 130, 131, 132, 133, 134, 135, 138, 141, 142, 145, 147, 148, 151, 153, 154, 155, 158, 159, 162, 164, 165, 166, 167, 170, 171, 172, 173, 176, 178, 179, 180, 181, 184, 186, 187, 188, 189, 190, 191, 192, 193]
set_option maxRecDepth 100000 in
noncomputable def pp_255 : List Nat := [0, 1, 4, 7, 8, 11, 12, 15, 17, 18, 21, 22, 23, 24, 25, 26, 27, 30, 31, 32, 33, 34, 37, 38, 41, 43, 44, 45, 46, 49, 51, 52, 53, 54, 55, 56, 57, 60, 63, 64, 67, 70, 71, 74, 76, 77, 78, 79, 82, 84, 85, 86, 87, 90, 92, 93, 94, 95, 98, 100, 101, 102, 103, 104, 105, 106]
set_option maxRecDepth 100000 in
noncomputable def pp_256 : List Nat := [0, 1, 4, 5, 6, 9, 10, 11, 12, 15, 16, 19, 21, 22, 25, 28, 29, 30, 33, 34, 37, 38, 39, 40, 41, 42, 45, 46, 47, 50, 51, 54, 56, 57, 60, 63, 64, 65, 66, 67, 70, 71, 74, 76, 77, 78, 79, 80, 83, 85, 86, 87, 88, 89, 90, 93, 94, 95, 98, 99, 102, 104, 105, 108, 110, 111, 112, 113, 116, 119, 122, 125, 126, 129, 131, 132, 133, 134, 135, 138, 139, 140, 143, 144, 147, 148, 149, 150, 151, 152, 155, 156, 159, 160, 161]
set_option maxRecDepth 100000 in
noncomputable def pp_257 : List Nat := [0, 1, 2, 5, 6, 9, 12, 13, 14, 15, 16, 19, 20, 21, 24, 25, 26, 27, 29, 32, 33, 36, 37, 38, 41, 43, 44, 47, 48, 49, 50, 51, 52, 55, 58, 59, 60, 63, 64, 67, 68]
set_option maxRecDepth 100000 in
noncomputable def pp_258 : List Nat := [0, 1, 2, 3, 4, 5, 6, 9, 12, 13, 14, 15, 18, 19, 20, 21, 22, 23, 24, 25, 28, 31, 32, 33]
set_option maxRecDepth 100000 in
noncomputable def pp_259 : List Nat := [0, 1, 2, 5, 6, 7, 8, 10, 13, 14, 15, 18, 21, 22, 23, 24, 27, 28, 29, 32, 33, 36, 37, 40, 43, 44, 45, 48, 49, 52, 55, 56, 57, 60, 61, 64, 66, 67, 70, 71, 74, 76, 77, 78, 79, 81, 84, 85, 86, 89, 90, 93, 96, 97, 98, 101, 102, 105, 107, 108, 111, 112, 114, 117, 118, 121, 123, 124, 127, 128, 131, 132, 133, 135, 138, 139, 142, 145, 146, 148, 151, 152, 155, 158, 159, 161, 164, 165, 168, 171, 172, 175, 176]
set_option maxRecDepth 100000 in
noncomputable def pp_260 : List Nat := [0, 1, 2, 3, 4, 7, 8, 9, 12, 13, 14, 17, 18]
set_option maxRecDepth 100000 in
noncomputable def pp_261 : List Nat := [0, 1, 2, 3, 4, 7, 8, 9, 12, 13, 14, 17, 18]
set_option maxRecDepth 100000 in
noncomputable def pp_262 : List Nat := [0, 1, 4, 5, 6, 9, 10, 13, 14, 15]
set_option maxRecDepth 100000 in
noncomputable def pp_263 : List Nat := [0, 1, 4, 5, 6, 7, 10, 11, 14, 15, 18, 19, 20]
set_option maxRecDepth 100000 in
noncomputable def pp_264 : List Nat := [0, 1, 2, 5, 6, 7, 8, 11, 14, 15, 16, 17, 18, 21, 22, 23, 26, 29, 30, 31, 32, 35, 36, 39, 40, 43, 44, 45, 48, 49, 50, 53, 54, 57, 59, 60, 61, 62, 65, 66, 67, 70, 71]
set_option maxRecDepth 100000 in
noncomputable def pp_265 : List Nat := [0, 1, 2, 5, 6, 7, 8, 11, 14, 15, 16, 19, 20, 21, 24, 27, 28, 29, 30, 33, 34, 35, 36, 37, 38, 39, 40]
set_option maxRecDepth 100000 in
noncomputable def pp_266 : List Nat := [0, 1, 2, 5, 6, 7, 8, 11, 14, 15, 16, 17, 18, 21, 22, 23, 26, 29, 30, 31, 32, 35, 36, 37, 38, 39, 40, 41, 42, 43, 44]
set_option maxRecDepth 100000 in
noncomputable def pp_267 : List Nat := [0, 1, 2, 5, 6, 7, 10, 11, 12, 15, 18, 19, 20, 21, 24, 25, 26, 29, 30]
set_option maxRecDepth 100000 in
noncomputable def pp_268 : List Nat := [0, 1, 2, 5, 6, 7, 10, 13, 14, 15, 18, 21, 24, 25, 26, 29, 32, 35, 37, 38, 40, 43, 46, 48, 49, 50, 53, 56, 58, 59, 62, 65, 68, 70, 71, 74, 77, 80, 81, 84, 85, 86, 87, 90, 93, 94, 95, 96, 97, 98, 99, 101, 103, 105, 107, 110, 111]
set_option maxRecDepth 100000 in
noncomputable def pp_269 : List Nat := [0, 1, 2, 5, 6, 7, 8, 10, 13, 16, 17, 18, 19, 22, 25, 26, 29, 30, 31, 32, 35, 38, 39, 40, 41, 44, 45, 46, 47, 48, 51, 52, 55, 58, 61, 62, 65, 66, 69, 70, 71, 72, 73, 75, 77, 78, 81, 84, 85, 86, 89, 91, 92, 95, 96, 98, 99, 100, 101, 102, 104, 105, 106, 107, 110, 113, 114, 115]
set_option maxRecDepth 100000 in
noncomputable def pp_270 : List Nat := [0, 1, 2, 3, 5, 7, 8, 11, 14, 15, 16, 18, 19, 20, 21, 22, 25, 26, 27, 29, 30, 33, 34, 37, 38, 39, 40, 43, 46, 47, 48]
set_option maxRecDepth 100000 in
noncomputable def pp_271 : List Nat := [0, 1, 2, 5, 6, 7, 8, 11, 12, 13, 16, 19, 20, 21, 22, 25, 26, 27, 28, 29, 30, 31, 34, 37, 38, 39, 40, 43, 44, 45, 48, 49, 52, 55, 56, 57]
set_option maxRecDepth 100000 in
noncomputable def pp_272 : List Nat := [0, 1, 2, 3, 6, 9, 10, 13, 14, 15, 16, 19, 22, 23, 26, 27, 28, 29, 30, 33, 34, 35, 36, 37, 38, 39, 41, 43, 44, 47, 48, 51, 53, 54, 56, 57, 58, 61, 63, 66, 67, 70, 73, 75, 76, 77, 78, 81, 83, 84, 85, 87, 89, 90, 93, 94, 96, 98, 101, 103, 104, 107, 109, 110, 111, 114, 117, 118, 121, 123, 124, 127, 129, 130, 131, 132, 133, 134, 137, 139, 141, 142, 143, 146, 148, 150, 151, 152, 155, 156, 158, 159, 162, 165, 168, 171, 174, 175, 176]
set_option maxRecDepth 100000 in
noncomputable def pp_273 : List Nat := [0, 1, 2, 3, 4, 5, 6, 7, 10, 13, 16, 17, 18]
set_option maxRecDepth 100000 in
noncomputable def pp_274 : List Nat := [0, 1, 2, 5, 6, 7, 8, 11, 14, 15, 16, 17, 20, 23, 24, 27, 28, 29, 30, 33, 36, 37, 38, 39, 42, 43, 46, 47, 50, 51, 52, 53, 56, 57, 58, 59, 62, 63, 64, 65, 68, 69, 72, 73, 76, 77, 80, 81, 82, 85, 86, 89, 90]
set_option maxRecDepth 100000 in
noncomputable def pp_275 : List Nat := [0, 1, 2, 5, 6, 7, 8, 11, 14, 15, 18, 19, 22, 23, 24, 25, 28, 31, 32, 33, 34, 37, 38, 39, 40, 43, 44, 45, 46, 49, 50, 51, 52, 55, 56, 57, 60, 61, 62, 65, 66, 67, 68, 71, 72, 73, 74, 75, 76, 79, 80, 83, 84, 85, 86, 89, 90, 93, 94, 95, 96]
set_option maxRecDepth 100000 in
noncomputable def pp_276 : List Nat := [0, 1, 2, 5, 6, 7, 8, 11, 14, 15, 16, 17, 20, 21, 22, 25, 28, 29, 30, 31, 34, 35, 36, 37, 40, 41, 42, 43, 46, 47, 48, 49, 52, 53, 56, 57, 60, 61, 62, 63]
set_option maxRecDepth 100000 in
noncomputable def pp_277 : List Nat := [0, 1, 2, 5, 6, 7, 8, 11, 12, 13, 16, 19, 20, 21, 22, 25, 26, 27, 28, 31, 32, 33, 34, 37, 40, 41, 44, 45, 46, 47, 50, 51, 54, 57, 58, 61, 64, 65, 66, 67, 70, 71, 72, 73, 74, 75, 76, 77, 80, 81, 84, 85, 88, 89, 90, 93, 96, 99, 100, 102, 104, 105, 108, 109, 110, 112, 115, 117, 118, 121, 122, 123, 124, 126, 129, 130, 132, 134, 135, 138, 140, 141, 144, 147, 148, 151, 153, 155, 156, 157, 158, 161, 164, 167, 170, 173, 176, 177, 178, 180, 182, 183, 186, 189, 190, 193, 194, 196, 197, 198, 199, 202, 203, 206, 207, 209, 210, 211, 214, 215, 216, 219, 222, 223, 226, 229, 230, 233, 234, 235]
set_option maxRecDepth 100000 in
noncomputable def pp_278 : List Nat := [0, 1, 2, 3, 5, 8, 9, 12, 13, 14, 16, 17, 18, 21, 24, 25, 27, 28, 29, 32, 35, 36, 39, 40, 42, 43, 44, 45, 48, 49, 51, 52, 53, 56, 57, 60, 63, 64, 67, 70, 71, 72, 73, 76, 77, 78, 79, 80, 81, 82, 85, 88, 89, 90, 91, 92, 95, 98, 99, 101, 103, 104, 107, 108, 111, 113, 114, 115, 117, 120, 121, 122, 123, 125, 128, 129, 130, 131, 132, 134, 136, 137, 140, 142, 143, 144, 145, 146, 147, 150, 153, 154, 157, 159, 160, 161, 162, 163, 165, 166, 167, 168, 171, 174, 177, 180, 183, 186, 189, 190]
set_option maxRecDepth 100000 in
noncomputable def pp_279 : List Nat := [0, 1, 2, 5, 6, 7, 8, 11, 14, 15, 16, 17, 20, 23, 24, 25, 26, 29, 30, 33, 34, 37, 39, 40, 41, 42, 43, 44, 47, 50, 51, 54, 55, 58, 60, 61, 62, 63, 64, 65, 66]
set_option maxRecDepth 100000 in
noncomputable def pp_280 : List Nat := [0, 1, 2, 3, 4, 5, 6, 9, 12, 13, 14, 17, 19, 20, 21, 22, 23, 24, 27, 30, 31, 32, 33, 36, 37, 38, 39, 42, 45, 46, 47]
set_option maxRecDepth 100000 in
noncomputable def pp_281 : List Nat := [0, 1, 2, 5, 6, 7, 8, 11, 14, 15, 16, 17, 20, 21, 24, 25, 26, 29, 30]
set_option maxRecDepth 100000 in
noncomputable def pp_282 : List Nat := [0, 1, 2, 5, 6, 9, 10, 13, 14, 15, 16, 17, 18, 19, 22, 25, 26, 27, 28, 31, 34, 35, 38, 39, 42, 43, 44, 45, 48, 51, 52, 53]
set_option maxRecDepth 100000 in
noncomputable def pp_283 : List Nat := [0, 1, 2, 5, 6, 7, 8, 11, 14, 15, 16, 17, 20, 23, 24, 25, 26, 28, 31, 32, 33, 36, 39, 40, 41, 42, 45, 46, 48, 50, 52, 55, 56, 59, 61, 63, 64, 67, 68, 71, 72, 73, 76, 79, 80, 82, 84, 85, 88, 89, 91, 93, 95, 98, 99, 102, 104, 105, 106, 109, 112, 113, 115, 117, 118, 121, 124, 125, 127, 129, 130, 133, 134, 137, 138, 140, 142, 145, 146, 147, 148, 151, 153, 154, 155, 156, 159, 162, 165, 168, 169, 171, 173, 175, 178, 179, 182, 184, 185, 188, 190, 191, 192, 195, 198, 201, 204, 205, 208, 209, 210, 211]
set_option maxRecDepth 100000 in
noncomputable def pp_284 : List Nat := [0, 1, 2, 3, 5, 7, 8, 11, 12, 13, 14, 17, 19, 20, 23, 24, 27, 30, 31, 32]
set_option maxRecDepth 100000 in
noncomputable def pp_285 : List Nat := [0, 1, 2, 5, 6, 7, 8, 11, 14, 15, 16, 17, 18, 21, 22, 23, 26, 29, 30, 31, 32, 35, 36, 37, 38, 40, 43, 44, 47, 48, 49, 50, 53, 56, 57, 58, 59, 61, 62, 65, 66, 67, 68, 71, 72, 75, 76, 78, 79, 80, 81, 82, 85, 88, 89, 92, 95, 96, 99, 101, 104, 106, 107, 110, 111, 112, 113, 114]
set_option maxRecDepth 100000 in
noncomputable def pp_286 : List Nat := [0, 1, 4, 5, 8, 11, 12, 15, 18, 19, 22, 23]
set_option maxRecDepth 100000 in
noncomputable def pp_287 : List Nat := [0, 1, 2, 3, 4, 5, 6, 9, 12, 13, 16, 18, 19, 20, 21, 22, 25, 26, 27, 28, 29, 30, 33, 34, 35, 38, 39, 40, 43, 44, 45, 46, 49, 50, 51, 54, 55, 56, 59, 62, 63, 64]
set_option maxRecDepth 100000 in
noncomputable def pp_288 : List Nat := [0, 1, 2, 3, 4, 5, 6, 9, 12, 13, 14, 15, 18, 21, 22, 23, 24, 27, 28, 29, 30, 33, 36, 37, 38]
set_option maxRecDepth 100000 in
noncomputable def pp_289 : List Nat := [0, 1, 2, 5, 6, 9, 10, 13, 14]
set_option maxRecDepth 100000 in
noncomputable def pp_290 : List Nat := [0, 1, 2, 3, 6, 9, 10]
set_option maxRecDepth 100000 in
noncomputable def pp_291 : List Nat := [0, 1, 2, 5, 6, 9, 10, 13, 14, 15, 16, 17, 18, 19, 20, 23, 26, 27, 28, 29, 30, 31, 32, 33, 36, 37, 38, 39, 42, 43, 46, 47, 48, 49, 52, 55, 56, 57]
set_option maxRecDepth 100000 in
noncomputable def pp_292 : List Nat := [0, 1, 2, 3, 5, 8, 9, 12, 13, 14, 15, 18, 21, 22, 23, 24, 26, 28, 29, 32, 35, 36, 38, 39, 40, 41, 44, 47, 48, 50, 53, 55, 56, 59, 61, 63, 64, 65, 66, 69, 71, 74, 75, 78, 79, 81, 82, 85, 86, 88, 89, 92, 94, 95, 96, 97, 98, 99, 100, 103, 105, 106, 107, 110, 111, 114, 116, 117, 120, 121, 122, 125, 128, 129, 130]
set_option maxRecDepth 100000 in
noncomputable def pp_293 : List Nat := [0, 1, 2, 5, 6, 7, 8, 9, 12, 13, 14, 17, 20, 21, 22, 23, 26, 27, 30, 31, 32, 35, 36, 37, 38, 39, 40, 42, 44, 45, 48, 49, 50, 52, 55, 56, 57, 58, 61, 64, 66, 69, 70, 71, 74, 77, 78, 81, 82, 85, 86, 87, 88, 91, 92]
set_option maxRecDepth 100000 in
noncomputable def pp_294 : List Nat := [0, 1, 3, 4, 6, 8, 9, 10, 13, 15, 17, 18, 20, 22, 24, 26, 28, 31, 33, 36, 37, 40, 41, 43, 44, 45]
set_option maxRecDepth 100000 in
noncomputable def pp_295 : List Nat := [0, 1, 2, 5, 6, 7, 8, 11, 14, 15, 16, 17, 20, 23, 24, 25, 26, 28, 31, 34, 36, 37, 39, 42, 45, 47, 48, 49, 52, 55, 56, 59, 60, 61, 62, 65, 68, 69, 70, 71, 74, 75, 77, 79, 81, 84, 85, 88, 90, 92, 93, 96, 97, 100, 101, 102, 105, 108, 109, 111, 112, 114, 116, 117, 120, 122, 123, 126, 129, 130, 132, 134, 136, 139, 140, 143, 145, 146, 149, 151, 152, 154, 155, 156, 157, 160, 163, 164, 166, 168, 169, 172, 175, 176, 179, 180, 182, 183, 186, 188, 189, 192, 193, 194, 195, 198, 200, 201, 203, 205, 206, 207, 208, 209, 210, 213, 216, 217, 219, 221, 223, 226, 227, 230, 232, 233, 236, 238, 239, 240, 243, 246, 248, 251, 252, 254, 257, 260, 261, 264, 265, 266, 268, 270, 273, 274]
set_option maxRecDepth 100000 in
noncomputable def pp_296 : List Nat := [0, 1, 2, 3, 5, 7, 8, 11, 12, 13, 15, 18, 20, 21, 22, 24, 27, 29, 31, 33, 36, 37, 40, 42, 44, 45, 47, 48, 49, 50, 53, 54, 55, 56, 59, 60, 63, 65, 67, 68, 70, 71, 72, 73, 76, 77, 80, 81, 82, 85, 88, 89, 92, 93, 96, 97, 98]
set_option maxRecDepth 100000 in
noncomputable def pp_297 : List Nat := [0, 1, 2, 5, 6, 7, 8, 11, 14, 15, 16, 17, 20, 23, 24, 25, 26, 27, 30, 31, 32, 33, 36, 37, 38, 39, 41, 44, 45, 48, 49, 50, 51, 54, 57, 58, 59, 60, 63, 64, 65, 66, 68, 70, 71, 74, 77, 78, 80, 82, 83, 86, 89, 91, 93, 96, 97, 100, 102, 104, 105, 107, 108, 109, 112, 115, 116, 119, 121, 123, 124, 126, 127, 128, 130, 132, 135, 136, 137, 140, 141, 144, 146, 148, 149, 151, 152, 153, 156, 157, 160, 161, 162, 165, 168, 171, 174, 177, 178, 181, 183, 184, 185, 186, 187, 188, 189]
set_option maxRecDepth 100000 in
noncomputable def pp_298 : List Nat := [0, 1, 2, 5, 6, 7, 8, 11, 14, 15, 16, 17, 20, 21, 22, 23, 24, 25, 26, 27, 28, 31, 34, 35, 37, 39, 40, 43, 44, 45, 46, 48, 51, 52, 53, 56, 59, 62, 65, 66, 67]
set_option maxRecDepth 100000 in
noncomputable def pp_299 : List Nat := [0, 1, 2, 5, 6, 7, 8, 11, 14, 15, 16, 19, 20, 21, 24, 27, 28, 29, 30, 33, 34, 35, 36, 38, 40, 41, 44, 47, 48, 49, 51, 52, 55, 56, 59, 60, 62, 63, 66, 67, 68, 69, 72, 75, 76, 77]
set_option maxRecDepth 100000 in
noncomputable def pp_300 : List Nat := [0, 1, 2, 5, 6, 9, 10, 11, 12, 13, 14, 15, 18, 21, 22, 23, 24, 26, 28, 29, 32, 33, 36, 37, 38, 40, 43, 44, 47, 48, 51, 52, 53, 56, 59, 60, 61, 64, 65, 66, 67, 70, 71, 72, 73, 76, 79, 80, 81]
set_option maxRecDepth 100000 in
noncomputable def pp_301 : List Nat := [0, 1, 2, 5, 6, 9, 10, 11, 12, 13, 14, 15, 18, 19, 20, 21, 24, 25, 28, 30, 31, 34, 35, 38, 39, 40, 41, 44, 47, 48, 49]
set_option maxRecDepth 100000 in
noncomputable def pp_302 : List Nat := [0, 1, 2, 5, 8, 9, 12, 13, 16, 17, 20, 22, 23, 26, 27, 28, 29, 30]
set_option maxRecDepth 100000 in
noncomputable def pp_303 : List Nat := [0, 1, 4, 5, 6, 9, 10, 12, 14, 15, 16, 17, 20, 21, 24, 27, 28, 29, 30, 33, 36, 37, 38, 40, 43, 44, 47, 48, 49, 50, 51, 54, 57, 58, 61, 62, 64, 65, 66, 67, 70, 71, 74, 77, 80, 81]
set_option maxRecDepth 100000 in
noncomputable def pp_304 : List Nat := [0, 1, 4, 5, 7, 10, 11, 12, 15, 16, 18, 21, 22, 25, 26, 27]
set_option maxRecDepth 100000 in
noncomputable def pp_305 : List Nat := [0, 1, 2, 5, 6, 7, 8, 11, 14, 16, 17, 18, 21, 24, 25, 28, 29, 30, 31, 34, 37, 38, 39, 40, 41, 42, 43, 46, 48, 51, 52, 55, 58, 60, 61, 64, 65, 68, 70, 71, 74, 76, 77, 80, 81, 84, 86, 87, 88, 91, 93, 94, 95, 98, 99, 102, 103]
set_option maxRecDepth 100000 in
noncomputable def pp_306 : List Nat := [0, 1, 2, 5, 6, 7, 8, 10, 13, 16, 17, 19, 22, 25, 27, 28, 29, 32, 35, 37, 38, 39, 42, 43, 44, 47, 50, 51, 54, 55, 56, 57, 60, 63, 64, 65, 66, 68, 69, 71, 72, 74, 75, 77, 79, 80, 83, 84, 85, 87, 88, 89, 91, 94, 95, 98, 100, 101, 102, 105, 107, 108, 109, 111, 113, 114, 117, 119, 121, 124, 126, 129, 131, 133, 135, 137, 140, 142, 145, 147, 149, 151, 152, 154, 157, 160, 161, 164, 165, 166, 168, 171, 174, 176, 179, 181, 184, 186, 187, 190, 192, 195, 197, 198]
set_option maxRecDepth 100000 in
noncomputable def pp_307 : List Nat := [0, 1, 3, 5, 6, 9, 11, 14, 15, 18, 19, 21, 22, 23, 25, 26, 27, 30, 31, 33, 34, 37, 38, 40, 41, 42, 43, 46, 49, 50, 51, 52, 53]
set_option maxRecDepth 100000 in
noncomputable def pp_308 : List Nat := [0, 1, 4, 5, 6, 7, 10, 12, 13, 16, 17, 18, 19, 20, 23, 26, 27, 30, 31, 32, 35, 36, 39, 40, 41, 44, 45, 48, 49, 50, 53, 54, 55, 58, 59]
set_option maxRecDepth 100000 in
noncomputable def pp_309 : List Nat := [0, 1, 2, 5, 6, 9, 10, 13, 14, 15, 16, 17, 20, 21, 24, 25, 26, 29, 30, 31, 34, 35, 38, 39]
set_option maxRecDepth 100000 in
noncomputable def pp_310 : List Nat := [0, 1, 2, 5, 6, 9, 12, 13, 14, 15, 16, 19, 20, 21, 24, 25, 26, 29, 30, 33, 34, 35, 38, 39, 42, 43]
set_option maxRecDepth 100000 in
noncomputable def pp_311 : List Nat := [0, 1, 2, 5, 6, 7, 8, 11, 14, 15, 18, 19, 20, 23, 24, 25]
set_option maxRecDepth 100000 in
noncomputable def pp_312 : List Nat := [0, 1, 2, 5, 6, 9, 10, 13, 16, 17, 18, 21, 22, 25, 28, 29, 30, 33, 34, 37, 40, 41, 42]
set_option maxRecDepth 100000 in
noncomputable def pp_313 : List Nat := [0, 1, 2, 3, 4, 7, 8, 9, 12, 13, 14, 15, 16, 17]
set_option maxRecDepth 100000 in
noncomputable def pp_314 : List Nat := [0, 1, 2, 3, 4, 7, 8, 9, 12, 13, 14, 15, 16, 17]
set_option maxRecDepth 100000 in
noncomputable def pp_315 : List Nat := [0, 1, 2, 3, 4, 7, 8, 9, 12, 13, 14, 15, 16, 17]
set_option maxRecDepth 100000 in
noncomputable def pp_316 : List Nat := [0, 1, 2, 3, 4, 7, 8, 9, 12, 13, 14, 15, 16, 17]
set_option maxRecDepth 100000 in
noncomputable def pp_317 : List Nat := [0, 1, 2, 3, 4, 7, 8, 9, 12, 13, 14, 15, 16, 17]
set_option maxRecDepth 100000 in
noncomputable def pp_318 : List Nat := [0, 1, 2, 3, 4, 7, 8, 9, 12, 13, 14, 15, 16, 17]
set_option maxRecDepth 100000 in
noncomputable def pp_319 : List Nat := [0, 1, 2, 3, 4, 5, 8, 9, 10, 13, 15, 16, 17, 19, 20, 21, 22, 23]
set_option maxRecDepth 100000 in
noncomputable def pp_320 : List Nat := [0, 1, 2, 3, 4, 5, 8, 9, 10, 13, 15, 16, 17, 19, 20, 21, 22, 23]
set_option maxRecDepth 100000 in
noncomputable def pp_321 : List Nat := [0, 1, 2, 3, 4, 5, 8, 9, 10, 13, 15, 16, 17, 19, 20, 21, 22, 23]
set_option maxRecDepth 100000 in
noncomputable def pp_322 : List Nat := [0, 1, 2, 3, 4, 7, 8, 9, 12, 13, 14, 15, 16, 17]
set_option maxRecDepth 100000 in
noncomputable def pp_323 : List Nat := [0, 2, 3, 4, 5, 6, 7, 9, 11, 13, 15, 18, 19, 20, 23, 25, 26, 27, 28, 29]
set_option maxRecDepth 100000 in
noncomputable def pp_324 : List Nat := [0, 1, 2, 3, 4, 5, 8, 9, 10, 13, 15, 16, 17, 18, 19]
set_option maxRecDepth 100000 in
noncomputable def pp_325 : List Nat := [0, 1, 2, 3, 4, 7, 8, 9, 12, 13, 14, 15, 16, 17]
set_option maxRecDepth 100000 in
noncomputable def pp_326 : List Nat := [0, 1, 2, 3, 4, 5, 8, 9, 10, 13, 15, 16, 17, 18, 19]
set_option maxRecDepth 100000 in
noncomputable def pp_327 : List Nat := [0, 1, 2, 3, 4, 5, 8, 9, 10, 13, 15, 16, 17, 18, 19]
set_option maxRecDepth 100000 in
noncomputable def pp_328 : List Nat := [0, 1, 2, 3, 4, 5, 8, 9, 10, 13, 15, 16, 17, 19, 20, 21, 22, 23]
set_option maxRecDepth 100000 in
noncomputable def pp_329 : List Nat := [0, 1, 2, 3, 4, 7, 8, 9, 12, 13, 14, 15, 16, 17]
set_option maxRecDepth 100000 in
noncomputable def pp_330 : List Nat := [0, 1, 2, 3, 4, 5, 8, 9, 10, 13, 15, 16, 17, 18, 19]
set_option maxRecDepth 100000 in
noncomputable def pp_331 : List Nat := [0, 1, 2, 3, 4, 7, 8, 9, 12, 13, 14, 15, 16, 17]
set_option maxRecDepth 100000 in
noncomputable def pp_332 : List Nat := [0, 2, 3, 4, 5, 6, 7, 10, 11, 14, 16, 17, 18, 20, 21, 22, 23, 24]
set_option maxRecDepth 100000 in
noncomputable def pp_333 : List Nat := [0, 1, 2, 3, 4, 5, 8, 9, 10, 13, 15, 16, 17, 19, 20, 21, 22, 23]
set_option maxRecDepth 100000 in
noncomputable def pp_334 : List Nat := [0, 1, 2, 3, 4, 7, 8, 9, 12, 13, 14, 15, 16, 17]
set_option maxRecDepth 100000 in
noncomputable def pp_335 : List Nat := [0, 2, 3, 4, 5, 6, 7, 9, 11, 14, 15, 18, 20, 21, 22, 24, 25, 26, 27, 28]
set_option maxRecDepth 100000 in
noncomputable def pp_336 : List Nat := [0, 1, 2, 3, 4, 5, 8, 9, 10, 13, 15, 16, 17, 18, 19]
set_option maxRecDepth 100000 in
noncomputable def pp_337 : List Nat := [0, 1, 2, 3, 4, 7, 8, 9, 12, 13, 14, 15, 16, 17]
set_option maxRecDepth 100000 in
noncomputable def pp_338 : List Nat := [0, 1, 2, 3, 4, 5, 8, 9, 10, 13, 15, 16, 17, 19, 20, 21, 22, 23]
set_option maxRecDepth 100000 in
noncomputable def pp_339 : List Nat := [0, 2, 3, 4, 5, 6, 7, 9, 12, 13, 14, 17, 19, 20, 21, 22, 23]
set_option maxRecDepth 100000 in
noncomputable def pp_340 : List Nat := [0, 2, 3, 4, 5, 6, 7, 9, 11, 13, 16, 17, 18, 21, 23, 24, 25, 26, 27]
set_option maxRecDepth 100000 in
noncomputable def pp_341 : List Nat := [0, 3, 4, 7, 8, 11, 12, 15, 16, 17, 19, 20, 21, 23, 25, 26, 27, 29, 30, 33, 34, 36, 37, 39, 40, 216, 217, 218, 220, 221, 222, 223, 224, 226, 227, 228, 229, 230, 232, 233, 234, 235, 236, 238, 239, 240, 241, 242, 244, 245, 246, 247, 250, 251, 252, 254, 255, 256, 257, 258, 260, 261, 262, 263, 264, 266, 267, 268, 269, 270, 272, 273, 274, 275, 276, 278, 279, 280, 281, 284, 287, 288, 289, 290, 291, 293, 294, 295, 296, 297, 300, 302, 303, 304, 306, 307, 308, 309, 312, 314, 315, 318, 320, 323, 324, 325, 327, 330, 331, 332, 333, 335, 336, 337, 340, 341, 342, 345, 346, 347, 349, 350, 351, 352, 353, 356, 358, 359, 360, 362, 363, 364, 365, 368, 370, 371, 374, 376, 379, 380, 381, 383, 386, 387, 388, 389, 391, 392, 393, 396, 397, 398, 401, 402, 403, 405, 406, 407, 408, 409, 412, 414, 415, 416, 418, 419, 420, 421, 424, 426, 427, 430, 432, 435, 436, 437, 439, 442, 443, 444, 445, 447, 448, 449, 452, 453, 454, 457, 458, 459, 461, 462, 463, 464, 465, 468, 470, 471, 472, 474, 475, 476, 477, 480, 482, 483, 486, 488, 491, 492, 493, 495, 498, 499, 500, 501, 503, 504, 505, 508, 509, 510, 513, 514, 515, 517, 518, 519, 520, 521, 524, 526, 527, 528, 530, 531, 532, 533, 536, 538, 539, 542, 544, 547, 548, 549, 551, 554, 555, 556, 557, 559, 560, 561, 564, 565, 566, 569, 570, 573, 574, 577, 580, 581, 582, 583, 586, 587, 590, 593, 594, 595, 596, 597, 599, 600, 601, 602, 603, 606, 608, 609, 610, 612, 613, 614, 615, 618, 620, 621, 624, 626, 629, 630, 631, 633, 636, 637, 638, 639, 641, 642, 643, 646, 647, 648, 651, 652, 653, 655, 656, 657, 658, 659, 661, 662, 663, 664, 665, 668, 670, 671, 672, 674, 675, 676, 677, 678, 680, 681, 682, 683, 686, 688, 689, 692, 694, 697, 698, 699, 701, 704, 705, 706, 707, 709, 710, 711, 714, 715, 716, 719, 720, 721, 723, 724, 725, 726, 727, 729, 730, 731, 732, 733, 736, 738, 739, 740, 742, 743, 744, 745, 746, 748, 749, 750, 751, 754, 756, 757, 760, 762, 765, 766, 767, 769, 772, 773, 774, 775, 777, 778, 779, 782, 783, 784, 787, 788, 789, 791, 792, 793, 794, 795, 797, 798, 799, 800, 801, 804, 806, 807, 808, 810, 811, 812, 813, 814, 816, 817, 818, 819, 822, 824, 825, 828, 830, 833, 834, 835, 837, 840, 841, 842, 843, 845, 846, 847, 850, 851, 852, 855, 856, 857, 859, 860, 861, 862, 863, 866, 868, 869, 870, 872, 873, 874, 875, 878, 880, 881, 884, 886, 889, 890, 891, 893, 896, 897, 898, 899, 901, 902, 903, 906, 907, 908, 911, 912, 913, 915, 916, 917, 918, 919, 921, 922, 923, 924, 925, 927, 928, 929, 930, 931, 933, 934, 935, 936, 937, 939, 940, 941, 942, 943, 945, 947, 948, 949, 950, 952, 954, 955, 956, 957, 960, 962, 963, 964, 966, 967, 968, 969, 970, 972, 973, 974, 975, 976, 978, 979, 980, 981, 982, 984, 985, 986, 987, 988, 990, 991, 992, 993, 994, 996, 998, 999, 1000, 1001, 1003, 1005, 1006, 1007, 1010, 1012, 1013, 1016, 1018, 1021, 1022, 1023, 1025, 1028, 1029, 1030, 1031, 1033, 1034, 1035, 1038, 1039, 1040, 1043, 1044, 1045, 1047, 1048, 1049, 1050, 1051, 1053, 1054, 1055, 1056, 1057, 1060, 1062, 1063, 1064, 1066, 1067, 1068, 1069, 1070, 1072, 1073, 1074, 1075, 1078, 1080, 1081, 1084, 1086, 1089, 1090, 1091, 1093, 1096, 1097, 1098, 1099, 1101, 1102, 1103, 1106, 1107, 1108, 1111, 1112, 1113, 1115, 1116, 1117, 1118, 1119, 1122, 1124, 1125, 1126, 1128, 1129, 1130, 1131, 1134, 1136, 1137, 1140, 1142, 1145, 1146, 1147, 1149, 1152, 1153, 1154, 1155, 1157, 1158, 1159, 1162, 1163, 1164, 1167, 1168, 1169, 1171, 1172, 1173, 1174, 1175, 1177, 1178, 1179, 1180, 1181, 1184, 1186, 1187, 1188, 1190, 1191, 1192, 1193, 1194, 1196, 1197, 1198, 1199, 1202, 1204, 1205, 1208, 1210, 1213, 1214, 1215, 1217, 1220, 1221, 1222, 1223, 1225, 1226, 1227, 1230, 1231, 1232, 1235, 1236, 1237, 1239, 1240, 1241, 1242, 1243, 1245, 1246, 1247, 1248, 1249, 1252, 1254, 1255, 1256, 1258, 1259, 1260, 1261, 1262, 1264, 1265, 1266, 1267, 1270, 1272, 1273, 1276, 1278, 1281, 1282, 1283, 1285, 1288, 1289, 1290, 1291, 1293, 1294, 1295, 1298, 1299, 1300, 1303, 1304, 1305, 1307, 1308, 1309, 1310, 1311, 1313, 1314, 1315, 1316, 1317, 1320, 1322, 1323, 1324, 1326, 1327, 1328, 1329, 1330, 1332, 1333, 1334, 1335, 1338, 1340, 1341, 1344, 1346, 1349, 1350, 1351, 1353, 1356, 1357, 1358, 1359, 1361, 1362, 1363, 1366, 1367, 1368, 1371, 1372, 1373, 1375, 1376, 1377, 1378, 1379, 1382, 1384, 1385, 1386, 1388, 1389, 1390, 1391, 1394, 1396, 1397, 1400, 1402, 1405, 1406, 1407, 1409, 1412, 1413, 1414, 1415, 1417, 1418, 1419, 1422, 1423, 1424, 1427, 1428, 1429, 1431, 1432, 1433, 1434, 1435, 1437, 1438, 1439, 1440, 1441, 1444, 1446, 1447, 1448, 1450, 1451, 1452, 1453, 1454, 1456, 1457, 1458, 1459, 1462, 1464, 1465, 1468, 1470, 1473, 1474, 1475, 1477, 1480, 1481, 1482, 1483, 1485, 1486, 1487, 1490, 1491, 1492, 1495, 1496, 1497, 1499, 1500, 1501, 1502, 1503, 1506, 1508, 1509, 1510, 1512, 1513, 1514, 1515, 1518, 1520, 1521, 1524, 1526, 1529, 1530, 1531, 1533, 1536, 1537, 1538, 1539, 1541, 1542, 1543, 1546, 1547, 1548, 1551, 1552, 1555, 1556, 1559, 1562, 1563, 1564, 1565, 1566, 1568, 1569, 1570, 1571, 1572, 1574, 1575, 1576, 1577, 1578, 1580, 1581, 1582, 1583, 1584, 1587, 1589, 1590, 1591, 1593, 1594, 1595, 1596, 1597, 1599, 1600, 1601, 1602, 1603, 1605, 1606, 1607, 1608, 1611, 1613, 1614, 1617, 1619, 1622, 1623, 1624, 1626, 1629, 1630, 1631, 1632, 1634, 1635, 1638, 1639, 1640, 1643, 1644, 1645, 1647, 1648, 1649, 1650, 1651, 1653, 1654, 1655, 1656, 1657, 1660, 1662, 1663, 1664, 1666, 1667, 1668, 1669, 1670, 1672, 1673, 1674, 1675, 1678, 1680, 1681, 1684, 1686, 1689, 1690, 1691, 1693, 1696, 1697, 1698, 1699, 1701, 1702, 1703, 1706, 1707, 1708, 1711, 1712, 1715, 1716, 1719, 1722, 1723, 1724, 1725, 1728, 1729, 1732, 1735, 1736, 1737, 1738, 1739, 1741, 1742, 1743, 1744, 1745, 1748, 1750, 1751, 1752, 1754, 1755, 1756, 1757, 1760, 1762, 1763, 1766, 1768, 1771, 1772, 1773, 1775, 1778, 1779, 1780, 1781, 1783, 1784, 1785, 1788, 1789, 1790, 1793, 1794, 1795, 1797, 1798, 1799, 1800, 1801, 1803, 1804, 1805, 1806, 1807, 1809, 1810, 1811, 1812, 1813, 1815, 1816, 1817, 1818, 1819, 1821, 1822, 1823, 1824, 1825, 1828, 1830, 1831, 1832, 1834, 1835, 1836, 1837, 1838, 1840, 1841, 1842, 1843, 1844, 1846, 1847, 1848, 1849, 1850, 1852, 1853, 1854, 1855, 1856, 1858, 1859, 1860, 1861, 1864, 1866, 1867, 1870, 1872, 1875, 1876, 1877, 1879, 1882, 1883, 1884, 1885, 1887, 1888, 1891, 1892, 1893, 1896, 1897, 1898, 1900, 1901, 1902, 1903, 1904, 1906, 1907, 1908, 1909, 1910, 1913, 1915, 1916, 1917, 1919, 1920, 1921, 1922, 1923, 1925, 1926, 1927, 1928, 1931, 1933, 1934, 1937, 1939, 1942, 1943, 1944, 1946, 1949, 1950, 1951, 1952, 1954, 1955, 1956, 1959, 1960, 1961, 1964, 1965, 1966, 1968, 1969, 1970, 1971, 1972, 1975, 1977, 1978, 1979, 1981, 1982, 1983, 1984, 1987, 1989, 1990, 1993, 1995, 1998, 1999, 2000, 2002, 2005, 2006, 2007, 2008, 2010, 2011, 2012, 2015, 2016, 2017, 2020, 2021, 2022, 2024, 2025, 2026, 2027, 2028, 2030, 2031, 2032, 2033, 2034, 2037, 2039, 2040, 2041, 2043, 2044, 2045, 2046, 2047, 2049, 2050, 2051, 2052, 2055, 2057, 2058, 2061, 2063, 2066, 2067, 2068, 2070, 2073, 2074, 2075, 2076, 2078, 2079, 2080, 2083, 2084, 2085, 2088, 2089, 2092, 2093, 2096, 2099, 2100, 2101, 2102, 2105, 2106, 2109, 2112, 2113, 2114, 2115, 2116, 2118, 2119, 2120, 2121, 2122, 2124, 2125, 2126, 2127, 2128, 2130, 2131, 2132, 2133, 2134, 2136, 2137, 2138, 2139, 2140, 2143, 2145, 2146, 2147, 2149, 2150, 2151, 2152, 2153, 2155, 2156, 2157, 2158, 2159, 2161, 2162, 2163, 2164, 2165, 2167, 2168, 2169, 2170, 2173, 2175, 2176, 2179, 2181, 2184, 2185, 2186, 2188, 2191, 2192, 2193, 2194, 2196, 2197, 2198, 2201, 2202, 2203, 2206, 2207, 2208, 2210, 2211, 2212, 2213, 2214, 2216, 2217, 2218, 2219, 2220, 2222, 2223, 2224, 2225, 2226, 2228, 2229, 2230, 2231, 2232, 2234, 2235, 2236, 2237, 2238, 2240, 2242, 2243, 2244, 2245, 2248, 2250, 2251, 2252, 2254, 2255, 2256, 2257, 2258, 2260, 2261, 2262, 2263, 2264, 2266, 2267, 2268, 2269, 2270, 2272, 2273, 2274, 2275, 2276, 2278, 2279, 2280, 2281, 2282, 2284, 2286, 2287, 2288, 2291, 2293, 2294, 2297, 2299, 2302, 2303, 2304, 2306, 2309, 2310, 2311, 2312, 2314, 2315, 2316, 2319, 2320, 2321, 2324, 2325, 2328, 2329, 2332, 2335, 2336, 2337, 2338, 2341, 2342, 2345, 2348, 2349, 2350, 2351, 2352, 2354, 2355, 2356, 2357, 2360, 2361, 2362, 2364, 2365, 2366, 2367, 2370, 2373, 2374, 2375, 2376, 2377, 2379, 2380, 2381, 2382, 2385, 2386, 2387, 2389, 2390, 2391, 2392, 2395, 2398, 2399, 2400, 2403, 2406, 2407, 2408]
set_option maxRecDepth 100000 in
noncomputable def pg_pl (k : Nat) : List Nat := ([pp_0, pp_1, pp_2, pp_3, pp_4, pp_5, pp_6, pp_7, pp_8, pp_9, pp_10, pp_11, pp_12, pp_13, pp_14, pp_15, pp_16, pp_17, pp_18, pp_19, pp_20, pp_21, pp_22, pp_23, pp_24, pp_25, pp_26, pp_27, pp_28, pp_29, pp_30, pp_31, pp_32, pp_33, pp_34, pp_35, pp_36, pp_37, pp_38, pp_39, pp_40, pp_41, pp_42, pp_43, pp_44, pp_45, pp_46, pp_47, pp_48, pp_49, pp_50, pp_51, pp_52, pp_53, pp_54, pp_55, pp_56, pp_57, pp_58, pp_59, pp_60, pp_61, pp_62, pp_63, pp_64, pp_65, pp_66, pp_67, pp_68, pp_69, pp_70, pp_71, pp_72, pp_73, pp_74, pp_75, pp_76, pp_77, pp_78, pp_79, pp_80, pp_81, pp_82, pp_83, pp_84, pp_85, pp_86, pp_87, pp_88, pp_89, pp_90, pp_91, pp_92, pp_93, pp_94, pp_95, pp_96, pp_97, pp_98, pp_99, pp_100, pp_101, pp_102, pp_103, pp_104, pp_105, pp_106, pp_107, pp_108, pp_109, pp_110, pp_111, pp_112, pp_113, pp_114, pp_115, pp_116, pp_117, pp_118, pp_119, pp_120, pp_121, pp_122, pp_123, pp_124, pp_125, pp_126, pp_127, pp_128, pp_129, pp_130, pp_131, pp_132, pp_133, pp_134, pp_135, pp_136, pp_137, pp_138, pp_139, pp_140, pp_141, pp_142, pp_143, pp_144, pp_145, pp_146, pp_147, pp_148, pp_149, pp_150, pp_151, pp_152, pp_153, pp_154, pp_155, pp_156, pp_157, pp_158, pp_159, pp_160, pp_161, pp_162, pp_163, pp_164, pp_165, pp_166, pp_167, pp_168, pp_169, pp_170, pp_171, pp_172, pp_173, pp_174, pp_175, pp_176, pp_177, pp_178, pp_179, pp_180, pp_181, pp_182, pp_183, pp_184, pp_185, pp_186, pp_187, pp_188, pp_189, pp_190, pp_191, pp_192, pp_193, pp_194, pp_195, pp_196, pp_197, pp_198, pp_199, pp_200, pp_201, pp_202, pp_203, pp_204, pp_205, pp_206, pp_207, pp_208, pp_209, pp_210, pp_211, pp_212, pp_213, pp_214, pp_215, pp_216, pp_217, pp_218, pp_219, pp_220, pp_221, pp_222, pp_223, pp_224, pp_225, pp_226, pp_227, pp_228, pp_229, pp_230, pp_231, pp_232, pp_233, pp_234, pp_235, pp_236, pp_237, pp_238, pp_239, pp_240, pp_241, pp_242, pp_243, pp_244, pp_245, pp_246, pp_247, pp_248, pp_249, pp_250, pp_251, pp_252, pp_253, pp_254, pp_255, pp_256, pp_257, pp_258, pp_259, pp_260, pp_261, pp_262, pp_263, pp_264, pp_265, pp_266, pp_267, pp_268, pp_269, pp_270, pp_271, pp_272, pp_273, pp_274, pp_275, pp_276, pp_277, pp_278, pp_279, pp_280, pp_281, pp_282, pp_283, pp_284, pp_285, pp_286, pp_287, pp_288, pp_289, pp_290, pp_291, pp_292, pp_293, pp_294, pp_295, pp_296, pp_297, pp_298, pp_299, pp_300, pp_301, pp_302, pp_303, pp_304, pp_305, pp_306, pp_307, pp_308, pp_309, pp_310, pp_311, pp_312, pp_313, pp_314, pp_315, pp_316, pp_317, pp_318, pp_319, pp_320, pp_321, pp_322, pp_323, pp_324, pp_325, pp_326, pp_327, pp_328, pp_329, pp_330, pp_331, pp_332, pp_333, pp_334, pp_335, pp_336, pp_337, pp_338, pp_339, pp_340, pp_341] : List (List Nat)).getD k []
noncomputable def pg_pc (k i : Nat) : Nat := (pg_pl k).getD i 0
set_option maxRecDepth 100000 in
noncomputable def pg_xn (k : Nat) : String := pg_R k
set_option maxRecDepth 100000 in
noncomputable def pg_fty (c : Nat) : Nat → FieldType := ([tyX0, tyX1, tyX2, tyX3, tyX4, tyX5, tyX6, tyX7, tyX8, tyX9, tyX10, tyX11, tyX12] : List (Nat → FieldType)).getD c (fun _ => .int)
set_option maxRecDepth 100000 in
noncomputable def pg_df (c : Nat) : List Value := ([[.null, .null, .null, .null, .null, .null, .int 0, .int 0, .int 0, .int 0], [.null, .null, .null, .null, .int 0], [.null, .null, .null, .int 0, .int 0], [.null], [.int 0, .int 0, .int 0, .int 0, .int 0, .int 0, .null], [.null, .null, .null, .null, .int 0, .int 0], [.null, .null, .int 0], [.int 0, .int 0, .null, .null, .null, .null, .null], [.null, .int 0, .int 0, .int 0, .int 0, .int 0, .int 0], [.int 0, .int 0, .int 0, .null, .null, .null], [.null, .int 0], [.null, .null, .null, .null, .null, .null, .null, .null, .null, .null, .null, .int 0, .null, .null, .null, .null, .null, .int 0, .int 0, .int 0], [.int 0, .null, .int 0, .int 0, .int 0, .int 0, .int 0, .int 0, .int 0, .null, .null, .null, .null, .null, .null, .null, .int 0, .int 0, .int 0, .int 0, .int 0, .int 0, .null, .null, .null, .null, .null, .int 0, .int 0, .null, .null, .null, .int 0, .int 0, .int 0, .int 0, .int 0, .int 0, .null, .null, .null, .int 0, .int 0, .null, .null, .null, .null, .null, .null, .null, .null, .null, .null, .null, .null, .null, .int 0, .null, .int 0]] : List (List Value)).getD c []
/-- the texts, byte by byte -/
def pg_tx : List (List Int32) := [[97, 110, 32, 97, 114, 103, 117, 109, 101, 110, 116, 32, 105, 115, 32, 111, 117, 116, 32, 111, 102, 32, 105, 116, 115, 32, 114, 97, 110, 103, 101], [99, 111, 114, 110, 101, 114], [119, 97, 121], [109, 97, 110], [98, 114, 101, 97, 116, 104], [119, 104, 105, 115, 116, 108, 101], [98, 108, 111, 119, 110], [115, 97, 109, 101], [102, 111, 103], [109, 101, 110], [110, 105, 103, 104, 116], [108, 101, 97, 115, 116], [109, 111, 115, 116], [98, 108, 111, 119], [114, 101, 115, 116], [119, 97, 108, 107], [97, 103, 97, 105, 110], [110, 111, 32, 115, 117, 99, 104, 32, 99, 111, 114, 110, 101, 114, 32, 111, 114, 32, 109, 97, 110]]
set_option maxRecDepth 100000 in
noncomputable def pg_txt (j : Nat) : String := (["an argument is out of its range", "corner", "way", "man", "breath", "whistle", "blown", "same", "fog", "men", "night", "least", "most", "blow", "rest", "walk", "again", "no such corner or man"] : List String).getD j ""
