set_option maxRecDepth 20000 in
theorem ggX1_moveInto_X1_pieceAt : GoodIn wsX1_moveInto wsX1_pieceAt := goodIn_r _ [79, 1, 2, 87, 88, 89] (by decide +kernel) (by decide +kernel)
set_option maxRecDepth 20000 in
theorem gX1_moveInto_X1_pieceAt : GoodIn wsX1_moveInto (wsV RX1 81 RX1 yX1_pieceAt wsX1_pieceAt) := goodIn_app (goodIn_of _ (by decide +kernel)) ggX1_moveInto_X1_pieceAt
set_option maxRecDepth 20000 in
theorem ggX1_moveInto_X0_addEntry : GoodIn wsX1_moveInto wsX0_addEntry := goodIn_r _ [83, 15, 84, 85, 86, 93, 94, 95, 96, 97, 98, 99, 100] (by decide +kernel) (by decide +kernel)
set_option maxRecDepth 20000 in
theorem gX1_moveInto_X0_addEntry : GoodIn wsX1_moveInto (wsV RX1 104 RX0 yX0_addEntry wsX0_addEntry) := goodIn_app (goodIn_of _ (by decide +kernel)) ggX1_moveInto_X0_addEntry
theorem dX1_moveInto_0 : decode cX1_moveInto 0 = .ok (.aload_n 1, 1) := by decide +kernel
theorem dX1_moveInto_1 : decode cX1_moveInto 1 = .ok (.invokevirtual 85, 3) := by decide +kernel
theorem dX1_moveInto_4 : decode cX1_moveInto 4 = .ok (.iconst 0, 1) := by decide +kernel
theorem dX1_moveInto_5 : decode cX1_moveInto 5 = .ok (.istore_n 3, 1) := by decide +kernel
theorem dX1_moveInto_6 : decode cX1_moveInto 6 = .ok (.iload_n 3, 1) := by decide +kernel
theorem dX1_moveInto_7 : decode cX1_moveInto 7 = .ok (.aload_n 0, 1) := by decide +kernel
theorem dX1_moveInto_8 : decode cX1_moveInto 8 = .ok (.getfield 15, 3) := by decide +kernel
theorem dX1_moveInto_11 : decode cX1_moveInto 11 = .ok (.if_icmp .ge 66, 3) := by decide +kernel
theorem dX1_moveInto_14 : decode cX1_moveInto 14 = .ok (.aload_n 0, 1) := by decide +kernel
theorem dX1_moveInto_15 : decode cX1_moveInto 15 = .ok (.getfield 9, 3) := by decide +kernel
theorem dX1_moveInto_18 : decode cX1_moveInto 18 = .ok (.iload_n 3, 1) := by decide +kernel
theorem dX1_moveInto_19 : decode cX1_moveInto 19 = .ok (.iaload, 1) := by decide +kernel
theorem dX1_moveInto_20 : decode cX1_moveInto 20 = .ok (.istore 4, 2) := by decide +kernel
theorem dX1_moveInto_22 : decode cX1_moveInto 22 = .ok (.aload_n 2, 1) := by decide +kernel
theorem dX1_moveInto_23 : decode cX1_moveInto 23 = .ok (.iload 4, 2) := by decide +kernel
theorem dX1_moveInto_25 : decode cX1_moveInto 25 = .ok (.iconst 4, 1) := by decide +kernel
theorem dX1_moveInto_26 : decode cX1_moveInto 26 = .ok (.iadd, 1) := by decide +kernel
theorem dX1_moveInto_27 : decode cX1_moveInto 27 = .ok (.invokevirtual 41, 3) := by decide +kernel
theorem dX1_moveInto_30 : decode cX1_moveInto 30 = .ok (.l2i, 1) := by decide +kernel
theorem dX1_moveInto_31 : decode cX1_moveInto 31 = .ok (.istore 5, 2) := by decide +kernel
theorem dX1_moveInto_33 : decode cX1_moveInto 33 = .ok (.new 33, 3) := by decide +kernel
theorem dX1_moveInto_36 : decode cX1_moveInto 36 = .ok (.dup, 1) := by decide +kernel
theorem dX1_moveInto_37 : decode cX1_moveInto 37 = .ok (.aload_n 2, 1) := by decide +kernel
theorem dX1_moveInto_38 : decode cX1_moveInto 38 = .ok (.getfield 90, 3) := by decide +kernel
theorem dX1_moveInto_41 : decode cX1_moveInto 41 = .ok (.aload_n 2, 1) := by decide +kernel
theorem dX1_moveInto_42 : decode cX1_moveInto 42 = .ok (.getfield 94, 3) := by decide +kernel
theorem dX1_moveInto_45 : decode cX1_moveInto 45 = .ok (.iload 4, 2) := by decide +kernel
theorem dX1_moveInto_47 : decode cX1_moveInto 47 = .ok (.iadd, 1) := by decide +kernel
theorem dX1_moveInto_48 : decode cX1_moveInto 48 = .ok (.bipush 8, 2) := by decide +kernel
theorem dX1_moveInto_50 : decode cX1_moveInto 50 = .ok (.iadd, 1) := by decide +kernel
theorem dX1_moveInto_51 : decode cX1_moveInto 51 = .ok (.iload 5, 2) := by decide +kernel
theorem dX1_moveInto_53 : decode cX1_moveInto 53 = .ok (.invokespecial 97, 3) := by decide +kernel
theorem dX1_moveInto_56 : decode cX1_moveInto 56 = .ok (.astore 6, 2) := by decide +kernel
theorem dX1_moveInto_58 : decode cX1_moveInto 58 = .ok (.aload_n 1, 1) := by decide +kernel
theorem dX1_moveInto_59 : decode cX1_moveInto 59 = .ok (.aload_n 2, 1) := by decide +kernel
theorem dX1_moveInto_60 : decode cX1_moveInto 60 = .ok (.iload 4, 2) := by decide +kernel
theorem dX1_moveInto_62 : decode cX1_moveInto 62 = .ok (.invokevirtual 41, 3) := by decide +kernel
theorem dX1_moveInto_65 : decode cX1_moveInto 65 = .ok (.l2i, 1) := by decide +kernel
theorem dX1_moveInto_66 : decode cX1_moveInto 66 = .ok (.aload 6, 2) := by decide +kernel
theorem dX1_moveInto_68 : decode cX1_moveInto 68 = .ok (.invokevirtual 100, 3) := by decide +kernel
theorem dX1_moveInto_71 : decode cX1_moveInto 71 = .ok (.iinc 3 1, 3) := by decide +kernel
theorem dX1_moveInto_74 : decode cX1_moveInto 74 = .ok (.goto (-68), 3) := by decide +kernel
theorem dX1_moveInto_77 : decode cX1_moveInto 77 = .ok (.aload_n 2, 1) := by decide +kernel
theorem dX1_moveInto_78 : decode cX1_moveInto 78 = .ok (.bipush 20, 2) := by decide +kernel
theorem dX1_moveInto_80 : decode cX1_moveInto 80 = .ok (.invokevirtual 41, 3) := by decide +kernel
theorem dX1_moveInto_83 : decode cX1_moveInto 83 = .ok (.lstore_n 3, 1) := by decide +kernel
theorem dX1_moveInto_84 : decode cX1_moveInto 84 = .ok (.iconst 0, 1) := by decide +kernel
theorem dX1_moveInto_85 : decode cX1_moveInto 85 = .ok (.istore 5, 2) := by decide +kernel
theorem dX1_moveInto_87 : decode cX1_moveInto 87 = .ok (.iload 5, 2) := by decide +kernel
theorem dX1_moveInto_89 : decode cX1_moveInto 89 = .ok (.i2l, 1) := by decide +kernel
theorem dX1_moveInto_90 : decode cX1_moveInto 90 = .ok (.lload_n 3, 1) := by decide +kernel
theorem dX1_moveInto_91 : decode cX1_moveInto 91 = .ok (.lcmp, 1) := by decide +kernel
theorem dX1_moveInto_92 : decode cX1_moveInto 92 = .ok (.ifCond .ge 58, 3) := by decide +kernel
theorem dX1_moveInto_95 : decode cX1_moveInto 95 = .ok (.iload 5, 2) := by decide +kernel
theorem dX1_moveInto_97 : decode cX1_moveInto 97 = .ok (.bipush 40, 2) := by decide +kernel
theorem dX1_moveInto_99 : decode cX1_moveInto 99 = .ok (.if_icmp .ge 51, 3) := by decide +kernel
theorem dX1_moveInto_102 : decode cX1_moveInto 102 = .ok (.bipush 24, 2) := by decide +kernel
theorem dX1_moveInto_104 : decode cX1_moveInto 104 = .ok (.bipush 12, 2) := by decide +kernel
theorem dX1_moveInto_106 : decode cX1_moveInto 106 = .ok (.iload 5, 2) := by decide +kernel
theorem dX1_moveInto_108 : decode cX1_moveInto 108 = .ok (.imul, 1) := by decide +kernel
theorem dX1_moveInto_109 : decode cX1_moveInto 109 = .ok (.iadd, 1) := by decide +kernel
theorem dX1_moveInto_110 : decode cX1_moveInto 110 = .ok (.istore 6, 2) := by decide +kernel
theorem dX1_moveInto_112 : decode cX1_moveInto 112 = .ok (.aload_n 1, 1) := by decide +kernel
theorem dX1_moveInto_113 : decode cX1_moveInto 113 = .ok (.aload_n 2, 1) := by decide +kernel
theorem dX1_moveInto_114 : decode cX1_moveInto 114 = .ok (.iload 6, 2) := by decide +kernel
theorem dX1_moveInto_116 : decode cX1_moveInto 116 = .ok (.invokevirtual 41, 3) := by decide +kernel
theorem dX1_moveInto_119 : decode cX1_moveInto 119 = .ok (.l2i, 1) := by decide +kernel
theorem dX1_moveInto_120 : decode cX1_moveInto 120 = .ok (.aload_n 2, 1) := by decide +kernel
theorem dX1_moveInto_121 : decode cX1_moveInto 121 = .ok (.iload 6, 2) := by decide +kernel
theorem dX1_moveInto_123 : decode cX1_moveInto 123 = .ok (.iconst 4, 1) := by decide +kernel
theorem dX1_moveInto_124 : decode cX1_moveInto 124 = .ok (.iadd, 1) := by decide +kernel
theorem dX1_moveInto_125 : decode cX1_moveInto 125 = .ok (.invokevirtual 41, 3) := by decide +kernel
theorem dX1_moveInto_128 : decode cX1_moveInto 128 = .ok (.aload_n 0, 1) := by decide +kernel
theorem dX1_moveInto_129 : decode cX1_moveInto 129 = .ok (.aload_n 2, 1) := by decide +kernel
theorem dX1_moveInto_130 : decode cX1_moveInto 130 = .ok (.iload 6, 2) := by decide +kernel
theorem dX1_moveInto_132 : decode cX1_moveInto 132 = .ok (.bipush 8, 2) := by decide +kernel
theorem dX1_moveInto_134 : decode cX1_moveInto 134 = .ok (.iadd, 1) := by decide +kernel
theorem dX1_moveInto_135 : decode cX1_moveInto 135 = .ok (.invokevirtual 41, 3) := by decide +kernel
theorem dX1_moveInto_138 : decode cX1_moveInto 138 = .ok (.invokevirtual 81, 3) := by decide +kernel
theorem dX1_moveInto_141 : decode cX1_moveInto 141 = .ok (.invokevirtual 104, 3) := by decide +kernel
theorem dX1_moveInto_144 : decode cX1_moveInto 144 = .ok (.iinc 5 1, 3) := by decide +kernel
theorem dX1_moveInto_147 : decode cX1_moveInto 147 = .ok (.goto (-60), 3) := by decide +kernel
theorem dX1_moveInto_150 : decode cX1_moveInto 150 = .ok (.return_, 1) := by decide +kernel
set_option maxRecDepth 20000 in
theorem ggX2_isKind_X2_isLetter : GoodIn wsX2_isKind wsX2_isLetter := goodIn_r _ [4] (by decide +kernel) (by decide +kernel)
set_option maxRecDepth 20000 in
theorem gX2_isKind_X2_isLetter : GoodIn wsX2_isKind (va_wsS RX2 7 yX2_isLetter wsX2_isLetter) := goodIn_app (goodIn_of _ (by decide +kernel)) ggX2_isKind_X2_isLetter
theorem dX2_isKind_0 : decode cX2_isKind 0 = .ok (.iload_n 0, 1) := by decide +kernel
theorem dX2_isKind_1 : decode cX2_isKind 1 = .ok (.bipush 24, 2) := by decide +kernel
theorem dX2_isKind_3 : decode cX2_isKind 3 = .ok (.iushr, 1) := by decide +kernel
theorem dX2_isKind_4 : decode cX2_isKind 4 = .ok (.invokestatic 7, 3) := by decide +kernel
theorem dX2_isKind_7 : decode cX2_isKind 7 = .ok (.ifCond .eq 46, 3) := by decide +kernel
theorem dX2_isKind_10 : decode cX2_isKind 10 = .ok (.iload_n 0, 1) := by decide +kernel
theorem dX2_isKind_11 : decode cX2_isKind 11 = .ok (.bipush 16, 2) := by decide +kernel
theorem dX2_isKind_13 : decode cX2_isKind 13 = .ok (.iushr, 1) := by decide +kernel
theorem dX2_isKind_14 : decode cX2_isKind 14 = .ok (.sipush 255, 3) := by decide +kernel
theorem dX2_isKind_17 : decode cX2_isKind 17 = .ok (.iand, 1) := by decide +kernel
theorem dX2_isKind_18 : decode cX2_isKind 18 = .ok (.invokestatic 7, 3) := by decide +kernel
theorem dX2_isKind_21 : decode cX2_isKind 21 = .ok (.ifCond .eq 32, 3) := by decide +kernel
theorem dX2_isKind_24 : decode cX2_isKind 24 = .ok (.iload_n 0, 1) := by decide +kernel
theorem dX2_isKind_25 : decode cX2_isKind 25 = .ok (.bipush 8, 2) := by decide +kernel
theorem dX2_isKind_27 : decode cX2_isKind 27 = .ok (.iushr, 1) := by decide +kernel
theorem dX2_isKind_28 : decode cX2_isKind 28 = .ok (.sipush 255, 3) := by decide +kernel
theorem dX2_isKind_31 : decode cX2_isKind 31 = .ok (.iand, 1) := by decide +kernel
theorem dX2_isKind_32 : decode cX2_isKind 32 = .ok (.invokestatic 7, 3) := by decide +kernel
theorem dX2_isKind_35 : decode cX2_isKind 35 = .ok (.ifCond .eq 18, 3) := by decide +kernel
theorem dX2_isKind_38 : decode cX2_isKind 38 = .ok (.iload_n 0, 1) := by decide +kernel
theorem dX2_isKind_39 : decode cX2_isKind 39 = .ok (.sipush 255, 3) := by decide +kernel
theorem dX2_isKind_42 : decode cX2_isKind 42 = .ok (.iand, 1) := by decide +kernel
theorem dX2_isKind_43 : decode cX2_isKind 43 = .ok (.invokestatic 7, 3) := by decide +kernel
theorem dX2_isKind_46 : decode cX2_isKind 46 = .ok (.ifCond .eq 7, 3) := by decide +kernel
theorem dX2_isKind_49 : decode cX2_isKind 49 = .ok (.iconst 1, 1) := by decide +kernel
theorem dX2_isKind_50 : decode cX2_isKind 50 = .ok (.goto 4, 3) := by decide +kernel
theorem dX2_isKind_53 : decode cX2_isKind 53 = .ok (.iconst 0, 1) := by decide +kernel
theorem dX2_isKind_54 : decode cX2_isKind 54 = .ok (.ireturn, 1) := by decide +kernel
theorem dX2_isLetter_0 : decode cX2_isLetter 0 = .ok (.iload_n 0, 1) := by decide +kernel
theorem dX2_isLetter_1 : decode cX2_isLetter 1 = .ok (.bipush 32, 2) := by decide +kernel
theorem dX2_isLetter_3 : decode cX2_isLetter 3 = .ok (.if_icmp .lt 13, 3) := by decide +kernel
theorem dX2_isLetter_6 : decode cX2_isLetter 6 = .ok (.iload_n 0, 1) := by decide +kernel
theorem dX2_isLetter_7 : decode cX2_isLetter 7 = .ok (.bipush 126, 2) := by decide +kernel
theorem dX2_isLetter_9 : decode cX2_isLetter 9 = .ok (.if_icmp .gt 7, 3) := by decide +kernel
theorem dX2_isLetter_12 : decode cX2_isLetter 12 = .ok (.iconst 1, 1) := by decide +kernel
theorem dX2_isLetter_13 : decode cX2_isLetter 13 = .ok (.goto 4, 3) := by decide +kernel
theorem dX2_isLetter_16 : decode cX2_isLetter 16 = .ok (.iconst 0, 1) := by decide +kernel
theorem dX2_isLetter_17 : decode cX2_isLetter 17 = .ok (.ireturn, 1) := by decide +kernel
theorem dX2_isUse_0 : decode cX2_isUse 0 = .ok (.iload_n 0, 1) := by decide +kernel
theorem dX2_isUse_1 : decode cX2_isUse 1 = .ok (.ldc 13, 2) := by decide +kernel
theorem dX2_isUse_3 : decode cX2_isUse 3 = .ok (.if_icmp .eq 21, 3) := by decide +kernel
theorem dX2_isUse_6 : decode cX2_isUse 6 = .ok (.iload_n 0, 1) := by decide +kernel
theorem dX2_isUse_7 : decode cX2_isUse 7 = .ok (.ldc 14, 2) := by decide +kernel
theorem dX2_isUse_9 : decode cX2_isUse 9 = .ok (.if_icmp .eq 15, 3) := by decide +kernel
theorem dX2_isUse_12 : decode cX2_isUse 12 = .ok (.iload_n 0, 1) := by decide +kernel
theorem dX2_isUse_13 : decode cX2_isUse 13 = .ok (.ldc 15, 2) := by decide +kernel
theorem dX2_isUse_15 : decode cX2_isUse 15 = .ok (.if_icmp .eq 9, 3) := by decide +kernel
theorem dX2_isUse_18 : decode cX2_isUse 18 = .ok (.iload_n 0, 1) := by decide +kernel
theorem dX2_isUse_19 : decode cX2_isUse 19 = .ok (.ldc 16, 2) := by decide +kernel
theorem dX2_isUse_21 : decode cX2_isUse 21 = .ok (.if_icmp .ne 7, 3) := by decide +kernel
theorem dX2_isUse_24 : decode cX2_isUse 24 = .ok (.iconst 1, 1) := by decide +kernel
theorem dX2_isUse_25 : decode cX2_isUse 25 = .ok (.goto 4, 3) := by decide +kernel
theorem dX2_isUse_28 : decode cX2_isUse 28 = .ok (.iconst 0, 1) := by decide +kernel
theorem dX2_isUse_29 : decode cX2_isUse 29 = .ok (.ireturn, 1) := by decide +kernel
set_option maxRecDepth 20000 in
theorem ggX2_goTogether_X3_u4 : GoodIn wsX2_goTogether wsX3_u4 := goodIn_r _ [17, 18, 19, 20, 16, 21, 22, 23, 24, 25, 26, 27, 28, 29, 30, 31, 32, 33, 34, 35] (by decide +kernel) (by decide +kernel)
set_option maxRecDepth 20000 in
theorem gX2_goTogether_X3_u4 : GoodIn wsX2_goTogether (wsV RX2 24 RX3 yX3_u4 wsX3_u4) := goodIn_app (goodIn_of _ (by decide +kernel)) ggX2_goTogether_X3_u4
theorem dX2_goTogether_0 : decode cX2_goTogether 0 = .ok (.iload_n 0, 1) := by decide +kernel
theorem dX2_goTogether_1 : decode cX2_goTogether 1 = .ok (.lookupswitch 151 #[(1147237473, 109), (1165518179, 133), (1349084020, 43), (1399743520, 67)], 43) := by decide +kernel
theorem dX2_goTogether_44 : decode cX2_goTogether 44 = .ok (.iload_n 1, 1) := by decide +kernel
theorem dX2_goTogether_45 : decode cX2_goTogether 45 = .ok (.ldc 17, 2) := by decide +kernel
theorem dX2_goTogether_47 : decode cX2_goTogether 47 = .ok (.if_icmp .eq 15, 3) := by decide +kernel
theorem dX2_goTogether_50 : decode cX2_goTogether 50 = .ok (.iload_n 1, 1) := by decide +kernel
theorem dX2_goTogether_51 : decode cX2_goTogether 51 = .ok (.ldc 18, 2) := by decide +kernel
theorem dX2_goTogether_53 : decode cX2_goTogether 53 = .ok (.if_icmp .eq 9, 3) := by decide +kernel
theorem dX2_goTogether_56 : decode cX2_goTogether 56 = .ok (.iload_n 1, 1) := by decide +kernel
theorem dX2_goTogether_57 : decode cX2_goTogether 57 = .ok (.ldc 19, 2) := by decide +kernel
theorem dX2_goTogether_59 : decode cX2_goTogether 59 = .ok (.if_icmp .ne 7, 3) := by decide +kernel
theorem dX2_goTogether_62 : decode cX2_goTogether 62 = .ok (.iconst 1, 1) := by decide +kernel
theorem dX2_goTogether_63 : decode cX2_goTogether 63 = .ok (.goto 4, 3) := by decide +kernel
theorem dX2_goTogether_66 : decode cX2_goTogether 66 = .ok (.iconst 0, 1) := by decide +kernel
theorem dX2_goTogether_67 : decode cX2_goTogether 67 = .ok (.ireturn, 1) := by decide +kernel
theorem dX2_goTogether_68 : decode cX2_goTogether 68 = .ok (.iload_n 1, 1) := by decide +kernel
theorem dX2_goTogether_69 : decode cX2_goTogether 69 = .ok (.ldc 20, 2) := by decide +kernel
theorem dX2_goTogether_71 : decode cX2_goTogether 71 = .ok (.if_icmp .eq 33, 3) := by decide +kernel
theorem dX2_goTogether_74 : decode cX2_goTogether 74 = .ok (.iload_n 1, 1) := by decide +kernel
theorem dX2_goTogether_75 : decode cX2_goTogether 75 = .ok (.ldc 21, 2) := by decide +kernel
theorem dX2_goTogether_77 : decode cX2_goTogether 77 = .ok (.if_icmp .eq 27, 3) := by decide +kernel
theorem dX2_goTogether_80 : decode cX2_goTogether 80 = .ok (.iload_n 1, 1) := by decide +kernel
theorem dX2_goTogether_81 : decode cX2_goTogether 81 = .ok (.ldc 22, 2) := by decide +kernel
theorem dX2_goTogether_83 : decode cX2_goTogether 83 = .ok (.if_icmp .eq 21, 3) := by decide +kernel
theorem dX2_goTogether_86 : decode cX2_goTogether 86 = .ok (.iload_n 1, 1) := by decide +kernel
theorem dX2_goTogether_87 : decode cX2_goTogether 87 = .ok (.ldc 23, 2) := by decide +kernel
theorem dX2_goTogether_89 : decode cX2_goTogether 89 = .ok (.if_icmp .ne 19, 3) := by decide +kernel
theorem dX2_goTogether_92 : decode cX2_goTogether 92 = .ok (.aload_n 2, 1) := by decide +kernel
theorem dX2_goTogether_93 : decode cX2_goTogether 93 = .ok (.iconst 0, 1) := by decide +kernel
theorem dX2_goTogether_94 : decode cX2_goTogether 94 = .ok (.invokevirtual 24, 3) := by decide +kernel
theorem dX2_goTogether_97 : decode cX2_goTogether 97 = .ok (.ldc2_w 30, 3) := by decide +kernel
theorem dX2_goTogether_100 : decode cX2_goTogether 100 = .ok (.lcmp, 1) := by decide +kernel
theorem dX2_goTogether_101 : decode cX2_goTogether 101 = .ok (.ifCond .ne 7, 3) := by decide +kernel
theorem dX2_goTogether_104 : decode cX2_goTogether 104 = .ok (.iconst 1, 1) := by decide +kernel
theorem dX2_goTogether_105 : decode cX2_goTogether 105 = .ok (.goto 4, 3) := by decide +kernel
theorem dX2_goTogether_108 : decode cX2_goTogether 108 = .ok (.iconst 0, 1) := by decide +kernel
theorem dX2_goTogether_109 : decode cX2_goTogether 109 = .ok (.ireturn, 1) := by decide +kernel
theorem dX2_goTogether_110 : decode cX2_goTogether 110 = .ok (.iload_n 1, 1) := by decide +kernel
theorem dX2_goTogether_111 : decode cX2_goTogether 111 = .ok (.ldc 32, 2) := by decide +kernel
theorem dX2_goTogether_113 : decode cX2_goTogether 113 = .ok (.if_icmp .eq 15, 3) := by decide +kernel
theorem dX2_goTogether_116 : decode cX2_goTogether 116 = .ok (.iload_n 1, 1) := by decide +kernel
theorem dX2_goTogether_117 : decode cX2_goTogether 117 = .ok (.ldc 33, 2) := by decide +kernel
theorem dX2_goTogether_119 : decode cX2_goTogether 119 = .ok (.if_icmp .eq 9, 3) := by decide +kernel
theorem dX2_goTogether_122 : decode cX2_goTogether 122 = .ok (.iload_n 1, 1) := by decide +kernel
theorem dX2_goTogether_123 : decode cX2_goTogether 123 = .ok (.ldc 23, 2) := by decide +kernel
theorem dX2_goTogether_125 : decode cX2_goTogether 125 = .ok (.if_icmp .ne 7, 3) := by decide +kernel
theorem dX2_goTogether_128 : decode cX2_goTogether 128 = .ok (.iconst 1, 1) := by decide +kernel
theorem dX2_goTogether_129 : decode cX2_goTogether 129 = .ok (.goto 4, 3) := by decide +kernel
theorem dX2_goTogether_132 : decode cX2_goTogether 132 = .ok (.iconst 0, 1) := by decide +kernel
theorem dX2_goTogether_133 : decode cX2_goTogether 133 = .ok (.ireturn, 1) := by decide +kernel
theorem dX2_goTogether_134 : decode cX2_goTogether 134 = .ok (.iload_n 1, 1) := by decide +kernel
theorem dX2_goTogether_135 : decode cX2_goTogether 135 = .ok (.ldc 34, 2) := by decide +kernel
theorem dX2_goTogether_137 : decode cX2_goTogether 137 = .ok (.if_icmp .eq 9, 3) := by decide +kernel
theorem dX2_goTogether_140 : decode cX2_goTogether 140 = .ok (.iload_n 1, 1) := by decide +kernel
theorem dX2_goTogether_141 : decode cX2_goTogether 141 = .ok (.ldc 35, 2) := by decide +kernel
theorem dX2_goTogether_143 : decode cX2_goTogether 143 = .ok (.if_icmp .ne 7, 3) := by decide +kernel
theorem dX2_goTogether_146 : decode cX2_goTogether 146 = .ok (.iconst 1, 1) := by decide +kernel
theorem dX2_goTogether_147 : decode cX2_goTogether 147 = .ok (.goto 4, 3) := by decide +kernel
theorem dX2_goTogether_150 : decode cX2_goTogether 150 = .ok (.iconst 0, 1) := by decide +kernel
theorem dX2_goTogether_151 : decode cX2_goTogether 151 = .ok (.ireturn, 1) := by decide +kernel
theorem dX2_goTogether_152 : decode cX2_goTogether 152 = .ok (.iconst 0, 1) := by decide +kernel
theorem dX2_goTogether_153 : decode cX2_goTogether 153 = .ok (.ireturn, 1) := by decide +kernel
theorem dX3_init_0 : decode cX3_init 0 = .ok (.aload_n 0, 1) := by decide +kernel
theorem dX3_init_1 : decode cX3_init 1 = .ok (.invokespecial 1, 3) := by decide +kernel
theorem dX3_init_4 : decode cX3_init 4 = .ok (.iload_n 2, 1) := by decide +kernel
theorem dX3_init_5 : decode cX3_init 5 = .ok (.ifCond .lt 21, 3) := by decide +kernel
theorem dX3_init_8 : decode cX3_init 8 = .ok (.iload_n 3, 1) := by decide +kernel
theorem dX3_init_9 : decode cX3_init 9 = .ok (.ifCond .lt 17, 3) := by decide +kernel
theorem dX3_init_12 : decode cX3_init 12 = .ok (.iload_n 2, 1) := by decide +kernel
theorem dX3_init_13 : decode cX3_init 13 = .ok (.aload_n 1, 1) := by decide +kernel
theorem dX3_init_14 : decode cX3_init 14 = .ok (.getfield 7, 3) := by decide +kernel
theorem dX3_init_17 : decode cX3_init 17 = .ok (.iload_n 3, 1) := by decide +kernel
theorem dX3_init_18 : decode cX3_init 18 = .ok (.isub, 1) := by decide +kernel
theorem dX3_init_19 : decode cX3_init 19 = .ok (.if_icmp .gt 7, 3) := by decide +kernel
theorem dX3_init_22 : decode cX3_init 22 = .ok (.iconst 1, 1) := by decide +kernel
theorem dX3_init_23 : decode cX3_init 23 = .ok (.goto 4, 3) := by decide +kernel
theorem dX3_init_26 : decode cX3_init 26 = .ok (.iconst 0, 1) := by decide +kernel
theorem dX3_init_27 : decode cX3_init 27 = .ok (.istore 4, 2) := by decide +kernel
theorem dX3_init_29 : decode cX3_init 29 = .ok (.aload_n 0, 1) := by decide +kernel
theorem dX3_init_30 : decode cX3_init 30 = .ok (.aload_n 1, 1) := by decide +kernel
theorem dX3_init_31 : decode cX3_init 31 = .ok (.putfield 13, 3) := by decide +kernel
theorem dX3_init_34 : decode cX3_init 34 = .ok (.aload_n 0, 1) := by decide +kernel
theorem dX3_init_35 : decode cX3_init 35 = .ok (.iload 4, 2) := by decide +kernel
theorem dX3_init_37 : decode cX3_init 37 = .ok (.ifCond .eq 7, 3) := by decide +kernel
theorem dX3_init_40 : decode cX3_init 40 = .ok (.iload_n 2, 1) := by decide +kernel
theorem dX3_init_41 : decode cX3_init 41 = .ok (.goto 4, 3) := by decide +kernel
theorem dX3_init_44 : decode cX3_init 44 = .ok (.iconst 0, 1) := by decide +kernel
theorem dX3_init_45 : decode cX3_init 45 = .ok (.putfield 19, 3) := by decide +kernel
theorem dX3_init_48 : decode cX3_init 48 = .ok (.aload_n 0, 1) := by decide +kernel
theorem dX3_init_49 : decode cX3_init 49 = .ok (.iload 4, 2) := by decide +kernel
theorem dX3_init_51 : decode cX3_init 51 = .ok (.ifCond .eq 7, 3) := by decide +kernel
theorem dX3_init_54 : decode cX3_init 54 = .ok (.iload_n 3, 1) := by decide +kernel
theorem dX3_init_55 : decode cX3_init 55 = .ok (.goto 4, 3) := by decide +kernel
theorem dX3_init_58 : decode cX3_init 58 = .ok (.iconst 0, 1) := by decide +kernel
theorem dX3_init_59 : decode cX3_init 59 = .ok (.putfield 22, 3) := by decide +kernel
theorem dX3_init_62 : decode cX3_init 62 = .ok (.return_, 1) := by decide +kernel
theorem dX3_holds_0 : decode cX3_holds 0 = .ok (.iload_n 1, 1) := by decide +kernel
theorem dX3_holds_1 : decode cX3_holds 1 = .ok (.ifCond .lt 17, 3) := by decide +kernel
theorem dX3_holds_4 : decode cX3_holds 4 = .ok (.iload_n 1, 1) := by decide +kernel
theorem dX3_holds_5 : decode cX3_holds 5 = .ok (.aload_n 0, 1) := by decide +kernel
theorem dX3_holds_6 : decode cX3_holds 6 = .ok (.getfield 22, 3) := by decide +kernel
theorem dX3_holds_9 : decode cX3_holds 9 = .ok (.iload_n 2, 1) := by decide +kernel
theorem dX3_holds_10 : decode cX3_holds 10 = .ok (.isub, 1) := by decide +kernel
theorem dX3_holds_11 : decode cX3_holds 11 = .ok (.if_icmp .gt 7, 3) := by decide +kernel
theorem dX3_holds_14 : decode cX3_holds 14 = .ok (.iconst 1, 1) := by decide +kernel
theorem dX3_holds_15 : decode cX3_holds 15 = .ok (.goto 4, 3) := by decide +kernel
theorem dX3_holds_18 : decode cX3_holds 18 = .ok (.iconst 0, 1) := by decide +kernel
theorem dX3_holds_19 : decode cX3_holds 19 = .ok (.ireturn, 1) := by decide +kernel
set_option maxRecDepth 20000 in
theorem ggX3_at_X3_number : GoodIn wsX3_at wsX3_number := goodIn_r _ [5, 6, 7, 8, 9, 10, 11, 12, 4, 13, 14, 15, 16, 17, 18, 19] (by decide +kernel) (by decide +kernel)
set_option maxRecDepth 20000 in
theorem gX3_at_X3_number : GoodIn wsX3_at (wsV RX3 23 RX3 yX3_number wsX3_number) := goodIn_app (goodIn_of _ (by decide +kernel)) ggX3_at_X3_number
theorem dX3_at_0 : decode cX3_at 0 = .ok (.aload_n 0, 1) := by decide +kernel
theorem dX3_at_1 : decode cX3_at 1 = .ok (.iload_n 1, 1) := by decide +kernel
theorem dX3_at_2 : decode cX3_at 2 = .ok (.iconst 1, 1) := by decide +kernel
theorem dX3_at_3 : decode cX3_at 3 = .ok (.invokevirtual 23, 3) := by decide +kernel
theorem dX3_at_6 : decode cX3_at 6 = .ok (.l2i, 1) := by decide +kernel
theorem dX3_at_7 : decode cX3_at 7 = .ok (.ireturn, 1) := by decide +kernel
set_option maxRecDepth 20000 in
theorem ggX3_u2_X3_number : GoodIn wsX3_u2 wsX3_number := goodIn_r _ [5, 6, 7, 8, 9, 10, 11, 12, 4, 13, 14, 15, 16, 17, 18, 19] (by decide +kernel) (by decide +kernel)
set_option maxRecDepth 20000 in
theorem gX3_u2_X3_number : GoodIn wsX3_u2 (wsV RX3 23 RX3 yX3_number wsX3_number) := goodIn_app (goodIn_of _ (by decide +kernel)) ggX3_u2_X3_number
theorem dX3_u2_0 : decode cX3_u2 0 = .ok (.aload_n 0, 1) := by decide +kernel
theorem dX3_u2_1 : decode cX3_u2 1 = .ok (.iload_n 1, 1) := by decide +kernel
theorem dX3_u2_2 : decode cX3_u2 2 = .ok (.iconst 2, 1) := by decide +kernel
theorem dX3_u2_3 : decode cX3_u2 3 = .ok (.invokevirtual 23, 3) := by decide +kernel
theorem dX3_u2_6 : decode cX3_u2 6 = .ok (.l2i, 1) := by decide +kernel
theorem dX3_u2_7 : decode cX3_u2 7 = .ok (.ireturn, 1) := by decide +kernel
set_option maxRecDepth 20000 in
theorem ggX3_u4_X3_number : GoodIn wsX3_u4 wsX3_number := goodIn_r _ [5, 6, 7, 8, 9, 10, 11, 12, 4, 13, 14, 15, 16, 17, 18, 19] (by decide +kernel) (by decide +kernel)
set_option maxRecDepth 20000 in
theorem gX3_u4_X3_number : GoodIn wsX3_u4 (wsV RX3 23 RX3 yX3_number wsX3_number) := goodIn_app (goodIn_of _ (by decide +kernel)) ggX3_u4_X3_number
theorem dX3_u4_0 : decode cX3_u4 0 = .ok (.aload_n 0, 1) := by decide +kernel
theorem dX3_u4_1 : decode cX3_u4 1 = .ok (.iload_n 1, 1) := by decide +kernel
theorem dX3_u4_2 : decode cX3_u4 2 = .ok (.iconst 4, 1) := by decide +kernel
theorem dX3_u4_3 : decode cX3_u4 3 = .ok (.invokevirtual 23, 3) := by decide +kernel
theorem dX3_u4_6 : decode cX3_u4 6 = .ok (.lreturn, 1) := by decide +kernel
set_option maxRecDepth 20000 in
theorem ggX3_number_X3_holds : GoodIn wsX3_number wsX3_holds := goodIn_r _ [9, 10, 11, 12, 13] (by decide +kernel) (by decide +kernel)
set_option maxRecDepth 20000 in
theorem gX3_number_X3_holds : GoodIn wsX3_number (wsV RX3 27 RX3 yX3_holds wsX3_holds) := goodIn_app (goodIn_of _ (by decide +kernel)) ggX3_number_X3_holds
theorem dX3_number_0 : decode cX3_number 0 = .ok (.aload_n 0, 1) := by decide +kernel
theorem dX3_number_1 : decode cX3_number 1 = .ok (.iload_n 1, 1) := by decide +kernel
theorem dX3_number_2 : decode cX3_number 2 = .ok (.iload_n 2, 1) := by decide +kernel
theorem dX3_number_3 : decode cX3_number 3 = .ok (.invokevirtual 27, 3) := by decide +kernel
theorem dX3_number_6 : decode cX3_number 6 = .ok (.ifCond .ne 7, 3) := by decide +kernel
theorem dX3_number_9 : decode cX3_number 9 = .ok (.ldc2_w 31, 3) := by decide +kernel
theorem dX3_number_12 : decode cX3_number 12 = .ok (.lreturn, 1) := by decide +kernel
theorem dX3_number_13 : decode cX3_number 13 = .ok (.lconst 0, 1) := by decide +kernel
theorem dX3_number_14 : decode cX3_number 14 = .ok (.lstore_n 3, 1) := by decide +kernel
theorem dX3_number_15 : decode cX3_number 15 = .ok (.iconst 0, 1) := by decide +kernel
theorem dX3_number_16 : decode cX3_number 16 = .ok (.istore 5, 2) := by decide +kernel
theorem dX3_number_18 : decode cX3_number 18 = .ok (.iload 5, 2) := by decide +kernel
theorem dX3_number_20 : decode cX3_number 20 = .ok (.iload_n 2, 1) := by decide +kernel
theorem dX3_number_21 : decode cX3_number 21 = .ok (.if_icmp .ge 37, 3) := by decide +kernel
theorem dX3_number_24 : decode cX3_number 24 = .ok (.lload_n 3, 1) := by decide +kernel
theorem dX3_number_25 : decode cX3_number 25 = .ok (.bipush 8, 2) := by decide +kernel
theorem dX3_number_27 : decode cX3_number 27 = .ok (.lshl, 1) := by decide +kernel
theorem dX3_number_28 : decode cX3_number 28 = .ok (.aload_n 0, 1) := by decide +kernel
theorem dX3_number_29 : decode cX3_number 29 = .ok (.getfield 13, 3) := by decide +kernel
theorem dX3_number_32 : decode cX3_number 32 = .ok (.getfield 33, 3) := by decide +kernel
theorem dX3_number_35 : decode cX3_number 35 = .ok (.aload_n 0, 1) := by decide +kernel
theorem dX3_number_36 : decode cX3_number 36 = .ok (.getfield 19, 3) := by decide +kernel
theorem dX3_number_39 : decode cX3_number 39 = .ok (.iload_n 1, 1) := by decide +kernel
theorem dX3_number_40 : decode cX3_number 40 = .ok (.iadd, 1) := by decide +kernel
theorem dX3_number_41 : decode cX3_number 41 = .ok (.iload 5, 2) := by decide +kernel
theorem dX3_number_43 : decode cX3_number 43 = .ok (.iadd, 1) := by decide +kernel
theorem dX3_number_44 : decode cX3_number 44 = .ok (.baload, 1) := by decide +kernel
theorem dX3_number_45 : decode cX3_number 45 = .ok (.sipush 255, 3) := by decide +kernel
theorem dX3_number_48 : decode cX3_number 48 = .ok (.iand, 1) := by decide +kernel
theorem dX3_number_49 : decode cX3_number 49 = .ok (.i2l, 1) := by decide +kernel
theorem dX3_number_50 : decode cX3_number 50 = .ok (.lor, 1) := by decide +kernel
theorem dX3_number_51 : decode cX3_number 51 = .ok (.lstore_n 3, 1) := by decide +kernel
theorem dX3_number_52 : decode cX3_number 52 = .ok (.iinc 5 1, 3) := by decide +kernel
theorem dX3_number_55 : decode cX3_number 55 = .ok (.goto (-37), 3) := by decide +kernel
theorem dX3_number_58 : decode cX3_number 58 = .ok (.lload_n 3, 1) := by decide +kernel
theorem dX3_number_59 : decode cX3_number 59 = .ok (.lreturn, 1) := by decide +kernel
set_option maxRecDepth 20000 in
theorem ggX4_measure_X4_ofRect : GoodIn wsX4_measure wsX4_ofRect := goodIn_r _ [5, 6, 1, 7, 8, 9, 10, 11, 12, 13, 14, 15, 16, 17, 18, 19, 20, 21, 22, 23, 24, 59, 60, 61, 62, 63] (by decide +kernel) (by decide +kernel)
set_option maxRecDepth 20000 in
theorem gX4_measure_X4_ofRect : GoodIn wsX4_measure (va_wsS RX4 9 yX4_ofRect wsX4_ofRect) := goodIn_app (goodIn_of _ (by decide +kernel)) ggX4_measure_X4_ofRect
set_option maxRecDepth 20000 in
theorem ggX4_measure_X4_ofPng : GoodIn wsX4_measure wsX4_ofPng := goodIn_r _ [27, 6, 28, 29, 30, 1, 7, 8, 9, 10, 11, 12, 13, 14, 15, 16, 17, 18, 19, 20, 21, 22, 23, 24, 59, 60, 61, 62, 63] (by decide +kernel) (by decide +kernel)
set_option maxRecDepth 20000 in
theorem gX4_measure_X4_ofPng : GoodIn wsX4_measure (va_wsS RX4 15 yX4_ofPng wsX4_ofPng) := goodIn_app (goodIn_of _ (by decide +kernel)) ggX4_measure_X4_ofPng
set_option maxRecDepth 20000 in
theorem ggX4_measure_X4_ofJpeg : GoodIn wsX4_measure wsX4_ofJpeg := goodIn_r _ [33, 34, 1, 6, 35, 36, 37, 10, 38, 12, 13, 14, 15, 16, 17, 18, 19, 20, 21, 22, 23, 24, 39, 40, 41, 42, 43, 44, 4, 45, 46, 47, 48, 49, 50, 51, 52, 53, 54, 55, 56, 57, 58, 59, 60, 61, 62, 63] (by decide +kernel) (by decide +kernel)
set_option maxRecDepth 20000 in
theorem gX4_measure_X4_ofJpeg : GoodIn wsX4_measure (va_wsS RX4 18 yX4_ofJpeg wsX4_ofJpeg) := goodIn_app (goodIn_of _ (by decide +kernel)) ggX4_measure_X4_ofJpeg
theorem dX4_measure_0 : decode cX4_measure 0 = .ok (.iload_n 0, 1) := by decide +kernel
theorem dX4_measure_1 : decode cX4_measure 1 = .ok (.lookupswitch 53 #[(1246774599, 47), (1347307296, 41), (1382376308, 35)], 35) := by decide +kernel
theorem dX4_measure_36 : decode cX4_measure 36 = .ok (.aload_n 1, 1) := by decide +kernel
theorem dX4_measure_37 : decode cX4_measure 37 = .ok (.iload_n 2, 1) := by decide +kernel
theorem dX4_measure_38 : decode cX4_measure 38 = .ok (.invokestatic 9, 3) := by decide +kernel
theorem dX4_measure_41 : decode cX4_measure 41 = .ok (.lreturn, 1) := by decide +kernel
theorem dX4_measure_42 : decode cX4_measure 42 = .ok (.aload_n 1, 1) := by decide +kernel
theorem dX4_measure_43 : decode cX4_measure 43 = .ok (.iload_n 2, 1) := by decide +kernel
theorem dX4_measure_44 : decode cX4_measure 44 = .ok (.invokestatic 15, 3) := by decide +kernel
theorem dX4_measure_47 : decode cX4_measure 47 = .ok (.lreturn, 1) := by decide +kernel
theorem dX4_measure_48 : decode cX4_measure 48 = .ok (.aload_n 1, 1) := by decide +kernel
theorem dX4_measure_49 : decode cX4_measure 49 = .ok (.iload_n 2, 1) := by decide +kernel
theorem dX4_measure_50 : decode cX4_measure 50 = .ok (.invokestatic 18, 3) := by decide +kernel
theorem dX4_measure_53 : decode cX4_measure 53 = .ok (.lreturn, 1) := by decide +kernel
theorem dX4_measure_54 : decode cX4_measure 54 = .ok (.ldc2_w 21, 3) := by decide +kernel
theorem dX4_measure_57 : decode cX4_measure 57 = .ok (.lreturn, 1) := by decide +kernel
set_option maxRecDepth 20000 in
theorem ggX4_ofRect_X3_u4 : GoodIn wsX4_ofRect wsX3_u4 := goodIn_r _ [7, 8, 9, 10, 6, 11, 12, 13, 14, 15, 16, 17, 18, 19, 20, 21, 22, 23, 24, 25] (by decide +kernel) (by decide +kernel)
set_option maxRecDepth 20000 in
theorem gX4_ofRect_X3_u4 : GoodIn wsX4_ofRect (wsV RX4 29 RX3 yX3_u4 wsX3_u4) := goodIn_app (goodIn_of _ (by decide +kernel)) ggX4_ofRect_X3_u4
theorem dX4_ofRect_0 : decode cX4_ofRect 0 = .ok (.aload_n 0, 1) := by decide +kernel
theorem dX4_ofRect_1 : decode cX4_ofRect 1 = .ok (.getfield 23, 3) := by decide +kernel
theorem dX4_ofRect_4 : decode cX4_ofRect 4 = .ok (.bipush 8, 2) := by decide +kernel
theorem dX4_ofRect_6 : decode cX4_ofRect 6 = .ok (.if_icmp .lt 13, 3) := by decide +kernel
theorem dX4_ofRect_9 : decode cX4_ofRect 9 = .ok (.aload_n 0, 1) := by decide +kernel
theorem dX4_ofRect_10 : decode cX4_ofRect 10 = .ok (.iconst 4, 1) := by decide +kernel
theorem dX4_ofRect_11 : decode cX4_ofRect 11 = .ok (.iload_n 1, 1) := by decide +kernel
theorem dX4_ofRect_12 : decode cX4_ofRect 12 = .ok (.imul, 1) := by decide +kernel
theorem dX4_ofRect_13 : decode cX4_ofRect 13 = .ok (.invokevirtual 29, 3) := by decide +kernel
theorem dX4_ofRect_16 : decode cX4_ofRect 16 = .ok (.goto 6, 3) := by decide +kernel
theorem dX4_ofRect_19 : decode cX4_ofRect 19 = .ok (.ldc2_w 21, 3) := by decide +kernel
theorem dX4_ofRect_22 : decode cX4_ofRect 22 = .ok (.lreturn, 1) := by decide +kernel
set_option maxRecDepth 20000 in
theorem ggX4_ofPng_X3_u4 : GoodIn wsX4_ofPng wsX3_u4 := goodIn_r _ [10, 11, 12, 13, 9, 14, 15, 16, 17, 18, 19, 20, 21, 22, 23, 24, 25, 26, 27, 28] (by decide +kernel) (by decide +kernel)
set_option maxRecDepth 20000 in
theorem gX4_ofPng_X3_u4 : GoodIn wsX4_ofPng (wsV RX4 29 RX3 yX3_u4 wsX3_u4) := goodIn_app (goodIn_of _ (by decide +kernel)) ggX4_ofPng_X3_u4
theorem dX4_ofPng_0 : decode cX4_ofPng 0 = .ok (.aload_n 0, 1) := by decide +kernel
theorem dX4_ofPng_1 : decode cX4_ofPng 1 = .ok (.getfield 23, 3) := by decide +kernel
theorem dX4_ofPng_4 : decode cX4_ofPng 4 = .ok (.bipush 24, 2) := by decide +kernel
theorem dX4_ofPng_6 : decode cX4_ofPng 6 = .ok (.if_icmp .lt 44, 3) := by decide +kernel
theorem dX4_ofPng_9 : decode cX4_ofPng 9 = .ok (.aload_n 0, 1) := by decide +kernel
theorem dX4_ofPng_10 : decode cX4_ofPng 10 = .ok (.iconst 0, 1) := by decide +kernel
theorem dX4_ofPng_11 : decode cX4_ofPng 11 = .ok (.invokevirtual 29, 3) := by decide +kernel
theorem dX4_ofPng_14 : decode cX4_ofPng 14 = .ok (.ldc2_w 33, 3) := by decide +kernel
theorem dX4_ofPng_17 : decode cX4_ofPng 17 = .ok (.lcmp, 1) := by decide +kernel
theorem dX4_ofPng_18 : decode cX4_ofPng 18 = .ok (.ifCond .ne 32, 3) := by decide +kernel
theorem dX4_ofPng_21 : decode cX4_ofPng 21 = .ok (.aload_n 0, 1) := by decide +kernel
theorem dX4_ofPng_22 : decode cX4_ofPng 22 = .ok (.iconst 4, 1) := by decide +kernel
theorem dX4_ofPng_23 : decode cX4_ofPng 23 = .ok (.invokevirtual 29, 3) := by decide +kernel
theorem dX4_ofPng_26 : decode cX4_ofPng 26 = .ok (.ldc2_w 35, 3) := by decide +kernel
theorem dX4_ofPng_29 : decode cX4_ofPng 29 = .ok (.lcmp, 1) := by decide +kernel
theorem dX4_ofPng_30 : decode cX4_ofPng 30 = .ok (.ifCond .ne 20, 3) := by decide +kernel
theorem dX4_ofPng_33 : decode cX4_ofPng 33 = .ok (.aload_n 0, 1) := by decide +kernel
theorem dX4_ofPng_34 : decode cX4_ofPng 34 = .ok (.bipush 12, 2) := by decide +kernel
theorem dX4_ofPng_36 : decode cX4_ofPng 36 = .ok (.invokevirtual 29, 3) := by decide +kernel
theorem dX4_ofPng_39 : decode cX4_ofPng 39 = .ok (.ldc2_w 39, 3) := by decide +kernel
theorem dX4_ofPng_42 : decode cX4_ofPng 42 = .ok (.lcmp, 1) := by decide +kernel
theorem dX4_ofPng_43 : decode cX4_ofPng 43 = .ok (.ifCond .ne 7, 3) := by decide +kernel
theorem dX4_ofPng_46 : decode cX4_ofPng 46 = .ok (.iconst 1, 1) := by decide +kernel
theorem dX4_ofPng_47 : decode cX4_ofPng 47 = .ok (.goto 4, 3) := by decide +kernel
theorem dX4_ofPng_50 : decode cX4_ofPng 50 = .ok (.iconst 0, 1) := by decide +kernel
theorem dX4_ofPng_51 : decode cX4_ofPng 51 = .ok (.istore_n 2, 1) := by decide +kernel
theorem dX4_ofPng_52 : decode cX4_ofPng 52 = .ok (.iload_n 2, 1) := by decide +kernel
theorem dX4_ofPng_53 : decode cX4_ofPng 53 = .ok (.ifCond .eq 16, 3) := by decide +kernel
theorem dX4_ofPng_56 : decode cX4_ofPng 56 = .ok (.aload_n 0, 1) := by decide +kernel
theorem dX4_ofPng_57 : decode cX4_ofPng 57 = .ok (.bipush 16, 2) := by decide +kernel
theorem dX4_ofPng_59 : decode cX4_ofPng 59 = .ok (.iconst 4, 1) := by decide +kernel
theorem dX4_ofPng_60 : decode cX4_ofPng 60 = .ok (.iload_n 1, 1) := by decide +kernel
theorem dX4_ofPng_61 : decode cX4_ofPng 61 = .ok (.imul, 1) := by decide +kernel
theorem dX4_ofPng_62 : decode cX4_ofPng 62 = .ok (.iadd, 1) := by decide +kernel
theorem dX4_ofPng_63 : decode cX4_ofPng 63 = .ok (.invokevirtual 29, 3) := by decide +kernel
theorem dX4_ofPng_66 : decode cX4_ofPng 66 = .ok (.goto 6, 3) := by decide +kernel
theorem dX4_ofPng_69 : decode cX4_ofPng 69 = .ok (.ldc2_w 21, 3) := by decide +kernel
theorem dX4_ofPng_72 : decode cX4_ofPng 72 = .ok (.lreturn, 1) := by decide +kernel
set_option maxRecDepth 20000 in
theorem ggX4_ofJpeg_X3_u2 : GoodIn wsX4_ofJpeg wsX3_u2 := goodIn_r _ [8, 9, 10, 11, 7, 12, 13, 14, 15, 16, 17, 18, 19, 20, 21, 43, 44, 45, 46, 47] (by decide +kernel) (by decide +kernel)
set_option maxRecDepth 20000 in
theorem gX4_ofJpeg_X3_u2 : GoodIn wsX4_ofJpeg (wsV RX4 41 RX3 yX3_u2 wsX3_u2) := goodIn_app (goodIn_of _ (by decide +kernel)) ggX4_ofJpeg_X3_u2
set_option maxRecDepth 20000 in
theorem ggX4_ofJpeg_X3_at : GoodIn wsX4_ofJpeg wsX3_at := goodIn_r _ [25, 9, 10, 11, 7, 12, 13, 14, 15, 16, 17, 18, 19, 20, 21, 43, 44, 45, 46, 47] (by decide +kernel) (by decide +kernel)
set_option maxRecDepth 20000 in
theorem gX4_ofJpeg_X3_at : GoodIn wsX4_ofJpeg (wsV RX4 46 RX3 yX3_at wsX3_at) := goodIn_app (goodIn_of _ (by decide +kernel)) ggX4_ofJpeg_X3_at
set_option maxRecDepth 20000 in
theorem ggX4_ofJpeg_X4_behindFill : GoodIn wsX4_ofJpeg wsX4_behindFill := goodIn_r _ [29, 3, 22, 23, 24, 7, 25, 9, 10, 11, 12, 13, 14, 15, 16, 17, 18, 19, 20, 21, 43, 44, 45, 46, 47] (by decide +kernel) (by decide +kernel)
set_option maxRecDepth 20000 in
theorem gX4_ofJpeg_X4_behindFill : GoodIn wsX4_ofJpeg (va_wsS RX4 49 yX4_behindFill wsX4_behindFill) := goodIn_app (goodIn_of _ (by decide +kernel)) ggX4_ofJpeg_X4_behindFill
set_option maxRecDepth 20000 in
theorem ggX4_ofJpeg_X4_standsAlone : GoodIn wsX4_ofJpeg wsX4_standsAlone := goodIn_r _ [32] (by decide +kernel) (by decide +kernel)
set_option maxRecDepth 20000 in
theorem gX4_ofJpeg_X4_standsAlone : GoodIn wsX4_ofJpeg (va_wsS RX4 53 yX4_standsAlone wsX4_standsAlone) := goodIn_app (goodIn_of _ (by decide +kernel)) ggX4_ofJpeg_X4_standsAlone
set_option maxRecDepth 20000 in
theorem ggX4_ofJpeg_X4_hasNoMeasure : GoodIn wsX4_ofJpeg wsX4_hasNoMeasure := goodIn_r _ [35] (by decide +kernel) (by decide +kernel)
set_option maxRecDepth 20000 in
theorem gX4_ofJpeg_X4_hasNoMeasure : GoodIn wsX4_ofJpeg (va_wsS RX4 57 yX4_hasNoMeasure wsX4_hasNoMeasure) := goodIn_app (goodIn_of _ (by decide +kernel)) ggX4_ofJpeg_X4_hasNoMeasure
set_option maxRecDepth 20000 in
theorem ggX4_ofJpeg_X4_isFrame : GoodIn wsX4_ofJpeg wsX4_isFrame := goodIn_r _ [38] (by decide +kernel) (by decide +kernel)
set_option maxRecDepth 20000 in
theorem gX4_ofJpeg_X4_isFrame : GoodIn wsX4_ofJpeg (va_wsS RX4 60 yX4_isFrame wsX4_isFrame) := goodIn_app (goodIn_of _ (by decide +kernel)) ggX4_ofJpeg_X4_isFrame
set_option maxRecDepth 20000 in
theorem ggX4_ofJpeg_X4_ofFrame : GoodIn wsX4_ofJpeg wsX4_ofFrame := goodIn_r _ [41, 2, 4, 5, 6, 7, 8, 9, 10, 11, 12, 13, 14, 15, 16, 17, 18, 19, 20, 21, 42, 43, 44, 45, 46, 47] (by decide +kernel) (by decide +kernel)
set_option maxRecDepth 20000 in
theorem gX4_ofJpeg_X4_ofFrame : GoodIn wsX4_ofJpeg (va_wsS RX4 63 yX4_ofFrame wsX4_ofFrame) := goodIn_app (goodIn_of _ (by decide +kernel)) ggX4_ofJpeg_X4_ofFrame
theorem dX4_ofJpeg_0 : decode cX4_ofJpeg 0 = .ok (.aload_n 0, 1) := by decide +kernel
theorem dX4_ofJpeg_1 : decode cX4_ofJpeg 1 = .ok (.iconst 0, 1) := by decide +kernel
theorem dX4_ofJpeg_2 : decode cX4_ofJpeg 2 = .ok (.invokevirtual 41, 3) := by decide +kernel
theorem dX4_ofJpeg_5 : decode cX4_ofJpeg 5 = .ok (.ldc 45, 2) := by decide +kernel
theorem dX4_ofJpeg_7 : decode cX4_ofJpeg 7 = .ok (.if_icmp .eq 7, 3) := by decide +kernel
theorem dX4_ofJpeg_10 : decode cX4_ofJpeg 10 = .ok (.ldc2_w 21, 3) := by decide +kernel
theorem dX4_ofJpeg_13 : decode cX4_ofJpeg 13 = .ok (.lreturn, 1) := by decide +kernel
theorem dX4_ofJpeg_14 : decode cX4_ofJpeg 14 = .ok (.iconst 2, 1) := by decide +kernel
theorem dX4_ofJpeg_15 : decode cX4_ofJpeg 15 = .ok (.istore_n 2, 1) := by decide +kernel
theorem dX4_ofJpeg_16 : decode cX4_ofJpeg 16 = .ok (.aload_n 0, 1) := by decide +kernel
theorem dX4_ofJpeg_17 : decode cX4_ofJpeg 17 = .ok (.getfield 23, 3) := by decide +kernel
theorem dX4_ofJpeg_20 : decode cX4_ofJpeg 20 = .ok (.istore_n 3, 1) := by decide +kernel
theorem dX4_ofJpeg_21 : decode cX4_ofJpeg 21 = .ok (.iload_n 3, 1) := by decide +kernel
theorem dX4_ofJpeg_22 : decode cX4_ofJpeg 22 = .ok (.ifCond .le 96, 3) := by decide +kernel
theorem dX4_ofJpeg_25 : decode cX4_ofJpeg 25 = .ok (.aload_n 0, 1) := by decide +kernel
theorem dX4_ofJpeg_26 : decode cX4_ofJpeg 26 = .ok (.iload_n 2, 1) := by decide +kernel
theorem dX4_ofJpeg_27 : decode cX4_ofJpeg 27 = .ok (.invokevirtual 46, 3) := by decide +kernel
theorem dX4_ofJpeg_30 : decode cX4_ofJpeg 30 = .ok (.sipush 255, 3) := by decide +kernel
theorem dX4_ofJpeg_33 : decode cX4_ofJpeg 33 = .ok (.if_icmp .eq 7, 3) := by decide +kernel
theorem dX4_ofJpeg_36 : decode cX4_ofJpeg 36 = .ok (.ldc2_w 21, 3) := by decide +kernel
theorem dX4_ofJpeg_39 : decode cX4_ofJpeg 39 = .ok (.lreturn, 1) := by decide +kernel
theorem dX4_ofJpeg_40 : decode cX4_ofJpeg 40 = .ok (.aload_n 0, 1) := by decide +kernel
theorem dX4_ofJpeg_41 : decode cX4_ofJpeg 41 = .ok (.iload_n 2, 1) := by decide +kernel
theorem dX4_ofJpeg_42 : decode cX4_ofJpeg 42 = .ok (.invokestatic 49, 3) := by decide +kernel
theorem dX4_ofJpeg_45 : decode cX4_ofJpeg 45 = .ok (.istore_n 2, 1) := by decide +kernel
theorem dX4_ofJpeg_46 : decode cX4_ofJpeg 46 = .ok (.aload_n 0, 1) := by decide +kernel
theorem dX4_ofJpeg_47 : decode cX4_ofJpeg 47 = .ok (.iload_n 2, 1) := by decide +kernel
theorem dX4_ofJpeg_48 : decode cX4_ofJpeg 48 = .ok (.invokevirtual 46, 3) := by decide +kernel
theorem dX4_ofJpeg_51 : decode cX4_ofJpeg 51 = .ok (.istore 4, 2) := by decide +kernel
theorem dX4_ofJpeg_53 : decode cX4_ofJpeg 53 = .ok (.iinc 2 1, 3) := by decide +kernel
theorem dX4_ofJpeg_56 : decode cX4_ofJpeg 56 = .ok (.iload 4, 2) := by decide +kernel
theorem dX4_ofJpeg_58 : decode cX4_ofJpeg 58 = .ok (.invokestatic 53, 3) := by decide +kernel
theorem dX4_ofJpeg_61 : decode cX4_ofJpeg 61 = .ok (.ifCond .eq 6, 3) := by decide +kernel
theorem dX4_ofJpeg_64 : decode cX4_ofJpeg 64 = .ok (.goto 48, 3) := by decide +kernel
theorem dX4_ofJpeg_67 : decode cX4_ofJpeg 67 = .ok (.aload_n 0, 1) := by decide +kernel
theorem dX4_ofJpeg_68 : decode cX4_ofJpeg 68 = .ok (.iload_n 2, 1) := by decide +kernel
theorem dX4_ofJpeg_69 : decode cX4_ofJpeg 69 = .ok (.invokevirtual 41, 3) := by decide +kernel
theorem dX4_ofJpeg_72 : decode cX4_ofJpeg 72 = .ok (.istore 5, 2) := by decide +kernel
theorem dX4_ofJpeg_74 : decode cX4_ofJpeg 74 = .ok (.iload 4, 2) := by decide +kernel
theorem dX4_ofJpeg_76 : decode cX4_ofJpeg 76 = .ok (.invokestatic 57, 3) := by decide +kernel
theorem dX4_ofJpeg_79 : decode cX4_ofJpeg 79 = .ok (.ifCond .ne 9, 3) := by decide +kernel
theorem dX4_ofJpeg_82 : decode cX4_ofJpeg 82 = .ok (.iload 5, 2) := by decide +kernel
theorem dX4_ofJpeg_84 : decode cX4_ofJpeg 84 = .ok (.iconst 2, 1) := by decide +kernel
theorem dX4_ofJpeg_85 : decode cX4_ofJpeg 85 = .ok (.if_icmp .ge 7, 3) := by decide +kernel
theorem dX4_ofJpeg_88 : decode cX4_ofJpeg 88 = .ok (.ldc2_w 21, 3) := by decide +kernel
theorem dX4_ofJpeg_91 : decode cX4_ofJpeg 91 = .ok (.lreturn, 1) := by decide +kernel
theorem dX4_ofJpeg_92 : decode cX4_ofJpeg 92 = .ok (.iload 4, 2) := by decide +kernel
theorem dX4_ofJpeg_94 : decode cX4_ofJpeg 94 = .ok (.invokestatic 60, 3) := by decide +kernel
theorem dX4_ofJpeg_97 : decode cX4_ofJpeg 97 = .ok (.ifCond .eq 10, 3) := by decide +kernel
theorem dX4_ofJpeg_100 : decode cX4_ofJpeg 100 = .ok (.aload_n 0, 1) := by decide +kernel
theorem dX4_ofJpeg_101 : decode cX4_ofJpeg 101 = .ok (.iload_n 2, 1) := by decide +kernel
theorem dX4_ofJpeg_102 : decode cX4_ofJpeg 102 = .ok (.iload_n 1, 1) := by decide +kernel
theorem dX4_ofJpeg_103 : decode cX4_ofJpeg 103 = .ok (.invokestatic 63, 3) := by decide +kernel
theorem dX4_ofJpeg_106 : decode cX4_ofJpeg 106 = .ok (.lreturn, 1) := by decide +kernel
theorem dX4_ofJpeg_107 : decode cX4_ofJpeg 107 = .ok (.iload_n 2, 1) := by decide +kernel
theorem dX4_ofJpeg_108 : decode cX4_ofJpeg 108 = .ok (.iload 5, 2) := by decide +kernel
theorem dX4_ofJpeg_110 : decode cX4_ofJpeg 110 = .ok (.iadd, 1) := by decide +kernel
theorem dX4_ofJpeg_111 : decode cX4_ofJpeg 111 = .ok (.istore_n 2, 1) := by decide +kernel
theorem dX4_ofJpeg_112 : decode cX4_ofJpeg 112 = .ok (.iinc 3 (-1), 3) := by decide +kernel
theorem dX4_ofJpeg_115 : decode cX4_ofJpeg 115 = .ok (.goto (-94), 3) := by decide +kernel
theorem dX4_ofJpeg_118 : decode cX4_ofJpeg 118 = .ok (.ldc2_w 21, 3) := by decide +kernel
theorem dX4_ofJpeg_121 : decode cX4_ofJpeg 121 = .ok (.lreturn, 1) := by decide +kernel
set_option maxRecDepth 20000 in
theorem ggX4_behindFill_X3_at : GoodIn wsX4_behindFill wsX3_at := goodIn_r _ [6, 7, 8, 9, 5, 10, 11, 12, 13, 14, 15, 16, 17, 18, 19, 20, 21, 22, 23, 24] (by decide +kernel) (by decide +kernel)
set_option maxRecDepth 20000 in
theorem gX4_behindFill_X3_at : GoodIn wsX4_behindFill (wsV RX4 46 RX3 yX3_at wsX3_at) := goodIn_app (goodIn_of _ (by decide +kernel)) ggX4_behindFill_X3_at
theorem dX4_behindFill_0 : decode cX4_behindFill 0 = .ok (.iload_n 1, 1) := by decide +kernel
theorem dX4_behindFill_1 : decode cX4_behindFill 1 = .ok (.istore_n 2, 1) := by decide +kernel
theorem dX4_behindFill_2 : decode cX4_behindFill 2 = .ok (.iload_n 2, 1) := by decide +kernel
theorem dX4_behindFill_3 : decode cX4_behindFill 3 = .ok (.aload_n 0, 1) := by decide +kernel
theorem dX4_behindFill_4 : decode cX4_behindFill 4 = .ok (.getfield 23, 3) := by decide +kernel
theorem dX4_behindFill_7 : decode cX4_behindFill 7 = .ok (.if_icmp .ge 20, 3) := by decide +kernel
theorem dX4_behindFill_10 : decode cX4_behindFill 10 = .ok (.aload_n 0, 1) := by decide +kernel
theorem dX4_behindFill_11 : decode cX4_behindFill 11 = .ok (.iload_n 2, 1) := by decide +kernel
theorem dX4_behindFill_12 : decode cX4_behindFill 12 = .ok (.invokevirtual 46, 3) := by decide +kernel
theorem dX4_behindFill_15 : decode cX4_behindFill 15 = .ok (.sipush 255, 3) := by decide +kernel
theorem dX4_behindFill_18 : decode cX4_behindFill 18 = .ok (.if_icmp .ne 9, 3) := by decide +kernel
theorem dX4_behindFill_21 : decode cX4_behindFill 21 = .ok (.iinc 2 1, 3) := by decide +kernel
theorem dX4_behindFill_24 : decode cX4_behindFill 24 = .ok (.goto (-22), 3) := by decide +kernel
theorem dX4_behindFill_27 : decode cX4_behindFill 27 = .ok (.iload_n 2, 1) := by decide +kernel
theorem dX4_behindFill_28 : decode cX4_behindFill 28 = .ok (.ireturn, 1) := by decide +kernel
theorem dX4_standsAlone_0 : decode cX4_standsAlone 0 = .ok (.iload_n 0, 1) := by decide +kernel
theorem dX4_standsAlone_1 : decode cX4_standsAlone 1 = .ok (.iconst 1, 1) := by decide +kernel
theorem dX4_standsAlone_2 : decode cX4_standsAlone 2 = .ok (.if_icmp .eq 17, 3) := by decide +kernel
theorem dX4_standsAlone_5 : decode cX4_standsAlone 5 = .ok (.iload_n 0, 1) := by decide +kernel
theorem dX4_standsAlone_6 : decode cX4_standsAlone 6 = .ok (.sipush 208, 3) := by decide +kernel
theorem dX4_standsAlone_9 : decode cX4_standsAlone 9 = .ok (.if_icmp .lt 14, 3) := by decide +kernel
theorem dX4_standsAlone_12 : decode cX4_standsAlone 12 = .ok (.iload_n 0, 1) := by decide +kernel
theorem dX4_standsAlone_13 : decode cX4_standsAlone 13 = .ok (.sipush 215, 3) := by decide +kernel
theorem dX4_standsAlone_16 : decode cX4_standsAlone 16 = .ok (.if_icmp .gt 7, 3) := by decide +kernel
theorem dX4_standsAlone_19 : decode cX4_standsAlone 19 = .ok (.iconst 1, 1) := by decide +kernel
theorem dX4_standsAlone_20 : decode cX4_standsAlone 20 = .ok (.goto 4, 3) := by decide +kernel
theorem dX4_standsAlone_23 : decode cX4_standsAlone 23 = .ok (.iconst 0, 1) := by decide +kernel
theorem dX4_standsAlone_24 : decode cX4_standsAlone 24 = .ok (.ireturn, 1) := by decide +kernel
theorem dX4_hasNoMeasure_0 : decode cX4_hasNoMeasure 0 = .ok (.iload_n 0, 1) := by decide +kernel
theorem dX4_hasNoMeasure_1 : decode cX4_hasNoMeasure 1 = .ok (.sipush 216, 3) := by decide +kernel
theorem dX4_hasNoMeasure_4 : decode cX4_hasNoMeasure 4 = .ok (.if_icmp .eq 19, 3) := by decide +kernel
theorem dX4_hasNoMeasure_7 : decode cX4_hasNoMeasure 7 = .ok (.iload_n 0, 1) := by decide +kernel
theorem dX4_hasNoMeasure_8 : decode cX4_hasNoMeasure 8 = .ok (.sipush 217, 3) := by decide +kernel
theorem dX4_hasNoMeasure_11 : decode cX4_hasNoMeasure 11 = .ok (.if_icmp .eq 12, 3) := by decide +kernel
theorem dX4_hasNoMeasure_14 : decode cX4_hasNoMeasure 14 = .ok (.iload_n 0, 1) := by decide +kernel
theorem dX4_hasNoMeasure_15 : decode cX4_hasNoMeasure 15 = .ok (.ifCond .eq 8, 3) := by decide +kernel
theorem dX4_hasNoMeasure_18 : decode cX4_hasNoMeasure 18 = .ok (.iload_n 0, 1) := by decide +kernel
theorem dX4_hasNoMeasure_19 : decode cX4_hasNoMeasure 19 = .ok (.iconst (-1), 1) := by decide +kernel
theorem dX4_hasNoMeasure_20 : decode cX4_hasNoMeasure 20 = .ok (.if_icmp .ne 7, 3) := by decide +kernel
theorem dX4_hasNoMeasure_23 : decode cX4_hasNoMeasure 23 = .ok (.iconst 1, 1) := by decide +kernel
theorem dX4_hasNoMeasure_24 : decode cX4_hasNoMeasure 24 = .ok (.goto 4, 3) := by decide +kernel
theorem dX4_hasNoMeasure_27 : decode cX4_hasNoMeasure 27 = .ok (.iconst 0, 1) := by decide +kernel
theorem dX4_hasNoMeasure_28 : decode cX4_hasNoMeasure 28 = .ok (.ireturn, 1) := by decide +kernel
theorem dX4_isFrame_0 : decode cX4_isFrame 0 = .ok (.iload_n 0, 1) := by decide +kernel
theorem dX4_isFrame_1 : decode cX4_isFrame 1 = .ok (.sipush 192, 3) := by decide +kernel
theorem dX4_isFrame_4 : decode cX4_isFrame 4 = .ok (.if_icmp .lt 35, 3) := by decide +kernel
theorem dX4_isFrame_7 : decode cX4_isFrame 7 = .ok (.iload_n 0, 1) := by decide +kernel
theorem dX4_isFrame_8 : decode cX4_isFrame 8 = .ok (.sipush 207, 3) := by decide +kernel
theorem dX4_isFrame_11 : decode cX4_isFrame 11 = .ok (.if_icmp .gt 28, 3) := by decide +kernel
theorem dX4_isFrame_14 : decode cX4_isFrame 14 = .ok (.iload_n 0, 1) := by decide +kernel
theorem dX4_isFrame_15 : decode cX4_isFrame 15 = .ok (.sipush 196, 3) := by decide +kernel
theorem dX4_isFrame_18 : decode cX4_isFrame 18 = .ok (.if_icmp .eq 21, 3) := by decide +kernel
theorem dX4_isFrame_21 : decode cX4_isFrame 21 = .ok (.iload_n 0, 1) := by decide +kernel
theorem dX4_isFrame_22 : decode cX4_isFrame 22 = .ok (.sipush 200, 3) := by decide +kernel
theorem dX4_isFrame_25 : decode cX4_isFrame 25 = .ok (.if_icmp .eq 14, 3) := by decide +kernel
theorem dX4_isFrame_28 : decode cX4_isFrame 28 = .ok (.iload_n 0, 1) := by decide +kernel
theorem dX4_isFrame_29 : decode cX4_isFrame 29 = .ok (.sipush 204, 3) := by decide +kernel
theorem dX4_isFrame_32 : decode cX4_isFrame 32 = .ok (.if_icmp .eq 7, 3) := by decide +kernel
theorem dX4_isFrame_35 : decode cX4_isFrame 35 = .ok (.iconst 1, 1) := by decide +kernel
theorem dX4_isFrame_36 : decode cX4_isFrame 36 = .ok (.goto 4, 3) := by decide +kernel
theorem dX4_isFrame_39 : decode cX4_isFrame 39 = .ok (.iconst 0, 1) := by decide +kernel
theorem dX4_isFrame_40 : decode cX4_isFrame 40 = .ok (.ireturn, 1) := by decide +kernel
set_option maxRecDepth 20000 in
theorem ggX4_ofFrame_X3_u2 : GoodIn wsX4_ofFrame wsX3_u2 := goodIn_r _ [6, 7, 8, 9, 5, 10, 11, 12, 13, 14, 15, 16, 17, 18, 19, 21, 22, 23, 24, 25] (by decide +kernel) (by decide +kernel)
set_option maxRecDepth 20000 in
theorem gX4_ofFrame_X3_u2 : GoodIn wsX4_ofFrame (wsV RX4 41 RX3 yX3_u2 wsX3_u2) := goodIn_app (goodIn_of _ (by decide +kernel)) ggX4_ofFrame_X3_u2
set_option maxRecDepth 20000 in
theorem ggX4_ofFrame_X3_holds : GoodIn wsX4_ofFrame wsX3_holds := goodIn_r _ [18, 19, 21, 22, 23] (by decide +kernel) (by decide +kernel)
set_option maxRecDepth 20000 in
theorem gX4_ofFrame_X3_holds : GoodIn wsX4_ofFrame (wsV RX4 67 RX3 yX3_holds wsX3_holds) := goodIn_app (goodIn_of _ (by decide +kernel)) ggX4_ofFrame_X3_holds
theorem dX4_ofFrame_0 : decode cX4_ofFrame 0 = .ok (.aload_n 0, 1) := by decide +kernel
theorem dX4_ofFrame_1 : decode cX4_ofFrame 1 = .ok (.iload_n 1, 1) := by decide +kernel
theorem dX4_ofFrame_2 : decode cX4_ofFrame 2 = .ok (.invokevirtual 41, 3) := by decide +kernel
theorem dX4_ofFrame_5 : decode cX4_ofFrame 5 = .ok (.bipush 7, 2) := by decide +kernel
theorem dX4_ofFrame_7 : decode cX4_ofFrame 7 = .ok (.if_icmp .lt 13, 3) := by decide +kernel
theorem dX4_ofFrame_10 : decode cX4_ofFrame 10 = .ok (.aload_n 0, 1) := by decide +kernel
theorem dX4_ofFrame_11 : decode cX4_ofFrame 11 = .ok (.iload_n 1, 1) := by decide +kernel
theorem dX4_ofFrame_12 : decode cX4_ofFrame 12 = .ok (.bipush 7, 2) := by decide +kernel
theorem dX4_ofFrame_14 : decode cX4_ofFrame 14 = .ok (.invokevirtual 67, 3) := by decide +kernel
theorem dX4_ofFrame_17 : decode cX4_ofFrame 17 = .ok (.ifCond .ne 7, 3) := by decide +kernel
theorem dX4_ofFrame_20 : decode cX4_ofFrame 20 = .ok (.ldc2_w 21, 3) := by decide +kernel
theorem dX4_ofFrame_23 : decode cX4_ofFrame 23 = .ok (.lreturn, 1) := by decide +kernel
theorem dX4_ofFrame_24 : decode cX4_ofFrame 24 = .ok (.iload_n 2, 1) := by decide +kernel
theorem dX4_ofFrame_25 : decode cX4_ofFrame 25 = .ok (.ifCond .ne 14, 3) := by decide +kernel
theorem dX4_ofFrame_28 : decode cX4_ofFrame 28 = .ok (.aload_n 0, 1) := by decide +kernel
theorem dX4_ofFrame_29 : decode cX4_ofFrame 29 = .ok (.iload_n 1, 1) := by decide +kernel
theorem dX4_ofFrame_30 : decode cX4_ofFrame 30 = .ok (.iconst 5, 1) := by decide +kernel
theorem dX4_ofFrame_31 : decode cX4_ofFrame 31 = .ok (.iadd, 1) := by decide +kernel
theorem dX4_ofFrame_32 : decode cX4_ofFrame 32 = .ok (.invokevirtual 41, 3) := by decide +kernel
theorem dX4_ofFrame_35 : decode cX4_ofFrame 35 = .ok (.i2l, 1) := by decide +kernel
theorem dX4_ofFrame_36 : decode cX4_ofFrame 36 = .ok (.goto 11, 3) := by decide +kernel
theorem dX4_ofFrame_39 : decode cX4_ofFrame 39 = .ok (.aload_n 0, 1) := by decide +kernel
theorem dX4_ofFrame_40 : decode cX4_ofFrame 40 = .ok (.iload_n 1, 1) := by decide +kernel
theorem dX4_ofFrame_41 : decode cX4_ofFrame 41 = .ok (.iconst 3, 1) := by decide +kernel
theorem dX4_ofFrame_42 : decode cX4_ofFrame 42 = .ok (.iadd, 1) := by decide +kernel
theorem dX4_ofFrame_43 : decode cX4_ofFrame 43 = .ok (.invokevirtual 41, 3) := by decide +kernel
theorem dX4_ofFrame_46 : decode cX4_ofFrame 46 = .ok (.i2l, 1) := by decide +kernel
theorem dX4_ofFrame_47 : decode cX4_ofFrame 47 = .ok (.lreturn, 1) := by decide +kernel
theorem dX5_init_0 : decode cX5_init 0 = .ok (.aload_n 0, 1) := by decide +kernel
theorem dX5_init_1 : decode cX5_init 1 = .ok (.invokespecial 3, 3) := by decide +kernel
theorem dX5_init_4 : decode cX5_init 4 = .ok (.aload_n 0, 1) := by decide +kernel
theorem dX5_init_5 : decode cX5_init 5 = .ok (.lload_n 1, 1) := by decide +kernel
theorem dX5_init_6 : decode cX5_init 6 = .ok (.putfield 9, 3) := by decide +kernel
theorem dX5_init_9 : decode cX5_init 9 = .ok (.aload_n 0, 1) := by decide +kernel
theorem dX5_init_10 : decode cX5_init 10 = .ok (.lload_n 3, 1) := by decide +kernel
theorem dX5_init_11 : decode cX5_init 11 = .ok (.putfield 15, 3) := by decide +kernel
theorem dX5_init_14 : decode cX5_init 14 = .ok (.return_, 1) := by decide +kernel
theorem dX5_isNothing_0 : decode cX5_isNothing 0 = .ok (.aload_n 0, 1) := by decide +kernel
theorem dX5_isNothing_1 : decode cX5_isNothing 1 = .ok (.getfield 9, 3) := by decide +kernel
theorem dX5_isNothing_4 : decode cX5_isNothing 4 = .ok (.lconst 0, 1) := by decide +kernel
theorem dX5_isNothing_5 : decode cX5_isNothing 5 = .ok (.lcmp, 1) := by decide +kernel
theorem dX5_isNothing_6 : decode cX5_isNothing 6 = .ok (.ifCond .ne 16, 3) := by decide +kernel
theorem dX5_isNothing_9 : decode cX5_isNothing 9 = .ok (.aload_n 0, 1) := by decide +kernel
theorem dX5_isNothing_10 : decode cX5_isNothing 10 = .ok (.getfield 15, 3) := by decide +kernel
theorem dX5_isNothing_13 : decode cX5_isNothing 13 = .ok (.lconst 0, 1) := by decide +kernel
theorem dX5_isNothing_14 : decode cX5_isNothing 14 = .ok (.lcmp, 1) := by decide +kernel
theorem dX5_isNothing_15 : decode cX5_isNothing 15 = .ok (.ifCond .ne 7, 3) := by decide +kernel
theorem dX5_isNothing_18 : decode cX5_isNothing 18 = .ok (.iconst 1, 1) := by decide +kernel
theorem dX5_isNothing_19 : decode cX5_isNothing 19 = .ok (.goto 4, 3) := by decide +kernel
theorem dX5_isNothing_22 : decode cX5_isNothing 22 = .ok (.iconst 0, 1) := by decide +kernel
theorem dX5_isNothing_23 : decode cX5_isNothing 23 = .ok (.ireturn, 1) := by decide +kernel
theorem dX5_isProper_0 : decode cX5_isProper 0 = .ok (.aload_n 0, 1) := by decide +kernel
theorem dX5_isProper_1 : decode cX5_isProper 1 = .ok (.getfield 9, 3) := by decide +kernel
theorem dX5_isProper_4 : decode cX5_isProper 4 = .ok (.lconst 0, 1) := by decide +kernel
theorem dX5_isProper_5 : decode cX5_isProper 5 = .ok (.lcmp, 1) := by decide +kernel
theorem dX5_isProper_6 : decode cX5_isProper 6 = .ok (.ifCond .lt 16, 3) := by decide +kernel
theorem dX5_isProper_9 : decode cX5_isProper 9 = .ok (.aload_n 0, 1) := by decide +kernel
theorem dX5_isProper_10 : decode cX5_isProper 10 = .ok (.getfield 15, 3) := by decide +kernel
theorem dX5_isProper_13 : decode cX5_isProper 13 = .ok (.lconst 0, 1) := by decide +kernel
theorem dX5_isProper_14 : decode cX5_isProper 14 = .ok (.lcmp, 1) := by decide +kernel
theorem dX5_isProper_15 : decode cX5_isProper 15 = .ok (.ifCond .le 7, 3) := by decide +kernel
theorem dX5_isProper_18 : decode cX5_isProper 18 = .ok (.iconst 1, 1) := by decide +kernel
theorem dX5_isProper_19 : decode cX5_isProper 19 = .ok (.goto 4, 3) := by decide +kernel
theorem dX5_isProper_22 : decode cX5_isProper 22 = .ok (.iconst 0, 1) := by decide +kernel
theorem dX5_isProper_23 : decode cX5_isProper 23 = .ok (.ireturn, 1) := by decide +kernel
set_option maxRecDepth 20000 in
theorem ggX5_isUsable_X5_isProper : GoodIn wsX5_isUsable wsX5_isProper := goodIn_r _ [8, 1, 3, 9, 10] (by decide +kernel) (by decide +kernel)
set_option maxRecDepth 20000 in
theorem gX5_isUsable_X5_isProper : GoodIn wsX5_isUsable (wsV RX5 18 RX5 yX5_isProper wsX5_isProper) := goodIn_app (goodIn_of _ (by decide +kernel)) ggX5_isUsable_X5_isProper
theorem dX5_isUsable_0 : decode cX5_isUsable 0 = .ok (.aload_n 0, 1) := by decide +kernel
theorem dX5_isUsable_1 : decode cX5_isUsable 1 = .ok (.invokevirtual 18, 3) := by decide +kernel
theorem dX5_isUsable_4 : decode cX5_isUsable 4 = .ok (.ifCond .eq 29, 3) := by decide +kernel
theorem dX5_isUsable_7 : decode cX5_isUsable 7 = .ok (.aload_n 0, 1) := by decide +kernel
theorem dX5_isUsable_8 : decode cX5_isUsable 8 = .ok (.getfield 9, 3) := by decide +kernel
theorem dX5_isUsable_11 : decode cX5_isUsable 11 = .ok (.ldc2_w 22, 3) := by decide +kernel
theorem dX5_isUsable_14 : decode cX5_isUsable 14 = .ok (.lcmp, 1) := by decide +kernel
theorem dX5_isUsable_15 : decode cX5_isUsable 15 = .ok (.ifCond .gt 18, 3) := by decide +kernel
theorem dX5_isUsable_18 : decode cX5_isUsable 18 = .ok (.aload_n 0, 1) := by decide +kernel
theorem dX5_isUsable_19 : decode cX5_isUsable 19 = .ok (.getfield 15, 3) := by decide +kernel
theorem dX5_isUsable_22 : decode cX5_isUsable 22 = .ok (.ldc2_w 22, 3) := by decide +kernel
theorem dX5_isUsable_25 : decode cX5_isUsable 25 = .ok (.lcmp, 1) := by decide +kernel
theorem dX5_isUsable_26 : decode cX5_isUsable 26 = .ok (.ifCond .gt 7, 3) := by decide +kernel
theorem dX5_isUsable_29 : decode cX5_isUsable 29 = .ok (.iconst 1, 1) := by decide +kernel
theorem dX5_isUsable_30 : decode cX5_isUsable 30 = .ok (.goto 4, 3) := by decide +kernel
theorem dX5_isUsable_33 : decode cX5_isUsable 33 = .ok (.iconst 0, 1) := by decide +kernel
theorem dX5_isUsable_34 : decode cX5_isUsable 34 = .ok (.ireturn, 1) := by decide +kernel
set_option maxRecDepth 20000 in
theorem ggX5_isLimit_X5_isNothing : GoodIn wsX5_isLimit wsX5_isNothing := goodIn_r _ [5, 6, 7, 17, 18] (by decide +kernel) (by decide +kernel)
set_option maxRecDepth 20000 in
theorem gX5_isLimit_X5_isNothing : GoodIn wsX5_isLimit (wsV RX5 24 RX5 yX5_isNothing wsX5_isNothing) := goodIn_app (goodIn_of _ (by decide +kernel)) ggX5_isLimit_X5_isNothing
set_option maxRecDepth 20000 in
theorem ggX5_isLimit_X5_isUsable : GoodIn wsX5_isLimit wsX5_isUsable := goodIn_r _ [11, 6, 12, 7, 13, 14, 15, 4, 16, 17, 18] (by decide +kernel) (by decide +kernel)
set_option maxRecDepth 20000 in
theorem gX5_isLimit_X5_isUsable : GoodIn wsX5_isLimit (wsV RX5 27 RX5 yX5_isUsable wsX5_isUsable) := goodIn_app (goodIn_of _ (by decide +kernel)) ggX5_isLimit_X5_isUsable
theorem dX5_isLimit_0 : decode cX5_isLimit 0 = .ok (.aload_n 0, 1) := by decide +kernel
theorem dX5_isLimit_1 : decode cX5_isLimit 1 = .ok (.invokevirtual 24, 3) := by decide +kernel
theorem dX5_isLimit_4 : decode cX5_isLimit 4 = .ok (.ifCond .ne 10, 3) := by decide +kernel
theorem dX5_isLimit_7 : decode cX5_isLimit 7 = .ok (.aload_n 0, 1) := by decide +kernel
theorem dX5_isLimit_8 : decode cX5_isLimit 8 = .ok (.invokevirtual 27, 3) := by decide +kernel
theorem dX5_isLimit_11 : decode cX5_isLimit 11 = .ok (.ifCond .eq 7, 3) := by decide +kernel
theorem dX5_isLimit_14 : decode cX5_isLimit 14 = .ok (.iconst 1, 1) := by decide +kernel
theorem dX5_isLimit_15 : decode cX5_isLimit 15 = .ok (.goto 4, 3) := by decide +kernel
theorem dX5_isLimit_18 : decode cX5_isLimit 18 = .ok (.iconst 0, 1) := by decide +kernel
theorem dX5_isLimit_19 : decode cX5_isLimit 19 = .ok (.ireturn, 1) := by decide +kernel
theorem dX5_isBelow_0 : decode cX5_isBelow 0 = .ok (.aload_n 0, 1) := by decide +kernel
theorem dX5_isBelow_1 : decode cX5_isBelow 1 = .ok (.getfield 9, 3) := by decide +kernel
theorem dX5_isBelow_4 : decode cX5_isBelow 4 = .ok (.aload_n 1, 1) := by decide +kernel
theorem dX5_isBelow_5 : decode cX5_isBelow 5 = .ok (.getfield 15, 3) := by decide +kernel
theorem dX5_isBelow_8 : decode cX5_isBelow 8 = .ok (.lmul, 1) := by decide +kernel
theorem dX5_isBelow_9 : decode cX5_isBelow 9 = .ok (.aload_n 1, 1) := by decide +kernel
theorem dX5_isBelow_10 : decode cX5_isBelow 10 = .ok (.getfield 9, 3) := by decide +kernel
theorem dX5_isBelow_13 : decode cX5_isBelow 13 = .ok (.aload_n 0, 1) := by decide +kernel
theorem dX5_isBelow_14 : decode cX5_isBelow 14 = .ok (.getfield 15, 3) := by decide +kernel
theorem dX5_isBelow_17 : decode cX5_isBelow 17 = .ok (.lmul, 1) := by decide +kernel
theorem dX5_isBelow_18 : decode cX5_isBelow 18 = .ok (.lcmp, 1) := by decide +kernel
theorem dX5_isBelow_19 : decode cX5_isBelow 19 = .ok (.ifCond .ge 7, 3) := by decide +kernel
theorem dX5_isBelow_22 : decode cX5_isBelow 22 = .ok (.iconst 1, 1) := by decide +kernel
theorem dX5_isBelow_23 : decode cX5_isBelow 23 = .ok (.goto 4, 3) := by decide +kernel
theorem dX5_isBelow_26 : decode cX5_isBelow 26 = .ok (.iconst 0, 1) := by decide +kernel
theorem dX5_isBelow_27 : decode cX5_isBelow 27 = .ok (.ireturn, 1) := by decide +kernel
set_option maxRecDepth 20000 in
theorem ggX5_times_X5_init : GoodIn wsX5_times wsX5_init := goodIn_r _ [8, 9, 10, 11, 4, 5, 12, 13] (by decide +kernel) (by decide +kernel)
set_option maxRecDepth 20000 in
theorem gX5_times_X5_init : GoodIn wsX5_times (wsX5_init) := ggX5_times_X5_init
theorem dX5_times_0 : decode cX5_times 0 = .ok (.new 10, 3) := by decide +kernel
theorem dX5_times_3 : decode cX5_times 3 = .ok (.dup, 1) := by decide +kernel
theorem dX5_times_4 : decode cX5_times 4 = .ok (.aload_n 0, 1) := by decide +kernel
theorem dX5_times_5 : decode cX5_times 5 = .ok (.getfield 9, 3) := by decide +kernel
theorem dX5_times_8 : decode cX5_times 8 = .ok (.aload_n 1, 1) := by decide +kernel
theorem dX5_times_9 : decode cX5_times 9 = .ok (.getfield 9, 3) := by decide +kernel
theorem dX5_times_12 : decode cX5_times 12 = .ok (.lmul, 1) := by decide +kernel
theorem dX5_times_13 : decode cX5_times 13 = .ok (.aload_n 0, 1) := by decide +kernel
theorem dX5_times_14 : decode cX5_times 14 = .ok (.getfield 15, 3) := by decide +kernel
theorem dX5_times_17 : decode cX5_times 17 = .ok (.aload_n 1, 1) := by decide +kernel
theorem dX5_times_18 : decode cX5_times 18 = .ok (.getfield 15, 3) := by decide +kernel
theorem dX5_times_21 : decode cX5_times 21 = .ok (.lmul, 1) := by decide +kernel
theorem dX5_times_22 : decode cX5_times 22 = .ok (.invokespecial 30, 3) := by decide +kernel
theorem dX5_times_25 : decode cX5_times 25 = .ok (.areturn, 1) := by decide +kernel
theorem dX5_of_0 : decode cX5_of 0 = .ok (.aload_n 0, 1) := by decide +kernel
theorem dX5_of_1 : decode cX5_of 1 = .ok (.getfield 15, 3) := by decide +kernel
theorem dX5_of_4 : decode cX5_of 4 = .ok (.lconst 0, 1) := by decide +kernel
theorem dX5_of_5 : decode cX5_of 5 = .ok (.lcmp, 1) := by decide +kernel
theorem dX5_of_6 : decode cX5_of 6 = .ok (.ifCond .le 17, 3) := by decide +kernel
theorem dX5_of_9 : decode cX5_of 9 = .ok (.lload_n 1, 1) := by decide +kernel
theorem dX5_of_10 : decode cX5_of 10 = .ok (.aload_n 0, 1) := by decide +kernel
theorem dX5_of_11 : decode cX5_of 11 = .ok (.getfield 9, 3) := by decide +kernel
theorem dX5_of_14 : decode cX5_of 14 = .ok (.lmul, 1) := by decide +kernel
theorem dX5_of_15 : decode cX5_of 15 = .ok (.aload_n 0, 1) := by decide +kernel
theorem dX5_of_16 : decode cX5_of 16 = .ok (.getfield 15, 3) := by decide +kernel
theorem dX5_of_19 : decode cX5_of 19 = .ok (.ldiv, 1) := by decide +kernel
theorem dX5_of_20 : decode cX5_of 20 = .ok (.goto 6, 3) := by decide +kernel
theorem dX5_of_23 : decode cX5_of 23 = .ok (.ldc2_w 33, 3) := by decide +kernel
theorem dX5_of_26 : decode cX5_of 26 = .ok (.lreturn, 1) := by decide +kernel
theorem dX6_init_0 : decode cX6_init 0 = .ok (.aload_n 0, 1) := by decide +kernel
theorem dX6_init_1 : decode cX6_init 1 = .ok (.invokespecial 1, 3) := by decide +kernel
theorem dX6_init_4 : decode cX6_init 4 = .ok (.aload_n 0, 1) := by decide +kernel
theorem dX6_init_5 : decode cX6_init 5 = .ok (.iload_n 1, 1) := by decide +kernel
theorem dX6_init_6 : decode cX6_init 6 = .ok (.iconst 0, 1) := by decide +kernel
theorem dX6_init_7 : decode cX6_init 7 = .ok (.invokestatic 7, 3) := by decide +kernel
theorem dX6_init_10 : decode cX6_init 10 = .ok (.newarray .byte, 2) := by decide +kernel
theorem dX6_init_12 : decode cX6_init 12 = .ok (.putfield 13, 3) := by decide +kernel
theorem dX6_init_15 : decode cX6_init 15 = .ok (.aload_n 0, 1) := by decide +kernel
theorem dX6_init_16 : decode cX6_init 16 = .ok (.iconst 0, 1) := by decide +kernel
theorem dX6_init_17 : decode cX6_init 17 = .ok (.putfield 19, 3) := by decide +kernel
theorem dX6_init_20 : decode cX6_init 20 = .ok (.return_, 1) := by decide +kernel
theorem dX6_room_0 : decode cX6_room 0 = .ok (.aload_n 0, 1) := by decide +kernel
theorem dX6_room_1 : decode cX6_room 1 = .ok (.getfield 13, 3) := by decide +kernel
theorem dX6_room_4 : decode cX6_room 4 = .ok (.arraylength, 1) := by decide +kernel
theorem dX6_room_5 : decode cX6_room 5 = .ok (.aload_n 0, 1) := by decide +kernel
theorem dX6_room_6 : decode cX6_room 6 = .ok (.getfield 19, 3) := by decide +kernel
theorem dX6_room_9 : decode cX6_room 9 = .ok (.isub, 1) := by decide +kernel
theorem dX6_room_10 : decode cX6_room 10 = .ok (.ireturn, 1) := by decide +kernel
set_option maxRecDepth 20000 in
theorem ggX6_whole_X3_init : GoodIn wsX6_whole wsX3_init := goodIn_r _ [7, 8, 9, 10, 11, 12, 13, 14, 18, 19, 15, 16, 17] (by decide +kernel) (by decide +kernel)
set_option maxRecDepth 20000 in
theorem gX6_whole_X3_init : GoodIn wsX6_whole (wsX3_init) := ggX6_whole_X3_init
theorem dX6_whole_0 : decode cX6_whole 0 = .ok (.new 23, 3) := by decide +kernel
theorem dX6_whole_3 : decode cX6_whole 3 = .ok (.dup, 1) := by decide +kernel
theorem dX6_whole_4 : decode cX6_whole 4 = .ok (.aload_n 0, 1) := by decide +kernel
theorem dX6_whole_5 : decode cX6_whole 5 = .ok (.iconst 0, 1) := by decide +kernel
theorem dX6_whole_6 : decode cX6_whole 6 = .ok (.aload_n 0, 1) := by decide +kernel
theorem dX6_whole_7 : decode cX6_whole 7 = .ok (.getfield 19, 3) := by decide +kernel
theorem dX6_whole_10 : decode cX6_whole 10 = .ok (.invokespecial 25, 3) := by decide +kernel
theorem dX6_whole_13 : decode cX6_whole 13 = .ok (.areturn, 1) := by decide +kernel
theorem dX6_keep_0 : decode cX6_keep 0 = .ok (.iload_n 1, 1) := by decide +kernel
theorem dX6_keep_1 : decode cX6_keep 1 = .ok (.ifCond .lt 16, 3) := by decide +kernel
theorem dX6_keep_4 : decode cX6_keep 4 = .ok (.iload_n 1, 1) := by decide +kernel
theorem dX6_keep_5 : decode cX6_keep 5 = .ok (.aload_n 0, 1) := by decide +kernel
theorem dX6_keep_6 : decode cX6_keep 6 = .ok (.getfield 19, 3) := by decide +kernel
theorem dX6_keep_9 : decode cX6_keep 9 = .ok (.if_icmp .gt 8, 3) := by decide +kernel
theorem dX6_keep_12 : decode cX6_keep 12 = .ok (.aload_n 0, 1) := by decide +kernel
theorem dX6_keep_13 : decode cX6_keep 13 = .ok (.iload_n 1, 1) := by decide +kernel
theorem dX6_keep_14 : decode cX6_keep 14 = .ok (.putfield 19, 3) := by decide +kernel
theorem dX6_keep_17 : decode cX6_keep 17 = .ok (.return_, 1) := by decide +kernel
set_option maxRecDepth 20000 in
theorem ggX6_append_X6_room : GoodIn wsX6_append wsX6_room := goodIn_r _ [7, 1, 2, 8, 9] (by decide +kernel) (by decide +kernel)
set_option maxRecDepth 20000 in
theorem gX6_append_X6_room : GoodIn wsX6_append (wsV RX6 28 RX6 yX6_room wsX6_room) := goodIn_app (goodIn_of _ (by decide +kernel)) ggX6_append_X6_room
theorem dX6_append_0 : decode cX6_append 0 = .ok (.iload_n 1, 1) := by decide +kernel
theorem dX6_append_1 : decode cX6_append 1 = .ok (.ifCond .lt 17, 3) := by decide +kernel
theorem dX6_append_4 : decode cX6_append 4 = .ok (.iload_n 1, 1) := by decide +kernel
theorem dX6_append_5 : decode cX6_append 5 = .ok (.bipush 8, 2) := by decide +kernel
theorem dX6_append_7 : decode cX6_append 7 = .ok (.if_icmp .gt 11, 3) := by decide +kernel
theorem dX6_append_10 : decode cX6_append 10 = .ok (.iload_n 1, 1) := by decide +kernel
theorem dX6_append_11 : decode cX6_append 11 = .ok (.aload_n 0, 1) := by decide +kernel
theorem dX6_append_12 : decode cX6_append 12 = .ok (.invokevirtual 28, 3) := by decide +kernel
theorem dX6_append_15 : decode cX6_append 15 = .ok (.if_icmp .le 4, 3) := by decide +kernel
theorem dX6_append_18 : decode cX6_append 18 = .ok (.return_, 1) := by decide +kernel
theorem dX6_append_19 : decode cX6_append 19 = .ok (.iload_n 1, 1) := by decide +kernel
theorem dX6_append_20 : decode cX6_append 20 = .ok (.istore 4, 2) := by decide +kernel
theorem dX6_append_22 : decode cX6_append 22 = .ok (.iload 4, 2) := by decide +kernel
theorem dX6_append_24 : decode cX6_append 24 = .ok (.ifCond .le 39, 3) := by decide +kernel
theorem dX6_append_27 : decode cX6_append 27 = .ok (.aload_n 0, 1) := by decide +kernel
theorem dX6_append_28 : decode cX6_append 28 = .ok (.getfield 13, 3) := by decide +kernel
theorem dX6_append_31 : decode cX6_append 31 = .ok (.aload_n 0, 1) := by decide +kernel
theorem dX6_append_32 : decode cX6_append 32 = .ok (.getfield 19, 3) := by decide +kernel
theorem dX6_append_35 : decode cX6_append 35 = .ok (.lload_n 2, 1) := by decide +kernel
theorem dX6_append_36 : decode cX6_append 36 = .ok (.bipush 8, 2) := by decide +kernel
theorem dX6_append_38 : decode cX6_append 38 = .ok (.iload 4, 2) := by decide +kernel
theorem dX6_append_40 : decode cX6_append 40 = .ok (.iconst 1, 1) := by decide +kernel
theorem dX6_append_41 : decode cX6_append 41 = .ok (.isub, 1) := by decide +kernel
theorem dX6_append_42 : decode cX6_append 42 = .ok (.imul, 1) := by decide +kernel
theorem dX6_append_43 : decode cX6_append 43 = .ok (.lushr, 1) := by decide +kernel
theorem dX6_append_44 : decode cX6_append 44 = .ok (.l2i, 1) := by decide +kernel
theorem dX6_append_45 : decode cX6_append 45 = .ok (.i2b, 1) := by decide +kernel
theorem dX6_append_46 : decode cX6_append 46 = .ok (.bastore, 1) := by decide +kernel
theorem dX6_append_47 : decode cX6_append 47 = .ok (.aload_n 0, 1) := by decide +kernel
theorem dX6_append_48 : decode cX6_append 48 = .ok (.dup, 1) := by decide +kernel
theorem dX6_append_49 : decode cX6_append 49 = .ok (.getfield 19, 3) := by decide +kernel
theorem dX6_append_52 : decode cX6_append 52 = .ok (.iconst 1, 1) := by decide +kernel
theorem dX6_append_53 : decode cX6_append 53 = .ok (.iadd, 1) := by decide +kernel
theorem dX6_append_54 : decode cX6_append 54 = .ok (.putfield 19, 3) := by decide +kernel
theorem dX6_append_57 : decode cX6_append 57 = .ok (.iinc 4 (-1), 3) := by decide +kernel
theorem dX6_append_60 : decode cX6_append 60 = .ok (.goto (-38), 3) := by decide +kernel
theorem dX6_append_63 : decode cX6_append 63 = .ok (.return_, 1) := by decide +kernel
set_option maxRecDepth 20000 in
theorem ggX6_splice_X6_room : GoodIn wsX6_splice wsX6_room := goodIn_r _ [14, 3, 1, 15, 16] (by decide +kernel) (by decide +kernel)
set_option maxRecDepth 20000 in
theorem gX6_splice_X6_room : GoodIn wsX6_splice (wsV RX6 28 RX6 yX6_room wsX6_room) := goodIn_app (goodIn_of _ (by decide +kernel)) ggX6_splice_X6_room
theorem dX6_splice_0 : decode cX6_splice 0 = .ok (.iload_n 1, 1) := by decide +kernel
theorem dX6_splice_1 : decode cX6_splice 1 = .ok (.ifCond .lt 30, 3) := by decide +kernel
theorem dX6_splice_4 : decode cX6_splice 4 = .ok (.iload_n 2, 1) := by decide +kernel
theorem dX6_splice_5 : decode cX6_splice 5 = .ok (.ifCond .lt 26, 3) := by decide +kernel
theorem dX6_splice_8 : decode cX6_splice 8 = .ok (.iload_n 1, 1) := by decide +kernel
theorem dX6_splice_9 : decode cX6_splice 9 = .ok (.aload_n 0, 1) := by decide +kernel
theorem dX6_splice_10 : decode cX6_splice 10 = .ok (.getfield 19, 3) := by decide +kernel
theorem dX6_splice_13 : decode cX6_splice 13 = .ok (.iload_n 2, 1) := by decide +kernel
theorem dX6_splice_14 : decode cX6_splice 14 = .ok (.isub, 1) := by decide +kernel
theorem dX6_splice_15 : decode cX6_splice 15 = .ok (.if_icmp .gt 16, 3) := by decide +kernel
theorem dX6_splice_18 : decode cX6_splice 18 = .ok (.aload_n 3, 1) := by decide +kernel
theorem dX6_splice_19 : decode cX6_splice 19 = .ok (.getfield 32, 3) := by decide +kernel
theorem dX6_splice_22 : decode cX6_splice 22 = .ok (.iload_n 2, 1) := by decide +kernel
theorem dX6_splice_23 : decode cX6_splice 23 = .ok (.isub, 1) := by decide +kernel
theorem dX6_splice_24 : decode cX6_splice 24 = .ok (.aload_n 0, 1) := by decide +kernel
theorem dX6_splice_25 : decode cX6_splice 25 = .ok (.invokevirtual 28, 3) := by decide +kernel
theorem dX6_splice_28 : decode cX6_splice 28 = .ok (.if_icmp .le 4, 3) := by decide +kernel
theorem dX6_splice_31 : decode cX6_splice 31 = .ok (.return_, 1) := by decide +kernel
theorem dX6_splice_32 : decode cX6_splice 32 = .ok (.iload_n 1, 1) := by decide +kernel
theorem dX6_splice_33 : decode cX6_splice 33 = .ok (.iload_n 2, 1) := by decide +kernel
theorem dX6_splice_34 : decode cX6_splice 34 = .ok (.iadd, 1) := by decide +kernel
theorem dX6_splice_35 : decode cX6_splice 35 = .ok (.istore 4, 2) := by decide +kernel
theorem dX6_splice_37 : decode cX6_splice 37 = .ok (.aload_n 0, 1) := by decide +kernel
theorem dX6_splice_38 : decode cX6_splice 38 = .ok (.getfield 13, 3) := by decide +kernel
theorem dX6_splice_41 : decode cX6_splice 41 = .ok (.iload 4, 2) := by decide +kernel
theorem dX6_splice_43 : decode cX6_splice 43 = .ok (.aload_n 0, 1) := by decide +kernel
theorem dX6_splice_44 : decode cX6_splice 44 = .ok (.getfield 13, 3) := by decide +kernel
theorem dX6_splice_47 : decode cX6_splice 47 = .ok (.iload_n 1, 1) := by decide +kernel
theorem dX6_splice_48 : decode cX6_splice 48 = .ok (.aload_n 3, 1) := by decide +kernel
theorem dX6_splice_49 : decode cX6_splice 49 = .ok (.getfield 32, 3) := by decide +kernel
theorem dX6_splice_52 : decode cX6_splice 52 = .ok (.iadd, 1) := by decide +kernel
theorem dX6_splice_53 : decode cX6_splice 53 = .ok (.aload_n 0, 1) := by decide +kernel
theorem dX6_splice_54 : decode cX6_splice 54 = .ok (.getfield 19, 3) := by decide +kernel
theorem dX6_splice_57 : decode cX6_splice 57 = .ok (.iload 4, 2) := by decide +kernel
theorem dX6_splice_59 : decode cX6_splice 59 = .ok (.isub, 1) := by decide +kernel
theorem dX6_splice_60 : decode cX6_splice 60 = .ok (.invokestatic 33, 3) := by decide +kernel
theorem dX6_splice_63 : decode cX6_splice 63 = .ok (.aload_n 3, 1) := by decide +kernel
theorem dX6_splice_64 : decode cX6_splice 64 = .ok (.getfield 39, 3) := by decide +kernel
theorem dX6_splice_67 : decode cX6_splice 67 = .ok (.getfield 13, 3) := by decide +kernel
theorem dX6_splice_70 : decode cX6_splice 70 = .ok (.aload_n 3, 1) := by decide +kernel
theorem dX6_splice_71 : decode cX6_splice 71 = .ok (.getfield 43, 3) := by decide +kernel
theorem dX6_splice_74 : decode cX6_splice 74 = .ok (.aload_n 0, 1) := by decide +kernel
theorem dX6_splice_75 : decode cX6_splice 75 = .ok (.getfield 13, 3) := by decide +kernel
theorem dX6_splice_78 : decode cX6_splice 78 = .ok (.iload_n 1, 1) := by decide +kernel
theorem dX6_splice_79 : decode cX6_splice 79 = .ok (.aload_n 3, 1) := by decide +kernel
theorem dX6_splice_80 : decode cX6_splice 80 = .ok (.getfield 32, 3) := by decide +kernel
theorem dX6_splice_83 : decode cX6_splice 83 = .ok (.invokestatic 33, 3) := by decide +kernel
theorem dX6_splice_86 : decode cX6_splice 86 = .ok (.aload_n 0, 1) := by decide +kernel
theorem dX6_splice_87 : decode cX6_splice 87 = .ok (.dup, 1) := by decide +kernel
theorem dX6_splice_88 : decode cX6_splice 88 = .ok (.getfield 19, 3) := by decide +kernel
theorem dX6_splice_91 : decode cX6_splice 91 = .ok (.aload_n 3, 1) := by decide +kernel
theorem dX6_splice_92 : decode cX6_splice 92 = .ok (.getfield 32, 3) := by decide +kernel
theorem dX6_splice_95 : decode cX6_splice 95 = .ok (.iload_n 2, 1) := by decide +kernel
theorem dX6_splice_96 : decode cX6_splice 96 = .ok (.isub, 1) := by decide +kernel
theorem dX6_splice_97 : decode cX6_splice 97 = .ok (.iadd, 1) := by decide +kernel
theorem dX6_splice_98 : decode cX6_splice 98 = .ok (.putfield 19, 3) := by decide +kernel
theorem dX6_splice_101 : decode cX6_splice 101 = .ok (.return_, 1) := by decide +kernel
set_option maxRecDepth 20000 in
theorem ggX7_measure_X3_u4 : GoodIn wsX7_measure wsX3_u4 := goodIn_r _ [10, 11, 12, 13, 9, 14, 15, 16, 17, 18, 19, 20, 21, 22, 23, 36, 37, 38, 39, 40] (by decide +kernel) (by decide +kernel)
set_option maxRecDepth 20000 in
theorem gX7_measure_X3_u4 : GoodIn wsX7_measure (wsV RX7 9 RX3 yX3_u4 wsX3_u4) := goodIn_app (goodIn_of _ (by decide +kernel)) ggX7_measure_X3_u4
set_option maxRecDepth 20000 in
theorem ggX7_measure_X3_holds : GoodIn wsX7_measure wsX3_holds := goodIn_r _ [22, 23, 36, 37, 38] (by decide +kernel) (by decide +kernel)
set_option maxRecDepth 20000 in
theorem gX7_measure_X3_holds : GoodIn wsX7_measure (wsV RX7 25 RX3 yX3_holds wsX3_holds) := goodIn_app (goodIn_of _ (by decide +kernel)) ggX7_measure_X3_holds
set_option maxRecDepth 20000 in
theorem ggX7_measure_X7_ofComm : GoodIn wsX7_measure wsX7_ofComm := goodIn_r _ [28, 2, 29, 30, 31, 9, 32, 11, 12, 13, 14, 15, 16, 17, 18, 19, 20, 21, 22, 23, 6, 7, 8, 10, 33, 34, 27, 35, 36, 37, 38, 39, 40] (by decide +kernel) (by decide +kernel)
set_option maxRecDepth 20000 in
theorem gX7_measure_X7_ofComm : GoodIn wsX7_measure (va_wsS RX7 35 yX7_ofComm wsX7_ofComm) := goodIn_app (goodIn_of _ (by decide +kernel)) ggX7_measure_X7_ofComm
theorem dX7_measure_0 : decode cX7_measure 0 = .ok (.aload_n 0, 1) := by decide +kernel
theorem dX7_measure_1 : decode cX7_measure 1 = .ok (.iconst 0, 1) := by decide +kernel
theorem dX7_measure_2 : decode cX7_measure 2 = .ok (.invokevirtual 9, 3) := by decide +kernel
theorem dX7_measure_5 : decode cX7_measure 5 = .ok (.ldc2_w 17, 3) := by decide +kernel
theorem dX7_measure_8 : decode cX7_measure 8 = .ok (.lcmp, 1) := by decide +kernel
theorem dX7_measure_9 : decode cX7_measure 9 = .ok (.ifCond .eq 7, 3) := by decide +kernel
theorem dX7_measure_12 : decode cX7_measure 12 = .ok (.ldc2_w 19, 3) := by decide +kernel
theorem dX7_measure_15 : decode cX7_measure 15 = .ok (.lreturn, 1) := by decide +kernel
theorem dX7_measure_16 : decode cX7_measure 16 = .ok (.iconst 4, 1) := by decide +kernel
theorem dX7_measure_17 : decode cX7_measure 17 = .ok (.istore_n 2, 1) := by decide +kernel
theorem dX7_measure_18 : decode cX7_measure 18 = .ok (.aload_n 0, 1) := by decide +kernel
theorem dX7_measure_19 : decode cX7_measure 19 = .ok (.getfield 21, 3) := by decide +kernel
theorem dX7_measure_22 : decode cX7_measure 22 = .ok (.istore_n 3, 1) := by decide +kernel
theorem dX7_measure_23 : decode cX7_measure 23 = .ok (.iload_n 3, 1) := by decide +kernel
theorem dX7_measure_24 : decode cX7_measure 24 = .ok (.ifCond .le 93, 3) := by decide +kernel
theorem dX7_measure_27 : decode cX7_measure 27 = .ok (.aload_n 0, 1) := by decide +kernel
theorem dX7_measure_28 : decode cX7_measure 28 = .ok (.iload_n 2, 1) := by decide +kernel
theorem dX7_measure_29 : decode cX7_measure 29 = .ok (.bipush 8, 2) := by decide +kernel
theorem dX7_measure_31 : decode cX7_measure 31 = .ok (.invokevirtual 25, 3) := by decide +kernel
theorem dX7_measure_34 : decode cX7_measure 34 = .ok (.ifCond .eq 83, 3) := by decide +kernel
theorem dX7_measure_37 : decode cX7_measure 37 = .ok (.aload_n 0, 1) := by decide +kernel
theorem dX7_measure_38 : decode cX7_measure 38 = .ok (.iload_n 2, 1) := by decide +kernel
theorem dX7_measure_39 : decode cX7_measure 39 = .ok (.iconst 4, 1) := by decide +kernel
theorem dX7_measure_40 : decode cX7_measure 40 = .ok (.iadd, 1) := by decide +kernel
theorem dX7_measure_41 : decode cX7_measure 41 = .ok (.invokevirtual 9, 3) := by decide +kernel
theorem dX7_measure_44 : decode cX7_measure 44 = .ok (.lstore 4, 2) := by decide +kernel
theorem dX7_measure_46 : decode cX7_measure 46 = .ok (.lload 4, 2) := by decide +kernel
theorem dX7_measure_48 : decode cX7_measure 48 = .ok (.aload_n 0, 1) := by decide +kernel
theorem dX7_measure_49 : decode cX7_measure 49 = .ok (.getfield 21, 3) := by decide +kernel
theorem dX7_measure_52 : decode cX7_measure 52 = .ok (.iload_n 2, 1) := by decide +kernel
theorem dX7_measure_53 : decode cX7_measure 53 = .ok (.isub, 1) := by decide +kernel
theorem dX7_measure_54 : decode cX7_measure 54 = .ok (.bipush 8, 2) := by decide +kernel
theorem dX7_measure_56 : decode cX7_measure 56 = .ok (.isub, 1) := by decide +kernel
theorem dX7_measure_57 : decode cX7_measure 57 = .ok (.i2l, 1) := by decide +kernel
theorem dX7_measure_58 : decode cX7_measure 58 = .ok (.lcmp, 1) := by decide +kernel
theorem dX7_measure_59 : decode cX7_measure 59 = .ok (.ifCond .le 7, 3) := by decide +kernel
theorem dX7_measure_62 : decode cX7_measure 62 = .ok (.ldc2_w 19, 3) := by decide +kernel
theorem dX7_measure_65 : decode cX7_measure 65 = .ok (.lreturn, 1) := by decide +kernel
theorem dX7_measure_66 : decode cX7_measure 66 = .ok (.iinc 2 8, 3) := by decide +kernel
theorem dX7_measure_69 : decode cX7_measure 69 = .ok (.aload_n 0, 1) := by decide +kernel
theorem dX7_measure_70 : decode cX7_measure 70 = .ok (.iload_n 2, 1) := by decide +kernel
theorem dX7_measure_71 : decode cX7_measure 71 = .ok (.bipush 8, 2) := by decide +kernel
theorem dX7_measure_73 : decode cX7_measure 73 = .ok (.isub, 1) := by decide +kernel
theorem dX7_measure_74 : decode cX7_measure 74 = .ok (.invokevirtual 9, 3) := by decide +kernel
theorem dX7_measure_77 : decode cX7_measure 77 = .ok (.ldc2_w 29, 3) := by decide +kernel
theorem dX7_measure_80 : decode cX7_measure 80 = .ok (.lcmp, 1) := by decide +kernel
theorem dX7_measure_81 : decode cX7_measure 81 = .ok (.ifCond .ne 19, 3) := by decide +kernel
theorem dX7_measure_84 : decode cX7_measure 84 = .ok (.lload 4, 2) := by decide +kernel
theorem dX7_measure_86 : decode cX7_measure 86 = .ok (.ldc2_w 33, 3) := by decide +kernel
theorem dX7_measure_89 : decode cX7_measure 89 = .ok (.lcmp, 1) := by decide +kernel
theorem dX7_measure_90 : decode cX7_measure 90 = .ok (.ifCond .lt 10, 3) := by decide +kernel
theorem dX7_measure_93 : decode cX7_measure 93 = .ok (.aload_n 0, 1) := by decide +kernel
theorem dX7_measure_94 : decode cX7_measure 94 = .ok (.iload_n 2, 1) := by decide +kernel
theorem dX7_measure_95 : decode cX7_measure 95 = .ok (.iload_n 1, 1) := by decide +kernel
theorem dX7_measure_96 : decode cX7_measure 96 = .ok (.invokestatic 35, 3) := by decide +kernel
theorem dX7_measure_99 : decode cX7_measure 99 = .ok (.lreturn, 1) := by decide +kernel
theorem dX7_measure_100 : decode cX7_measure 100 = .ok (.iload_n 2, 1) := by decide +kernel
theorem dX7_measure_101 : decode cX7_measure 101 = .ok (.lload 4, 2) := by decide +kernel
theorem dX7_measure_103 : decode cX7_measure 103 = .ok (.lload 4, 2) := by decide +kernel
theorem dX7_measure_105 : decode cX7_measure 105 = .ok (.lconst 1, 1) := by decide +kernel
theorem dX7_measure_106 : decode cX7_measure 106 = .ok (.land, 1) := by decide +kernel
theorem dX7_measure_107 : decode cX7_measure 107 = .ok (.ladd, 1) := by decide +kernel
theorem dX7_measure_108 : decode cX7_measure 108 = .ok (.l2i, 1) := by decide +kernel
theorem dX7_measure_109 : decode cX7_measure 109 = .ok (.iadd, 1) := by decide +kernel
theorem dX7_measure_110 : decode cX7_measure 110 = .ok (.istore_n 2, 1) := by decide +kernel
theorem dX7_measure_111 : decode cX7_measure 111 = .ok (.iinc 3 (-1), 3) := by decide +kernel
theorem dX7_measure_114 : decode cX7_measure 114 = .ok (.goto (-91), 3) := by decide +kernel
theorem dX7_measure_117 : decode cX7_measure 117 = .ok (.ldc2_w 19, 3) := by decide +kernel
theorem dX7_measure_120 : decode cX7_measure 120 = .ok (.lreturn, 1) := by decide +kernel
set_option maxRecDepth 20000 in
theorem ggX7_ofComm_X3_u2 : GoodIn wsX7_ofComm wsX3_u2 := goodIn_r _ [6, 7, 8, 9, 5, 10, 11, 12, 13, 14, 15, 16, 17, 18, 19, 28, 29, 30, 31, 32] (by decide +kernel) (by decide +kernel)
set_option maxRecDepth 20000 in
theorem gX7_ofComm_X3_u2 : GoodIn wsX7_ofComm (wsV RX7 39 RX3 yX3_u2 wsX3_u2) := goodIn_app (goodIn_of _ (by decide +kernel)) ggX7_ofComm_X3_u2
set_option maxRecDepth 20000 in
theorem ggX7_ofComm_X3_u4 : GoodIn wsX7_ofComm wsX3_u4 := goodIn_r _ [23, 7, 8, 9, 5, 10, 11, 12, 13, 14, 15, 16, 17, 18, 19, 28, 29, 30, 31, 32] (by decide +kernel) (by decide +kernel)
set_option maxRecDepth 20000 in
theorem gX7_ofComm_X3_u4 : GoodIn wsX7_ofComm (wsV RX7 9 RX3 yX3_u4 wsX3_u4) := goodIn_app (goodIn_of _ (by decide +kernel)) ggX7_ofComm_X3_u4
set_option maxRecDepth 20000 in
theorem ggX7_ofComm_X7_rate : GoodIn wsX7_ofComm wsX7_rate := goodIn_r _ [27, 1, 2, 3, 4, 5, 6, 7, 8, 9, 10, 11, 12, 13, 14, 15, 16, 17, 18, 19, 20, 21, 22, 23, 28, 29, 30, 31, 32] (by decide +kernel) (by decide +kernel)
set_option maxRecDepth 20000 in
theorem gX7_ofComm_X7_rate : GoodIn wsX7_ofComm (va_wsS RX7 43 yX7_rate wsX7_rate) := goodIn_app (goodIn_of _ (by decide +kernel)) ggX7_ofComm_X7_rate
theorem dX7_ofComm_0 : decode cX7_ofComm 0 = .ok (.iload_n 2, 1) := by decide +kernel
theorem dX7_ofComm_1 : decode cX7_ofComm 1 = .ok (.tableswitch 65 0 3 #[31, 38, 46, 56], 31) := by decide +kernel
theorem dX7_ofComm_32 : decode cX7_ofComm 32 = .ok (.aload_n 0, 1) := by decide +kernel
theorem dX7_ofComm_33 : decode cX7_ofComm 33 = .ok (.iload_n 1, 1) := by decide +kernel
theorem dX7_ofComm_34 : decode cX7_ofComm 34 = .ok (.invokevirtual 39, 3) := by decide +kernel
theorem dX7_ofComm_37 : decode cX7_ofComm 37 = .ok (.i2l, 1) := by decide +kernel
theorem dX7_ofComm_38 : decode cX7_ofComm 38 = .ok (.lreturn, 1) := by decide +kernel
theorem dX7_ofComm_39 : decode cX7_ofComm 39 = .ok (.aload_n 0, 1) := by decide +kernel
theorem dX7_ofComm_40 : decode cX7_ofComm 40 = .ok (.iload_n 1, 1) := by decide +kernel
theorem dX7_ofComm_41 : decode cX7_ofComm 41 = .ok (.iconst 2, 1) := by decide +kernel
theorem dX7_ofComm_42 : decode cX7_ofComm 42 = .ok (.iadd, 1) := by decide +kernel
theorem dX7_ofComm_43 : decode cX7_ofComm 43 = .ok (.invokevirtual 9, 3) := by decide +kernel
theorem dX7_ofComm_46 : decode cX7_ofComm 46 = .ok (.lreturn, 1) := by decide +kernel
theorem dX7_ofComm_47 : decode cX7_ofComm 47 = .ok (.aload_n 0, 1) := by decide +kernel
theorem dX7_ofComm_48 : decode cX7_ofComm 48 = .ok (.iload_n 1, 1) := by decide +kernel
theorem dX7_ofComm_49 : decode cX7_ofComm 49 = .ok (.bipush 6, 2) := by decide +kernel
theorem dX7_ofComm_51 : decode cX7_ofComm 51 = .ok (.iadd, 1) := by decide +kernel
theorem dX7_ofComm_52 : decode cX7_ofComm 52 = .ok (.invokevirtual 39, 3) := by decide +kernel
theorem dX7_ofComm_55 : decode cX7_ofComm 55 = .ok (.i2l, 1) := by decide +kernel
theorem dX7_ofComm_56 : decode cX7_ofComm 56 = .ok (.lreturn, 1) := by decide +kernel
theorem dX7_ofComm_57 : decode cX7_ofComm 57 = .ok (.aload_n 0, 1) := by decide +kernel
theorem dX7_ofComm_58 : decode cX7_ofComm 58 = .ok (.iload_n 1, 1) := by decide +kernel
theorem dX7_ofComm_59 : decode cX7_ofComm 59 = .ok (.bipush 8, 2) := by decide +kernel
theorem dX7_ofComm_61 : decode cX7_ofComm 61 = .ok (.iadd, 1) := by decide +kernel
theorem dX7_ofComm_62 : decode cX7_ofComm 62 = .ok (.invokestatic 43, 3) := by decide +kernel
theorem dX7_ofComm_65 : decode cX7_ofComm 65 = .ok (.lreturn, 1) := by decide +kernel
theorem dX7_ofComm_66 : decode cX7_ofComm 66 = .ok (.ldc2_w 19, 3) := by decide +kernel
theorem dX7_ofComm_69 : decode cX7_ofComm 69 = .ok (.lreturn, 1) := by decide +kernel
set_option maxRecDepth 20000 in
theorem ggX7_rate_X3_u2 : GoodIn wsX7_rate wsX3_u2 := goodIn_r _ [6, 7, 8, 9, 5, 10, 11, 12, 13, 14, 15, 16, 17, 18, 19, 24, 25, 26, 27, 28] (by decide +kernel) (by decide +kernel)
set_option maxRecDepth 20000 in
theorem gX7_rate_X3_u2 : GoodIn wsX7_rate (wsV RX7 39 RX3 yX3_u2 wsX3_u2) := goodIn_app (goodIn_of _ (by decide +kernel)) ggX7_rate_X3_u2
set_option maxRecDepth 20000 in
theorem ggX7_rate_X3_u4 : GoodIn wsX7_rate wsX3_u4 := goodIn_r _ [23, 7, 8, 9, 5, 10, 11, 12, 13, 14, 15, 16, 17, 18, 19, 24, 25, 26, 27, 28] (by decide +kernel) (by decide +kernel)
set_option maxRecDepth 20000 in
theorem gX7_rate_X3_u4 : GoodIn wsX7_rate (wsV RX7 9 RX3 yX3_u4 wsX3_u4) := goodIn_app (goodIn_of _ (by decide +kernel)) ggX7_rate_X3_u4
theorem dX7_rate_0 : decode cX7_rate 0 = .ok (.aload_n 0, 1) := by decide +kernel
theorem dX7_rate_1 : decode cX7_rate 1 = .ok (.iload_n 1, 1) := by decide +kernel
theorem dX7_rate_2 : decode cX7_rate 2 = .ok (.invokevirtual 39, 3) := by decide +kernel
theorem dX7_rate_5 : decode cX7_rate 5 = .ok (.istore_n 2, 1) := by decide +kernel
theorem dX7_rate_6 : decode cX7_rate 6 = .ok (.iload_n 2, 1) := by decide +kernel
theorem dX7_rate_7 : decode cX7_rate 7 = .ok (.sipush 16445, 3) := by decide +kernel
theorem dX7_rate_10 : decode cX7_rate 10 = .ok (.if_icmp .le 7, 3) := by decide +kernel
theorem dX7_rate_13 : decode cX7_rate 13 = .ok (.ldc2_w 19, 3) := by decide +kernel
theorem dX7_rate_16 : decode cX7_rate 16 = .ok (.lreturn, 1) := by decide +kernel
theorem dX7_rate_17 : decode cX7_rate 17 = .ok (.sipush 16446, 3) := by decide +kernel
theorem dX7_rate_20 : decode cX7_rate 20 = .ok (.iload_n 2, 1) := by decide +kernel
theorem dX7_rate_21 : decode cX7_rate 21 = .ok (.isub, 1) := by decide +kernel
theorem dX7_rate_22 : decode cX7_rate 22 = .ok (.istore_n 3, 1) := by decide +kernel
theorem dX7_rate_23 : decode cX7_rate 23 = .ok (.aload_n 0, 1) := by decide +kernel
theorem dX7_rate_24 : decode cX7_rate 24 = .ok (.iload_n 1, 1) := by decide +kernel
theorem dX7_rate_25 : decode cX7_rate 25 = .ok (.iconst 2, 1) := by decide +kernel
theorem dX7_rate_26 : decode cX7_rate 26 = .ok (.iadd, 1) := by decide +kernel
theorem dX7_rate_27 : decode cX7_rate 27 = .ok (.invokevirtual 9, 3) := by decide +kernel
theorem dX7_rate_30 : decode cX7_rate 30 = .ok (.bipush 32, 2) := by decide +kernel
theorem dX7_rate_32 : decode cX7_rate 32 = .ok (.lshl, 1) := by decide +kernel
theorem dX7_rate_33 : decode cX7_rate 33 = .ok (.aload_n 0, 1) := by decide +kernel
theorem dX7_rate_34 : decode cX7_rate 34 = .ok (.iload_n 1, 1) := by decide +kernel
theorem dX7_rate_35 : decode cX7_rate 35 = .ok (.bipush 6, 2) := by decide +kernel
theorem dX7_rate_37 : decode cX7_rate 37 = .ok (.iadd, 1) := by decide +kernel
theorem dX7_rate_38 : decode cX7_rate 38 = .ok (.invokevirtual 9, 3) := by decide +kernel
theorem dX7_rate_41 : decode cX7_rate 41 = .ok (.lor, 1) := by decide +kernel
theorem dX7_rate_42 : decode cX7_rate 42 = .ok (.lstore 4, 2) := by decide +kernel
theorem dX7_rate_44 : decode cX7_rate 44 = .ok (.iload_n 3, 1) := by decide +kernel
theorem dX7_rate_45 : decode cX7_rate 45 = .ok (.bipush 63, 2) := by decide +kernel
theorem dX7_rate_47 : decode cX7_rate 47 = .ok (.if_icmp .le 7, 3) := by decide +kernel
theorem dX7_rate_50 : decode cX7_rate 50 = .ok (.lconst 0, 1) := by decide +kernel
theorem dX7_rate_51 : decode cX7_rate 51 = .ok (.goto 7, 3) := by decide +kernel
theorem dX7_rate_54 : decode cX7_rate 54 = .ok (.lload 4, 2) := by decide +kernel
theorem dX7_rate_56 : decode cX7_rate 56 = .ok (.iload_n 3, 1) := by decide +kernel
theorem dX7_rate_57 : decode cX7_rate 57 = .ok (.lushr, 1) := by decide +kernel
theorem dX7_rate_58 : decode cX7_rate 58 = .ok (.lreturn, 1) := by decide +kernel
set_option maxRecDepth 20000 in
theorem ggX8_rowOf_X3_u4 : GoodIn wsX8_rowOf wsX3_u4 := goodIn_r _ [6, 7, 8, 9, 5, 10, 11, 12, 13, 14, 15, 16, 17, 18, 19, 20, 21, 22, 23, 24] (by decide +kernel) (by decide +kernel)
set_option maxRecDepth 20000 in
theorem gX8_rowOf_X3_u4 : GoodIn wsX8_rowOf (wsV RX8 17 RX3 yX3_u4 wsX3_u4) := goodIn_app (goodIn_of _ (by decide +kernel)) ggX8_rowOf_X3_u4
theorem dX8_rowOf_0 : decode cX8_rowOf 0 = .ok (.aload_n 0, 1) := by decide +kernel
theorem dX8_rowOf_1 : decode cX8_rowOf 1 = .ok (.getfield 9, 3) := by decide +kernel
theorem dX8_rowOf_4 : decode cX8_rowOf 4 = .ok (.bipush 24, 2) := by decide +kernel
theorem dX8_rowOf_6 : decode cX8_rowOf 6 = .ok (.if_icmp .lt 16, 3) := by decide +kernel
theorem dX8_rowOf_9 : decode cX8_rowOf 9 = .ok (.aload_n 0, 1) := by decide +kernel
theorem dX8_rowOf_10 : decode cX8_rowOf 10 = .ok (.getfield 9, 3) := by decide +kernel
theorem dX8_rowOf_13 : decode cX8_rowOf 13 = .ok (.bipush 24, 2) := by decide +kernel
theorem dX8_rowOf_15 : decode cX8_rowOf 15 = .ok (.isub, 1) := by decide +kernel
theorem dX8_rowOf_16 : decode cX8_rowOf 16 = .ok (.bipush 28, 2) := by decide +kernel
theorem dX8_rowOf_18 : decode cX8_rowOf 18 = .ok (.irem, 1) := by decide +kernel
theorem dX8_rowOf_19 : decode cX8_rowOf 19 = .ok (.ifCond .eq 6, 3) := by decide +kernel
theorem dX8_rowOf_22 : decode cX8_rowOf 22 = .ok (.bipush (-2), 2) := by decide +kernel
theorem dX8_rowOf_24 : decode cX8_rowOf 24 = .ok (.ireturn, 1) := by decide +kernel
theorem dX8_rowOf_25 : decode cX8_rowOf 25 = .ok (.bipush 24, 2) := by decide +kernel
theorem dX8_rowOf_27 : decode cX8_rowOf 27 = .ok (.istore_n 3, 1) := by decide +kernel
theorem dX8_rowOf_28 : decode cX8_rowOf 28 = .ok (.iload_n 3, 1) := by decide +kernel
theorem dX8_rowOf_29 : decode cX8_rowOf 29 = .ok (.aload_n 0, 1) := by decide +kernel
theorem dX8_rowOf_30 : decode cX8_rowOf 30 = .ok (.getfield 9, 3) := by decide +kernel
theorem dX8_rowOf_33 : decode cX8_rowOf 33 = .ok (.if_icmp .ge 21, 3) := by decide +kernel
theorem dX8_rowOf_36 : decode cX8_rowOf 36 = .ok (.aload_n 0, 1) := by decide +kernel
theorem dX8_rowOf_37 : decode cX8_rowOf 37 = .ok (.iload_n 3, 1) := by decide +kernel
theorem dX8_rowOf_38 : decode cX8_rowOf 38 = .ok (.invokevirtual 17, 3) := by decide +kernel
theorem dX8_rowOf_41 : decode cX8_rowOf 41 = .ok (.lload_n 1, 1) := by decide +kernel
theorem dX8_rowOf_42 : decode cX8_rowOf 42 = .ok (.lcmp, 1) := by decide +kernel
theorem dX8_rowOf_43 : decode cX8_rowOf 43 = .ok (.ifCond .ne 5, 3) := by decide +kernel
theorem dX8_rowOf_46 : decode cX8_rowOf 46 = .ok (.iload_n 3, 1) := by decide +kernel
theorem dX8_rowOf_47 : decode cX8_rowOf 47 = .ok (.ireturn, 1) := by decide +kernel
theorem dX8_rowOf_48 : decode cX8_rowOf 48 = .ok (.iinc 3 28, 3) := by decide +kernel
theorem dX8_rowOf_51 : decode cX8_rowOf 51 = .ok (.goto (-23), 3) := by decide +kernel
theorem dX8_rowOf_54 : decode cX8_rowOf 54 = .ok (.bipush (-2), 2) := by decide +kernel
theorem dX8_rowOf_56 : decode cX8_rowOf 56 = .ok (.ireturn, 1) := by decide +kernel
set_option maxRecDepth 20000 in
theorem ggX8_ratioOn_X3_u4 : GoodIn wsX8_ratioOn wsX3_u4 := goodIn_r _ [8, 9, 10, 11, 7, 12, 13, 14, 15, 16, 17, 18, 19, 20, 21, 65, 66, 67, 68, 69] (by decide +kernel) (by decide +kernel)
set_option maxRecDepth 20000 in
theorem gX8_ratioOn_X3_u4 : GoodIn wsX8_ratioOn (wsV RX8 17 RX3 yX3_u4 wsX3_u4) := goodIn_app (goodIn_of _ (by decide +kernel)) ggX8_ratioOn_X3_u4
set_option maxRecDepth 20000 in
theorem ggX8_ratioOn_X5_init : GoodIn wsX8_ratioOn wsX5_init := goodIn_r _ [24, 25, 26, 27, 28, 29, 63, 64] (by decide +kernel) (by decide +kernel)
set_option maxRecDepth 20000 in
theorem gX8_ratioOn_X5_init : GoodIn wsX8_ratioOn (wsX5_init) := ggX8_ratioOn_X5_init
set_option maxRecDepth 20000 in
theorem ggX8_ratioOn_X8_ratioAt : GoodIn wsX8_ratioOn wsX8_ratioAt := goodIn_r _ [33, 1, 2, 3, 4, 5, 6, 7, 8, 9, 10, 11, 12, 13, 14, 15, 16, 17, 18, 19, 20, 21, 22, 23, 24, 25, 26, 27, 28, 29, 63, 64, 65, 66, 67, 68, 69] (by decide +kernel) (by decide +kernel)
set_option maxRecDepth 20000 in
theorem gX8_ratioOn_X8_ratioAt : GoodIn wsX8_ratioOn (va_wsS RX8 26 yX8_ratioAt wsX8_ratioAt) := goodIn_app (goodIn_of _ (by decide +kernel)) ggX8_ratioOn_X8_ratioAt
set_option maxRecDepth 20000 in
theorem ggX8_ratioOn_X5_isUsable : GoodIn wsX8_ratioOn wsX5_isUsable := goodIn_r _ [37, 28, 38, 29, 39, 40, 41, 3, 42, 63, 64] (by decide +kernel) (by decide +kernel)
set_option maxRecDepth 20000 in
theorem gX8_ratioOn_X5_isUsable : GoodIn wsX8_ratioOn (wsV RX8 30 RX5 yX5_isUsable wsX5_isUsable) := goodIn_app (goodIn_of _ (by decide +kernel)) ggX8_ratioOn_X5_isUsable
set_option maxRecDepth 20000 in
theorem ggX8_ratioOn_X5_isLimit : GoodIn wsX8_ratioOn wsX5_isLimit := goodIn_r _ [46, 47, 48, 49, 3, 50, 28, 29, 51, 35, 36, 37, 38, 39, 40, 41, 42, 63, 64] (by decide +kernel) (by decide +kernel)
set_option maxRecDepth 20000 in
theorem gX8_ratioOn_X5_isLimit : GoodIn wsX8_ratioOn (wsV RX8 34 RX5 yX5_isLimit wsX5_isLimit) := goodIn_app (goodIn_of _ (by decide +kernel)) ggX8_ratioOn_X5_isLimit
set_option maxRecDepth 20000 in
theorem ggX8_ratioOn_X5_isBelow : GoodIn wsX8_ratioOn wsX5_isBelow := goodIn_r _ [55, 28, 29, 63, 64] (by decide +kernel) (by decide +kernel)
set_option maxRecDepth 20000 in
theorem gX8_ratioOn_X5_isBelow : GoodIn wsX8_ratioOn (wsV RX8 37 RX5 yX5_isBelow wsX5_isBelow) := goodIn_app (goodIn_of _ (by decide +kernel)) ggX8_ratioOn_X5_isBelow
set_option maxRecDepth 20000 in
theorem ggX8_ratioOn_X5_times : GoodIn wsX8_ratioOn wsX5_times := goodIn_r _ [59, 60, 2, 3, 28, 29, 61, 23, 24, 25, 26, 27, 63, 64] (by decide +kernel) (by decide +kernel)
set_option maxRecDepth 20000 in
theorem gX8_ratioOn_X5_times : GoodIn wsX8_ratioOn (wsV RX8 41 RX5 yX5_times wsX5_times) := goodIn_app (goodIn_of _ (by decide +kernel)) ggX8_ratioOn_X5_times
set_option maxRecDepth 20000 in
theorem ggX8_ratioOn_X5_isNothing : GoodIn wsX8_ratioOn wsX5_isNothing := goodIn_r _ [50, 28, 29, 63, 64] (by decide +kernel) (by decide +kernel)
set_option maxRecDepth 20000 in
theorem gX8_ratioOn_X5_isNothing : GoodIn wsX8_ratioOn (wsV RX8 45 RX5 yX5_isNothing wsX5_isNothing) := goodIn_app (goodIn_of _ (by decide +kernel)) ggX8_ratioOn_X5_isNothing
theorem dX8_ratioOn_0 : decode cX8_ratioOn 0 = .ok (.new 21, 3) := by decide +kernel
theorem dX8_ratioOn_3 : decode cX8_ratioOn 3 = .ok (.dup, 1) := by decide +kernel
theorem dX8_ratioOn_4 : decode cX8_ratioOn 4 = .ok (.iload_n 2, 1) := by decide +kernel
theorem dX8_ratioOn_5 : decode cX8_ratioOn 5 = .ok (.i2l, 1) := by decide +kernel
theorem dX8_ratioOn_6 : decode cX8_ratioOn 6 = .ok (.aload_n 0, 1) := by decide +kernel
theorem dX8_ratioOn_7 : decode cX8_ratioOn 7 = .ok (.iconst 0, 1) := by decide +kernel
theorem dX8_ratioOn_8 : decode cX8_ratioOn 8 = .ok (.invokevirtual 17, 3) := by decide +kernel
theorem dX8_ratioOn_11 : decode cX8_ratioOn 11 = .ok (.invokespecial 23, 3) := by decide +kernel
theorem dX8_ratioOn_14 : decode cX8_ratioOn 14 = .ok (.astore 4, 2) := by decide +kernel
theorem dX8_ratioOn_16 : decode cX8_ratioOn 16 = .ok (.new 21, 3) := by decide +kernel
theorem dX8_ratioOn_19 : decode cX8_ratioOn 19 = .ok (.dup, 1) := by decide +kernel
theorem dX8_ratioOn_20 : decode cX8_ratioOn 20 = .ok (.iload_n 3, 1) := by decide +kernel
theorem dX8_ratioOn_21 : decode cX8_ratioOn 21 = .ok (.i2l, 1) := by decide +kernel
theorem dX8_ratioOn_22 : decode cX8_ratioOn 22 = .ok (.aload_n 0, 1) := by decide +kernel
theorem dX8_ratioOn_23 : decode cX8_ratioOn 23 = .ok (.iconst 4, 1) := by decide +kernel
theorem dX8_ratioOn_24 : decode cX8_ratioOn 24 = .ok (.invokevirtual 17, 3) := by decide +kernel
theorem dX8_ratioOn_27 : decode cX8_ratioOn 27 = .ok (.invokespecial 23, 3) := by decide +kernel
theorem dX8_ratioOn_30 : decode cX8_ratioOn 30 = .ok (.astore 5, 2) := by decide +kernel
theorem dX8_ratioOn_32 : decode cX8_ratioOn 32 = .ok (.aload_n 0, 1) := by decide +kernel
theorem dX8_ratioOn_33 : decode cX8_ratioOn 33 = .ok (.iload_n 1, 1) := by decide +kernel
theorem dX8_ratioOn_34 : decode cX8_ratioOn 34 = .ok (.iconst 4, 1) := by decide +kernel
theorem dX8_ratioOn_35 : decode cX8_ratioOn 35 = .ok (.iadd, 1) := by decide +kernel
theorem dX8_ratioOn_36 : decode cX8_ratioOn 36 = .ok (.invokestatic 26, 3) := by decide +kernel
theorem dX8_ratioOn_39 : decode cX8_ratioOn 39 = .ok (.astore 6, 2) := by decide +kernel
theorem dX8_ratioOn_41 : decode cX8_ratioOn 41 = .ok (.aload_n 0, 1) := by decide +kernel
theorem dX8_ratioOn_42 : decode cX8_ratioOn 42 = .ok (.iload_n 1, 1) := by decide +kernel
theorem dX8_ratioOn_43 : decode cX8_ratioOn 43 = .ok (.bipush 12, 2) := by decide +kernel
theorem dX8_ratioOn_45 : decode cX8_ratioOn 45 = .ok (.iadd, 1) := by decide +kernel
theorem dX8_ratioOn_46 : decode cX8_ratioOn 46 = .ok (.invokestatic 26, 3) := by decide +kernel
theorem dX8_ratioOn_49 : decode cX8_ratioOn 49 = .ok (.astore 7, 2) := by decide +kernel
theorem dX8_ratioOn_51 : decode cX8_ratioOn 51 = .ok (.aload_n 0, 1) := by decide +kernel
theorem dX8_ratioOn_52 : decode cX8_ratioOn 52 = .ok (.iload_n 1, 1) := by decide +kernel
theorem dX8_ratioOn_53 : decode cX8_ratioOn 53 = .ok (.bipush 20, 2) := by decide +kernel
theorem dX8_ratioOn_55 : decode cX8_ratioOn 55 = .ok (.iadd, 1) := by decide +kernel
theorem dX8_ratioOn_56 : decode cX8_ratioOn 56 = .ok (.invokestatic 26, 3) := by decide +kernel
theorem dX8_ratioOn_59 : decode cX8_ratioOn 59 = .ok (.astore 8, 2) := by decide +kernel
theorem dX8_ratioOn_61 : decode cX8_ratioOn 61 = .ok (.aload 4, 2) := by decide +kernel
theorem dX8_ratioOn_63 : decode cX8_ratioOn 63 = .ok (.invokevirtual 30, 3) := by decide +kernel
theorem dX8_ratioOn_66 : decode cX8_ratioOn 66 = .ok (.ifCond .eq 35, 3) := by decide +kernel
theorem dX8_ratioOn_69 : decode cX8_ratioOn 69 = .ok (.aload 5, 2) := by decide +kernel
theorem dX8_ratioOn_71 : decode cX8_ratioOn 71 = .ok (.invokevirtual 30, 3) := by decide +kernel
theorem dX8_ratioOn_74 : decode cX8_ratioOn 74 = .ok (.ifCond .eq 27, 3) := by decide +kernel
theorem dX8_ratioOn_77 : decode cX8_ratioOn 77 = .ok (.aload 6, 2) := by decide +kernel
theorem dX8_ratioOn_79 : decode cX8_ratioOn 79 = .ok (.invokevirtual 30, 3) := by decide +kernel
theorem dX8_ratioOn_82 : decode cX8_ratioOn 82 = .ok (.ifCond .eq 19, 3) := by decide +kernel
theorem dX8_ratioOn_85 : decode cX8_ratioOn 85 = .ok (.aload 7, 2) := by decide +kernel
theorem dX8_ratioOn_87 : decode cX8_ratioOn 87 = .ok (.invokevirtual 34, 3) := by decide +kernel
theorem dX8_ratioOn_90 : decode cX8_ratioOn 90 = .ok (.ifCond .eq 11, 3) := by decide +kernel
theorem dX8_ratioOn_93 : decode cX8_ratioOn 93 = .ok (.aload 8, 2) := by decide +kernel
theorem dX8_ratioOn_95 : decode cX8_ratioOn 95 = .ok (.invokevirtual 34, 3) := by decide +kernel
theorem dX8_ratioOn_98 : decode cX8_ratioOn 98 = .ok (.ifCond .ne 13, 3) := by decide +kernel
theorem dX8_ratioOn_101 : decode cX8_ratioOn 101 = .ok (.new 21, 3) := by decide +kernel
theorem dX8_ratioOn_104 : decode cX8_ratioOn 104 = .ok (.dup, 1) := by decide +kernel
theorem dX8_ratioOn_105 : decode cX8_ratioOn 105 = .ok (.lconst 0, 1) := by decide +kernel
theorem dX8_ratioOn_106 : decode cX8_ratioOn 106 = .ok (.lconst 0, 1) := by decide +kernel
theorem dX8_ratioOn_107 : decode cX8_ratioOn 107 = .ok (.invokespecial 23, 3) := by decide +kernel
theorem dX8_ratioOn_110 : decode cX8_ratioOn 110 = .ok (.areturn, 1) := by decide +kernel
theorem dX8_ratioOn_111 : decode cX8_ratioOn 111 = .ok (.aload 5, 2) := by decide +kernel
theorem dX8_ratioOn_113 : decode cX8_ratioOn 113 = .ok (.aload 4, 2) := by decide +kernel
theorem dX8_ratioOn_115 : decode cX8_ratioOn 115 = .ok (.invokevirtual 37, 3) := by decide +kernel
theorem dX8_ratioOn_118 : decode cX8_ratioOn 118 = .ok (.ifCond .eq 8, 3) := by decide +kernel
theorem dX8_ratioOn_121 : decode cX8_ratioOn 121 = .ok (.aload 5, 2) := by decide +kernel
theorem dX8_ratioOn_123 : decode cX8_ratioOn 123 = .ok (.goto 5, 3) := by decide +kernel
theorem dX8_ratioOn_126 : decode cX8_ratioOn 126 = .ok (.aload 4, 2) := by decide +kernel
theorem dX8_ratioOn_128 : decode cX8_ratioOn 128 = .ok (.astore 9, 2) := by decide +kernel
theorem dX8_ratioOn_130 : decode cX8_ratioOn 130 = .ok (.aload 9, 2) := by decide +kernel
theorem dX8_ratioOn_132 : decode cX8_ratioOn 132 = .ok (.aload 6, 2) := by decide +kernel
theorem dX8_ratioOn_134 : decode cX8_ratioOn 134 = .ok (.invokevirtual 41, 3) := by decide +kernel
theorem dX8_ratioOn_137 : decode cX8_ratioOn 137 = .ok (.astore 10, 2) := by decide +kernel
theorem dX8_ratioOn_139 : decode cX8_ratioOn 139 = .ok (.aload 7, 2) := by decide +kernel
theorem dX8_ratioOn_141 : decode cX8_ratioOn 141 = .ok (.invokevirtual 45, 3) := by decide +kernel
theorem dX8_ratioOn_144 : decode cX8_ratioOn 144 = .ok (.ifCond .ne 16, 3) := by decide +kernel
theorem dX8_ratioOn_147 : decode cX8_ratioOn 147 = .ok (.aload 10, 2) := by decide +kernel
theorem dX8_ratioOn_149 : decode cX8_ratioOn 149 = .ok (.aload 7, 2) := by decide +kernel
theorem dX8_ratioOn_151 : decode cX8_ratioOn 151 = .ok (.invokevirtual 37, 3) := by decide +kernel
theorem dX8_ratioOn_154 : decode cX8_ratioOn 154 = .ok (.ifCond .eq 6, 3) := by decide +kernel
theorem dX8_ratioOn_157 : decode cX8_ratioOn 157 = .ok (.aload 7, 2) := by decide +kernel
theorem dX8_ratioOn_159 : decode cX8_ratioOn 159 = .ok (.areturn, 1) := by decide +kernel
theorem dX8_ratioOn_160 : decode cX8_ratioOn 160 = .ok (.aload 8, 2) := by decide +kernel
theorem dX8_ratioOn_162 : decode cX8_ratioOn 162 = .ok (.invokevirtual 45, 3) := by decide +kernel
theorem dX8_ratioOn_165 : decode cX8_ratioOn 165 = .ok (.ifCond .ne 18, 3) := by decide +kernel
theorem dX8_ratioOn_168 : decode cX8_ratioOn 168 = .ok (.aload 8, 2) := by decide +kernel
theorem dX8_ratioOn_170 : decode cX8_ratioOn 170 = .ok (.aload 10, 2) := by decide +kernel
theorem dX8_ratioOn_172 : decode cX8_ratioOn 172 = .ok (.invokevirtual 37, 3) := by decide +kernel
theorem dX8_ratioOn_175 : decode cX8_ratioOn 175 = .ok (.ifCond .eq 8, 3) := by decide +kernel
theorem dX8_ratioOn_178 : decode cX8_ratioOn 178 = .ok (.aload 8, 2) := by decide +kernel
theorem dX8_ratioOn_180 : decode cX8_ratioOn 180 = .ok (.goto 5, 3) := by decide +kernel
theorem dX8_ratioOn_183 : decode cX8_ratioOn 183 = .ok (.aload 10, 2) := by decide +kernel
theorem dX8_ratioOn_185 : decode cX8_ratioOn 185 = .ok (.areturn, 1) := by decide +kernel
set_option maxRecDepth 20000 in
theorem ggX8_ratioAt_X3_u4 : GoodIn wsX8_ratioAt wsX3_u4 := goodIn_r _ [8, 9, 10, 11, 7, 12, 13, 14, 15, 16, 17, 18, 19, 20, 21, 32, 33, 34, 35, 36] (by decide +kernel) (by decide +kernel)
set_option maxRecDepth 20000 in
theorem gX8_ratioAt_X3_u4 : GoodIn wsX8_ratioAt (wsV RX8 17 RX3 yX3_u4 wsX3_u4) := goodIn_app (goodIn_of _ (by decide +kernel)) ggX8_ratioAt_X3_u4
set_option maxRecDepth 20000 in
theorem ggX8_ratioAt_X5_init : GoodIn wsX8_ratioAt wsX5_init := goodIn_r _ [24, 25, 26, 27, 28, 29, 30, 31] (by decide +kernel) (by decide +kernel)
set_option maxRecDepth 20000 in
theorem gX8_ratioAt_X5_init : GoodIn wsX8_ratioAt (wsX5_init) := ggX8_ratioAt_X5_init
theorem dX8_ratioAt_0 : decode cX8_ratioAt 0 = .ok (.new 21, 3) := by decide +kernel
theorem dX8_ratioAt_3 : decode cX8_ratioAt 3 = .ok (.dup, 1) := by decide +kernel
theorem dX8_ratioAt_4 : decode cX8_ratioAt 4 = .ok (.aload_n 0, 1) := by decide +kernel
theorem dX8_ratioAt_5 : decode cX8_ratioAt 5 = .ok (.iload_n 1, 1) := by decide +kernel
theorem dX8_ratioAt_6 : decode cX8_ratioAt 6 = .ok (.invokevirtual 17, 3) := by decide +kernel
theorem dX8_ratioAt_9 : decode cX8_ratioAt 9 = .ok (.aload_n 0, 1) := by decide +kernel
theorem dX8_ratioAt_10 : decode cX8_ratioAt 10 = .ok (.iload_n 1, 1) := by decide +kernel
theorem dX8_ratioAt_11 : decode cX8_ratioAt 11 = .ok (.iconst 4, 1) := by decide +kernel
theorem dX8_ratioAt_12 : decode cX8_ratioAt 12 = .ok (.iadd, 1) := by decide +kernel
theorem dX8_ratioAt_13 : decode cX8_ratioAt 13 = .ok (.invokevirtual 17, 3) := by decide +kernel
theorem dX8_ratioAt_16 : decode cX8_ratioAt 16 = .ok (.invokespecial 23, 3) := by decide +kernel
theorem dX8_ratioAt_19 : decode cX8_ratioAt 19 = .ok (.areturn, 1) := by decide +kernel
set_option maxRecDepth 20000 in
theorem ggX9_init_X6_init : GoodIn wsX9_init wsX6_init := goodIn_r _ [20, 21, 2, 3, 22, 23, 24, 25, 26, 27, 28, 52, 53] (by decide +kernel) (by decide +kernel)
set_option maxRecDepth 20000 in
theorem gX9_init_X6_init : GoodIn wsX9_init (wsX6_init) := ggX9_init_X6_init
set_option maxRecDepth 20000 in
theorem ggX9_init_X0_init : GoodIn wsX9_init wsX0_init := goodIn_r _ [31, 32, 2, 3, 33, 5, 6, 34, 35, 36, 37, 38, 39, 40, 41, 42, 43, 44, 19, 20, 21, 22, 23, 24, 25, 26, 27, 28, 52, 53, 59, 60, 61, 62, 63, 64, 65, 66] (by decide +kernel) (by decide +kernel)
set_option maxRecDepth 20000 in
theorem gX9_init_X0_init : GoodIn wsX9_init (wsX0_init) := ggX9_init_X0_init
set_option maxRecDepth 20000 in
theorem ggX9_init_X1_init : GoodIn wsX9_init wsX1_init := goodIn_r _ [47, 48, 2, 3, 35, 49, 50, 51, 67, 68, 69] (by decide +kernel) (by decide +kernel)
set_option maxRecDepth 20000 in
theorem gX9_init_X1_init : GoodIn wsX9_init (wsX1_init) := ggX9_init_X1_init
theorem dX9_init_0 : decode cX9_init 0 = .ok (.aload_n 0, 1) := by decide +kernel
theorem dX9_init_1 : decode cX9_init 1 = .ok (.invokespecial 3, 3) := by decide +kernel
theorem dX9_init_4 : decode cX9_init 4 = .ok (.aload_n 0, 1) := by decide +kernel
theorem dX9_init_5 : decode cX9_init 5 = .ok (.new 9, 3) := by decide +kernel
theorem dX9_init_8 : decode cX9_init 8 = .ok (.dup, 1) := by decide +kernel
theorem dX9_init_9 : decode cX9_init 9 = .ok (.sipush 6000, 3) := by decide +kernel
theorem dX9_init_12 : decode cX9_init 12 = .ok (.invokespecial 11, 3) := by decide +kernel
theorem dX9_init_15 : decode cX9_init 15 = .ok (.putfield 14, 3) := by decide +kernel
theorem dX9_init_18 : decode cX9_init 18 = .ok (.aload_n 0, 1) := by decide +kernel
theorem dX9_init_19 : decode cX9_init 19 = .ok (.new 9, 3) := by decide +kernel
theorem dX9_init_22 : decode cX9_init 22 = .ok (.dup, 1) := by decide +kernel
theorem dX9_init_23 : decode cX9_init 23 = .ok (.sipush 13044, 3) := by decide +kernel
theorem dX9_init_26 : decode cX9_init 26 = .ok (.invokespecial 11, 3) := by decide +kernel
theorem dX9_init_29 : decode cX9_init 29 = .ok (.putfield 18, 3) := by decide +kernel
theorem dX9_init_32 : decode cX9_init 32 = .ok (.aload_n 0, 1) := by decide +kernel
theorem dX9_init_33 : decode cX9_init 33 = .ok (.new 21, 3) := by decide +kernel
theorem dX9_init_36 : decode cX9_init 36 = .ok (.dup, 1) := by decide +kernel
theorem dX9_init_37 : decode cX9_init 37 = .ok (.invokespecial 23, 3) := by decide +kernel
theorem dX9_init_40 : decode cX9_init 40 = .ok (.putfield 24, 3) := by decide +kernel
theorem dX9_init_43 : decode cX9_init 43 = .ok (.aload_n 0, 1) := by decide +kernel
theorem dX9_init_44 : decode cX9_init 44 = .ok (.new 28, 3) := by decide +kernel
