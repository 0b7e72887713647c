theorem dX10_feed_31 : decode cX10_feed 31 = .ok (.isub, 1) := by decide +kernel
theorem dX10_feed_32 : decode cX10_feed 32 = .ok (.istore 4, 2) := by decide +kernel
theorem dX10_feed_34 : decode cX10_feed 34 = .ok (.iload 4, 2) := by decide +kernel
theorem dX10_feed_36 : decode cX10_feed 36 = .ok (.ifCond .lt 40, 3) := by decide +kernel
theorem dX10_feed_39 : decode cX10_feed 39 = .ok (.aload_n 0, 1) := by decide +kernel
theorem dX10_feed_40 : decode cX10_feed 40 = .ok (.getfield 7, 3) := by decide +kernel
theorem dX10_feed_43 : decode cX10_feed 43 = .ok (.aload_n 0, 1) := by decide +kernel
theorem dX10_feed_44 : decode cX10_feed 44 = .ok (.getfield 58, 3) := by decide +kernel
theorem dX10_feed_47 : decode cX10_feed 47 = .ok (.lload_n 2, 1) := by decide +kernel
theorem dX10_feed_48 : decode cX10_feed 48 = .ok (.bipush 8, 2) := by decide +kernel
theorem dX10_feed_50 : decode cX10_feed 50 = .ok (.iload 4, 2) := by decide +kernel
theorem dX10_feed_52 : decode cX10_feed 52 = .ok (.imul, 1) := by decide +kernel
theorem dX10_feed_53 : decode cX10_feed 53 = .ok (.lshr, 1) := by decide +kernel
theorem dX10_feed_54 : decode cX10_feed 54 = .ok (.ldc2_w 61, 3) := by decide +kernel
theorem dX10_feed_57 : decode cX10_feed 57 = .ok (.land, 1) := by decide +kernel
theorem dX10_feed_58 : decode cX10_feed 58 = .ok (.l2i, 1) := by decide +kernel
theorem dX10_feed_59 : decode cX10_feed 59 = .ok (.iastore, 1) := by decide +kernel
theorem dX10_feed_60 : decode cX10_feed 60 = .ok (.aload_n 0, 1) := by decide +kernel
theorem dX10_feed_61 : decode cX10_feed 61 = .ok (.dup, 1) := by decide +kernel
theorem dX10_feed_62 : decode cX10_feed 62 = .ok (.getfield 58, 3) := by decide +kernel
theorem dX10_feed_65 : decode cX10_feed 65 = .ok (.iconst 1, 1) := by decide +kernel
theorem dX10_feed_66 : decode cX10_feed 66 = .ok (.iadd, 1) := by decide +kernel
theorem dX10_feed_67 : decode cX10_feed 67 = .ok (.putfield 58, 3) := by decide +kernel
theorem dX10_feed_70 : decode cX10_feed 70 = .ok (.iinc 4 (-1), 3) := by decide +kernel
theorem dX10_feed_73 : decode cX10_feed 73 = .ok (.goto (-39), 3) := by decide +kernel
theorem dX10_feed_76 : decode cX10_feed 76 = .ok (.aload_n 0, 1) := by decide +kernel
theorem dX10_feed_77 : decode cX10_feed 77 = .ok (.getfield 58, 3) := by decide +kernel
theorem dX10_feed_80 : decode cX10_feed 80 = .ok (.ireturn, 1) := by decide +kernel
set_option maxRecDepth 20000 in
theorem ggX10_cut_X10_in : GoodIn wsX10_cut wsX10_in := goodIn_r _ [5] (by decide +kernel) (by decide +kernel)
set_option maxRecDepth 20000 in
theorem gX10_cut_X10_in : GoodIn wsX10_cut (va_wsS RX10 44 yX10_in wsX10_in) := goodIn_app (goodIn_of _ (by decide +kernel)) ggX10_cut_X10_in
theorem dX10_cut_0 : decode cX10_cut 0 = .ok (.iload_n 1, 1) := by decide +kernel
theorem dX10_cut_1 : decode cX10_cut 1 = .ok (.i2l, 1) := by decide +kernel
theorem dX10_cut_2 : decode cX10_cut 2 = .ok (.lconst 0, 1) := by decide +kernel
theorem dX10_cut_3 : decode cX10_cut 3 = .ok (.aload_n 0, 1) := by decide +kernel
theorem dX10_cut_4 : decode cX10_cut 4 = .ok (.getfield 58, 3) := by decide +kernel
theorem dX10_cut_7 : decode cX10_cut 7 = .ok (.i2l, 1) := by decide +kernel
theorem dX10_cut_8 : decode cX10_cut 8 = .ok (.invokestatic 44, 3) := by decide +kernel
theorem dX10_cut_11 : decode cX10_cut 11 = .ok (.ifCond .ne 5, 3) := by decide +kernel
theorem dX10_cut_14 : decode cX10_cut 14 = .ok (.iconst (-1), 1) := by decide +kernel
theorem dX10_cut_15 : decode cX10_cut 15 = .ok (.ireturn, 1) := by decide +kernel
theorem dX10_cut_16 : decode cX10_cut 16 = .ok (.aload_n 0, 1) := by decide +kernel
theorem dX10_cut_17 : decode cX10_cut 17 = .ok (.getfield 58, 3) := by decide +kernel
theorem dX10_cut_20 : decode cX10_cut 20 = .ok (.iload_n 1, 1) := by decide +kernel
theorem dX10_cut_21 : decode cX10_cut 21 = .ok (.isub, 1) := by decide +kernel
theorem dX10_cut_22 : decode cX10_cut 22 = .ok (.istore_n 2, 1) := by decide +kernel
theorem dX10_cut_23 : decode cX10_cut 23 = .ok (.aload_n 0, 1) := by decide +kernel
theorem dX10_cut_24 : decode cX10_cut 24 = .ok (.iload_n 1, 1) := by decide +kernel
theorem dX10_cut_25 : decode cX10_cut 25 = .ok (.putfield 58, 3) := by decide +kernel
theorem dX10_cut_28 : decode cX10_cut 28 = .ok (.iload_n 2, 1) := by decide +kernel
theorem dX10_cut_29 : decode cX10_cut 29 = .ok (.ireturn, 1) := by decide +kernel
theorem dX10_kindIn_0 : decode cX10_kindIn 0 = .ok (.aload_n 0, 1) := by decide +kernel
theorem dX10_kindIn_1 : decode cX10_kindIn 1 = .ok (.iload_n 1, 1) := by decide +kernel
theorem dX10_kindIn_2 : decode cX10_kindIn 2 = .ok (.iaload, 1) := by decide +kernel
theorem dX10_kindIn_3 : decode cX10_kindIn 3 = .ok (.bipush 24, 2) := by decide +kernel
theorem dX10_kindIn_5 : decode cX10_kindIn 5 = .ok (.ishl, 1) := by decide +kernel
theorem dX10_kindIn_6 : decode cX10_kindIn 6 = .ok (.aload_n 0, 1) := by decide +kernel
theorem dX10_kindIn_7 : decode cX10_kindIn 7 = .ok (.iload_n 1, 1) := by decide +kernel
theorem dX10_kindIn_8 : decode cX10_kindIn 8 = .ok (.iconst 1, 1) := by decide +kernel
theorem dX10_kindIn_9 : decode cX10_kindIn 9 = .ok (.iadd, 1) := by decide +kernel
theorem dX10_kindIn_10 : decode cX10_kindIn 10 = .ok (.iaload, 1) := by decide +kernel
theorem dX10_kindIn_11 : decode cX10_kindIn 11 = .ok (.bipush 16, 2) := by decide +kernel
theorem dX10_kindIn_13 : decode cX10_kindIn 13 = .ok (.ishl, 1) := by decide +kernel
theorem dX10_kindIn_14 : decode cX10_kindIn 14 = .ok (.ior, 1) := by decide +kernel
theorem dX10_kindIn_15 : decode cX10_kindIn 15 = .ok (.aload_n 0, 1) := by decide +kernel
theorem dX10_kindIn_16 : decode cX10_kindIn 16 = .ok (.iload_n 1, 1) := by decide +kernel
theorem dX10_kindIn_17 : decode cX10_kindIn 17 = .ok (.iconst 2, 1) := by decide +kernel
theorem dX10_kindIn_18 : decode cX10_kindIn 18 = .ok (.iadd, 1) := by decide +kernel
theorem dX10_kindIn_19 : decode cX10_kindIn 19 = .ok (.iaload, 1) := by decide +kernel
theorem dX10_kindIn_20 : decode cX10_kindIn 20 = .ok (.bipush 8, 2) := by decide +kernel
theorem dX10_kindIn_22 : decode cX10_kindIn 22 = .ok (.ishl, 1) := by decide +kernel
theorem dX10_kindIn_23 : decode cX10_kindIn 23 = .ok (.ior, 1) := by decide +kernel
theorem dX10_kindIn_24 : decode cX10_kindIn 24 = .ok (.aload_n 0, 1) := by decide +kernel
theorem dX10_kindIn_25 : decode cX10_kindIn 25 = .ok (.iload_n 1, 1) := by decide +kernel
theorem dX10_kindIn_26 : decode cX10_kindIn 26 = .ok (.iconst 3, 1) := by decide +kernel
theorem dX10_kindIn_27 : decode cX10_kindIn 27 = .ok (.iadd, 1) := by decide +kernel
theorem dX10_kindIn_28 : decode cX10_kindIn 28 = .ok (.iaload, 1) := by decide +kernel
theorem dX10_kindIn_29 : decode cX10_kindIn 29 = .ok (.ior, 1) := by decide +kernel
theorem dX10_kindIn_30 : decode cX10_kindIn 30 = .ok (.ireturn, 1) := by decide +kernel
set_option maxRecDepth 20000 in
theorem ggX10_four_X10_kindIn : GoodIn wsX10_four wsX10_kindIn := goodIn_r _ [5] (by decide +kernel) (by decide +kernel)
set_option maxRecDepth 20000 in
theorem gX10_four_X10_kindIn : GoodIn wsX10_four (va_wsS RX10 63 yX10_kindIn wsX10_kindIn) := goodIn_app (goodIn_of _ (by decide +kernel)) ggX10_four_X10_kindIn
theorem dX10_four_0 : decode cX10_four 0 = .ok (.aload_n 0, 1) := by decide +kernel
theorem dX10_four_1 : decode cX10_four 1 = .ok (.iload_n 1, 1) := by decide +kernel
theorem dX10_four_2 : decode cX10_four 2 = .ok (.invokestatic 63, 3) := by decide +kernel
theorem dX10_four_5 : decode cX10_four 5 = .ok (.i2l, 1) := by decide +kernel
theorem dX10_four_6 : decode cX10_four 6 = .ok (.ldc2_w 42, 3) := by decide +kernel
theorem dX10_four_9 : decode cX10_four 9 = .ok (.land, 1) := by decide +kernel
theorem dX10_four_10 : decode cX10_four 10 = .ok (.lreturn, 1) := by decide +kernel
theorem dX10_two_0 : decode cX10_two 0 = .ok (.aload_n 0, 1) := by decide +kernel
theorem dX10_two_1 : decode cX10_two 1 = .ok (.iload_n 1, 1) := by decide +kernel
theorem dX10_two_2 : decode cX10_two 2 = .ok (.iaload, 1) := by decide +kernel
theorem dX10_two_3 : decode cX10_two 3 = .ok (.bipush 8, 2) := by decide +kernel
theorem dX10_two_5 : decode cX10_two 5 = .ok (.ishl, 1) := by decide +kernel
theorem dX10_two_6 : decode cX10_two 6 = .ok (.aload_n 0, 1) := by decide +kernel
theorem dX10_two_7 : decode cX10_two 7 = .ok (.iload_n 1, 1) := by decide +kernel
theorem dX10_two_8 : decode cX10_two 8 = .ok (.iconst 1, 1) := by decide +kernel
theorem dX10_two_9 : decode cX10_two 9 = .ok (.iadd, 1) := by decide +kernel
theorem dX10_two_10 : decode cX10_two 10 = .ok (.iaload, 1) := by decide +kernel
theorem dX10_two_11 : decode cX10_two 11 = .ok (.ior, 1) := by decide +kernel
theorem dX10_two_12 : decode cX10_two 12 = .ok (.ireturn, 1) := by decide +kernel
theorem dX10_stop_0 : decode cX10_stop 0 = .ok (.aload_n 0, 1) := by decide +kernel
theorem dX10_stop_1 : decode cX10_stop 1 = .ok (.getfield 67, 3) := by decide +kernel
theorem dX10_stop_4 : decode cX10_stop 4 = .ok (.ifCond .ne 13, 3) := by decide +kernel
theorem dX10_stop_7 : decode cX10_stop 7 = .ok (.aload_n 0, 1) := by decide +kernel
theorem dX10_stop_8 : decode cX10_stop 8 = .ok (.iload_n 1, 1) := by decide +kernel
theorem dX10_stop_9 : decode cX10_stop 9 = .ok (.putfield 67, 3) := by decide +kernel
theorem dX10_stop_12 : decode cX10_stop 12 = .ok (.aload_n 0, 1) := by decide +kernel
theorem dX10_stop_13 : decode cX10_stop 13 = .ok (.iload_n 2, 1) := by decide +kernel
theorem dX10_stop_14 : decode cX10_stop 14 = .ok (.putfield 35, 3) := by decide +kernel
theorem dX10_stop_17 : decode cX10_stop 17 = .ok (.return_, 1) := by decide +kernel
set_option maxRecDepth 20000 in
theorem ggX10_goOver_X10_stop : GoodIn wsX10_goOver wsX10_stop := goodIn_r _ [14, 6, 15, 50, 51, 52, 53, 54, 55, 56, 57, 58, 59, 60, 61, 62, 63, 64, 65, 66, 67] (by decide +kernel) (by decide +kernel)
set_option maxRecDepth 20000 in
theorem gX10_goOver_X10_stop : GoodIn wsX10_goOver (wsV RX10 70 RX10 yX10_stop wsX10_stop) := goodIn_app (goodIn_of _ (by decide +kernel)) ggX10_goOver_X10_stop
set_option maxRecDepth 20000 in
theorem ggX10_goOver_X10_kindIn : GoodIn wsX10_goOver wsX10_kindIn := goodIn_r _ [18] (by decide +kernel) (by decide +kernel)
set_option maxRecDepth 20000 in
theorem gX10_goOver_X10_kindIn : GoodIn wsX10_goOver (va_wsS RX10 63 yX10_kindIn wsX10_kindIn) := goodIn_app (goodIn_of _ (by decide +kernel)) ggX10_goOver_X10_kindIn
set_option maxRecDepth 20000 in
theorem ggX10_goOver_X10_four : GoodIn wsX10_goOver wsX10_four := goodIn_r _ [21, 22, 16, 17, 13, 18] (by decide +kernel) (by decide +kernel)
set_option maxRecDepth 20000 in
theorem gX10_goOver_X10_four : GoodIn wsX10_goOver (va_wsS RX10 75 yX10_four wsX10_four) := goodIn_app (goodIn_of _ (by decide +kernel)) ggX10_goOver_X10_four
set_option maxRecDepth 20000 in
theorem ggX10_goOver_X10_piece : GoodIn wsX10_goOver wsX10_piece := goodIn_r _ [26, 1, 2, 5, 27, 28, 29, 6, 7, 30, 10, 11, 12, 13, 14, 15, 16, 17, 18, 31, 32, 33, 34, 35, 36, 37, 38, 19, 20, 21, 22, 50, 51, 52, 53, 54, 55, 56, 57, 58, 59, 60, 61, 62, 63, 64, 65, 66, 67] (by decide +kernel) (by decide +kernel)
set_option maxRecDepth 20000 in
theorem gX10_goOver_X10_piece : GoodIn wsX10_goOver (wsV RX10 83 RX10 yX10_piece wsX10_piece) := goodIn_app (goodIn_of _ (by decide +kernel)) ggX10_goOver_X10_piece
set_option maxRecDepth 20000 in
theorem ggX10_goOver_X10_entryOf : GoodIn wsX10_goOver wsX10_entryOf := goodIn_r _ [42, 2, 5, 30, 10, 11, 12, 13, 14, 6, 15, 16, 17, 18, 43, 44, 45, 46, 47, 48, 49, 19, 20, 21, 22, 50, 51, 52, 53, 54, 55, 56, 57, 58, 59, 60, 61, 62, 63, 64, 65, 66, 67] (by decide +kernel) (by decide +kernel)
set_option maxRecDepth 20000 in
theorem gX10_goOver_X10_entryOf : GoodIn wsX10_goOver (wsV RX10 94 RX10 yX10_entryOf wsX10_entryOf) := goodIn_app (goodIn_of _ (by decide +kernel)) ggX10_goOver_X10_entryOf
theorem dX10_goOver_0 : decode cX10_goOver 0 = .ok (.aload_n 0, 1) := by decide +kernel
theorem dX10_goOver_1 : decode cX10_goOver 1 = .ok (.getfield 58, 3) := by decide +kernel
theorem dX10_goOver_4 : decode cX10_goOver 4 = .ok (.bipush 12, 2) := by decide +kernel
theorem dX10_goOver_6 : decode cX10_goOver 6 = .ok (.if_icmp .ge 13, 3) := by decide +kernel
theorem dX10_goOver_9 : decode cX10_goOver 9 = .ok (.aload_n 0, 1) := by decide +kernel
theorem dX10_goOver_10 : decode cX10_goOver 10 = .ok (.iconst 1, 1) := by decide +kernel
theorem dX10_goOver_11 : decode cX10_goOver 11 = .ok (.aload_n 0, 1) := by decide +kernel
theorem dX10_goOver_12 : decode cX10_goOver 12 = .ok (.getfield 58, 3) := by decide +kernel
theorem dX10_goOver_15 : decode cX10_goOver 15 = .ok (.invokevirtual 70, 3) := by decide +kernel
theorem dX10_goOver_18 : decode cX10_goOver 18 = .ok (.return_, 1) := by decide +kernel
theorem dX10_goOver_19 : decode cX10_goOver 19 = .ok (.aload_n 0, 1) := by decide +kernel
theorem dX10_goOver_20 : decode cX10_goOver 20 = .ok (.getfield 7, 3) := by decide +kernel
theorem dX10_goOver_23 : decode cX10_goOver 23 = .ok (.iconst 0, 1) := by decide +kernel
theorem dX10_goOver_24 : decode cX10_goOver 24 = .ok (.invokestatic 63, 3) := by decide +kernel
theorem dX10_goOver_27 : decode cX10_goOver 27 = .ok (.ldc 74, 2) := by decide +kernel
theorem dX10_goOver_29 : decode cX10_goOver 29 = .ok (.if_icmp .eq 9, 3) := by decide +kernel
theorem dX10_goOver_32 : decode cX10_goOver 32 = .ok (.aload_n 0, 1) := by decide +kernel
theorem dX10_goOver_33 : decode cX10_goOver 33 = .ok (.iconst 2, 1) := by decide +kernel
theorem dX10_goOver_34 : decode cX10_goOver 34 = .ok (.iconst 0, 1) := by decide +kernel
theorem dX10_goOver_35 : decode cX10_goOver 35 = .ok (.invokevirtual 70, 3) := by decide +kernel
theorem dX10_goOver_38 : decode cX10_goOver 38 = .ok (.aload_n 0, 1) := by decide +kernel
theorem dX10_goOver_39 : decode cX10_goOver 39 = .ok (.getfield 7, 3) := by decide +kernel
theorem dX10_goOver_42 : decode cX10_goOver 42 = .ok (.iconst 4, 1) := by decide +kernel
theorem dX10_goOver_43 : decode cX10_goOver 43 = .ok (.invokestatic 75, 3) := by decide +kernel
theorem dX10_goOver_46 : decode cX10_goOver 46 = .ok (.aload_n 0, 1) := by decide +kernel
theorem dX10_goOver_47 : decode cX10_goOver 47 = .ok (.getfield 58, 3) := by decide +kernel
theorem dX10_goOver_50 : decode cX10_goOver 50 = .ok (.bipush 8, 2) := by decide +kernel
theorem dX10_goOver_52 : decode cX10_goOver 52 = .ok (.isub, 1) := by decide +kernel
theorem dX10_goOver_53 : decode cX10_goOver 53 = .ok (.i2l, 1) := by decide +kernel
theorem dX10_goOver_54 : decode cX10_goOver 54 = .ok (.lcmp, 1) := by decide +kernel
theorem dX10_goOver_55 : decode cX10_goOver 55 = .ok (.ifCond .eq 9, 3) := by decide +kernel
theorem dX10_goOver_58 : decode cX10_goOver 58 = .ok (.aload_n 0, 1) := by decide +kernel
theorem dX10_goOver_59 : decode cX10_goOver 59 = .ok (.iconst 3, 1) := by decide +kernel
theorem dX10_goOver_60 : decode cX10_goOver 60 = .ok (.iconst 4, 1) := by decide +kernel
theorem dX10_goOver_61 : decode cX10_goOver 61 = .ok (.invokevirtual 70, 3) := by decide +kernel
theorem dX10_goOver_64 : decode cX10_goOver 64 = .ok (.aload_n 0, 1) := by decide +kernel
theorem dX10_goOver_65 : decode cX10_goOver 65 = .ok (.getfield 7, 3) := by decide +kernel
theorem dX10_goOver_68 : decode cX10_goOver 68 = .ok (.bipush 8, 2) := by decide +kernel
theorem dX10_goOver_70 : decode cX10_goOver 70 = .ok (.invokestatic 63, 3) := by decide +kernel
theorem dX10_goOver_73 : decode cX10_goOver 73 = .ok (.ldc 79, 2) := by decide +kernel
theorem dX10_goOver_75 : decode cX10_goOver 75 = .ok (.if_icmp .eq 10, 3) := by decide +kernel
theorem dX10_goOver_78 : decode cX10_goOver 78 = .ok (.aload_n 0, 1) := by decide +kernel
theorem dX10_goOver_79 : decode cX10_goOver 79 = .ok (.iconst 2, 1) := by decide +kernel
theorem dX10_goOver_80 : decode cX10_goOver 80 = .ok (.bipush 8, 2) := by decide +kernel
theorem dX10_goOver_82 : decode cX10_goOver 82 = .ok (.invokevirtual 70, 3) := by decide +kernel
theorem dX10_goOver_85 : decode cX10_goOver 85 = .ok (.bipush 12, 2) := by decide +kernel
theorem dX10_goOver_87 : decode cX10_goOver 87 = .ok (.istore_n 1, 1) := by decide +kernel
theorem dX10_goOver_88 : decode cX10_goOver 88 = .ok (.aload_n 0, 1) := by decide +kernel
theorem dX10_goOver_89 : decode cX10_goOver 89 = .ok (.iconst (-1), 1) := by decide +kernel
theorem dX10_goOver_90 : decode cX10_goOver 90 = .ok (.putfield 80, 3) := by decide +kernel
theorem dX10_goOver_93 : decode cX10_goOver 93 = .ok (.aload_n 0, 1) := by decide +kernel
theorem dX10_goOver_94 : decode cX10_goOver 94 = .ok (.getfield 67, 3) := by decide +kernel
theorem dX10_goOver_97 : decode cX10_goOver 97 = .ok (.ifCond .ne 27, 3) := by decide +kernel
theorem dX10_goOver_100 : decode cX10_goOver 100 = .ok (.iload_n 1, 1) := by decide +kernel
theorem dX10_goOver_101 : decode cX10_goOver 101 = .ok (.aload_n 0, 1) := by decide +kernel
theorem dX10_goOver_102 : decode cX10_goOver 102 = .ok (.getfield 58, 3) := by decide +kernel
theorem dX10_goOver_105 : decode cX10_goOver 105 = .ok (.if_icmp .lt 10, 3) := by decide +kernel
theorem dX10_goOver_108 : decode cX10_goOver 108 = .ok (.aload_n 0, 1) := by decide +kernel
theorem dX10_goOver_109 : decode cX10_goOver 109 = .ok (.getfield 80, 3) := by decide +kernel
theorem dX10_goOver_112 : decode cX10_goOver 112 = .ok (.ifCond .ge 12, 3) := by decide +kernel
theorem dX10_goOver_115 : decode cX10_goOver 115 = .ok (.aload_n 0, 1) := by decide +kernel
theorem dX10_goOver_116 : decode cX10_goOver 116 = .ok (.iload_n 1, 1) := by decide +kernel
theorem dX10_goOver_117 : decode cX10_goOver 117 = .ok (.invokevirtual 83, 3) := by decide +kernel
theorem dX10_goOver_120 : decode cX10_goOver 120 = .ok (.istore_n 1, 1) := by decide +kernel
theorem dX10_goOver_121 : decode cX10_goOver 121 = .ok (.goto (-28), 3) := by decide +kernel
theorem dX10_goOver_124 : decode cX10_goOver 124 = .ok (.iconst 0, 1) := by decide +kernel
theorem dX10_goOver_125 : decode cX10_goOver 125 = .ok (.istore_n 2, 1) := by decide +kernel
theorem dX10_goOver_126 : decode cX10_goOver 126 = .ok (.aload_n 0, 1) := by decide +kernel
theorem dX10_goOver_127 : decode cX10_goOver 127 = .ok (.getfield 67, 3) := by decide +kernel
theorem dX10_goOver_130 : decode cX10_goOver 130 = .ok (.ifCond .ne 55, 3) := by decide +kernel
theorem dX10_goOver_133 : decode cX10_goOver 133 = .ok (.iload_n 2, 1) := by decide +kernel
theorem dX10_goOver_134 : decode cX10_goOver 134 = .ok (.ifCond .ne 51, 3) := by decide +kernel
theorem dX10_goOver_137 : decode cX10_goOver 137 = .ok (.aload_n 0, 1) := by decide +kernel
theorem dX10_goOver_138 : decode cX10_goOver 138 = .ok (.getfield 87, 3) := by decide +kernel
theorem dX10_goOver_141 : decode cX10_goOver 141 = .ok (.iconst 4, 1) := by decide +kernel
theorem dX10_goOver_142 : decode cX10_goOver 142 = .ok (.if_icmp .lt 29, 3) := by decide +kernel
theorem dX10_goOver_145 : decode cX10_goOver 145 = .ok (.aload_n 0, 1) := by decide +kernel
theorem dX10_goOver_146 : decode cX10_goOver 146 = .ok (.getfield 87, 3) := by decide +kernel
theorem dX10_goOver_149 : decode cX10_goOver 149 = .ok (.i2l, 1) := by decide +kernel
theorem dX10_goOver_150 : decode cX10_goOver 150 = .ok (.ldc2_w 90, 3) := by decide +kernel
theorem dX10_goOver_153 : decode cX10_goOver 153 = .ok (.ldc2_w 92, 3) := by decide +kernel
theorem dX10_goOver_156 : decode cX10_goOver 156 = .ok (.aload_n 0, 1) := by decide +kernel
theorem dX10_goOver_157 : decode cX10_goOver 157 = .ok (.getfield 7, 3) := by decide +kernel
theorem dX10_goOver_160 : decode cX10_goOver 160 = .ok (.bipush 20, 2) := by decide +kernel
theorem dX10_goOver_162 : decode cX10_goOver 162 = .ok (.invokestatic 75, 3) := by decide +kernel
theorem dX10_goOver_165 : decode cX10_goOver 165 = .ok (.lmul, 1) := by decide +kernel
theorem dX10_goOver_166 : decode cX10_goOver 166 = .ok (.ladd, 1) := by decide +kernel
theorem dX10_goOver_167 : decode cX10_goOver 167 = .ok (.lcmp, 1) := by decide +kernel
theorem dX10_goOver_168 : decode cX10_goOver 168 = .ok (.ifCond .eq 11, 3) := by decide +kernel
theorem dX10_goOver_171 : decode cX10_goOver 171 = .ok (.aload_n 0, 1) := by decide +kernel
theorem dX10_goOver_172 : decode cX10_goOver 172 = .ok (.bipush 6, 2) := by decide +kernel
theorem dX10_goOver_174 : decode cX10_goOver 174 = .ok (.bipush 16, 2) := by decide +kernel
theorem dX10_goOver_176 : decode cX10_goOver 176 = .ok (.invokevirtual 70, 3) := by decide +kernel
theorem dX10_goOver_179 : decode cX10_goOver 179 = .ok (.iinc 2 1, 3) := by decide +kernel
theorem dX10_goOver_182 : decode cX10_goOver 182 = .ok (.goto (-56), 3) := by decide +kernel
theorem dX10_goOver_185 : decode cX10_goOver 185 = .ok (.aload_n 0, 1) := by decide +kernel
theorem dX10_goOver_186 : decode cX10_goOver 186 = .ok (.getfield 67, 3) := by decide +kernel
theorem dX10_goOver_189 : decode cX10_goOver 189 = .ok (.ifCond .ne 15, 3) := by decide +kernel
theorem dX10_goOver_192 : decode cX10_goOver 192 = .ok (.aload_n 0, 1) := by decide +kernel
theorem dX10_goOver_193 : decode cX10_goOver 193 = .ok (.getfield 87, 3) := by decide +kernel
theorem dX10_goOver_196 : decode cX10_goOver 196 = .ok (.iconst 4, 1) := by decide +kernel
theorem dX10_goOver_197 : decode cX10_goOver 197 = .ok (.isub, 1) := by decide +kernel
theorem dX10_goOver_198 : decode cX10_goOver 198 = .ok (.bipush 12, 2) := by decide +kernel
theorem dX10_goOver_200 : decode cX10_goOver 200 = .ok (.idiv, 1) := by decide +kernel
theorem dX10_goOver_201 : decode cX10_goOver 201 = .ok (.goto 4, 3) := by decide +kernel
theorem dX10_goOver_204 : decode cX10_goOver 204 = .ok (.iconst 0, 1) := by decide +kernel
theorem dX10_goOver_205 : decode cX10_goOver 205 = .ok (.istore_n 2, 1) := by decide +kernel
theorem dX10_goOver_206 : decode cX10_goOver 206 = .ok (.iconst 0, 1) := by decide +kernel
theorem dX10_goOver_207 : decode cX10_goOver 207 = .ok (.istore_n 3, 1) := by decide +kernel
theorem dX10_goOver_208 : decode cX10_goOver 208 = .ok (.iload_n 3, 1) := by decide +kernel
theorem dX10_goOver_209 : decode cX10_goOver 209 = .ok (.iload_n 2, 1) := by decide +kernel
theorem dX10_goOver_210 : decode cX10_goOver 210 = .ok (.if_icmp .ge 28, 3) := by decide +kernel
theorem dX10_goOver_213 : decode cX10_goOver 213 = .ok (.aload_n 0, 1) := by decide +kernel
theorem dX10_goOver_214 : decode cX10_goOver 214 = .ok (.getfield 67, 3) := by decide +kernel
theorem dX10_goOver_217 : decode cX10_goOver 217 = .ok (.ifCond .ne 21, 3) := by decide +kernel
theorem dX10_goOver_220 : decode cX10_goOver 220 = .ok (.aload_n 0, 1) := by decide +kernel
theorem dX10_goOver_221 : decode cX10_goOver 221 = .ok (.iload_n 3, 1) := by decide +kernel
theorem dX10_goOver_222 : decode cX10_goOver 222 = .ok (.bipush 24, 2) := by decide +kernel
theorem dX10_goOver_224 : decode cX10_goOver 224 = .ok (.bipush 12, 2) := by decide +kernel
theorem dX10_goOver_226 : decode cX10_goOver 226 = .ok (.iload_n 3, 1) := by decide +kernel
theorem dX10_goOver_227 : decode cX10_goOver 227 = .ok (.imul, 1) := by decide +kernel
theorem dX10_goOver_228 : decode cX10_goOver 228 = .ok (.iadd, 1) := by decide +kernel
theorem dX10_goOver_229 : decode cX10_goOver 229 = .ok (.invokevirtual 94, 3) := by decide +kernel
theorem dX10_goOver_232 : decode cX10_goOver 232 = .ok (.iinc 3 1, 3) := by decide +kernel
theorem dX10_goOver_235 : decode cX10_goOver 235 = .ok (.goto (-27), 3) := by decide +kernel
theorem dX10_goOver_238 : decode cX10_goOver 238 = .ok (.return_, 1) := by decide +kernel
set_option maxRecDepth 20000 in
theorem ggX10_piece_X10_stop : GoodIn wsX10_piece wsX10_stop := goodIn_r _ [14, 7, 15, 31, 32, 33, 34, 35, 36, 37, 38, 39, 40, 41, 42, 43, 44, 45, 46, 47, 48] (by decide +kernel) (by decide +kernel)
set_option maxRecDepth 20000 in
theorem gX10_piece_X10_stop : GoodIn wsX10_piece (wsV RX10 70 RX10 yX10_stop wsX10_stop) := goodIn_app (goodIn_of _ (by decide +kernel)) ggX10_piece_X10_stop
set_option maxRecDepth 20000 in
theorem ggX10_piece_X10_kindIn : GoodIn wsX10_piece wsX10_kindIn := goodIn_r _ [18] (by decide +kernel) (by decide +kernel)
set_option maxRecDepth 20000 in
theorem gX10_piece_X10_kindIn : GoodIn wsX10_piece (va_wsS RX10 63 yX10_kindIn wsX10_kindIn) := goodIn_app (goodIn_of _ (by decide +kernel)) ggX10_piece_X10_kindIn
set_option maxRecDepth 20000 in
theorem ggX10_piece_X10_isKind : GoodIn wsX10_piece wsX10_isKind := goodIn_r _ [21, 22, 23, 24, 25, 13, 26] (by decide +kernel) (by decide +kernel)
set_option maxRecDepth 20000 in
theorem gX10_piece_X10_isKind : GoodIn wsX10_piece (va_wsS RX10 98 yX10_isKind wsX10_isKind) := goodIn_app (goodIn_of _ (by decide +kernel)) ggX10_piece_X10_isKind
set_option maxRecDepth 20000 in
theorem ggX10_piece_X10_four : GoodIn wsX10_piece wsX10_four := goodIn_r _ [29, 30, 16, 17, 13, 18] (by decide +kernel) (by decide +kernel)
set_option maxRecDepth 20000 in
theorem gX10_piece_X10_four : GoodIn wsX10_piece (va_wsS RX10 75 yX10_four wsX10_four) := goodIn_app (goodIn_of _ (by decide +kernel)) ggX10_piece_X10_four
theorem dX10_piece_0 : decode cX10_piece 0 = .ok (.iload_n 1, 1) := by decide +kernel
theorem dX10_piece_1 : decode cX10_piece 1 = .ok (.bipush 8, 2) := by decide +kernel
theorem dX10_piece_3 : decode cX10_piece 3 = .ok (.iadd, 1) := by decide +kernel
theorem dX10_piece_4 : decode cX10_piece 4 = .ok (.aload_n 0, 1) := by decide +kernel
theorem dX10_piece_5 : decode cX10_piece 5 = .ok (.getfield 58, 3) := by decide +kernel
theorem dX10_piece_8 : decode cX10_piece 8 = .ok (.if_icmp .le 14, 3) := by decide +kernel
theorem dX10_piece_11 : decode cX10_piece 11 = .ok (.aload_n 0, 1) := by decide +kernel
theorem dX10_piece_12 : decode cX10_piece 12 = .ok (.iconst 1, 1) := by decide +kernel
theorem dX10_piece_13 : decode cX10_piece 13 = .ok (.aload_n 0, 1) := by decide +kernel
theorem dX10_piece_14 : decode cX10_piece 14 = .ok (.getfield 58, 3) := by decide +kernel
theorem dX10_piece_17 : decode cX10_piece 17 = .ok (.invokevirtual 70, 3) := by decide +kernel
theorem dX10_piece_20 : decode cX10_piece 20 = .ok (.iload_n 1, 1) := by decide +kernel
theorem dX10_piece_21 : decode cX10_piece 21 = .ok (.ireturn, 1) := by decide +kernel
theorem dX10_piece_22 : decode cX10_piece 22 = .ok (.aload_n 0, 1) := by decide +kernel
theorem dX10_piece_23 : decode cX10_piece 23 = .ok (.getfield 7, 3) := by decide +kernel
theorem dX10_piece_26 : decode cX10_piece 26 = .ok (.iload_n 1, 1) := by decide +kernel
theorem dX10_piece_27 : decode cX10_piece 27 = .ok (.invokestatic 63, 3) := by decide +kernel
theorem dX10_piece_30 : decode cX10_piece 30 = .ok (.istore_n 2, 1) := by decide +kernel
theorem dX10_piece_31 : decode cX10_piece 31 = .ok (.aload_n 0, 1) := by decide +kernel
theorem dX10_piece_32 : decode cX10_piece 32 = .ok (.getfield 80, 3) := by decide +kernel
theorem dX10_piece_35 : decode cX10_piece 35 = .ok (.ifCond .ge 12, 3) := by decide +kernel
theorem dX10_piece_38 : decode cX10_piece 38 = .ok (.iload_n 2, 1) := by decide +kernel
theorem dX10_piece_39 : decode cX10_piece 39 = .ok (.ldc 97, 2) := by decide +kernel
theorem dX10_piece_41 : decode cX10_piece 41 = .ok (.if_icmp .eq 25, 3) := by decide +kernel
theorem dX10_piece_44 : decode cX10_piece 44 = .ok (.goto 16, 3) := by decide +kernel
theorem dX10_piece_47 : decode cX10_piece 47 = .ok (.iload_n 2, 1) := by decide +kernel
theorem dX10_piece_48 : decode cX10_piece 48 = .ok (.ldc 97, 2) := by decide +kernel
theorem dX10_piece_50 : decode cX10_piece 50 = .ok (.if_icmp .eq 10, 3) := by decide +kernel
theorem dX10_piece_53 : decode cX10_piece 53 = .ok (.iload_n 2, 1) := by decide +kernel
theorem dX10_piece_54 : decode cX10_piece 54 = .ok (.invokestatic 98, 3) := by decide +kernel
theorem dX10_piece_57 : decode cX10_piece 57 = .ok (.ifCond .ne 9, 3) := by decide +kernel
theorem dX10_piece_60 : decode cX10_piece 60 = .ok (.aload_n 0, 1) := by decide +kernel
theorem dX10_piece_61 : decode cX10_piece 61 = .ok (.iconst 2, 1) := by decide +kernel
theorem dX10_piece_62 : decode cX10_piece 62 = .ok (.iload_n 1, 1) := by decide +kernel
theorem dX10_piece_63 : decode cX10_piece 63 = .ok (.invokevirtual 70, 3) := by decide +kernel
theorem dX10_piece_66 : decode cX10_piece 66 = .ok (.aload_n 0, 1) := by decide +kernel
theorem dX10_piece_67 : decode cX10_piece 67 = .ok (.getfield 80, 3) := by decide +kernel
theorem dX10_piece_70 : decode cX10_piece 70 = .ok (.bipush 60, 2) := by decide +kernel
theorem dX10_piece_72 : decode cX10_piece 72 = .ok (.if_icmp .ne 10, 3) := by decide +kernel
theorem dX10_piece_75 : decode cX10_piece 75 = .ok (.aload_n 0, 1) := by decide +kernel
theorem dX10_piece_76 : decode cX10_piece 76 = .ok (.bipush 10, 2) := by decide +kernel
theorem dX10_piece_78 : decode cX10_piece 78 = .ok (.iload_n 1, 1) := by decide +kernel
theorem dX10_piece_79 : decode cX10_piece 79 = .ok (.invokevirtual 70, 3) := by decide +kernel
theorem dX10_piece_82 : decode cX10_piece 82 = .ok (.aload_n 0, 1) := by decide +kernel
theorem dX10_piece_83 : decode cX10_piece 83 = .ok (.getfield 7, 3) := by decide +kernel
theorem dX10_piece_86 : decode cX10_piece 86 = .ok (.iload_n 1, 1) := by decide +kernel
theorem dX10_piece_87 : decode cX10_piece 87 = .ok (.iconst 4, 1) := by decide +kernel
theorem dX10_piece_88 : decode cX10_piece 88 = .ok (.iadd, 1) := by decide +kernel
theorem dX10_piece_89 : decode cX10_piece 89 = .ok (.invokestatic 75, 3) := by decide +kernel
theorem dX10_piece_92 : decode cX10_piece 92 = .ok (.lstore_n 3, 1) := by decide +kernel
theorem dX10_piece_93 : decode cX10_piece 93 = .ok (.iload_n 1, 1) := by decide +kernel
theorem dX10_piece_94 : decode cX10_piece 94 = .ok (.i2l, 1) := by decide +kernel
theorem dX10_piece_95 : decode cX10_piece 95 = .ok (.ldc2_w 56, 3) := by decide +kernel
theorem dX10_piece_98 : decode cX10_piece 98 = .ok (.ladd, 1) := by decide +kernel
theorem dX10_piece_99 : decode cX10_piece 99 = .ok (.lload_n 3, 1) := by decide +kernel
theorem dX10_piece_100 : decode cX10_piece 100 = .ok (.ladd, 1) := by decide +kernel
theorem dX10_piece_101 : decode cX10_piece 101 = .ok (.lload_n 3, 1) := by decide +kernel
theorem dX10_piece_102 : decode cX10_piece 102 = .ok (.ldc2_w 102, 3) := by decide +kernel
theorem dX10_piece_105 : decode cX10_piece 105 = .ok (.lrem, 1) := by decide +kernel
theorem dX10_piece_106 : decode cX10_piece 106 = .ok (.ladd, 1) := by decide +kernel
theorem dX10_piece_107 : decode cX10_piece 107 = .ok (.lstore 5, 2) := by decide +kernel
theorem dX10_piece_109 : decode cX10_piece 109 = .ok (.lload 5, 2) := by decide +kernel
theorem dX10_piece_111 : decode cX10_piece 111 = .ok (.aload_n 0, 1) := by decide +kernel
theorem dX10_piece_112 : decode cX10_piece 112 = .ok (.getfield 58, 3) := by decide +kernel
theorem dX10_piece_115 : decode cX10_piece 115 = .ok (.i2l, 1) := by decide +kernel
theorem dX10_piece_116 : decode cX10_piece 116 = .ok (.lcmp, 1) := by decide +kernel
theorem dX10_piece_117 : decode cX10_piece 117 = .ok (.ifCond .le 11, 3) := by decide +kernel
theorem dX10_piece_120 : decode cX10_piece 120 = .ok (.aload_n 0, 1) := by decide +kernel
theorem dX10_piece_121 : decode cX10_piece 121 = .ok (.iconst 4, 1) := by decide +kernel
theorem dX10_piece_122 : decode cX10_piece 122 = .ok (.iload_n 1, 1) := by decide +kernel
theorem dX10_piece_123 : decode cX10_piece 123 = .ok (.iconst 4, 1) := by decide +kernel
theorem dX10_piece_124 : decode cX10_piece 124 = .ok (.iadd, 1) := by decide +kernel
theorem dX10_piece_125 : decode cX10_piece 125 = .ok (.invokevirtual 70, 3) := by decide +kernel
theorem dX10_piece_128 : decode cX10_piece 128 = .ok (.aload_n 0, 1) := by decide +kernel
theorem dX10_piece_129 : decode cX10_piece 129 = .ok (.getfield 67, 3) := by decide +kernel
theorem dX10_piece_132 : decode cX10_piece 132 = .ok (.ifCond .ne 36, 3) := by decide +kernel
theorem dX10_piece_135 : decode cX10_piece 135 = .ok (.lload_n 3, 1) := by decide +kernel
theorem dX10_piece_136 : decode cX10_piece 136 = .ok (.ldc2_w 102, 3) := by decide +kernel
theorem dX10_piece_139 : decode cX10_piece 139 = .ok (.lrem, 1) := by decide +kernel
theorem dX10_piece_140 : decode cX10_piece 140 = .ok (.lconst 1, 1) := by decide +kernel
theorem dX10_piece_141 : decode cX10_piece 141 = .ok (.lcmp, 1) := by decide +kernel
theorem dX10_piece_142 : decode cX10_piece 142 = .ok (.ifCond .ne 26, 3) := by decide +kernel
theorem dX10_piece_145 : decode cX10_piece 145 = .ok (.aload_n 0, 1) := by decide +kernel
theorem dX10_piece_146 : decode cX10_piece 146 = .ok (.getfield 7, 3) := by decide +kernel
theorem dX10_piece_149 : decode cX10_piece 149 = .ok (.lload 5, 2) := by decide +kernel
theorem dX10_piece_151 : decode cX10_piece 151 = .ok (.l2i, 1) := by decide +kernel
theorem dX10_piece_152 : decode cX10_piece 152 = .ok (.iconst 1, 1) := by decide +kernel
theorem dX10_piece_153 : decode cX10_piece 153 = .ok (.isub, 1) := by decide +kernel
theorem dX10_piece_154 : decode cX10_piece 154 = .ok (.iaload, 1) := by decide +kernel
theorem dX10_piece_155 : decode cX10_piece 155 = .ok (.ifCond .eq 13, 3) := by decide +kernel
theorem dX10_piece_158 : decode cX10_piece 158 = .ok (.aload_n 0, 1) := by decide +kernel
theorem dX10_piece_159 : decode cX10_piece 159 = .ok (.iconst 5, 1) := by decide +kernel
theorem dX10_piece_160 : decode cX10_piece 160 = .ok (.lload 5, 2) := by decide +kernel
theorem dX10_piece_162 : decode cX10_piece 162 = .ok (.l2i, 1) := by decide +kernel
theorem dX10_piece_163 : decode cX10_piece 163 = .ok (.iconst 1, 1) := by decide +kernel
theorem dX10_piece_164 : decode cX10_piece 164 = .ok (.isub, 1) := by decide +kernel
theorem dX10_piece_165 : decode cX10_piece 165 = .ok (.invokevirtual 70, 3) := by decide +kernel
theorem dX10_piece_168 : decode cX10_piece 168 = .ok (.aload_n 0, 1) := by decide +kernel
theorem dX10_piece_169 : decode cX10_piece 169 = .ok (.getfield 67, 3) := by decide +kernel
theorem dX10_piece_172 : decode cX10_piece 172 = .ok (.ifCond .eq 5, 3) := by decide +kernel
theorem dX10_piece_175 : decode cX10_piece 175 = .ok (.iload_n 1, 1) := by decide +kernel
theorem dX10_piece_176 : decode cX10_piece 176 = .ok (.ireturn, 1) := by decide +kernel
theorem dX10_piece_177 : decode cX10_piece 177 = .ok (.aload_n 0, 1) := by decide +kernel
theorem dX10_piece_178 : decode cX10_piece 178 = .ok (.getfield 80, 3) := by decide +kernel
theorem dX10_piece_181 : decode cX10_piece 181 = .ok (.ifCond .ge 12, 3) := by decide +kernel
theorem dX10_piece_184 : decode cX10_piece 184 = .ok (.aload_n 0, 1) := by decide +kernel
theorem dX10_piece_185 : decode cX10_piece 185 = .ok (.lload_n 3, 1) := by decide +kernel
theorem dX10_piece_186 : decode cX10_piece 186 = .ok (.l2i, 1) := by decide +kernel
theorem dX10_piece_187 : decode cX10_piece 187 = .ok (.putfield 87, 3) := by decide +kernel
theorem dX10_piece_190 : decode cX10_piece 190 = .ok (.goto 13, 3) := by decide +kernel
theorem dX10_piece_193 : decode cX10_piece 193 = .ok (.aload_n 0, 1) := by decide +kernel
theorem dX10_piece_194 : decode cX10_piece 194 = .ok (.getfield 39, 3) := by decide +kernel
theorem dX10_piece_197 : decode cX10_piece 197 = .ok (.aload_n 0, 1) := by decide +kernel
theorem dX10_piece_198 : decode cX10_piece 198 = .ok (.getfield 80, 3) := by decide +kernel
theorem dX10_piece_201 : decode cX10_piece 201 = .ok (.iload_n 1, 1) := by decide +kernel
theorem dX10_piece_202 : decode cX10_piece 202 = .ok (.iastore, 1) := by decide +kernel
theorem dX10_piece_203 : decode cX10_piece 203 = .ok (.aload_n 0, 1) := by decide +kernel
theorem dX10_piece_204 : decode cX10_piece 204 = .ok (.dup, 1) := by decide +kernel
theorem dX10_piece_205 : decode cX10_piece 205 = .ok (.getfield 80, 3) := by decide +kernel
theorem dX10_piece_208 : decode cX10_piece 208 = .ok (.iconst 1, 1) := by decide +kernel
theorem dX10_piece_209 : decode cX10_piece 209 = .ok (.iadd, 1) := by decide +kernel
theorem dX10_piece_210 : decode cX10_piece 210 = .ok (.putfield 80, 3) := by decide +kernel
theorem dX10_piece_213 : decode cX10_piece 213 = .ok (.lload 5, 2) := by decide +kernel
theorem dX10_piece_215 : decode cX10_piece 215 = .ok (.l2i, 1) := by decide +kernel
theorem dX10_piece_216 : decode cX10_piece 216 = .ok (.ireturn, 1) := by decide +kernel
set_option maxRecDepth 20000 in
theorem ggX10_entryOf_X10_stop : GoodIn wsX10_entryOf wsX10_stop := goodIn_r _ [8, 9, 10, 25, 26, 27, 28, 29, 30, 31, 32, 33, 34, 35, 36, 37, 38, 39, 40, 41, 42] (by decide +kernel) (by decide +kernel)
set_option maxRecDepth 20000 in
theorem gX10_entryOf_X10_stop : GoodIn wsX10_entryOf (wsV RX10 70 RX10 yX10_stop wsX10_stop) := goodIn_app (goodIn_of _ (by decide +kernel)) ggX10_entryOf_X10_stop
set_option maxRecDepth 20000 in
theorem ggX10_entryOf_X10_kindIn : GoodIn wsX10_entryOf wsX10_kindIn := goodIn_r _ [13] (by decide +kernel) (by decide +kernel)
set_option maxRecDepth 20000 in
theorem gX10_entryOf_X10_kindIn : GoodIn wsX10_entryOf (va_wsS RX10 63 yX10_kindIn wsX10_kindIn) := goodIn_app (goodIn_of _ (by decide +kernel)) ggX10_entryOf_X10_kindIn
set_option maxRecDepth 20000 in
theorem ggX10_entryOf_X10_isUse : GoodIn wsX10_entryOf wsX10_isUse := goodIn_r _ [16, 17, 18, 19, 20] (by decide +kernel) (by decide +kernel)
set_option maxRecDepth 20000 in
theorem gX10_entryOf_X10_isUse : GoodIn wsX10_entryOf (va_wsS RX10 104 yX10_isUse wsX10_isUse) := goodIn_app (goodIn_of _ (by decide +kernel)) ggX10_entryOf_X10_isUse
set_option maxRecDepth 20000 in
theorem ggX10_entryOf_X10_four : GoodIn wsX10_entryOf wsX10_four := goodIn_r _ [23, 24, 11, 12, 7, 13] (by decide +kernel) (by decide +kernel)
set_option maxRecDepth 20000 in
theorem gX10_entryOf_X10_four : GoodIn wsX10_entryOf (va_wsS RX10 75 yX10_four wsX10_four) := goodIn_app (goodIn_of _ (by decide +kernel)) ggX10_entryOf_X10_four
theorem dX10_entryOf_0 : decode cX10_entryOf 0 = .ok (.iload_n 1, 1) := by decide +kernel
theorem dX10_entryOf_1 : decode cX10_entryOf 1 = .ok (.bipush 40, 2) := by decide +kernel
theorem dX10_entryOf_3 : decode cX10_entryOf 3 = .ok (.if_icmp .ne 11, 3) := by decide +kernel
theorem dX10_entryOf_6 : decode cX10_entryOf 6 = .ok (.aload_n 0, 1) := by decide +kernel
theorem dX10_entryOf_7 : decode cX10_entryOf 7 = .ok (.bipush 10, 2) := by decide +kernel
theorem dX10_entryOf_9 : decode cX10_entryOf 9 = .ok (.iload_n 2, 1) := by decide +kernel
theorem dX10_entryOf_10 : decode cX10_entryOf 10 = .ok (.invokevirtual 70, 3) := by decide +kernel
theorem dX10_entryOf_13 : decode cX10_entryOf 13 = .ok (.return_, 1) := by decide +kernel
theorem dX10_entryOf_14 : decode cX10_entryOf 14 = .ok (.aload_n 0, 1) := by decide +kernel
theorem dX10_entryOf_15 : decode cX10_entryOf 15 = .ok (.getfield 7, 3) := by decide +kernel
theorem dX10_entryOf_18 : decode cX10_entryOf 18 = .ok (.iload_n 2, 1) := by decide +kernel
theorem dX10_entryOf_19 : decode cX10_entryOf 19 = .ok (.invokestatic 63, 3) := by decide +kernel
theorem dX10_entryOf_22 : decode cX10_entryOf 22 = .ok (.istore_n 3, 1) := by decide +kernel
theorem dX10_entryOf_23 : decode cX10_entryOf 23 = .ok (.iload_n 3, 1) := by decide +kernel
theorem dX10_entryOf_24 : decode cX10_entryOf 24 = .ok (.invokestatic 104, 3) := by decide +kernel
theorem dX10_entryOf_27 : decode cX10_entryOf 27 = .ok (.ifCond .ne 10, 3) := by decide +kernel
theorem dX10_entryOf_30 : decode cX10_entryOf 30 = .ok (.aload_n 0, 1) := by decide +kernel
theorem dX10_entryOf_31 : decode cX10_entryOf 31 = .ok (.bipush 7, 2) := by decide +kernel
theorem dX10_entryOf_33 : decode cX10_entryOf 33 = .ok (.iload_n 2, 1) := by decide +kernel
theorem dX10_entryOf_34 : decode cX10_entryOf 34 = .ok (.invokevirtual 70, 3) := by decide +kernel
theorem dX10_entryOf_37 : decode cX10_entryOf 37 = .ok (.iconst 0, 1) := by decide +kernel
theorem dX10_entryOf_38 : decode cX10_entryOf 38 = .ok (.istore 4, 2) := by decide +kernel
theorem dX10_entryOf_40 : decode cX10_entryOf 40 = .ok (.iload 4, 2) := by decide +kernel
theorem dX10_entryOf_42 : decode cX10_entryOf 42 = .ok (.iload_n 1, 1) := by decide +kernel
theorem dX10_entryOf_43 : decode cX10_entryOf 43 = .ok (.if_icmp .ge 64, 3) := by decide +kernel
theorem dX10_entryOf_46 : decode cX10_entryOf 46 = .ok (.aload_n 0, 1) := by decide +kernel
theorem dX10_entryOf_47 : decode cX10_entryOf 47 = .ok (.getfield 7, 3) := by decide +kernel
theorem dX10_entryOf_50 : decode cX10_entryOf 50 = .ok (.bipush 24, 2) := by decide +kernel
theorem dX10_entryOf_52 : decode cX10_entryOf 52 = .ok (.bipush 12, 2) := by decide +kernel
theorem dX10_entryOf_54 : decode cX10_entryOf 54 = .ok (.iload 4, 2) := by decide +kernel
theorem dX10_entryOf_56 : decode cX10_entryOf 56 = .ok (.imul, 1) := by decide +kernel
theorem dX10_entryOf_57 : decode cX10_entryOf 57 = .ok (.iadd, 1) := by decide +kernel
theorem dX10_entryOf_58 : decode cX10_entryOf 58 = .ok (.invokestatic 63, 3) := by decide +kernel
theorem dX10_entryOf_61 : decode cX10_entryOf 61 = .ok (.iload_n 3, 1) := by decide +kernel
theorem dX10_entryOf_62 : decode cX10_entryOf 62 = .ok (.if_icmp .ne 39, 3) := by decide +kernel
theorem dX10_entryOf_65 : decode cX10_entryOf 65 = .ok (.aload_n 0, 1) := by decide +kernel
theorem dX10_entryOf_66 : decode cX10_entryOf 66 = .ok (.getfield 7, 3) := by decide +kernel
theorem dX10_entryOf_69 : decode cX10_entryOf 69 = .ok (.bipush 28, 2) := by decide +kernel
theorem dX10_entryOf_71 : decode cX10_entryOf 71 = .ok (.bipush 12, 2) := by decide +kernel
theorem dX10_entryOf_73 : decode cX10_entryOf 73 = .ok (.iload 4, 2) := by decide +kernel
theorem dX10_entryOf_75 : decode cX10_entryOf 75 = .ok (.imul, 1) := by decide +kernel
theorem dX10_entryOf_76 : decode cX10_entryOf 76 = .ok (.iadd, 1) := by decide +kernel
theorem dX10_entryOf_77 : decode cX10_entryOf 77 = .ok (.invokestatic 75, 3) := by decide +kernel
theorem dX10_entryOf_80 : decode cX10_entryOf 80 = .ok (.aload_n 0, 1) := by decide +kernel
theorem dX10_entryOf_81 : decode cX10_entryOf 81 = .ok (.getfield 7, 3) := by decide +kernel
theorem dX10_entryOf_84 : decode cX10_entryOf 84 = .ok (.iload_n 2, 1) := by decide +kernel
theorem dX10_entryOf_85 : decode cX10_entryOf 85 = .ok (.iconst 4, 1) := by decide +kernel
theorem dX10_entryOf_86 : decode cX10_entryOf 86 = .ok (.iadd, 1) := by decide +kernel
theorem dX10_entryOf_87 : decode cX10_entryOf 87 = .ok (.invokestatic 75, 3) := by decide +kernel
theorem dX10_entryOf_90 : decode cX10_entryOf 90 = .ok (.lcmp, 1) := by decide +kernel
theorem dX10_entryOf_91 : decode cX10_entryOf 91 = .ok (.ifCond .ne 10, 3) := by decide +kernel
theorem dX10_entryOf_94 : decode cX10_entryOf 94 = .ok (.aload_n 0, 1) := by decide +kernel
theorem dX10_entryOf_95 : decode cX10_entryOf 95 = .ok (.bipush 9, 2) := by decide +kernel
theorem dX10_entryOf_97 : decode cX10_entryOf 97 = .ok (.iload_n 2, 1) := by decide +kernel
theorem dX10_entryOf_98 : decode cX10_entryOf 98 = .ok (.invokevirtual 70, 3) := by decide +kernel
theorem dX10_entryOf_101 : decode cX10_entryOf 101 = .ok (.iinc 4 1, 3) := by decide +kernel
theorem dX10_entryOf_104 : decode cX10_entryOf 104 = .ok (.goto (-64), 3) := by decide +kernel
theorem dX10_entryOf_107 : decode cX10_entryOf 107 = .ok (.iconst 0, 1) := by decide +kernel
theorem dX10_entryOf_108 : decode cX10_entryOf 108 = .ok (.istore 4, 2) := by decide +kernel
theorem dX10_entryOf_110 : decode cX10_entryOf 110 = .ok (.iconst 0, 1) := by decide +kernel
theorem dX10_entryOf_111 : decode cX10_entryOf 111 = .ok (.istore 5, 2) := by decide +kernel
theorem dX10_entryOf_113 : decode cX10_entryOf 113 = .ok (.iload 5, 2) := by decide +kernel
theorem dX10_entryOf_115 : decode cX10_entryOf 115 = .ok (.aload_n 0, 1) := by decide +kernel
theorem dX10_entryOf_116 : decode cX10_entryOf 116 = .ok (.getfield 80, 3) := by decide +kernel
theorem dX10_entryOf_119 : decode cX10_entryOf 119 = .ok (.if_icmp .ge 44, 3) := by decide +kernel
theorem dX10_entryOf_122 : decode cX10_entryOf 122 = .ok (.iload 4, 2) := by decide +kernel
theorem dX10_entryOf_124 : decode cX10_entryOf 124 = .ok (.ifCond .ne 26, 3) := by decide +kernel
theorem dX10_entryOf_127 : decode cX10_entryOf 127 = .ok (.aload_n 0, 1) := by decide +kernel
theorem dX10_entryOf_128 : decode cX10_entryOf 128 = .ok (.getfield 7, 3) := by decide +kernel
theorem dX10_entryOf_131 : decode cX10_entryOf 131 = .ok (.iload_n 2, 1) := by decide +kernel
theorem dX10_entryOf_132 : decode cX10_entryOf 132 = .ok (.bipush 8, 2) := by decide +kernel
theorem dX10_entryOf_134 : decode cX10_entryOf 134 = .ok (.iadd, 1) := by decide +kernel
theorem dX10_entryOf_135 : decode cX10_entryOf 135 = .ok (.invokestatic 75, 3) := by decide +kernel
theorem dX10_entryOf_138 : decode cX10_entryOf 138 = .ok (.aload_n 0, 1) := by decide +kernel
theorem dX10_entryOf_139 : decode cX10_entryOf 139 = .ok (.getfield 39, 3) := by decide +kernel
theorem dX10_entryOf_142 : decode cX10_entryOf 142 = .ok (.iload 5, 2) := by decide +kernel
theorem dX10_entryOf_144 : decode cX10_entryOf 144 = .ok (.iaload, 1) := by decide +kernel
theorem dX10_entryOf_145 : decode cX10_entryOf 145 = .ok (.i2l, 1) := by decide +kernel
theorem dX10_entryOf_146 : decode cX10_entryOf 146 = .ok (.lcmp, 1) := by decide +kernel
theorem dX10_entryOf_147 : decode cX10_entryOf 147 = .ok (.ifCond .ne 7, 3) := by decide +kernel
theorem dX10_entryOf_150 : decode cX10_entryOf 150 = .ok (.iconst 1, 1) := by decide +kernel
theorem dX10_entryOf_151 : decode cX10_entryOf 151 = .ok (.goto 4, 3) := by decide +kernel
theorem dX10_entryOf_154 : decode cX10_entryOf 154 = .ok (.iconst 0, 1) := by decide +kernel
theorem dX10_entryOf_155 : decode cX10_entryOf 155 = .ok (.istore 4, 2) := by decide +kernel
theorem dX10_entryOf_157 : decode cX10_entryOf 157 = .ok (.iinc 5 1, 3) := by decide +kernel
theorem dX10_entryOf_160 : decode cX10_entryOf 160 = .ok (.goto (-47), 3) := by decide +kernel
theorem dX10_entryOf_163 : decode cX10_entryOf 163 = .ok (.iload 4, 2) := by decide +kernel
theorem dX10_entryOf_165 : decode cX10_entryOf 165 = .ok (.ifCond .ne 13, 3) := by decide +kernel
theorem dX10_entryOf_168 : decode cX10_entryOf 168 = .ok (.aload_n 0, 1) := by decide +kernel
theorem dX10_entryOf_169 : decode cX10_entryOf 169 = .ok (.bipush 8, 2) := by decide +kernel
theorem dX10_entryOf_171 : decode cX10_entryOf 171 = .ok (.iload_n 2, 1) := by decide +kernel
theorem dX10_entryOf_172 : decode cX10_entryOf 172 = .ok (.bipush 8, 2) := by decide +kernel
theorem dX10_entryOf_174 : decode cX10_entryOf 174 = .ok (.iadd, 1) := by decide +kernel
theorem dX10_entryOf_175 : decode cX10_entryOf 175 = .ok (.invokevirtual 70, 3) := by decide +kernel
theorem dX10_entryOf_178 : decode cX10_entryOf 178 = .ok (.return_, 1) := by decide +kernel
set_option maxRecDepth 20000 in
theorem ggX10_read_X10_goOver : GoodIn wsX10_read wsX10_goOver := goodIn_r _ [9, 3, 10, 11, 12, 13, 1, 14, 15, 16, 17, 18, 19, 8, 20, 2, 21, 22, 23, 24, 25, 26, 27, 28, 29, 30, 31, 32, 33, 34, 35, 36, 37, 38, 39, 40, 41, 42, 43, 44, 45, 46, 47, 48, 49, 50, 51, 52, 53, 54, 67, 68, 69, 70, 71, 72, 73, 74, 75, 76, 77, 78, 79, 80, 81, 82, 83, 84] (by decide +kernel) (by decide +kernel)
set_option maxRecDepth 20000 in
theorem gX10_read_X10_goOver : GoodIn wsX10_read (wsV RX10 107 RX10 yX10_goOver wsX10_goOver) := goodIn_app (goodIn_of _ (by decide +kernel)) ggX10_read_X10_goOver
set_option maxRecDepth 20000 in
theorem ggX10_read_X10_take : GoodIn wsX10_read wsX10_take := goodIn_r _ [58, 13, 4, 59, 60, 10, 35, 61, 62, 14, 63, 64, 65, 66, 21, 22, 8, 23, 24, 25, 26, 27, 67, 68, 69, 70, 71, 72, 73, 74, 75, 76, 77, 78, 79, 80, 81, 82, 83, 84] (by decide +kernel) (by decide +kernel)
set_option maxRecDepth 20000 in
theorem gX10_read_X10_take : GoodIn wsX10_read (wsV RX10 110 RX10 yX10_take wsX10_take) := goodIn_app (goodIn_of _ (by decide +kernel)) ggX10_read_X10_take
theorem dX10_read_0 : decode cX10_read 0 = .ok (.aload_n 0, 1) := by decide +kernel
theorem dX10_read_1 : decode cX10_read 1 = .ok (.iconst 0, 1) := by decide +kernel
theorem dX10_read_2 : decode cX10_read 2 = .ok (.putfield 67, 3) := by decide +kernel
theorem dX10_read_5 : decode cX10_read 5 = .ok (.aload_n 0, 1) := by decide +kernel
theorem dX10_read_6 : decode cX10_read 6 = .ok (.bipush (-2), 2) := by decide +kernel
theorem dX10_read_8 : decode cX10_read 8 = .ok (.putfield 35, 3) := by decide +kernel
theorem dX10_read_11 : decode cX10_read 11 = .ok (.aload_n 0, 1) := by decide +kernel
theorem dX10_read_12 : decode cX10_read 12 = .ok (.invokevirtual 107, 3) := by decide +kernel
theorem dX10_read_15 : decode cX10_read 15 = .ok (.aload_n 0, 1) := by decide +kernel
theorem dX10_read_16 : decode cX10_read 16 = .ok (.getfield 67, 3) := by decide +kernel
theorem dX10_read_19 : decode cX10_read 19 = .ok (.ifCond .ne 7, 3) := by decide +kernel
theorem dX10_read_22 : decode cX10_read 22 = .ok (.aload_n 0, 1) := by decide +kernel
theorem dX10_read_23 : decode cX10_read 23 = .ok (.invokevirtual 110, 3) := by decide +kernel
theorem dX10_read_26 : decode cX10_read 26 = .ok (.aload_n 0, 1) := by decide +kernel
theorem dX10_read_27 : decode cX10_read 27 = .ok (.iconst 0, 1) := by decide +kernel
theorem dX10_read_28 : decode cX10_read 28 = .ok (.putfield 58, 3) := by decide +kernel
theorem dX10_read_31 : decode cX10_read 31 = .ok (.aload_n 0, 1) := by decide +kernel
theorem dX10_read_32 : decode cX10_read 32 = .ok (.getfield 67, 3) := by decide +kernel
theorem dX10_read_35 : decode cX10_read 35 = .ok (.ifCond .ne 10, 3) := by decide +kernel
theorem dX10_read_38 : decode cX10_read 38 = .ok (.aload_n 0, 1) := by decide +kernel
theorem dX10_read_39 : decode cX10_read 39 = .ok (.getfield 113, 3) := by decide +kernel
theorem dX10_read_42 : decode cX10_read 42 = .ok (.goto 10, 3) := by decide +kernel
theorem dX10_read_45 : decode cX10_read 45 = .ok (.bipush (-10), 2) := by decide +kernel
theorem dX10_read_47 : decode cX10_read 47 = .ok (.aload_n 0, 1) := by decide +kernel
theorem dX10_read_48 : decode cX10_read 48 = .ok (.getfield 67, 3) := by decide +kernel
theorem dX10_read_51 : decode cX10_read 51 = .ok (.isub, 1) := by decide +kernel
theorem dX10_read_52 : decode cX10_read 52 = .ok (.ireturn, 1) := by decide +kernel
set_option maxRecDepth 20000 in
theorem ggX10_take_X10_kindIn : GoodIn wsX10_take wsX10_kindIn := goodIn_r _ [17] (by decide +kernel) (by decide +kernel)
set_option maxRecDepth 20000 in
theorem gX10_take_X10_kindIn : GoodIn wsX10_take (va_wsS RX10 63 yX10_kindIn wsX10_kindIn) := goodIn_app (goodIn_of _ (by decide +kernel)) ggX10_take_X10_kindIn
set_option maxRecDepth 20000 in
theorem ggX10_take_X10_four : GoodIn wsX10_take wsX10_four := goodIn_r _ [20, 21, 14, 15, 16, 17] (by decide +kernel) (by decide +kernel)
set_option maxRecDepth 20000 in
theorem gX10_take_X10_four : GoodIn wsX10_take (va_wsS RX10 75 yX10_four wsX10_four) := goodIn_app (goodIn_of _ (by decide +kernel)) ggX10_take_X10_four
theorem dX10_take_0 : decode cX10_take 0 = .ok (.aload_n 0, 1) := by decide +kernel
theorem dX10_take_1 : decode cX10_take 1 = .ok (.aload_n 0, 1) := by decide +kernel
theorem dX10_take_2 : decode cX10_take 2 = .ok (.getfield 80, 3) := by decide +kernel
theorem dX10_take_5 : decode cX10_take 5 = .ok (.putfield 113, 3) := by decide +kernel
theorem dX10_take_8 : decode cX10_take 8 = .ok (.aload_n 0, 1) := by decide +kernel
theorem dX10_take_9 : decode cX10_take 9 = .ok (.iconst 0, 1) := by decide +kernel
theorem dX10_take_10 : decode cX10_take 10 = .ok (.putfield 116, 3) := by decide +kernel
theorem dX10_take_13 : decode cX10_take 13 = .ok (.iconst 0, 1) := by decide +kernel
theorem dX10_take_14 : decode cX10_take 14 = .ok (.istore_n 1, 1) := by decide +kernel
theorem dX10_take_15 : decode cX10_take 15 = .ok (.iload_n 1, 1) := by decide +kernel
theorem dX10_take_16 : decode cX10_take 16 = .ok (.aload_n 0, 1) := by decide +kernel
theorem dX10_take_17 : decode cX10_take 17 = .ok (.getfield 113, 3) := by decide +kernel
theorem dX10_take_20 : decode cX10_take 20 = .ok (.if_icmp .ge 103, 3) := by decide +kernel
theorem dX10_take_23 : decode cX10_take 23 = .ok (.aload_n 0, 1) := by decide +kernel
theorem dX10_take_24 : decode cX10_take 24 = .ok (.getfield 16, 3) := by decide +kernel
theorem dX10_take_27 : decode cX10_take 27 = .ok (.iload_n 1, 1) := by decide +kernel
theorem dX10_take_28 : decode cX10_take 28 = .ok (.aload_n 0, 1) := by decide +kernel
theorem dX10_take_29 : decode cX10_take 29 = .ok (.getfield 7, 3) := by decide +kernel
theorem dX10_take_32 : decode cX10_take 32 = .ok (.aload_n 0, 1) := by decide +kernel
theorem dX10_take_33 : decode cX10_take 33 = .ok (.getfield 39, 3) := by decide +kernel
theorem dX10_take_36 : decode cX10_take 36 = .ok (.iload_n 1, 1) := by decide +kernel
theorem dX10_take_37 : decode cX10_take 37 = .ok (.iaload, 1) := by decide +kernel
theorem dX10_take_38 : decode cX10_take 38 = .ok (.invokestatic 63, 3) := by decide +kernel
theorem dX10_take_41 : decode cX10_take 41 = .ok (.iastore, 1) := by decide +kernel
theorem dX10_take_42 : decode cX10_take 42 = .ok (.aload_n 0, 1) := by decide +kernel
theorem dX10_take_43 : decode cX10_take 43 = .ok (.getfield 19, 3) := by decide +kernel
theorem dX10_take_46 : decode cX10_take 46 = .ok (.iload_n 1, 1) := by decide +kernel
theorem dX10_take_47 : decode cX10_take 47 = .ok (.aload_n 0, 1) := by decide +kernel
theorem dX10_take_48 : decode cX10_take 48 = .ok (.getfield 7, 3) := by decide +kernel
theorem dX10_take_51 : decode cX10_take 51 = .ok (.aload_n 0, 1) := by decide +kernel
theorem dX10_take_52 : decode cX10_take 52 = .ok (.getfield 39, 3) := by decide +kernel
theorem dX10_take_55 : decode cX10_take 55 = .ok (.iload_n 1, 1) := by decide +kernel
theorem dX10_take_56 : decode cX10_take 56 = .ok (.iaload, 1) := by decide +kernel
theorem dX10_take_57 : decode cX10_take 57 = .ok (.iconst 4, 1) := by decide +kernel
theorem dX10_take_58 : decode cX10_take 58 = .ok (.iadd, 1) := by decide +kernel
theorem dX10_take_59 : decode cX10_take 59 = .ok (.invokestatic 75, 3) := by decide +kernel
theorem dX10_take_62 : decode cX10_take 62 = .ok (.l2i, 1) := by decide +kernel
theorem dX10_take_63 : decode cX10_take 63 = .ok (.iastore, 1) := by decide +kernel
theorem dX10_take_64 : decode cX10_take 64 = .ok (.iconst 0, 1) := by decide +kernel
theorem dX10_take_65 : decode cX10_take 65 = .ok (.istore_n 2, 1) := by decide +kernel
theorem dX10_take_66 : decode cX10_take 66 = .ok (.iload_n 2, 1) := by decide +kernel
theorem dX10_take_67 : decode cX10_take 67 = .ok (.aload_n 0, 1) := by decide +kernel
theorem dX10_take_68 : decode cX10_take 68 = .ok (.getfield 19, 3) := by decide +kernel
theorem dX10_take_71 : decode cX10_take 71 = .ok (.iload_n 1, 1) := by decide +kernel
theorem dX10_take_72 : decode cX10_take 72 = .ok (.iaload, 1) := by decide +kernel
theorem dX10_take_73 : decode cX10_take 73 = .ok (.if_icmp .ge 44, 3) := by decide +kernel
theorem dX10_take_76 : decode cX10_take 76 = .ok (.aload_n 0, 1) := by decide +kernel
theorem dX10_take_77 : decode cX10_take 77 = .ok (.getfield 13, 3) := by decide +kernel
theorem dX10_take_80 : decode cX10_take 80 = .ok (.aload_n 0, 1) := by decide +kernel
theorem dX10_take_81 : decode cX10_take 81 = .ok (.getfield 116, 3) := by decide +kernel
theorem dX10_take_84 : decode cX10_take 84 = .ok (.aload_n 0, 1) := by decide +kernel
theorem dX10_take_85 : decode cX10_take 85 = .ok (.getfield 7, 3) := by decide +kernel
theorem dX10_take_88 : decode cX10_take 88 = .ok (.aload_n 0, 1) := by decide +kernel
theorem dX10_take_89 : decode cX10_take 89 = .ok (.getfield 39, 3) := by decide +kernel
theorem dX10_take_92 : decode cX10_take 92 = .ok (.iload_n 1, 1) := by decide +kernel
theorem dX10_take_93 : decode cX10_take 93 = .ok (.iaload, 1) := by decide +kernel
theorem dX10_take_94 : decode cX10_take 94 = .ok (.bipush 8, 2) := by decide +kernel
theorem dX10_take_96 : decode cX10_take 96 = .ok (.iadd, 1) := by decide +kernel
theorem dX10_take_97 : decode cX10_take 97 = .ok (.iload_n 2, 1) := by decide +kernel
theorem dX10_take_98 : decode cX10_take 98 = .ok (.iadd, 1) := by decide +kernel
theorem dX10_take_99 : decode cX10_take 99 = .ok (.iaload, 1) := by decide +kernel
theorem dX10_take_100 : decode cX10_take 100 = .ok (.iastore, 1) := by decide +kernel
theorem dX10_take_101 : decode cX10_take 101 = .ok (.aload_n 0, 1) := by decide +kernel
theorem dX10_take_102 : decode cX10_take 102 = .ok (.dup, 1) := by decide +kernel
theorem dX10_take_103 : decode cX10_take 103 = .ok (.getfield 116, 3) := by decide +kernel
theorem dX10_take_106 : decode cX10_take 106 = .ok (.iconst 1, 1) := by decide +kernel
theorem dX10_take_107 : decode cX10_take 107 = .ok (.iadd, 1) := by decide +kernel
theorem dX10_take_108 : decode cX10_take 108 = .ok (.putfield 116, 3) := by decide +kernel
theorem dX10_take_111 : decode cX10_take 111 = .ok (.iinc 2 1, 3) := by decide +kernel
theorem dX10_take_114 : decode cX10_take 114 = .ok (.goto (-48), 3) := by decide +kernel
theorem dX10_take_117 : decode cX10_take 117 = .ok (.iinc 1 1, 3) := by decide +kernel
theorem dX10_take_120 : decode cX10_take 120 = .ok (.goto (-105), 3) := by decide +kernel
theorem dX10_take_123 : decode cX10_take 123 = .ok (.aload_n 0, 1) := by decide +kernel
theorem dX10_take_124 : decode cX10_take 124 = .ok (.aload_n 0, 1) := by decide +kernel
theorem dX10_take_125 : decode cX10_take 125 = .ok (.getfield 87, 3) := by decide +kernel
theorem dX10_take_128 : decode cX10_take 128 = .ok (.iconst 4, 1) := by decide +kernel
theorem dX10_take_129 : decode cX10_take 129 = .ok (.isub, 1) := by decide +kernel
theorem dX10_take_130 : decode cX10_take 130 = .ok (.bipush 12, 2) := by decide +kernel
theorem dX10_take_132 : decode cX10_take 132 = .ok (.idiv, 1) := by decide +kernel
theorem dX10_take_133 : decode cX10_take 133 = .ok (.putfield 119, 3) := by decide +kernel
theorem dX10_take_136 : decode cX10_take 136 = .ok (.iconst 0, 1) := by decide +kernel
theorem dX10_take_137 : decode cX10_take 137 = .ok (.istore_n 1, 1) := by decide +kernel
theorem dX10_take_138 : decode cX10_take 138 = .ok (.iload_n 1, 1) := by decide +kernel
theorem dX10_take_139 : decode cX10_take 139 = .ok (.aload_n 0, 1) := by decide +kernel
theorem dX10_take_140 : decode cX10_take 140 = .ok (.getfield 119, 3) := by decide +kernel
theorem dX10_take_143 : decode cX10_take 143 = .ok (.if_icmp .ge 101, 3) := by decide +kernel
theorem dX10_take_146 : decode cX10_take 146 = .ok (.bipush 24, 2) := by decide +kernel
theorem dX10_take_148 : decode cX10_take 148 = .ok (.bipush 12, 2) := by decide +kernel
theorem dX10_take_150 : decode cX10_take 150 = .ok (.iload_n 1, 1) := by decide +kernel
theorem dX10_take_151 : decode cX10_take 151 = .ok (.imul, 1) := by decide +kernel
theorem dX10_take_152 : decode cX10_take 152 = .ok (.iadd, 1) := by decide +kernel
theorem dX10_take_153 : decode cX10_take 153 = .ok (.istore_n 2, 1) := by decide +kernel
theorem dX10_take_154 : decode cX10_take 154 = .ok (.aload_n 0, 1) := by decide +kernel
theorem dX10_take_155 : decode cX10_take 155 = .ok (.getfield 22, 3) := by decide +kernel
theorem dX10_take_158 : decode cX10_take 158 = .ok (.iload_n 1, 1) := by decide +kernel
theorem dX10_take_159 : decode cX10_take 159 = .ok (.aload_n 0, 1) := by decide +kernel
theorem dX10_take_160 : decode cX10_take 160 = .ok (.getfield 7, 3) := by decide +kernel
theorem dX10_take_163 : decode cX10_take 163 = .ok (.iload_n 2, 1) := by decide +kernel
theorem dX10_take_164 : decode cX10_take 164 = .ok (.invokestatic 63, 3) := by decide +kernel
theorem dX10_take_167 : decode cX10_take 167 = .ok (.iastore, 1) := by decide +kernel
theorem dX10_take_168 : decode cX10_take 168 = .ok (.aload_n 0, 1) := by decide +kernel
theorem dX10_take_169 : decode cX10_take 169 = .ok (.getfield 25, 3) := by decide +kernel
theorem dX10_take_172 : decode cX10_take 172 = .ok (.iload_n 1, 1) := by decide +kernel
theorem dX10_take_173 : decode cX10_take 173 = .ok (.aload_n 0, 1) := by decide +kernel
theorem dX10_take_174 : decode cX10_take 174 = .ok (.getfield 7, 3) := by decide +kernel
theorem dX10_take_177 : decode cX10_take 177 = .ok (.iload_n 2, 1) := by decide +kernel
theorem dX10_take_178 : decode cX10_take 178 = .ok (.iconst 4, 1) := by decide +kernel
theorem dX10_take_179 : decode cX10_take 179 = .ok (.iadd, 1) := by decide +kernel
theorem dX10_take_180 : decode cX10_take 180 = .ok (.invokestatic 75, 3) := by decide +kernel
theorem dX10_take_183 : decode cX10_take 183 = .ok (.lastore, 1) := by decide +kernel
theorem dX10_take_184 : decode cX10_take 184 = .ok (.iconst 0, 1) := by decide +kernel
theorem dX10_take_185 : decode cX10_take 185 = .ok (.istore_n 3, 1) := by decide +kernel
theorem dX10_take_186 : decode cX10_take 186 = .ok (.iload_n 3, 1) := by decide +kernel
theorem dX10_take_187 : decode cX10_take 187 = .ok (.aload_n 0, 1) := by decide +kernel
theorem dX10_take_188 : decode cX10_take 188 = .ok (.getfield 113, 3) := by decide +kernel
theorem dX10_take_191 : decode cX10_take 191 = .ok (.if_icmp .ge 47, 3) := by decide +kernel
theorem dX10_take_194 : decode cX10_take 194 = .ok (.aload_n 0, 1) := by decide +kernel
theorem dX10_take_195 : decode cX10_take 195 = .ok (.getfield 29, 3) := by decide +kernel
theorem dX10_take_198 : decode cX10_take 198 = .ok (.iload_n 1, 1) := by decide +kernel
theorem dX10_take_199 : decode cX10_take 199 = .ok (.aload_n 0, 1) := by decide +kernel
theorem dX10_take_200 : decode cX10_take 200 = .ok (.getfield 39, 3) := by decide +kernel
theorem dX10_take_203 : decode cX10_take 203 = .ok (.iload_n 3, 1) := by decide +kernel
theorem dX10_take_204 : decode cX10_take 204 = .ok (.iaload, 1) := by decide +kernel
theorem dX10_take_205 : decode cX10_take 205 = .ok (.i2l, 1) := by decide +kernel
theorem dX10_take_206 : decode cX10_take 206 = .ok (.aload_n 0, 1) := by decide +kernel
theorem dX10_take_207 : decode cX10_take 207 = .ok (.getfield 7, 3) := by decide +kernel
theorem dX10_take_210 : decode cX10_take 210 = .ok (.iload_n 2, 1) := by decide +kernel
theorem dX10_take_211 : decode cX10_take 211 = .ok (.bipush 8, 2) := by decide +kernel
theorem dX10_take_213 : decode cX10_take 213 = .ok (.iadd, 1) := by decide +kernel
theorem dX10_take_214 : decode cX10_take 214 = .ok (.invokestatic 75, 3) := by decide +kernel
theorem dX10_take_217 : decode cX10_take 217 = .ok (.lcmp, 1) := by decide +kernel
theorem dX10_take_218 : decode cX10_take 218 = .ok (.ifCond .ne 7, 3) := by decide +kernel
theorem dX10_take_221 : decode cX10_take 221 = .ok (.iload_n 3, 1) := by decide +kernel
theorem dX10_take_222 : decode cX10_take 222 = .ok (.goto 9, 3) := by decide +kernel
theorem dX10_take_225 : decode cX10_take 225 = .ok (.aload_n 0, 1) := by decide +kernel
theorem dX10_take_226 : decode cX10_take 226 = .ok (.getfield 29, 3) := by decide +kernel
theorem dX10_take_229 : decode cX10_take 229 = .ok (.iload_n 1, 1) := by decide +kernel
theorem dX10_take_230 : decode cX10_take 230 = .ok (.iaload, 1) := by decide +kernel
theorem dX10_take_231 : decode cX10_take 231 = .ok (.iastore, 1) := by decide +kernel
theorem dX10_take_232 : decode cX10_take 232 = .ok (.iinc 3 1, 3) := by decide +kernel
theorem dX10_take_235 : decode cX10_take 235 = .ok (.goto (-49), 3) := by decide +kernel
theorem dX10_take_238 : decode cX10_take 238 = .ok (.iinc 1 1, 3) := by decide +kernel
theorem dX10_take_241 : decode cX10_take 241 = .ok (.goto (-103), 3) := by decide +kernel
theorem dX10_take_244 : decode cX10_take 244 = .ok (.return_, 1) := by decide +kernel
theorem dX10_place_0 : decode cX10_place 0 = .ok (.aload_n 0, 1) := by decide +kernel
theorem dX10_place_1 : decode cX10_place 1 = .ok (.getfield 35, 3) := by decide +kernel
theorem dX10_place_4 : decode cX10_place 4 = .ok (.ireturn, 1) := by decide +kernel
theorem dX10_told_0 : decode cX10_told 0 = .ok (.iload_n 1, 1) := by decide +kernel
theorem dX10_told_1 : decode cX10_told 1 = .ok (.tableswitch 60 0 4 #[35, 40, 45, 50, 55], 35) := by decide +kernel
theorem dX10_told_36 : decode cX10_told 36 = .ok (.aload_n 0, 1) := by decide +kernel
theorem dX10_told_37 : decode cX10_told 37 = .ok (.getfield 113, 3) := by decide +kernel
theorem dX10_told_40 : decode cX10_told 40 = .ok (.ireturn, 1) := by decide +kernel
theorem dX10_told_41 : decode cX10_told 41 = .ok (.aload_n 0, 1) := by decide +kernel
theorem dX10_told_42 : decode cX10_told 42 = .ok (.getfield 119, 3) := by decide +kernel
theorem dX10_told_45 : decode cX10_told 45 = .ok (.ireturn, 1) := by decide +kernel
theorem dX10_told_46 : decode cX10_told 46 = .ok (.aload_n 0, 1) := by decide +kernel
theorem dX10_told_47 : decode cX10_told 47 = .ok (.getfield 116, 3) := by decide +kernel
theorem dX10_told_50 : decode cX10_told 50 = .ok (.ireturn, 1) := by decide +kernel
theorem dX10_told_51 : decode cX10_told 51 = .ok (.aload_n 0, 1) := by decide +kernel
theorem dX10_told_52 : decode cX10_told 52 = .ok (.getfield 58, 3) := by decide +kernel
theorem dX10_told_55 : decode cX10_told 55 = .ok (.ireturn, 1) := by decide +kernel
theorem dX10_told_56 : decode cX10_told 56 = .ok (.aload_n 0, 1) := by decide +kernel
theorem dX10_told_57 : decode cX10_told 57 = .ok (.getfield 122, 3) := by decide +kernel
theorem dX10_told_60 : decode cX10_told 60 = .ok (.ireturn, 1) := by decide +kernel
theorem dX10_told_61 : decode cX10_told 61 = .ok (.iconst (-1), 1) := by decide +kernel
theorem dX10_told_62 : decode cX10_told 62 = .ok (.ireturn, 1) := by decide +kernel
set_option maxRecDepth 20000 in
theorem ggX10_isChunk_X10_in : GoodIn wsX10_isChunk wsX10_in := goodIn_r _ [5] (by decide +kernel) (by decide +kernel)
set_option maxRecDepth 20000 in
theorem gX10_isChunk_X10_in : GoodIn wsX10_isChunk (va_wsS RX10 44 yX10_in wsX10_in) := goodIn_app (goodIn_of _ (by decide +kernel)) ggX10_isChunk_X10_in
theorem dX10_isChunk_0 : decode cX10_isChunk 0 = .ok (.iload_n 1, 1) := by decide +kernel
theorem dX10_isChunk_1 : decode cX10_isChunk 1 = .ok (.i2l, 1) := by decide +kernel
theorem dX10_isChunk_2 : decode cX10_isChunk 2 = .ok (.lconst 0, 1) := by decide +kernel
theorem dX10_isChunk_3 : decode cX10_isChunk 3 = .ok (.aload_n 0, 1) := by decide +kernel
theorem dX10_isChunk_4 : decode cX10_isChunk 4 = .ok (.getfield 113, 3) := by decide +kernel
theorem dX10_isChunk_7 : decode cX10_isChunk 7 = .ok (.iconst 1, 1) := by decide +kernel
theorem dX10_isChunk_8 : decode cX10_isChunk 8 = .ok (.isub, 1) := by decide +kernel
theorem dX10_isChunk_9 : decode cX10_isChunk 9 = .ok (.i2l, 1) := by decide +kernel
theorem dX10_isChunk_10 : decode cX10_isChunk 10 = .ok (.invokestatic 44, 3) := by decide +kernel
theorem dX10_isChunk_13 : decode cX10_isChunk 13 = .ok (.ireturn, 1) := by decide +kernel
theorem dX10_fromOf_0 : decode cX10_fromOf 0 = .ok (.iconst 0, 1) := by decide +kernel
theorem dX10_fromOf_1 : decode cX10_fromOf 1 = .ok (.istore_n 2, 1) := by decide +kernel
theorem dX10_fromOf_2 : decode cX10_fromOf 2 = .ok (.iconst 0, 1) := by decide +kernel
theorem dX10_fromOf_3 : decode cX10_fromOf 3 = .ok (.istore_n 3, 1) := by decide +kernel
theorem dX10_fromOf_4 : decode cX10_fromOf 4 = .ok (.iload_n 3, 1) := by decide +kernel
theorem dX10_fromOf_5 : decode cX10_fromOf 5 = .ok (.iload_n 1, 1) := by decide +kernel
theorem dX10_fromOf_6 : decode cX10_fromOf 6 = .ok (.if_icmp .ge 18, 3) := by decide +kernel
theorem dX10_fromOf_9 : decode cX10_fromOf 9 = .ok (.iload_n 2, 1) := by decide +kernel
theorem dX10_fromOf_10 : decode cX10_fromOf 10 = .ok (.aload_n 0, 1) := by decide +kernel
theorem dX10_fromOf_11 : decode cX10_fromOf 11 = .ok (.getfield 19, 3) := by decide +kernel
theorem dX10_fromOf_14 : decode cX10_fromOf 14 = .ok (.iload_n 3, 1) := by decide +kernel
theorem dX10_fromOf_15 : decode cX10_fromOf 15 = .ok (.iaload, 1) := by decide +kernel
theorem dX10_fromOf_16 : decode cX10_fromOf 16 = .ok (.iadd, 1) := by decide +kernel
theorem dX10_fromOf_17 : decode cX10_fromOf 17 = .ok (.istore_n 2, 1) := by decide +kernel
theorem dX10_fromOf_18 : decode cX10_fromOf 18 = .ok (.iinc 3 1, 3) := by decide +kernel
theorem dX10_fromOf_21 : decode cX10_fromOf 21 = .ok (.goto (-17), 3) := by decide +kernel
theorem dX10_fromOf_24 : decode cX10_fromOf 24 = .ok (.iload_n 2, 1) := by decide +kernel
theorem dX10_fromOf_25 : decode cX10_fromOf 25 = .ok (.ireturn, 1) := by decide +kernel
theorem dX10_placeOf_0 : decode cX10_placeOf 0 = .ok (.bipush 24, 2) := by decide +kernel
theorem dX10_placeOf_2 : decode cX10_placeOf 2 = .ok (.bipush 12, 2) := by decide +kernel
theorem dX10_placeOf_4 : decode cX10_placeOf 4 = .ok (.aload_n 0, 1) := by decide +kernel
theorem dX10_placeOf_5 : decode cX10_placeOf 5 = .ok (.getfield 119, 3) := by decide +kernel
theorem dX10_placeOf_8 : decode cX10_placeOf 8 = .ok (.imul, 1) := by decide +kernel
theorem dX10_placeOf_9 : decode cX10_placeOf 9 = .ok (.iadd, 1) := by decide +kernel
theorem dX10_placeOf_10 : decode cX10_placeOf 10 = .ok (.istore_n 2, 1) := by decide +kernel
theorem dX10_placeOf_11 : decode cX10_placeOf 11 = .ok (.iconst 0, 1) := by decide +kernel
theorem dX10_placeOf_12 : decode cX10_placeOf 12 = .ok (.istore_n 3, 1) := by decide +kernel
theorem dX10_placeOf_13 : decode cX10_placeOf 13 = .ok (.iload_n 3, 1) := by decide +kernel
theorem dX10_placeOf_14 : decode cX10_placeOf 14 = .ok (.iload_n 1, 1) := by decide +kernel
theorem dX10_placeOf_15 : decode cX10_placeOf 15 = .ok (.if_icmp .ge 30, 3) := by decide +kernel
theorem dX10_placeOf_18 : decode cX10_placeOf 18 = .ok (.iload_n 2, 1) := by decide +kernel
theorem dX10_placeOf_19 : decode cX10_placeOf 19 = .ok (.bipush 8, 2) := by decide +kernel
theorem dX10_placeOf_21 : decode cX10_placeOf 21 = .ok (.aload_n 0, 1) := by decide +kernel
theorem dX10_placeOf_22 : decode cX10_placeOf 22 = .ok (.getfield 19, 3) := by decide +kernel
theorem dX10_placeOf_25 : decode cX10_placeOf 25 = .ok (.iload_n 3, 1) := by decide +kernel
theorem dX10_placeOf_26 : decode cX10_placeOf 26 = .ok (.iaload, 1) := by decide +kernel
theorem dX10_placeOf_27 : decode cX10_placeOf 27 = .ok (.iadd, 1) := by decide +kernel
theorem dX10_placeOf_28 : decode cX10_placeOf 28 = .ok (.aload_n 0, 1) := by decide +kernel
theorem dX10_placeOf_29 : decode cX10_placeOf 29 = .ok (.getfield 19, 3) := by decide +kernel
theorem dX10_placeOf_32 : decode cX10_placeOf 32 = .ok (.iload_n 3, 1) := by decide +kernel
theorem dX10_placeOf_33 : decode cX10_placeOf 33 = .ok (.iaload, 1) := by decide +kernel
theorem dX10_placeOf_34 : decode cX10_placeOf 34 = .ok (.iconst 2, 1) := by decide +kernel
theorem dX10_placeOf_35 : decode cX10_placeOf 35 = .ok (.irem, 1) := by decide +kernel
theorem dX10_placeOf_36 : decode cX10_placeOf 36 = .ok (.iadd, 1) := by decide +kernel
theorem dX10_placeOf_37 : decode cX10_placeOf 37 = .ok (.iadd, 1) := by decide +kernel
theorem dX10_placeOf_38 : decode cX10_placeOf 38 = .ok (.istore_n 2, 1) := by decide +kernel
theorem dX10_placeOf_39 : decode cX10_placeOf 39 = .ok (.iinc 3 1, 3) := by decide +kernel
theorem dX10_placeOf_42 : decode cX10_placeOf 42 = .ok (.goto (-29), 3) := by decide +kernel
theorem dX10_placeOf_45 : decode cX10_placeOf 45 = .ok (.iload_n 2, 1) := by decide +kernel
theorem dX10_placeOf_46 : decode cX10_placeOf 46 = .ok (.ireturn, 1) := by decide +kernel
theorem dX10_meant_0 : decode cX10_meant 0 = .ok (.iconst 0, 1) := by decide +kernel
theorem dX10_meant_1 : decode cX10_meant 1 = .ok (.istore_n 2, 1) := by decide +kernel
theorem dX10_meant_2 : decode cX10_meant 2 = .ok (.iconst 0, 1) := by decide +kernel
theorem dX10_meant_3 : decode cX10_meant 3 = .ok (.istore_n 3, 1) := by decide +kernel
theorem dX10_meant_4 : decode cX10_meant 4 = .ok (.iload_n 3, 1) := by decide +kernel
theorem dX10_meant_5 : decode cX10_meant 5 = .ok (.aload_n 0, 1) := by decide +kernel
theorem dX10_meant_6 : decode cX10_meant 6 = .ok (.getfield 119, 3) := by decide +kernel
theorem dX10_meant_9 : decode cX10_meant 9 = .ok (.if_icmp .ge 27, 3) := by decide +kernel
theorem dX10_meant_12 : decode cX10_meant 12 = .ok (.iload_n 2, 1) := by decide +kernel
theorem dX10_meant_13 : decode cX10_meant 13 = .ok (.aload_n 0, 1) := by decide +kernel
theorem dX10_meant_14 : decode cX10_meant 14 = .ok (.getfield 29, 3) := by decide +kernel
theorem dX10_meant_17 : decode cX10_meant 17 = .ok (.iload_n 3, 1) := by decide +kernel
theorem dX10_meant_18 : decode cX10_meant 18 = .ok (.iaload, 1) := by decide +kernel
theorem dX10_meant_19 : decode cX10_meant 19 = .ok (.iload_n 1, 1) := by decide +kernel
theorem dX10_meant_20 : decode cX10_meant 20 = .ok (.if_icmp .ne 7, 3) := by decide +kernel
theorem dX10_meant_23 : decode cX10_meant 23 = .ok (.iconst 1, 1) := by decide +kernel
theorem dX10_meant_24 : decode cX10_meant 24 = .ok (.goto 4, 3) := by decide +kernel
theorem dX10_meant_27 : decode cX10_meant 27 = .ok (.iconst 0, 1) := by decide +kernel
theorem dX10_meant_28 : decode cX10_meant 28 = .ok (.iadd, 1) := by decide +kernel
theorem dX10_meant_29 : decode cX10_meant 29 = .ok (.istore_n 2, 1) := by decide +kernel
theorem dX10_meant_30 : decode cX10_meant 30 = .ok (.iinc 3 1, 3) := by decide +kernel
theorem dX10_meant_33 : decode cX10_meant 33 = .ok (.goto (-29), 3) := by decide +kernel
theorem dX10_meant_36 : decode cX10_meant 36 = .ok (.iload_n 2, 1) := by decide +kernel
theorem dX10_meant_37 : decode cX10_meant 37 = .ok (.ireturn, 1) := by decide +kernel
set_option maxRecDepth 20000 in
theorem ggX10_chunk_X10_isChunk : GoodIn wsX10_chunk wsX10_isChunk := goodIn_r _ [8, 9, 10, 11, 7, 12, 23, 24, 25, 26, 27, 28, 29, 30, 31, 32, 33, 34, 35, 36, 37, 38, 39, 40] (by decide +kernel) (by decide +kernel)
set_option maxRecDepth 20000 in
theorem gX10_chunk_X10_isChunk : GoodIn wsX10_chunk (wsV RX10 125 RX10 yX10_isChunk wsX10_isChunk) := goodIn_app (goodIn_of _ (by decide +kernel)) ggX10_chunk_X10_isChunk
set_option maxRecDepth 20000 in
theorem ggX10_chunk_X10_in : GoodIn wsX10_chunk wsX10_in := goodIn_r _ [12] (by decide +kernel) (by decide +kernel)
set_option maxRecDepth 20000 in
theorem gX10_chunk_X10_in : GoodIn wsX10_chunk (va_wsS RX10 44 yX10_in wsX10_in) := goodIn_app (goodIn_of _ (by decide +kernel)) ggX10_chunk_X10_in
set_option maxRecDepth 20000 in
theorem ggX10_chunk_X10_placeOf : GoodIn wsX10_chunk wsX10_placeOf := goodIn_r _ [16, 17, 3, 23, 24, 25, 26, 27, 28, 29, 30, 31, 32, 33, 34, 35, 36, 37, 38, 39, 40] (by decide +kernel) (by decide +kernel)
set_option maxRecDepth 20000 in
theorem gX10_chunk_X10_placeOf : GoodIn wsX10_chunk (wsV RX10 130 RX10 yX10_placeOf wsX10_placeOf) := goodIn_app (goodIn_of _ (by decide +kernel)) ggX10_chunk_X10_placeOf
set_option maxRecDepth 20000 in
theorem ggX10_chunk_X10_meant : GoodIn wsX10_chunk wsX10_meant := goodIn_r _ [21, 17, 22, 23, 24, 25, 26, 27, 28, 29, 30, 31, 32, 33, 34, 35, 36, 37, 38, 39, 40] (by decide +kernel) (by decide +kernel)
set_option maxRecDepth 20000 in
theorem gX10_chunk_X10_meant : GoodIn wsX10_chunk (wsV RX10 133 RX10 yX10_meant wsX10_meant) := goodIn_app (goodIn_of _ (by decide +kernel)) ggX10_chunk_X10_meant
theorem dX10_chunk_0 : decode cX10_chunk 0 = .ok (.aload_n 0, 1) := by decide +kernel
theorem dX10_chunk_1 : decode cX10_chunk 1 = .ok (.iload_n 1, 1) := by decide +kernel
theorem dX10_chunk_2 : decode cX10_chunk 2 = .ok (.invokevirtual 125, 3) := by decide +kernel
theorem dX10_chunk_5 : decode cX10_chunk 5 = .ok (.ifCond .eq 15, 3) := by decide +kernel
theorem dX10_chunk_8 : decode cX10_chunk 8 = .ok (.iload_n 2, 1) := by decide +kernel
theorem dX10_chunk_9 : decode cX10_chunk 9 = .ok (.i2l, 1) := by decide +kernel
theorem dX10_chunk_10 : decode cX10_chunk 10 = .ok (.lconst 0, 1) := by decide +kernel
theorem dX10_chunk_11 : decode cX10_chunk 11 = .ok (.ldc2_w 128, 3) := by decide +kernel
theorem dX10_chunk_14 : decode cX10_chunk 14 = .ok (.invokestatic 44, 3) := by decide +kernel
theorem dX10_chunk_17 : decode cX10_chunk 17 = .ok (.ifCond .ne 5, 3) := by decide +kernel
theorem dX10_chunk_20 : decode cX10_chunk 20 = .ok (.iconst (-1), 1) := by decide +kernel
theorem dX10_chunk_21 : decode cX10_chunk 21 = .ok (.ireturn, 1) := by decide +kernel
theorem dX10_chunk_22 : decode cX10_chunk 22 = .ok (.iload_n 2, 1) := by decide +kernel
theorem dX10_chunk_23 : decode cX10_chunk 23 = .ok (.ifCond .ne 12, 3) := by decide +kernel
theorem dX10_chunk_26 : decode cX10_chunk 26 = .ok (.aload_n 0, 1) := by decide +kernel
theorem dX10_chunk_27 : decode cX10_chunk 27 = .ok (.getfield 16, 3) := by decide +kernel
theorem dX10_chunk_30 : decode cX10_chunk 30 = .ok (.iload_n 1, 1) := by decide +kernel
theorem dX10_chunk_31 : decode cX10_chunk 31 = .ok (.iaload, 1) := by decide +kernel
theorem dX10_chunk_32 : decode cX10_chunk 32 = .ok (.goto 35, 3) := by decide +kernel
theorem dX10_chunk_35 : decode cX10_chunk 35 = .ok (.iload_n 2, 1) := by decide +kernel
theorem dX10_chunk_36 : decode cX10_chunk 36 = .ok (.iconst 1, 1) := by decide +kernel
theorem dX10_chunk_37 : decode cX10_chunk 37 = .ok (.if_icmp .ne 12, 3) := by decide +kernel
theorem dX10_chunk_40 : decode cX10_chunk 40 = .ok (.aload_n 0, 1) := by decide +kernel
theorem dX10_chunk_41 : decode cX10_chunk 41 = .ok (.getfield 19, 3) := by decide +kernel
theorem dX10_chunk_44 : decode cX10_chunk 44 = .ok (.iload_n 1, 1) := by decide +kernel
theorem dX10_chunk_45 : decode cX10_chunk 45 = .ok (.iaload, 1) := by decide +kernel
theorem dX10_chunk_46 : decode cX10_chunk 46 = .ok (.goto 21, 3) := by decide +kernel
theorem dX10_chunk_49 : decode cX10_chunk 49 = .ok (.iload_n 2, 1) := by decide +kernel
theorem dX10_chunk_50 : decode cX10_chunk 50 = .ok (.iconst 2, 1) := by decide +kernel
theorem dX10_chunk_51 : decode cX10_chunk 51 = .ok (.if_icmp .ne 11, 3) := by decide +kernel
theorem dX10_chunk_54 : decode cX10_chunk 54 = .ok (.aload_n 0, 1) := by decide +kernel
theorem dX10_chunk_55 : decode cX10_chunk 55 = .ok (.iload_n 1, 1) := by decide +kernel
theorem dX10_chunk_56 : decode cX10_chunk 56 = .ok (.invokevirtual 130, 3) := by decide +kernel
theorem dX10_chunk_59 : decode cX10_chunk 59 = .ok (.goto 8, 3) := by decide +kernel
theorem dX10_chunk_62 : decode cX10_chunk 62 = .ok (.aload_n 0, 1) := by decide +kernel
theorem dX10_chunk_63 : decode cX10_chunk 63 = .ok (.iload_n 1, 1) := by decide +kernel
theorem dX10_chunk_64 : decode cX10_chunk 64 = .ok (.invokevirtual 133, 3) := by decide +kernel
theorem dX10_chunk_67 : decode cX10_chunk 67 = .ok (.ireturn, 1) := by decide +kernel
set_option maxRecDepth 20000 in
theorem ggX10_octet_X10_isChunk : GoodIn wsX10_octet wsX10_isChunk := goodIn_r _ [7, 8, 9, 10, 6, 11, 16, 17, 18, 19, 20, 21, 22, 23, 24, 25, 26, 27, 28, 29, 30, 31, 32, 33] (by decide +kernel) (by decide +kernel)
set_option maxRecDepth 20000 in
theorem gX10_octet_X10_isChunk : GoodIn wsX10_octet (wsV RX10 125 RX10 yX10_isChunk wsX10_isChunk) := goodIn_app (goodIn_of _ (by decide +kernel)) ggX10_octet_X10_isChunk
set_option maxRecDepth 20000 in
theorem ggX10_octet_X10_in : GoodIn wsX10_octet wsX10_in := goodIn_r _ [11] (by decide +kernel) (by decide +kernel)
set_option maxRecDepth 20000 in
theorem gX10_octet_X10_in : GoodIn wsX10_octet (va_wsS RX10 44 yX10_in wsX10_in) := goodIn_app (goodIn_of _ (by decide +kernel)) ggX10_octet_X10_in
set_option maxRecDepth 20000 in
theorem ggX10_octet_X10_fromOf : GoodIn wsX10_octet wsX10_fromOf := goodIn_r _ [15, 1, 16, 17, 18, 19, 20, 21, 22, 23, 24, 25, 26, 27, 28, 29, 30, 31, 32, 33] (by decide +kernel) (by decide +kernel)
set_option maxRecDepth 20000 in
theorem gX10_octet_X10_fromOf : GoodIn wsX10_octet (wsV RX10 136 RX10 yX10_fromOf wsX10_fromOf) := goodIn_app (goodIn_of _ (by decide +kernel)) ggX10_octet_X10_fromOf
theorem dX10_octet_0 : decode cX10_octet 0 = .ok (.aload_n 0, 1) := by decide +kernel
theorem dX10_octet_1 : decode cX10_octet 1 = .ok (.iload_n 1, 1) := by decide +kernel
theorem dX10_octet_2 : decode cX10_octet 2 = .ok (.invokevirtual 125, 3) := by decide +kernel
theorem dX10_octet_5 : decode cX10_octet 5 = .ok (.ifCond .eq 36, 3) := by decide +kernel
theorem dX10_octet_8 : decode cX10_octet 8 = .ok (.iload_n 2, 1) := by decide +kernel
theorem dX10_octet_9 : decode cX10_octet 9 = .ok (.i2l, 1) := by decide +kernel
theorem dX10_octet_10 : decode cX10_octet 10 = .ok (.lconst 0, 1) := by decide +kernel
theorem dX10_octet_11 : decode cX10_octet 11 = .ok (.aload_n 0, 1) := by decide +kernel
theorem dX10_octet_12 : decode cX10_octet 12 = .ok (.getfield 19, 3) := by decide +kernel
theorem dX10_octet_15 : decode cX10_octet 15 = .ok (.iload_n 1, 1) := by decide +kernel
theorem dX10_octet_16 : decode cX10_octet 16 = .ok (.iaload, 1) := by decide +kernel
theorem dX10_octet_17 : decode cX10_octet 17 = .ok (.iconst 1, 1) := by decide +kernel
theorem dX10_octet_18 : decode cX10_octet 18 = .ok (.isub, 1) := by decide +kernel
theorem dX10_octet_19 : decode cX10_octet 19 = .ok (.i2l, 1) := by decide +kernel
theorem dX10_octet_20 : decode cX10_octet 20 = .ok (.invokestatic 44, 3) := by decide +kernel
theorem dX10_octet_23 : decode cX10_octet 23 = .ok (.ifCond .eq 18, 3) := by decide +kernel
theorem dX10_octet_26 : decode cX10_octet 26 = .ok (.aload_n 0, 1) := by decide +kernel
theorem dX10_octet_27 : decode cX10_octet 27 = .ok (.getfield 13, 3) := by decide +kernel
theorem dX10_octet_30 : decode cX10_octet 30 = .ok (.aload_n 0, 1) := by decide +kernel
theorem dX10_octet_31 : decode cX10_octet 31 = .ok (.iload_n 1, 1) := by decide +kernel
theorem dX10_octet_32 : decode cX10_octet 32 = .ok (.invokevirtual 136, 3) := by decide +kernel
theorem dX10_octet_35 : decode cX10_octet 35 = .ok (.iload_n 2, 1) := by decide +kernel
theorem dX10_octet_36 : decode cX10_octet 36 = .ok (.iadd, 1) := by decide +kernel
theorem dX10_octet_37 : decode cX10_octet 37 = .ok (.iaload, 1) := by decide +kernel
theorem dX10_octet_38 : decode cX10_octet 38 = .ok (.goto 4, 3) := by decide +kernel
theorem dX10_octet_41 : decode cX10_octet 41 = .ok (.iconst (-1), 1) := by decide +kernel
theorem dX10_octet_42 : decode cX10_octet 42 = .ok (.ireturn, 1) := by decide +kernel
set_option maxRecDepth 20000 in
theorem ggX10_goes_X10_fromOf : GoodIn wsX10_goes wsX10_fromOf := goodIn_r _ [23, 8, 27, 28, 29, 30, 31, 32, 33, 34, 35, 36, 37, 38, 39, 40, 41, 42, 43, 44] (by decide +kernel) (by decide +kernel)
set_option maxRecDepth 20000 in
theorem gX10_goes_X10_fromOf : GoodIn wsX10_goes (wsV RX10 136 RX10 yX10_fromOf wsX10_fromOf) := goodIn_app (goodIn_of _ (by decide +kernel)) ggX10_goes_X10_fromOf
set_option maxRecDepth 20000 in
theorem ggX10_goes_X10_kindIn : GoodIn wsX10_goes wsX10_kindIn := goodIn_r _ [26] (by decide +kernel) (by decide +kernel)
set_option maxRecDepth 20000 in
theorem gX10_goes_X10_kindIn : GoodIn wsX10_goes (va_wsS RX10 63 yX10_kindIn wsX10_kindIn) := goodIn_app (goodIn_of _ (by decide +kernel)) ggX10_goes_X10_kindIn
theorem dX10_goes_0 : decode cX10_goes 0 = .ok (.aload_n 0, 1) := by decide +kernel
theorem dX10_goes_1 : decode cX10_goes 1 = .ok (.getfield 16, 3) := by decide +kernel
theorem dX10_goes_4 : decode cX10_goes 4 = .ok (.iload_n 2, 1) := by decide +kernel
theorem dX10_goes_5 : decode cX10_goes 5 = .ok (.iaload, 1) := by decide +kernel
theorem dX10_goes_6 : decode cX10_goes 6 = .ok (.istore_n 3, 1) := by decide +kernel
theorem dX10_goes_7 : decode cX10_goes 7 = .ok (.iload_n 1, 1) := by decide +kernel
theorem dX10_goes_8 : decode cX10_goes 8 = .ok (.ldc 48, 2) := by decide +kernel
theorem dX10_goes_10 : decode cX10_goes 10 = .ok (.if_icmp .ne 27, 3) := by decide +kernel
theorem dX10_goes_13 : decode cX10_goes 13 = .ok (.iload_n 3, 1) := by decide +kernel
theorem dX10_goes_14 : decode cX10_goes 14 = .ok (.ldc 139, 2) := by decide +kernel
theorem dX10_goes_16 : decode cX10_goes 16 = .ok (.if_icmp .eq 15, 3) := by decide +kernel
theorem dX10_goes_19 : decode cX10_goes 19 = .ok (.iload_n 3, 1) := by decide +kernel
theorem dX10_goes_20 : decode cX10_goes 20 = .ok (.ldc 140, 2) := by decide +kernel
theorem dX10_goes_22 : decode cX10_goes 22 = .ok (.if_icmp .eq 9, 3) := by decide +kernel
theorem dX10_goes_25 : decode cX10_goes 25 = .ok (.iload_n 3, 1) := by decide +kernel
theorem dX10_goes_26 : decode cX10_goes 26 = .ok (.ldc 141, 2) := by decide +kernel
theorem dX10_goes_28 : decode cX10_goes 28 = .ok (.if_icmp .ne 7, 3) := by decide +kernel
theorem dX10_goes_31 : decode cX10_goes 31 = .ok (.iconst 1, 1) := by decide +kernel
theorem dX10_goes_32 : decode cX10_goes 32 = .ok (.goto 4, 3) := by decide +kernel
theorem dX10_goes_35 : decode cX10_goes 35 = .ok (.iconst 0, 1) := by decide +kernel
theorem dX10_goes_36 : decode cX10_goes 36 = .ok (.ireturn, 1) := by decide +kernel
theorem dX10_goes_37 : decode cX10_goes 37 = .ok (.iload_n 1, 1) := by decide +kernel
theorem dX10_goes_38 : decode cX10_goes 38 = .ok (.ldc 49, 2) := by decide +kernel
theorem dX10_goes_40 : decode cX10_goes 40 = .ok (.if_icmp .ne 60, 3) := by decide +kernel
theorem dX10_goes_43 : decode cX10_goes 43 = .ok (.iload_n 3, 1) := by decide +kernel
theorem dX10_goes_44 : decode cX10_goes 44 = .ok (.ldc 74, 2) := by decide +kernel
theorem dX10_goes_46 : decode cX10_goes 46 = .ok (.if_icmp .ne 30, 3) := by decide +kernel
theorem dX10_goes_49 : decode cX10_goes 49 = .ok (.aload_n 0, 1) := by decide +kernel
theorem dX10_goes_50 : decode cX10_goes 50 = .ok (.getfield 19, 3) := by decide +kernel
theorem dX10_goes_53 : decode cX10_goes 53 = .ok (.iload_n 2, 1) := by decide +kernel
theorem dX10_goes_54 : decode cX10_goes 54 = .ok (.iaload, 1) := by decide +kernel
theorem dX10_goes_55 : decode cX10_goes 55 = .ok (.iconst 4, 1) := by decide +kernel
theorem dX10_goes_56 : decode cX10_goes 56 = .ok (.if_icmp .lt 20, 3) := by decide +kernel
theorem dX10_goes_59 : decode cX10_goes 59 = .ok (.aload_n 0, 1) := by decide +kernel
theorem dX10_goes_60 : decode cX10_goes 60 = .ok (.getfield 13, 3) := by decide +kernel
theorem dX10_goes_63 : decode cX10_goes 63 = .ok (.aload_n 0, 1) := by decide +kernel
theorem dX10_goes_64 : decode cX10_goes 64 = .ok (.iload_n 2, 1) := by decide +kernel
theorem dX10_goes_65 : decode cX10_goes 65 = .ok (.invokevirtual 136, 3) := by decide +kernel
theorem dX10_goes_68 : decode cX10_goes 68 = .ok (.invokestatic 63, 3) := by decide +kernel
theorem dX10_goes_71 : decode cX10_goes 71 = .ok (.ldc 142, 2) := by decide +kernel
theorem dX10_goes_73 : decode cX10_goes 73 = .ok (.if_icmp .eq 21, 3) := by decide +kernel
theorem dX10_goes_76 : decode cX10_goes 76 = .ok (.iload_n 3, 1) := by decide +kernel
theorem dX10_goes_77 : decode cX10_goes 77 = .ok (.ldc 143, 2) := by decide +kernel
theorem dX10_goes_79 : decode cX10_goes 79 = .ok (.if_icmp .eq 15, 3) := by decide +kernel
theorem dX10_goes_82 : decode cX10_goes 82 = .ok (.iload_n 3, 1) := by decide +kernel
theorem dX10_goes_83 : decode cX10_goes 83 = .ok (.ldc 144, 2) := by decide +kernel
theorem dX10_goes_85 : decode cX10_goes 85 = .ok (.if_icmp .eq 9, 3) := by decide +kernel
theorem dX10_goes_88 : decode cX10_goes 88 = .ok (.iload_n 3, 1) := by decide +kernel
theorem dX10_goes_89 : decode cX10_goes 89 = .ok (.ldc 145, 2) := by decide +kernel
theorem dX10_goes_91 : decode cX10_goes 91 = .ok (.if_icmp .ne 7, 3) := by decide +kernel
theorem dX10_goes_94 : decode cX10_goes 94 = .ok (.iconst 1, 1) := by decide +kernel
theorem dX10_goes_95 : decode cX10_goes 95 = .ok (.goto 4, 3) := by decide +kernel
theorem dX10_goes_98 : decode cX10_goes 98 = .ok (.iconst 0, 1) := by decide +kernel
theorem dX10_goes_99 : decode cX10_goes 99 = .ok (.ireturn, 1) := by decide +kernel
theorem dX10_goes_100 : decode cX10_goes 100 = .ok (.iload_n 1, 1) := by decide +kernel
theorem dX10_goes_101 : decode cX10_goes 101 = .ok (.ldc 50, 2) := by decide +kernel
theorem dX10_goes_103 : decode cX10_goes 103 = .ok (.if_icmp .ne 29, 3) := by decide +kernel
theorem dX10_goes_106 : decode cX10_goes 106 = .ok (.iload_n 3, 1) := by decide +kernel
theorem dX10_goes_107 : decode cX10_goes 107 = .ok (.ldc 146, 2) := by decide +kernel
theorem dX10_goes_109 : decode cX10_goes 109 = .ok (.if_icmp .eq 15, 3) := by decide +kernel
theorem dX10_goes_112 : decode cX10_goes 112 = .ok (.iload_n 3, 1) := by decide +kernel
theorem dX10_goes_113 : decode cX10_goes 113 = .ok (.ldc 147, 2) := by decide +kernel
theorem dX10_goes_115 : decode cX10_goes 115 = .ok (.if_icmp .eq 9, 3) := by decide +kernel
theorem dX10_goes_118 : decode cX10_goes 118 = .ok (.iload_n 3, 1) := by decide +kernel
theorem dX10_goes_119 : decode cX10_goes 119 = .ok (.ldc 74, 2) := by decide +kernel
theorem dX10_goes_121 : decode cX10_goes 121 = .ok (.if_icmp .ne 7, 3) := by decide +kernel
theorem dX10_goes_124 : decode cX10_goes 124 = .ok (.iconst 1, 1) := by decide +kernel
theorem dX10_goes_125 : decode cX10_goes 125 = .ok (.goto 24, 3) := by decide +kernel
theorem dX10_goes_128 : decode cX10_goes 128 = .ok (.iconst 0, 1) := by decide +kernel
theorem dX10_goes_129 : decode cX10_goes 129 = .ok (.goto 20, 3) := by decide +kernel
theorem dX10_goes_132 : decode cX10_goes 132 = .ok (.iload_n 3, 1) := by decide +kernel
theorem dX10_goes_133 : decode cX10_goes 133 = .ok (.ldc 148, 2) := by decide +kernel
theorem dX10_goes_135 : decode cX10_goes 135 = .ok (.if_icmp .eq 9, 3) := by decide +kernel
theorem dX10_goes_138 : decode cX10_goes 138 = .ok (.iload_n 3, 1) := by decide +kernel
theorem dX10_goes_139 : decode cX10_goes 139 = .ok (.ldc 149, 2) := by decide +kernel
theorem dX10_goes_141 : decode cX10_goes 141 = .ok (.if_icmp .ne 7, 3) := by decide +kernel
theorem dX10_goes_144 : decode cX10_goes 144 = .ok (.iconst 1, 1) := by decide +kernel
theorem dX10_goes_145 : decode cX10_goes 145 = .ok (.goto 4, 3) := by decide +kernel
theorem dX10_goes_148 : decode cX10_goes 148 = .ok (.iconst 0, 1) := by decide +kernel
theorem dX10_goes_149 : decode cX10_goes 149 = .ok (.ireturn, 1) := by decide +kernel
set_option maxRecDepth 20000 in
theorem ggX10_entry_X10_in : GoodIn wsX10_entry wsX10_in := goodIn_r _ [10] (by decide +kernel) (by decide +kernel)
set_option maxRecDepth 20000 in
theorem gX10_entry_X10_in : GoodIn wsX10_entry (va_wsS RX10 44 yX10_in wsX10_in) := goodIn_app (goodIn_of _ (by decide +kernel)) ggX10_entry_X10_in
set_option maxRecDepth 20000 in
theorem ggX10_entry_X10_goes : GoodIn wsX10_entry wsX10_goes := goodIn_r _ [14, 15, 16, 17, 18, 19, 20, 21, 22, 23, 24, 25, 26, 27, 28, 29, 30, 31, 32, 33, 34, 35, 9, 36, 37, 38, 39, 40, 41, 42, 43, 44, 45, 46, 47, 48, 49, 50, 51, 52, 53, 54, 55, 56, 57] (by decide +kernel) (by decide +kernel)
set_option maxRecDepth 20000 in
theorem gX10_entry_X10_goes : GoodIn wsX10_entry (wsV RX10 152 RX10 yX10_goes wsX10_goes) := goodIn_app (goodIn_of _ (by decide +kernel)) ggX10_entry_X10_goes
theorem dX10_entry_0 : decode cX10_entry 0 = .ok (.iload_n 1, 1) := by decide +kernel
theorem dX10_entry_1 : decode cX10_entry 1 = .ok (.i2l, 1) := by decide +kernel
theorem dX10_entry_2 : decode cX10_entry 2 = .ok (.lconst 0, 1) := by decide +kernel
theorem dX10_entry_3 : decode cX10_entry 3 = .ok (.aload_n 0, 1) := by decide +kernel
theorem dX10_entry_4 : decode cX10_entry 4 = .ok (.getfield 119, 3) := by decide +kernel
theorem dX10_entry_7 : decode cX10_entry 7 = .ok (.iconst 1, 1) := by decide +kernel
theorem dX10_entry_8 : decode cX10_entry 8 = .ok (.isub, 1) := by decide +kernel
theorem dX10_entry_9 : decode cX10_entry 9 = .ok (.i2l, 1) := by decide +kernel
theorem dX10_entry_10 : decode cX10_entry 10 = .ok (.invokestatic 44, 3) := by decide +kernel
theorem dX10_entry_13 : decode cX10_entry 13 = .ok (.ifCond .eq 15, 3) := by decide +kernel
theorem dX10_entry_16 : decode cX10_entry 16 = .ok (.iload_n 2, 1) := by decide +kernel
theorem dX10_entry_17 : decode cX10_entry 17 = .ok (.i2l, 1) := by decide +kernel
theorem dX10_entry_18 : decode cX10_entry 18 = .ok (.lconst 0, 1) := by decide +kernel
theorem dX10_entry_19 : decode cX10_entry 19 = .ok (.ldc2_w 128, 3) := by decide +kernel
theorem dX10_entry_22 : decode cX10_entry 22 = .ok (.invokestatic 44, 3) := by decide +kernel
theorem dX10_entry_25 : decode cX10_entry 25 = .ok (.ifCond .ne 7, 3) := by decide +kernel
theorem dX10_entry_28 : decode cX10_entry 28 = .ok (.ldc2_w 150, 3) := by decide +kernel
theorem dX10_entry_31 : decode cX10_entry 31 = .ok (.lreturn, 1) := by decide +kernel
theorem dX10_entry_32 : decode cX10_entry 32 = .ok (.iload_n 2, 1) := by decide +kernel
theorem dX10_entry_33 : decode cX10_entry 33 = .ok (.ifCond .ne 13, 3) := by decide +kernel
theorem dX10_entry_36 : decode cX10_entry 36 = .ok (.aload_n 0, 1) := by decide +kernel
theorem dX10_entry_37 : decode cX10_entry 37 = .ok (.getfield 22, 3) := by decide +kernel
theorem dX10_entry_40 : decode cX10_entry 40 = .ok (.iload_n 1, 1) := by decide +kernel
theorem dX10_entry_41 : decode cX10_entry 41 = .ok (.iaload, 1) := by decide +kernel
theorem dX10_entry_42 : decode cX10_entry 42 = .ok (.i2l, 1) := by decide +kernel
theorem dX10_entry_43 : decode cX10_entry 43 = .ok (.goto 56, 3) := by decide +kernel
theorem dX10_entry_46 : decode cX10_entry 46 = .ok (.iload_n 2, 1) := by decide +kernel
theorem dX10_entry_47 : decode cX10_entry 47 = .ok (.iconst 1, 1) := by decide +kernel
theorem dX10_entry_48 : decode cX10_entry 48 = .ok (.if_icmp .ne 12, 3) := by decide +kernel
theorem dX10_entry_51 : decode cX10_entry 51 = .ok (.aload_n 0, 1) := by decide +kernel
theorem dX10_entry_52 : decode cX10_entry 52 = .ok (.getfield 25, 3) := by decide +kernel
theorem dX10_entry_55 : decode cX10_entry 55 = .ok (.iload_n 1, 1) := by decide +kernel
theorem dX10_entry_56 : decode cX10_entry 56 = .ok (.laload, 1) := by decide +kernel
theorem dX10_entry_57 : decode cX10_entry 57 = .ok (.goto 42, 3) := by decide +kernel
theorem dX10_entry_60 : decode cX10_entry 60 = .ok (.iload_n 2, 1) := by decide +kernel
theorem dX10_entry_61 : decode cX10_entry 61 = .ok (.iconst 2, 1) := by decide +kernel
theorem dX10_entry_62 : decode cX10_entry 62 = .ok (.if_icmp .ne 13, 3) := by decide +kernel
theorem dX10_entry_65 : decode cX10_entry 65 = .ok (.aload_n 0, 1) := by decide +kernel
theorem dX10_entry_66 : decode cX10_entry 66 = .ok (.getfield 29, 3) := by decide +kernel
theorem dX10_entry_69 : decode cX10_entry 69 = .ok (.iload_n 1, 1) := by decide +kernel
theorem dX10_entry_70 : decode cX10_entry 70 = .ok (.iaload, 1) := by decide +kernel
theorem dX10_entry_71 : decode cX10_entry 71 = .ok (.i2l, 1) := by decide +kernel
theorem dX10_entry_72 : decode cX10_entry 72 = .ok (.goto 27, 3) := by decide +kernel
theorem dX10_entry_75 : decode cX10_entry 75 = .ok (.aload_n 0, 1) := by decide +kernel
theorem dX10_entry_76 : decode cX10_entry 76 = .ok (.aload_n 0, 1) := by decide +kernel
theorem dX10_entry_77 : decode cX10_entry 77 = .ok (.getfield 22, 3) := by decide +kernel
theorem dX10_entry_80 : decode cX10_entry 80 = .ok (.iload_n 1, 1) := by decide +kernel
theorem dX10_entry_81 : decode cX10_entry 81 = .ok (.iaload, 1) := by decide +kernel
theorem dX10_entry_82 : decode cX10_entry 82 = .ok (.aload_n 0, 1) := by decide +kernel
theorem dX10_entry_83 : decode cX10_entry 83 = .ok (.getfield 29, 3) := by decide +kernel
theorem dX10_entry_86 : decode cX10_entry 86 = .ok (.iload_n 1, 1) := by decide +kernel
theorem dX10_entry_87 : decode cX10_entry 87 = .ok (.iaload, 1) := by decide +kernel
theorem dX10_entry_88 : decode cX10_entry 88 = .ok (.invokevirtual 152, 3) := by decide +kernel
theorem dX10_entry_91 : decode cX10_entry 91 = .ok (.ifCond .eq 7, 3) := by decide +kernel
theorem dX10_entry_94 : decode cX10_entry 94 = .ok (.lconst 1, 1) := by decide +kernel
theorem dX10_entry_95 : decode cX10_entry 95 = .ok (.goto 4, 3) := by decide +kernel
theorem dX10_entry_98 : decode cX10_entry 98 = .ok (.lconst 0, 1) := by decide +kernel
theorem dX10_entry_99 : decode cX10_entry 99 = .ok (.lreturn, 1) := by decide +kernel
theorem dX10_entryFor_0 : decode cX10_entryFor 0 = .ok (.bipush (-2), 2) := by decide +kernel
theorem dX10_entryFor_2 : decode cX10_entryFor 2 = .ok (.istore 4, 2) := by decide +kernel
theorem dX10_entryFor_4 : decode cX10_entryFor 4 = .ok (.iconst 0, 1) := by decide +kernel
theorem dX10_entryFor_5 : decode cX10_entryFor 5 = .ok (.istore 5, 2) := by decide +kernel
theorem dX10_entryFor_7 : decode cX10_entryFor 7 = .ok (.iload 5, 2) := by decide +kernel
theorem dX10_entryFor_9 : decode cX10_entryFor 9 = .ok (.aload_n 0, 1) := by decide +kernel
theorem dX10_entryFor_10 : decode cX10_entryFor 10 = .ok (.getfield 119, 3) := by decide +kernel
theorem dX10_entryFor_13 : decode cX10_entryFor 13 = .ok (.if_icmp .ge 41, 3) := by decide +kernel
theorem dX10_entryFor_16 : decode cX10_entryFor 16 = .ok (.aload_n 0, 1) := by decide +kernel
theorem dX10_entryFor_17 : decode cX10_entryFor 17 = .ok (.getfield 22, 3) := by decide +kernel
theorem dX10_entryFor_20 : decode cX10_entryFor 20 = .ok (.iload 5, 2) := by decide +kernel
theorem dX10_entryFor_22 : decode cX10_entryFor 22 = .ok (.iaload, 1) := by decide +kernel
theorem dX10_entryFor_23 : decode cX10_entryFor 23 = .ok (.iload_n 1, 1) := by decide +kernel
theorem dX10_entryFor_24 : decode cX10_entryFor 24 = .ok (.if_icmp .ne 20, 3) := by decide +kernel
theorem dX10_entryFor_27 : decode cX10_entryFor 27 = .ok (.aload_n 0, 1) := by decide +kernel
theorem dX10_entryFor_28 : decode cX10_entryFor 28 = .ok (.getfield 25, 3) := by decide +kernel
theorem dX10_entryFor_31 : decode cX10_entryFor 31 = .ok (.iload 5, 2) := by decide +kernel
theorem dX10_entryFor_33 : decode cX10_entryFor 33 = .ok (.laload, 1) := by decide +kernel
theorem dX10_entryFor_34 : decode cX10_entryFor 34 = .ok (.lload_n 2, 1) := by decide +kernel
theorem dX10_entryFor_35 : decode cX10_entryFor 35 = .ok (.lcmp, 1) := by decide +kernel
theorem dX10_entryFor_36 : decode cX10_entryFor 36 = .ok (.ifCond .ne 8, 3) := by decide +kernel
theorem dX10_entryFor_39 : decode cX10_entryFor 39 = .ok (.iload 5, 2) := by decide +kernel
theorem dX10_entryFor_41 : decode cX10_entryFor 41 = .ok (.goto 5, 3) := by decide +kernel
theorem dX10_entryFor_44 : decode cX10_entryFor 44 = .ok (.iload 4, 2) := by decide +kernel
theorem dX10_entryFor_46 : decode cX10_entryFor 46 = .ok (.istore 4, 2) := by decide +kernel
theorem dX10_entryFor_48 : decode cX10_entryFor 48 = .ok (.iinc 5 1, 3) := by decide +kernel
theorem dX10_entryFor_51 : decode cX10_entryFor 51 = .ok (.goto (-44), 3) := by decide +kernel
theorem dX10_entryFor_54 : decode cX10_entryFor 54 = .ok (.iload 4, 2) := by decide +kernel
theorem dX10_entryFor_56 : decode cX10_entryFor 56 = .ok (.ireturn, 1) := by decide +kernel
set_option maxRecDepth 20000 in
theorem ggX10_find_X10_isUse : GoodIn wsX10_find wsX10_isUse := goodIn_r _ [5, 6, 7, 8, 9] (by decide +kernel) (by decide +kernel)
set_option maxRecDepth 20000 in
theorem gX10_find_X10_isUse : GoodIn wsX10_find (va_wsS RX10 104 yX10_isUse wsX10_isUse) := goodIn_app (goodIn_of _ (by decide +kernel)) ggX10_find_X10_isUse
set_option maxRecDepth 20000 in
theorem ggX10_find_X10_isNumber : GoodIn wsX10_find wsX10_isNumber := goodIn_r _ [12, 13, 14, 15, 4, 16] (by decide +kernel) (by decide +kernel)
set_option maxRecDepth 20000 in
theorem gX10_find_X10_isNumber : GoodIn wsX10_find (va_wsS RX10 156 yX10_isNumber wsX10_isNumber) := goodIn_app (goodIn_of _ (by decide +kernel)) ggX10_find_X10_isNumber
set_option maxRecDepth 20000 in
theorem ggX10_find_X10_entryFor : GoodIn wsX10_find wsX10_entryFor := goodIn_r _ [20, 21, 22, 23, 24, 25, 26, 27, 28, 29, 30, 31, 32, 33, 34, 35, 36, 37, 38, 39, 40, 41] (by decide +kernel) (by decide +kernel)
set_option maxRecDepth 20000 in
theorem gX10_find_X10_entryFor : GoodIn wsX10_find (wsV RX10 160 RX10 yX10_entryFor wsX10_entryFor) := goodIn_app (goodIn_of _ (by decide +kernel)) ggX10_find_X10_entryFor
theorem dX10_find_0 : decode cX10_find 0 = .ok (.iload_n 1, 1) := by decide +kernel
theorem dX10_find_1 : decode cX10_find 1 = .ok (.invokestatic 104, 3) := by decide +kernel
theorem dX10_find_4 : decode cX10_find 4 = .ok (.ifCond .eq 10, 3) := by decide +kernel
theorem dX10_find_7 : decode cX10_find 7 = .ok (.lload_n 2, 1) := by decide +kernel
theorem dX10_find_8 : decode cX10_find 8 = .ok (.invokestatic 156, 3) := by decide +kernel
theorem dX10_find_11 : decode cX10_find 11 = .ok (.ifCond .ne 5, 3) := by decide +kernel
theorem dX10_find_14 : decode cX10_find 14 = .ok (.iconst (-1), 1) := by decide +kernel
theorem dX10_find_15 : decode cX10_find 15 = .ok (.ireturn, 1) := by decide +kernel
theorem dX10_find_16 : decode cX10_find 16 = .ok (.aload_n 0, 1) := by decide +kernel
theorem dX10_find_17 : decode cX10_find 17 = .ok (.iload_n 1, 1) := by decide +kernel
theorem dX10_find_18 : decode cX10_find 18 = .ok (.lload_n 2, 1) := by decide +kernel
theorem dX10_find_19 : decode cX10_find 19 = .ok (.invokevirtual 160, 3) := by decide +kernel
theorem dX10_find_22 : decode cX10_find 22 = .ok (.istore 4, 2) := by decide +kernel
theorem dX10_find_24 : decode cX10_find 24 = .ok (.iload 4, 2) := by decide +kernel
theorem dX10_find_26 : decode cX10_find 26 = .ok (.bipush (-2), 2) := by decide +kernel
theorem dX10_find_28 : decode cX10_find 28 = .ok (.if_icmp .ne 8, 3) := by decide +kernel
theorem dX10_find_31 : decode cX10_find 31 = .ok (.bipush (-2), 2) := by decide +kernel
theorem dX10_find_33 : decode cX10_find 33 = .ok (.goto 10, 3) := by decide +kernel
theorem dX10_find_36 : decode cX10_find 36 = .ok (.aload_n 0, 1) := by decide +kernel
theorem dX10_find_37 : decode cX10_find 37 = .ok (.getfield 29, 3) := by decide +kernel
theorem dX10_find_40 : decode cX10_find 40 = .ok (.iload 4, 2) := by decide +kernel
theorem dX10_find_42 : decode cX10_find 42 = .ok (.iaload, 1) := by decide +kernel
theorem dX10_find_43 : decode cX10_find 43 = .ok (.ireturn, 1) := by decide +kernel
set_option maxRecDepth 20000 in
theorem ggX10_jpeg_X10_in : GoodIn wsX10_jpeg wsX10_in := goodIn_r _ [10] (by decide +kernel) (by decide +kernel)
set_option maxRecDepth 20000 in
theorem gX10_jpeg_X10_in : GoodIn wsX10_jpeg (va_wsS RX10 44 yX10_in wsX10_in) := goodIn_app (goodIn_of _ (by decide +kernel)) ggX10_jpeg_X10_in
set_option maxRecDepth 20000 in
theorem ggX10_jpeg_X10_two : GoodIn wsX10_jpeg wsX10_two := goodIn_r _ [13] (by decide +kernel) (by decide +kernel)
set_option maxRecDepth 20000 in
theorem gX10_jpeg_X10_two : GoodIn wsX10_jpeg (va_wsS RX10 170 yX10_two wsX10_two) := goodIn_app (goodIn_of _ (by decide +kernel)) ggX10_jpeg_X10_two
theorem dX10_jpeg_0 : decode cX10_jpeg 0 = .ok (.iload_n 2, 1) := by decide +kernel
theorem dX10_jpeg_1 : decode cX10_jpeg 1 = .ok (.iconst 2, 1) := by decide +kernel
theorem dX10_jpeg_2 : decode cX10_jpeg 2 = .ok (.if_icmp .lt 29, 3) := by decide +kernel
theorem dX10_jpeg_5 : decode cX10_jpeg 5 = .ok (.aload_n 0, 1) := by decide +kernel
theorem dX10_jpeg_6 : decode cX10_jpeg 6 = .ok (.getfield 13, 3) := by decide +kernel
theorem dX10_jpeg_9 : decode cX10_jpeg 9 = .ok (.iload_n 1, 1) := by decide +kernel
theorem dX10_jpeg_10 : decode cX10_jpeg 10 = .ok (.iaload, 1) := by decide +kernel
theorem dX10_jpeg_11 : decode cX10_jpeg 11 = .ok (.sipush 255, 3) := by decide +kernel
theorem dX10_jpeg_14 : decode cX10_jpeg 14 = .ok (.if_icmp .ne 17, 3) := by decide +kernel
theorem dX10_jpeg_17 : decode cX10_jpeg 17 = .ok (.aload_n 0, 1) := by decide +kernel
theorem dX10_jpeg_18 : decode cX10_jpeg 18 = .ok (.getfield 13, 3) := by decide +kernel
theorem dX10_jpeg_21 : decode cX10_jpeg 21 = .ok (.iload_n 1, 1) := by decide +kernel
theorem dX10_jpeg_22 : decode cX10_jpeg 22 = .ok (.iconst 1, 1) := by decide +kernel
theorem dX10_jpeg_23 : decode cX10_jpeg 23 = .ok (.iadd, 1) := by decide +kernel
theorem dX10_jpeg_24 : decode cX10_jpeg 24 = .ok (.iaload, 1) := by decide +kernel
theorem dX10_jpeg_25 : decode cX10_jpeg 25 = .ok (.sipush 216, 3) := by decide +kernel
theorem dX10_jpeg_28 : decode cX10_jpeg 28 = .ok (.if_icmp .eq 7, 3) := by decide +kernel
theorem dX10_jpeg_31 : decode cX10_jpeg 31 = .ok (.ldc2_w 164, 3) := by decide +kernel
theorem dX10_jpeg_34 : decode cX10_jpeg 34 = .ok (.lreturn, 1) := by decide +kernel
theorem dX10_jpeg_35 : decode cX10_jpeg 35 = .ok (.iconst 2, 1) := by decide +kernel
theorem dX10_jpeg_36 : decode cX10_jpeg 36 = .ok (.istore 4, 2) := by decide +kernel
theorem dX10_jpeg_38 : decode cX10_jpeg 38 = .ok (.iload 4, 2) := by decide +kernel
theorem dX10_jpeg_40 : decode cX10_jpeg 40 = .ok (.iload_n 2, 1) := by decide +kernel
theorem dX10_jpeg_41 : decode cX10_jpeg 41 = .ok (.if_icmp .ge 244, 3) := by decide +kernel
theorem dX10_jpeg_44 : decode cX10_jpeg 44 = .ok (.aload_n 0, 1) := by decide +kernel
theorem dX10_jpeg_45 : decode cX10_jpeg 45 = .ok (.getfield 13, 3) := by decide +kernel
theorem dX10_jpeg_48 : decode cX10_jpeg 48 = .ok (.iload_n 1, 1) := by decide +kernel
theorem dX10_jpeg_49 : decode cX10_jpeg 49 = .ok (.iload 4, 2) := by decide +kernel
theorem dX10_jpeg_51 : decode cX10_jpeg 51 = .ok (.iadd, 1) := by decide +kernel
theorem dX10_jpeg_52 : decode cX10_jpeg 52 = .ok (.iaload, 1) := by decide +kernel
theorem dX10_jpeg_53 : decode cX10_jpeg 53 = .ok (.sipush 255, 3) := by decide +kernel
theorem dX10_jpeg_56 : decode cX10_jpeg 56 = .ok (.if_icmp .ne 229, 3) := by decide +kernel
theorem dX10_jpeg_59 : decode cX10_jpeg 59 = .ok (.iload 4, 2) := by decide +kernel
theorem dX10_jpeg_61 : decode cX10_jpeg 61 = .ok (.iload_n 2, 1) := by decide +kernel
theorem dX10_jpeg_62 : decode cX10_jpeg 62 = .ok (.if_icmp .ge 24, 3) := by decide +kernel
theorem dX10_jpeg_65 : decode cX10_jpeg 65 = .ok (.aload_n 0, 1) := by decide +kernel
theorem dX10_jpeg_66 : decode cX10_jpeg 66 = .ok (.getfield 13, 3) := by decide +kernel
theorem dX10_jpeg_69 : decode cX10_jpeg 69 = .ok (.iload_n 1, 1) := by decide +kernel
theorem dX10_jpeg_70 : decode cX10_jpeg 70 = .ok (.iload 4, 2) := by decide +kernel
theorem dX10_jpeg_72 : decode cX10_jpeg 72 = .ok (.iadd, 1) := by decide +kernel
theorem dX10_jpeg_73 : decode cX10_jpeg 73 = .ok (.iaload, 1) := by decide +kernel
theorem dX10_jpeg_74 : decode cX10_jpeg 74 = .ok (.sipush 255, 3) := by decide +kernel
theorem dX10_jpeg_77 : decode cX10_jpeg 77 = .ok (.if_icmp .ne 9, 3) := by decide +kernel
theorem dX10_jpeg_80 : decode cX10_jpeg 80 = .ok (.iinc 4 1, 3) := by decide +kernel
theorem dX10_jpeg_83 : decode cX10_jpeg 83 = .ok (.goto (-24), 3) := by decide +kernel
theorem dX10_jpeg_86 : decode cX10_jpeg 86 = .ok (.iload 4, 2) := by decide +kernel
theorem dX10_jpeg_88 : decode cX10_jpeg 88 = .ok (.iload_n 2, 1) := by decide +kernel
theorem dX10_jpeg_89 : decode cX10_jpeg 89 = .ok (.if_icmp .ge 15, 3) := by decide +kernel
theorem dX10_jpeg_92 : decode cX10_jpeg 92 = .ok (.aload_n 0, 1) := by decide +kernel
theorem dX10_jpeg_93 : decode cX10_jpeg 93 = .ok (.getfield 13, 3) := by decide +kernel
theorem dX10_jpeg_96 : decode cX10_jpeg 96 = .ok (.iload_n 1, 1) := by decide +kernel
theorem dX10_jpeg_97 : decode cX10_jpeg 97 = .ok (.iload 4, 2) := by decide +kernel
theorem dX10_jpeg_99 : decode cX10_jpeg 99 = .ok (.iadd, 1) := by decide +kernel
theorem dX10_jpeg_100 : decode cX10_jpeg 100 = .ok (.iaload, 1) := by decide +kernel
theorem dX10_jpeg_101 : decode cX10_jpeg 101 = .ok (.goto 4, 3) := by decide +kernel
theorem dX10_jpeg_104 : decode cX10_jpeg 104 = .ok (.iconst 0, 1) := by decide +kernel
theorem dX10_jpeg_105 : decode cX10_jpeg 105 = .ok (.istore 5, 2) := by decide +kernel
theorem dX10_jpeg_107 : decode cX10_jpeg 107 = .ok (.iinc 4 1, 3) := by decide +kernel
theorem dX10_jpeg_110 : decode cX10_jpeg 110 = .ok (.iload 5, 2) := by decide +kernel
theorem dX10_jpeg_112 : decode cX10_jpeg 112 = .ok (.ifCond .eq 19, 3) := by decide +kernel
theorem dX10_jpeg_115 : decode cX10_jpeg 115 = .ok (.iload 5, 2) := by decide +kernel
theorem dX10_jpeg_117 : decode cX10_jpeg 117 = .ok (.sipush 216, 3) := by decide +kernel
theorem dX10_jpeg_120 : decode cX10_jpeg 120 = .ok (.if_icmp .eq 11, 3) := by decide +kernel
theorem dX10_jpeg_123 : decode cX10_jpeg 123 = .ok (.iload 5, 2) := by decide +kernel
theorem dX10_jpeg_125 : decode cX10_jpeg 125 = .ok (.sipush 217, 3) := by decide +kernel
theorem dX10_jpeg_128 : decode cX10_jpeg 128 = .ok (.if_icmp .ne 7, 3) := by decide +kernel
theorem dX10_jpeg_131 : decode cX10_jpeg 131 = .ok (.ldc2_w 164, 3) := by decide +kernel
theorem dX10_jpeg_134 : decode cX10_jpeg 134 = .ok (.lreturn, 1) := by decide +kernel
theorem dX10_jpeg_135 : decode cX10_jpeg 135 = .ok (.iload 5, 2) := by decide +kernel
theorem dX10_jpeg_137 : decode cX10_jpeg 137 = .ok (.iconst 1, 1) := by decide +kernel
theorem dX10_jpeg_138 : decode cX10_jpeg 138 = .ok (.if_icmp .eq 144, 3) := by decide +kernel
theorem dX10_jpeg_141 : decode cX10_jpeg 141 = .ok (.iload 5, 2) := by decide +kernel
theorem dX10_jpeg_143 : decode cX10_jpeg 143 = .ok (.i2l, 1) := by decide +kernel
theorem dX10_jpeg_144 : decode cX10_jpeg 144 = .ok (.ldc2_w 166, 3) := by decide +kernel
theorem dX10_jpeg_147 : decode cX10_jpeg 147 = .ok (.ldc2_w 168, 3) := by decide +kernel
theorem dX10_jpeg_150 : decode cX10_jpeg 150 = .ok (.invokestatic 44, 3) := by decide +kernel
theorem dX10_jpeg_153 : decode cX10_jpeg 153 = .ok (.ifCond .ne 129, 3) := by decide +kernel
theorem dX10_jpeg_156 : decode cX10_jpeg 156 = .ok (.iload 4, 2) := by decide +kernel
theorem dX10_jpeg_158 : decode cX10_jpeg 158 = .ok (.iconst 2, 1) := by decide +kernel
theorem dX10_jpeg_159 : decode cX10_jpeg 159 = .ok (.iadd, 1) := by decide +kernel
theorem dX10_jpeg_160 : decode cX10_jpeg 160 = .ok (.iload_n 2, 1) := by decide +kernel
theorem dX10_jpeg_161 : decode cX10_jpeg 161 = .ok (.if_icmp .gt 17, 3) := by decide +kernel
theorem dX10_jpeg_164 : decode cX10_jpeg 164 = .ok (.aload_n 0, 1) := by decide +kernel
theorem dX10_jpeg_165 : decode cX10_jpeg 165 = .ok (.getfield 13, 3) := by decide +kernel
theorem dX10_jpeg_168 : decode cX10_jpeg 168 = .ok (.iload_n 1, 1) := by decide +kernel
theorem dX10_jpeg_169 : decode cX10_jpeg 169 = .ok (.iload 4, 2) := by decide +kernel
theorem dX10_jpeg_171 : decode cX10_jpeg 171 = .ok (.iadd, 1) := by decide +kernel
theorem dX10_jpeg_172 : decode cX10_jpeg 172 = .ok (.invokestatic 170, 3) := by decide +kernel
theorem dX10_jpeg_175 : decode cX10_jpeg 175 = .ok (.goto 4, 3) := by decide +kernel
theorem dX10_jpeg_178 : decode cX10_jpeg 178 = .ok (.iconst 0, 1) := by decide +kernel
theorem dX10_jpeg_179 : decode cX10_jpeg 179 = .ok (.istore 6, 2) := by decide +kernel
theorem dX10_jpeg_181 : decode cX10_jpeg 181 = .ok (.iload 6, 2) := by decide +kernel
theorem dX10_jpeg_183 : decode cX10_jpeg 183 = .ok (.iconst 2, 1) := by decide +kernel
theorem dX10_jpeg_184 : decode cX10_jpeg 184 = .ok (.if_icmp .ge 7, 3) := by decide +kernel
theorem dX10_jpeg_187 : decode cX10_jpeg 187 = .ok (.ldc2_w 164, 3) := by decide +kernel
theorem dX10_jpeg_190 : decode cX10_jpeg 190 = .ok (.lreturn, 1) := by decide +kernel
theorem dX10_jpeg_191 : decode cX10_jpeg 191 = .ok (.iload 5, 2) := by decide +kernel
theorem dX10_jpeg_193 : decode cX10_jpeg 193 = .ok (.i2l, 1) := by decide +kernel
theorem dX10_jpeg_194 : decode cX10_jpeg 194 = .ok (.ldc2_w 173, 3) := by decide +kernel
theorem dX10_jpeg_197 : decode cX10_jpeg 197 = .ok (.ldc2_w 175, 3) := by decide +kernel
theorem dX10_jpeg_200 : decode cX10_jpeg 200 = .ok (.invokestatic 44, 3) := by decide +kernel
theorem dX10_jpeg_203 : decode cX10_jpeg 203 = .ok (.ifCond .eq 72, 3) := by decide +kernel
theorem dX10_jpeg_206 : decode cX10_jpeg 206 = .ok (.iload 5, 2) := by decide +kernel
theorem dX10_jpeg_208 : decode cX10_jpeg 208 = .ok (.sipush 196, 3) := by decide +kernel
theorem dX10_jpeg_211 : decode cX10_jpeg 211 = .ok (.if_icmp .eq 64, 3) := by decide +kernel
theorem dX10_jpeg_214 : decode cX10_jpeg 214 = .ok (.iload 5, 2) := by decide +kernel
theorem dX10_jpeg_216 : decode cX10_jpeg 216 = .ok (.sipush 200, 3) := by decide +kernel
theorem dX10_jpeg_219 : decode cX10_jpeg 219 = .ok (.if_icmp .eq 56, 3) := by decide +kernel
theorem dX10_jpeg_222 : decode cX10_jpeg 222 = .ok (.iload 5, 2) := by decide +kernel
theorem dX10_jpeg_224 : decode cX10_jpeg 224 = .ok (.sipush 204, 3) := by decide +kernel
theorem dX10_jpeg_227 : decode cX10_jpeg 227 = .ok (.if_icmp .eq 48, 3) := by decide +kernel
theorem dX10_jpeg_230 : decode cX10_jpeg 230 = .ok (.iload 6, 2) := by decide +kernel
theorem dX10_jpeg_232 : decode cX10_jpeg 232 = .ok (.bipush 7, 2) := by decide +kernel
theorem dX10_jpeg_234 : decode cX10_jpeg 234 = .ok (.if_icmp .lt 37, 3) := by decide +kernel
theorem dX10_jpeg_237 : decode cX10_jpeg 237 = .ok (.iload 4, 2) := by decide +kernel
theorem dX10_jpeg_239 : decode cX10_jpeg 239 = .ok (.bipush 7, 2) := by decide +kernel
theorem dX10_jpeg_241 : decode cX10_jpeg 241 = .ok (.iadd, 1) := by decide +kernel
theorem dX10_jpeg_242 : decode cX10_jpeg 242 = .ok (.iload_n 2, 1) := by decide +kernel
theorem dX10_jpeg_243 : decode cX10_jpeg 243 = .ok (.if_icmp .gt 28, 3) := by decide +kernel
theorem dX10_jpeg_246 : decode cX10_jpeg 246 = .ok (.aload_n 0, 1) := by decide +kernel
theorem dX10_jpeg_247 : decode cX10_jpeg 247 = .ok (.getfield 13, 3) := by decide +kernel
theorem dX10_jpeg_250 : decode cX10_jpeg 250 = .ok (.iload_n 1, 1) := by decide +kernel
theorem dX10_jpeg_251 : decode cX10_jpeg 251 = .ok (.iload 4, 2) := by decide +kernel
