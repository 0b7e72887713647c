theorem dX10_goesAway_81 : decode cX10_goesAway 81 = .ok (.iload_n 3, 1) := by decide +kernel
theorem dX10_goesAway_82 : decode cX10_goesAway 82 = .ok (.dup2, 1) := by decide +kernel
theorem dX10_goesAway_83 : decode cX10_goesAway 83 = .ok (.iaload, 1) := by decide +kernel
theorem dX10_goesAway_84 : decode cX10_goesAway 84 = .ok (.aload_n 0, 1) := by decide +kernel
theorem dX10_goesAway_85 : decode cX10_goesAway 85 = .ok (.getfield 29, 3) := by decide +kernel
theorem dX10_goesAway_88 : decode cX10_goesAway 88 = .ok (.iload_n 3, 1) := by decide +kernel
theorem dX10_goesAway_89 : decode cX10_goesAway 89 = .ok (.iaload, 1) := by decide +kernel
theorem dX10_goesAway_90 : decode cX10_goesAway 90 = .ok (.iload_n 1, 1) := by decide +kernel
theorem dX10_goesAway_91 : decode cX10_goesAway 91 = .ok (.if_icmp .le 7, 3) := by decide +kernel
theorem dX10_goesAway_94 : decode cX10_goesAway 94 = .ok (.iconst 1, 1) := by decide +kernel
theorem dX10_goesAway_95 : decode cX10_goesAway 95 = .ok (.goto 4, 3) := by decide +kernel
theorem dX10_goesAway_98 : decode cX10_goesAway 98 = .ok (.iconst 0, 1) := by decide +kernel
theorem dX10_goesAway_99 : decode cX10_goesAway 99 = .ok (.isub, 1) := by decide +kernel
theorem dX10_goesAway_100 : decode cX10_goesAway 100 = .ok (.iastore, 1) := by decide +kernel
theorem dX10_goesAway_101 : decode cX10_goesAway 101 = .ok (.iinc 3 1, 3) := by decide +kernel
theorem dX10_goesAway_104 : decode cX10_goesAway 104 = .ok (.goto (-35), 3) := by decide +kernel
theorem dX10_goesAway_107 : decode cX10_goesAway 107 = .ok (.iload_n 2, 1) := by decide +kernel
theorem dX10_goesAway_108 : decode cX10_goesAway 108 = .ok (.ireturn, 1) := by decide +kernel
set_option maxRecDepth 20000 in
theorem ggX10_drop_X10_isUse : GoodIn wsX10_drop wsX10_isUse := goodIn_r _ [8, 9, 10, 11, 12] (by decide +kernel) (by decide +kernel)
set_option maxRecDepth 20000 in
theorem gX10_drop_X10_isUse : GoodIn wsX10_drop (va_wsS RX10 104 yX10_isUse wsX10_isUse) := goodIn_app (goodIn_of _ (by decide +kernel)) ggX10_drop_X10_isUse
set_option maxRecDepth 20000 in
theorem ggX10_drop_X10_isNumber : GoodIn wsX10_drop wsX10_isNumber := goodIn_r _ [15, 16, 17, 18, 7, 19] (by decide +kernel) (by decide +kernel)
set_option maxRecDepth 20000 in
theorem gX10_drop_X10_isNumber : GoodIn wsX10_drop (va_wsS RX10 156 yX10_isNumber wsX10_isNumber) := goodIn_app (goodIn_of _ (by decide +kernel)) ggX10_drop_X10_isNumber
set_option maxRecDepth 20000 in
theorem ggX10_drop_X10_entryFor : GoodIn wsX10_drop wsX10_entryFor := goodIn_r _ [23, 2, 3, 4, 47, 48, 49, 50, 51, 52, 53, 54, 55, 56, 57, 58, 59, 60, 61, 62, 63, 64] (by decide +kernel) (by decide +kernel)
set_option maxRecDepth 20000 in
theorem gX10_drop_X10_entryFor : GoodIn wsX10_drop (wsV RX10 160 RX10 yX10_entryFor wsX10_entryFor) := goodIn_app (goodIn_of _ (by decide +kernel)) ggX10_drop_X10_entryFor
set_option maxRecDepth 20000 in
theorem ggX10_drop_X10_meant : GoodIn wsX10_drop wsX10_meant := goodIn_r _ [27, 2, 1, 47, 48, 49, 50, 51, 52, 53, 54, 55, 56, 57, 58, 59, 60, 61, 62, 63, 64] (by decide +kernel) (by decide +kernel)
set_option maxRecDepth 20000 in
theorem gX10_drop_X10_meant : GoodIn wsX10_drop (wsV RX10 133 RX10 yX10_meant wsX10_meant) := goodIn_app (goodIn_of _ (by decide +kernel)) ggX10_drop_X10_meant
set_option maxRecDepth 20000 in
theorem ggX10_drop_X10_goesAway : GoodIn wsX10_drop wsX10_goesAway := goodIn_r _ [31, 32, 33, 34, 2, 1, 35, 36, 37, 7, 38, 39, 40, 41, 42, 43, 44, 45, 46, 47, 48, 49, 50, 51, 52, 53, 54, 55, 56, 57, 58, 59, 60, 61, 62, 63, 64] (by decide +kernel) (by decide +kernel)
set_option maxRecDepth 20000 in
theorem gX10_drop_X10_goesAway : GoodIn wsX10_drop (wsV RX10 215 RX10 yX10_goesAway wsX10_goesAway) := goodIn_app (goodIn_of _ (by decide +kernel)) ggX10_drop_X10_goesAway
theorem dX10_drop_0 : decode cX10_drop 0 = .ok (.iload_n 1, 1) := by decide +kernel
theorem dX10_drop_1 : decode cX10_drop 1 = .ok (.invokestatic 104, 3) := by decide +kernel
theorem dX10_drop_4 : decode cX10_drop 4 = .ok (.ifCond .eq 10, 3) := by decide +kernel
theorem dX10_drop_7 : decode cX10_drop 7 = .ok (.lload_n 2, 1) := by decide +kernel
theorem dX10_drop_8 : decode cX10_drop 8 = .ok (.invokestatic 156, 3) := by decide +kernel
theorem dX10_drop_11 : decode cX10_drop 11 = .ok (.ifCond .ne 5, 3) := by decide +kernel
theorem dX10_drop_14 : decode cX10_drop 14 = .ok (.iconst (-1), 1) := by decide +kernel
theorem dX10_drop_15 : decode cX10_drop 15 = .ok (.ireturn, 1) := by decide +kernel
theorem dX10_drop_16 : decode cX10_drop 16 = .ok (.aload_n 0, 1) := by decide +kernel
theorem dX10_drop_17 : decode cX10_drop 17 = .ok (.iload_n 1, 1) := by decide +kernel
theorem dX10_drop_18 : decode cX10_drop 18 = .ok (.lload_n 2, 1) := by decide +kernel
theorem dX10_drop_19 : decode cX10_drop 19 = .ok (.invokevirtual 160, 3) := by decide +kernel
theorem dX10_drop_22 : decode cX10_drop 22 = .ok (.istore 4, 2) := by decide +kernel
theorem dX10_drop_24 : decode cX10_drop 24 = .ok (.iload 4, 2) := by decide +kernel
theorem dX10_drop_26 : decode cX10_drop 26 = .ok (.bipush (-2), 2) := by decide +kernel
theorem dX10_drop_28 : decode cX10_drop 28 = .ok (.if_icmp .ne 6, 3) := by decide +kernel
theorem dX10_drop_31 : decode cX10_drop 31 = .ok (.bipush (-2), 2) := by decide +kernel
theorem dX10_drop_33 : decode cX10_drop 33 = .ok (.ireturn, 1) := by decide +kernel
theorem dX10_drop_34 : decode cX10_drop 34 = .ok (.aload_n 0, 1) := by decide +kernel
theorem dX10_drop_35 : decode cX10_drop 35 = .ok (.getfield 29, 3) := by decide +kernel
theorem dX10_drop_38 : decode cX10_drop 38 = .ok (.iload 4, 2) := by decide +kernel
theorem dX10_drop_40 : decode cX10_drop 40 = .ok (.iaload, 1) := by decide +kernel
theorem dX10_drop_41 : decode cX10_drop 41 = .ok (.istore 5, 2) := by decide +kernel
theorem dX10_drop_43 : decode cX10_drop 43 = .ok (.aload_n 0, 1) := by decide +kernel
theorem dX10_drop_44 : decode cX10_drop 44 = .ok (.dup, 1) := by decide +kernel
theorem dX10_drop_45 : decode cX10_drop 45 = .ok (.getfield 119, 3) := by decide +kernel
theorem dX10_drop_48 : decode cX10_drop 48 = .ok (.iconst 1, 1) := by decide +kernel
theorem dX10_drop_49 : decode cX10_drop 49 = .ok (.isub, 1) := by decide +kernel
theorem dX10_drop_50 : decode cX10_drop 50 = .ok (.putfield 119, 3) := by decide +kernel
theorem dX10_drop_53 : decode cX10_drop 53 = .ok (.iload 4, 2) := by decide +kernel
theorem dX10_drop_55 : decode cX10_drop 55 = .ok (.istore 6, 2) := by decide +kernel
theorem dX10_drop_57 : decode cX10_drop 57 = .ok (.iload 6, 2) := by decide +kernel
theorem dX10_drop_59 : decode cX10_drop 59 = .ok (.aload_n 0, 1) := by decide +kernel
theorem dX10_drop_60 : decode cX10_drop 60 = .ok (.getfield 119, 3) := by decide +kernel
theorem dX10_drop_63 : decode cX10_drop 63 = .ok (.if_icmp .ge 57, 3) := by decide +kernel
theorem dX10_drop_66 : decode cX10_drop 66 = .ok (.aload_n 0, 1) := by decide +kernel
theorem dX10_drop_67 : decode cX10_drop 67 = .ok (.getfield 22, 3) := by decide +kernel
theorem dX10_drop_70 : decode cX10_drop 70 = .ok (.iload 6, 2) := by decide +kernel
theorem dX10_drop_72 : decode cX10_drop 72 = .ok (.aload_n 0, 1) := by decide +kernel
theorem dX10_drop_73 : decode cX10_drop 73 = .ok (.getfield 22, 3) := by decide +kernel
theorem dX10_drop_76 : decode cX10_drop 76 = .ok (.iload 6, 2) := by decide +kernel
theorem dX10_drop_78 : decode cX10_drop 78 = .ok (.iconst 1, 1) := by decide +kernel
theorem dX10_drop_79 : decode cX10_drop 79 = .ok (.iadd, 1) := by decide +kernel
theorem dX10_drop_80 : decode cX10_drop 80 = .ok (.iaload, 1) := by decide +kernel
theorem dX10_drop_81 : decode cX10_drop 81 = .ok (.iastore, 1) := by decide +kernel
theorem dX10_drop_82 : decode cX10_drop 82 = .ok (.aload_n 0, 1) := by decide +kernel
theorem dX10_drop_83 : decode cX10_drop 83 = .ok (.getfield 25, 3) := by decide +kernel
theorem dX10_drop_86 : decode cX10_drop 86 = .ok (.iload 6, 2) := by decide +kernel
theorem dX10_drop_88 : decode cX10_drop 88 = .ok (.aload_n 0, 1) := by decide +kernel
theorem dX10_drop_89 : decode cX10_drop 89 = .ok (.getfield 25, 3) := by decide +kernel
theorem dX10_drop_92 : decode cX10_drop 92 = .ok (.iload 6, 2) := by decide +kernel
theorem dX10_drop_94 : decode cX10_drop 94 = .ok (.iconst 1, 1) := by decide +kernel
theorem dX10_drop_95 : decode cX10_drop 95 = .ok (.iadd, 1) := by decide +kernel
theorem dX10_drop_96 : decode cX10_drop 96 = .ok (.laload, 1) := by decide +kernel
theorem dX10_drop_97 : decode cX10_drop 97 = .ok (.lastore, 1) := by decide +kernel
theorem dX10_drop_98 : decode cX10_drop 98 = .ok (.aload_n 0, 1) := by decide +kernel
theorem dX10_drop_99 : decode cX10_drop 99 = .ok (.getfield 29, 3) := by decide +kernel
theorem dX10_drop_102 : decode cX10_drop 102 = .ok (.iload 6, 2) := by decide +kernel
theorem dX10_drop_104 : decode cX10_drop 104 = .ok (.aload_n 0, 1) := by decide +kernel
theorem dX10_drop_105 : decode cX10_drop 105 = .ok (.getfield 29, 3) := by decide +kernel
theorem dX10_drop_108 : decode cX10_drop 108 = .ok (.iload 6, 2) := by decide +kernel
theorem dX10_drop_110 : decode cX10_drop 110 = .ok (.iconst 1, 1) := by decide +kernel
theorem dX10_drop_111 : decode cX10_drop 111 = .ok (.iadd, 1) := by decide +kernel
theorem dX10_drop_112 : decode cX10_drop 112 = .ok (.iaload, 1) := by decide +kernel
theorem dX10_drop_113 : decode cX10_drop 113 = .ok (.iastore, 1) := by decide +kernel
theorem dX10_drop_114 : decode cX10_drop 114 = .ok (.iinc 6 1, 3) := by decide +kernel
theorem dX10_drop_117 : decode cX10_drop 117 = .ok (.goto (-60), 3) := by decide +kernel
theorem dX10_drop_120 : decode cX10_drop 120 = .ok (.aload_n 0, 1) := by decide +kernel
theorem dX10_drop_121 : decode cX10_drop 121 = .ok (.iload 5, 2) := by decide +kernel
theorem dX10_drop_123 : decode cX10_drop 123 = .ok (.invokevirtual 133, 3) := by decide +kernel
theorem dX10_drop_126 : decode cX10_drop 126 = .ok (.ifCond .le 5, 3) := by decide +kernel
theorem dX10_drop_129 : decode cX10_drop 129 = .ok (.iconst 0, 1) := by decide +kernel
theorem dX10_drop_130 : decode cX10_drop 130 = .ok (.ireturn, 1) := by decide +kernel
theorem dX10_drop_131 : decode cX10_drop 131 = .ok (.aload_n 0, 1) := by decide +kernel
theorem dX10_drop_132 : decode cX10_drop 132 = .ok (.iload 5, 2) := by decide +kernel
theorem dX10_drop_134 : decode cX10_drop 134 = .ok (.invokevirtual 215, 3) := by decide +kernel
theorem dX10_drop_137 : decode cX10_drop 137 = .ok (.istore 6, 2) := by decide +kernel
theorem dX10_drop_139 : decode cX10_drop 139 = .ok (.iconst 1, 1) := by decide +kernel
theorem dX10_drop_140 : decode cX10_drop 140 = .ok (.ireturn, 1) := by decide +kernel
set_option maxRecDepth 20000 in
theorem ggX10_remove_X10_isChunk : GoodIn wsX10_remove wsX10_isChunk := goodIn_r _ [5, 6, 7, 8, 4, 9, 34, 35, 36, 37, 38, 39, 40, 41, 42, 43, 44, 45, 46, 47, 48, 49, 50, 51] (by decide +kernel) (by decide +kernel)
set_option maxRecDepth 20000 in
theorem gX10_remove_X10_isChunk : GoodIn wsX10_remove (wsV RX10 125 RX10 yX10_isChunk wsX10_isChunk) := goodIn_app (goodIn_of _ (by decide +kernel)) ggX10_remove_X10_isChunk
set_option maxRecDepth 20000 in
theorem ggX10_remove_X10_meant : GoodIn wsX10_remove wsX10_meant := goodIn_r _ [13, 14, 15, 34, 35, 36, 37, 38, 39, 40, 41, 42, 43, 44, 45, 46, 47, 48, 49, 50, 51] (by decide +kernel) (by decide +kernel)
set_option maxRecDepth 20000 in
theorem gX10_remove_X10_meant : GoodIn wsX10_remove (wsV RX10 133 RX10 yX10_meant wsX10_meant) := goodIn_app (goodIn_of _ (by decide +kernel)) ggX10_remove_X10_meant
set_option maxRecDepth 20000 in
theorem ggX10_remove_X10_goesAway : GoodIn wsX10_remove wsX10_goesAway := goodIn_r _ [19, 20, 6, 21, 14, 15, 22, 23, 24, 4, 25, 26, 27, 28, 29, 30, 31, 32, 33, 34, 35, 36, 37, 38, 39, 40, 41, 42, 43, 44, 45, 46, 47, 48, 49, 50, 51] (by decide +kernel) (by decide +kernel)
set_option maxRecDepth 20000 in
theorem gX10_remove_X10_goesAway : GoodIn wsX10_remove (wsV RX10 215 RX10 yX10_goesAway wsX10_goesAway) := goodIn_app (goodIn_of _ (by decide +kernel)) ggX10_remove_X10_goesAway
theorem dX10_remove_0 : decode cX10_remove 0 = .ok (.aload_n 0, 1) := by decide +kernel
theorem dX10_remove_1 : decode cX10_remove 1 = .ok (.iload_n 1, 1) := by decide +kernel
theorem dX10_remove_2 : decode cX10_remove 2 = .ok (.invokevirtual 125, 3) := by decide +kernel
theorem dX10_remove_5 : decode cX10_remove 5 = .ok (.ifCond .ne 7, 3) := by decide +kernel
theorem dX10_remove_8 : decode cX10_remove 8 = .ok (.iconst (-1), 1) := by decide +kernel
theorem dX10_remove_9 : decode cX10_remove 9 = .ok (.goto 21, 3) := by decide +kernel
theorem dX10_remove_12 : decode cX10_remove 12 = .ok (.aload_n 0, 1) := by decide +kernel
theorem dX10_remove_13 : decode cX10_remove 13 = .ok (.iload_n 1, 1) := by decide +kernel
theorem dX10_remove_14 : decode cX10_remove 14 = .ok (.invokevirtual 133, 3) := by decide +kernel
theorem dX10_remove_17 : decode cX10_remove 17 = .ok (.ifCond .le 8, 3) := by decide +kernel
theorem dX10_remove_20 : decode cX10_remove 20 = .ok (.bipush (-3), 2) := by decide +kernel
theorem dX10_remove_22 : decode cX10_remove 22 = .ok (.goto 8, 3) := by decide +kernel
theorem dX10_remove_25 : decode cX10_remove 25 = .ok (.aload_n 0, 1) := by decide +kernel
theorem dX10_remove_26 : decode cX10_remove 26 = .ok (.iload_n 1, 1) := by decide +kernel
theorem dX10_remove_27 : decode cX10_remove 27 = .ok (.invokevirtual 215, 3) := by decide +kernel
theorem dX10_remove_30 : decode cX10_remove 30 = .ok (.ireturn, 1) := by decide +kernel
theorem dX10_put_0 : decode cX10_put 0 = .ok (.iload_n 3, 1) := by decide +kernel
theorem dX10_put_1 : decode cX10_put 1 = .ok (.iconst 1, 1) := by decide +kernel
theorem dX10_put_2 : decode cX10_put 2 = .ok (.isub, 1) := by decide +kernel
theorem dX10_put_3 : decode cX10_put 3 = .ok (.istore 4, 2) := by decide +kernel
theorem dX10_put_5 : decode cX10_put 5 = .ok (.iload 4, 2) := by decide +kernel
theorem dX10_put_7 : decode cX10_put 7 = .ok (.ifCond .lt 40, 3) := by decide +kernel
theorem dX10_put_10 : decode cX10_put 10 = .ok (.aload_n 0, 1) := by decide +kernel
theorem dX10_put_11 : decode cX10_put 11 = .ok (.getfield 32, 3) := by decide +kernel
theorem dX10_put_14 : decode cX10_put 14 = .ok (.aload_n 0, 1) := by decide +kernel
theorem dX10_put_15 : decode cX10_put 15 = .ok (.getfield 122, 3) := by decide +kernel
theorem dX10_put_18 : decode cX10_put 18 = .ok (.lload_n 1, 1) := by decide +kernel
theorem dX10_put_19 : decode cX10_put 19 = .ok (.bipush 8, 2) := by decide +kernel
theorem dX10_put_21 : decode cX10_put 21 = .ok (.iload 4, 2) := by decide +kernel
theorem dX10_put_23 : decode cX10_put 23 = .ok (.imul, 1) := by decide +kernel
theorem dX10_put_24 : decode cX10_put 24 = .ok (.lshr, 1) := by decide +kernel
theorem dX10_put_25 : decode cX10_put 25 = .ok (.ldc2_w 61, 3) := by decide +kernel
theorem dX10_put_28 : decode cX10_put 28 = .ok (.land, 1) := by decide +kernel
theorem dX10_put_29 : decode cX10_put 29 = .ok (.l2i, 1) := by decide +kernel
theorem dX10_put_30 : decode cX10_put 30 = .ok (.iastore, 1) := by decide +kernel
theorem dX10_put_31 : decode cX10_put 31 = .ok (.aload_n 0, 1) := by decide +kernel
theorem dX10_put_32 : decode cX10_put 32 = .ok (.dup, 1) := by decide +kernel
theorem dX10_put_33 : decode cX10_put 33 = .ok (.getfield 122, 3) := by decide +kernel
theorem dX10_put_36 : decode cX10_put 36 = .ok (.iconst 1, 1) := by decide +kernel
theorem dX10_put_37 : decode cX10_put 37 = .ok (.iadd, 1) := by decide +kernel
theorem dX10_put_38 : decode cX10_put 38 = .ok (.putfield 122, 3) := by decide +kernel
theorem dX10_put_41 : decode cX10_put 41 = .ok (.iinc 4 (-1), 3) := by decide +kernel
theorem dX10_put_44 : decode cX10_put 44 = .ok (.goto (-39), 3) := by decide +kernel
theorem dX10_put_47 : decode cX10_put 47 = .ok (.return_, 1) := by decide +kernel
set_option maxRecDepth 20000 in
theorem ggX10_write_X10_put : GoodIn wsX10_write wsX10_put := goodIn_r _ [17, 18, 1, 19, 24, 25, 26, 27, 28, 29, 30, 31, 32, 33, 34, 35, 36, 37, 38, 39, 40, 41] (by decide +kernel) (by decide +kernel)
set_option maxRecDepth 20000 in
theorem gX10_write_X10_put : GoodIn wsX10_write (wsV RX10 220 RX10 yX10_put wsX10_put) := goodIn_app (goodIn_of _ (by decide +kernel)) ggX10_write_X10_put
set_option maxRecDepth 20000 in
theorem ggX10_write_X10_placeOf : GoodIn wsX10_write wsX10_placeOf := goodIn_r _ [23, 6, 11, 24, 25, 26, 27, 28, 29, 30, 31, 32, 33, 34, 35, 36, 37, 38, 39, 40, 41] (by decide +kernel) (by decide +kernel)
set_option maxRecDepth 20000 in
theorem gX10_write_X10_placeOf : GoodIn wsX10_write (wsV RX10 130 RX10 yX10_placeOf wsX10_placeOf) := goodIn_app (goodIn_of _ (by decide +kernel)) ggX10_write_X10_placeOf
theorem dX10_write_0 : decode cX10_write 0 = .ok (.aload_n 0, 1) := by decide +kernel
theorem dX10_write_1 : decode cX10_write 1 = .ok (.iconst 0, 1) := by decide +kernel
theorem dX10_write_2 : decode cX10_write 2 = .ok (.putfield 122, 3) := by decide +kernel
theorem dX10_write_5 : decode cX10_write 5 = .ok (.aload_n 0, 1) := by decide +kernel
theorem dX10_write_6 : decode cX10_write 6 = .ok (.ldc2_w 218, 3) := by decide +kernel
theorem dX10_write_9 : decode cX10_write 9 = .ok (.iconst 4, 1) := by decide +kernel
theorem dX10_write_10 : decode cX10_write 10 = .ok (.invokevirtual 220, 3) := by decide +kernel
theorem dX10_write_13 : decode cX10_write 13 = .ok (.aload_n 0, 1) := by decide +kernel
theorem dX10_write_14 : decode cX10_write 14 = .ok (.aload_n 0, 1) := by decide +kernel
theorem dX10_write_15 : decode cX10_write 15 = .ok (.aload_n 0, 1) := by decide +kernel
theorem dX10_write_16 : decode cX10_write 16 = .ok (.getfield 113, 3) := by decide +kernel
theorem dX10_write_19 : decode cX10_write 19 = .ok (.invokevirtual 130, 3) := by decide +kernel
theorem dX10_write_22 : decode cX10_write 22 = .ok (.bipush 8, 2) := by decide +kernel
theorem dX10_write_24 : decode cX10_write 24 = .ok (.isub, 1) := by decide +kernel
theorem dX10_write_25 : decode cX10_write 25 = .ok (.i2l, 1) := by decide +kernel
theorem dX10_write_26 : decode cX10_write 26 = .ok (.iconst 4, 1) := by decide +kernel
theorem dX10_write_27 : decode cX10_write 27 = .ok (.invokevirtual 220, 3) := by decide +kernel
theorem dX10_write_30 : decode cX10_write 30 = .ok (.aload_n 0, 1) := by decide +kernel
theorem dX10_write_31 : decode cX10_write 31 = .ok (.ldc2_w 224, 3) := by decide +kernel
theorem dX10_write_34 : decode cX10_write 34 = .ok (.iconst 4, 1) := by decide +kernel
theorem dX10_write_35 : decode cX10_write 35 = .ok (.invokevirtual 220, 3) := by decide +kernel
theorem dX10_write_38 : decode cX10_write 38 = .ok (.aload_n 0, 1) := by decide +kernel
theorem dX10_write_39 : decode cX10_write 39 = .ok (.ldc2_w 226, 3) := by decide +kernel
theorem dX10_write_42 : decode cX10_write 42 = .ok (.iconst 4, 1) := by decide +kernel
theorem dX10_write_43 : decode cX10_write 43 = .ok (.invokevirtual 220, 3) := by decide +kernel
theorem dX10_write_46 : decode cX10_write 46 = .ok (.aload_n 0, 1) := by decide +kernel
theorem dX10_write_47 : decode cX10_write 47 = .ok (.iconst 4, 1) := by decide +kernel
theorem dX10_write_48 : decode cX10_write 48 = .ok (.bipush 12, 2) := by decide +kernel
theorem dX10_write_50 : decode cX10_write 50 = .ok (.aload_n 0, 1) := by decide +kernel
theorem dX10_write_51 : decode cX10_write 51 = .ok (.getfield 119, 3) := by decide +kernel
theorem dX10_write_54 : decode cX10_write 54 = .ok (.imul, 1) := by decide +kernel
theorem dX10_write_55 : decode cX10_write 55 = .ok (.iadd, 1) := by decide +kernel
theorem dX10_write_56 : decode cX10_write 56 = .ok (.i2l, 1) := by decide +kernel
theorem dX10_write_57 : decode cX10_write 57 = .ok (.iconst 4, 1) := by decide +kernel
theorem dX10_write_58 : decode cX10_write 58 = .ok (.invokevirtual 220, 3) := by decide +kernel
theorem dX10_write_61 : decode cX10_write 61 = .ok (.aload_n 0, 1) := by decide +kernel
theorem dX10_write_62 : decode cX10_write 62 = .ok (.aload_n 0, 1) := by decide +kernel
theorem dX10_write_63 : decode cX10_write 63 = .ok (.getfield 119, 3) := by decide +kernel
theorem dX10_write_66 : decode cX10_write 66 = .ok (.i2l, 1) := by decide +kernel
theorem dX10_write_67 : decode cX10_write 67 = .ok (.iconst 4, 1) := by decide +kernel
theorem dX10_write_68 : decode cX10_write 68 = .ok (.invokevirtual 220, 3) := by decide +kernel
theorem dX10_write_71 : decode cX10_write 71 = .ok (.iconst 0, 1) := by decide +kernel
theorem dX10_write_72 : decode cX10_write 72 = .ok (.istore_n 1, 1) := by decide +kernel
theorem dX10_write_73 : decode cX10_write 73 = .ok (.iload_n 1, 1) := by decide +kernel
theorem dX10_write_74 : decode cX10_write 74 = .ok (.aload_n 0, 1) := by decide +kernel
theorem dX10_write_75 : decode cX10_write 75 = .ok (.getfield 119, 3) := by decide +kernel
theorem dX10_write_78 : decode cX10_write 78 = .ok (.if_icmp .ge 48, 3) := by decide +kernel
theorem dX10_write_81 : decode cX10_write 81 = .ok (.aload_n 0, 1) := by decide +kernel
theorem dX10_write_82 : decode cX10_write 82 = .ok (.aload_n 0, 1) := by decide +kernel
theorem dX10_write_83 : decode cX10_write 83 = .ok (.getfield 22, 3) := by decide +kernel
theorem dX10_write_86 : decode cX10_write 86 = .ok (.iload_n 1, 1) := by decide +kernel
theorem dX10_write_87 : decode cX10_write 87 = .ok (.iaload, 1) := by decide +kernel
theorem dX10_write_88 : decode cX10_write 88 = .ok (.i2l, 1) := by decide +kernel
theorem dX10_write_89 : decode cX10_write 89 = .ok (.iconst 4, 1) := by decide +kernel
theorem dX10_write_90 : decode cX10_write 90 = .ok (.invokevirtual 220, 3) := by decide +kernel
theorem dX10_write_93 : decode cX10_write 93 = .ok (.aload_n 0, 1) := by decide +kernel
theorem dX10_write_94 : decode cX10_write 94 = .ok (.aload_n 0, 1) := by decide +kernel
theorem dX10_write_95 : decode cX10_write 95 = .ok (.getfield 25, 3) := by decide +kernel
theorem dX10_write_98 : decode cX10_write 98 = .ok (.iload_n 1, 1) := by decide +kernel
theorem dX10_write_99 : decode cX10_write 99 = .ok (.laload, 1) := by decide +kernel
theorem dX10_write_100 : decode cX10_write 100 = .ok (.iconst 4, 1) := by decide +kernel
theorem dX10_write_101 : decode cX10_write 101 = .ok (.invokevirtual 220, 3) := by decide +kernel
theorem dX10_write_104 : decode cX10_write 104 = .ok (.aload_n 0, 1) := by decide +kernel
theorem dX10_write_105 : decode cX10_write 105 = .ok (.aload_n 0, 1) := by decide +kernel
theorem dX10_write_106 : decode cX10_write 106 = .ok (.aload_n 0, 1) := by decide +kernel
theorem dX10_write_107 : decode cX10_write 107 = .ok (.getfield 29, 3) := by decide +kernel
theorem dX10_write_110 : decode cX10_write 110 = .ok (.iload_n 1, 1) := by decide +kernel
theorem dX10_write_111 : decode cX10_write 111 = .ok (.iaload, 1) := by decide +kernel
theorem dX10_write_112 : decode cX10_write 112 = .ok (.invokevirtual 130, 3) := by decide +kernel
theorem dX10_write_115 : decode cX10_write 115 = .ok (.i2l, 1) := by decide +kernel
theorem dX10_write_116 : decode cX10_write 116 = .ok (.iconst 4, 1) := by decide +kernel
theorem dX10_write_117 : decode cX10_write 117 = .ok (.invokevirtual 220, 3) := by decide +kernel
theorem dX10_write_120 : decode cX10_write 120 = .ok (.iinc 1 1, 3) := by decide +kernel
theorem dX10_write_123 : decode cX10_write 123 = .ok (.goto (-50), 3) := by decide +kernel
theorem dX10_write_126 : decode cX10_write 126 = .ok (.iconst 0, 1) := by decide +kernel
theorem dX10_write_127 : decode cX10_write 127 = .ok (.istore_n 1, 1) := by decide +kernel
theorem dX10_write_128 : decode cX10_write 128 = .ok (.iconst 0, 1) := by decide +kernel
theorem dX10_write_129 : decode cX10_write 129 = .ok (.istore_n 2, 1) := by decide +kernel
theorem dX10_write_130 : decode cX10_write 130 = .ok (.iload_n 2, 1) := by decide +kernel
theorem dX10_write_131 : decode cX10_write 131 = .ok (.aload_n 0, 1) := by decide +kernel
theorem dX10_write_132 : decode cX10_write 132 = .ok (.getfield 113, 3) := by decide +kernel
theorem dX10_write_135 : decode cX10_write 135 = .ok (.if_icmp .ge 92, 3) := by decide +kernel
theorem dX10_write_138 : decode cX10_write 138 = .ok (.aload_n 0, 1) := by decide +kernel
theorem dX10_write_139 : decode cX10_write 139 = .ok (.aload_n 0, 1) := by decide +kernel
theorem dX10_write_140 : decode cX10_write 140 = .ok (.getfield 16, 3) := by decide +kernel
theorem dX10_write_143 : decode cX10_write 143 = .ok (.iload_n 2, 1) := by decide +kernel
theorem dX10_write_144 : decode cX10_write 144 = .ok (.iaload, 1) := by decide +kernel
theorem dX10_write_145 : decode cX10_write 145 = .ok (.i2l, 1) := by decide +kernel
theorem dX10_write_146 : decode cX10_write 146 = .ok (.iconst 4, 1) := by decide +kernel
theorem dX10_write_147 : decode cX10_write 147 = .ok (.invokevirtual 220, 3) := by decide +kernel
theorem dX10_write_150 : decode cX10_write 150 = .ok (.aload_n 0, 1) := by decide +kernel
theorem dX10_write_151 : decode cX10_write 151 = .ok (.aload_n 0, 1) := by decide +kernel
theorem dX10_write_152 : decode cX10_write 152 = .ok (.getfield 19, 3) := by decide +kernel
theorem dX10_write_155 : decode cX10_write 155 = .ok (.iload_n 2, 1) := by decide +kernel
theorem dX10_write_156 : decode cX10_write 156 = .ok (.iaload, 1) := by decide +kernel
theorem dX10_write_157 : decode cX10_write 157 = .ok (.i2l, 1) := by decide +kernel
theorem dX10_write_158 : decode cX10_write 158 = .ok (.iconst 4, 1) := by decide +kernel
theorem dX10_write_159 : decode cX10_write 159 = .ok (.invokevirtual 220, 3) := by decide +kernel
theorem dX10_write_162 : decode cX10_write 162 = .ok (.iconst 0, 1) := by decide +kernel
theorem dX10_write_163 : decode cX10_write 163 = .ok (.istore_n 3, 1) := by decide +kernel
theorem dX10_write_164 : decode cX10_write 164 = .ok (.iload_n 3, 1) := by decide +kernel
theorem dX10_write_165 : decode cX10_write 165 = .ok (.aload_n 0, 1) := by decide +kernel
theorem dX10_write_166 : decode cX10_write 166 = .ok (.getfield 19, 3) := by decide +kernel
theorem dX10_write_169 : decode cX10_write 169 = .ok (.iload_n 2, 1) := by decide +kernel
theorem dX10_write_170 : decode cX10_write 170 = .ok (.iaload, 1) := by decide +kernel
theorem dX10_write_171 : decode cX10_write 171 = .ok (.if_icmp .ge 23, 3) := by decide +kernel
theorem dX10_write_174 : decode cX10_write 174 = .ok (.aload_n 0, 1) := by decide +kernel
theorem dX10_write_175 : decode cX10_write 175 = .ok (.aload_n 0, 1) := by decide +kernel
theorem dX10_write_176 : decode cX10_write 176 = .ok (.getfield 13, 3) := by decide +kernel
theorem dX10_write_179 : decode cX10_write 179 = .ok (.iload_n 1, 1) := by decide +kernel
theorem dX10_write_180 : decode cX10_write 180 = .ok (.iload_n 3, 1) := by decide +kernel
theorem dX10_write_181 : decode cX10_write 181 = .ok (.iadd, 1) := by decide +kernel
theorem dX10_write_182 : decode cX10_write 182 = .ok (.iaload, 1) := by decide +kernel
theorem dX10_write_183 : decode cX10_write 183 = .ok (.i2l, 1) := by decide +kernel
theorem dX10_write_184 : decode cX10_write 184 = .ok (.iconst 1, 1) := by decide +kernel
theorem dX10_write_185 : decode cX10_write 185 = .ok (.invokevirtual 220, 3) := by decide +kernel
theorem dX10_write_188 : decode cX10_write 188 = .ok (.iinc 3 1, 3) := by decide +kernel
theorem dX10_write_191 : decode cX10_write 191 = .ok (.goto (-27), 3) := by decide +kernel
theorem dX10_write_194 : decode cX10_write 194 = .ok (.iload_n 1, 1) := by decide +kernel
theorem dX10_write_195 : decode cX10_write 195 = .ok (.aload_n 0, 1) := by decide +kernel
theorem dX10_write_196 : decode cX10_write 196 = .ok (.getfield 19, 3) := by decide +kernel
theorem dX10_write_199 : decode cX10_write 199 = .ok (.iload_n 2, 1) := by decide +kernel
theorem dX10_write_200 : decode cX10_write 200 = .ok (.iaload, 1) := by decide +kernel
theorem dX10_write_201 : decode cX10_write 201 = .ok (.iadd, 1) := by decide +kernel
theorem dX10_write_202 : decode cX10_write 202 = .ok (.istore_n 1, 1) := by decide +kernel
theorem dX10_write_203 : decode cX10_write 203 = .ok (.aload_n 0, 1) := by decide +kernel
theorem dX10_write_204 : decode cX10_write 204 = .ok (.getfield 19, 3) := by decide +kernel
theorem dX10_write_207 : decode cX10_write 207 = .ok (.iload_n 2, 1) := by decide +kernel
theorem dX10_write_208 : decode cX10_write 208 = .ok (.iaload, 1) := by decide +kernel
theorem dX10_write_209 : decode cX10_write 209 = .ok (.iconst 2, 1) := by decide +kernel
theorem dX10_write_210 : decode cX10_write 210 = .ok (.irem, 1) := by decide +kernel
theorem dX10_write_211 : decode cX10_write 211 = .ok (.iconst 1, 1) := by decide +kernel
theorem dX10_write_212 : decode cX10_write 212 = .ok (.if_icmp .ne 9, 3) := by decide +kernel
theorem dX10_write_215 : decode cX10_write 215 = .ok (.aload_n 0, 1) := by decide +kernel
theorem dX10_write_216 : decode cX10_write 216 = .ok (.lconst 0, 1) := by decide +kernel
theorem dX10_write_217 : decode cX10_write 217 = .ok (.iconst 1, 1) := by decide +kernel
theorem dX10_write_218 : decode cX10_write 218 = .ok (.invokevirtual 220, 3) := by decide +kernel
theorem dX10_write_221 : decode cX10_write 221 = .ok (.iinc 2 1, 3) := by decide +kernel
theorem dX10_write_224 : decode cX10_write 224 = .ok (.goto (-94), 3) := by decide +kernel
theorem dX10_write_227 : decode cX10_write 227 = .ok (.aload_n 0, 1) := by decide +kernel
theorem dX10_write_228 : decode cX10_write 228 = .ok (.getfield 122, 3) := by decide +kernel
theorem dX10_write_231 : decode cX10_write 231 = .ok (.ireturn, 1) := by decide +kernel
set_option maxRecDepth 20000 in
theorem ggX10_out_X10_in : GoodIn wsX10_out wsX10_in := goodIn_r _ [6] (by decide +kernel) (by decide +kernel)
set_option maxRecDepth 20000 in
theorem gX10_out_X10_in : GoodIn wsX10_out (va_wsS RX10 44 yX10_in wsX10_in) := goodIn_app (goodIn_of _ (by decide +kernel)) ggX10_out_X10_in
theorem dX10_out_0 : decode cX10_out 0 = .ok (.iload_n 1, 1) := by decide +kernel
theorem dX10_out_1 : decode cX10_out 1 = .ok (.i2l, 1) := by decide +kernel
theorem dX10_out_2 : decode cX10_out 2 = .ok (.lconst 0, 1) := by decide +kernel
theorem dX10_out_3 : decode cX10_out 3 = .ok (.aload_n 0, 1) := by decide +kernel
theorem dX10_out_4 : decode cX10_out 4 = .ok (.getfield 122, 3) := by decide +kernel
theorem dX10_out_7 : decode cX10_out 7 = .ok (.iconst 1, 1) := by decide +kernel
theorem dX10_out_8 : decode cX10_out 8 = .ok (.isub, 1) := by decide +kernel
theorem dX10_out_9 : decode cX10_out 9 = .ok (.i2l, 1) := by decide +kernel
theorem dX10_out_10 : decode cX10_out 10 = .ok (.invokestatic 44, 3) := by decide +kernel
theorem dX10_out_13 : decode cX10_out 13 = .ok (.ifCond .eq 12, 3) := by decide +kernel
theorem dX10_out_16 : decode cX10_out 16 = .ok (.aload_n 0, 1) := by decide +kernel
theorem dX10_out_17 : decode cX10_out 17 = .ok (.getfield 32, 3) := by decide +kernel
theorem dX10_out_20 : decode cX10_out 20 = .ok (.iload_n 1, 1) := by decide +kernel
theorem dX10_out_21 : decode cX10_out 21 = .ok (.iaload, 1) := by decide +kernel
theorem dX10_out_22 : decode cX10_out 22 = .ok (.goto 4, 3) := by decide +kernel
theorem dX10_out_25 : decode cX10_out 25 = .ok (.iconst (-1), 1) := by decide +kernel
theorem dX10_out_26 : decode cX10_out 26 = .ok (.ireturn, 1) := by decide +kernel
theorem dX10_back_0 : decode cX10_back 0 = .ok (.aload_n 0, 1) := by decide +kernel
theorem dX10_back_1 : decode cX10_back 1 = .ok (.getfield 122, 3) := by decide +kernel
theorem dX10_back_4 : decode cX10_back 4 = .ok (.sipush 6000, 3) := by decide +kernel
theorem dX10_back_7 : decode cX10_back 7 = .ok (.if_icmp .le 6, 3) := by decide +kernel
theorem dX10_back_10 : decode cX10_back 10 = .ok (.bipush (-4), 2) := by decide +kernel
theorem dX10_back_12 : decode cX10_back 12 = .ok (.ireturn, 1) := by decide +kernel
theorem dX10_back_13 : decode cX10_back 13 = .ok (.iconst 0, 1) := by decide +kernel
theorem dX10_back_14 : decode cX10_back 14 = .ok (.istore_n 1, 1) := by decide +kernel
theorem dX10_back_15 : decode cX10_back 15 = .ok (.iload_n 1, 1) := by decide +kernel
theorem dX10_back_16 : decode cX10_back 16 = .ok (.aload_n 0, 1) := by decide +kernel
theorem dX10_back_17 : decode cX10_back 17 = .ok (.getfield 122, 3) := by decide +kernel
theorem dX10_back_20 : decode cX10_back 20 = .ok (.if_icmp .ge 21, 3) := by decide +kernel
theorem dX10_back_23 : decode cX10_back 23 = .ok (.aload_n 0, 1) := by decide +kernel
theorem dX10_back_24 : decode cX10_back 24 = .ok (.getfield 7, 3) := by decide +kernel
theorem dX10_back_27 : decode cX10_back 27 = .ok (.iload_n 1, 1) := by decide +kernel
theorem dX10_back_28 : decode cX10_back 28 = .ok (.aload_n 0, 1) := by decide +kernel
theorem dX10_back_29 : decode cX10_back 29 = .ok (.getfield 32, 3) := by decide +kernel
theorem dX10_back_32 : decode cX10_back 32 = .ok (.iload_n 1, 1) := by decide +kernel
theorem dX10_back_33 : decode cX10_back 33 = .ok (.iaload, 1) := by decide +kernel
theorem dX10_back_34 : decode cX10_back 34 = .ok (.iastore, 1) := by decide +kernel
theorem dX10_back_35 : decode cX10_back 35 = .ok (.iinc 1 1, 3) := by decide +kernel
theorem dX10_back_38 : decode cX10_back 38 = .ok (.goto (-23), 3) := by decide +kernel
theorem dX10_back_41 : decode cX10_back 41 = .ok (.aload_n 0, 1) := by decide +kernel
theorem dX10_back_42 : decode cX10_back 42 = .ok (.aload_n 0, 1) := by decide +kernel
theorem dX10_back_43 : decode cX10_back 43 = .ok (.getfield 122, 3) := by decide +kernel
theorem dX10_back_46 : decode cX10_back 46 = .ok (.putfield 58, 3) := by decide +kernel
theorem dX10_back_49 : decode cX10_back 49 = .ok (.aload_n 0, 1) := by decide +kernel
theorem dX10_back_50 : decode cX10_back 50 = .ok (.getfield 58, 3) := by decide +kernel
theorem dX10_back_53 : decode cX10_back 53 = .ok (.ireturn, 1) := by decide +kernel
theorem dJ9_max_7cf53_0 : decode cJ9_max_7cf53 0 = .ok (.iload_n 0, 1) := by decide +kernel
theorem dJ9_max_7cf53_1 : decode cJ9_max_7cf53 1 = .ok (.iload_n 1, 1) := by decide +kernel
theorem dJ9_max_7cf53_2 : decode cJ9_max_7cf53 2 = .ok (.if_icmp .lt 7, 3) := by decide +kernel
theorem dJ9_max_7cf53_5 : decode cJ9_max_7cf53 5 = .ok (.iload_n 0, 1) := by decide +kernel
theorem dJ9_max_7cf53_6 : decode cJ9_max_7cf53 6 = .ok (.goto 4, 3) := by decide +kernel
theorem dJ9_max_7cf53_9 : decode cJ9_max_7cf53 9 = .ok (.iload_n 1, 1) := by decide +kernel
theorem dJ9_max_7cf53_10 : decode cJ9_max_7cf53 10 = .ok (.ireturn, 1) := by decide +kernel
