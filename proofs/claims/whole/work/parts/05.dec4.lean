theorem dX10_jpeg_253 : decode cX10_jpeg 253 = .ok (.iadd, 1) := by decide +kernel
theorem dX10_jpeg_254 : decode cX10_jpeg 254 = .ok (.iload_n 3, 1) := by decide +kernel
theorem dX10_jpeg_255 : decode cX10_jpeg 255 = .ok (.ifCond .ne 7, 3) := by decide +kernel
theorem dX10_jpeg_258 : decode cX10_jpeg 258 = .ok (.iconst 5, 1) := by decide +kernel
theorem dX10_jpeg_259 : decode cX10_jpeg 259 = .ok (.goto 4, 3) := by decide +kernel
theorem dX10_jpeg_262 : decode cX10_jpeg 262 = .ok (.iconst 3, 1) := by decide +kernel
theorem dX10_jpeg_263 : decode cX10_jpeg 263 = .ok (.iadd, 1) := by decide +kernel
theorem dX10_jpeg_264 : decode cX10_jpeg 264 = .ok (.invokestatic 170, 3) := by decide +kernel
theorem dX10_jpeg_267 : decode cX10_jpeg 267 = .ok (.i2l, 1) := by decide +kernel
theorem dX10_jpeg_268 : decode cX10_jpeg 268 = .ok (.goto 6, 3) := by decide +kernel
theorem dX10_jpeg_271 : decode cX10_jpeg 271 = .ok (.ldc2_w 164, 3) := by decide +kernel
theorem dX10_jpeg_274 : decode cX10_jpeg 274 = .ok (.lreturn, 1) := by decide +kernel
theorem dX10_jpeg_275 : decode cX10_jpeg 275 = .ok (.iload 4, 2) := by decide +kernel
theorem dX10_jpeg_277 : decode cX10_jpeg 277 = .ok (.iload 6, 2) := by decide +kernel
theorem dX10_jpeg_279 : decode cX10_jpeg 279 = .ok (.iadd, 1) := by decide +kernel
theorem dX10_jpeg_280 : decode cX10_jpeg 280 = .ok (.istore 4, 2) := by decide +kernel
theorem dX10_jpeg_282 : decode cX10_jpeg 282 = .ok (.goto (-244), 3) := by decide +kernel
theorem dX10_jpeg_285 : decode cX10_jpeg 285 = .ok (.ldc2_w 164, 3) := by decide +kernel
theorem dX10_jpeg_288 : decode cX10_jpeg 288 = .ok (.lreturn, 1) := by decide +kernel
set_option maxRecDepth 20000 in
theorem ggX10_isPng_X10_kindIn : GoodIn wsX10_isPng wsX10_kindIn := goodIn_r _ [8] (by decide +kernel) (by decide +kernel)
set_option maxRecDepth 20000 in
theorem gX10_isPng_X10_kindIn : GoodIn wsX10_isPng (va_wsS RX10 63 yX10_kindIn wsX10_kindIn) := goodIn_app (goodIn_of _ (by decide +kernel)) ggX10_isPng_X10_kindIn
theorem dX10_isPng_0 : decode cX10_isPng 0 = .ok (.iload_n 2, 1) := by decide +kernel
theorem dX10_isPng_1 : decode cX10_isPng 1 = .ok (.bipush 24, 2) := by decide +kernel
theorem dX10_isPng_3 : decode cX10_isPng 3 = .ok (.if_icmp .lt 51, 3) := by decide +kernel
theorem dX10_isPng_6 : decode cX10_isPng 6 = .ok (.aload_n 0, 1) := by decide +kernel
theorem dX10_isPng_7 : decode cX10_isPng 7 = .ok (.getfield 13, 3) := by decide +kernel
theorem dX10_isPng_10 : decode cX10_isPng 10 = .ok (.iload_n 1, 1) := by decide +kernel
theorem dX10_isPng_11 : decode cX10_isPng 11 = .ok (.invokestatic 63, 3) := by decide +kernel
theorem dX10_isPng_14 : decode cX10_isPng 14 = .ok (.ldc 177, 2) := by decide +kernel
theorem dX10_isPng_16 : decode cX10_isPng 16 = .ok (.if_icmp .ne 38, 3) := by decide +kernel
theorem dX10_isPng_19 : decode cX10_isPng 19 = .ok (.aload_n 0, 1) := by decide +kernel
theorem dX10_isPng_20 : decode cX10_isPng 20 = .ok (.getfield 13, 3) := by decide +kernel
theorem dX10_isPng_23 : decode cX10_isPng 23 = .ok (.iload_n 1, 1) := by decide +kernel
theorem dX10_isPng_24 : decode cX10_isPng 24 = .ok (.iconst 4, 1) := by decide +kernel
theorem dX10_isPng_25 : decode cX10_isPng 25 = .ok (.iadd, 1) := by decide +kernel
theorem dX10_isPng_26 : decode cX10_isPng 26 = .ok (.invokestatic 63, 3) := by decide +kernel
theorem dX10_isPng_29 : decode cX10_isPng 29 = .ok (.ldc 178, 2) := by decide +kernel
theorem dX10_isPng_31 : decode cX10_isPng 31 = .ok (.if_icmp .ne 23, 3) := by decide +kernel
theorem dX10_isPng_34 : decode cX10_isPng 34 = .ok (.aload_n 0, 1) := by decide +kernel
theorem dX10_isPng_35 : decode cX10_isPng 35 = .ok (.getfield 13, 3) := by decide +kernel
theorem dX10_isPng_38 : decode cX10_isPng 38 = .ok (.iload_n 1, 1) := by decide +kernel
theorem dX10_isPng_39 : decode cX10_isPng 39 = .ok (.bipush 12, 2) := by decide +kernel
theorem dX10_isPng_41 : decode cX10_isPng 41 = .ok (.iadd, 1) := by decide +kernel
theorem dX10_isPng_42 : decode cX10_isPng 42 = .ok (.invokestatic 63, 3) := by decide +kernel
theorem dX10_isPng_45 : decode cX10_isPng 45 = .ok (.ldc 179, 2) := by decide +kernel
theorem dX10_isPng_47 : decode cX10_isPng 47 = .ok (.if_icmp .ne 7, 3) := by decide +kernel
theorem dX10_isPng_50 : decode cX10_isPng 50 = .ok (.iconst 1, 1) := by decide +kernel
theorem dX10_isPng_51 : decode cX10_isPng 51 = .ok (.goto 4, 3) := by decide +kernel
theorem dX10_isPng_54 : decode cX10_isPng 54 = .ok (.iconst 0, 1) := by decide +kernel
theorem dX10_isPng_55 : decode cX10_isPng 55 = .ok (.ireturn, 1) := by decide +kernel
set_option maxRecDepth 20000 in
theorem ggX10_sizeOf_X10_fromOf : GoodIn wsX10_sizeOf wsX10_fromOf := goodIn_r _ [12, 3, 41, 42, 43, 44, 45, 46, 47, 48, 49, 50, 51, 52, 53, 54, 55, 56, 57, 58] (by decide +kernel) (by decide +kernel)
set_option maxRecDepth 20000 in
theorem gX10_sizeOf_X10_fromOf : GoodIn wsX10_sizeOf (wsV RX10 136 RX10 yX10_fromOf wsX10_fromOf) := goodIn_app (goodIn_of _ (by decide +kernel)) ggX10_sizeOf_X10_fromOf
set_option maxRecDepth 20000 in
theorem ggX10_sizeOf_X10_four : GoodIn wsX10_sizeOf wsX10_four := goodIn_r _ [15, 16, 17, 18, 11, 19] (by decide +kernel) (by decide +kernel)
set_option maxRecDepth 20000 in
theorem gX10_sizeOf_X10_four : GoodIn wsX10_sizeOf (va_wsS RX10 75 yX10_four wsX10_four) := goodIn_app (goodIn_of _ (by decide +kernel)) ggX10_sizeOf_X10_four
set_option maxRecDepth 20000 in
theorem ggX10_sizeOf_X10_isPng : GoodIn wsX10_sizeOf wsX10_isPng := goodIn_r _ [23, 4, 24, 25, 26, 17, 18, 11, 19, 41, 42, 43, 44, 45, 46, 47, 48, 49, 50, 51, 52, 53, 54, 55, 56, 57, 58] (by decide +kernel) (by decide +kernel)
set_option maxRecDepth 20000 in
theorem gX10_sizeOf_X10_isPng : GoodIn wsX10_sizeOf (wsV RX10 180 RX10 yX10_isPng wsX10_isPng) := goodIn_app (goodIn_of _ (by decide +kernel)) ggX10_sizeOf_X10_isPng
set_option maxRecDepth 20000 in
theorem ggX10_sizeOf_X10_jpeg : GoodIn wsX10_sizeOf wsX10_jpeg := goodIn_r _ [30, 4, 5, 31, 32, 33, 34, 35, 36, 11, 37, 38, 39, 40, 41, 42, 43, 44, 45, 46, 47, 48, 49, 50, 51, 52, 53, 54, 55, 56, 57, 58] (by decide +kernel) (by decide +kernel)
set_option maxRecDepth 20000 in
theorem gX10_sizeOf_X10_jpeg : GoodIn wsX10_sizeOf (wsV RX10 183 RX10 yX10_jpeg wsX10_jpeg) := goodIn_app (goodIn_of _ (by decide +kernel)) ggX10_sizeOf_X10_jpeg
theorem dX10_sizeOf_0 : decode cX10_sizeOf 0 = .ok (.aload_n 0, 1) := by decide +kernel
theorem dX10_sizeOf_1 : decode cX10_sizeOf 1 = .ok (.iload_n 1, 1) := by decide +kernel
theorem dX10_sizeOf_2 : decode cX10_sizeOf 2 = .ok (.invokevirtual 136, 3) := by decide +kernel
theorem dX10_sizeOf_5 : decode cX10_sizeOf 5 = .ok (.istore_n 3, 1) := by decide +kernel
theorem dX10_sizeOf_6 : decode cX10_sizeOf 6 = .ok (.aload_n 0, 1) := by decide +kernel
theorem dX10_sizeOf_7 : decode cX10_sizeOf 7 = .ok (.getfield 16, 3) := by decide +kernel
theorem dX10_sizeOf_10 : decode cX10_sizeOf 10 = .ok (.iload_n 1, 1) := by decide +kernel
theorem dX10_sizeOf_11 : decode cX10_sizeOf 11 = .ok (.iaload, 1) := by decide +kernel
theorem dX10_sizeOf_12 : decode cX10_sizeOf 12 = .ok (.ldc 141, 2) := by decide +kernel
theorem dX10_sizeOf_14 : decode cX10_sizeOf 14 = .ok (.if_icmp .ne 33, 3) := by decide +kernel
theorem dX10_sizeOf_17 : decode cX10_sizeOf 17 = .ok (.aload_n 0, 1) := by decide +kernel
theorem dX10_sizeOf_18 : decode cX10_sizeOf 18 = .ok (.getfield 19, 3) := by decide +kernel
theorem dX10_sizeOf_21 : decode cX10_sizeOf 21 = .ok (.iload_n 1, 1) := by decide +kernel
theorem dX10_sizeOf_22 : decode cX10_sizeOf 22 = .ok (.iaload, 1) := by decide +kernel
theorem dX10_sizeOf_23 : decode cX10_sizeOf 23 = .ok (.bipush 8, 2) := by decide +kernel
theorem dX10_sizeOf_25 : decode cX10_sizeOf 25 = .ok (.if_icmp .lt 18, 3) := by decide +kernel
theorem dX10_sizeOf_28 : decode cX10_sizeOf 28 = .ok (.aload_n 0, 1) := by decide +kernel
theorem dX10_sizeOf_29 : decode cX10_sizeOf 29 = .ok (.getfield 13, 3) := by decide +kernel
theorem dX10_sizeOf_32 : decode cX10_sizeOf 32 = .ok (.iload_n 3, 1) := by decide +kernel
theorem dX10_sizeOf_33 : decode cX10_sizeOf 33 = .ok (.iconst 4, 1) := by decide +kernel
theorem dX10_sizeOf_34 : decode cX10_sizeOf 34 = .ok (.iload_n 2, 1) := by decide +kernel
theorem dX10_sizeOf_35 : decode cX10_sizeOf 35 = .ok (.imul, 1) := by decide +kernel
theorem dX10_sizeOf_36 : decode cX10_sizeOf 36 = .ok (.iadd, 1) := by decide +kernel
theorem dX10_sizeOf_37 : decode cX10_sizeOf 37 = .ok (.invokestatic 75, 3) := by decide +kernel
theorem dX10_sizeOf_40 : decode cX10_sizeOf 40 = .ok (.goto 6, 3) := by decide +kernel
theorem dX10_sizeOf_43 : decode cX10_sizeOf 43 = .ok (.ldc2_w 164, 3) := by decide +kernel
theorem dX10_sizeOf_46 : decode cX10_sizeOf 46 = .ok (.lreturn, 1) := by decide +kernel
theorem dX10_sizeOf_47 : decode cX10_sizeOf 47 = .ok (.aload_n 0, 1) := by decide +kernel
theorem dX10_sizeOf_48 : decode cX10_sizeOf 48 = .ok (.getfield 16, 3) := by decide +kernel
theorem dX10_sizeOf_51 : decode cX10_sizeOf 51 = .ok (.iload_n 1, 1) := by decide +kernel
theorem dX10_sizeOf_52 : decode cX10_sizeOf 52 = .ok (.iaload, 1) := by decide +kernel
theorem dX10_sizeOf_53 : decode cX10_sizeOf 53 = .ok (.ldc 139, 2) := by decide +kernel
theorem dX10_sizeOf_55 : decode cX10_sizeOf 55 = .ok (.if_icmp .ne 39, 3) := by decide +kernel
theorem dX10_sizeOf_58 : decode cX10_sizeOf 58 = .ok (.aload_n 0, 1) := by decide +kernel
theorem dX10_sizeOf_59 : decode cX10_sizeOf 59 = .ok (.iload_n 3, 1) := by decide +kernel
theorem dX10_sizeOf_60 : decode cX10_sizeOf 60 = .ok (.aload_n 0, 1) := by decide +kernel
theorem dX10_sizeOf_61 : decode cX10_sizeOf 61 = .ok (.getfield 19, 3) := by decide +kernel
theorem dX10_sizeOf_64 : decode cX10_sizeOf 64 = .ok (.iload_n 1, 1) := by decide +kernel
theorem dX10_sizeOf_65 : decode cX10_sizeOf 65 = .ok (.iaload, 1) := by decide +kernel
theorem dX10_sizeOf_66 : decode cX10_sizeOf 66 = .ok (.invokevirtual 180, 3) := by decide +kernel
theorem dX10_sizeOf_69 : decode cX10_sizeOf 69 = .ok (.ifCond .eq 21, 3) := by decide +kernel
theorem dX10_sizeOf_72 : decode cX10_sizeOf 72 = .ok (.aload_n 0, 1) := by decide +kernel
theorem dX10_sizeOf_73 : decode cX10_sizeOf 73 = .ok (.getfield 13, 3) := by decide +kernel
theorem dX10_sizeOf_76 : decode cX10_sizeOf 76 = .ok (.iload_n 3, 1) := by decide +kernel
theorem dX10_sizeOf_77 : decode cX10_sizeOf 77 = .ok (.bipush 16, 2) := by decide +kernel
theorem dX10_sizeOf_79 : decode cX10_sizeOf 79 = .ok (.iadd, 1) := by decide +kernel
theorem dX10_sizeOf_80 : decode cX10_sizeOf 80 = .ok (.iconst 4, 1) := by decide +kernel
theorem dX10_sizeOf_81 : decode cX10_sizeOf 81 = .ok (.iload_n 2, 1) := by decide +kernel
theorem dX10_sizeOf_82 : decode cX10_sizeOf 82 = .ok (.imul, 1) := by decide +kernel
theorem dX10_sizeOf_83 : decode cX10_sizeOf 83 = .ok (.iadd, 1) := by decide +kernel
theorem dX10_sizeOf_84 : decode cX10_sizeOf 84 = .ok (.invokestatic 75, 3) := by decide +kernel
theorem dX10_sizeOf_87 : decode cX10_sizeOf 87 = .ok (.goto 6, 3) := by decide +kernel
theorem dX10_sizeOf_90 : decode cX10_sizeOf 90 = .ok (.ldc2_w 164, 3) := by decide +kernel
theorem dX10_sizeOf_93 : decode cX10_sizeOf 93 = .ok (.lreturn, 1) := by decide +kernel
theorem dX10_sizeOf_94 : decode cX10_sizeOf 94 = .ok (.aload_n 0, 1) := by decide +kernel
theorem dX10_sizeOf_95 : decode cX10_sizeOf 95 = .ok (.getfield 16, 3) := by decide +kernel
theorem dX10_sizeOf_98 : decode cX10_sizeOf 98 = .ok (.iload_n 1, 1) := by decide +kernel
theorem dX10_sizeOf_99 : decode cX10_sizeOf 99 = .ok (.iaload, 1) := by decide +kernel
theorem dX10_sizeOf_100 : decode cX10_sizeOf 100 = .ok (.ldc 140, 2) := by decide +kernel
theorem dX10_sizeOf_102 : decode cX10_sizeOf 102 = .ok (.if_icmp .ne 18, 3) := by decide +kernel
theorem dX10_sizeOf_105 : decode cX10_sizeOf 105 = .ok (.aload_n 0, 1) := by decide +kernel
theorem dX10_sizeOf_106 : decode cX10_sizeOf 106 = .ok (.iload_n 3, 1) := by decide +kernel
theorem dX10_sizeOf_107 : decode cX10_sizeOf 107 = .ok (.aload_n 0, 1) := by decide +kernel
theorem dX10_sizeOf_108 : decode cX10_sizeOf 108 = .ok (.getfield 19, 3) := by decide +kernel
theorem dX10_sizeOf_111 : decode cX10_sizeOf 111 = .ok (.iload_n 1, 1) := by decide +kernel
theorem dX10_sizeOf_112 : decode cX10_sizeOf 112 = .ok (.iaload, 1) := by decide +kernel
theorem dX10_sizeOf_113 : decode cX10_sizeOf 113 = .ok (.iload_n 2, 1) := by decide +kernel
theorem dX10_sizeOf_114 : decode cX10_sizeOf 114 = .ok (.invokevirtual 183, 3) := by decide +kernel
theorem dX10_sizeOf_117 : decode cX10_sizeOf 117 = .ok (.goto 6, 3) := by decide +kernel
theorem dX10_sizeOf_120 : decode cX10_sizeOf 120 = .ok (.ldc2_w 164, 3) := by decide +kernel
theorem dX10_sizeOf_123 : decode cX10_sizeOf 123 = .ok (.lreturn, 1) := by decide +kernel
set_option maxRecDepth 20000 in
theorem ggX10_size_X10_isChunk : GoodIn wsX10_size wsX10_isChunk := goodIn_r _ [6, 7, 8, 9, 5, 10, 51, 52, 53, 54, 55, 56, 57, 58, 59, 60, 61, 62, 63, 64, 65, 66, 67, 68] (by decide +kernel) (by decide +kernel)
set_option maxRecDepth 20000 in
theorem gX10_size_X10_isChunk : GoodIn wsX10_size (wsV RX10 125 RX10 yX10_isChunk wsX10_isChunk) := goodIn_app (goodIn_of _ (by decide +kernel)) ggX10_size_X10_isChunk
set_option maxRecDepth 20000 in
theorem ggX10_size_X10_in : GoodIn wsX10_size wsX10_in := goodIn_r _ [10] (by decide +kernel) (by decide +kernel)
set_option maxRecDepth 20000 in
theorem gX10_size_X10_in : GoodIn wsX10_size (va_wsS RX10 44 yX10_in wsX10_in) := goodIn_app (goodIn_of _ (by decide +kernel)) ggX10_size_X10_in
set_option maxRecDepth 20000 in
theorem ggX10_size_X10_sizeOf : GoodIn wsX10_size wsX10_sizeOf := goodIn_r _ [14, 15, 16, 17, 18, 19, 20, 21, 22, 23, 24, 5, 25, 26, 27, 28, 29, 30, 31, 32, 33, 34, 35, 36, 37, 38, 39, 40, 41, 42, 43, 44, 45, 46, 47, 8, 9, 10, 48, 49, 50, 51, 52, 53, 54, 55, 56, 57, 58, 59, 60, 61, 62, 63, 64, 65, 66, 67, 68] (by decide +kernel) (by decide +kernel)
set_option maxRecDepth 20000 in
theorem gX10_size_X10_sizeOf : GoodIn wsX10_size (wsV RX10 187 RX10 yX10_sizeOf wsX10_sizeOf) := goodIn_app (goodIn_of _ (by decide +kernel)) ggX10_size_X10_sizeOf
theorem dX10_size_0 : decode cX10_size 0 = .ok (.aload_n 0, 1) := by decide +kernel
theorem dX10_size_1 : decode cX10_size 1 = .ok (.iload_n 1, 1) := by decide +kernel
theorem dX10_size_2 : decode cX10_size 2 = .ok (.invokevirtual 125, 3) := by decide +kernel
theorem dX10_size_5 : decode cX10_size 5 = .ok (.ifCond .eq 22, 3) := by decide +kernel
theorem dX10_size_8 : decode cX10_size 8 = .ok (.iload_n 2, 1) := by decide +kernel
theorem dX10_size_9 : decode cX10_size 9 = .ok (.i2l, 1) := by decide +kernel
theorem dX10_size_10 : decode cX10_size 10 = .ok (.lconst 0, 1) := by decide +kernel
theorem dX10_size_11 : decode cX10_size 11 = .ok (.lconst 1, 1) := by decide +kernel
theorem dX10_size_12 : decode cX10_size 12 = .ok (.invokestatic 44, 3) := by decide +kernel
theorem dX10_size_15 : decode cX10_size 15 = .ok (.ifCond .eq 12, 3) := by decide +kernel
theorem dX10_size_18 : decode cX10_size 18 = .ok (.aload_n 0, 1) := by decide +kernel
theorem dX10_size_19 : decode cX10_size 19 = .ok (.iload_n 1, 1) := by decide +kernel
theorem dX10_size_20 : decode cX10_size 20 = .ok (.iload_n 2, 1) := by decide +kernel
theorem dX10_size_21 : decode cX10_size 21 = .ok (.invokevirtual 187, 3) := by decide +kernel
theorem dX10_size_24 : decode cX10_size 24 = .ok (.goto 6, 3) := by decide +kernel
theorem dX10_size_27 : decode cX10_size 27 = .ok (.ldc2_w 150, 3) := by decide +kernel
theorem dX10_size_30 : decode cX10_size 30 = .ok (.lreturn, 1) := by decide +kernel
set_option maxRecDepth 20000 in
theorem ggX10_commOf_X10_fromOf : GoodIn wsX10_commOf wsX10_fromOf := goodIn_r _ [15, 3, 23, 24, 25, 26, 27, 28, 29, 30, 31, 32, 33, 34, 35, 36, 37, 38, 39, 40] (by decide +kernel) (by decide +kernel)
set_option maxRecDepth 20000 in
theorem gX10_commOf_X10_fromOf : GoodIn wsX10_commOf (wsV RX10 136 RX10 yX10_fromOf wsX10_fromOf) := goodIn_app (goodIn_of _ (by decide +kernel)) ggX10_commOf_X10_fromOf
set_option maxRecDepth 20000 in
theorem ggX10_commOf_X10_kindIn : GoodIn wsX10_commOf wsX10_kindIn := goodIn_r _ [18] (by decide +kernel) (by decide +kernel)
set_option maxRecDepth 20000 in
theorem gX10_commOf_X10_kindIn : GoodIn wsX10_commOf (va_wsS RX10 63 yX10_kindIn wsX10_kindIn) := goodIn_app (goodIn_of _ (by decide +kernel)) ggX10_commOf_X10_kindIn
set_option maxRecDepth 20000 in
theorem ggX10_commOf_X10_four : GoodIn wsX10_commOf wsX10_four := goodIn_r _ [21, 22, 16, 17, 14, 18] (by decide +kernel) (by decide +kernel)
set_option maxRecDepth 20000 in
theorem gX10_commOf_X10_four : GoodIn wsX10_commOf (va_wsS RX10 75 yX10_four wsX10_four) := goodIn_app (goodIn_of _ (by decide +kernel)) ggX10_commOf_X10_four
theorem dX10_commOf_0 : decode cX10_commOf 0 = .ok (.aload_n 0, 1) := by decide +kernel
theorem dX10_commOf_1 : decode cX10_commOf 1 = .ok (.iload_n 1, 1) := by decide +kernel
theorem dX10_commOf_2 : decode cX10_commOf 2 = .ok (.invokevirtual 136, 3) := by decide +kernel
theorem dX10_commOf_5 : decode cX10_commOf 5 = .ok (.istore_n 2, 1) := by decide +kernel
theorem dX10_commOf_6 : decode cX10_commOf 6 = .ok (.aload_n 0, 1) := by decide +kernel
theorem dX10_commOf_7 : decode cX10_commOf 7 = .ok (.getfield 16, 3) := by decide +kernel
theorem dX10_commOf_10 : decode cX10_commOf 10 = .ok (.iload_n 1, 1) := by decide +kernel
theorem dX10_commOf_11 : decode cX10_commOf 11 = .ok (.iaload, 1) := by decide +kernel
theorem dX10_commOf_12 : decode cX10_commOf 12 = .ok (.ldc 74, 2) := by decide +kernel
theorem dX10_commOf_14 : decode cX10_commOf 14 = .ok (.if_icmp .ne 26, 3) := by decide +kernel
theorem dX10_commOf_17 : decode cX10_commOf 17 = .ok (.aload_n 0, 1) := by decide +kernel
theorem dX10_commOf_18 : decode cX10_commOf 18 = .ok (.getfield 19, 3) := by decide +kernel
theorem dX10_commOf_21 : decode cX10_commOf 21 = .ok (.iload_n 1, 1) := by decide +kernel
theorem dX10_commOf_22 : decode cX10_commOf 22 = .ok (.iaload, 1) := by decide +kernel
theorem dX10_commOf_23 : decode cX10_commOf 23 = .ok (.iconst 4, 1) := by decide +kernel
theorem dX10_commOf_24 : decode cX10_commOf 24 = .ok (.if_icmp .lt 16, 3) := by decide +kernel
theorem dX10_commOf_27 : decode cX10_commOf 27 = .ok (.aload_n 0, 1) := by decide +kernel
theorem dX10_commOf_28 : decode cX10_commOf 28 = .ok (.getfield 13, 3) := by decide +kernel
theorem dX10_commOf_31 : decode cX10_commOf 31 = .ok (.iload_n 2, 1) := by decide +kernel
theorem dX10_commOf_32 : decode cX10_commOf 32 = .ok (.invokestatic 63, 3) := by decide +kernel
theorem dX10_commOf_35 : decode cX10_commOf 35 = .ok (.ldc 142, 2) := by decide +kernel
theorem dX10_commOf_37 : decode cX10_commOf 37 = .ok (.if_icmp .eq 6, 3) := by decide +kernel
theorem dX10_commOf_40 : decode cX10_commOf 40 = .ok (.bipush (-2), 2) := by decide +kernel
theorem dX10_commOf_42 : decode cX10_commOf 42 = .ok (.ireturn, 1) := by decide +kernel
theorem dX10_commOf_43 : decode cX10_commOf 43 = .ok (.ldc2_w 90, 3) := by decide +kernel
theorem dX10_commOf_46 : decode cX10_commOf 46 = .ok (.lstore_n 3, 1) := by decide +kernel
theorem dX10_commOf_47 : decode cX10_commOf 47 = .ok (.lload_n 3, 1) := by decide +kernel
theorem dX10_commOf_48 : decode cX10_commOf 48 = .ok (.ldc2_w 56, 3) := by decide +kernel
theorem dX10_commOf_51 : decode cX10_commOf 51 = .ok (.ladd, 1) := by decide +kernel
theorem dX10_commOf_52 : decode cX10_commOf 52 = .ok (.aload_n 0, 1) := by decide +kernel
theorem dX10_commOf_53 : decode cX10_commOf 53 = .ok (.getfield 19, 3) := by decide +kernel
theorem dX10_commOf_56 : decode cX10_commOf 56 = .ok (.iload_n 1, 1) := by decide +kernel
theorem dX10_commOf_57 : decode cX10_commOf 57 = .ok (.iaload, 1) := by decide +kernel
theorem dX10_commOf_58 : decode cX10_commOf 58 = .ok (.i2l, 1) := by decide +kernel
theorem dX10_commOf_59 : decode cX10_commOf 59 = .ok (.lcmp, 1) := by decide +kernel
theorem dX10_commOf_60 : decode cX10_commOf 60 = .ok (.ifCond .gt 92, 3) := by decide +kernel
theorem dX10_commOf_63 : decode cX10_commOf 63 = .ok (.iload_n 2, 1) := by decide +kernel
theorem dX10_commOf_64 : decode cX10_commOf 64 = .ok (.lload_n 3, 1) := by decide +kernel
theorem dX10_commOf_65 : decode cX10_commOf 65 = .ok (.l2i, 1) := by decide +kernel
theorem dX10_commOf_66 : decode cX10_commOf 66 = .ok (.iadd, 1) := by decide +kernel
theorem dX10_commOf_67 : decode cX10_commOf 67 = .ok (.istore 5, 2) := by decide +kernel
theorem dX10_commOf_69 : decode cX10_commOf 69 = .ok (.aload_n 0, 1) := by decide +kernel
theorem dX10_commOf_70 : decode cX10_commOf 70 = .ok (.getfield 13, 3) := by decide +kernel
theorem dX10_commOf_73 : decode cX10_commOf 73 = .ok (.iload 5, 2) := by decide +kernel
theorem dX10_commOf_75 : decode cX10_commOf 75 = .ok (.iconst 4, 1) := by decide +kernel
theorem dX10_commOf_76 : decode cX10_commOf 76 = .ok (.iadd, 1) := by decide +kernel
theorem dX10_commOf_77 : decode cX10_commOf 77 = .ok (.invokestatic 75, 3) := by decide +kernel
theorem dX10_commOf_80 : decode cX10_commOf 80 = .ok (.lstore 6, 2) := by decide +kernel
theorem dX10_commOf_82 : decode cX10_commOf 82 = .ok (.lload_n 3, 1) := by decide +kernel
theorem dX10_commOf_83 : decode cX10_commOf 83 = .ok (.ldc2_w 56, 3) := by decide +kernel
theorem dX10_commOf_86 : decode cX10_commOf 86 = .ok (.ladd, 1) := by decide +kernel
theorem dX10_commOf_87 : decode cX10_commOf 87 = .ok (.lload 6, 2) := by decide +kernel
theorem dX10_commOf_89 : decode cX10_commOf 89 = .ok (.ladd, 1) := by decide +kernel
theorem dX10_commOf_90 : decode cX10_commOf 90 = .ok (.aload_n 0, 1) := by decide +kernel
theorem dX10_commOf_91 : decode cX10_commOf 91 = .ok (.getfield 19, 3) := by decide +kernel
theorem dX10_commOf_94 : decode cX10_commOf 94 = .ok (.iload_n 1, 1) := by decide +kernel
theorem dX10_commOf_95 : decode cX10_commOf 95 = .ok (.iaload, 1) := by decide +kernel
theorem dX10_commOf_96 : decode cX10_commOf 96 = .ok (.i2l, 1) := by decide +kernel
theorem dX10_commOf_97 : decode cX10_commOf 97 = .ok (.lcmp, 1) := by decide +kernel
theorem dX10_commOf_98 : decode cX10_commOf 98 = .ok (.ifCond .le 6, 3) := by decide +kernel
theorem dX10_commOf_101 : decode cX10_commOf 101 = .ok (.bipush (-2), 2) := by decide +kernel
theorem dX10_commOf_103 : decode cX10_commOf 103 = .ok (.ireturn, 1) := by decide +kernel
theorem dX10_commOf_104 : decode cX10_commOf 104 = .ok (.aload_n 0, 1) := by decide +kernel
theorem dX10_commOf_105 : decode cX10_commOf 105 = .ok (.getfield 13, 3) := by decide +kernel
theorem dX10_commOf_108 : decode cX10_commOf 108 = .ok (.iload 5, 2) := by decide +kernel
theorem dX10_commOf_110 : decode cX10_commOf 110 = .ok (.invokestatic 63, 3) := by decide +kernel
theorem dX10_commOf_113 : decode cX10_commOf 113 = .ok (.ldc 191, 2) := by decide +kernel
theorem dX10_commOf_115 : decode cX10_commOf 115 = .ok (.if_icmp .ne 18, 3) := by decide +kernel
theorem dX10_commOf_118 : decode cX10_commOf 118 = .ok (.lload 6, 2) := by decide +kernel
theorem dX10_commOf_120 : decode cX10_commOf 120 = .ok (.ldc2_w 192, 3) := by decide +kernel
theorem dX10_commOf_123 : decode cX10_commOf 123 = .ok (.lcmp, 1) := by decide +kernel
theorem dX10_commOf_124 : decode cX10_commOf 124 = .ok (.ifCond .lt 9, 3) := by decide +kernel
theorem dX10_commOf_127 : decode cX10_commOf 127 = .ok (.iload 5, 2) := by decide +kernel
theorem dX10_commOf_129 : decode cX10_commOf 129 = .ok (.bipush 8, 2) := by decide +kernel
theorem dX10_commOf_131 : decode cX10_commOf 131 = .ok (.iadd, 1) := by decide +kernel
theorem dX10_commOf_132 : decode cX10_commOf 132 = .ok (.ireturn, 1) := by decide +kernel
theorem dX10_commOf_133 : decode cX10_commOf 133 = .ok (.lload_n 3, 1) := by decide +kernel
theorem dX10_commOf_134 : decode cX10_commOf 134 = .ok (.ldc2_w 56, 3) := by decide +kernel
theorem dX10_commOf_137 : decode cX10_commOf 137 = .ok (.lload 6, 2) := by decide +kernel
theorem dX10_commOf_139 : decode cX10_commOf 139 = .ok (.ladd, 1) := by decide +kernel
theorem dX10_commOf_140 : decode cX10_commOf 140 = .ok (.lload 6, 2) := by decide +kernel
theorem dX10_commOf_142 : decode cX10_commOf 142 = .ok (.ldc2_w 102, 3) := by decide +kernel
theorem dX10_commOf_145 : decode cX10_commOf 145 = .ok (.lrem, 1) := by decide +kernel
theorem dX10_commOf_146 : decode cX10_commOf 146 = .ok (.ladd, 1) := by decide +kernel
theorem dX10_commOf_147 : decode cX10_commOf 147 = .ok (.ladd, 1) := by decide +kernel
theorem dX10_commOf_148 : decode cX10_commOf 148 = .ok (.lstore_n 3, 1) := by decide +kernel
theorem dX10_commOf_149 : decode cX10_commOf 149 = .ok (.goto (-102), 3) := by decide +kernel
theorem dX10_commOf_152 : decode cX10_commOf 152 = .ok (.bipush (-2), 2) := by decide +kernel
theorem dX10_commOf_154 : decode cX10_commOf 154 = .ok (.ireturn, 1) := by decide +kernel
set_option maxRecDepth 20000 in
theorem ggX10_sound_X10_isChunk : GoodIn wsX10_sound wsX10_isChunk := goodIn_r _ [9, 10, 11, 12, 8, 13, 41, 42, 43, 44, 45, 46, 47, 48, 49, 50, 51, 52, 53, 54, 55, 56, 57, 58] (by decide +kernel) (by decide +kernel)
set_option maxRecDepth 20000 in
theorem gX10_sound_X10_isChunk : GoodIn wsX10_sound (wsV RX10 125 RX10 yX10_isChunk wsX10_isChunk) := goodIn_app (goodIn_of _ (by decide +kernel)) ggX10_sound_X10_isChunk
set_option maxRecDepth 20000 in
theorem ggX10_sound_X10_in : GoodIn wsX10_sound wsX10_in := goodIn_r _ [13] (by decide +kernel) (by decide +kernel)
set_option maxRecDepth 20000 in
theorem gX10_sound_X10_in : GoodIn wsX10_sound (va_wsS RX10 44 yX10_in wsX10_in) := goodIn_app (goodIn_of _ (by decide +kernel)) ggX10_sound_X10_in
set_option maxRecDepth 20000 in
theorem ggX10_sound_X10_commOf : GoodIn wsX10_sound wsX10_commOf := goodIn_r _ [17, 18, 19, 20, 4, 21, 22, 23, 24, 25, 26, 27, 28, 29, 8, 30, 31, 32, 33, 34, 35, 36, 37, 41, 42, 43, 44, 45, 46, 47, 48, 49, 50, 51, 52, 53, 54, 55, 56, 57, 58] (by decide +kernel) (by decide +kernel)
set_option maxRecDepth 20000 in
theorem gX10_sound_X10_commOf : GoodIn wsX10_sound (wsV RX10 194 RX10 yX10_commOf wsX10_commOf) := goodIn_app (goodIn_of _ (by decide +kernel)) ggX10_sound_X10_commOf
set_option maxRecDepth 20000 in
theorem ggX10_sound_X10_two : GoodIn wsX10_sound wsX10_two := goodIn_r _ [40] (by decide +kernel) (by decide +kernel)
set_option maxRecDepth 20000 in
theorem gX10_sound_X10_two : GoodIn wsX10_sound (va_wsS RX10 170 yX10_two wsX10_two) := goodIn_app (goodIn_of _ (by decide +kernel)) ggX10_sound_X10_two
set_option maxRecDepth 20000 in
theorem ggX10_sound_X10_four : GoodIn wsX10_sound wsX10_four := goodIn_r _ [36, 37, 31, 32, 8, 33] (by decide +kernel) (by decide +kernel)
set_option maxRecDepth 20000 in
theorem gX10_sound_X10_four : GoodIn wsX10_sound (va_wsS RX10 75 yX10_four wsX10_four) := goodIn_app (goodIn_of _ (by decide +kernel)) ggX10_sound_X10_four
theorem dX10_sound_0 : decode cX10_sound 0 = .ok (.aload_n 0, 1) := by decide +kernel
theorem dX10_sound_1 : decode cX10_sound 1 = .ok (.iload_n 1, 1) := by decide +kernel
theorem dX10_sound_2 : decode cX10_sound 2 = .ok (.invokevirtual 125, 3) := by decide +kernel
theorem dX10_sound_5 : decode cX10_sound 5 = .ok (.ifCond .eq 15, 3) := by decide +kernel
theorem dX10_sound_8 : decode cX10_sound 8 = .ok (.iload_n 2, 1) := by decide +kernel
theorem dX10_sound_9 : decode cX10_sound 9 = .ok (.i2l, 1) := by decide +kernel
theorem dX10_sound_10 : decode cX10_sound 10 = .ok (.lconst 0, 1) := by decide +kernel
theorem dX10_sound_11 : decode cX10_sound 11 = .ok (.ldc2_w 128, 3) := by decide +kernel
theorem dX10_sound_14 : decode cX10_sound 14 = .ok (.invokestatic 44, 3) := by decide +kernel
theorem dX10_sound_17 : decode cX10_sound 17 = .ok (.ifCond .ne 7, 3) := by decide +kernel
theorem dX10_sound_20 : decode cX10_sound 20 = .ok (.ldc2_w 150, 3) := by decide +kernel
theorem dX10_sound_23 : decode cX10_sound 23 = .ok (.lreturn, 1) := by decide +kernel
theorem dX10_sound_24 : decode cX10_sound 24 = .ok (.aload_n 0, 1) := by decide +kernel
theorem dX10_sound_25 : decode cX10_sound 25 = .ok (.iload_n 1, 1) := by decide +kernel
theorem dX10_sound_26 : decode cX10_sound 26 = .ok (.invokevirtual 194, 3) := by decide +kernel
theorem dX10_sound_29 : decode cX10_sound 29 = .ok (.istore_n 3, 1) := by decide +kernel
theorem dX10_sound_30 : decode cX10_sound 30 = .ok (.iload_n 3, 1) := by decide +kernel
theorem dX10_sound_31 : decode cX10_sound 31 = .ok (.bipush (-2), 2) := by decide +kernel
theorem dX10_sound_33 : decode cX10_sound 33 = .ok (.if_icmp .ne 7, 3) := by decide +kernel
theorem dX10_sound_36 : decode cX10_sound 36 = .ok (.ldc2_w 164, 3) := by decide +kernel
theorem dX10_sound_39 : decode cX10_sound 39 = .ok (.lreturn, 1) := by decide +kernel
theorem dX10_sound_40 : decode cX10_sound 40 = .ok (.iload_n 2, 1) := by decide +kernel
theorem dX10_sound_41 : decode cX10_sound 41 = .ok (.iconst 3, 1) := by decide +kernel
theorem dX10_sound_42 : decode cX10_sound 42 = .ok (.if_icmp .ge 50, 3) := by decide +kernel
theorem dX10_sound_45 : decode cX10_sound 45 = .ok (.iload_n 2, 1) := by decide +kernel
theorem dX10_sound_46 : decode cX10_sound 46 = .ok (.ifCond .ne 15, 3) := by decide +kernel
theorem dX10_sound_49 : decode cX10_sound 49 = .ok (.aload_n 0, 1) := by decide +kernel
theorem dX10_sound_50 : decode cX10_sound 50 = .ok (.getfield 13, 3) := by decide +kernel
theorem dX10_sound_53 : decode cX10_sound 53 = .ok (.iload_n 3, 1) := by decide +kernel
theorem dX10_sound_54 : decode cX10_sound 54 = .ok (.invokestatic 170, 3) := by decide +kernel
theorem dX10_sound_57 : decode cX10_sound 57 = .ok (.i2l, 1) := by decide +kernel
theorem dX10_sound_58 : decode cX10_sound 58 = .ok (.goto 33, 3) := by decide +kernel
theorem dX10_sound_61 : decode cX10_sound 61 = .ok (.iload_n 2, 1) := by decide +kernel
theorem dX10_sound_62 : decode cX10_sound 62 = .ok (.iconst 1, 1) := by decide +kernel
theorem dX10_sound_63 : decode cX10_sound 63 = .ok (.if_icmp .ne 16, 3) := by decide +kernel
theorem dX10_sound_66 : decode cX10_sound 66 = .ok (.aload_n 0, 1) := by decide +kernel
theorem dX10_sound_67 : decode cX10_sound 67 = .ok (.getfield 13, 3) := by decide +kernel
theorem dX10_sound_70 : decode cX10_sound 70 = .ok (.iload_n 3, 1) := by decide +kernel
theorem dX10_sound_71 : decode cX10_sound 71 = .ok (.iconst 2, 1) := by decide +kernel
theorem dX10_sound_72 : decode cX10_sound 72 = .ok (.iadd, 1) := by decide +kernel
theorem dX10_sound_73 : decode cX10_sound 73 = .ok (.invokestatic 75, 3) := by decide +kernel
theorem dX10_sound_76 : decode cX10_sound 76 = .ok (.goto 15, 3) := by decide +kernel
theorem dX10_sound_79 : decode cX10_sound 79 = .ok (.aload_n 0, 1) := by decide +kernel
theorem dX10_sound_80 : decode cX10_sound 80 = .ok (.getfield 13, 3) := by decide +kernel
theorem dX10_sound_83 : decode cX10_sound 83 = .ok (.iload_n 3, 1) := by decide +kernel
theorem dX10_sound_84 : decode cX10_sound 84 = .ok (.bipush 6, 2) := by decide +kernel
theorem dX10_sound_86 : decode cX10_sound 86 = .ok (.iadd, 1) := by decide +kernel
theorem dX10_sound_87 : decode cX10_sound 87 = .ok (.invokestatic 170, 3) := by decide +kernel
theorem dX10_sound_90 : decode cX10_sound 90 = .ok (.i2l, 1) := by decide +kernel
theorem dX10_sound_91 : decode cX10_sound 91 = .ok (.lreturn, 1) := by decide +kernel
theorem dX10_sound_92 : decode cX10_sound 92 = .ok (.aload_n 0, 1) := by decide +kernel
theorem dX10_sound_93 : decode cX10_sound 93 = .ok (.getfield 13, 3) := by decide +kernel
theorem dX10_sound_96 : decode cX10_sound 96 = .ok (.iload_n 3, 1) := by decide +kernel
theorem dX10_sound_97 : decode cX10_sound 97 = .ok (.bipush 8, 2) := by decide +kernel
theorem dX10_sound_99 : decode cX10_sound 99 = .ok (.iadd, 1) := by decide +kernel
theorem dX10_sound_100 : decode cX10_sound 100 = .ok (.invokestatic 170, 3) := by decide +kernel
theorem dX10_sound_103 : decode cX10_sound 103 = .ok (.istore 4, 2) := by decide +kernel
theorem dX10_sound_105 : decode cX10_sound 105 = .ok (.aload_n 0, 1) := by decide +kernel
theorem dX10_sound_106 : decode cX10_sound 106 = .ok (.getfield 13, 3) := by decide +kernel
theorem dX10_sound_109 : decode cX10_sound 109 = .ok (.iload_n 3, 1) := by decide +kernel
theorem dX10_sound_110 : decode cX10_sound 110 = .ok (.bipush 10, 2) := by decide +kernel
theorem dX10_sound_112 : decode cX10_sound 112 = .ok (.iadd, 1) := by decide +kernel
theorem dX10_sound_113 : decode cX10_sound 113 = .ok (.invokestatic 75, 3) := by decide +kernel
theorem dX10_sound_116 : decode cX10_sound 116 = .ok (.bipush 32, 2) := by decide +kernel
theorem dX10_sound_118 : decode cX10_sound 118 = .ok (.lshl, 1) := by decide +kernel
theorem dX10_sound_119 : decode cX10_sound 119 = .ok (.aload_n 0, 1) := by decide +kernel
theorem dX10_sound_120 : decode cX10_sound 120 = .ok (.getfield 13, 3) := by decide +kernel
theorem dX10_sound_123 : decode cX10_sound 123 = .ok (.iload_n 3, 1) := by decide +kernel
theorem dX10_sound_124 : decode cX10_sound 124 = .ok (.bipush 14, 2) := by decide +kernel
theorem dX10_sound_126 : decode cX10_sound 126 = .ok (.iadd, 1) := by decide +kernel
theorem dX10_sound_127 : decode cX10_sound 127 = .ok (.invokestatic 75, 3) := by decide +kernel
theorem dX10_sound_130 : decode cX10_sound 130 = .ok (.lor, 1) := by decide +kernel
theorem dX10_sound_131 : decode cX10_sound 131 = .ok (.lstore 5, 2) := by decide +kernel
theorem dX10_sound_133 : decode cX10_sound 133 = .ok (.sipush 16446, 3) := by decide +kernel
theorem dX10_sound_136 : decode cX10_sound 136 = .ok (.iload 4, 2) := by decide +kernel
theorem dX10_sound_138 : decode cX10_sound 138 = .ok (.isub, 1) := by decide +kernel
theorem dX10_sound_139 : decode cX10_sound 139 = .ok (.istore 7, 2) := by decide +kernel
theorem dX10_sound_141 : decode cX10_sound 141 = .ok (.iload 7, 2) := by decide +kernel
theorem dX10_sound_143 : decode cX10_sound 143 = .ok (.iconst 1, 1) := by decide +kernel
theorem dX10_sound_144 : decode cX10_sound 144 = .ok (.if_icmp .ge 9, 3) := by decide +kernel
theorem dX10_sound_147 : decode cX10_sound 147 = .ok (.ldc2_w 164, 3) := by decide +kernel
theorem dX10_sound_150 : decode cX10_sound 150 = .ok (.goto 19, 3) := by decide +kernel
theorem dX10_sound_153 : decode cX10_sound 153 = .ok (.iload 7, 2) := by decide +kernel
theorem dX10_sound_155 : decode cX10_sound 155 = .ok (.bipush 63, 2) := by decide +kernel
theorem dX10_sound_157 : decode cX10_sound 157 = .ok (.if_icmp .le 7, 3) := by decide +kernel
theorem dX10_sound_160 : decode cX10_sound 160 = .ok (.lconst 0, 1) := by decide +kernel
theorem dX10_sound_161 : decode cX10_sound 161 = .ok (.goto 8, 3) := by decide +kernel
theorem dX10_sound_164 : decode cX10_sound 164 = .ok (.lload 5, 2) := by decide +kernel
theorem dX10_sound_166 : decode cX10_sound 166 = .ok (.iload 7, 2) := by decide +kernel
theorem dX10_sound_168 : decode cX10_sound 168 = .ok (.lushr, 1) := by decide +kernel
theorem dX10_sound_169 : decode cX10_sound 169 = .ok (.lreturn, 1) := by decide +kernel
theorem dX10_first_0 : decode cX10_first 0 = .ok (.bipush (-2), 2) := by decide +kernel
theorem dX10_first_2 : decode cX10_first 2 = .ok (.istore_n 3, 1) := by decide +kernel
theorem dX10_first_3 : decode cX10_first 3 = .ok (.aload_n 0, 1) := by decide +kernel
theorem dX10_first_4 : decode cX10_first 4 = .ok (.getfield 113, 3) := by decide +kernel
theorem dX10_first_7 : decode cX10_first 7 = .ok (.iconst 1, 1) := by decide +kernel
theorem dX10_first_8 : decode cX10_first 8 = .ok (.isub, 1) := by decide +kernel
theorem dX10_first_9 : decode cX10_first 9 = .ok (.istore 4, 2) := by decide +kernel
theorem dX10_first_11 : decode cX10_first 11 = .ok (.iload 4, 2) := by decide +kernel
theorem dX10_first_13 : decode cX10_first 13 = .ok (.ifCond .lt 42, 3) := by decide +kernel
theorem dX10_first_16 : decode cX10_first 16 = .ok (.aload_n 0, 1) := by decide +kernel
theorem dX10_first_17 : decode cX10_first 17 = .ok (.getfield 16, 3) := by decide +kernel
theorem dX10_first_20 : decode cX10_first 20 = .ok (.iload 4, 2) := by decide +kernel
theorem dX10_first_22 : decode cX10_first 22 = .ok (.iaload, 1) := by decide +kernel
theorem dX10_first_23 : decode cX10_first 23 = .ok (.iload_n 1, 1) := by decide +kernel
theorem dX10_first_24 : decode cX10_first 24 = .ok (.if_icmp .ne 23, 3) := by decide +kernel
theorem dX10_first_27 : decode cX10_first 27 = .ok (.iload_n 2, 1) := by decide +kernel
theorem dX10_first_28 : decode cX10_first 28 = .ok (.ifCond .lt 14, 3) := by decide +kernel
theorem dX10_first_31 : decode cX10_first 31 = .ok (.aload_n 0, 1) := by decide +kernel
theorem dX10_first_32 : decode cX10_first 32 = .ok (.getfield 19, 3) := by decide +kernel
theorem dX10_first_35 : decode cX10_first 35 = .ok (.iload 4, 2) := by decide +kernel
theorem dX10_first_37 : decode cX10_first 37 = .ok (.iaload, 1) := by decide +kernel
theorem dX10_first_38 : decode cX10_first 38 = .ok (.iload_n 2, 1) := by decide +kernel
theorem dX10_first_39 : decode cX10_first 39 = .ok (.if_icmp .ne 8, 3) := by decide +kernel
theorem dX10_first_42 : decode cX10_first 42 = .ok (.iload 4, 2) := by decide +kernel
theorem dX10_first_44 : decode cX10_first 44 = .ok (.goto 4, 3) := by decide +kernel
theorem dX10_first_47 : decode cX10_first 47 = .ok (.iload_n 3, 1) := by decide +kernel
theorem dX10_first_48 : decode cX10_first 48 = .ok (.istore_n 3, 1) := by decide +kernel
theorem dX10_first_49 : decode cX10_first 49 = .ok (.iinc 4 (-1), 3) := by decide +kernel
theorem dX10_first_52 : decode cX10_first 52 = .ok (.goto (-41), 3) := by decide +kernel
theorem dX10_first_55 : decode cX10_first 55 = .ok (.iload_n 3, 1) := by decide +kernel
theorem dX10_first_56 : decode cX10_first 56 = .ok (.ireturn, 1) := by decide +kernel
set_option maxRecDepth 20000 in
theorem ggX10_front_X10_first : GoodIn wsX10_front wsX10_first := goodIn_r _ [8, 9, 10, 11, 23, 24, 25, 26, 27, 28, 29, 30, 31, 32, 33, 34, 35, 36, 37, 38, 39, 40] (by decide +kernel) (by decide +kernel)
set_option maxRecDepth 20000 in
theorem gX10_front_X10_first : GoodIn wsX10_front (wsV RX10 198 RX10 yX10_first wsX10_first) := goodIn_app (goodIn_of _ (by decide +kernel)) ggX10_front_X10_first
set_option maxRecDepth 20000 in
theorem ggX10_front_X10_fromOf : GoodIn wsX10_front wsX10_fromOf := goodIn_r _ [15, 11, 23, 24, 25, 26, 27, 28, 29, 30, 31, 32, 33, 34, 35, 36, 37, 38, 39, 40] (by decide +kernel) (by decide +kernel)
set_option maxRecDepth 20000 in
theorem gX10_front_X10_fromOf : GoodIn wsX10_front (wsV RX10 136 RX10 yX10_fromOf wsX10_fromOf) := goodIn_app (goodIn_of _ (by decide +kernel)) ggX10_front_X10_fromOf
set_option maxRecDepth 20000 in
theorem ggX10_front_X10_four : GoodIn wsX10_front wsX10_four := goodIn_r _ [18, 19, 20, 21, 7, 22] (by decide +kernel) (by decide +kernel)
set_option maxRecDepth 20000 in
theorem gX10_front_X10_four : GoodIn wsX10_front (va_wsS RX10 75 yX10_four wsX10_four) := goodIn_app (goodIn_of _ (by decide +kernel)) ggX10_front_X10_four
theorem dX10_front_0 : decode cX10_front 0 = .ok (.aload_n 0, 1) := by decide +kernel
theorem dX10_front_1 : decode cX10_front 1 = .ok (.ldc 197, 2) := by decide +kernel
theorem dX10_front_3 : decode cX10_front 3 = .ok (.iconst 4, 1) := by decide +kernel
theorem dX10_front_4 : decode cX10_front 4 = .ok (.invokevirtual 198, 3) := by decide +kernel
theorem dX10_front_7 : decode cX10_front 7 = .ok (.istore_n 1, 1) := by decide +kernel
theorem dX10_front_8 : decode cX10_front 8 = .ok (.iload_n 1, 1) := by decide +kernel
theorem dX10_front_9 : decode cX10_front 9 = .ok (.bipush (-2), 2) := by decide +kernel
theorem dX10_front_11 : decode cX10_front 11 = .ok (.if_icmp .ne 9, 3) := by decide +kernel
theorem dX10_front_14 : decode cX10_front 14 = .ok (.ldc2_w 164, 3) := by decide +kernel
theorem dX10_front_17 : decode cX10_front 17 = .ok (.goto 15, 3) := by decide +kernel
theorem dX10_front_20 : decode cX10_front 20 = .ok (.aload_n 0, 1) := by decide +kernel
theorem dX10_front_21 : decode cX10_front 21 = .ok (.getfield 13, 3) := by decide +kernel
theorem dX10_front_24 : decode cX10_front 24 = .ok (.aload_n 0, 1) := by decide +kernel
theorem dX10_front_25 : decode cX10_front 25 = .ok (.iload_n 1, 1) := by decide +kernel
theorem dX10_front_26 : decode cX10_front 26 = .ok (.invokevirtual 136, 3) := by decide +kernel
theorem dX10_front_29 : decode cX10_front 29 = .ok (.invokestatic 75, 3) := by decide +kernel
theorem dX10_front_32 : decode cX10_front 32 = .ok (.lreturn, 1) := by decide +kernel
set_option maxRecDepth 20000 in
theorem ggX10_release_X10_first : GoodIn wsX10_release wsX10_first := goodIn_r _ [7, 8, 9, 10, 18, 19, 20, 21, 22, 23, 24, 25, 26, 27, 28, 29, 30, 31, 32, 33, 34, 35] (by decide +kernel) (by decide +kernel)
set_option maxRecDepth 20000 in
theorem gX10_release_X10_first : GoodIn wsX10_release (wsV RX10 198 RX10 yX10_first wsX10_first) := goodIn_app (goodIn_of _ (by decide +kernel)) ggX10_release_X10_first
set_option maxRecDepth 20000 in
theorem ggX10_release_X10_fromOf : GoodIn wsX10_release wsX10_fromOf := goodIn_r _ [14, 10, 18, 19, 20, 21, 22, 23, 24, 25, 26, 27, 28, 29, 30, 31, 32, 33, 34, 35] (by decide +kernel) (by decide +kernel)
set_option maxRecDepth 20000 in
theorem gX10_release_X10_fromOf : GoodIn wsX10_release (wsV RX10 136 RX10 yX10_fromOf wsX10_fromOf) := goodIn_app (goodIn_of _ (by decide +kernel)) ggX10_release_X10_fromOf
set_option maxRecDepth 20000 in
theorem ggX10_release_X10_two : GoodIn wsX10_release wsX10_two := goodIn_r _ [17] (by decide +kernel) (by decide +kernel)
set_option maxRecDepth 20000 in
theorem gX10_release_X10_two : GoodIn wsX10_release (va_wsS RX10 170 yX10_two wsX10_two) := goodIn_app (goodIn_of _ (by decide +kernel)) ggX10_release_X10_two
theorem dX10_release_0 : decode cX10_release 0 = .ok (.aload_n 0, 1) := by decide +kernel
theorem dX10_release_1 : decode cX10_release 1 = .ok (.ldc 202, 2) := by decide +kernel
theorem dX10_release_3 : decode cX10_release 3 = .ok (.iconst 2, 1) := by decide +kernel
theorem dX10_release_4 : decode cX10_release 4 = .ok (.invokevirtual 198, 3) := by decide +kernel
theorem dX10_release_7 : decode cX10_release 7 = .ok (.istore_n 1, 1) := by decide +kernel
theorem dX10_release_8 : decode cX10_release 8 = .ok (.iload_n 1, 1) := by decide +kernel
theorem dX10_release_9 : decode cX10_release 9 = .ok (.bipush (-2), 2) := by decide +kernel
theorem dX10_release_11 : decode cX10_release 11 = .ok (.if_icmp .ne 8, 3) := by decide +kernel
theorem dX10_release_14 : decode cX10_release 14 = .ok (.bipush (-2), 2) := by decide +kernel
theorem dX10_release_16 : decode cX10_release 16 = .ok (.goto 15, 3) := by decide +kernel
theorem dX10_release_19 : decode cX10_release 19 = .ok (.aload_n 0, 1) := by decide +kernel
theorem dX10_release_20 : decode cX10_release 20 = .ok (.getfield 13, 3) := by decide +kernel
theorem dX10_release_23 : decode cX10_release 23 = .ok (.aload_n 0, 1) := by decide +kernel
theorem dX10_release_24 : decode cX10_release 24 = .ok (.iload_n 1, 1) := by decide +kernel
theorem dX10_release_25 : decode cX10_release 25 = .ok (.invokevirtual 136, 3) := by decide +kernel
theorem dX10_release_28 : decode cX10_release 28 = .ok (.invokestatic 170, 3) := by decide +kernel
theorem dX10_release_31 : decode cX10_release 31 = .ok (.ireturn, 1) := by decide +kernel
set_option maxRecDepth 20000 in
theorem ggX10_colour_X10_first : GoodIn wsX10_colour wsX10_first := goodIn_r _ [9, 10, 11, 3, 16, 17, 18, 19, 20, 21, 22, 23, 24, 25, 26, 27, 28, 29, 30, 31, 32, 33] (by decide +kernel) (by decide +kernel)
set_option maxRecDepth 20000 in
theorem gX10_colour_X10_first : GoodIn wsX10_colour (wsV RX10 198 RX10 yX10_first wsX10_first) := goodIn_app (goodIn_of _ (by decide +kernel)) ggX10_colour_X10_first
set_option maxRecDepth 20000 in
theorem ggX10_colour_X10_fromOf : GoodIn wsX10_colour wsX10_fromOf := goodIn_r _ [15, 3, 16, 17, 18, 19, 20, 21, 22, 23, 24, 25, 26, 27, 28, 29, 30, 31, 32, 33] (by decide +kernel) (by decide +kernel)
set_option maxRecDepth 20000 in
theorem gX10_colour_X10_fromOf : GoodIn wsX10_colour (wsV RX10 136 RX10 yX10_fromOf wsX10_fromOf) := goodIn_app (goodIn_of _ (by decide +kernel)) ggX10_colour_X10_fromOf
theorem dX10_colour_0 : decode cX10_colour 0 = .ok (.iload_n 1, 1) := by decide +kernel
theorem dX10_colour_1 : decode cX10_colour 1 = .ok (.ifCond .ge 5, 3) := by decide +kernel
theorem dX10_colour_4 : decode cX10_colour 4 = .ok (.iconst (-1), 1) := by decide +kernel
theorem dX10_colour_5 : decode cX10_colour 5 = .ok (.ireturn, 1) := by decide +kernel
theorem dX10_colour_6 : decode cX10_colour 6 = .ok (.aload_n 0, 1) := by decide +kernel
theorem dX10_colour_7 : decode cX10_colour 7 = .ok (.ldc 203, 2) := by decide +kernel
theorem dX10_colour_9 : decode cX10_colour 9 = .ok (.iconst (-1), 1) := by decide +kernel
theorem dX10_colour_10 : decode cX10_colour 10 = .ok (.invokevirtual 198, 3) := by decide +kernel
theorem dX10_colour_13 : decode cX10_colour 13 = .ok (.istore_n 2, 1) := by decide +kernel
theorem dX10_colour_14 : decode cX10_colour 14 = .ok (.iload_n 2, 1) := by decide +kernel
theorem dX10_colour_15 : decode cX10_colour 15 = .ok (.bipush (-2), 2) := by decide +kernel
theorem dX10_colour_17 : decode cX10_colour 17 = .ok (.if_icmp .eq 24, 3) := by decide +kernel
theorem dX10_colour_20 : decode cX10_colour 20 = .ok (.ldc2_w 128, 3) := by decide +kernel
theorem dX10_colour_23 : decode cX10_colour 23 = .ok (.iload_n 1, 1) := by decide +kernel
theorem dX10_colour_24 : decode cX10_colour 24 = .ok (.i2l, 1) := by decide +kernel
theorem dX10_colour_25 : decode cX10_colour 25 = .ok (.lmul, 1) := by decide +kernel
theorem dX10_colour_26 : decode cX10_colour 26 = .ok (.ldc2_w 128, 3) := by decide +kernel
theorem dX10_colour_29 : decode cX10_colour 29 = .ok (.ladd, 1) := by decide +kernel
theorem dX10_colour_30 : decode cX10_colour 30 = .ok (.aload_n 0, 1) := by decide +kernel
theorem dX10_colour_31 : decode cX10_colour 31 = .ok (.getfield 19, 3) := by decide +kernel
theorem dX10_colour_34 : decode cX10_colour 34 = .ok (.iload_n 2, 1) := by decide +kernel
theorem dX10_colour_35 : decode cX10_colour 35 = .ok (.iaload, 1) := by decide +kernel
theorem dX10_colour_36 : decode cX10_colour 36 = .ok (.i2l, 1) := by decide +kernel
theorem dX10_colour_37 : decode cX10_colour 37 = .ok (.lcmp, 1) := by decide +kernel
theorem dX10_colour_38 : decode cX10_colour 38 = .ok (.ifCond .le 6, 3) := by decide +kernel
theorem dX10_colour_41 : decode cX10_colour 41 = .ok (.bipush (-2), 2) := by decide +kernel
theorem dX10_colour_43 : decode cX10_colour 43 = .ok (.ireturn, 1) := by decide +kernel
theorem dX10_colour_44 : decode cX10_colour 44 = .ok (.aload_n 0, 1) := by decide +kernel
theorem dX10_colour_45 : decode cX10_colour 45 = .ok (.iload_n 2, 1) := by decide +kernel
theorem dX10_colour_46 : decode cX10_colour 46 = .ok (.invokevirtual 136, 3) := by decide +kernel
theorem dX10_colour_49 : decode cX10_colour 49 = .ok (.iconst 3, 1) := by decide +kernel
theorem dX10_colour_50 : decode cX10_colour 50 = .ok (.iload_n 1, 1) := by decide +kernel
theorem dX10_colour_51 : decode cX10_colour 51 = .ok (.imul, 1) := by decide +kernel
theorem dX10_colour_52 : decode cX10_colour 52 = .ok (.iadd, 1) := by decide +kernel
theorem dX10_colour_53 : decode cX10_colour 53 = .ok (.istore_n 3, 1) := by decide +kernel
theorem dX10_colour_54 : decode cX10_colour 54 = .ok (.aload_n 0, 1) := by decide +kernel
theorem dX10_colour_55 : decode cX10_colour 55 = .ok (.getfield 13, 3) := by decide +kernel
theorem dX10_colour_58 : decode cX10_colour 58 = .ok (.iload_n 3, 1) := by decide +kernel
theorem dX10_colour_59 : decode cX10_colour 59 = .ok (.iaload, 1) := by decide +kernel
theorem dX10_colour_60 : decode cX10_colour 60 = .ok (.bipush 16, 2) := by decide +kernel
theorem dX10_colour_62 : decode cX10_colour 62 = .ok (.ishl, 1) := by decide +kernel
theorem dX10_colour_63 : decode cX10_colour 63 = .ok (.aload_n 0, 1) := by decide +kernel
theorem dX10_colour_64 : decode cX10_colour 64 = .ok (.getfield 13, 3) := by decide +kernel
theorem dX10_colour_67 : decode cX10_colour 67 = .ok (.iload_n 3, 1) := by decide +kernel
theorem dX10_colour_68 : decode cX10_colour 68 = .ok (.iconst 1, 1) := by decide +kernel
theorem dX10_colour_69 : decode cX10_colour 69 = .ok (.iadd, 1) := by decide +kernel
theorem dX10_colour_70 : decode cX10_colour 70 = .ok (.iaload, 1) := by decide +kernel
theorem dX10_colour_71 : decode cX10_colour 71 = .ok (.bipush 8, 2) := by decide +kernel
theorem dX10_colour_73 : decode cX10_colour 73 = .ok (.ishl, 1) := by decide +kernel
theorem dX10_colour_74 : decode cX10_colour 74 = .ok (.ior, 1) := by decide +kernel
theorem dX10_colour_75 : decode cX10_colour 75 = .ok (.aload_n 0, 1) := by decide +kernel
theorem dX10_colour_76 : decode cX10_colour 76 = .ok (.getfield 13, 3) := by decide +kernel
theorem dX10_colour_79 : decode cX10_colour 79 = .ok (.iload_n 3, 1) := by decide +kernel
theorem dX10_colour_80 : decode cX10_colour 80 = .ok (.iconst 2, 1) := by decide +kernel
theorem dX10_colour_81 : decode cX10_colour 81 = .ok (.iadd, 1) := by decide +kernel
theorem dX10_colour_82 : decode cX10_colour 82 = .ok (.iaload, 1) := by decide +kernel
theorem dX10_colour_83 : decode cX10_colour 83 = .ok (.ior, 1) := by decide +kernel
theorem dX10_colour_84 : decode cX10_colour 84 = .ok (.ireturn, 1) := by decide +kernel
set_option maxRecDepth 20000 in
theorem ggX10_ratiosOf_X10_first : GoodIn wsX10_ratiosOf wsX10_first := goodIn_r _ [8, 9, 10, 2, 22, 23, 24, 25, 26, 27, 28, 29, 30, 31, 32, 33, 34, 35, 36, 37, 38, 39] (by decide +kernel) (by decide +kernel)
set_option maxRecDepth 20000 in
theorem gX10_ratiosOf_X10_first : GoodIn wsX10_ratiosOf (wsV RX10 198 RX10 yX10_first wsX10_first) := goodIn_app (goodIn_of _ (by decide +kernel)) ggX10_ratiosOf_X10_first
set_option maxRecDepth 20000 in
theorem ggX10_ratiosOf_X10_fromOf : GoodIn wsX10_ratiosOf wsX10_fromOf := goodIn_r _ [14, 2, 22, 23, 24, 25, 26, 27, 28, 29, 30, 31, 32, 33, 34, 35, 36, 37, 38, 39] (by decide +kernel) (by decide +kernel)
set_option maxRecDepth 20000 in
theorem gX10_ratiosOf_X10_fromOf : GoodIn wsX10_ratiosOf (wsV RX10 136 RX10 yX10_fromOf wsX10_fromOf) := goodIn_app (goodIn_of _ (by decide +kernel)) ggX10_ratiosOf_X10_fromOf
set_option maxRecDepth 20000 in
theorem ggX10_ratiosOf_X10_four : GoodIn wsX10_ratiosOf wsX10_four := goodIn_r _ [17, 18, 19, 20, 7, 21] (by decide +kernel) (by decide +kernel)
set_option maxRecDepth 20000 in
theorem gX10_ratiosOf_X10_four : GoodIn wsX10_ratiosOf (va_wsS RX10 75 yX10_four wsX10_four) := goodIn_app (goodIn_of _ (by decide +kernel)) ggX10_ratiosOf_X10_four
theorem dX10_ratiosOf_0 : decode cX10_ratiosOf 0 = .ok (.aload_n 0, 1) := by decide +kernel
theorem dX10_ratiosOf_1 : decode cX10_ratiosOf 1 = .ok (.ldc 204, 2) := by decide +kernel
theorem dX10_ratiosOf_3 : decode cX10_ratiosOf 3 = .ok (.iconst (-1), 1) := by decide +kernel
theorem dX10_ratiosOf_4 : decode cX10_ratiosOf 4 = .ok (.invokevirtual 198, 3) := by decide +kernel
theorem dX10_ratiosOf_7 : decode cX10_ratiosOf 7 = .ok (.istore_n 3, 1) := by decide +kernel
theorem dX10_ratiosOf_8 : decode cX10_ratiosOf 8 = .ok (.iload_n 3, 1) := by decide +kernel
theorem dX10_ratiosOf_9 : decode cX10_ratiosOf 9 = .ok (.bipush (-2), 2) := by decide +kernel
theorem dX10_ratiosOf_11 : decode cX10_ratiosOf 11 = .ok (.if_icmp .eq 29, 3) := by decide +kernel
theorem dX10_ratiosOf_14 : decode cX10_ratiosOf 14 = .ok (.aload_n 0, 1) := by decide +kernel
theorem dX10_ratiosOf_15 : decode cX10_ratiosOf 15 = .ok (.getfield 19, 3) := by decide +kernel
theorem dX10_ratiosOf_18 : decode cX10_ratiosOf 18 = .ok (.iload_n 3, 1) := by decide +kernel
theorem dX10_ratiosOf_19 : decode cX10_ratiosOf 19 = .ok (.iaload, 1) := by decide +kernel
theorem dX10_ratiosOf_20 : decode cX10_ratiosOf 20 = .ok (.bipush 24, 2) := by decide +kernel
theorem dX10_ratiosOf_22 : decode cX10_ratiosOf 22 = .ok (.if_icmp .lt 18, 3) := by decide +kernel
theorem dX10_ratiosOf_25 : decode cX10_ratiosOf 25 = .ok (.aload_n 0, 1) := by decide +kernel
theorem dX10_ratiosOf_26 : decode cX10_ratiosOf 26 = .ok (.getfield 19, 3) := by decide +kernel
theorem dX10_ratiosOf_29 : decode cX10_ratiosOf 29 = .ok (.iload_n 3, 1) := by decide +kernel
theorem dX10_ratiosOf_30 : decode cX10_ratiosOf 30 = .ok (.iaload, 1) := by decide +kernel
theorem dX10_ratiosOf_31 : decode cX10_ratiosOf 31 = .ok (.bipush 24, 2) := by decide +kernel
theorem dX10_ratiosOf_33 : decode cX10_ratiosOf 33 = .ok (.isub, 1) := by decide +kernel
theorem dX10_ratiosOf_34 : decode cX10_ratiosOf 34 = .ok (.bipush 28, 2) := by decide +kernel
theorem dX10_ratiosOf_36 : decode cX10_ratiosOf 36 = .ok (.irem, 1) := by decide +kernel
theorem dX10_ratiosOf_37 : decode cX10_ratiosOf 37 = .ok (.ifCond .eq 6, 3) := by decide +kernel
theorem dX10_ratiosOf_40 : decode cX10_ratiosOf 40 = .ok (.bipush (-2), 2) := by decide +kernel
theorem dX10_ratiosOf_42 : decode cX10_ratiosOf 42 = .ok (.ireturn, 1) := by decide +kernel
theorem dX10_ratiosOf_43 : decode cX10_ratiosOf 43 = .ok (.aload_n 0, 1) := by decide +kernel
theorem dX10_ratiosOf_44 : decode cX10_ratiosOf 44 = .ok (.iload_n 3, 1) := by decide +kernel
theorem dX10_ratiosOf_45 : decode cX10_ratiosOf 45 = .ok (.invokevirtual 136, 3) := by decide +kernel
theorem dX10_ratiosOf_48 : decode cX10_ratiosOf 48 = .ok (.istore 4, 2) := by decide +kernel
theorem dX10_ratiosOf_50 : decode cX10_ratiosOf 50 = .ok (.bipush 24, 2) := by decide +kernel
theorem dX10_ratiosOf_52 : decode cX10_ratiosOf 52 = .ok (.istore 5, 2) := by decide +kernel
theorem dX10_ratiosOf_54 : decode cX10_ratiosOf 54 = .ok (.iload 5, 2) := by decide +kernel
theorem dX10_ratiosOf_56 : decode cX10_ratiosOf 56 = .ok (.aload_n 0, 1) := by decide +kernel
theorem dX10_ratiosOf_57 : decode cX10_ratiosOf 57 = .ok (.getfield 19, 3) := by decide +kernel
theorem dX10_ratiosOf_60 : decode cX10_ratiosOf 60 = .ok (.iload_n 3, 1) := by decide +kernel
theorem dX10_ratiosOf_61 : decode cX10_ratiosOf 61 = .ok (.iaload, 1) := by decide +kernel
theorem dX10_ratiosOf_62 : decode cX10_ratiosOf 62 = .ok (.if_icmp .ge 34, 3) := by decide +kernel
theorem dX10_ratiosOf_65 : decode cX10_ratiosOf 65 = .ok (.aload_n 0, 1) := by decide +kernel
theorem dX10_ratiosOf_66 : decode cX10_ratiosOf 66 = .ok (.getfield 13, 3) := by decide +kernel
theorem dX10_ratiosOf_69 : decode cX10_ratiosOf 69 = .ok (.iload 4, 2) := by decide +kernel
theorem dX10_ratiosOf_71 : decode cX10_ratiosOf 71 = .ok (.iload 5, 2) := by decide +kernel
theorem dX10_ratiosOf_73 : decode cX10_ratiosOf 73 = .ok (.iadd, 1) := by decide +kernel
theorem dX10_ratiosOf_74 : decode cX10_ratiosOf 74 = .ok (.invokestatic 75, 3) := by decide +kernel
theorem dX10_ratiosOf_77 : decode cX10_ratiosOf 77 = .ok (.lload_n 1, 1) := by decide +kernel
theorem dX10_ratiosOf_78 : decode cX10_ratiosOf 78 = .ok (.lcmp, 1) := by decide +kernel
theorem dX10_ratiosOf_79 : decode cX10_ratiosOf 79 = .ok (.ifCond .ne 11, 3) := by decide +kernel
theorem dX10_ratiosOf_82 : decode cX10_ratiosOf 82 = .ok (.iload 4, 2) := by decide +kernel
theorem dX10_ratiosOf_84 : decode cX10_ratiosOf 84 = .ok (.iload 5, 2) := by decide +kernel
theorem dX10_ratiosOf_86 : decode cX10_ratiosOf 86 = .ok (.iadd, 1) := by decide +kernel
theorem dX10_ratiosOf_87 : decode cX10_ratiosOf 87 = .ok (.iconst 4, 1) := by decide +kernel
theorem dX10_ratiosOf_88 : decode cX10_ratiosOf 88 = .ok (.iadd, 1) := by decide +kernel
theorem dX10_ratiosOf_89 : decode cX10_ratiosOf 89 = .ok (.ireturn, 1) := by decide +kernel
theorem dX10_ratiosOf_90 : decode cX10_ratiosOf 90 = .ok (.iinc 5 28, 3) := by decide +kernel
theorem dX10_ratiosOf_93 : decode cX10_ratiosOf 93 = .ok (.goto (-39), 3) := by decide +kernel
theorem dX10_ratiosOf_96 : decode cX10_ratiosOf 96 = .ok (.bipush (-2), 2) := by decide +kernel
theorem dX10_ratiosOf_98 : decode cX10_ratiosOf 98 = .ok (.ireturn, 1) := by decide +kernel
set_option maxRecDepth 20000 in
theorem ggX10_scaled_X10_isNumber : GoodIn wsX10_scaled wsX10_isNumber := goodIn_r _ [11, 12, 13, 14, 10, 15] (by decide +kernel) (by decide +kernel)
set_option maxRecDepth 20000 in
theorem gX10_scaled_X10_isNumber : GoodIn wsX10_scaled (va_wsS RX10 156 yX10_isNumber wsX10_isNumber) := goodIn_app (goodIn_of _ (by decide +kernel)) ggX10_scaled_X10_isNumber
set_option maxRecDepth 20000 in
theorem ggX10_scaled_X10_in : GoodIn wsX10_scaled wsX10_in := goodIn_r _ [15] (by decide +kernel) (by decide +kernel)
set_option maxRecDepth 20000 in
theorem gX10_scaled_X10_in : GoodIn wsX10_scaled (va_wsS RX10 44 yX10_in wsX10_in) := goodIn_app (goodIn_of _ (by decide +kernel)) ggX10_scaled_X10_in
set_option maxRecDepth 20000 in
theorem ggX10_scaled_X10_entryFor : GoodIn wsX10_scaled wsX10_entryFor := goodIn_r _ [19, 20, 21, 22, 69, 70, 71, 72, 73, 74, 75, 76, 77, 78, 79, 80, 81, 82, 83, 84, 85, 86] (by decide +kernel) (by decide +kernel)
set_option maxRecDepth 20000 in
theorem gX10_scaled_X10_entryFor : GoodIn wsX10_scaled (wsV RX10 160 RX10 yX10_entryFor wsX10_entryFor) := goodIn_app (goodIn_of _ (by decide +kernel)) ggX10_scaled_X10_entryFor
set_option maxRecDepth 20000 in
theorem ggX10_scaled_X10_sizeOf : GoodIn wsX10_scaled wsX10_sizeOf := goodIn_r _ [26, 27, 28, 29, 7, 4, 30, 31, 32, 33, 34, 10, 35, 36, 37, 38, 12, 39, 40, 41, 42, 43, 44, 45, 46, 47, 48, 49, 50, 51, 52, 53, 54, 55, 56, 13, 14, 15, 57, 58, 59, 69, 70, 71, 72, 73, 74, 75, 76, 77, 78, 79, 80, 81, 82, 83, 84, 85, 86] (by decide +kernel) (by decide +kernel)
set_option maxRecDepth 20000 in
theorem gX10_scaled_X10_sizeOf : GoodIn wsX10_scaled (wsV RX10 187 RX10 yX10_sizeOf wsX10_sizeOf) := goodIn_app (goodIn_of _ (by decide +kernel)) ggX10_scaled_X10_sizeOf
set_option maxRecDepth 20000 in
theorem ggX10_scaled_X10_ratiosOf : GoodIn wsX10_scaled wsX10_ratiosOf := goodIn_r _ [63, 6, 29, 7, 64, 65, 66, 10, 67, 68, 27, 32, 33, 34, 35, 36, 37, 38, 12, 39, 40, 41, 69, 70, 71, 72, 73, 74, 75, 76, 77, 78, 79, 80, 81, 82, 83, 84, 85, 86] (by decide +kernel) (by decide +kernel)
set_option maxRecDepth 20000 in
theorem gX10_scaled_X10_ratiosOf : GoodIn wsX10_scaled (wsV RX10 207 RX10 yX10_ratiosOf wsX10_ratiosOf) := goodIn_app (goodIn_of _ (by decide +kernel)) ggX10_scaled_X10_ratiosOf
set_option maxRecDepth 20000 in
theorem ggX10_scaled_X10_first : GoodIn wsX10_scaled wsX10_first := goodIn_r _ [67, 68, 27, 29, 69, 70, 71, 72, 73, 74, 75, 76, 77, 78, 79, 80, 81, 82, 83, 84, 85, 86] (by decide +kernel) (by decide +kernel)
set_option maxRecDepth 20000 in
theorem gX10_scaled_X10_first : GoodIn wsX10_scaled (wsV RX10 198 RX10 yX10_first wsX10_first) := goodIn_app (goodIn_of _ (by decide +kernel)) ggX10_scaled_X10_first
set_option maxRecDepth 20000 in
theorem ggX10_scaled_X10_fromOf : GoodIn wsX10_scaled wsX10_fromOf := goodIn_r _ [35, 29, 69, 70, 71, 72, 73, 74, 75, 76, 77, 78, 79, 80, 81, 82, 83, 84, 85, 86] (by decide +kernel) (by decide +kernel)
set_option maxRecDepth 20000 in
theorem gX10_scaled_X10_fromOf : GoodIn wsX10_scaled (wsV RX10 136 RX10 yX10_fromOf wsX10_fromOf) := goodIn_app (goodIn_of _ (by decide +kernel)) ggX10_scaled_X10_fromOf
set_option maxRecDepth 20000 in
theorem ggX10_scaled_X10_four : GoodIn wsX10_scaled wsX10_four := goodIn_r _ [38, 12, 39, 40, 10, 41] (by decide +kernel) (by decide +kernel)
set_option maxRecDepth 20000 in
theorem gX10_scaled_X10_four : GoodIn wsX10_scaled (va_wsS RX10 75 yX10_four wsX10_four) := goodIn_app (goodIn_of _ (by decide +kernel)) ggX10_scaled_X10_four
theorem dX10_scaled_0 : decode cX10_scaled 0 = .ok (.lload_n 1, 1) := by decide +kernel
theorem dX10_scaled_1 : decode cX10_scaled 1 = .ok (.invokestatic 156, 3) := by decide +kernel
theorem dX10_scaled_4 : decode cX10_scaled 4 = .ok (.ifCond .eq 39, 3) := by decide +kernel
theorem dX10_scaled_7 : decode cX10_scaled 7 = .ok (.iload_n 3, 1) := by decide +kernel
theorem dX10_scaled_8 : decode cX10_scaled 8 = .ok (.i2l, 1) := by decide +kernel
theorem dX10_scaled_9 : decode cX10_scaled 9 = .ok (.lconst 1, 1) := by decide +kernel
theorem dX10_scaled_10 : decode cX10_scaled 10 = .ok (.ldc2_w 205, 3) := by decide +kernel
theorem dX10_scaled_13 : decode cX10_scaled 13 = .ok (.invokestatic 44, 3) := by decide +kernel
theorem dX10_scaled_16 : decode cX10_scaled 16 = .ok (.ifCond .eq 27, 3) := by decide +kernel
theorem dX10_scaled_19 : decode cX10_scaled 19 = .ok (.iload 4, 2) := by decide +kernel
theorem dX10_scaled_21 : decode cX10_scaled 21 = .ok (.i2l, 1) := by decide +kernel
theorem dX10_scaled_22 : decode cX10_scaled 22 = .ok (.lconst 1, 1) := by decide +kernel
theorem dX10_scaled_23 : decode cX10_scaled 23 = .ok (.ldc2_w 205, 3) := by decide +kernel
theorem dX10_scaled_26 : decode cX10_scaled 26 = .ok (.invokestatic 44, 3) := by decide +kernel
theorem dX10_scaled_29 : decode cX10_scaled 29 = .ok (.ifCond .eq 14, 3) := by decide +kernel
theorem dX10_scaled_32 : decode cX10_scaled 32 = .ok (.iload 5, 2) := by decide +kernel
theorem dX10_scaled_34 : decode cX10_scaled 34 = .ok (.i2l, 1) := by decide +kernel
theorem dX10_scaled_35 : decode cX10_scaled 35 = .ok (.lconst 0, 1) := by decide +kernel
theorem dX10_scaled_36 : decode cX10_scaled 36 = .ok (.lconst 1, 1) := by decide +kernel
theorem dX10_scaled_37 : decode cX10_scaled 37 = .ok (.invokestatic 44, 3) := by decide +kernel
theorem dX10_scaled_40 : decode cX10_scaled 40 = .ok (.ifCond .ne 7, 3) := by decide +kernel
theorem dX10_scaled_43 : decode cX10_scaled 43 = .ok (.ldc2_w 150, 3) := by decide +kernel
theorem dX10_scaled_46 : decode cX10_scaled 46 = .ok (.lreturn, 1) := by decide +kernel
theorem dX10_scaled_47 : decode cX10_scaled 47 = .ok (.aload_n 0, 1) := by decide +kernel
theorem dX10_scaled_48 : decode cX10_scaled 48 = .ok (.ldc 48, 2) := by decide +kernel
theorem dX10_scaled_50 : decode cX10_scaled 50 = .ok (.lload_n 1, 1) := by decide +kernel
theorem dX10_scaled_51 : decode cX10_scaled 51 = .ok (.invokevirtual 160, 3) := by decide +kernel
theorem dX10_scaled_54 : decode cX10_scaled 54 = .ok (.istore 6, 2) := by decide +kernel
theorem dX10_scaled_56 : decode cX10_scaled 56 = .ok (.iload 6, 2) := by decide +kernel
theorem dX10_scaled_58 : decode cX10_scaled 58 = .ok (.bipush (-2), 2) := by decide +kernel
theorem dX10_scaled_60 : decode cX10_scaled 60 = .ok (.if_icmp .ne 7, 3) := by decide +kernel
theorem dX10_scaled_63 : decode cX10_scaled 63 = .ok (.ldc2_w 164, 3) := by decide +kernel
theorem dX10_scaled_66 : decode cX10_scaled 66 = .ok (.lreturn, 1) := by decide +kernel
theorem dX10_scaled_67 : decode cX10_scaled 67 = .ok (.aload_n 0, 1) := by decide +kernel
theorem dX10_scaled_68 : decode cX10_scaled 68 = .ok (.aload_n 0, 1) := by decide +kernel
theorem dX10_scaled_69 : decode cX10_scaled 69 = .ok (.getfield 29, 3) := by decide +kernel
theorem dX10_scaled_72 : decode cX10_scaled 72 = .ok (.iload 6, 2) := by decide +kernel
theorem dX10_scaled_74 : decode cX10_scaled 74 = .ok (.iaload, 1) := by decide +kernel
theorem dX10_scaled_75 : decode cX10_scaled 75 = .ok (.iconst 0, 1) := by decide +kernel
theorem dX10_scaled_76 : decode cX10_scaled 76 = .ok (.invokevirtual 187, 3) := by decide +kernel
theorem dX10_scaled_79 : decode cX10_scaled 79 = .ok (.lstore 7, 2) := by decide +kernel
theorem dX10_scaled_81 : decode cX10_scaled 81 = .ok (.aload_n 0, 1) := by decide +kernel
theorem dX10_scaled_82 : decode cX10_scaled 82 = .ok (.aload_n 0, 1) := by decide +kernel
theorem dX10_scaled_83 : decode cX10_scaled 83 = .ok (.getfield 29, 3) := by decide +kernel
theorem dX10_scaled_86 : decode cX10_scaled 86 = .ok (.iload 6, 2) := by decide +kernel
theorem dX10_scaled_88 : decode cX10_scaled 88 = .ok (.iaload, 1) := by decide +kernel
theorem dX10_scaled_89 : decode cX10_scaled 89 = .ok (.iconst 1, 1) := by decide +kernel
theorem dX10_scaled_90 : decode cX10_scaled 90 = .ok (.invokevirtual 187, 3) := by decide +kernel
theorem dX10_scaled_93 : decode cX10_scaled 93 = .ok (.lstore 9, 2) := by decide +kernel
theorem dX10_scaled_95 : decode cX10_scaled 95 = .ok (.lload 7, 2) := by decide +kernel
theorem dX10_scaled_97 : decode cX10_scaled 97 = .ok (.lconst 0, 1) := by decide +kernel
theorem dX10_scaled_98 : decode cX10_scaled 98 = .ok (.lcmp, 1) := by decide +kernel
theorem dX10_scaled_99 : decode cX10_scaled 99 = .ok (.ifCond .le 10, 3) := by decide +kernel
theorem dX10_scaled_102 : decode cX10_scaled 102 = .ok (.lload 9, 2) := by decide +kernel
theorem dX10_scaled_104 : decode cX10_scaled 104 = .ok (.lconst 0, 1) := by decide +kernel
theorem dX10_scaled_105 : decode cX10_scaled 105 = .ok (.lcmp, 1) := by decide +kernel
theorem dX10_scaled_106 : decode cX10_scaled 106 = .ok (.ifCond .gt 7, 3) := by decide +kernel
theorem dX10_scaled_109 : decode cX10_scaled 109 = .ok (.ldc2_w 164, 3) := by decide +kernel
theorem dX10_scaled_112 : decode cX10_scaled 112 = .ok (.lreturn, 1) := by decide +kernel
theorem dX10_scaled_113 : decode cX10_scaled 113 = .ok (.aload_n 0, 1) := by decide +kernel
theorem dX10_scaled_114 : decode cX10_scaled 114 = .ok (.lload_n 1, 1) := by decide +kernel
theorem dX10_scaled_115 : decode cX10_scaled 115 = .ok (.invokevirtual 207, 3) := by decide +kernel
theorem dX10_scaled_118 : decode cX10_scaled 118 = .ok (.istore 11, 2) := by decide +kernel
theorem dX10_scaled_120 : decode cX10_scaled 120 = .ok (.iload 11, 2) := by decide +kernel
theorem dX10_scaled_122 : decode cX10_scaled 122 = .ok (.bipush (-2), 2) := by decide +kernel
theorem dX10_scaled_124 : decode cX10_scaled 124 = .ok (.if_icmp .ne 16, 3) := by decide +kernel
theorem dX10_scaled_127 : decode cX10_scaled 127 = .ok (.iload 5, 2) := by decide +kernel
theorem dX10_scaled_129 : decode cX10_scaled 129 = .ok (.ifCond .ne 8, 3) := by decide +kernel
theorem dX10_scaled_132 : decode cX10_scaled 132 = .ok (.lload 7, 2) := by decide +kernel
theorem dX10_scaled_134 : decode cX10_scaled 134 = .ok (.goto 5, 3) := by decide +kernel
theorem dX10_scaled_137 : decode cX10_scaled 137 = .ok (.lload 9, 2) := by decide +kernel
theorem dX10_scaled_139 : decode cX10_scaled 139 = .ok (.lreturn, 1) := by decide +kernel
theorem dX10_scaled_140 : decode cX10_scaled 140 = .ok (.aload_n 0, 1) := by decide +kernel
theorem dX10_scaled_141 : decode cX10_scaled 141 = .ok (.aload_n 0, 1) := by decide +kernel
theorem dX10_scaled_142 : decode cX10_scaled 142 = .ok (.ldc 204, 2) := by decide +kernel
theorem dX10_scaled_144 : decode cX10_scaled 144 = .ok (.iconst (-1), 1) := by decide +kernel
theorem dX10_scaled_145 : decode cX10_scaled 145 = .ok (.invokevirtual 198, 3) := by decide +kernel
theorem dX10_scaled_148 : decode cX10_scaled 148 = .ok (.invokevirtual 136, 3) := by decide +kernel
theorem dX10_scaled_151 : decode cX10_scaled 151 = .ok (.istore 12, 2) := by decide +kernel
theorem dX10_scaled_153 : decode cX10_scaled 153 = .ok (.aload_n 0, 1) := by decide +kernel
theorem dX10_scaled_154 : decode cX10_scaled 154 = .ok (.getfield 13, 3) := by decide +kernel
theorem dX10_scaled_157 : decode cX10_scaled 157 = .ok (.iload 12, 2) := by decide +kernel
theorem dX10_scaled_159 : decode cX10_scaled 159 = .ok (.invokestatic 75, 3) := by decide +kernel
theorem dX10_scaled_162 : decode cX10_scaled 162 = .ok (.lstore 13, 2) := by decide +kernel
theorem dX10_scaled_164 : decode cX10_scaled 164 = .ok (.aload_n 0, 1) := by decide +kernel
theorem dX10_scaled_165 : decode cX10_scaled 165 = .ok (.getfield 13, 3) := by decide +kernel
theorem dX10_scaled_168 : decode cX10_scaled 168 = .ok (.iload 12, 2) := by decide +kernel
theorem dX10_scaled_170 : decode cX10_scaled 170 = .ok (.iconst 4, 1) := by decide +kernel
theorem dX10_scaled_171 : decode cX10_scaled 171 = .ok (.iadd, 1) := by decide +kernel
theorem dX10_scaled_172 : decode cX10_scaled 172 = .ok (.invokestatic 75, 3) := by decide +kernel
theorem dX10_scaled_175 : decode cX10_scaled 175 = .ok (.lstore 15, 2) := by decide +kernel
theorem dX10_scaled_177 : decode cX10_scaled 177 = .ok (.lload 13, 2) := by decide +kernel
theorem dX10_scaled_179 : decode cX10_scaled 179 = .ok (.lconst 1, 1) := by decide +kernel
theorem dX10_scaled_180 : decode cX10_scaled 180 = .ok (.ldc2_w 205, 3) := by decide +kernel
theorem dX10_scaled_183 : decode cX10_scaled 183 = .ok (.invokestatic 44, 3) := by decide +kernel
theorem dX10_scaled_186 : decode cX10_scaled 186 = .ok (.ifCond .eq 37, 3) := by decide +kernel
theorem dX10_scaled_189 : decode cX10_scaled 189 = .ok (.lload 15, 2) := by decide +kernel
theorem dX10_scaled_191 : decode cX10_scaled 191 = .ok (.lconst 1, 1) := by decide +kernel
theorem dX10_scaled_192 : decode cX10_scaled 192 = .ok (.ldc2_w 205, 3) := by decide +kernel
theorem dX10_scaled_195 : decode cX10_scaled 195 = .ok (.invokestatic 44, 3) := by decide +kernel
theorem dX10_scaled_198 : decode cX10_scaled 198 = .ok (.ifCond .eq 25, 3) := by decide +kernel
theorem dX10_scaled_201 : decode cX10_scaled 201 = .ok (.lload 7, 2) := by decide +kernel
theorem dX10_scaled_203 : decode cX10_scaled 203 = .ok (.ldc2_w 205, 3) := by decide +kernel
theorem dX10_scaled_206 : decode cX10_scaled 206 = .ok (.lcmp, 1) := by decide +kernel
theorem dX10_scaled_207 : decode cX10_scaled 207 = .ok (.ifCond .gt 16, 3) := by decide +kernel
theorem dX10_scaled_210 : decode cX10_scaled 210 = .ok (.lload 9, 2) := by decide +kernel
theorem dX10_scaled_212 : decode cX10_scaled 212 = .ok (.ldc2_w 205, 3) := by decide +kernel
theorem dX10_scaled_215 : decode cX10_scaled 215 = .ok (.lcmp, 1) := by decide +kernel
theorem dX10_scaled_216 : decode cX10_scaled 216 = .ok (.ifCond .gt 7, 3) := by decide +kernel
theorem dX10_scaled_219 : decode cX10_scaled 219 = .ok (.iconst 1, 1) := by decide +kernel
theorem dX10_scaled_220 : decode cX10_scaled 220 = .ok (.goto 4, 3) := by decide +kernel
theorem dX10_scaled_223 : decode cX10_scaled 223 = .ok (.iconst 0, 1) := by decide +kernel
theorem dX10_scaled_224 : decode cX10_scaled 224 = .ok (.istore 17, 2) := by decide +kernel
theorem dX10_scaled_226 : decode cX10_scaled 226 = .ok (.iconst 0, 1) := by decide +kernel
theorem dX10_scaled_227 : decode cX10_scaled 227 = .ok (.istore 18, 2) := by decide +kernel
theorem dX10_scaled_229 : decode cX10_scaled 229 = .ok (.iload 18, 2) := by decide +kernel
theorem dX10_scaled_231 : decode cX10_scaled 231 = .ok (.bipush 6, 2) := by decide +kernel
theorem dX10_scaled_233 : decode cX10_scaled 233 = .ok (.if_icmp .ge 42, 3) := by decide +kernel
theorem dX10_scaled_236 : decode cX10_scaled 236 = .ok (.iload 17, 2) := by decide +kernel
theorem dX10_scaled_238 : decode cX10_scaled 238 = .ok (.ifCond .eq 28, 3) := by decide +kernel
theorem dX10_scaled_241 : decode cX10_scaled 241 = .ok (.aload_n 0, 1) := by decide +kernel
theorem dX10_scaled_242 : decode cX10_scaled 242 = .ok (.getfield 13, 3) := by decide +kernel
theorem dX10_scaled_245 : decode cX10_scaled 245 = .ok (.iload 11, 2) := by decide +kernel
theorem dX10_scaled_247 : decode cX10_scaled 247 = .ok (.iconst 4, 1) := by decide +kernel
theorem dX10_scaled_248 : decode cX10_scaled 248 = .ok (.iload 18, 2) := by decide +kernel
theorem dX10_scaled_250 : decode cX10_scaled 250 = .ok (.imul, 1) := by decide +kernel
theorem dX10_scaled_251 : decode cX10_scaled 251 = .ok (.iadd, 1) := by decide +kernel
theorem dX10_scaled_252 : decode cX10_scaled 252 = .ok (.invokestatic 75, 3) := by decide +kernel
theorem dX10_scaled_255 : decode cX10_scaled 255 = .ok (.ldc2_w 205, 3) := by decide +kernel
theorem dX10_scaled_258 : decode cX10_scaled 258 = .ok (.lcmp, 1) := by decide +kernel
theorem dX10_scaled_259 : decode cX10_scaled 259 = .ok (.ifCond .gt 7, 3) := by decide +kernel
theorem dX10_scaled_262 : decode cX10_scaled 262 = .ok (.iconst 1, 1) := by decide +kernel
theorem dX10_scaled_263 : decode cX10_scaled 263 = .ok (.goto 4, 3) := by decide +kernel
theorem dX10_scaled_266 : decode cX10_scaled 266 = .ok (.iconst 0, 1) := by decide +kernel
theorem dX10_scaled_267 : decode cX10_scaled 267 = .ok (.istore 17, 2) := by decide +kernel
theorem dX10_scaled_269 : decode cX10_scaled 269 = .ok (.iinc 18 1, 3) := by decide +kernel
theorem dX10_scaled_272 : decode cX10_scaled 272 = .ok (.goto (-43), 3) := by decide +kernel
theorem dX10_scaled_275 : decode cX10_scaled 275 = .ok (.aload_n 0, 1) := by decide +kernel
theorem dX10_scaled_276 : decode cX10_scaled 276 = .ok (.getfield 13, 3) := by decide +kernel
theorem dX10_scaled_279 : decode cX10_scaled 279 = .ok (.iload 11, 2) := by decide +kernel
theorem dX10_scaled_281 : decode cX10_scaled 281 = .ok (.invokestatic 75, 3) := by decide +kernel
theorem dX10_scaled_284 : decode cX10_scaled 284 = .ok (.lstore 18, 2) := by decide +kernel
theorem dX10_scaled_286 : decode cX10_scaled 286 = .ok (.aload_n 0, 1) := by decide +kernel
theorem dX10_scaled_287 : decode cX10_scaled 287 = .ok (.getfield 13, 3) := by decide +kernel
theorem dX10_scaled_290 : decode cX10_scaled 290 = .ok (.iload 11, 2) := by decide +kernel
theorem dX10_scaled_292 : decode cX10_scaled 292 = .ok (.iconst 4, 1) := by decide +kernel
theorem dX10_scaled_293 : decode cX10_scaled 293 = .ok (.iadd, 1) := by decide +kernel
theorem dX10_scaled_294 : decode cX10_scaled 294 = .ok (.invokestatic 75, 3) := by decide +kernel
theorem dX10_scaled_297 : decode cX10_scaled 297 = .ok (.lstore 20, 2) := by decide +kernel
theorem dX10_scaled_299 : decode cX10_scaled 299 = .ok (.aload_n 0, 1) := by decide +kernel
theorem dX10_scaled_300 : decode cX10_scaled 300 = .ok (.getfield 13, 3) := by decide +kernel
theorem dX10_scaled_303 : decode cX10_scaled 303 = .ok (.iload 11, 2) := by decide +kernel
theorem dX10_scaled_305 : decode cX10_scaled 305 = .ok (.bipush 8, 2) := by decide +kernel
theorem dX10_scaled_307 : decode cX10_scaled 307 = .ok (.iadd, 1) := by decide +kernel
theorem dX10_scaled_308 : decode cX10_scaled 308 = .ok (.invokestatic 75, 3) := by decide +kernel
theorem dX10_scaled_311 : decode cX10_scaled 311 = .ok (.lstore 22, 2) := by decide +kernel
theorem dX10_scaled_313 : decode cX10_scaled 313 = .ok (.aload_n 0, 1) := by decide +kernel
theorem dX10_scaled_314 : decode cX10_scaled 314 = .ok (.getfield 13, 3) := by decide +kernel
theorem dX10_scaled_317 : decode cX10_scaled 317 = .ok (.iload 11, 2) := by decide +kernel
theorem dX10_scaled_319 : decode cX10_scaled 319 = .ok (.bipush 12, 2) := by decide +kernel
theorem dX10_scaled_321 : decode cX10_scaled 321 = .ok (.iadd, 1) := by decide +kernel
theorem dX10_scaled_322 : decode cX10_scaled 322 = .ok (.invokestatic 75, 3) := by decide +kernel
theorem dX10_scaled_325 : decode cX10_scaled 325 = .ok (.lstore 24, 2) := by decide +kernel
theorem dX10_scaled_327 : decode cX10_scaled 327 = .ok (.aload_n 0, 1) := by decide +kernel
theorem dX10_scaled_328 : decode cX10_scaled 328 = .ok (.getfield 13, 3) := by decide +kernel
theorem dX10_scaled_331 : decode cX10_scaled 331 = .ok (.iload 11, 2) := by decide +kernel
theorem dX10_scaled_333 : decode cX10_scaled 333 = .ok (.bipush 16, 2) := by decide +kernel
theorem dX10_scaled_335 : decode cX10_scaled 335 = .ok (.iadd, 1) := by decide +kernel
theorem dX10_scaled_336 : decode cX10_scaled 336 = .ok (.invokestatic 75, 3) := by decide +kernel
theorem dX10_scaled_339 : decode cX10_scaled 339 = .ok (.lstore 26, 2) := by decide +kernel
theorem dX10_scaled_341 : decode cX10_scaled 341 = .ok (.aload_n 0, 1) := by decide +kernel
theorem dX10_scaled_342 : decode cX10_scaled 342 = .ok (.getfield 13, 3) := by decide +kernel
theorem dX10_scaled_345 : decode cX10_scaled 345 = .ok (.iload 11, 2) := by decide +kernel
theorem dX10_scaled_347 : decode cX10_scaled 347 = .ok (.bipush 20, 2) := by decide +kernel
theorem dX10_scaled_349 : decode cX10_scaled 349 = .ok (.iadd, 1) := by decide +kernel
theorem dX10_scaled_350 : decode cX10_scaled 350 = .ok (.invokestatic 75, 3) := by decide +kernel
theorem dX10_scaled_353 : decode cX10_scaled 353 = .ok (.lstore 28, 2) := by decide +kernel
theorem dX10_scaled_355 : decode cX10_scaled 355 = .ok (.iload 17, 2) := by decide +kernel
theorem dX10_scaled_357 : decode cX10_scaled 357 = .ok (.ifCond .eq 42, 3) := by decide +kernel
theorem dX10_scaled_360 : decode cX10_scaled 360 = .ok (.lload 20, 2) := by decide +kernel
theorem dX10_scaled_362 : decode cX10_scaled 362 = .ok (.lconst 0, 1) := by decide +kernel
theorem dX10_scaled_363 : decode cX10_scaled 363 = .ok (.lcmp, 1) := by decide +kernel
theorem dX10_scaled_364 : decode cX10_scaled 364 = .ok (.ifCond .le 35, 3) := by decide +kernel
theorem dX10_scaled_367 : decode cX10_scaled 367 = .ok (.lload 24, 2) := by decide +kernel
theorem dX10_scaled_369 : decode cX10_scaled 369 = .ok (.lconst 0, 1) := by decide +kernel
theorem dX10_scaled_370 : decode cX10_scaled 370 = .ok (.lcmp, 1) := by decide +kernel
theorem dX10_scaled_371 : decode cX10_scaled 371 = .ok (.ifCond .gt 10, 3) := by decide +kernel
theorem dX10_scaled_374 : decode cX10_scaled 374 = .ok (.lload 22, 2) := by decide +kernel
theorem dX10_scaled_376 : decode cX10_scaled 376 = .ok (.lconst 0, 1) := by decide +kernel
theorem dX10_scaled_377 : decode cX10_scaled 377 = .ok (.lcmp, 1) := by decide +kernel
theorem dX10_scaled_378 : decode cX10_scaled 378 = .ok (.ifCond .ne 21, 3) := by decide +kernel
theorem dX10_scaled_381 : decode cX10_scaled 381 = .ok (.lload 28, 2) := by decide +kernel
theorem dX10_scaled_383 : decode cX10_scaled 383 = .ok (.lconst 0, 1) := by decide +kernel
theorem dX10_scaled_384 : decode cX10_scaled 384 = .ok (.lcmp, 1) := by decide +kernel
theorem dX10_scaled_385 : decode cX10_scaled 385 = .ok (.ifCond .gt 10, 3) := by decide +kernel
theorem dX10_scaled_388 : decode cX10_scaled 388 = .ok (.lload 26, 2) := by decide +kernel
theorem dX10_scaled_390 : decode cX10_scaled 390 = .ok (.lconst 0, 1) := by decide +kernel
theorem dX10_scaled_391 : decode cX10_scaled 391 = .ok (.lcmp, 1) := by decide +kernel
theorem dX10_scaled_392 : decode cX10_scaled 392 = .ok (.ifCond .ne 7, 3) := by decide +kernel
theorem dX10_scaled_395 : decode cX10_scaled 395 = .ok (.iconst 1, 1) := by decide +kernel
theorem dX10_scaled_396 : decode cX10_scaled 396 = .ok (.goto 4, 3) := by decide +kernel
theorem dX10_scaled_399 : decode cX10_scaled 399 = .ok (.iconst 0, 1) := by decide +kernel
theorem dX10_scaled_400 : decode cX10_scaled 400 = .ok (.istore 17, 2) := by decide +kernel
theorem dX10_scaled_402 : decode cX10_scaled 402 = .ok (.iload 17, 2) := by decide +kernel
theorem dX10_scaled_404 : decode cX10_scaled 404 = .ok (.ifCond .ne 7, 3) := by decide +kernel
theorem dX10_scaled_407 : decode cX10_scaled 407 = .ok (.ldc2_w 164, 3) := by decide +kernel
theorem dX10_scaled_410 : decode cX10_scaled 410 = .ok (.lreturn, 1) := by decide +kernel
theorem dX10_scaled_411 : decode cX10_scaled 411 = .ok (.iload_n 3, 1) := by decide +kernel
theorem dX10_scaled_412 : decode cX10_scaled 412 = .ok (.i2l, 1) := by decide +kernel
theorem dX10_scaled_413 : decode cX10_scaled 413 = .ok (.lload 15, 2) := by decide +kernel
theorem dX10_scaled_415 : decode cX10_scaled 415 = .ok (.lmul, 1) := by decide +kernel
theorem dX10_scaled_416 : decode cX10_scaled 416 = .ok (.iload 4, 2) := by decide +kernel
theorem dX10_scaled_418 : decode cX10_scaled 418 = .ok (.i2l, 1) := by decide +kernel
theorem dX10_scaled_419 : decode cX10_scaled 419 = .ok (.lload 13, 2) := by decide +kernel
theorem dX10_scaled_421 : decode cX10_scaled 421 = .ok (.lmul, 1) := by decide +kernel
theorem dX10_scaled_422 : decode cX10_scaled 422 = .ok (.lcmp, 1) := by decide +kernel
theorem dX10_scaled_423 : decode cX10_scaled 423 = .ok (.ifCond .gt 7, 3) := by decide +kernel
theorem dX10_scaled_426 : decode cX10_scaled 426 = .ok (.iconst 1, 1) := by decide +kernel
theorem dX10_scaled_427 : decode cX10_scaled 427 = .ok (.goto 4, 3) := by decide +kernel
theorem dX10_scaled_430 : decode cX10_scaled 430 = .ok (.iconst 0, 1) := by decide +kernel
theorem dX10_scaled_431 : decode cX10_scaled 431 = .ok (.istore 30, 2) := by decide +kernel
theorem dX10_scaled_433 : decode cX10_scaled 433 = .ok (.iload 30, 2) := by decide +kernel
theorem dX10_scaled_435 : decode cX10_scaled 435 = .ok (.ifCond .eq 7, 3) := by decide +kernel
theorem dX10_scaled_438 : decode cX10_scaled 438 = .ok (.iload_n 3, 1) := by decide +kernel
theorem dX10_scaled_439 : decode cX10_scaled 439 = .ok (.goto 5, 3) := by decide +kernel
theorem dX10_scaled_442 : decode cX10_scaled 442 = .ok (.iload 4, 2) := by decide +kernel
theorem dX10_scaled_444 : decode cX10_scaled 444 = .ok (.i2l, 1) := by decide +kernel
theorem dX10_scaled_445 : decode cX10_scaled 445 = .ok (.lload 18, 2) := by decide +kernel
theorem dX10_scaled_447 : decode cX10_scaled 447 = .ok (.lmul, 1) := by decide +kernel
theorem dX10_scaled_448 : decode cX10_scaled 448 = .ok (.lstore 31, 2) := by decide +kernel
theorem dX10_scaled_450 : decode cX10_scaled 450 = .ok (.iload 30, 2) := by decide +kernel
theorem dX10_scaled_452 : decode cX10_scaled 452 = .ok (.ifCond .eq 8, 3) := by decide +kernel
theorem dX10_scaled_455 : decode cX10_scaled 455 = .ok (.lload 13, 2) := by decide +kernel
theorem dX10_scaled_457 : decode cX10_scaled 457 = .ok (.goto 5, 3) := by decide +kernel
theorem dX10_scaled_460 : decode cX10_scaled 460 = .ok (.lload 15, 2) := by decide +kernel
theorem dX10_scaled_462 : decode cX10_scaled 462 = .ok (.lload 20, 2) := by decide +kernel
theorem dX10_scaled_464 : decode cX10_scaled 464 = .ok (.lmul, 1) := by decide +kernel
theorem dX10_scaled_465 : decode cX10_scaled 465 = .ok (.lstore 33, 2) := by decide +kernel
theorem dX10_scaled_467 : decode cX10_scaled 467 = .ok (.lload 24, 2) := by decide +kernel
theorem dX10_scaled_469 : decode cX10_scaled 469 = .ok (.lconst 0, 1) := by decide +kernel
theorem dX10_scaled_470 : decode cX10_scaled 470 = .ok (.lcmp, 1) := by decide +kernel
theorem dX10_scaled_471 : decode cX10_scaled 471 = .ok (.ifCond .le 28, 3) := by decide +kernel
theorem dX10_scaled_474 : decode cX10_scaled 474 = .ok (.lload 31, 2) := by decide +kernel
theorem dX10_scaled_476 : decode cX10_scaled 476 = .ok (.lload 24, 2) := by decide +kernel
theorem dX10_scaled_478 : decode cX10_scaled 478 = .ok (.lmul, 1) := by decide +kernel
theorem dX10_scaled_479 : decode cX10_scaled 479 = .ok (.lload 22, 2) := by decide +kernel
theorem dX10_scaled_481 : decode cX10_scaled 481 = .ok (.lload 33, 2) := by decide +kernel
theorem dX10_scaled_483 : decode cX10_scaled 483 = .ok (.lmul, 1) := by decide +kernel
theorem dX10_scaled_484 : decode cX10_scaled 484 = .ok (.lcmp, 1) := by decide +kernel
theorem dX10_scaled_485 : decode cX10_scaled 485 = .ok (.ifCond .ge 14, 3) := by decide +kernel
theorem dX10_scaled_488 : decode cX10_scaled 488 = .ok (.lload 22, 2) := by decide +kernel
theorem dX10_scaled_490 : decode cX10_scaled 490 = .ok (.lstore 31, 2) := by decide +kernel
theorem dX10_scaled_492 : decode cX10_scaled 492 = .ok (.lload 24, 2) := by decide +kernel
theorem dX10_scaled_494 : decode cX10_scaled 494 = .ok (.lstore 33, 2) := by decide +kernel
theorem dX10_scaled_496 : decode cX10_scaled 496 = .ok (.goto 32, 3) := by decide +kernel
theorem dX10_scaled_499 : decode cX10_scaled 499 = .ok (.lload 28, 2) := by decide +kernel
theorem dX10_scaled_501 : decode cX10_scaled 501 = .ok (.lconst 0, 1) := by decide +kernel
theorem dX10_scaled_502 : decode cX10_scaled 502 = .ok (.lcmp, 1) := by decide +kernel
theorem dX10_scaled_503 : decode cX10_scaled 503 = .ok (.ifCond .le 25, 3) := by decide +kernel
theorem dX10_scaled_506 : decode cX10_scaled 506 = .ok (.lload 31, 2) := by decide +kernel
theorem dX10_scaled_508 : decode cX10_scaled 508 = .ok (.lload 28, 2) := by decide +kernel
theorem dX10_scaled_510 : decode cX10_scaled 510 = .ok (.lmul, 1) := by decide +kernel
theorem dX10_scaled_511 : decode cX10_scaled 511 = .ok (.lload 26, 2) := by decide +kernel
theorem dX10_scaled_513 : decode cX10_scaled 513 = .ok (.lload 33, 2) := by decide +kernel
theorem dX10_scaled_515 : decode cX10_scaled 515 = .ok (.lmul, 1) := by decide +kernel
theorem dX10_scaled_516 : decode cX10_scaled 516 = .ok (.lcmp, 1) := by decide +kernel
theorem dX10_scaled_517 : decode cX10_scaled 517 = .ok (.ifCond .le 11, 3) := by decide +kernel
theorem dX10_scaled_520 : decode cX10_scaled 520 = .ok (.lload 26, 2) := by decide +kernel
theorem dX10_scaled_522 : decode cX10_scaled 522 = .ok (.lstore 31, 2) := by decide +kernel
theorem dX10_scaled_524 : decode cX10_scaled 524 = .ok (.lload 28, 2) := by decide +kernel
theorem dX10_scaled_526 : decode cX10_scaled 526 = .ok (.lstore 33, 2) := by decide +kernel
theorem dX10_scaled_528 : decode cX10_scaled 528 = .ok (.iload 5, 2) := by decide +kernel
theorem dX10_scaled_530 : decode cX10_scaled 530 = .ok (.ifCond .ne 8, 3) := by decide +kernel
theorem dX10_scaled_533 : decode cX10_scaled 533 = .ok (.lload 7, 2) := by decide +kernel
theorem dX10_scaled_535 : decode cX10_scaled 535 = .ok (.goto 5, 3) := by decide +kernel
theorem dX10_scaled_538 : decode cX10_scaled 538 = .ok (.lload 9, 2) := by decide +kernel
theorem dX10_scaled_540 : decode cX10_scaled 540 = .ok (.lload 31, 2) := by decide +kernel
theorem dX10_scaled_542 : decode cX10_scaled 542 = .ok (.lmul, 1) := by decide +kernel
theorem dX10_scaled_543 : decode cX10_scaled 543 = .ok (.lload 33, 2) := by decide +kernel
theorem dX10_scaled_545 : decode cX10_scaled 545 = .ok (.ldiv, 1) := by decide +kernel
theorem dX10_scaled_546 : decode cX10_scaled 546 = .ok (.lreturn, 1) := by decide +kernel
set_option maxRecDepth 20000 in
theorem ggX10_replace_X10_fromOf : GoodIn wsX10_replace wsX10_fromOf := goodIn_r _ [10, 2, 11, 12, 13, 14, 15, 16, 17, 18, 19, 20, 21, 22, 23, 24, 25, 26, 27, 28] (by decide +kernel) (by decide +kernel)
set_option maxRecDepth 20000 in
theorem gX10_replace_X10_fromOf : GoodIn wsX10_replace (wsV RX10 136 RX10 yX10_fromOf wsX10_fromOf) := goodIn_app (goodIn_of _ (by decide +kernel)) ggX10_replace_X10_fromOf
theorem dX10_replace_0 : decode cX10_replace 0 = .ok (.aload_n 0, 1) := by decide +kernel
theorem dX10_replace_1 : decode cX10_replace 1 = .ok (.iload_n 1, 1) := by decide +kernel
theorem dX10_replace_2 : decode cX10_replace 2 = .ok (.invokevirtual 136, 3) := by decide +kernel
theorem dX10_replace_5 : decode cX10_replace 5 = .ok (.istore_n 3, 1) := by decide +kernel
theorem dX10_replace_6 : decode cX10_replace 6 = .ok (.iload_n 2, 1) := by decide +kernel
theorem dX10_replace_7 : decode cX10_replace 7 = .ok (.ifCond .eq 10, 3) := by decide +kernel
theorem dX10_replace_10 : decode cX10_replace 10 = .ok (.aload_n 0, 1) := by decide +kernel
theorem dX10_replace_11 : decode cX10_replace 11 = .ok (.getfield 58, 3) := by decide +kernel
theorem dX10_replace_14 : decode cX10_replace 14 = .ok (.goto 4, 3) := by decide +kernel
theorem dX10_replace_17 : decode cX10_replace 17 = .ok (.iconst 0, 1) := by decide +kernel
theorem dX10_replace_18 : decode cX10_replace 18 = .ok (.istore 4, 2) := by decide +kernel
theorem dX10_replace_20 : decode cX10_replace 20 = .ok (.iload 4, 2) := by decide +kernel
theorem dX10_replace_22 : decode cX10_replace 22 = .ok (.aload_n 0, 1) := by decide +kernel
theorem dX10_replace_23 : decode cX10_replace 23 = .ok (.getfield 19, 3) := by decide +kernel
theorem dX10_replace_26 : decode cX10_replace 26 = .ok (.iload_n 1, 1) := by decide +kernel
theorem dX10_replace_27 : decode cX10_replace 27 = .ok (.iaload, 1) := by decide +kernel
theorem dX10_replace_28 : decode cX10_replace 28 = .ok (.isub, 1) := by decide +kernel
theorem dX10_replace_29 : decode cX10_replace 29 = .ok (.istore 5, 2) := by decide +kernel
theorem dX10_replace_31 : decode cX10_replace 31 = .ok (.iload 5, 2) := by decide +kernel
theorem dX10_replace_33 : decode cX10_replace 33 = .ok (.ifCond .le 50, 3) := by decide +kernel
theorem dX10_replace_36 : decode cX10_replace 36 = .ok (.aload_n 0, 1) := by decide +kernel
theorem dX10_replace_37 : decode cX10_replace 37 = .ok (.getfield 116, 3) := by decide +kernel
theorem dX10_replace_40 : decode cX10_replace 40 = .ok (.iconst 1, 1) := by decide +kernel
theorem dX10_replace_41 : decode cX10_replace 41 = .ok (.isub, 1) := by decide +kernel
theorem dX10_replace_42 : decode cX10_replace 42 = .ok (.istore 6, 2) := by decide +kernel
theorem dX10_replace_44 : decode cX10_replace 44 = .ok (.iload 6, 2) := by decide +kernel
theorem dX10_replace_46 : decode cX10_replace 46 = .ok (.iload_n 3, 1) := by decide +kernel
theorem dX10_replace_47 : decode cX10_replace 47 = .ok (.aload_n 0, 1) := by decide +kernel
theorem dX10_replace_48 : decode cX10_replace 48 = .ok (.getfield 19, 3) := by decide +kernel
theorem dX10_replace_51 : decode cX10_replace 51 = .ok (.iload_n 1, 1) := by decide +kernel
theorem dX10_replace_52 : decode cX10_replace 52 = .ok (.iaload, 1) := by decide +kernel
theorem dX10_replace_53 : decode cX10_replace 53 = .ok (.iadd, 1) := by decide +kernel
theorem dX10_replace_54 : decode cX10_replace 54 = .ok (.if_icmp .lt 26, 3) := by decide +kernel
theorem dX10_replace_57 : decode cX10_replace 57 = .ok (.aload_n 0, 1) := by decide +kernel
theorem dX10_replace_58 : decode cX10_replace 58 = .ok (.getfield 13, 3) := by decide +kernel
theorem dX10_replace_61 : decode cX10_replace 61 = .ok (.iload 6, 2) := by decide +kernel
theorem dX10_replace_63 : decode cX10_replace 63 = .ok (.iload 5, 2) := by decide +kernel
theorem dX10_replace_65 : decode cX10_replace 65 = .ok (.iadd, 1) := by decide +kernel
theorem dX10_replace_66 : decode cX10_replace 66 = .ok (.aload_n 0, 1) := by decide +kernel
theorem dX10_replace_67 : decode cX10_replace 67 = .ok (.getfield 13, 3) := by decide +kernel
theorem dX10_replace_70 : decode cX10_replace 70 = .ok (.iload 6, 2) := by decide +kernel
theorem dX10_replace_72 : decode cX10_replace 72 = .ok (.iaload, 1) := by decide +kernel
theorem dX10_replace_73 : decode cX10_replace 73 = .ok (.iastore, 1) := by decide +kernel
theorem dX10_replace_74 : decode cX10_replace 74 = .ok (.iinc 6 (-1), 3) := by decide +kernel
theorem dX10_replace_77 : decode cX10_replace 77 = .ok (.goto (-33), 3) := by decide +kernel
theorem dX10_replace_80 : decode cX10_replace 80 = .ok (.goto 45, 3) := by decide +kernel
theorem dX10_replace_83 : decode cX10_replace 83 = .ok (.iload_n 3, 1) := by decide +kernel
theorem dX10_replace_84 : decode cX10_replace 84 = .ok (.aload_n 0, 1) := by decide +kernel
theorem dX10_replace_85 : decode cX10_replace 85 = .ok (.getfield 19, 3) := by decide +kernel
theorem dX10_replace_88 : decode cX10_replace 88 = .ok (.iload_n 1, 1) := by decide +kernel
theorem dX10_replace_89 : decode cX10_replace 89 = .ok (.iaload, 1) := by decide +kernel
theorem dX10_replace_90 : decode cX10_replace 90 = .ok (.iadd, 1) := by decide +kernel
theorem dX10_replace_91 : decode cX10_replace 91 = .ok (.istore 6, 2) := by decide +kernel
theorem dX10_replace_93 : decode cX10_replace 93 = .ok (.iload 6, 2) := by decide +kernel
theorem dX10_replace_95 : decode cX10_replace 95 = .ok (.aload_n 0, 1) := by decide +kernel
theorem dX10_replace_96 : decode cX10_replace 96 = .ok (.getfield 116, 3) := by decide +kernel
theorem dX10_replace_99 : decode cX10_replace 99 = .ok (.if_icmp .ge 26, 3) := by decide +kernel
theorem dX10_replace_102 : decode cX10_replace 102 = .ok (.aload_n 0, 1) := by decide +kernel
theorem dX10_replace_103 : decode cX10_replace 103 = .ok (.getfield 13, 3) := by decide +kernel
theorem dX10_replace_106 : decode cX10_replace 106 = .ok (.iload 6, 2) := by decide +kernel
theorem dX10_replace_108 : decode cX10_replace 108 = .ok (.iload 5, 2) := by decide +kernel
theorem dX10_replace_110 : decode cX10_replace 110 = .ok (.iadd, 1) := by decide +kernel
theorem dX10_replace_111 : decode cX10_replace 111 = .ok (.aload_n 0, 1) := by decide +kernel
theorem dX10_replace_112 : decode cX10_replace 112 = .ok (.getfield 13, 3) := by decide +kernel
theorem dX10_replace_115 : decode cX10_replace 115 = .ok (.iload 6, 2) := by decide +kernel
theorem dX10_replace_117 : decode cX10_replace 117 = .ok (.iaload, 1) := by decide +kernel
theorem dX10_replace_118 : decode cX10_replace 118 = .ok (.iastore, 1) := by decide +kernel
theorem dX10_replace_119 : decode cX10_replace 119 = .ok (.iinc 6 1, 3) := by decide +kernel
theorem dX10_replace_122 : decode cX10_replace 122 = .ok (.goto (-29), 3) := by decide +kernel
theorem dX10_replace_125 : decode cX10_replace 125 = .ok (.iconst 0, 1) := by decide +kernel
theorem dX10_replace_126 : decode cX10_replace 126 = .ok (.istore 6, 2) := by decide +kernel
theorem dX10_replace_128 : decode cX10_replace 128 = .ok (.iload 6, 2) := by decide +kernel
theorem dX10_replace_130 : decode cX10_replace 130 = .ok (.iload 4, 2) := by decide +kernel
theorem dX10_replace_132 : decode cX10_replace 132 = .ok (.if_icmp .ge 25, 3) := by decide +kernel
theorem dX10_replace_135 : decode cX10_replace 135 = .ok (.aload_n 0, 1) := by decide +kernel
theorem dX10_replace_136 : decode cX10_replace 136 = .ok (.getfield 13, 3) := by decide +kernel
theorem dX10_replace_139 : decode cX10_replace 139 = .ok (.iload_n 3, 1) := by decide +kernel
theorem dX10_replace_140 : decode cX10_replace 140 = .ok (.iload 6, 2) := by decide +kernel
theorem dX10_replace_142 : decode cX10_replace 142 = .ok (.iadd, 1) := by decide +kernel
theorem dX10_replace_143 : decode cX10_replace 143 = .ok (.aload_n 0, 1) := by decide +kernel
theorem dX10_replace_144 : decode cX10_replace 144 = .ok (.getfield 7, 3) := by decide +kernel
theorem dX10_replace_147 : decode cX10_replace 147 = .ok (.iload 6, 2) := by decide +kernel
theorem dX10_replace_149 : decode cX10_replace 149 = .ok (.iaload, 1) := by decide +kernel
theorem dX10_replace_150 : decode cX10_replace 150 = .ok (.iastore, 1) := by decide +kernel
theorem dX10_replace_151 : decode cX10_replace 151 = .ok (.iinc 6 1, 3) := by decide +kernel
theorem dX10_replace_154 : decode cX10_replace 154 = .ok (.goto (-26), 3) := by decide +kernel
theorem dX10_replace_157 : decode cX10_replace 157 = .ok (.aload_n 0, 1) := by decide +kernel
theorem dX10_replace_158 : decode cX10_replace 158 = .ok (.dup, 1) := by decide +kernel
theorem dX10_replace_159 : decode cX10_replace 159 = .ok (.getfield 116, 3) := by decide +kernel
theorem dX10_replace_162 : decode cX10_replace 162 = .ok (.iload 5, 2) := by decide +kernel
theorem dX10_replace_164 : decode cX10_replace 164 = .ok (.iadd, 1) := by decide +kernel
theorem dX10_replace_165 : decode cX10_replace 165 = .ok (.putfield 116, 3) := by decide +kernel
theorem dX10_replace_168 : decode cX10_replace 168 = .ok (.aload_n 0, 1) := by decide +kernel
theorem dX10_replace_169 : decode cX10_replace 169 = .ok (.getfield 19, 3) := by decide +kernel
theorem dX10_replace_172 : decode cX10_replace 172 = .ok (.iload_n 1, 1) := by decide +kernel
theorem dX10_replace_173 : decode cX10_replace 173 = .ok (.iload 4, 2) := by decide +kernel
theorem dX10_replace_175 : decode cX10_replace 175 = .ok (.iastore, 1) := by decide +kernel
theorem dX10_replace_176 : decode cX10_replace 176 = .ok (.aload_n 0, 1) := by decide +kernel
theorem dX10_replace_177 : decode cX10_replace 177 = .ok (.iload_n 2, 1) := by decide +kernel
theorem dX10_replace_178 : decode cX10_replace 178 = .ok (.ifCond .eq 7, 3) := by decide +kernel
theorem dX10_replace_181 : decode cX10_replace 181 = .ok (.iconst 0, 1) := by decide +kernel
theorem dX10_replace_182 : decode cX10_replace 182 = .ok (.goto 7, 3) := by decide +kernel
theorem dX10_replace_185 : decode cX10_replace 185 = .ok (.aload_n 0, 1) := by decide +kernel
theorem dX10_replace_186 : decode cX10_replace 186 = .ok (.getfield 58, 3) := by decide +kernel
theorem dX10_replace_189 : decode cX10_replace 189 = .ok (.putfield 58, 3) := by decide +kernel
theorem dX10_replace_192 : decode cX10_replace 192 = .ok (.return_, 1) := by decide +kernel
set_option maxRecDepth 20000 in
theorem ggX10_add_X10_isKind : GoodIn wsX10_add wsX10_isKind := goodIn_r _ [10, 11, 12, 13, 14, 9, 15] (by decide +kernel) (by decide +kernel)
set_option maxRecDepth 20000 in
theorem gX10_add_X10_isKind : GoodIn wsX10_add (va_wsS RX10 98 yX10_isKind wsX10_isKind) := goodIn_app (goodIn_of _ (by decide +kernel)) ggX10_add_X10_isKind
set_option maxRecDepth 20000 in
theorem ggX10_add_X10_replace : GoodIn wsX10_add wsX10_replace := goodIn_r _ [19, 4, 6, 3, 20, 21, 22, 23, 24, 9, 25, 26, 27, 28, 29, 30, 31, 32, 33, 34, 35, 36, 37, 38, 39, 40, 41, 42, 43] (by decide +kernel) (by decide +kernel)
set_option maxRecDepth 20000 in
theorem gX10_add_X10_replace : GoodIn wsX10_add (wsV RX10 211 RX10 yX10_replace wsX10_replace) := goodIn_app (goodIn_of _ (by decide +kernel)) ggX10_add_X10_replace
theorem dX10_add_0 : decode cX10_add 0 = .ok (.iload_n 1, 1) := by decide +kernel
theorem dX10_add_1 : decode cX10_add 1 = .ok (.invokestatic 98, 3) := by decide +kernel
theorem dX10_add_4 : decode cX10_add 4 = .ok (.ifCond .eq 9, 3) := by decide +kernel
theorem dX10_add_7 : decode cX10_add 7 = .ok (.iload_n 1, 1) := by decide +kernel
theorem dX10_add_8 : decode cX10_add 8 = .ok (.ldc 97, 2) := by decide +kernel
theorem dX10_add_10 : decode cX10_add 10 = .ok (.if_icmp .ne 5, 3) := by decide +kernel
theorem dX10_add_13 : decode cX10_add 13 = .ok (.iconst (-1), 1) := by decide +kernel
theorem dX10_add_14 : decode cX10_add 14 = .ok (.ireturn, 1) := by decide +kernel
theorem dX10_add_15 : decode cX10_add 15 = .ok (.aload_n 0, 1) := by decide +kernel
theorem dX10_add_16 : decode cX10_add 16 = .ok (.getfield 113, 3) := by decide +kernel
theorem dX10_add_19 : decode cX10_add 19 = .ok (.bipush 60, 2) := by decide +kernel
theorem dX10_add_21 : decode cX10_add 21 = .ok (.if_icmp .eq 18, 3) := by decide +kernel
theorem dX10_add_24 : decode cX10_add 24 = .ok (.aload_n 0, 1) := by decide +kernel
theorem dX10_add_25 : decode cX10_add 25 = .ok (.getfield 116, 3) := by decide +kernel
theorem dX10_add_28 : decode cX10_add 28 = .ok (.aload_n 0, 1) := by decide +kernel
theorem dX10_add_29 : decode cX10_add 29 = .ok (.getfield 58, 3) := by decide +kernel
theorem dX10_add_32 : decode cX10_add 32 = .ok (.iadd, 1) := by decide +kernel
theorem dX10_add_33 : decode cX10_add 33 = .ok (.sipush 12000, 3) := by decide +kernel
theorem dX10_add_36 : decode cX10_add 36 = .ok (.if_icmp .le 6, 3) := by decide +kernel
theorem dX10_add_39 : decode cX10_add 39 = .ok (.bipush (-4), 2) := by decide +kernel
theorem dX10_add_41 : decode cX10_add 41 = .ok (.ireturn, 1) := by decide +kernel
theorem dX10_add_42 : decode cX10_add 42 = .ok (.aload_n 0, 1) := by decide +kernel
theorem dX10_add_43 : decode cX10_add 43 = .ok (.getfield 16, 3) := by decide +kernel
theorem dX10_add_46 : decode cX10_add 46 = .ok (.aload_n 0, 1) := by decide +kernel
theorem dX10_add_47 : decode cX10_add 47 = .ok (.getfield 113, 3) := by decide +kernel
theorem dX10_add_50 : decode cX10_add 50 = .ok (.iload_n 1, 1) := by decide +kernel
theorem dX10_add_51 : decode cX10_add 51 = .ok (.iastore, 1) := by decide +kernel
theorem dX10_add_52 : decode cX10_add 52 = .ok (.aload_n 0, 1) := by decide +kernel
theorem dX10_add_53 : decode cX10_add 53 = .ok (.getfield 19, 3) := by decide +kernel
theorem dX10_add_56 : decode cX10_add 56 = .ok (.aload_n 0, 1) := by decide +kernel
theorem dX10_add_57 : decode cX10_add 57 = .ok (.getfield 113, 3) := by decide +kernel
theorem dX10_add_60 : decode cX10_add 60 = .ok (.iconst 0, 1) := by decide +kernel
theorem dX10_add_61 : decode cX10_add 61 = .ok (.iastore, 1) := by decide +kernel
theorem dX10_add_62 : decode cX10_add 62 = .ok (.aload_n 0, 1) := by decide +kernel
theorem dX10_add_63 : decode cX10_add 63 = .ok (.dup, 1) := by decide +kernel
theorem dX10_add_64 : decode cX10_add 64 = .ok (.getfield 113, 3) := by decide +kernel
theorem dX10_add_67 : decode cX10_add 67 = .ok (.iconst 1, 1) := by decide +kernel
theorem dX10_add_68 : decode cX10_add 68 = .ok (.iadd, 1) := by decide +kernel
theorem dX10_add_69 : decode cX10_add 69 = .ok (.putfield 113, 3) := by decide +kernel
theorem dX10_add_72 : decode cX10_add 72 = .ok (.aload_n 0, 1) := by decide +kernel
theorem dX10_add_73 : decode cX10_add 73 = .ok (.aload_n 0, 1) := by decide +kernel
theorem dX10_add_74 : decode cX10_add 74 = .ok (.getfield 113, 3) := by decide +kernel
theorem dX10_add_77 : decode cX10_add 77 = .ok (.iconst 1, 1) := by decide +kernel
theorem dX10_add_78 : decode cX10_add 78 = .ok (.isub, 1) := by decide +kernel
theorem dX10_add_79 : decode cX10_add 79 = .ok (.iconst 1, 1) := by decide +kernel
theorem dX10_add_80 : decode cX10_add 80 = .ok (.invokevirtual 211, 3) := by decide +kernel
theorem dX10_add_83 : decode cX10_add 83 = .ok (.aload_n 0, 1) := by decide +kernel
theorem dX10_add_84 : decode cX10_add 84 = .ok (.getfield 113, 3) := by decide +kernel
theorem dX10_add_87 : decode cX10_add 87 = .ok (.iconst 1, 1) := by decide +kernel
theorem dX10_add_88 : decode cX10_add 88 = .ok (.isub, 1) := by decide +kernel
theorem dX10_add_89 : decode cX10_add 89 = .ok (.ireturn, 1) := by decide +kernel
set_option maxRecDepth 20000 in
theorem ggX10_mean_X10_isUse : GoodIn wsX10_mean wsX10_isUse := goodIn_r _ [8, 9, 10, 11, 12] (by decide +kernel) (by decide +kernel)
set_option maxRecDepth 20000 in
theorem gX10_mean_X10_isUse : GoodIn wsX10_mean (va_wsS RX10 104 yX10_isUse wsX10_isUse) := goodIn_app (goodIn_of _ (by decide +kernel)) ggX10_mean_X10_isUse
set_option maxRecDepth 20000 in
theorem ggX10_mean_X10_isNumber : GoodIn wsX10_mean wsX10_isNumber := goodIn_r _ [15, 16, 17, 18, 7, 19] (by decide +kernel) (by decide +kernel)
set_option maxRecDepth 20000 in
theorem gX10_mean_X10_isNumber : GoodIn wsX10_mean (va_wsS RX10 156 yX10_isNumber wsX10_isNumber) := goodIn_app (goodIn_of _ (by decide +kernel)) ggX10_mean_X10_isNumber
set_option maxRecDepth 20000 in
theorem ggX10_mean_X10_isChunk : GoodIn wsX10_mean wsX10_isChunk := goodIn_r _ [23, 24, 17, 18, 7, 19, 29, 30, 31, 32, 33, 34, 35, 36, 37, 38, 39, 40, 41, 42, 43, 44, 45, 46] (by decide +kernel) (by decide +kernel)
set_option maxRecDepth 20000 in
theorem gX10_mean_X10_isChunk : GoodIn wsX10_mean (wsV RX10 125 RX10 yX10_isChunk wsX10_isChunk) := goodIn_app (goodIn_of _ (by decide +kernel)) ggX10_mean_X10_isChunk
set_option maxRecDepth 20000 in
theorem ggX10_mean_X10_entryFor : GoodIn wsX10_mean wsX10_entryFor := goodIn_r _ [28, 1, 2, 3, 29, 30, 31, 32, 33, 34, 35, 36, 37, 38, 39, 40, 41, 42, 43, 44, 45, 46] (by decide +kernel) (by decide +kernel)
set_option maxRecDepth 20000 in
theorem gX10_mean_X10_entryFor : GoodIn wsX10_mean (wsV RX10 160 RX10 yX10_entryFor wsX10_entryFor) := goodIn_app (goodIn_of _ (by decide +kernel)) ggX10_mean_X10_entryFor
theorem dX10_mean_0 : decode cX10_mean 0 = .ok (.iload_n 1, 1) := by decide +kernel
theorem dX10_mean_1 : decode cX10_mean 1 = .ok (.invokestatic 104, 3) := by decide +kernel
theorem dX10_mean_4 : decode cX10_mean 4 = .ok (.ifCond .eq 19, 3) := by decide +kernel
theorem dX10_mean_7 : decode cX10_mean 7 = .ok (.lload_n 2, 1) := by decide +kernel
theorem dX10_mean_8 : decode cX10_mean 8 = .ok (.invokestatic 156, 3) := by decide +kernel
theorem dX10_mean_11 : decode cX10_mean 11 = .ok (.ifCond .eq 12, 3) := by decide +kernel
theorem dX10_mean_14 : decode cX10_mean 14 = .ok (.aload_n 0, 1) := by decide +kernel
theorem dX10_mean_15 : decode cX10_mean 15 = .ok (.iload 4, 2) := by decide +kernel
theorem dX10_mean_17 : decode cX10_mean 17 = .ok (.invokevirtual 125, 3) := by decide +kernel
theorem dX10_mean_20 : decode cX10_mean 20 = .ok (.ifCond .ne 5, 3) := by decide +kernel
theorem dX10_mean_23 : decode cX10_mean 23 = .ok (.iconst (-1), 1) := by decide +kernel
theorem dX10_mean_24 : decode cX10_mean 24 = .ok (.ireturn, 1) := by decide +kernel
theorem dX10_mean_25 : decode cX10_mean 25 = .ok (.aload_n 0, 1) := by decide +kernel
theorem dX10_mean_26 : decode cX10_mean 26 = .ok (.iload_n 1, 1) := by decide +kernel
theorem dX10_mean_27 : decode cX10_mean 27 = .ok (.lload_n 2, 1) := by decide +kernel
theorem dX10_mean_28 : decode cX10_mean 28 = .ok (.invokevirtual 160, 3) := by decide +kernel
theorem dX10_mean_31 : decode cX10_mean 31 = .ok (.bipush (-2), 2) := by decide +kernel
theorem dX10_mean_33 : decode cX10_mean 33 = .ok (.if_icmp .eq 6, 3) := by decide +kernel
theorem dX10_mean_36 : decode cX10_mean 36 = .ok (.bipush (-3), 2) := by decide +kernel
theorem dX10_mean_38 : decode cX10_mean 38 = .ok (.ireturn, 1) := by decide +kernel
theorem dX10_mean_39 : decode cX10_mean 39 = .ok (.aload_n 0, 1) := by decide +kernel
theorem dX10_mean_40 : decode cX10_mean 40 = .ok (.getfield 119, 3) := by decide +kernel
theorem dX10_mean_43 : decode cX10_mean 43 = .ok (.bipush 40, 2) := by decide +kernel
theorem dX10_mean_45 : decode cX10_mean 45 = .ok (.if_icmp .ne 6, 3) := by decide +kernel
theorem dX10_mean_48 : decode cX10_mean 48 = .ok (.bipush (-4), 2) := by decide +kernel
theorem dX10_mean_50 : decode cX10_mean 50 = .ok (.ireturn, 1) := by decide +kernel
theorem dX10_mean_51 : decode cX10_mean 51 = .ok (.aload_n 0, 1) := by decide +kernel
theorem dX10_mean_52 : decode cX10_mean 52 = .ok (.getfield 22, 3) := by decide +kernel
theorem dX10_mean_55 : decode cX10_mean 55 = .ok (.aload_n 0, 1) := by decide +kernel
theorem dX10_mean_56 : decode cX10_mean 56 = .ok (.getfield 119, 3) := by decide +kernel
theorem dX10_mean_59 : decode cX10_mean 59 = .ok (.iload_n 1, 1) := by decide +kernel
theorem dX10_mean_60 : decode cX10_mean 60 = .ok (.iastore, 1) := by decide +kernel
theorem dX10_mean_61 : decode cX10_mean 61 = .ok (.aload_n 0, 1) := by decide +kernel
theorem dX10_mean_62 : decode cX10_mean 62 = .ok (.getfield 25, 3) := by decide +kernel
theorem dX10_mean_65 : decode cX10_mean 65 = .ok (.aload_n 0, 1) := by decide +kernel
theorem dX10_mean_66 : decode cX10_mean 66 = .ok (.getfield 119, 3) := by decide +kernel
theorem dX10_mean_69 : decode cX10_mean 69 = .ok (.lload_n 2, 1) := by decide +kernel
theorem dX10_mean_70 : decode cX10_mean 70 = .ok (.lastore, 1) := by decide +kernel
theorem dX10_mean_71 : decode cX10_mean 71 = .ok (.aload_n 0, 1) := by decide +kernel
theorem dX10_mean_72 : decode cX10_mean 72 = .ok (.getfield 29, 3) := by decide +kernel
theorem dX10_mean_75 : decode cX10_mean 75 = .ok (.aload_n 0, 1) := by decide +kernel
theorem dX10_mean_76 : decode cX10_mean 76 = .ok (.getfield 119, 3) := by decide +kernel
theorem dX10_mean_79 : decode cX10_mean 79 = .ok (.iload 4, 2) := by decide +kernel
theorem dX10_mean_81 : decode cX10_mean 81 = .ok (.iastore, 1) := by decide +kernel
theorem dX10_mean_82 : decode cX10_mean 82 = .ok (.aload_n 0, 1) := by decide +kernel
theorem dX10_mean_83 : decode cX10_mean 83 = .ok (.dup, 1) := by decide +kernel
theorem dX10_mean_84 : decode cX10_mean 84 = .ok (.getfield 119, 3) := by decide +kernel
theorem dX10_mean_87 : decode cX10_mean 87 = .ok (.iconst 1, 1) := by decide +kernel
theorem dX10_mean_88 : decode cX10_mean 88 = .ok (.iadd, 1) := by decide +kernel
theorem dX10_mean_89 : decode cX10_mean 89 = .ok (.putfield 119, 3) := by decide +kernel
theorem dX10_mean_92 : decode cX10_mean 92 = .ok (.aload_n 0, 1) := by decide +kernel
theorem dX10_mean_93 : decode cX10_mean 93 = .ok (.getfield 119, 3) := by decide +kernel
theorem dX10_mean_96 : decode cX10_mean 96 = .ok (.iconst 1, 1) := by decide +kernel
theorem dX10_mean_97 : decode cX10_mean 97 = .ok (.isub, 1) := by decide +kernel
theorem dX10_mean_98 : decode cX10_mean 98 = .ok (.ireturn, 1) := by decide +kernel
set_option maxRecDepth 20000 in
theorem ggX10_change_X10_isChunk : GoodIn wsX10_change wsX10_isChunk := goodIn_r _ [8, 9, 10, 11, 7, 12, 23, 24, 25, 26, 27, 28, 29, 30, 31, 32, 33, 34, 35, 36, 37, 38, 39, 40] (by decide +kernel) (by decide +kernel)
set_option maxRecDepth 20000 in
theorem gX10_change_X10_isChunk : GoodIn wsX10_change (wsV RX10 125 RX10 yX10_isChunk wsX10_isChunk) := goodIn_app (goodIn_of _ (by decide +kernel)) ggX10_change_X10_isChunk
set_option maxRecDepth 20000 in
theorem ggX10_change_X10_replace : GoodIn wsX10_change wsX10_replace := goodIn_r _ [16, 3, 2, 1, 17, 18, 19, 20, 21, 7, 22, 23, 24, 25, 26, 27, 28, 29, 30, 31, 32, 33, 34, 35, 36, 37, 38, 39, 40] (by decide +kernel) (by decide +kernel)
set_option maxRecDepth 20000 in
theorem gX10_change_X10_replace : GoodIn wsX10_change (wsV RX10 211 RX10 yX10_replace wsX10_replace) := goodIn_app (goodIn_of _ (by decide +kernel)) ggX10_change_X10_replace
theorem dX10_change_0 : decode cX10_change 0 = .ok (.aload_n 0, 1) := by decide +kernel
theorem dX10_change_1 : decode cX10_change 1 = .ok (.iload_n 1, 1) := by decide +kernel
theorem dX10_change_2 : decode cX10_change 2 = .ok (.invokevirtual 125, 3) := by decide +kernel
theorem dX10_change_5 : decode cX10_change 5 = .ok (.ifCond .ne 5, 3) := by decide +kernel
theorem dX10_change_8 : decode cX10_change 8 = .ok (.iconst (-1), 1) := by decide +kernel
theorem dX10_change_9 : decode cX10_change 9 = .ok (.ireturn, 1) := by decide +kernel
theorem dX10_change_10 : decode cX10_change 10 = .ok (.aload_n 0, 1) := by decide +kernel
theorem dX10_change_11 : decode cX10_change 11 = .ok (.getfield 116, 3) := by decide +kernel
theorem dX10_change_14 : decode cX10_change 14 = .ok (.aload_n 0, 1) := by decide +kernel
theorem dX10_change_15 : decode cX10_change 15 = .ok (.getfield 19, 3) := by decide +kernel
theorem dX10_change_18 : decode cX10_change 18 = .ok (.iload_n 1, 1) := by decide +kernel
theorem dX10_change_19 : decode cX10_change 19 = .ok (.iaload, 1) := by decide +kernel
theorem dX10_change_20 : decode cX10_change 20 = .ok (.isub, 1) := by decide +kernel
theorem dX10_change_21 : decode cX10_change 21 = .ok (.aload_n 0, 1) := by decide +kernel
theorem dX10_change_22 : decode cX10_change 22 = .ok (.getfield 58, 3) := by decide +kernel
theorem dX10_change_25 : decode cX10_change 25 = .ok (.iadd, 1) := by decide +kernel
theorem dX10_change_26 : decode cX10_change 26 = .ok (.sipush 12000, 3) := by decide +kernel
theorem dX10_change_29 : decode cX10_change 29 = .ok (.if_icmp .le 6, 3) := by decide +kernel
theorem dX10_change_32 : decode cX10_change 32 = .ok (.bipush (-4), 2) := by decide +kernel
theorem dX10_change_34 : decode cX10_change 34 = .ok (.ireturn, 1) := by decide +kernel
theorem dX10_change_35 : decode cX10_change 35 = .ok (.aload_n 0, 1) := by decide +kernel
theorem dX10_change_36 : decode cX10_change 36 = .ok (.getfield 19, 3) := by decide +kernel
theorem dX10_change_39 : decode cX10_change 39 = .ok (.iload_n 1, 1) := by decide +kernel
theorem dX10_change_40 : decode cX10_change 40 = .ok (.iaload, 1) := by decide +kernel
theorem dX10_change_41 : decode cX10_change 41 = .ok (.istore_n 2, 1) := by decide +kernel
theorem dX10_change_42 : decode cX10_change 42 = .ok (.aload_n 0, 1) := by decide +kernel
theorem dX10_change_43 : decode cX10_change 43 = .ok (.iload_n 1, 1) := by decide +kernel
theorem dX10_change_44 : decode cX10_change 44 = .ok (.iconst 1, 1) := by decide +kernel
theorem dX10_change_45 : decode cX10_change 45 = .ok (.invokevirtual 211, 3) := by decide +kernel
theorem dX10_change_48 : decode cX10_change 48 = .ok (.iload_n 2, 1) := by decide +kernel
theorem dX10_change_49 : decode cX10_change 49 = .ok (.ireturn, 1) := by decide +kernel
set_option maxRecDepth 20000 in
theorem ggX10_goesAway_X10_replace : GoodIn wsX10_goesAway wsX10_replace := goodIn_r _ [10, 11, 1, 12, 13, 14, 15, 16, 17, 9, 18, 19, 20, 21, 22, 23, 24, 25, 26, 27, 28, 29, 30, 31, 32, 33, 34, 35, 36] (by decide +kernel) (by decide +kernel)
set_option maxRecDepth 20000 in
theorem gX10_goesAway_X10_replace : GoodIn wsX10_goesAway (wsV RX10 211 RX10 yX10_replace wsX10_replace) := goodIn_app (goodIn_of _ (by decide +kernel)) ggX10_goesAway_X10_replace
theorem dX10_goesAway_0 : decode cX10_goesAway 0 = .ok (.aload_n 0, 1) := by decide +kernel
theorem dX10_goesAway_1 : decode cX10_goesAway 1 = .ok (.getfield 19, 3) := by decide +kernel
theorem dX10_goesAway_4 : decode cX10_goesAway 4 = .ok (.iload_n 1, 1) := by decide +kernel
theorem dX10_goesAway_5 : decode cX10_goesAway 5 = .ok (.iaload, 1) := by decide +kernel
theorem dX10_goesAway_6 : decode cX10_goesAway 6 = .ok (.istore_n 2, 1) := by decide +kernel
theorem dX10_goesAway_7 : decode cX10_goesAway 7 = .ok (.aload_n 0, 1) := by decide +kernel
theorem dX10_goesAway_8 : decode cX10_goesAway 8 = .ok (.iload_n 1, 1) := by decide +kernel
theorem dX10_goesAway_9 : decode cX10_goesAway 9 = .ok (.iconst 0, 1) := by decide +kernel
theorem dX10_goesAway_10 : decode cX10_goesAway 10 = .ok (.invokevirtual 211, 3) := by decide +kernel
theorem dX10_goesAway_13 : decode cX10_goesAway 13 = .ok (.aload_n 0, 1) := by decide +kernel
theorem dX10_goesAway_14 : decode cX10_goesAway 14 = .ok (.dup, 1) := by decide +kernel
theorem dX10_goesAway_15 : decode cX10_goesAway 15 = .ok (.getfield 113, 3) := by decide +kernel
theorem dX10_goesAway_18 : decode cX10_goesAway 18 = .ok (.iconst 1, 1) := by decide +kernel
theorem dX10_goesAway_19 : decode cX10_goesAway 19 = .ok (.isub, 1) := by decide +kernel
theorem dX10_goesAway_20 : decode cX10_goesAway 20 = .ok (.putfield 113, 3) := by decide +kernel
theorem dX10_goesAway_23 : decode cX10_goesAway 23 = .ok (.iload_n 1, 1) := by decide +kernel
theorem dX10_goesAway_24 : decode cX10_goesAway 24 = .ok (.istore_n 3, 1) := by decide +kernel
theorem dX10_goesAway_25 : decode cX10_goesAway 25 = .ok (.iload_n 3, 1) := by decide +kernel
theorem dX10_goesAway_26 : decode cX10_goesAway 26 = .ok (.aload_n 0, 1) := by decide +kernel
theorem dX10_goesAway_27 : decode cX10_goesAway 27 = .ok (.getfield 113, 3) := by decide +kernel
theorem dX10_goesAway_30 : decode cX10_goesAway 30 = .ok (.if_icmp .ge 37, 3) := by decide +kernel
theorem dX10_goesAway_33 : decode cX10_goesAway 33 = .ok (.aload_n 0, 1) := by decide +kernel
theorem dX10_goesAway_34 : decode cX10_goesAway 34 = .ok (.getfield 16, 3) := by decide +kernel
theorem dX10_goesAway_37 : decode cX10_goesAway 37 = .ok (.iload_n 3, 1) := by decide +kernel
theorem dX10_goesAway_38 : decode cX10_goesAway 38 = .ok (.aload_n 0, 1) := by decide +kernel
theorem dX10_goesAway_39 : decode cX10_goesAway 39 = .ok (.getfield 16, 3) := by decide +kernel
theorem dX10_goesAway_42 : decode cX10_goesAway 42 = .ok (.iload_n 3, 1) := by decide +kernel
theorem dX10_goesAway_43 : decode cX10_goesAway 43 = .ok (.iconst 1, 1) := by decide +kernel
theorem dX10_goesAway_44 : decode cX10_goesAway 44 = .ok (.iadd, 1) := by decide +kernel
theorem dX10_goesAway_45 : decode cX10_goesAway 45 = .ok (.iaload, 1) := by decide +kernel
theorem dX10_goesAway_46 : decode cX10_goesAway 46 = .ok (.iastore, 1) := by decide +kernel
theorem dX10_goesAway_47 : decode cX10_goesAway 47 = .ok (.aload_n 0, 1) := by decide +kernel
theorem dX10_goesAway_48 : decode cX10_goesAway 48 = .ok (.getfield 19, 3) := by decide +kernel
theorem dX10_goesAway_51 : decode cX10_goesAway 51 = .ok (.iload_n 3, 1) := by decide +kernel
theorem dX10_goesAway_52 : decode cX10_goesAway 52 = .ok (.aload_n 0, 1) := by decide +kernel
theorem dX10_goesAway_53 : decode cX10_goesAway 53 = .ok (.getfield 19, 3) := by decide +kernel
theorem dX10_goesAway_56 : decode cX10_goesAway 56 = .ok (.iload_n 3, 1) := by decide +kernel
theorem dX10_goesAway_57 : decode cX10_goesAway 57 = .ok (.iconst 1, 1) := by decide +kernel
theorem dX10_goesAway_58 : decode cX10_goesAway 58 = .ok (.iadd, 1) := by decide +kernel
theorem dX10_goesAway_59 : decode cX10_goesAway 59 = .ok (.iaload, 1) := by decide +kernel
theorem dX10_goesAway_60 : decode cX10_goesAway 60 = .ok (.iastore, 1) := by decide +kernel
theorem dX10_goesAway_61 : decode cX10_goesAway 61 = .ok (.iinc 3 1, 3) := by decide +kernel
theorem dX10_goesAway_64 : decode cX10_goesAway 64 = .ok (.goto (-39), 3) := by decide +kernel
theorem dX10_goesAway_67 : decode cX10_goesAway 67 = .ok (.iconst 0, 1) := by decide +kernel
theorem dX10_goesAway_68 : decode cX10_goesAway 68 = .ok (.istore_n 3, 1) := by decide +kernel
theorem dX10_goesAway_69 : decode cX10_goesAway 69 = .ok (.iload_n 3, 1) := by decide +kernel
theorem dX10_goesAway_70 : decode cX10_goesAway 70 = .ok (.aload_n 0, 1) := by decide +kernel
theorem dX10_goesAway_71 : decode cX10_goesAway 71 = .ok (.getfield 119, 3) := by decide +kernel
theorem dX10_goesAway_74 : decode cX10_goesAway 74 = .ok (.if_icmp .ge 33, 3) := by decide +kernel
theorem dX10_goesAway_77 : decode cX10_goesAway 77 = .ok (.aload_n 0, 1) := by decide +kernel
theorem dX10_goesAway_78 : decode cX10_goesAway 78 = .ok (.getfield 29, 3) := by decide +kernel
