set_option maxRecDepth 20000 in
theorem ggX0_init_X6_init : GoodIn wsX0_init wsX6_init := goodIn_r _ [19, 20, 2, 3, 21, 22, 23, 24, 25, 26, 27, 28, 29] (by decide +kernel) (by decide +kernel)
set_option maxRecDepth 20000 in
theorem gX0_init_X6_init : GoodIn wsX0_init (wsX6_init) := ggX0_init_X6_init
theorem dX0_init_0 : decode cX0_init 0 = .ok (.aload_n 0, 1) := by decide +kernel
theorem dX0_init_1 : decode cX0_init 1 = .ok (.invokespecial 3, 3) := by decide +kernel
theorem dX0_init_4 : decode cX0_init 4 = .ok (.aload_n 0, 1) := by decide +kernel
theorem dX0_init_5 : decode cX0_init 5 = .ok (.new 9, 3) := by decide +kernel
theorem dX0_init_8 : decode cX0_init 8 = .ok (.dup, 1) := by decide +kernel
theorem dX0_init_9 : decode cX0_init 9 = .ok (.sipush 12000, 3) := by decide +kernel
theorem dX0_init_12 : decode cX0_init 12 = .ok (.invokespecial 11, 3) := by decide +kernel
theorem dX0_init_15 : decode cX0_init 15 = .ok (.putfield 14, 3) := by decide +kernel
theorem dX0_init_18 : decode cX0_init 18 = .ok (.aload_n 0, 1) := by decide +kernel
theorem dX0_init_19 : decode cX0_init 19 = .ok (.bipush 60, 2) := by decide +kernel
theorem dX0_init_21 : decode cX0_init 21 = .ok (.newarray .int, 2) := by decide +kernel
theorem dX0_init_23 : decode cX0_init 23 = .ok (.putfield 20, 3) := by decide +kernel
theorem dX0_init_26 : decode cX0_init 26 = .ok (.aload_n 0, 1) := by decide +kernel
theorem dX0_init_27 : decode cX0_init 27 = .ok (.bipush 61, 2) := by decide +kernel
theorem dX0_init_29 : decode cX0_init 29 = .ok (.newarray .int, 2) := by decide +kernel
theorem dX0_init_31 : decode cX0_init 31 = .ok (.putfield 24, 3) := by decide +kernel
theorem dX0_init_34 : decode cX0_init 34 = .ok (.aload_n 0, 1) := by decide +kernel
theorem dX0_init_35 : decode cX0_init 35 = .ok (.iconst 0, 1) := by decide +kernel
theorem dX0_init_36 : decode cX0_init 36 = .ok (.putfield 27, 3) := by decide +kernel
theorem dX0_init_39 : decode cX0_init 39 = .ok (.aload_n 0, 1) := by decide +kernel
theorem dX0_init_40 : decode cX0_init 40 = .ok (.bipush 40, 2) := by decide +kernel
theorem dX0_init_42 : decode cX0_init 42 = .ok (.newarray .int, 2) := by decide +kernel
theorem dX0_init_44 : decode cX0_init 44 = .ok (.putfield 31, 3) := by decide +kernel
theorem dX0_init_47 : decode cX0_init 47 = .ok (.aload_n 0, 1) := by decide +kernel
theorem dX0_init_48 : decode cX0_init 48 = .ok (.bipush 40, 2) := by decide +kernel
theorem dX0_init_50 : decode cX0_init 50 = .ok (.newarray .long, 2) := by decide +kernel
theorem dX0_init_52 : decode cX0_init 52 = .ok (.putfield 34, 3) := by decide +kernel
theorem dX0_init_55 : decode cX0_init 55 = .ok (.aload_n 0, 1) := by decide +kernel
theorem dX0_init_56 : decode cX0_init 56 = .ok (.bipush 40, 2) := by decide +kernel
theorem dX0_init_58 : decode cX0_init 58 = .ok (.newarray .int, 2) := by decide +kernel
theorem dX0_init_60 : decode cX0_init 60 = .ok (.putfield 38, 3) := by decide +kernel
theorem dX0_init_63 : decode cX0_init 63 = .ok (.aload_n 0, 1) := by decide +kernel
theorem dX0_init_64 : decode cX0_init 64 = .ok (.iconst 0, 1) := by decide +kernel
theorem dX0_init_65 : decode cX0_init 65 = .ok (.putfield 41, 3) := by decide +kernel
theorem dX0_init_68 : decode cX0_init 68 = .ok (.return_, 1) := by decide +kernel
set_option maxRecDepth 20000 in
theorem ggX0_empty_X6_keep : GoodIn wsX0_empty wsX6_keep := goodIn_r _ [8, 9, 18, 19] (by decide +kernel) (by decide +kernel)
set_option maxRecDepth 20000 in
theorem gX0_empty_X6_keep : GoodIn wsX0_empty (wsV RX0 44 RX6 yX6_keep wsX6_keep) := goodIn_app (goodIn_of _ (by decide +kernel)) ggX0_empty_X6_keep
theorem dX0_empty_0 : decode cX0_empty 0 = .ok (.aload_n 0, 1) := by decide +kernel
theorem dX0_empty_1 : decode cX0_empty 1 = .ok (.getfield 14, 3) := by decide +kernel
theorem dX0_empty_4 : decode cX0_empty 4 = .ok (.iconst 0, 1) := by decide +kernel
theorem dX0_empty_5 : decode cX0_empty 5 = .ok (.invokevirtual 44, 3) := by decide +kernel
theorem dX0_empty_8 : decode cX0_empty 8 = .ok (.aload_n 0, 1) := by decide +kernel
theorem dX0_empty_9 : decode cX0_empty 9 = .ok (.iconst 0, 1) := by decide +kernel
theorem dX0_empty_10 : decode cX0_empty 10 = .ok (.putfield 27, 3) := by decide +kernel
theorem dX0_empty_13 : decode cX0_empty 13 = .ok (.aload_n 0, 1) := by decide +kernel
theorem dX0_empty_14 : decode cX0_empty 14 = .ok (.iconst 0, 1) := by decide +kernel
theorem dX0_empty_15 : decode cX0_empty 15 = .ok (.putfield 41, 3) := by decide +kernel
theorem dX0_empty_18 : decode cX0_empty 18 = .ok (.return_, 1) := by decide +kernel
theorem dX0_hasChunk_0 : decode cX0_hasChunk 0 = .ok (.iload_n 1, 1) := by decide +kernel
theorem dX0_hasChunk_1 : decode cX0_hasChunk 1 = .ok (.ifCond .lt 15, 3) := by decide +kernel
theorem dX0_hasChunk_4 : decode cX0_hasChunk 4 = .ok (.iload_n 1, 1) := by decide +kernel
theorem dX0_hasChunk_5 : decode cX0_hasChunk 5 = .ok (.aload_n 0, 1) := by decide +kernel
theorem dX0_hasChunk_6 : decode cX0_hasChunk 6 = .ok (.getfield 27, 3) := by decide +kernel
theorem dX0_hasChunk_9 : decode cX0_hasChunk 9 = .ok (.if_icmp .ge 7, 3) := by decide +kernel
theorem dX0_hasChunk_12 : decode cX0_hasChunk 12 = .ok (.iconst 1, 1) := by decide +kernel
theorem dX0_hasChunk_13 : decode cX0_hasChunk 13 = .ok (.goto 4, 3) := by decide +kernel
theorem dX0_hasChunk_16 : decode cX0_hasChunk 16 = .ok (.iconst 0, 1) := by decide +kernel
theorem dX0_hasChunk_17 : decode cX0_hasChunk 17 = .ok (.ireturn, 1) := by decide +kernel
theorem dX0_hasEntry_0 : decode cX0_hasEntry 0 = .ok (.iload_n 1, 1) := by decide +kernel
theorem dX0_hasEntry_1 : decode cX0_hasEntry 1 = .ok (.ifCond .lt 15, 3) := by decide +kernel
theorem dX0_hasEntry_4 : decode cX0_hasEntry 4 = .ok (.iload_n 1, 1) := by decide +kernel
theorem dX0_hasEntry_5 : decode cX0_hasEntry 5 = .ok (.aload_n 0, 1) := by decide +kernel
theorem dX0_hasEntry_6 : decode cX0_hasEntry 6 = .ok (.getfield 41, 3) := by decide +kernel
theorem dX0_hasEntry_9 : decode cX0_hasEntry 9 = .ok (.if_icmp .ge 7, 3) := by decide +kernel
theorem dX0_hasEntry_12 : decode cX0_hasEntry 12 = .ok (.iconst 1, 1) := by decide +kernel
theorem dX0_hasEntry_13 : decode cX0_hasEntry 13 = .ok (.goto 4, 3) := by decide +kernel
theorem dX0_hasEntry_16 : decode cX0_hasEntry 16 = .ok (.iconst 0, 1) := by decide +kernel
theorem dX0_hasEntry_17 : decode cX0_hasEntry 17 = .ok (.ireturn, 1) := by decide +kernel
set_option maxRecDepth 20000 in
theorem ggX0_hasChunkRoom_X6_room : GoodIn wsX0_hasChunkRoom wsX6_room := goodIn_r _ [7, 8, 9, 18, 19] (by decide +kernel) (by decide +kernel)
set_option maxRecDepth 20000 in
theorem gX0_hasChunkRoom_X6_room : GoodIn wsX0_hasChunkRoom (wsV RX0 47 RX6 yX6_room wsX6_room) := goodIn_app (goodIn_of _ (by decide +kernel)) ggX0_hasChunkRoom_X6_room
theorem dX0_hasChunkRoom_0 : decode cX0_hasChunkRoom 0 = .ok (.aload_n 0, 1) := by decide +kernel
theorem dX0_hasChunkRoom_1 : decode cX0_hasChunkRoom 1 = .ok (.getfield 27, 3) := by decide +kernel
theorem dX0_hasChunkRoom_4 : decode cX0_hasChunkRoom 4 = .ok (.bipush 60, 2) := by decide +kernel
theorem dX0_hasChunkRoom_6 : decode cX0_hasChunkRoom 6 = .ok (.if_icmp .ge 18, 3) := by decide +kernel
theorem dX0_hasChunkRoom_9 : decode cX0_hasChunkRoom 9 = .ok (.iload_n 1, 1) := by decide +kernel
theorem dX0_hasChunkRoom_10 : decode cX0_hasChunkRoom 10 = .ok (.aload_n 0, 1) := by decide +kernel
theorem dX0_hasChunkRoom_11 : decode cX0_hasChunkRoom 11 = .ok (.getfield 14, 3) := by decide +kernel
theorem dX0_hasChunkRoom_14 : decode cX0_hasChunkRoom 14 = .ok (.invokevirtual 47, 3) := by decide +kernel
theorem dX0_hasChunkRoom_17 : decode cX0_hasChunkRoom 17 = .ok (.if_icmp .gt 7, 3) := by decide +kernel
theorem dX0_hasChunkRoom_20 : decode cX0_hasChunkRoom 20 = .ok (.iconst 1, 1) := by decide +kernel
theorem dX0_hasChunkRoom_21 : decode cX0_hasChunkRoom 21 = .ok (.goto 4, 3) := by decide +kernel
theorem dX0_hasChunkRoom_24 : decode cX0_hasChunkRoom 24 = .ok (.iconst 0, 1) := by decide +kernel
theorem dX0_hasChunkRoom_25 : decode cX0_hasChunkRoom 25 = .ok (.ireturn, 1) := by decide +kernel
set_option maxRecDepth 20000 in
theorem ggX0_kindOf_X0_hasChunk : GoodIn wsX0_kindOf wsX0_hasChunk := goodIn_r _ [6, 7, 8, 9, 10, 11, 12, 13, 14, 15] (by decide +kernel) (by decide +kernel)
set_option maxRecDepth 20000 in
theorem gX0_kindOf_X0_hasChunk : GoodIn wsX0_kindOf (wsV RX0 51 RX0 yX0_hasChunk wsX0_hasChunk) := goodIn_app (goodIn_of _ (by decide +kernel)) ggX0_kindOf_X0_hasChunk
theorem dX0_kindOf_0 : decode cX0_kindOf 0 = .ok (.aload_n 0, 1) := by decide +kernel
theorem dX0_kindOf_1 : decode cX0_kindOf 1 = .ok (.iload_n 1, 1) := by decide +kernel
theorem dX0_kindOf_2 : decode cX0_kindOf 2 = .ok (.invokevirtual 51, 3) := by decide +kernel
theorem dX0_kindOf_5 : decode cX0_kindOf 5 = .ok (.ifCond .eq 12, 3) := by decide +kernel
theorem dX0_kindOf_8 : decode cX0_kindOf 8 = .ok (.aload_n 0, 1) := by decide +kernel
theorem dX0_kindOf_9 : decode cX0_kindOf 9 = .ok (.getfield 20, 3) := by decide +kernel
theorem dX0_kindOf_12 : decode cX0_kindOf 12 = .ok (.iload_n 1, 1) := by decide +kernel
theorem dX0_kindOf_13 : decode cX0_kindOf 13 = .ok (.iaload, 1) := by decide +kernel
theorem dX0_kindOf_14 : decode cX0_kindOf 14 = .ok (.goto 5, 3) := by decide +kernel
theorem dX0_kindOf_17 : decode cX0_kindOf 17 = .ok (.bipush (-2), 2) := by decide +kernel
theorem dX0_kindOf_19 : decode cX0_kindOf 19 = .ok (.ireturn, 1) := by decide +kernel
set_option maxRecDepth 20000 in
theorem ggX0_lengthOf_X0_hasChunk : GoodIn wsX0_lengthOf wsX0_hasChunk := goodIn_r _ [6, 7, 8, 9, 10, 11, 12, 13, 14, 15] (by decide +kernel) (by decide +kernel)
set_option maxRecDepth 20000 in
theorem gX0_lengthOf_X0_hasChunk : GoodIn wsX0_lengthOf (wsV RX0 51 RX0 yX0_hasChunk wsX0_hasChunk) := goodIn_app (goodIn_of _ (by decide +kernel)) ggX0_lengthOf_X0_hasChunk
theorem dX0_lengthOf_0 : decode cX0_lengthOf 0 = .ok (.aload_n 0, 1) := by decide +kernel
theorem dX0_lengthOf_1 : decode cX0_lengthOf 1 = .ok (.iload_n 1, 1) := by decide +kernel
theorem dX0_lengthOf_2 : decode cX0_lengthOf 2 = .ok (.invokevirtual 51, 3) := by decide +kernel
theorem dX0_lengthOf_5 : decode cX0_lengthOf 5 = .ok (.ifCond .eq 21, 3) := by decide +kernel
theorem dX0_lengthOf_8 : decode cX0_lengthOf 8 = .ok (.aload_n 0, 1) := by decide +kernel
theorem dX0_lengthOf_9 : decode cX0_lengthOf 9 = .ok (.getfield 24, 3) := by decide +kernel
theorem dX0_lengthOf_12 : decode cX0_lengthOf 12 = .ok (.iload_n 1, 1) := by decide +kernel
theorem dX0_lengthOf_13 : decode cX0_lengthOf 13 = .ok (.iconst 1, 1) := by decide +kernel
theorem dX0_lengthOf_14 : decode cX0_lengthOf 14 = .ok (.iadd, 1) := by decide +kernel
theorem dX0_lengthOf_15 : decode cX0_lengthOf 15 = .ok (.iaload, 1) := by decide +kernel
theorem dX0_lengthOf_16 : decode cX0_lengthOf 16 = .ok (.aload_n 0, 1) := by decide +kernel
theorem dX0_lengthOf_17 : decode cX0_lengthOf 17 = .ok (.getfield 24, 3) := by decide +kernel
theorem dX0_lengthOf_20 : decode cX0_lengthOf 20 = .ok (.iload_n 1, 1) := by decide +kernel
theorem dX0_lengthOf_21 : decode cX0_lengthOf 21 = .ok (.iaload, 1) := by decide +kernel
theorem dX0_lengthOf_22 : decode cX0_lengthOf 22 = .ok (.isub, 1) := by decide +kernel
theorem dX0_lengthOf_23 : decode cX0_lengthOf 23 = .ok (.goto 4, 3) := by decide +kernel
theorem dX0_lengthOf_26 : decode cX0_lengthOf 26 = .ok (.iconst 0, 1) := by decide +kernel
theorem dX0_lengthOf_27 : decode cX0_lengthOf 27 = .ok (.ireturn, 1) := by decide +kernel
set_option maxRecDepth 20000 in
theorem ggX0_dataOf_X0_hasChunk : GoodIn wsX0_dataOf wsX0_hasChunk := goodIn_r _ [10, 11, 29, 30, 31, 32, 33, 34, 35, 36] (by decide +kernel) (by decide +kernel)
set_option maxRecDepth 20000 in
theorem gX0_dataOf_X0_hasChunk : GoodIn wsX0_dataOf (wsV RX0 51 RX0 yX0_hasChunk wsX0_hasChunk) := goodIn_app (goodIn_of _ (by decide +kernel)) ggX0_dataOf_X0_hasChunk
set_option maxRecDepth 20000 in
theorem ggX0_dataOf_X0_lengthOf : GoodIn wsX0_dataOf wsX0_lengthOf := goodIn_r _ [15, 5, 6, 7, 8, 9, 10, 11, 29, 30, 31, 32, 33, 34, 35, 36] (by decide +kernel) (by decide +kernel)
set_option maxRecDepth 20000 in
theorem gX0_dataOf_X0_lengthOf : GoodIn wsX0_dataOf (wsV RX0 57 RX0 yX0_lengthOf wsX0_lengthOf) := goodIn_app (goodIn_of _ (by decide +kernel)) ggX0_dataOf_X0_lengthOf
set_option maxRecDepth 20000 in
theorem ggX0_dataOf_X3_init : GoodIn wsX0_dataOf wsX3_init := goodIn_r _ [18, 19, 20, 21, 22, 23, 24, 25, 37, 38, 26, 27, 28] (by decide +kernel) (by decide +kernel)
set_option maxRecDepth 20000 in
theorem gX0_dataOf_X3_init : GoodIn wsX0_dataOf (wsX3_init) := ggX0_dataOf_X3_init
theorem dX0_dataOf_0 : decode cX0_dataOf 0 = .ok (.new 55, 3) := by decide +kernel
theorem dX0_dataOf_3 : decode cX0_dataOf 3 = .ok (.dup, 1) := by decide +kernel
theorem dX0_dataOf_4 : decode cX0_dataOf 4 = .ok (.aload_n 0, 1) := by decide +kernel
theorem dX0_dataOf_5 : decode cX0_dataOf 5 = .ok (.getfield 14, 3) := by decide +kernel
theorem dX0_dataOf_8 : decode cX0_dataOf 8 = .ok (.aload_n 0, 1) := by decide +kernel
theorem dX0_dataOf_9 : decode cX0_dataOf 9 = .ok (.iload_n 1, 1) := by decide +kernel
theorem dX0_dataOf_10 : decode cX0_dataOf 10 = .ok (.invokevirtual 51, 3) := by decide +kernel
theorem dX0_dataOf_13 : decode cX0_dataOf 13 = .ok (.ifCond .eq 12, 3) := by decide +kernel
theorem dX0_dataOf_16 : decode cX0_dataOf 16 = .ok (.aload_n 0, 1) := by decide +kernel
theorem dX0_dataOf_17 : decode cX0_dataOf 17 = .ok (.getfield 24, 3) := by decide +kernel
theorem dX0_dataOf_20 : decode cX0_dataOf 20 = .ok (.iload_n 1, 1) := by decide +kernel
theorem dX0_dataOf_21 : decode cX0_dataOf 21 = .ok (.iaload, 1) := by decide +kernel
theorem dX0_dataOf_22 : decode cX0_dataOf 22 = .ok (.goto 4, 3) := by decide +kernel
theorem dX0_dataOf_25 : decode cX0_dataOf 25 = .ok (.iconst 0, 1) := by decide +kernel
theorem dX0_dataOf_26 : decode cX0_dataOf 26 = .ok (.aload_n 0, 1) := by decide +kernel
theorem dX0_dataOf_27 : decode cX0_dataOf 27 = .ok (.iload_n 1, 1) := by decide +kernel
theorem dX0_dataOf_28 : decode cX0_dataOf 28 = .ok (.invokevirtual 57, 3) := by decide +kernel
theorem dX0_dataOf_31 : decode cX0_dataOf 31 = .ok (.invokespecial 61, 3) := by decide +kernel
theorem dX0_dataOf_34 : decode cX0_dataOf 34 = .ok (.areturn, 1) := by decide +kernel
set_option maxRecDepth 20000 in
theorem ggX0_placeOf_X0_lengthOf : GoodIn wsX0_placeOf wsX0_lengthOf := goodIn_r _ [7, 8, 9, 10, 11, 6, 12, 2, 13, 14, 15, 16, 17, 18, 19, 20] (by decide +kernel) (by decide +kernel)
set_option maxRecDepth 20000 in
theorem gX0_placeOf_X0_lengthOf : GoodIn wsX0_placeOf (wsV RX0 57 RX0 yX0_lengthOf wsX0_lengthOf) := goodIn_app (goodIn_of _ (by decide +kernel)) ggX0_placeOf_X0_lengthOf
theorem dX0_placeOf_0 : decode cX0_placeOf 0 = .ok (.bipush 24, 2) := by decide +kernel
theorem dX0_placeOf_2 : decode cX0_placeOf 2 = .ok (.bipush 12, 2) := by decide +kernel
theorem dX0_placeOf_4 : decode cX0_placeOf 4 = .ok (.aload_n 0, 1) := by decide +kernel
theorem dX0_placeOf_5 : decode cX0_placeOf 5 = .ok (.getfield 41, 3) := by decide +kernel
theorem dX0_placeOf_8 : decode cX0_placeOf 8 = .ok (.imul, 1) := by decide +kernel
theorem dX0_placeOf_9 : decode cX0_placeOf 9 = .ok (.iadd, 1) := by decide +kernel
theorem dX0_placeOf_10 : decode cX0_placeOf 10 = .ok (.istore_n 2, 1) := by decide +kernel
theorem dX0_placeOf_11 : decode cX0_placeOf 11 = .ok (.iconst 0, 1) := by decide +kernel
theorem dX0_placeOf_12 : decode cX0_placeOf 12 = .ok (.istore_n 3, 1) := by decide +kernel
theorem dX0_placeOf_13 : decode cX0_placeOf 13 = .ok (.iload_n 3, 1) := by decide +kernel
theorem dX0_placeOf_14 : decode cX0_placeOf 14 = .ok (.iload_n 1, 1) := by decide +kernel
theorem dX0_placeOf_15 : decode cX0_placeOf 15 = .ok (.if_icmp .ge 36, 3) := by decide +kernel
theorem dX0_placeOf_18 : decode cX0_placeOf 18 = .ok (.iload_n 3, 1) := by decide +kernel
theorem dX0_placeOf_19 : decode cX0_placeOf 19 = .ok (.aload_n 0, 1) := by decide +kernel
theorem dX0_placeOf_20 : decode cX0_placeOf 20 = .ok (.getfield 27, 3) := by decide +kernel
theorem dX0_placeOf_23 : decode cX0_placeOf 23 = .ok (.if_icmp .ge 28, 3) := by decide +kernel
theorem dX0_placeOf_26 : decode cX0_placeOf 26 = .ok (.iload_n 2, 1) := by decide +kernel
theorem dX0_placeOf_27 : decode cX0_placeOf 27 = .ok (.bipush 8, 2) := by decide +kernel
theorem dX0_placeOf_29 : decode cX0_placeOf 29 = .ok (.aload_n 0, 1) := by decide +kernel
theorem dX0_placeOf_30 : decode cX0_placeOf 30 = .ok (.iload_n 3, 1) := by decide +kernel
theorem dX0_placeOf_31 : decode cX0_placeOf 31 = .ok (.invokevirtual 57, 3) := by decide +kernel
theorem dX0_placeOf_34 : decode cX0_placeOf 34 = .ok (.iadd, 1) := by decide +kernel
theorem dX0_placeOf_35 : decode cX0_placeOf 35 = .ok (.aload_n 0, 1) := by decide +kernel
theorem dX0_placeOf_36 : decode cX0_placeOf 36 = .ok (.iload_n 3, 1) := by decide +kernel
theorem dX0_placeOf_37 : decode cX0_placeOf 37 = .ok (.invokevirtual 57, 3) := by decide +kernel
theorem dX0_placeOf_40 : decode cX0_placeOf 40 = .ok (.iconst 1, 1) := by decide +kernel
theorem dX0_placeOf_41 : decode cX0_placeOf 41 = .ok (.iand, 1) := by decide +kernel
theorem dX0_placeOf_42 : decode cX0_placeOf 42 = .ok (.iadd, 1) := by decide +kernel
theorem dX0_placeOf_43 : decode cX0_placeOf 43 = .ok (.iadd, 1) := by decide +kernel
theorem dX0_placeOf_44 : decode cX0_placeOf 44 = .ok (.istore_n 2, 1) := by decide +kernel
theorem dX0_placeOf_45 : decode cX0_placeOf 45 = .ok (.iinc 3 1, 3) := by decide +kernel
theorem dX0_placeOf_48 : decode cX0_placeOf 48 = .ok (.goto (-35), 3) := by decide +kernel
theorem dX0_placeOf_51 : decode cX0_placeOf 51 = .ok (.iload_n 2, 1) := by decide +kernel
theorem dX0_placeOf_52 : decode cX0_placeOf 52 = .ok (.ireturn, 1) := by decide +kernel
theorem dX0_meaningsOf_0 : decode cX0_meaningsOf 0 = .ok (.iconst 0, 1) := by decide +kernel
theorem dX0_meaningsOf_1 : decode cX0_meaningsOf 1 = .ok (.istore_n 2, 1) := by decide +kernel
theorem dX0_meaningsOf_2 : decode cX0_meaningsOf 2 = .ok (.iconst 0, 1) := by decide +kernel
theorem dX0_meaningsOf_3 : decode cX0_meaningsOf 3 = .ok (.istore_n 3, 1) := by decide +kernel
theorem dX0_meaningsOf_4 : decode cX0_meaningsOf 4 = .ok (.iload_n 3, 1) := by decide +kernel
theorem dX0_meaningsOf_5 : decode cX0_meaningsOf 5 = .ok (.aload_n 0, 1) := by decide +kernel
theorem dX0_meaningsOf_6 : decode cX0_meaningsOf 6 = .ok (.getfield 41, 3) := by decide +kernel
theorem dX0_meaningsOf_9 : decode cX0_meaningsOf 9 = .ok (.if_icmp .ge 22, 3) := by decide +kernel
theorem dX0_meaningsOf_12 : decode cX0_meaningsOf 12 = .ok (.aload_n 0, 1) := by decide +kernel
theorem dX0_meaningsOf_13 : decode cX0_meaningsOf 13 = .ok (.getfield 38, 3) := by decide +kernel
theorem dX0_meaningsOf_16 : decode cX0_meaningsOf 16 = .ok (.iload_n 3, 1) := by decide +kernel
theorem dX0_meaningsOf_17 : decode cX0_meaningsOf 17 = .ok (.iaload, 1) := by decide +kernel
theorem dX0_meaningsOf_18 : decode cX0_meaningsOf 18 = .ok (.iload_n 1, 1) := by decide +kernel
theorem dX0_meaningsOf_19 : decode cX0_meaningsOf 19 = .ok (.if_icmp .ne 6, 3) := by decide +kernel
theorem dX0_meaningsOf_22 : decode cX0_meaningsOf 22 = .ok (.iinc 2 1, 3) := by decide +kernel
theorem dX0_meaningsOf_25 : decode cX0_meaningsOf 25 = .ok (.iinc 3 1, 3) := by decide +kernel
theorem dX0_meaningsOf_28 : decode cX0_meaningsOf 28 = .ok (.goto (-24), 3) := by decide +kernel
theorem dX0_meaningsOf_31 : decode cX0_meaningsOf 31 = .ok (.iload_n 2, 1) := by decide +kernel
theorem dX0_meaningsOf_32 : decode cX0_meaningsOf 32 = .ok (.ireturn, 1) := by decide +kernel
set_option maxRecDepth 20000 in
theorem ggX0_goes_X0_hasEntry : GoodIn wsX0_goes wsX0_hasEntry := goodIn_r _ [7, 8, 72, 73, 74, 75, 76, 77, 78, 79] (by decide +kernel) (by decide +kernel)
set_option maxRecDepth 20000 in
theorem gX0_goes_X0_hasEntry : GoodIn wsX0_goes (wsV RX0 64 RX0 yX0_hasEntry wsX0_hasEntry) := goodIn_app (goodIn_of _ (by decide +kernel)) ggX0_goes_X0_hasEntry
set_option maxRecDepth 20000 in
theorem ggX0_goes_X0_kindOf : GoodIn wsX0_goes wsX0_kindOf := goodIn_r _ [12, 13, 14, 15, 16, 6, 17, 18, 72, 73, 74, 75, 76, 77, 78, 79] (by decide +kernel) (by decide +kernel)
set_option maxRecDepth 20000 in
theorem gX0_goes_X0_kindOf : GoodIn wsX0_goes (wsV RX0 67 RX0 yX0_kindOf wsX0_kindOf) := goodIn_app (goodIn_of _ (by decide +kernel)) ggX0_goes_X0_kindOf
set_option maxRecDepth 20000 in
theorem ggX0_goes_X0_dataOf : GoodIn wsX0_goes wsX0_dataOf := goodIn_r _ [22, 23, 24, 25, 26, 27, 14, 15, 16, 6, 17, 18, 28, 29, 30, 31, 32, 33, 34, 35, 36, 37, 38, 39, 40, 41, 80, 81, 82, 72, 73, 74, 75, 76, 77, 78, 79, 83, 84] (by decide +kernel) (by decide +kernel)
set_option maxRecDepth 20000 in
theorem gX0_goes_X0_dataOf : GoodIn wsX0_goes (wsV RX0 70 RX0 yX0_dataOf wsX0_dataOf) := goodIn_app (goodIn_of _ (by decide +kernel)) ggX0_goes_X0_dataOf
set_option maxRecDepth 20000 in
theorem ggX0_goes_X2_goTogether : GoodIn wsX0_goes wsX2_goTogether := goodIn_r _ [45, 46, 47, 48, 49, 50, 51, 52, 53, 54, 55, 56, 57, 58, 59, 60, 25, 61, 62, 63, 64, 65, 66, 39, 67, 40, 68, 69, 70, 71, 41, 80, 81, 82, 83, 84] (by decide +kernel) (by decide +kernel)
set_option maxRecDepth 20000 in
theorem gX0_goes_X2_goTogether : GoodIn wsX0_goes (va_wsS RX0 74 yX2_goTogether wsX2_goTogether) := goodIn_app (goodIn_of _ (by decide +kernel)) ggX0_goes_X2_goTogether
theorem dX0_goes_0 : decode cX0_goes 0 = .ok (.aload_n 0, 1) := by decide +kernel
theorem dX0_goes_1 : decode cX0_goes 1 = .ok (.iload_n 1, 1) := by decide +kernel
theorem dX0_goes_2 : decode cX0_goes 2 = .ok (.invokevirtual 64, 3) := by decide +kernel
theorem dX0_goes_5 : decode cX0_goes 5 = .ok (.ifCond .ne 5, 3) := by decide +kernel
theorem dX0_goes_8 : decode cX0_goes 8 = .ok (.iconst 0, 1) := by decide +kernel
theorem dX0_goes_9 : decode cX0_goes 9 = .ok (.ireturn, 1) := by decide +kernel
theorem dX0_goes_10 : decode cX0_goes 10 = .ok (.aload_n 0, 1) := by decide +kernel
theorem dX0_goes_11 : decode cX0_goes 11 = .ok (.getfield 38, 3) := by decide +kernel
theorem dX0_goes_14 : decode cX0_goes 14 = .ok (.iload_n 1, 1) := by decide +kernel
theorem dX0_goes_15 : decode cX0_goes 15 = .ok (.iaload, 1) := by decide +kernel
theorem dX0_goes_16 : decode cX0_goes 16 = .ok (.istore_n 2, 1) := by decide +kernel
theorem dX0_goes_17 : decode cX0_goes 17 = .ok (.aload_n 0, 1) := by decide +kernel
theorem dX0_goes_18 : decode cX0_goes 18 = .ok (.getfield 31, 3) := by decide +kernel
theorem dX0_goes_21 : decode cX0_goes 21 = .ok (.iload_n 1, 1) := by decide +kernel
theorem dX0_goes_22 : decode cX0_goes 22 = .ok (.iaload, 1) := by decide +kernel
theorem dX0_goes_23 : decode cX0_goes 23 = .ok (.aload_n 0, 1) := by decide +kernel
theorem dX0_goes_24 : decode cX0_goes 24 = .ok (.iload_n 2, 1) := by decide +kernel
theorem dX0_goes_25 : decode cX0_goes 25 = .ok (.invokevirtual 67, 3) := by decide +kernel
theorem dX0_goes_28 : decode cX0_goes 28 = .ok (.aload_n 0, 1) := by decide +kernel
theorem dX0_goes_29 : decode cX0_goes 29 = .ok (.iload_n 2, 1) := by decide +kernel
theorem dX0_goes_30 : decode cX0_goes 30 = .ok (.invokevirtual 70, 3) := by decide +kernel
theorem dX0_goes_33 : decode cX0_goes 33 = .ok (.invokestatic 74, 3) := by decide +kernel
theorem dX0_goes_36 : decode cX0_goes 36 = .ok (.ireturn, 1) := by decide +kernel
theorem dX0_entryOf_0 : decode cX0_entryOf 0 = .ok (.iconst 0, 1) := by decide +kernel
theorem dX0_entryOf_1 : decode cX0_entryOf 1 = .ok (.istore 4, 2) := by decide +kernel
theorem dX0_entryOf_3 : decode cX0_entryOf 3 = .ok (.iload 4, 2) := by decide +kernel
theorem dX0_entryOf_5 : decode cX0_entryOf 5 = .ok (.aload_n 0, 1) := by decide +kernel
theorem dX0_entryOf_6 : decode cX0_entryOf 6 = .ok (.getfield 41, 3) := by decide +kernel
theorem dX0_entryOf_9 : decode cX0_entryOf 9 = .ok (.if_icmp .ge 35, 3) := by decide +kernel
theorem dX0_entryOf_12 : decode cX0_entryOf 12 = .ok (.aload_n 0, 1) := by decide +kernel
theorem dX0_entryOf_13 : decode cX0_entryOf 13 = .ok (.getfield 31, 3) := by decide +kernel
theorem dX0_entryOf_16 : decode cX0_entryOf 16 = .ok (.iload 4, 2) := by decide +kernel
theorem dX0_entryOf_18 : decode cX0_entryOf 18 = .ok (.iaload, 1) := by decide +kernel
theorem dX0_entryOf_19 : decode cX0_entryOf 19 = .ok (.iload_n 1, 1) := by decide +kernel
theorem dX0_entryOf_20 : decode cX0_entryOf 20 = .ok (.if_icmp .ne 18, 3) := by decide +kernel
theorem dX0_entryOf_23 : decode cX0_entryOf 23 = .ok (.aload_n 0, 1) := by decide +kernel
theorem dX0_entryOf_24 : decode cX0_entryOf 24 = .ok (.getfield 34, 3) := by decide +kernel
theorem dX0_entryOf_27 : decode cX0_entryOf 27 = .ok (.iload 4, 2) := by decide +kernel
theorem dX0_entryOf_29 : decode cX0_entryOf 29 = .ok (.laload, 1) := by decide +kernel
theorem dX0_entryOf_30 : decode cX0_entryOf 30 = .ok (.lload_n 2, 1) := by decide +kernel
theorem dX0_entryOf_31 : decode cX0_entryOf 31 = .ok (.lcmp, 1) := by decide +kernel
theorem dX0_entryOf_32 : decode cX0_entryOf 32 = .ok (.ifCond .ne 6, 3) := by decide +kernel
theorem dX0_entryOf_35 : decode cX0_entryOf 35 = .ok (.iload 4, 2) := by decide +kernel
theorem dX0_entryOf_37 : decode cX0_entryOf 37 = .ok (.ireturn, 1) := by decide +kernel
theorem dX0_entryOf_38 : decode cX0_entryOf 38 = .ok (.iinc 4 1, 3) := by decide +kernel
theorem dX0_entryOf_41 : decode cX0_entryOf 41 = .ok (.goto (-38), 3) := by decide +kernel
theorem dX0_entryOf_44 : decode cX0_entryOf 44 = .ok (.bipush (-2), 2) := by decide +kernel
theorem dX0_entryOf_46 : decode cX0_entryOf 46 = .ok (.ireturn, 1) := by decide +kernel
theorem dX0_firstOf_0 : decode cX0_firstOf 0 = .ok (.iconst 0, 1) := by decide +kernel
theorem dX0_firstOf_1 : decode cX0_firstOf 1 = .ok (.istore_n 2, 1) := by decide +kernel
theorem dX0_firstOf_2 : decode cX0_firstOf 2 = .ok (.iload_n 2, 1) := by decide +kernel
theorem dX0_firstOf_3 : decode cX0_firstOf 3 = .ok (.aload_n 0, 1) := by decide +kernel
theorem dX0_firstOf_4 : decode cX0_firstOf 4 = .ok (.getfield 27, 3) := by decide +kernel
theorem dX0_firstOf_7 : decode cX0_firstOf 7 = .ok (.if_icmp .ge 21, 3) := by decide +kernel
theorem dX0_firstOf_10 : decode cX0_firstOf 10 = .ok (.aload_n 0, 1) := by decide +kernel
theorem dX0_firstOf_11 : decode cX0_firstOf 11 = .ok (.getfield 20, 3) := by decide +kernel
theorem dX0_firstOf_14 : decode cX0_firstOf 14 = .ok (.iload_n 2, 1) := by decide +kernel
theorem dX0_firstOf_15 : decode cX0_firstOf 15 = .ok (.iaload, 1) := by decide +kernel
theorem dX0_firstOf_16 : decode cX0_firstOf 16 = .ok (.iload_n 1, 1) := by decide +kernel
theorem dX0_firstOf_17 : decode cX0_firstOf 17 = .ok (.if_icmp .ne 5, 3) := by decide +kernel
theorem dX0_firstOf_20 : decode cX0_firstOf 20 = .ok (.iload_n 2, 1) := by decide +kernel
theorem dX0_firstOf_21 : decode cX0_firstOf 21 = .ok (.ireturn, 1) := by decide +kernel
theorem dX0_firstOf_22 : decode cX0_firstOf 22 = .ok (.iinc 2 1, 3) := by decide +kernel
theorem dX0_firstOf_25 : decode cX0_firstOf 25 = .ok (.goto (-23), 3) := by decide +kernel
theorem dX0_firstOf_28 : decode cX0_firstOf 28 = .ok (.bipush (-2), 2) := by decide +kernel
theorem dX0_firstOf_30 : decode cX0_firstOf 30 = .ok (.ireturn, 1) := by decide +kernel
set_option maxRecDepth 20000 in
theorem ggX0_firstWith_X0_lengthOf : GoodIn wsX0_firstWith wsX0_lengthOf := goodIn_r _ [7, 8, 9, 10, 11, 6, 12, 1, 13, 14, 15, 16, 17, 18, 19, 20] (by decide +kernel) (by decide +kernel)
set_option maxRecDepth 20000 in
theorem gX0_firstWith_X0_lengthOf : GoodIn wsX0_firstWith (wsV RX0 57 RX0 yX0_lengthOf wsX0_lengthOf) := goodIn_app (goodIn_of _ (by decide +kernel)) ggX0_firstWith_X0_lengthOf
theorem dX0_firstWith_0 : decode cX0_firstWith 0 = .ok (.iconst 0, 1) := by decide +kernel
theorem dX0_firstWith_1 : decode cX0_firstWith 1 = .ok (.istore_n 3, 1) := by decide +kernel
theorem dX0_firstWith_2 : decode cX0_firstWith 2 = .ok (.iload_n 3, 1) := by decide +kernel
theorem dX0_firstWith_3 : decode cX0_firstWith 3 = .ok (.aload_n 0, 1) := by decide +kernel
theorem dX0_firstWith_4 : decode cX0_firstWith 4 = .ok (.getfield 27, 3) := by decide +kernel
theorem dX0_firstWith_7 : decode cX0_firstWith 7 = .ok (.if_icmp .ge 30, 3) := by decide +kernel
theorem dX0_firstWith_10 : decode cX0_firstWith 10 = .ok (.aload_n 0, 1) := by decide +kernel
theorem dX0_firstWith_11 : decode cX0_firstWith 11 = .ok (.getfield 20, 3) := by decide +kernel
theorem dX0_firstWith_14 : decode cX0_firstWith 14 = .ok (.iload_n 3, 1) := by decide +kernel
theorem dX0_firstWith_15 : decode cX0_firstWith 15 = .ok (.iaload, 1) := by decide +kernel
theorem dX0_firstWith_16 : decode cX0_firstWith 16 = .ok (.iload_n 1, 1) := by decide +kernel
theorem dX0_firstWith_17 : decode cX0_firstWith 17 = .ok (.if_icmp .ne 14, 3) := by decide +kernel
theorem dX0_firstWith_20 : decode cX0_firstWith 20 = .ok (.aload_n 0, 1) := by decide +kernel
theorem dX0_firstWith_21 : decode cX0_firstWith 21 = .ok (.iload_n 3, 1) := by decide +kernel
theorem dX0_firstWith_22 : decode cX0_firstWith 22 = .ok (.invokevirtual 57, 3) := by decide +kernel
theorem dX0_firstWith_25 : decode cX0_firstWith 25 = .ok (.iload_n 2, 1) := by decide +kernel
theorem dX0_firstWith_26 : decode cX0_firstWith 26 = .ok (.if_icmp .ne 5, 3) := by decide +kernel
theorem dX0_firstWith_29 : decode cX0_firstWith 29 = .ok (.iload_n 3, 1) := by decide +kernel
theorem dX0_firstWith_30 : decode cX0_firstWith 30 = .ok (.ireturn, 1) := by decide +kernel
theorem dX0_firstWith_31 : decode cX0_firstWith 31 = .ok (.iinc 3 1, 3) := by decide +kernel
theorem dX0_firstWith_34 : decode cX0_firstWith 34 = .ok (.goto (-32), 3) := by decide +kernel
theorem dX0_firstWith_37 : decode cX0_firstWith 37 = .ok (.bipush (-2), 2) := by decide +kernel
theorem dX0_firstWith_39 : decode cX0_firstWith 39 = .ok (.ireturn, 1) := by decide +kernel
set_option maxRecDepth 20000 in
theorem ggX0_addChunk_X0_hasChunkRoom : GoodIn wsX0_addChunk wsX0_hasChunkRoom := goodIn_r _ [11, 3, 5, 12, 13, 14, 15, 16, 17, 18, 34, 35, 36, 37, 38, 39, 40, 41, 42, 43] (by decide +kernel) (by decide +kernel)
set_option maxRecDepth 20000 in
theorem gX0_addChunk_X0_hasChunkRoom : GoodIn wsX0_addChunk (wsV RX0 83 RX0 yX0_hasChunkRoom wsX0_hasChunkRoom) := goodIn_app (goodIn_of _ (by decide +kernel)) ggX0_addChunk_X0_hasChunkRoom
set_option maxRecDepth 20000 in
theorem ggX0_addChunk_X6_splice : GoodIn wsX0_addChunk wsX6_splice := goodIn_r _ [22, 18, 23, 17, 24, 25, 26, 27, 28, 29, 30, 13, 14, 15, 16, 42, 43, 31, 32, 33] (by decide +kernel) (by decide +kernel)
set_option maxRecDepth 20000 in
theorem gX0_addChunk_X6_splice : GoodIn wsX0_addChunk (wsV RX0 87 RX6 yX6_splice wsX6_splice) := goodIn_app (goodIn_of _ (by decide +kernel)) ggX0_addChunk_X6_splice
theorem dX0_addChunk_0 : decode cX0_addChunk 0 = .ok (.aload_n 0, 1) := by decide +kernel
theorem dX0_addChunk_1 : decode cX0_addChunk 1 = .ok (.aload_n 2, 1) := by decide +kernel
theorem dX0_addChunk_2 : decode cX0_addChunk 2 = .ok (.getfield 80, 3) := by decide +kernel
theorem dX0_addChunk_5 : decode cX0_addChunk 5 = .ok (.invokevirtual 83, 3) := by decide +kernel
theorem dX0_addChunk_8 : decode cX0_addChunk 8 = .ok (.ifCond .ne 4, 3) := by decide +kernel
theorem dX0_addChunk_11 : decode cX0_addChunk 11 = .ok (.return_, 1) := by decide +kernel
theorem dX0_addChunk_12 : decode cX0_addChunk 12 = .ok (.aload_n 0, 1) := by decide +kernel
theorem dX0_addChunk_13 : decode cX0_addChunk 13 = .ok (.getfield 20, 3) := by decide +kernel
theorem dX0_addChunk_16 : decode cX0_addChunk 16 = .ok (.aload_n 0, 1) := by decide +kernel
theorem dX0_addChunk_17 : decode cX0_addChunk 17 = .ok (.getfield 27, 3) := by decide +kernel
theorem dX0_addChunk_20 : decode cX0_addChunk 20 = .ok (.iload_n 1, 1) := by decide +kernel
theorem dX0_addChunk_21 : decode cX0_addChunk 21 = .ok (.iastore, 1) := by decide +kernel
theorem dX0_addChunk_22 : decode cX0_addChunk 22 = .ok (.aload_n 0, 1) := by decide +kernel
theorem dX0_addChunk_23 : decode cX0_addChunk 23 = .ok (.getfield 24, 3) := by decide +kernel
theorem dX0_addChunk_26 : decode cX0_addChunk 26 = .ok (.aload_n 0, 1) := by decide +kernel
theorem dX0_addChunk_27 : decode cX0_addChunk 27 = .ok (.getfield 27, 3) := by decide +kernel
theorem dX0_addChunk_30 : decode cX0_addChunk 30 = .ok (.aload_n 0, 1) := by decide +kernel
theorem dX0_addChunk_31 : decode cX0_addChunk 31 = .ok (.getfield 14, 3) := by decide +kernel
theorem dX0_addChunk_34 : decode cX0_addChunk 34 = .ok (.getfield 86, 3) := by decide +kernel
theorem dX0_addChunk_37 : decode cX0_addChunk 37 = .ok (.iastore, 1) := by decide +kernel
theorem dX0_addChunk_38 : decode cX0_addChunk 38 = .ok (.aload_n 0, 1) := by decide +kernel
theorem dX0_addChunk_39 : decode cX0_addChunk 39 = .ok (.getfield 14, 3) := by decide +kernel
theorem dX0_addChunk_42 : decode cX0_addChunk 42 = .ok (.aload_n 0, 1) := by decide +kernel
theorem dX0_addChunk_43 : decode cX0_addChunk 43 = .ok (.getfield 14, 3) := by decide +kernel
theorem dX0_addChunk_46 : decode cX0_addChunk 46 = .ok (.getfield 86, 3) := by decide +kernel
theorem dX0_addChunk_49 : decode cX0_addChunk 49 = .ok (.iconst 0, 1) := by decide +kernel
theorem dX0_addChunk_50 : decode cX0_addChunk 50 = .ok (.aload_n 2, 1) := by decide +kernel
theorem dX0_addChunk_51 : decode cX0_addChunk 51 = .ok (.invokevirtual 87, 3) := by decide +kernel
theorem dX0_addChunk_54 : decode cX0_addChunk 54 = .ok (.aload_n 0, 1) := by decide +kernel
theorem dX0_addChunk_55 : decode cX0_addChunk 55 = .ok (.dup, 1) := by decide +kernel
theorem dX0_addChunk_56 : decode cX0_addChunk 56 = .ok (.getfield 27, 3) := by decide +kernel
theorem dX0_addChunk_59 : decode cX0_addChunk 59 = .ok (.iconst 1, 1) := by decide +kernel
theorem dX0_addChunk_60 : decode cX0_addChunk 60 = .ok (.iadd, 1) := by decide +kernel
theorem dX0_addChunk_61 : decode cX0_addChunk 61 = .ok (.putfield 27, 3) := by decide +kernel
theorem dX0_addChunk_64 : decode cX0_addChunk 64 = .ok (.aload_n 0, 1) := by decide +kernel
theorem dX0_addChunk_65 : decode cX0_addChunk 65 = .ok (.getfield 24, 3) := by decide +kernel
theorem dX0_addChunk_68 : decode cX0_addChunk 68 = .ok (.aload_n 0, 1) := by decide +kernel
theorem dX0_addChunk_69 : decode cX0_addChunk 69 = .ok (.getfield 27, 3) := by decide +kernel
theorem dX0_addChunk_72 : decode cX0_addChunk 72 = .ok (.aload_n 0, 1) := by decide +kernel
theorem dX0_addChunk_73 : decode cX0_addChunk 73 = .ok (.getfield 14, 3) := by decide +kernel
theorem dX0_addChunk_76 : decode cX0_addChunk 76 = .ok (.getfield 86, 3) := by decide +kernel
theorem dX0_addChunk_79 : decode cX0_addChunk 79 = .ok (.iastore, 1) := by decide +kernel
theorem dX0_addChunk_80 : decode cX0_addChunk 80 = .ok (.return_, 1) := by decide +kernel
theorem dX0_addEntry_0 : decode cX0_addEntry 0 = .ok (.aload_n 0, 1) := by decide +kernel
theorem dX0_addEntry_1 : decode cX0_addEntry 1 = .ok (.getfield 41, 3) := by decide +kernel
theorem dX0_addEntry_4 : decode cX0_addEntry 4 = .ok (.bipush 40, 2) := by decide +kernel
theorem dX0_addEntry_6 : decode cX0_addEntry 6 = .ok (.if_icmp .lt 4, 3) := by decide +kernel
theorem dX0_addEntry_9 : decode cX0_addEntry 9 = .ok (.return_, 1) := by decide +kernel
theorem dX0_addEntry_10 : decode cX0_addEntry 10 = .ok (.aload_n 0, 1) := by decide +kernel
theorem dX0_addEntry_11 : decode cX0_addEntry 11 = .ok (.getfield 31, 3) := by decide +kernel
theorem dX0_addEntry_14 : decode cX0_addEntry 14 = .ok (.aload_n 0, 1) := by decide +kernel
theorem dX0_addEntry_15 : decode cX0_addEntry 15 = .ok (.getfield 41, 3) := by decide +kernel
theorem dX0_addEntry_18 : decode cX0_addEntry 18 = .ok (.iload_n 1, 1) := by decide +kernel
theorem dX0_addEntry_19 : decode cX0_addEntry 19 = .ok (.iastore, 1) := by decide +kernel
theorem dX0_addEntry_20 : decode cX0_addEntry 20 = .ok (.aload_n 0, 1) := by decide +kernel
theorem dX0_addEntry_21 : decode cX0_addEntry 21 = .ok (.getfield 34, 3) := by decide +kernel
theorem dX0_addEntry_24 : decode cX0_addEntry 24 = .ok (.aload_n 0, 1) := by decide +kernel
theorem dX0_addEntry_25 : decode cX0_addEntry 25 = .ok (.getfield 41, 3) := by decide +kernel
theorem dX0_addEntry_28 : decode cX0_addEntry 28 = .ok (.lload_n 2, 1) := by decide +kernel
theorem dX0_addEntry_29 : decode cX0_addEntry 29 = .ok (.lastore, 1) := by decide +kernel
theorem dX0_addEntry_30 : decode cX0_addEntry 30 = .ok (.aload_n 0, 1) := by decide +kernel
theorem dX0_addEntry_31 : decode cX0_addEntry 31 = .ok (.getfield 38, 3) := by decide +kernel
theorem dX0_addEntry_34 : decode cX0_addEntry 34 = .ok (.aload_n 0, 1) := by decide +kernel
theorem dX0_addEntry_35 : decode cX0_addEntry 35 = .ok (.getfield 41, 3) := by decide +kernel
theorem dX0_addEntry_38 : decode cX0_addEntry 38 = .ok (.iload 4, 2) := by decide +kernel
theorem dX0_addEntry_40 : decode cX0_addEntry 40 = .ok (.iastore, 1) := by decide +kernel
theorem dX0_addEntry_41 : decode cX0_addEntry 41 = .ok (.aload_n 0, 1) := by decide +kernel
theorem dX0_addEntry_42 : decode cX0_addEntry 42 = .ok (.dup, 1) := by decide +kernel
theorem dX0_addEntry_43 : decode cX0_addEntry 43 = .ok (.getfield 41, 3) := by decide +kernel
theorem dX0_addEntry_46 : decode cX0_addEntry 46 = .ok (.iconst 1, 1) := by decide +kernel
theorem dX0_addEntry_47 : decode cX0_addEntry 47 = .ok (.iadd, 1) := by decide +kernel
theorem dX0_addEntry_48 : decode cX0_addEntry 48 = .ok (.putfield 41, 3) := by decide +kernel
theorem dX0_addEntry_51 : decode cX0_addEntry 51 = .ok (.return_, 1) := by decide +kernel
set_option maxRecDepth 20000 in
theorem ggX0_setData_X0_lengthOf : GoodIn wsX0_setData wsX0_lengthOf := goodIn_r _ [9, 3, 10, 11, 12, 8, 13, 4, 36, 37, 38, 39, 40, 41, 42, 43] (by decide +kernel) (by decide +kernel)
set_option maxRecDepth 20000 in
theorem gX0_setData_X0_lengthOf : GoodIn wsX0_setData (wsV RX0 57 RX0 yX0_lengthOf wsX0_lengthOf) := goodIn_app (goodIn_of _ (by decide +kernel)) ggX0_setData_X0_lengthOf
set_option maxRecDepth 20000 in
theorem ggX0_setData_X0_hasChunk : GoodIn wsX0_setData wsX0_hasChunk := goodIn_r _ [13, 4, 36, 37, 38, 39, 40, 41, 42, 43] (by decide +kernel) (by decide +kernel)
set_option maxRecDepth 20000 in
theorem gX0_setData_X0_hasChunk : GoodIn wsX0_setData (wsV RX0 51 RX0 yX0_hasChunk wsX0_hasChunk) := goodIn_app (goodIn_of _ (by decide +kernel)) ggX0_setData_X0_hasChunk
set_option maxRecDepth 20000 in
theorem ggX0_setData_X6_room : GoodIn wsX0_setData wsX6_room := goodIn_r _ [18, 19, 20, 44, 45] (by decide +kernel) (by decide +kernel)
set_option maxRecDepth 20000 in
theorem gX0_setData_X6_room : GoodIn wsX0_setData (wsV RX0 47 RX6 yX6_room wsX6_room) := goodIn_app (goodIn_of _ (by decide +kernel)) ggX0_setData_X6_room
set_option maxRecDepth 20000 in
theorem ggX0_setData_X6_splice : GoodIn wsX0_setData wsX6_splice := goodIn_r _ [24, 20, 25, 19, 26, 27, 28, 29, 30, 31, 32, 15, 16, 17, 18, 44, 45, 33, 34, 35] (by decide +kernel) (by decide +kernel)
set_option maxRecDepth 20000 in
theorem gX0_setData_X6_splice : GoodIn wsX0_setData (wsV RX0 87 RX6 yX6_splice wsX6_splice) := goodIn_app (goodIn_of _ (by decide +kernel)) ggX0_setData_X6_splice
theorem dX0_setData_0 : decode cX0_setData 0 = .ok (.aload_n 2, 1) := by decide +kernel
theorem dX0_setData_1 : decode cX0_setData 1 = .ok (.getfield 80, 3) := by decide +kernel
theorem dX0_setData_4 : decode cX0_setData 4 = .ok (.aload_n 0, 1) := by decide +kernel
theorem dX0_setData_5 : decode cX0_setData 5 = .ok (.iload_n 1, 1) := by decide +kernel
theorem dX0_setData_6 : decode cX0_setData 6 = .ok (.invokevirtual 57, 3) := by decide +kernel
theorem dX0_setData_9 : decode cX0_setData 9 = .ok (.isub, 1) := by decide +kernel
theorem dX0_setData_10 : decode cX0_setData 10 = .ok (.istore_n 3, 1) := by decide +kernel
theorem dX0_setData_11 : decode cX0_setData 11 = .ok (.aload_n 0, 1) := by decide +kernel
theorem dX0_setData_12 : decode cX0_setData 12 = .ok (.iload_n 1, 1) := by decide +kernel
theorem dX0_setData_13 : decode cX0_setData 13 = .ok (.invokevirtual 51, 3) := by decide +kernel
theorem dX0_setData_16 : decode cX0_setData 16 = .ok (.ifCond .eq 14, 3) := by decide +kernel
theorem dX0_setData_19 : decode cX0_setData 19 = .ok (.iload_n 3, 1) := by decide +kernel
theorem dX0_setData_20 : decode cX0_setData 20 = .ok (.aload_n 0, 1) := by decide +kernel
theorem dX0_setData_21 : decode cX0_setData 21 = .ok (.getfield 14, 3) := by decide +kernel
theorem dX0_setData_24 : decode cX0_setData 24 = .ok (.invokevirtual 47, 3) := by decide +kernel
theorem dX0_setData_27 : decode cX0_setData 27 = .ok (.if_icmp .le 4, 3) := by decide +kernel
theorem dX0_setData_30 : decode cX0_setData 30 = .ok (.return_, 1) := by decide +kernel
theorem dX0_setData_31 : decode cX0_setData 31 = .ok (.aload_n 0, 1) := by decide +kernel
theorem dX0_setData_32 : decode cX0_setData 32 = .ok (.getfield 14, 3) := by decide +kernel
theorem dX0_setData_35 : decode cX0_setData 35 = .ok (.aload_n 0, 1) := by decide +kernel
theorem dX0_setData_36 : decode cX0_setData 36 = .ok (.getfield 24, 3) := by decide +kernel
theorem dX0_setData_39 : decode cX0_setData 39 = .ok (.iload_n 1, 1) := by decide +kernel
theorem dX0_setData_40 : decode cX0_setData 40 = .ok (.iaload, 1) := by decide +kernel
theorem dX0_setData_41 : decode cX0_setData 41 = .ok (.aload_n 0, 1) := by decide +kernel
theorem dX0_setData_42 : decode cX0_setData 42 = .ok (.iload_n 1, 1) := by decide +kernel
theorem dX0_setData_43 : decode cX0_setData 43 = .ok (.invokevirtual 57, 3) := by decide +kernel
theorem dX0_setData_46 : decode cX0_setData 46 = .ok (.aload_n 2, 1) := by decide +kernel
theorem dX0_setData_47 : decode cX0_setData 47 = .ok (.invokevirtual 87, 3) := by decide +kernel
theorem dX0_setData_50 : decode cX0_setData 50 = .ok (.iload_n 1, 1) := by decide +kernel
theorem dX0_setData_51 : decode cX0_setData 51 = .ok (.iconst 1, 1) := by decide +kernel
theorem dX0_setData_52 : decode cX0_setData 52 = .ok (.iadd, 1) := by decide +kernel
theorem dX0_setData_53 : decode cX0_setData 53 = .ok (.istore 4, 2) := by decide +kernel
theorem dX0_setData_55 : decode cX0_setData 55 = .ok (.iload 4, 2) := by decide +kernel
theorem dX0_setData_57 : decode cX0_setData 57 = .ok (.aload_n 0, 1) := by decide +kernel
theorem dX0_setData_58 : decode cX0_setData 58 = .ok (.getfield 27, 3) := by decide +kernel
theorem dX0_setData_61 : decode cX0_setData 61 = .ok (.if_icmp .gt 20, 3) := by decide +kernel
theorem dX0_setData_64 : decode cX0_setData 64 = .ok (.aload_n 0, 1) := by decide +kernel
theorem dX0_setData_65 : decode cX0_setData 65 = .ok (.getfield 24, 3) := by decide +kernel
theorem dX0_setData_68 : decode cX0_setData 68 = .ok (.iload 4, 2) := by decide +kernel
theorem dX0_setData_70 : decode cX0_setData 70 = .ok (.dup2, 1) := by decide +kernel
theorem dX0_setData_71 : decode cX0_setData 71 = .ok (.iaload, 1) := by decide +kernel
theorem dX0_setData_72 : decode cX0_setData 72 = .ok (.iload_n 3, 1) := by decide +kernel
theorem dX0_setData_73 : decode cX0_setData 73 = .ok (.iadd, 1) := by decide +kernel
theorem dX0_setData_74 : decode cX0_setData 74 = .ok (.iastore, 1) := by decide +kernel
theorem dX0_setData_75 : decode cX0_setData 75 = .ok (.iinc 4 1, 3) := by decide +kernel
theorem dX0_setData_78 : decode cX0_setData 78 = .ok (.goto (-23), 3) := by decide +kernel
theorem dX0_setData_81 : decode cX0_setData 81 = .ok (.return_, 1) := by decide +kernel
set_option maxRecDepth 20000 in
theorem ggX0_takeChunk_X0_hasChunk : GoodIn wsX0_takeChunk wsX0_hasChunk := goodIn_r _ [15, 5, 57, 58, 59, 60, 61, 62, 63, 64] (by decide +kernel) (by decide +kernel)
set_option maxRecDepth 20000 in
theorem gX0_takeChunk_X0_hasChunk : GoodIn wsX0_takeChunk (wsV RX0 51 RX0 yX0_hasChunk wsX0_hasChunk) := goodIn_app (goodIn_of _ (by decide +kernel)) ggX0_takeChunk_X0_hasChunk
set_option maxRecDepth 20000 in
theorem ggX0_takeChunk_X3_init : GoodIn wsX0_takeChunk wsX3_init := goodIn_r _ [18, 19, 20, 21, 22, 23, 24, 25, 65, 66, 54, 55, 56] (by decide +kernel) (by decide +kernel)
set_option maxRecDepth 20000 in
theorem gX0_takeChunk_X3_init : GoodIn wsX0_takeChunk (wsX3_init) := ggX0_takeChunk_X3_init
set_option maxRecDepth 20000 in
theorem ggX0_takeChunk_X0_setData : GoodIn wsX0_takeChunk wsX0_setData := goodIn_r _ [29, 30, 4, 7, 5, 31, 32, 33, 14, 34, 11, 12, 13, 15, 35, 36, 37, 38, 39, 40, 41, 42, 43, 44, 45, 46, 47, 48, 49, 50, 51, 52, 53, 54, 55, 56, 57, 58, 59, 60, 61, 62, 63, 64, 65, 66] (by decide +kernel) (by decide +kernel)
set_option maxRecDepth 20000 in
theorem gX0_takeChunk_X0_setData : GoodIn wsX0_takeChunk (wsV RX0 91 RX0 yX0_setData wsX0_setData) := goodIn_app (goodIn_of _ (by decide +kernel)) ggX0_takeChunk_X0_setData
theorem dX0_takeChunk_0 : decode cX0_takeChunk 0 = .ok (.aload_n 0, 1) := by decide +kernel
theorem dX0_takeChunk_1 : decode cX0_takeChunk 1 = .ok (.iload_n 1, 1) := by decide +kernel
theorem dX0_takeChunk_2 : decode cX0_takeChunk 2 = .ok (.invokevirtual 51, 3) := by decide +kernel
theorem dX0_takeChunk_5 : decode cX0_takeChunk 5 = .ok (.ifCond .ne 4, 3) := by decide +kernel
theorem dX0_takeChunk_8 : decode cX0_takeChunk 8 = .ok (.return_, 1) := by decide +kernel
theorem dX0_takeChunk_9 : decode cX0_takeChunk 9 = .ok (.aload_n 0, 1) := by decide +kernel
theorem dX0_takeChunk_10 : decode cX0_takeChunk 10 = .ok (.iload_n 1, 1) := by decide +kernel
theorem dX0_takeChunk_11 : decode cX0_takeChunk 11 = .ok (.new 55, 3) := by decide +kernel
theorem dX0_takeChunk_14 : decode cX0_takeChunk 14 = .ok (.dup, 1) := by decide +kernel
theorem dX0_takeChunk_15 : decode cX0_takeChunk 15 = .ok (.aload_n 0, 1) := by decide +kernel
theorem dX0_takeChunk_16 : decode cX0_takeChunk 16 = .ok (.getfield 14, 3) := by decide +kernel
theorem dX0_takeChunk_19 : decode cX0_takeChunk 19 = .ok (.iconst 0, 1) := by decide +kernel
theorem dX0_takeChunk_20 : decode cX0_takeChunk 20 = .ok (.iconst 0, 1) := by decide +kernel
theorem dX0_takeChunk_21 : decode cX0_takeChunk 21 = .ok (.invokespecial 61, 3) := by decide +kernel
theorem dX0_takeChunk_24 : decode cX0_takeChunk 24 = .ok (.invokevirtual 91, 3) := by decide +kernel
theorem dX0_takeChunk_27 : decode cX0_takeChunk 27 = .ok (.aload_n 0, 1) := by decide +kernel
theorem dX0_takeChunk_28 : decode cX0_takeChunk 28 = .ok (.dup, 1) := by decide +kernel
theorem dX0_takeChunk_29 : decode cX0_takeChunk 29 = .ok (.getfield 27, 3) := by decide +kernel
theorem dX0_takeChunk_32 : decode cX0_takeChunk 32 = .ok (.iconst 1, 1) := by decide +kernel
theorem dX0_takeChunk_33 : decode cX0_takeChunk 33 = .ok (.isub, 1) := by decide +kernel
theorem dX0_takeChunk_34 : decode cX0_takeChunk 34 = .ok (.putfield 27, 3) := by decide +kernel
theorem dX0_takeChunk_37 : decode cX0_takeChunk 37 = .ok (.iload_n 1, 1) := by decide +kernel
theorem dX0_takeChunk_38 : decode cX0_takeChunk 38 = .ok (.istore_n 2, 1) := by decide +kernel
theorem dX0_takeChunk_39 : decode cX0_takeChunk 39 = .ok (.iload_n 2, 1) := by decide +kernel
theorem dX0_takeChunk_40 : decode cX0_takeChunk 40 = .ok (.aload_n 0, 1) := by decide +kernel
theorem dX0_takeChunk_41 : decode cX0_takeChunk 41 = .ok (.getfield 27, 3) := by decide +kernel
theorem dX0_takeChunk_44 : decode cX0_takeChunk 44 = .ok (.if_icmp .ge 37, 3) := by decide +kernel
theorem dX0_takeChunk_47 : decode cX0_takeChunk 47 = .ok (.aload_n 0, 1) := by decide +kernel
theorem dX0_takeChunk_48 : decode cX0_takeChunk 48 = .ok (.getfield 20, 3) := by decide +kernel
theorem dX0_takeChunk_51 : decode cX0_takeChunk 51 = .ok (.iload_n 2, 1) := by decide +kernel
theorem dX0_takeChunk_52 : decode cX0_takeChunk 52 = .ok (.aload_n 0, 1) := by decide +kernel
theorem dX0_takeChunk_53 : decode cX0_takeChunk 53 = .ok (.getfield 20, 3) := by decide +kernel
theorem dX0_takeChunk_56 : decode cX0_takeChunk 56 = .ok (.iload_n 2, 1) := by decide +kernel
theorem dX0_takeChunk_57 : decode cX0_takeChunk 57 = .ok (.iconst 1, 1) := by decide +kernel
theorem dX0_takeChunk_58 : decode cX0_takeChunk 58 = .ok (.iadd, 1) := by decide +kernel
theorem dX0_takeChunk_59 : decode cX0_takeChunk 59 = .ok (.iaload, 1) := by decide +kernel
theorem dX0_takeChunk_60 : decode cX0_takeChunk 60 = .ok (.iastore, 1) := by decide +kernel
theorem dX0_takeChunk_61 : decode cX0_takeChunk 61 = .ok (.aload_n 0, 1) := by decide +kernel
theorem dX0_takeChunk_62 : decode cX0_takeChunk 62 = .ok (.getfield 24, 3) := by decide +kernel
theorem dX0_takeChunk_65 : decode cX0_takeChunk 65 = .ok (.iload_n 2, 1) := by decide +kernel
theorem dX0_takeChunk_66 : decode cX0_takeChunk 66 = .ok (.aload_n 0, 1) := by decide +kernel
theorem dX0_takeChunk_67 : decode cX0_takeChunk 67 = .ok (.getfield 24, 3) := by decide +kernel
theorem dX0_takeChunk_70 : decode cX0_takeChunk 70 = .ok (.iload_n 2, 1) := by decide +kernel
theorem dX0_takeChunk_71 : decode cX0_takeChunk 71 = .ok (.iconst 1, 1) := by decide +kernel
theorem dX0_takeChunk_72 : decode cX0_takeChunk 72 = .ok (.iadd, 1) := by decide +kernel
theorem dX0_takeChunk_73 : decode cX0_takeChunk 73 = .ok (.iaload, 1) := by decide +kernel
theorem dX0_takeChunk_74 : decode cX0_takeChunk 74 = .ok (.iastore, 1) := by decide +kernel
theorem dX0_takeChunk_75 : decode cX0_takeChunk 75 = .ok (.iinc 2 1, 3) := by decide +kernel
theorem dX0_takeChunk_78 : decode cX0_takeChunk 78 = .ok (.goto (-39), 3) := by decide +kernel
theorem dX0_takeChunk_81 : decode cX0_takeChunk 81 = .ok (.aload_n 0, 1) := by decide +kernel
theorem dX0_takeChunk_82 : decode cX0_takeChunk 82 = .ok (.getfield 24, 3) := by decide +kernel
theorem dX0_takeChunk_85 : decode cX0_takeChunk 85 = .ok (.aload_n 0, 1) := by decide +kernel
theorem dX0_takeChunk_86 : decode cX0_takeChunk 86 = .ok (.getfield 27, 3) := by decide +kernel
theorem dX0_takeChunk_89 : decode cX0_takeChunk 89 = .ok (.aload_n 0, 1) := by decide +kernel
theorem dX0_takeChunk_90 : decode cX0_takeChunk 90 = .ok (.getfield 14, 3) := by decide +kernel
theorem dX0_takeChunk_93 : decode cX0_takeChunk 93 = .ok (.getfield 86, 3) := by decide +kernel
theorem dX0_takeChunk_96 : decode cX0_takeChunk 96 = .ok (.iastore, 1) := by decide +kernel
theorem dX0_takeChunk_97 : decode cX0_takeChunk 97 = .ok (.iconst 0, 1) := by decide +kernel
theorem dX0_takeChunk_98 : decode cX0_takeChunk 98 = .ok (.istore_n 2, 1) := by decide +kernel
theorem dX0_takeChunk_99 : decode cX0_takeChunk 99 = .ok (.iload_n 2, 1) := by decide +kernel
theorem dX0_takeChunk_100 : decode cX0_takeChunk 100 = .ok (.aload_n 0, 1) := by decide +kernel
theorem dX0_takeChunk_101 : decode cX0_takeChunk 101 = .ok (.getfield 41, 3) := by decide +kernel
theorem dX0_takeChunk_104 : decode cX0_takeChunk 104 = .ok (.if_icmp .ge 29, 3) := by decide +kernel
theorem dX0_takeChunk_107 : decode cX0_takeChunk 107 = .ok (.aload_n 0, 1) := by decide +kernel
theorem dX0_takeChunk_108 : decode cX0_takeChunk 108 = .ok (.getfield 38, 3) := by decide +kernel
theorem dX0_takeChunk_111 : decode cX0_takeChunk 111 = .ok (.iload_n 2, 1) := by decide +kernel
theorem dX0_takeChunk_112 : decode cX0_takeChunk 112 = .ok (.iaload, 1) := by decide +kernel
theorem dX0_takeChunk_113 : decode cX0_takeChunk 113 = .ok (.iload_n 1, 1) := by decide +kernel
theorem dX0_takeChunk_114 : decode cX0_takeChunk 114 = .ok (.if_icmp .le 13, 3) := by decide +kernel
theorem dX0_takeChunk_117 : decode cX0_takeChunk 117 = .ok (.aload_n 0, 1) := by decide +kernel
theorem dX0_takeChunk_118 : decode cX0_takeChunk 118 = .ok (.getfield 38, 3) := by decide +kernel
theorem dX0_takeChunk_121 : decode cX0_takeChunk 121 = .ok (.iload_n 2, 1) := by decide +kernel
theorem dX0_takeChunk_122 : decode cX0_takeChunk 122 = .ok (.dup2, 1) := by decide +kernel
theorem dX0_takeChunk_123 : decode cX0_takeChunk 123 = .ok (.iaload, 1) := by decide +kernel
theorem dX0_takeChunk_124 : decode cX0_takeChunk 124 = .ok (.iconst 1, 1) := by decide +kernel
theorem dX0_takeChunk_125 : decode cX0_takeChunk 125 = .ok (.isub, 1) := by decide +kernel
theorem dX0_takeChunk_126 : decode cX0_takeChunk 126 = .ok (.iastore, 1) := by decide +kernel
theorem dX0_takeChunk_127 : decode cX0_takeChunk 127 = .ok (.iinc 2 1, 3) := by decide +kernel
theorem dX0_takeChunk_130 : decode cX0_takeChunk 130 = .ok (.goto (-31), 3) := by decide +kernel
theorem dX0_takeChunk_133 : decode cX0_takeChunk 133 = .ok (.return_, 1) := by decide +kernel
set_option maxRecDepth 20000 in
theorem ggX0_takeEntry_X0_hasEntry : GoodIn wsX0_takeEntry wsX0_hasEntry := goodIn_r _ [9, 1, 10, 11, 12, 13, 14, 15, 16, 17] (by decide +kernel) (by decide +kernel)
set_option maxRecDepth 20000 in
theorem gX0_takeEntry_X0_hasEntry : GoodIn wsX0_takeEntry (wsV RX0 64 RX0 yX0_hasEntry wsX0_hasEntry) := goodIn_app (goodIn_of _ (by decide +kernel)) ggX0_takeEntry_X0_hasEntry
theorem dX0_takeEntry_0 : decode cX0_takeEntry 0 = .ok (.aload_n 0, 1) := by decide +kernel
theorem dX0_takeEntry_1 : decode cX0_takeEntry 1 = .ok (.iload_n 1, 1) := by decide +kernel
theorem dX0_takeEntry_2 : decode cX0_takeEntry 2 = .ok (.invokevirtual 64, 3) := by decide +kernel
theorem dX0_takeEntry_5 : decode cX0_takeEntry 5 = .ok (.ifCond .ne 4, 3) := by decide +kernel
theorem dX0_takeEntry_8 : decode cX0_takeEntry 8 = .ok (.return_, 1) := by decide +kernel
theorem dX0_takeEntry_9 : decode cX0_takeEntry 9 = .ok (.aload_n 0, 1) := by decide +kernel
theorem dX0_takeEntry_10 : decode cX0_takeEntry 10 = .ok (.dup, 1) := by decide +kernel
theorem dX0_takeEntry_11 : decode cX0_takeEntry 11 = .ok (.getfield 41, 3) := by decide +kernel
theorem dX0_takeEntry_14 : decode cX0_takeEntry 14 = .ok (.iconst 1, 1) := by decide +kernel
theorem dX0_takeEntry_15 : decode cX0_takeEntry 15 = .ok (.isub, 1) := by decide +kernel
theorem dX0_takeEntry_16 : decode cX0_takeEntry 16 = .ok (.putfield 41, 3) := by decide +kernel
theorem dX0_takeEntry_19 : decode cX0_takeEntry 19 = .ok (.iload_n 1, 1) := by decide +kernel
theorem dX0_takeEntry_20 : decode cX0_takeEntry 20 = .ok (.istore_n 2, 1) := by decide +kernel
theorem dX0_takeEntry_21 : decode cX0_takeEntry 21 = .ok (.iload_n 2, 1) := by decide +kernel
theorem dX0_takeEntry_22 : decode cX0_takeEntry 22 = .ok (.aload_n 0, 1) := by decide +kernel
theorem dX0_takeEntry_23 : decode cX0_takeEntry 23 = .ok (.getfield 41, 3) := by decide +kernel
theorem dX0_takeEntry_26 : decode cX0_takeEntry 26 = .ok (.if_icmp .ge 51, 3) := by decide +kernel
theorem dX0_takeEntry_29 : decode cX0_takeEntry 29 = .ok (.aload_n 0, 1) := by decide +kernel
theorem dX0_takeEntry_30 : decode cX0_takeEntry 30 = .ok (.getfield 31, 3) := by decide +kernel
theorem dX0_takeEntry_33 : decode cX0_takeEntry 33 = .ok (.iload_n 2, 1) := by decide +kernel
theorem dX0_takeEntry_34 : decode cX0_takeEntry 34 = .ok (.aload_n 0, 1) := by decide +kernel
theorem dX0_takeEntry_35 : decode cX0_takeEntry 35 = .ok (.getfield 31, 3) := by decide +kernel
theorem dX0_takeEntry_38 : decode cX0_takeEntry 38 = .ok (.iload_n 2, 1) := by decide +kernel
theorem dX0_takeEntry_39 : decode cX0_takeEntry 39 = .ok (.iconst 1, 1) := by decide +kernel
theorem dX0_takeEntry_40 : decode cX0_takeEntry 40 = .ok (.iadd, 1) := by decide +kernel
theorem dX0_takeEntry_41 : decode cX0_takeEntry 41 = .ok (.iaload, 1) := by decide +kernel
theorem dX0_takeEntry_42 : decode cX0_takeEntry 42 = .ok (.iastore, 1) := by decide +kernel
theorem dX0_takeEntry_43 : decode cX0_takeEntry 43 = .ok (.aload_n 0, 1) := by decide +kernel
theorem dX0_takeEntry_44 : decode cX0_takeEntry 44 = .ok (.getfield 34, 3) := by decide +kernel
theorem dX0_takeEntry_47 : decode cX0_takeEntry 47 = .ok (.iload_n 2, 1) := by decide +kernel
theorem dX0_takeEntry_48 : decode cX0_takeEntry 48 = .ok (.aload_n 0, 1) := by decide +kernel
theorem dX0_takeEntry_49 : decode cX0_takeEntry 49 = .ok (.getfield 34, 3) := by decide +kernel
theorem dX0_takeEntry_52 : decode cX0_takeEntry 52 = .ok (.iload_n 2, 1) := by decide +kernel
theorem dX0_takeEntry_53 : decode cX0_takeEntry 53 = .ok (.iconst 1, 1) := by decide +kernel
theorem dX0_takeEntry_54 : decode cX0_takeEntry 54 = .ok (.iadd, 1) := by decide +kernel
theorem dX0_takeEntry_55 : decode cX0_takeEntry 55 = .ok (.laload, 1) := by decide +kernel
theorem dX0_takeEntry_56 : decode cX0_takeEntry 56 = .ok (.lastore, 1) := by decide +kernel
theorem dX0_takeEntry_57 : decode cX0_takeEntry 57 = .ok (.aload_n 0, 1) := by decide +kernel
theorem dX0_takeEntry_58 : decode cX0_takeEntry 58 = .ok (.getfield 38, 3) := by decide +kernel
theorem dX0_takeEntry_61 : decode cX0_takeEntry 61 = .ok (.iload_n 2, 1) := by decide +kernel
theorem dX0_takeEntry_62 : decode cX0_takeEntry 62 = .ok (.aload_n 0, 1) := by decide +kernel
theorem dX0_takeEntry_63 : decode cX0_takeEntry 63 = .ok (.getfield 38, 3) := by decide +kernel
theorem dX0_takeEntry_66 : decode cX0_takeEntry 66 = .ok (.iload_n 2, 1) := by decide +kernel
theorem dX0_takeEntry_67 : decode cX0_takeEntry 67 = .ok (.iconst 1, 1) := by decide +kernel
theorem dX0_takeEntry_68 : decode cX0_takeEntry 68 = .ok (.iadd, 1) := by decide +kernel
theorem dX0_takeEntry_69 : decode cX0_takeEntry 69 = .ok (.iaload, 1) := by decide +kernel
theorem dX0_takeEntry_70 : decode cX0_takeEntry 70 = .ok (.iastore, 1) := by decide +kernel
theorem dX0_takeEntry_71 : decode cX0_takeEntry 71 = .ok (.iinc 2 1, 3) := by decide +kernel
theorem dX0_takeEntry_74 : decode cX0_takeEntry 74 = .ok (.goto (-53), 3) := by decide +kernel
theorem dX0_takeEntry_77 : decode cX0_takeEntry 77 = .ok (.return_, 1) := by decide +kernel
set_option maxRecDepth 20000 in
theorem ggX0_writeTo_X6_append : GoodIn wsX0_writeTo wsX6_append := goodIn_r _ [15, 16, 17, 18, 19, 20, 14, 21, 73, 74] (by decide +kernel) (by decide +kernel)
set_option maxRecDepth 20000 in
theorem gX0_writeTo_X6_append : GoodIn wsX0_writeTo (wsV RX0 97 RX6 yX6_append wsX6_append) := goodIn_app (goodIn_of _ (by decide +kernel)) ggX0_writeTo_X6_append
set_option maxRecDepth 20000 in
theorem ggX0_writeTo_X0_placeOf : GoodIn wsX0_writeTo wsX0_placeOf := goodIn_r _ [26, 5, 2, 27, 28, 29, 25, 30, 31, 32, 33, 34, 35, 65, 66, 67, 68, 69, 70, 71, 72] (by decide +kernel) (by decide +kernel)
set_option maxRecDepth 20000 in
theorem gX0_writeTo_X0_placeOf : GoodIn wsX0_writeTo (wsV RX0 101 RX0 yX0_placeOf wsX0_placeOf) := goodIn_app (goodIn_of _ (by decide +kernel)) ggX0_writeTo_X0_placeOf
set_option maxRecDepth 20000 in
theorem ggX0_writeTo_X0_lengthOf : GoodIn wsX0_writeTo wsX0_lengthOf := goodIn_r _ [30, 31, 32, 33, 34, 25, 35, 2, 65, 66, 67, 68, 69, 70, 71, 72] (by decide +kernel) (by decide +kernel)
set_option maxRecDepth 20000 in
theorem gX0_writeTo_X0_lengthOf : GoodIn wsX0_writeTo (wsV RX0 57 RX0 yX0_lengthOf wsX0_lengthOf) := goodIn_app (goodIn_of _ (by decide +kernel)) ggX0_writeTo_X0_lengthOf
set_option maxRecDepth 20000 in
theorem ggX0_writeTo_X0_dataOf : GoodIn wsX0_writeTo wsX0_dataOf := goodIn_r _ [39, 40, 41, 42, 43, 31, 32, 33, 34, 25, 35, 2, 27, 28, 29, 30, 44, 45, 46, 47, 48, 49, 50, 51, 52, 53, 75, 76, 77, 65, 66, 67, 68, 69, 70, 71, 72, 73, 74] (by decide +kernel) (by decide +kernel)
set_option maxRecDepth 20000 in
theorem gX0_writeTo_X0_dataOf : GoodIn wsX0_writeTo (wsV RX0 70 RX0 yX0_dataOf wsX0_dataOf) := goodIn_app (goodIn_of _ (by decide +kernel)) ggX0_writeTo_X0_dataOf
set_option maxRecDepth 20000 in
theorem ggX0_writeTo_X6_splice : GoodIn wsX0_writeTo wsX6_splice := goodIn_r _ [57, 17, 58, 16, 59, 60, 61, 62, 63, 64, 18, 19, 20, 14, 21, 73, 74, 75, 76, 77] (by decide +kernel) (by decide +kernel)
set_option maxRecDepth 20000 in
theorem gX0_writeTo_X6_splice : GoodIn wsX0_writeTo (wsV RX0 87 RX6 yX6_splice wsX6_splice) := goodIn_app (goodIn_of _ (by decide +kernel)) ggX0_writeTo_X6_splice
theorem dX0_writeTo_0 : decode cX0_writeTo 0 = .ok (.aload_n 1, 1) := by decide +kernel
theorem dX0_writeTo_1 : decode cX0_writeTo 1 = .ok (.iconst 4, 1) := by decide +kernel
theorem dX0_writeTo_2 : decode cX0_writeTo 2 = .ok (.ldc2_w 95, 3) := by decide +kernel
theorem dX0_writeTo_5 : decode cX0_writeTo 5 = .ok (.invokevirtual 97, 3) := by decide +kernel
theorem dX0_writeTo_8 : decode cX0_writeTo 8 = .ok (.aload_n 1, 1) := by decide +kernel
theorem dX0_writeTo_9 : decode cX0_writeTo 9 = .ok (.iconst 4, 1) := by decide +kernel
theorem dX0_writeTo_10 : decode cX0_writeTo 10 = .ok (.aload_n 0, 1) := by decide +kernel
theorem dX0_writeTo_11 : decode cX0_writeTo 11 = .ok (.aload_n 0, 1) := by decide +kernel
theorem dX0_writeTo_12 : decode cX0_writeTo 12 = .ok (.getfield 27, 3) := by decide +kernel
theorem dX0_writeTo_15 : decode cX0_writeTo 15 = .ok (.invokevirtual 101, 3) := by decide +kernel
theorem dX0_writeTo_18 : decode cX0_writeTo 18 = .ok (.bipush 8, 2) := by decide +kernel
theorem dX0_writeTo_20 : decode cX0_writeTo 20 = .ok (.isub, 1) := by decide +kernel
theorem dX0_writeTo_21 : decode cX0_writeTo 21 = .ok (.i2l, 1) := by decide +kernel
theorem dX0_writeTo_22 : decode cX0_writeTo 22 = .ok (.invokevirtual 97, 3) := by decide +kernel
theorem dX0_writeTo_25 : decode cX0_writeTo 25 = .ok (.aload_n 1, 1) := by decide +kernel
theorem dX0_writeTo_26 : decode cX0_writeTo 26 = .ok (.iconst 4, 1) := by decide +kernel
theorem dX0_writeTo_27 : decode cX0_writeTo 27 = .ok (.ldc2_w 104, 3) := by decide +kernel
theorem dX0_writeTo_30 : decode cX0_writeTo 30 = .ok (.invokevirtual 97, 3) := by decide +kernel
theorem dX0_writeTo_33 : decode cX0_writeTo 33 = .ok (.aload_n 1, 1) := by decide +kernel
theorem dX0_writeTo_34 : decode cX0_writeTo 34 = .ok (.iconst 4, 1) := by decide +kernel
theorem dX0_writeTo_35 : decode cX0_writeTo 35 = .ok (.ldc2_w 106, 3) := by decide +kernel
theorem dX0_writeTo_38 : decode cX0_writeTo 38 = .ok (.invokevirtual 97, 3) := by decide +kernel
theorem dX0_writeTo_41 : decode cX0_writeTo 41 = .ok (.aload_n 1, 1) := by decide +kernel
theorem dX0_writeTo_42 : decode cX0_writeTo 42 = .ok (.iconst 4, 1) := by decide +kernel
theorem dX0_writeTo_43 : decode cX0_writeTo 43 = .ok (.iconst 4, 1) := by decide +kernel
theorem dX0_writeTo_44 : decode cX0_writeTo 44 = .ok (.bipush 12, 2) := by decide +kernel
theorem dX0_writeTo_46 : decode cX0_writeTo 46 = .ok (.aload_n 0, 1) := by decide +kernel
theorem dX0_writeTo_47 : decode cX0_writeTo 47 = .ok (.getfield 41, 3) := by decide +kernel
theorem dX0_writeTo_50 : decode cX0_writeTo 50 = .ok (.imul, 1) := by decide +kernel
theorem dX0_writeTo_51 : decode cX0_writeTo 51 = .ok (.iadd, 1) := by decide +kernel
theorem dX0_writeTo_52 : decode cX0_writeTo 52 = .ok (.i2l, 1) := by decide +kernel
theorem dX0_writeTo_53 : decode cX0_writeTo 53 = .ok (.invokevirtual 97, 3) := by decide +kernel
theorem dX0_writeTo_56 : decode cX0_writeTo 56 = .ok (.aload_n 1, 1) := by decide +kernel
theorem dX0_writeTo_57 : decode cX0_writeTo 57 = .ok (.iconst 4, 1) := by decide +kernel
theorem dX0_writeTo_58 : decode cX0_writeTo 58 = .ok (.aload_n 0, 1) := by decide +kernel
theorem dX0_writeTo_59 : decode cX0_writeTo 59 = .ok (.getfield 41, 3) := by decide +kernel
theorem dX0_writeTo_62 : decode cX0_writeTo 62 = .ok (.i2l, 1) := by decide +kernel
theorem dX0_writeTo_63 : decode cX0_writeTo 63 = .ok (.invokevirtual 97, 3) := by decide +kernel
theorem dX0_writeTo_66 : decode cX0_writeTo 66 = .ok (.iconst 0, 1) := by decide +kernel
theorem dX0_writeTo_67 : decode cX0_writeTo 67 = .ok (.istore_n 2, 1) := by decide +kernel
theorem dX0_writeTo_68 : decode cX0_writeTo 68 = .ok (.iload_n 2, 1) := by decide +kernel
theorem dX0_writeTo_69 : decode cX0_writeTo 69 = .ok (.aload_n 0, 1) := by decide +kernel
theorem dX0_writeTo_70 : decode cX0_writeTo 70 = .ok (.getfield 41, 3) := by decide +kernel
theorem dX0_writeTo_73 : decode cX0_writeTo 73 = .ok (.if_icmp .ge 48, 3) := by decide +kernel
theorem dX0_writeTo_76 : decode cX0_writeTo 76 = .ok (.aload_n 1, 1) := by decide +kernel
theorem dX0_writeTo_77 : decode cX0_writeTo 77 = .ok (.iconst 4, 1) := by decide +kernel
theorem dX0_writeTo_78 : decode cX0_writeTo 78 = .ok (.aload_n 0, 1) := by decide +kernel
theorem dX0_writeTo_79 : decode cX0_writeTo 79 = .ok (.getfield 31, 3) := by decide +kernel
theorem dX0_writeTo_82 : decode cX0_writeTo 82 = .ok (.iload_n 2, 1) := by decide +kernel
theorem dX0_writeTo_83 : decode cX0_writeTo 83 = .ok (.iaload, 1) := by decide +kernel
theorem dX0_writeTo_84 : decode cX0_writeTo 84 = .ok (.i2l, 1) := by decide +kernel
theorem dX0_writeTo_85 : decode cX0_writeTo 85 = .ok (.invokevirtual 97, 3) := by decide +kernel
theorem dX0_writeTo_88 : decode cX0_writeTo 88 = .ok (.aload_n 1, 1) := by decide +kernel
theorem dX0_writeTo_89 : decode cX0_writeTo 89 = .ok (.iconst 4, 1) := by decide +kernel
theorem dX0_writeTo_90 : decode cX0_writeTo 90 = .ok (.aload_n 0, 1) := by decide +kernel
theorem dX0_writeTo_91 : decode cX0_writeTo 91 = .ok (.getfield 34, 3) := by decide +kernel
theorem dX0_writeTo_94 : decode cX0_writeTo 94 = .ok (.iload_n 2, 1) := by decide +kernel
theorem dX0_writeTo_95 : decode cX0_writeTo 95 = .ok (.laload, 1) := by decide +kernel
theorem dX0_writeTo_96 : decode cX0_writeTo 96 = .ok (.invokevirtual 97, 3) := by decide +kernel
theorem dX0_writeTo_99 : decode cX0_writeTo 99 = .ok (.aload_n 1, 1) := by decide +kernel
theorem dX0_writeTo_100 : decode cX0_writeTo 100 = .ok (.iconst 4, 1) := by decide +kernel
theorem dX0_writeTo_101 : decode cX0_writeTo 101 = .ok (.aload_n 0, 1) := by decide +kernel
theorem dX0_writeTo_102 : decode cX0_writeTo 102 = .ok (.aload_n 0, 1) := by decide +kernel
theorem dX0_writeTo_103 : decode cX0_writeTo 103 = .ok (.getfield 38, 3) := by decide +kernel
theorem dX0_writeTo_106 : decode cX0_writeTo 106 = .ok (.iload_n 2, 1) := by decide +kernel
theorem dX0_writeTo_107 : decode cX0_writeTo 107 = .ok (.iaload, 1) := by decide +kernel
theorem dX0_writeTo_108 : decode cX0_writeTo 108 = .ok (.invokevirtual 101, 3) := by decide +kernel
theorem dX0_writeTo_111 : decode cX0_writeTo 111 = .ok (.i2l, 1) := by decide +kernel
theorem dX0_writeTo_112 : decode cX0_writeTo 112 = .ok (.invokevirtual 97, 3) := by decide +kernel
theorem dX0_writeTo_115 : decode cX0_writeTo 115 = .ok (.iinc 2 1, 3) := by decide +kernel
theorem dX0_writeTo_118 : decode cX0_writeTo 118 = .ok (.goto (-50), 3) := by decide +kernel
theorem dX0_writeTo_121 : decode cX0_writeTo 121 = .ok (.iconst 0, 1) := by decide +kernel
theorem dX0_writeTo_122 : decode cX0_writeTo 122 = .ok (.istore_n 2, 1) := by decide +kernel
theorem dX0_writeTo_123 : decode cX0_writeTo 123 = .ok (.iload_n 2, 1) := by decide +kernel
theorem dX0_writeTo_124 : decode cX0_writeTo 124 = .ok (.aload_n 0, 1) := by decide +kernel
theorem dX0_writeTo_125 : decode cX0_writeTo 125 = .ok (.getfield 27, 3) := by decide +kernel
theorem dX0_writeTo_128 : decode cX0_writeTo 128 = .ok (.if_icmp .ge 58, 3) := by decide +kernel
theorem dX0_writeTo_131 : decode cX0_writeTo 131 = .ok (.aload_n 1, 1) := by decide +kernel
theorem dX0_writeTo_132 : decode cX0_writeTo 132 = .ok (.iconst 4, 1) := by decide +kernel
theorem dX0_writeTo_133 : decode cX0_writeTo 133 = .ok (.aload_n 0, 1) := by decide +kernel
theorem dX0_writeTo_134 : decode cX0_writeTo 134 = .ok (.getfield 20, 3) := by decide +kernel
theorem dX0_writeTo_137 : decode cX0_writeTo 137 = .ok (.iload_n 2, 1) := by decide +kernel
theorem dX0_writeTo_138 : decode cX0_writeTo 138 = .ok (.iaload, 1) := by decide +kernel
theorem dX0_writeTo_139 : decode cX0_writeTo 139 = .ok (.i2l, 1) := by decide +kernel
theorem dX0_writeTo_140 : decode cX0_writeTo 140 = .ok (.invokevirtual 97, 3) := by decide +kernel
theorem dX0_writeTo_143 : decode cX0_writeTo 143 = .ok (.aload_n 1, 1) := by decide +kernel
theorem dX0_writeTo_144 : decode cX0_writeTo 144 = .ok (.iconst 4, 1) := by decide +kernel
theorem dX0_writeTo_145 : decode cX0_writeTo 145 = .ok (.aload_n 0, 1) := by decide +kernel
theorem dX0_writeTo_146 : decode cX0_writeTo 146 = .ok (.iload_n 2, 1) := by decide +kernel
theorem dX0_writeTo_147 : decode cX0_writeTo 147 = .ok (.invokevirtual 57, 3) := by decide +kernel
theorem dX0_writeTo_150 : decode cX0_writeTo 150 = .ok (.i2l, 1) := by decide +kernel
theorem dX0_writeTo_151 : decode cX0_writeTo 151 = .ok (.invokevirtual 97, 3) := by decide +kernel
theorem dX0_writeTo_154 : decode cX0_writeTo 154 = .ok (.aload_n 1, 1) := by decide +kernel
theorem dX0_writeTo_155 : decode cX0_writeTo 155 = .ok (.aload_n 1, 1) := by decide +kernel
theorem dX0_writeTo_156 : decode cX0_writeTo 156 = .ok (.getfield 86, 3) := by decide +kernel
theorem dX0_writeTo_159 : decode cX0_writeTo 159 = .ok (.iconst 0, 1) := by decide +kernel
theorem dX0_writeTo_160 : decode cX0_writeTo 160 = .ok (.aload_n 0, 1) := by decide +kernel
theorem dX0_writeTo_161 : decode cX0_writeTo 161 = .ok (.iload_n 2, 1) := by decide +kernel
theorem dX0_writeTo_162 : decode cX0_writeTo 162 = .ok (.invokevirtual 70, 3) := by decide +kernel
theorem dX0_writeTo_165 : decode cX0_writeTo 165 = .ok (.invokevirtual 87, 3) := by decide +kernel
theorem dX0_writeTo_168 : decode cX0_writeTo 168 = .ok (.aload_n 1, 1) := by decide +kernel
theorem dX0_writeTo_169 : decode cX0_writeTo 169 = .ok (.aload_n 0, 1) := by decide +kernel
theorem dX0_writeTo_170 : decode cX0_writeTo 170 = .ok (.iload_n 2, 1) := by decide +kernel
theorem dX0_writeTo_171 : decode cX0_writeTo 171 = .ok (.invokevirtual 57, 3) := by decide +kernel
theorem dX0_writeTo_174 : decode cX0_writeTo 174 = .ok (.iconst 1, 1) := by decide +kernel
theorem dX0_writeTo_175 : decode cX0_writeTo 175 = .ok (.iand, 1) := by decide +kernel
theorem dX0_writeTo_176 : decode cX0_writeTo 176 = .ok (.lconst 0, 1) := by decide +kernel
theorem dX0_writeTo_177 : decode cX0_writeTo 177 = .ok (.invokevirtual 97, 3) := by decide +kernel
theorem dX0_writeTo_180 : decode cX0_writeTo 180 = .ok (.iinc 2 1, 3) := by decide +kernel
theorem dX0_writeTo_183 : decode cX0_writeTo 183 = .ok (.goto (-60), 3) := by decide +kernel
theorem dX0_writeTo_186 : decode cX0_writeTo 186 = .ok (.return_, 1) := by decide +kernel
theorem dX1_init_0 : decode cX1_init 0 = .ok (.aload_n 0, 1) := by decide +kernel
theorem dX1_init_1 : decode cX1_init 1 = .ok (.invokespecial 3, 3) := by decide +kernel
theorem dX1_init_4 : decode cX1_init 4 = .ok (.aload_n 0, 1) := by decide +kernel
theorem dX1_init_5 : decode cX1_init 5 = .ok (.bipush 60, 2) := by decide +kernel
theorem dX1_init_7 : decode cX1_init 7 = .ok (.newarray .int, 2) := by decide +kernel
theorem dX1_init_9 : decode cX1_init 9 = .ok (.putfield 9, 3) := by decide +kernel
theorem dX1_init_12 : decode cX1_init 12 = .ok (.aload_n 0, 1) := by decide +kernel
theorem dX1_init_13 : decode cX1_init 13 = .ok (.iconst 0, 1) := by decide +kernel
theorem dX1_init_14 : decode cX1_init 14 = .ok (.putfield 15, 3) := by decide +kernel
theorem dX1_init_17 : decode cX1_init 17 = .ok (.aload_n 0, 1) := by decide +kernel
theorem dX1_init_18 : decode cX1_init 18 = .ok (.bipush (-2), 2) := by decide +kernel
theorem dX1_init_20 : decode cX1_init 20 = .ok (.putfield 19, 3) := by decide +kernel
theorem dX1_init_23 : decode cX1_init 23 = .ok (.return_, 1) := by decide +kernel
set_option maxRecDepth 20000 in
theorem ggX1_faultOf_X1_faultOfHead : GoodIn wsX1_faultOf wsX1_faultOfHead := goodIn_r _ [7, 8, 9, 10, 11, 12, 13, 6, 14, 2, 15, 16, 17, 18, 19, 20, 21, 22, 23, 24, 25, 26, 27, 28, 29, 30, 31, 32, 83, 84, 85, 80, 81, 82, 86, 87] (by decide +kernel) (by decide +kernel)
set_option maxRecDepth 20000 in
theorem gX1_faultOf_X1_faultOfHead : GoodIn wsX1_faultOf (wsV RX1 22 RX1 yX1_faultOfHead wsX1_faultOfHead) := goodIn_app (goodIn_of _ (by decide +kernel)) ggX1_faultOf_X1_faultOfHead
set_option maxRecDepth 20000 in
theorem ggX1_faultOf_X1_faultOfPieces : GoodIn wsX1_faultOf wsX1_faultOfPieces := goodIn_r _ [36, 8, 1, 37, 38, 39, 40, 6, 41, 42, 43, 29, 30, 18, 31, 32, 11, 12, 13, 14, 2, 15, 16, 17, 19, 20, 21, 22, 23, 24, 25, 26, 27, 28, 44, 45, 46, 47, 48, 49, 50, 51, 52, 53, 54, 55, 56, 57, 58, 83, 84, 85, 80, 81, 82, 86, 87] (by decide +kernel) (by decide +kernel)
set_option maxRecDepth 20000 in
theorem gX1_faultOf_X1_faultOfPieces : GoodIn wsX1_faultOf (wsV RX1 26 RX1 yX1_faultOfPieces wsX1_faultOfPieces) := goodIn_app (goodIn_of _ (by decide +kernel)) ggX1_faultOf_X1_faultOfPieces
set_option maxRecDepth 20000 in
theorem ggX1_faultOf_X1_faultOfIndex : GoodIn wsX1_faultOf wsX1_faultOfIndex := goodIn_r _ [62, 63, 64, 15, 16, 17, 18, 19, 20, 21, 22, 23, 24, 25, 26, 27, 28, 29, 30, 31, 32, 11, 12, 13, 6, 14, 2, 65, 66, 67, 68, 69, 70, 46, 71, 72, 73, 74, 75, 76, 77, 78, 79, 1, 37, 83, 84, 85, 86, 87, 80, 81, 82] (by decide +kernel) (by decide +kernel)
set_option maxRecDepth 20000 in
theorem gX1_faultOf_X1_faultOfIndex : GoodIn wsX1_faultOf (wsV RX1 29 RX1 yX1_faultOfIndex wsX1_faultOfIndex) := goodIn_app (goodIn_of _ (by decide +kernel)) ggX1_faultOf_X1_faultOfIndex
theorem dX1_faultOf_0 : decode cX1_faultOf 0 = .ok (.aload_n 0, 1) := by decide +kernel
theorem dX1_faultOf_1 : decode cX1_faultOf 1 = .ok (.iconst 0, 1) := by decide +kernel
theorem dX1_faultOf_2 : decode cX1_faultOf 2 = .ok (.putfield 15, 3) := by decide +kernel
theorem dX1_faultOf_5 : decode cX1_faultOf 5 = .ok (.aload_n 0, 1) := by decide +kernel
theorem dX1_faultOf_6 : decode cX1_faultOf 6 = .ok (.bipush (-2), 2) := by decide +kernel
theorem dX1_faultOf_8 : decode cX1_faultOf 8 = .ok (.putfield 19, 3) := by decide +kernel
theorem dX1_faultOf_11 : decode cX1_faultOf 11 = .ok (.aload_n 0, 1) := by decide +kernel
theorem dX1_faultOf_12 : decode cX1_faultOf 12 = .ok (.aload_n 1, 1) := by decide +kernel
theorem dX1_faultOf_13 : decode cX1_faultOf 13 = .ok (.invokevirtual 22, 3) := by decide +kernel
theorem dX1_faultOf_16 : decode cX1_faultOf 16 = .ok (.istore_n 2, 1) := by decide +kernel
theorem dX1_faultOf_17 : decode cX1_faultOf 17 = .ok (.iload_n 2, 1) := by decide +kernel
theorem dX1_faultOf_18 : decode cX1_faultOf 18 = .ok (.ifCond .ne 9, 3) := by decide +kernel
theorem dX1_faultOf_21 : decode cX1_faultOf 21 = .ok (.aload_n 0, 1) := by decide +kernel
theorem dX1_faultOf_22 : decode cX1_faultOf 22 = .ok (.aload_n 1, 1) := by decide +kernel
theorem dX1_faultOf_23 : decode cX1_faultOf 23 = .ok (.invokevirtual 26, 3) := by decide +kernel
theorem dX1_faultOf_26 : decode cX1_faultOf 26 = .ok (.istore_n 2, 1) := by decide +kernel
theorem dX1_faultOf_27 : decode cX1_faultOf 27 = .ok (.iload_n 2, 1) := by decide +kernel
theorem dX1_faultOf_28 : decode cX1_faultOf 28 = .ok (.ifCond .ne 9, 3) := by decide +kernel
theorem dX1_faultOf_31 : decode cX1_faultOf 31 = .ok (.aload_n 0, 1) := by decide +kernel
theorem dX1_faultOf_32 : decode cX1_faultOf 32 = .ok (.aload_n 1, 1) := by decide +kernel
theorem dX1_faultOf_33 : decode cX1_faultOf 33 = .ok (.invokevirtual 29, 3) := by decide +kernel
theorem dX1_faultOf_36 : decode cX1_faultOf 36 = .ok (.istore_n 2, 1) := by decide +kernel
theorem dX1_faultOf_37 : decode cX1_faultOf 37 = .ok (.iload_n 2, 1) := by decide +kernel
theorem dX1_faultOf_38 : decode cX1_faultOf 38 = .ok (.ireturn, 1) := by decide +kernel
theorem dX1_fail_0 : decode cX1_fail 0 = .ok (.aload_n 0, 1) := by decide +kernel
theorem dX1_fail_1 : decode cX1_fail 1 = .ok (.iload_n 2, 1) := by decide +kernel
theorem dX1_fail_2 : decode cX1_fail 2 = .ok (.putfield 19, 3) := by decide +kernel
theorem dX1_fail_5 : decode cX1_fail 5 = .ok (.iload_n 1, 1) := by decide +kernel
theorem dX1_fail_6 : decode cX1_fail 6 = .ok (.ireturn, 1) := by decide +kernel
set_option maxRecDepth 20000 in
theorem ggX1_faultOfHead_X1_fail : GoodIn wsX1_faultOfHead wsX1_fail := goodIn_r _ [8, 9, 31, 32, 33] (by decide +kernel) (by decide +kernel)
set_option maxRecDepth 20000 in
theorem gX1_faultOfHead_X1_fail : GoodIn wsX1_faultOfHead (wsV RX1 37 RX1 yX1_fail wsX1_fail) := goodIn_app (goodIn_of _ (by decide +kernel)) ggX1_faultOfHead_X1_fail
set_option maxRecDepth 20000 in
theorem ggX1_faultOfHead_X3_u4 : GoodIn wsX1_faultOfHead wsX3_u4 := goodIn_r _ [14, 15, 16, 17, 13, 18, 19, 20, 21, 22, 23, 24, 25, 26, 27, 28, 29, 30, 34, 35] (by decide +kernel) (by decide +kernel)
set_option maxRecDepth 20000 in
theorem gX1_faultOfHead_X3_u4 : GoodIn wsX1_faultOfHead (wsV RX1 41 RX3 yX3_u4 wsX3_u4) := goodIn_app (goodIn_of _ (by decide +kernel)) ggX1_faultOfHead_X3_u4
theorem dX1_faultOfHead_0 : decode cX1_faultOfHead 0 = .ok (.aload_n 1, 1) := by decide +kernel
theorem dX1_faultOfHead_1 : decode cX1_faultOfHead 1 = .ok (.getfield 32, 3) := by decide +kernel
theorem dX1_faultOfHead_4 : decode cX1_faultOfHead 4 = .ok (.bipush 12, 2) := by decide +kernel
theorem dX1_faultOfHead_6 : decode cX1_faultOfHead 6 = .ok (.if_icmp .ge 13, 3) := by decide +kernel
theorem dX1_faultOfHead_9 : decode cX1_faultOfHead 9 = .ok (.aload_n 0, 1) := by decide +kernel
theorem dX1_faultOfHead_10 : decode cX1_faultOfHead 10 = .ok (.iconst 1, 1) := by decide +kernel
theorem dX1_faultOfHead_11 : decode cX1_faultOfHead 11 = .ok (.aload_n 1, 1) := by decide +kernel
theorem dX1_faultOfHead_12 : decode cX1_faultOfHead 12 = .ok (.getfield 32, 3) := by decide +kernel
theorem dX1_faultOfHead_15 : decode cX1_faultOfHead 15 = .ok (.invokevirtual 37, 3) := by decide +kernel
theorem dX1_faultOfHead_18 : decode cX1_faultOfHead 18 = .ok (.ireturn, 1) := by decide +kernel
theorem dX1_faultOfHead_19 : decode cX1_faultOfHead 19 = .ok (.aload_n 1, 1) := by decide +kernel
theorem dX1_faultOfHead_20 : decode cX1_faultOfHead 20 = .ok (.iconst 0, 1) := by decide +kernel
theorem dX1_faultOfHead_21 : decode cX1_faultOfHead 21 = .ok (.invokevirtual 41, 3) := by decide +kernel
theorem dX1_faultOfHead_24 : decode cX1_faultOfHead 24 = .ok (.ldc2_w 47, 3) := by decide +kernel
theorem dX1_faultOfHead_27 : decode cX1_faultOfHead 27 = .ok (.lcmp, 1) := by decide +kernel
theorem dX1_faultOfHead_28 : decode cX1_faultOfHead 28 = .ok (.ifCond .eq 10, 3) := by decide +kernel
theorem dX1_faultOfHead_31 : decode cX1_faultOfHead 31 = .ok (.aload_n 0, 1) := by decide +kernel
theorem dX1_faultOfHead_32 : decode cX1_faultOfHead 32 = .ok (.iconst 2, 1) := by decide +kernel
theorem dX1_faultOfHead_33 : decode cX1_faultOfHead 33 = .ok (.iconst 0, 1) := by decide +kernel
theorem dX1_faultOfHead_34 : decode cX1_faultOfHead 34 = .ok (.invokevirtual 37, 3) := by decide +kernel
theorem dX1_faultOfHead_37 : decode cX1_faultOfHead 37 = .ok (.ireturn, 1) := by decide +kernel
theorem dX1_faultOfHead_38 : decode cX1_faultOfHead 38 = .ok (.aload_n 1, 1) := by decide +kernel
theorem dX1_faultOfHead_39 : decode cX1_faultOfHead 39 = .ok (.iconst 4, 1) := by decide +kernel
theorem dX1_faultOfHead_40 : decode cX1_faultOfHead 40 = .ok (.invokevirtual 41, 3) := by decide +kernel
theorem dX1_faultOfHead_43 : decode cX1_faultOfHead 43 = .ok (.aload_n 1, 1) := by decide +kernel
theorem dX1_faultOfHead_44 : decode cX1_faultOfHead 44 = .ok (.getfield 32, 3) := by decide +kernel
theorem dX1_faultOfHead_47 : decode cX1_faultOfHead 47 = .ok (.bipush 8, 2) := by decide +kernel
theorem dX1_faultOfHead_49 : decode cX1_faultOfHead 49 = .ok (.isub, 1) := by decide +kernel
theorem dX1_faultOfHead_50 : decode cX1_faultOfHead 50 = .ok (.i2l, 1) := by decide +kernel
theorem dX1_faultOfHead_51 : decode cX1_faultOfHead 51 = .ok (.lcmp, 1) := by decide +kernel
theorem dX1_faultOfHead_52 : decode cX1_faultOfHead 52 = .ok (.ifCond .eq 10, 3) := by decide +kernel
theorem dX1_faultOfHead_55 : decode cX1_faultOfHead 55 = .ok (.aload_n 0, 1) := by decide +kernel
theorem dX1_faultOfHead_56 : decode cX1_faultOfHead 56 = .ok (.iconst 3, 1) := by decide +kernel
theorem dX1_faultOfHead_57 : decode cX1_faultOfHead 57 = .ok (.iconst 4, 1) := by decide +kernel
theorem dX1_faultOfHead_58 : decode cX1_faultOfHead 58 = .ok (.invokevirtual 37, 3) := by decide +kernel
theorem dX1_faultOfHead_61 : decode cX1_faultOfHead 61 = .ok (.ireturn, 1) := by decide +kernel
theorem dX1_faultOfHead_62 : decode cX1_faultOfHead 62 = .ok (.aload_n 1, 1) := by decide +kernel
theorem dX1_faultOfHead_63 : decode cX1_faultOfHead 63 = .ok (.bipush 8, 2) := by decide +kernel
theorem dX1_faultOfHead_65 : decode cX1_faultOfHead 65 = .ok (.invokevirtual 41, 3) := by decide +kernel
theorem dX1_faultOfHead_68 : decode cX1_faultOfHead 68 = .ok (.ldc2_w 49, 3) := by decide +kernel
theorem dX1_faultOfHead_71 : decode cX1_faultOfHead 71 = .ok (.lcmp, 1) := by decide +kernel
theorem dX1_faultOfHead_72 : decode cX1_faultOfHead 72 = .ok (.ifCond .eq 11, 3) := by decide +kernel
theorem dX1_faultOfHead_75 : decode cX1_faultOfHead 75 = .ok (.aload_n 0, 1) := by decide +kernel
theorem dX1_faultOfHead_76 : decode cX1_faultOfHead 76 = .ok (.iconst 2, 1) := by decide +kernel
theorem dX1_faultOfHead_77 : decode cX1_faultOfHead 77 = .ok (.bipush 8, 2) := by decide +kernel
theorem dX1_faultOfHead_79 : decode cX1_faultOfHead 79 = .ok (.invokevirtual 37, 3) := by decide +kernel
theorem dX1_faultOfHead_82 : decode cX1_faultOfHead 82 = .ok (.ireturn, 1) := by decide +kernel
theorem dX1_faultOfHead_83 : decode cX1_faultOfHead 83 = .ok (.iconst 0, 1) := by decide +kernel
theorem dX1_faultOfHead_84 : decode cX1_faultOfHead 84 = .ok (.ireturn, 1) := by decide +kernel
set_option maxRecDepth 20000 in
theorem ggX1_faultOfPieces_X1_faultOfPiece : GoodIn wsX1_faultOfPieces wsX1_faultOfPiece := goodIn_r _ [8, 1, 9, 2, 10, 11, 12, 13, 14, 15, 16, 17, 18, 7, 19, 20, 21, 22, 23, 24, 25, 26, 27, 28, 29, 30, 31, 32, 33, 34, 35, 36, 37, 38, 39, 40, 41, 42, 43, 44, 49, 50, 51, 52, 53, 54, 55, 56] (by decide +kernel) (by decide +kernel)
set_option maxRecDepth 20000 in
theorem gX1_faultOfPieces_X1_faultOfPiece : GoodIn wsX1_faultOfPieces (wsV RX1 51 RX1 yX1_faultOfPiece wsX1_faultOfPiece) := goodIn_app (goodIn_of _ (by decide +kernel)) ggX1_faultOfPieces_X1_faultOfPiece
set_option maxRecDepth 20000 in
theorem ggX1_faultOfPieces_X1_behindPiece : GoodIn wsX1_faultOfPieces wsX1_behindPiece := goodIn_r _ [48, 21, 22, 23, 13, 24, 25, 26, 27, 28, 29, 30, 31, 32, 33, 11, 12, 14, 15, 49, 50, 51, 55, 56] (by decide +kernel) (by decide +kernel)
set_option maxRecDepth 20000 in
theorem gX1_faultOfPieces_X1_behindPiece : GoodIn wsX1_faultOfPieces (wsV RX1 55 RX1 yX1_behindPiece wsX1_behindPiece) := goodIn_app (goodIn_of _ (by decide +kernel)) ggX1_faultOfPieces_X1_behindPiece
theorem dX1_faultOfPieces_0 : decode cX1_faultOfPieces 0 = .ok (.bipush 12, 2) := by decide +kernel
theorem dX1_faultOfPieces_2 : decode cX1_faultOfPieces 2 = .ok (.istore_n 2, 1) := by decide +kernel
theorem dX1_faultOfPieces_3 : decode cX1_faultOfPieces 3 = .ok (.aload_n 0, 1) := by decide +kernel
theorem dX1_faultOfPieces_4 : decode cX1_faultOfPieces 4 = .ok (.aload_n 1, 1) := by decide +kernel
theorem dX1_faultOfPieces_5 : decode cX1_faultOfPieces 5 = .ok (.iload_n 2, 1) := by decide +kernel
theorem dX1_faultOfPieces_6 : decode cX1_faultOfPieces 6 = .ok (.invokevirtual 51, 3) := by decide +kernel
theorem dX1_faultOfPieces_9 : decode cX1_faultOfPieces 9 = .ok (.istore_n 3, 1) := by decide +kernel
theorem dX1_faultOfPieces_10 : decode cX1_faultOfPieces 10 = .ok (.iconst 0, 1) := by decide +kernel
theorem dX1_faultOfPieces_11 : decode cX1_faultOfPieces 11 = .ok (.istore 4, 2) := by decide +kernel
theorem dX1_faultOfPieces_13 : decode cX1_faultOfPieces 13 = .ok (.iload 4, 2) := by decide +kernel
theorem dX1_faultOfPieces_15 : decode cX1_faultOfPieces 15 = .ok (.bipush 60, 2) := by decide +kernel
theorem dX1_faultOfPieces_17 : decode cX1_faultOfPieces 17 = .ok (.if_icmp .gt 70, 3) := by decide +kernel
theorem dX1_faultOfPieces_20 : decode cX1_faultOfPieces 20 = .ok (.iload_n 3, 1) := by decide +kernel
theorem dX1_faultOfPieces_21 : decode cX1_faultOfPieces 21 = .ok (.ifCond .ne 66, 3) := by decide +kernel
theorem dX1_faultOfPieces_24 : decode cX1_faultOfPieces 24 = .ok (.aload_n 0, 1) := by decide +kernel
theorem dX1_faultOfPieces_25 : decode cX1_faultOfPieces 25 = .ok (.aload_n 1, 1) := by decide +kernel
theorem dX1_faultOfPieces_26 : decode cX1_faultOfPieces 26 = .ok (.iload_n 2, 1) := by decide +kernel
theorem dX1_faultOfPieces_27 : decode cX1_faultOfPieces 27 = .ok (.invokevirtual 55, 3) := by decide +kernel
theorem dX1_faultOfPieces_30 : decode cX1_faultOfPieces 30 = .ok (.istore_n 2, 1) := by decide +kernel
theorem dX1_faultOfPieces_31 : decode cX1_faultOfPieces 31 = .ok (.iload_n 2, 1) := by decide +kernel
theorem dX1_faultOfPieces_32 : decode cX1_faultOfPieces 32 = .ok (.aload_n 1, 1) := by decide +kernel
theorem dX1_faultOfPieces_33 : decode cX1_faultOfPieces 33 = .ok (.getfield 32, 3) := by decide +kernel
theorem dX1_faultOfPieces_36 : decode cX1_faultOfPieces 36 = .ok (.if_icmp .lt 5, 3) := by decide +kernel
theorem dX1_faultOfPieces_39 : decode cX1_faultOfPieces 39 = .ok (.iconst 0, 1) := by decide +kernel
theorem dX1_faultOfPieces_40 : decode cX1_faultOfPieces 40 = .ok (.ireturn, 1) := by decide +kernel
theorem dX1_faultOfPieces_41 : decode cX1_faultOfPieces 41 = .ok (.aload_n 0, 1) := by decide +kernel
theorem dX1_faultOfPieces_42 : decode cX1_faultOfPieces 42 = .ok (.aload_n 1, 1) := by decide +kernel
theorem dX1_faultOfPieces_43 : decode cX1_faultOfPieces 43 = .ok (.iload_n 2, 1) := by decide +kernel
theorem dX1_faultOfPieces_44 : decode cX1_faultOfPieces 44 = .ok (.invokevirtual 51, 3) := by decide +kernel
theorem dX1_faultOfPieces_47 : decode cX1_faultOfPieces 47 = .ok (.istore_n 3, 1) := by decide +kernel
theorem dX1_faultOfPieces_48 : decode cX1_faultOfPieces 48 = .ok (.iload_n 3, 1) := by decide +kernel
theorem dX1_faultOfPieces_49 : decode cX1_faultOfPieces 49 = .ok (.ifCond .ne 32, 3) := by decide +kernel
theorem dX1_faultOfPieces_52 : decode cX1_faultOfPieces 52 = .ok (.aload_n 0, 1) := by decide +kernel
theorem dX1_faultOfPieces_53 : decode cX1_faultOfPieces 53 = .ok (.getfield 15, 3) := by decide +kernel
theorem dX1_faultOfPieces_56 : decode cX1_faultOfPieces 56 = .ok (.bipush 60, 2) := by decide +kernel
theorem dX1_faultOfPieces_58 : decode cX1_faultOfPieces 58 = .ok (.if_icmp .ge 23, 3) := by decide +kernel
theorem dX1_faultOfPieces_61 : decode cX1_faultOfPieces 61 = .ok (.aload_n 0, 1) := by decide +kernel
theorem dX1_faultOfPieces_62 : decode cX1_faultOfPieces 62 = .ok (.getfield 9, 3) := by decide +kernel
theorem dX1_faultOfPieces_65 : decode cX1_faultOfPieces 65 = .ok (.aload_n 0, 1) := by decide +kernel
theorem dX1_faultOfPieces_66 : decode cX1_faultOfPieces 66 = .ok (.getfield 15, 3) := by decide +kernel
theorem dX1_faultOfPieces_69 : decode cX1_faultOfPieces 69 = .ok (.iload_n 2, 1) := by decide +kernel
theorem dX1_faultOfPieces_70 : decode cX1_faultOfPieces 70 = .ok (.iastore, 1) := by decide +kernel
theorem dX1_faultOfPieces_71 : decode cX1_faultOfPieces 71 = .ok (.aload_n 0, 1) := by decide +kernel
theorem dX1_faultOfPieces_72 : decode cX1_faultOfPieces 72 = .ok (.dup, 1) := by decide +kernel
theorem dX1_faultOfPieces_73 : decode cX1_faultOfPieces 73 = .ok (.getfield 15, 3) := by decide +kernel
theorem dX1_faultOfPieces_76 : decode cX1_faultOfPieces 76 = .ok (.iconst 1, 1) := by decide +kernel
theorem dX1_faultOfPieces_77 : decode cX1_faultOfPieces 77 = .ok (.iadd, 1) := by decide +kernel
theorem dX1_faultOfPieces_78 : decode cX1_faultOfPieces 78 = .ok (.putfield 15, 3) := by decide +kernel
theorem dX1_faultOfPieces_81 : decode cX1_faultOfPieces 81 = .ok (.iinc 4 1, 3) := by decide +kernel
theorem dX1_faultOfPieces_84 : decode cX1_faultOfPieces 84 = .ok (.goto (-71), 3) := by decide +kernel
theorem dX1_faultOfPieces_87 : decode cX1_faultOfPieces 87 = .ok (.iload_n 3, 1) := by decide +kernel
theorem dX1_faultOfPieces_88 : decode cX1_faultOfPieces 88 = .ok (.ireturn, 1) := by decide +kernel
set_option maxRecDepth 20000 in
theorem ggX1_faultOfPiece_X3_holds : GoodIn wsX1_faultOfPiece wsX3_holds := goodIn_r _ [8, 9, 40, 41, 42] (by decide +kernel) (by decide +kernel)
set_option maxRecDepth 20000 in
theorem gX1_faultOfPiece_X3_holds : GoodIn wsX1_faultOfPiece (wsV RX1 58 RX3 yX3_holds wsX3_holds) := goodIn_app (goodIn_of _ (by decide +kernel)) ggX1_faultOfPiece_X3_holds
set_option maxRecDepth 20000 in
theorem ggX1_faultOfPiece_X1_fail : GoodIn wsX1_faultOfPiece wsX1_fail := goodIn_r _ [14, 15, 43, 44, 45] (by decide +kernel) (by decide +kernel)
set_option maxRecDepth 20000 in
theorem gX1_faultOfPiece_X1_fail : GoodIn wsX1_faultOfPiece (wsV RX1 37 RX1 yX1_fail wsX1_fail) := goodIn_app (goodIn_of _ (by decide +kernel)) ggX1_faultOfPiece_X1_fail
set_option maxRecDepth 20000 in
theorem ggX1_faultOfPiece_X3_u4 : GoodIn wsX1_faultOfPiece wsX3_u4 := goodIn_r _ [19, 20, 21, 22, 7, 23, 24, 25, 26, 27, 28, 5, 6, 8, 9, 40, 41, 42, 46, 47] (by decide +kernel) (by decide +kernel)
set_option maxRecDepth 20000 in
theorem gX1_faultOfPiece_X3_u4 : GoodIn wsX1_faultOfPiece (wsV RX1 41 RX3 yX3_u4 wsX3_u4) := goodIn_app (goodIn_of _ (by decide +kernel)) ggX1_faultOfPiece_X3_u4
set_option maxRecDepth 20000 in
theorem ggX1_faultOfPiece_X2_isKind : GoodIn wsX1_faultOfPiece wsX2_isKind := goodIn_r _ [32, 33, 34, 31, 35] (by decide +kernel) (by decide +kernel)
set_option maxRecDepth 20000 in
theorem gX1_faultOfPiece_X2_isKind : GoodIn wsX1_faultOfPiece (va_wsS RX1 63 yX2_isKind wsX2_isKind) := goodIn_app (goodIn_of _ (by decide +kernel)) ggX1_faultOfPiece_X2_isKind
set_option maxRecDepth 20000 in
theorem ggX1_faultOfPiece_X3_at : GoodIn wsX1_faultOfPiece wsX3_at := goodIn_r _ [39, 20, 21, 22, 7, 23, 24, 25, 26, 27, 28, 5, 6, 8, 9, 40, 41, 42, 46, 47] (by decide +kernel) (by decide +kernel)
set_option maxRecDepth 20000 in
theorem gX1_faultOfPiece_X3_at : GoodIn wsX1_faultOfPiece (wsV RX1 67 RX3 yX3_at wsX3_at) := goodIn_app (goodIn_of _ (by decide +kernel)) ggX1_faultOfPiece_X3_at
theorem dX1_faultOfPiece_0 : decode cX1_faultOfPiece 0 = .ok (.aload_n 1, 1) := by decide +kernel
theorem dX1_faultOfPiece_1 : decode cX1_faultOfPiece 1 = .ok (.iload_n 2, 1) := by decide +kernel
theorem dX1_faultOfPiece_2 : decode cX1_faultOfPiece 2 = .ok (.bipush 8, 2) := by decide +kernel
theorem dX1_faultOfPiece_4 : decode cX1_faultOfPiece 4 = .ok (.invokevirtual 58, 3) := by decide +kernel
theorem dX1_faultOfPiece_7 : decode cX1_faultOfPiece 7 = .ok (.ifCond .ne 13, 3) := by decide +kernel
theorem dX1_faultOfPiece_10 : decode cX1_faultOfPiece 10 = .ok (.aload_n 0, 1) := by decide +kernel
theorem dX1_faultOfPiece_11 : decode cX1_faultOfPiece 11 = .ok (.iconst 1, 1) := by decide +kernel
theorem dX1_faultOfPiece_12 : decode cX1_faultOfPiece 12 = .ok (.aload_n 1, 1) := by decide +kernel
theorem dX1_faultOfPiece_13 : decode cX1_faultOfPiece 13 = .ok (.getfield 32, 3) := by decide +kernel
theorem dX1_faultOfPiece_16 : decode cX1_faultOfPiece 16 = .ok (.invokevirtual 37, 3) := by decide +kernel
theorem dX1_faultOfPiece_19 : decode cX1_faultOfPiece 19 = .ok (.ireturn, 1) := by decide +kernel
theorem dX1_faultOfPiece_20 : decode cX1_faultOfPiece 20 = .ok (.aload_n 1, 1) := by decide +kernel
theorem dX1_faultOfPiece_21 : decode cX1_faultOfPiece 21 = .ok (.iload_n 2, 1) := by decide +kernel
theorem dX1_faultOfPiece_22 : decode cX1_faultOfPiece 22 = .ok (.invokevirtual 41, 3) := by decide +kernel
theorem dX1_faultOfPiece_25 : decode cX1_faultOfPiece 25 = .ok (.l2i, 1) := by decide +kernel
theorem dX1_faultOfPiece_26 : decode cX1_faultOfPiece 26 = .ok (.istore_n 3, 1) := by decide +kernel
theorem dX1_faultOfPiece_27 : decode cX1_faultOfPiece 27 = .ok (.iload_n 3, 1) := by decide +kernel
theorem dX1_faultOfPiece_28 : decode cX1_faultOfPiece 28 = .ok (.ldc 62, 2) := by decide +kernel
theorem dX1_faultOfPiece_30 : decode cX1_faultOfPiece 30 = .ok (.if_icmp .ne 7, 3) := by decide +kernel
theorem dX1_faultOfPiece_33 : decode cX1_faultOfPiece 33 = .ok (.iconst 1, 1) := by decide +kernel
theorem dX1_faultOfPiece_34 : decode cX1_faultOfPiece 34 = .ok (.goto 4, 3) := by decide +kernel
theorem dX1_faultOfPiece_37 : decode cX1_faultOfPiece 37 = .ok (.iconst 0, 1) := by decide +kernel
theorem dX1_faultOfPiece_38 : decode cX1_faultOfPiece 38 = .ok (.istore 4, 2) := by decide +kernel
theorem dX1_faultOfPiece_40 : decode cX1_faultOfPiece 40 = .ok (.iload_n 3, 1) := by decide +kernel
theorem dX1_faultOfPiece_41 : decode cX1_faultOfPiece 41 = .ok (.invokestatic 63, 3) := by decide +kernel
theorem dX1_faultOfPiece_44 : decode cX1_faultOfPiece 44 = .ok (.ifCond .eq 19, 3) := by decide +kernel
theorem dX1_faultOfPiece_47 : decode cX1_faultOfPiece 47 = .ok (.iload 4, 2) := by decide +kernel
theorem dX1_faultOfPiece_49 : decode cX1_faultOfPiece 49 = .ok (.iload_n 2, 1) := by decide +kernel
theorem dX1_faultOfPiece_50 : decode cX1_faultOfPiece 50 = .ok (.bipush 12, 2) := by decide +kernel
theorem dX1_faultOfPiece_52 : decode cX1_faultOfPiece 52 = .ok (.if_icmp .ne 7, 3) := by decide +kernel
theorem dX1_faultOfPiece_55 : decode cX1_faultOfPiece 55 = .ok (.iconst 1, 1) := by decide +kernel
theorem dX1_faultOfPiece_56 : decode cX1_faultOfPiece 56 = .ok (.goto 4, 3) := by decide +kernel
theorem dX1_faultOfPiece_59 : decode cX1_faultOfPiece 59 = .ok (.iconst 0, 1) := by decide +kernel
theorem dX1_faultOfPiece_60 : decode cX1_faultOfPiece 60 = .ok (.if_icmp .eq 10, 3) := by decide +kernel
theorem dX1_faultOfPiece_63 : decode cX1_faultOfPiece 63 = .ok (.aload_n 0, 1) := by decide +kernel
theorem dX1_faultOfPiece_64 : decode cX1_faultOfPiece 64 = .ok (.iconst 2, 1) := by decide +kernel
theorem dX1_faultOfPiece_65 : decode cX1_faultOfPiece 65 = .ok (.iload_n 2, 1) := by decide +kernel
theorem dX1_faultOfPiece_66 : decode cX1_faultOfPiece 66 = .ok (.invokevirtual 37, 3) := by decide +kernel
theorem dX1_faultOfPiece_69 : decode cX1_faultOfPiece 69 = .ok (.ireturn, 1) := by decide +kernel
theorem dX1_faultOfPiece_70 : decode cX1_faultOfPiece 70 = .ok (.aload_n 0, 1) := by decide +kernel
theorem dX1_faultOfPiece_71 : decode cX1_faultOfPiece 71 = .ok (.getfield 15, 3) := by decide +kernel
theorem dX1_faultOfPiece_74 : decode cX1_faultOfPiece 74 = .ok (.bipush 60, 2) := by decide +kernel
theorem dX1_faultOfPiece_76 : decode cX1_faultOfPiece 76 = .ok (.if_icmp .lt 11, 3) := by decide +kernel
theorem dX1_faultOfPiece_79 : decode cX1_faultOfPiece 79 = .ok (.aload_n 0, 1) := by decide +kernel
theorem dX1_faultOfPiece_80 : decode cX1_faultOfPiece 80 = .ok (.bipush 10, 2) := by decide +kernel
theorem dX1_faultOfPiece_82 : decode cX1_faultOfPiece 82 = .ok (.iload_n 2, 1) := by decide +kernel
theorem dX1_faultOfPiece_83 : decode cX1_faultOfPiece 83 = .ok (.invokevirtual 37, 3) := by decide +kernel
theorem dX1_faultOfPiece_86 : decode cX1_faultOfPiece 86 = .ok (.ireturn, 1) := by decide +kernel
theorem dX1_faultOfPiece_87 : decode cX1_faultOfPiece 87 = .ok (.aload_n 1, 1) := by decide +kernel
theorem dX1_faultOfPiece_88 : decode cX1_faultOfPiece 88 = .ok (.iload_n 2, 1) := by decide +kernel
theorem dX1_faultOfPiece_89 : decode cX1_faultOfPiece 89 = .ok (.iconst 4, 1) := by decide +kernel
theorem dX1_faultOfPiece_90 : decode cX1_faultOfPiece 90 = .ok (.iadd, 1) := by decide +kernel
theorem dX1_faultOfPiece_91 : decode cX1_faultOfPiece 91 = .ok (.invokevirtual 41, 3) := by decide +kernel
theorem dX1_faultOfPiece_94 : decode cX1_faultOfPiece 94 = .ok (.lstore 5, 2) := by decide +kernel
theorem dX1_faultOfPiece_96 : decode cX1_faultOfPiece 96 = .ok (.lload 5, 2) := by decide +kernel
theorem dX1_faultOfPiece_98 : decode cX1_faultOfPiece 98 = .ok (.lconst 1, 1) := by decide +kernel
theorem dX1_faultOfPiece_99 : decode cX1_faultOfPiece 99 = .ok (.land, 1) := by decide +kernel
theorem dX1_faultOfPiece_100 : decode cX1_faultOfPiece 100 = .ok (.lstore 7, 2) := by decide +kernel
theorem dX1_faultOfPiece_102 : decode cX1_faultOfPiece 102 = .ok (.lload 5, 2) := by decide +kernel
theorem dX1_faultOfPiece_104 : decode cX1_faultOfPiece 104 = .ok (.lload 7, 2) := by decide +kernel
theorem dX1_faultOfPiece_106 : decode cX1_faultOfPiece 106 = .ok (.ladd, 1) := by decide +kernel
theorem dX1_faultOfPiece_107 : decode cX1_faultOfPiece 107 = .ok (.aload_n 1, 1) := by decide +kernel
theorem dX1_faultOfPiece_108 : decode cX1_faultOfPiece 108 = .ok (.getfield 32, 3) := by decide +kernel
theorem dX1_faultOfPiece_111 : decode cX1_faultOfPiece 111 = .ok (.iload_n 2, 1) := by decide +kernel
theorem dX1_faultOfPiece_112 : decode cX1_faultOfPiece 112 = .ok (.isub, 1) := by decide +kernel
theorem dX1_faultOfPiece_113 : decode cX1_faultOfPiece 113 = .ok (.bipush 8, 2) := by decide +kernel
theorem dX1_faultOfPiece_115 : decode cX1_faultOfPiece 115 = .ok (.isub, 1) := by decide +kernel
theorem dX1_faultOfPiece_116 : decode cX1_faultOfPiece 116 = .ok (.i2l, 1) := by decide +kernel
theorem dX1_faultOfPiece_117 : decode cX1_faultOfPiece 117 = .ok (.lcmp, 1) := by decide +kernel
theorem dX1_faultOfPiece_118 : decode cX1_faultOfPiece 118 = .ok (.ifCond .le 12, 3) := by decide +kernel
theorem dX1_faultOfPiece_121 : decode cX1_faultOfPiece 121 = .ok (.aload_n 0, 1) := by decide +kernel
theorem dX1_faultOfPiece_122 : decode cX1_faultOfPiece 122 = .ok (.iconst 4, 1) := by decide +kernel
theorem dX1_faultOfPiece_123 : decode cX1_faultOfPiece 123 = .ok (.iload_n 2, 1) := by decide +kernel
theorem dX1_faultOfPiece_124 : decode cX1_faultOfPiece 124 = .ok (.iconst 4, 1) := by decide +kernel
theorem dX1_faultOfPiece_125 : decode cX1_faultOfPiece 125 = .ok (.iadd, 1) := by decide +kernel
theorem dX1_faultOfPiece_126 : decode cX1_faultOfPiece 126 = .ok (.invokevirtual 37, 3) := by decide +kernel
theorem dX1_faultOfPiece_129 : decode cX1_faultOfPiece 129 = .ok (.ireturn, 1) := by decide +kernel
theorem dX1_faultOfPiece_130 : decode cX1_faultOfPiece 130 = .ok (.iload_n 2, 1) := by decide +kernel
theorem dX1_faultOfPiece_131 : decode cX1_faultOfPiece 131 = .ok (.bipush 8, 2) := by decide +kernel
theorem dX1_faultOfPiece_133 : decode cX1_faultOfPiece 133 = .ok (.iadd, 1) := by decide +kernel
theorem dX1_faultOfPiece_134 : decode cX1_faultOfPiece 134 = .ok (.lload 5, 2) := by decide +kernel
theorem dX1_faultOfPiece_136 : decode cX1_faultOfPiece 136 = .ok (.l2i, 1) := by decide +kernel
theorem dX1_faultOfPiece_137 : decode cX1_faultOfPiece 137 = .ok (.iadd, 1) := by decide +kernel
theorem dX1_faultOfPiece_138 : decode cX1_faultOfPiece 138 = .ok (.istore 9, 2) := by decide +kernel
theorem dX1_faultOfPiece_140 : decode cX1_faultOfPiece 140 = .ok (.lload 7, 2) := by decide +kernel
theorem dX1_faultOfPiece_142 : decode cX1_faultOfPiece 142 = .ok (.lconst 1, 1) := by decide +kernel
theorem dX1_faultOfPiece_143 : decode cX1_faultOfPiece 143 = .ok (.lcmp, 1) := by decide +kernel
theorem dX1_faultOfPiece_144 : decode cX1_faultOfPiece 144 = .ok (.ifCond .ne 20, 3) := by decide +kernel
theorem dX1_faultOfPiece_147 : decode cX1_faultOfPiece 147 = .ok (.aload_n 1, 1) := by decide +kernel
theorem dX1_faultOfPiece_148 : decode cX1_faultOfPiece 148 = .ok (.iload 9, 2) := by decide +kernel
theorem dX1_faultOfPiece_150 : decode cX1_faultOfPiece 150 = .ok (.invokevirtual 67, 3) := by decide +kernel
theorem dX1_faultOfPiece_153 : decode cX1_faultOfPiece 153 = .ok (.ifCond .eq 11, 3) := by decide +kernel
theorem dX1_faultOfPiece_156 : decode cX1_faultOfPiece 156 = .ok (.aload_n 0, 1) := by decide +kernel
theorem dX1_faultOfPiece_157 : decode cX1_faultOfPiece 157 = .ok (.iconst 5, 1) := by decide +kernel
theorem dX1_faultOfPiece_158 : decode cX1_faultOfPiece 158 = .ok (.iload 9, 2) := by decide +kernel
theorem dX1_faultOfPiece_160 : decode cX1_faultOfPiece 160 = .ok (.invokevirtual 37, 3) := by decide +kernel
theorem dX1_faultOfPiece_163 : decode cX1_faultOfPiece 163 = .ok (.ireturn, 1) := by decide +kernel
theorem dX1_faultOfPiece_164 : decode cX1_faultOfPiece 164 = .ok (.iconst 0, 1) := by decide +kernel
theorem dX1_faultOfPiece_165 : decode cX1_faultOfPiece 165 = .ok (.ireturn, 1) := by decide +kernel
set_option maxRecDepth 20000 in
theorem ggX1_behindPiece_X3_u4 : GoodIn wsX1_behindPiece wsX3_u4 := goodIn_r _ [5, 6, 7, 8, 4, 9, 10, 11, 12, 13, 14, 15, 16, 17, 18, 19, 20, 21, 22, 23] (by decide +kernel) (by decide +kernel)
set_option maxRecDepth 20000 in
theorem gX1_behindPiece_X3_u4 : GoodIn wsX1_behindPiece (wsV RX1 41 RX3 yX3_u4 wsX3_u4) := goodIn_app (goodIn_of _ (by decide +kernel)) ggX1_behindPiece_X3_u4
theorem dX1_behindPiece_0 : decode cX1_behindPiece 0 = .ok (.aload_n 1, 1) := by decide +kernel
theorem dX1_behindPiece_1 : decode cX1_behindPiece 1 = .ok (.iload_n 2, 1) := by decide +kernel
theorem dX1_behindPiece_2 : decode cX1_behindPiece 2 = .ok (.iconst 4, 1) := by decide +kernel
theorem dX1_behindPiece_3 : decode cX1_behindPiece 3 = .ok (.iadd, 1) := by decide +kernel
theorem dX1_behindPiece_4 : decode cX1_behindPiece 4 = .ok (.invokevirtual 41, 3) := by decide +kernel
theorem dX1_behindPiece_7 : decode cX1_behindPiece 7 = .ok (.l2i, 1) := by decide +kernel
theorem dX1_behindPiece_8 : decode cX1_behindPiece 8 = .ok (.istore_n 3, 1) := by decide +kernel
theorem dX1_behindPiece_9 : decode cX1_behindPiece 9 = .ok (.iload_n 2, 1) := by decide +kernel
theorem dX1_behindPiece_10 : decode cX1_behindPiece 10 = .ok (.bipush 8, 2) := by decide +kernel
theorem dX1_behindPiece_12 : decode cX1_behindPiece 12 = .ok (.iadd, 1) := by decide +kernel
theorem dX1_behindPiece_13 : decode cX1_behindPiece 13 = .ok (.iload_n 3, 1) := by decide +kernel
theorem dX1_behindPiece_14 : decode cX1_behindPiece 14 = .ok (.iadd, 1) := by decide +kernel
theorem dX1_behindPiece_15 : decode cX1_behindPiece 15 = .ok (.iload_n 3, 1) := by decide +kernel
theorem dX1_behindPiece_16 : decode cX1_behindPiece 16 = .ok (.iconst 1, 1) := by decide +kernel
theorem dX1_behindPiece_17 : decode cX1_behindPiece 17 = .ok (.iand, 1) := by decide +kernel
theorem dX1_behindPiece_18 : decode cX1_behindPiece 18 = .ok (.iadd, 1) := by decide +kernel
theorem dX1_behindPiece_19 : decode cX1_behindPiece 19 = .ok (.ireturn, 1) := by decide +kernel
set_option maxRecDepth 20000 in
theorem ggX1_faultOfIndex_X3_u4 : GoodIn wsX1_faultOfIndex wsX3_u4 := goodIn_r _ [7, 8, 9, 10, 6, 11, 12, 13, 14, 15, 16, 17, 18, 19, 20, 45, 46, 47, 48, 49] (by decide +kernel) (by decide +kernel)
set_option maxRecDepth 20000 in
theorem gX1_faultOfIndex_X3_u4 : GoodIn wsX1_faultOfIndex (wsV RX1 41 RX3 yX3_u4 wsX3_u4) := goodIn_app (goodIn_of _ (by decide +kernel)) ggX1_faultOfIndex_X3_u4
set_option maxRecDepth 20000 in
theorem ggX1_faultOfIndex_X1_fail : GoodIn wsX1_faultOfIndex wsX1_fail := goodIn_r _ [25, 26, 50, 51, 52] (by decide +kernel) (by decide +kernel)
set_option maxRecDepth 20000 in
theorem gX1_faultOfIndex_X1_fail : GoodIn wsX1_faultOfIndex (wsV RX1 37 RX1 yX1_fail wsX1_fail) := goodIn_app (goodIn_of _ (by decide +kernel)) ggX1_faultOfIndex_X1_fail
set_option maxRecDepth 20000 in
theorem ggX1_faultOfIndex_X1_faultOfEntry : GoodIn wsX1_faultOfIndex wsX1_faultOfEntry := goodIn_r _ [30, 21, 22, 23, 24, 25, 26, 3, 4, 5, 6, 7, 8, 9, 10, 11, 12, 13, 14, 15, 16, 17, 18, 19, 20, 31, 32, 33, 34, 35, 36, 37, 38, 39, 40, 41, 42, 43, 44, 50, 51, 52, 45, 46, 47, 48, 49] (by decide +kernel) (by decide +kernel)
set_option maxRecDepth 20000 in
theorem gX1_faultOfIndex_X1_faultOfEntry : GoodIn wsX1_faultOfIndex (wsV RX1 75 RX1 yX1_faultOfEntry wsX1_faultOfEntry) := goodIn_app (goodIn_of _ (by decide +kernel)) ggX1_faultOfIndex_X1_faultOfEntry
theorem dX1_faultOfIndex_0 : decode cX1_faultOfIndex 0 = .ok (.aload_n 1, 1) := by decide +kernel
theorem dX1_faultOfIndex_1 : decode cX1_faultOfIndex 1 = .ok (.bipush 16, 2) := by decide +kernel
theorem dX1_faultOfIndex_3 : decode cX1_faultOfIndex 3 = .ok (.invokevirtual 41, 3) := by decide +kernel
theorem dX1_faultOfIndex_6 : decode cX1_faultOfIndex 6 = .ok (.lstore_n 2, 1) := by decide +kernel
theorem dX1_faultOfIndex_7 : decode cX1_faultOfIndex 7 = .ok (.lload_n 2, 1) := by decide +kernel
theorem dX1_faultOfIndex_8 : decode cX1_faultOfIndex 8 = .ok (.ldc2_w 71, 3) := by decide +kernel
theorem dX1_faultOfIndex_11 : decode cX1_faultOfIndex 11 = .ok (.lcmp, 1) := by decide +kernel
theorem dX1_faultOfIndex_12 : decode cX1_faultOfIndex 12 = .ok (.ifCond .lt 22, 3) := by decide +kernel
theorem dX1_faultOfIndex_15 : decode cX1_faultOfIndex 15 = .ok (.lload_n 2, 1) := by decide +kernel
theorem dX1_faultOfIndex_16 : decode cX1_faultOfIndex 16 = .ok (.ldc2_w 71, 3) := by decide +kernel
theorem dX1_faultOfIndex_19 : decode cX1_faultOfIndex 19 = .ok (.ldc2_w 73, 3) := by decide +kernel
theorem dX1_faultOfIndex_22 : decode cX1_faultOfIndex 22 = .ok (.aload_n 1, 1) := by decide +kernel
theorem dX1_faultOfIndex_23 : decode cX1_faultOfIndex 23 = .ok (.bipush 20, 2) := by decide +kernel
theorem dX1_faultOfIndex_25 : decode cX1_faultOfIndex 25 = .ok (.invokevirtual 41, 3) := by decide +kernel
theorem dX1_faultOfIndex_28 : decode cX1_faultOfIndex 28 = .ok (.lmul, 1) := by decide +kernel
theorem dX1_faultOfIndex_29 : decode cX1_faultOfIndex 29 = .ok (.ladd, 1) := by decide +kernel
theorem dX1_faultOfIndex_30 : decode cX1_faultOfIndex 30 = .ok (.lcmp, 1) := by decide +kernel
theorem dX1_faultOfIndex_31 : decode cX1_faultOfIndex 31 = .ok (.ifCond .eq 12, 3) := by decide +kernel
theorem dX1_faultOfIndex_34 : decode cX1_faultOfIndex 34 = .ok (.aload_n 0, 1) := by decide +kernel
theorem dX1_faultOfIndex_35 : decode cX1_faultOfIndex 35 = .ok (.bipush 6, 2) := by decide +kernel
theorem dX1_faultOfIndex_37 : decode cX1_faultOfIndex 37 = .ok (.bipush 16, 2) := by decide +kernel
theorem dX1_faultOfIndex_39 : decode cX1_faultOfIndex 39 = .ok (.invokevirtual 37, 3) := by decide +kernel
theorem dX1_faultOfIndex_42 : decode cX1_faultOfIndex 42 = .ok (.ireturn, 1) := by decide +kernel
theorem dX1_faultOfIndex_43 : decode cX1_faultOfIndex 43 = .ok (.aload_n 1, 1) := by decide +kernel
theorem dX1_faultOfIndex_44 : decode cX1_faultOfIndex 44 = .ok (.bipush 20, 2) := by decide +kernel
theorem dX1_faultOfIndex_46 : decode cX1_faultOfIndex 46 = .ok (.invokevirtual 41, 3) := by decide +kernel
theorem dX1_faultOfIndex_49 : decode cX1_faultOfIndex 49 = .ok (.lstore 4, 2) := by decide +kernel
theorem dX1_faultOfIndex_51 : decode cX1_faultOfIndex 51 = .ok (.iconst 0, 1) := by decide +kernel
theorem dX1_faultOfIndex_52 : decode cX1_faultOfIndex 52 = .ok (.istore 6, 2) := by decide +kernel
theorem dX1_faultOfIndex_54 : decode cX1_faultOfIndex 54 = .ok (.iconst 0, 1) := by decide +kernel
theorem dX1_faultOfIndex_55 : decode cX1_faultOfIndex 55 = .ok (.istore 7, 2) := by decide +kernel
theorem dX1_faultOfIndex_57 : decode cX1_faultOfIndex 57 = .ok (.iload 7, 2) := by decide +kernel
theorem dX1_faultOfIndex_59 : decode cX1_faultOfIndex 59 = .ok (.i2l, 1) := by decide +kernel
theorem dX1_faultOfIndex_60 : decode cX1_faultOfIndex 60 = .ok (.lload 4, 2) := by decide +kernel
theorem dX1_faultOfIndex_62 : decode cX1_faultOfIndex 62 = .ok (.lcmp, 1) := by decide +kernel
theorem dX1_faultOfIndex_63 : decode cX1_faultOfIndex 63 = .ok (.ifCond .ge 30, 3) := by decide +kernel
theorem dX1_faultOfIndex_66 : decode cX1_faultOfIndex 66 = .ok (.iload 7, 2) := by decide +kernel
theorem dX1_faultOfIndex_68 : decode cX1_faultOfIndex 68 = .ok (.bipush 40, 2) := by decide +kernel
theorem dX1_faultOfIndex_70 : decode cX1_faultOfIndex 70 = .ok (.if_icmp .gt 23, 3) := by decide +kernel
theorem dX1_faultOfIndex_73 : decode cX1_faultOfIndex 73 = .ok (.iload 6, 2) := by decide +kernel
theorem dX1_faultOfIndex_75 : decode cX1_faultOfIndex 75 = .ok (.ifCond .ne 18, 3) := by decide +kernel
theorem dX1_faultOfIndex_78 : decode cX1_faultOfIndex 78 = .ok (.aload_n 0, 1) := by decide +kernel
theorem dX1_faultOfIndex_79 : decode cX1_faultOfIndex 79 = .ok (.aload_n 1, 1) := by decide +kernel
theorem dX1_faultOfIndex_80 : decode cX1_faultOfIndex 80 = .ok (.iload 7, 2) := by decide +kernel
theorem dX1_faultOfIndex_82 : decode cX1_faultOfIndex 82 = .ok (.invokevirtual 75, 3) := by decide +kernel
theorem dX1_faultOfIndex_85 : decode cX1_faultOfIndex 85 = .ok (.istore 6, 2) := by decide +kernel
theorem dX1_faultOfIndex_87 : decode cX1_faultOfIndex 87 = .ok (.iinc 7 1, 3) := by decide +kernel
theorem dX1_faultOfIndex_90 : decode cX1_faultOfIndex 90 = .ok (.goto (-33), 3) := by decide +kernel
theorem dX1_faultOfIndex_93 : decode cX1_faultOfIndex 93 = .ok (.iload 6, 2) := by decide +kernel
theorem dX1_faultOfIndex_95 : decode cX1_faultOfIndex 95 = .ok (.ireturn, 1) := by decide +kernel
set_option maxRecDepth 20000 in
theorem ggX1_faultOfEntry_X1_fail : GoodIn wsX1_faultOfEntry wsX1_fail := goodIn_r _ [5, 6, 39, 40, 41] (by decide +kernel) (by decide +kernel)
set_option maxRecDepth 20000 in
theorem gX1_faultOfEntry_X1_fail : GoodIn wsX1_faultOfEntry (wsV RX1 37 RX1 yX1_fail wsX1_fail) := goodIn_app (goodIn_of _ (by decide +kernel)) ggX1_faultOfEntry_X1_fail
set_option maxRecDepth 20000 in
theorem ggX1_faultOfEntry_X3_u4 : GoodIn wsX1_faultOfEntry wsX3_u4 := goodIn_r _ [11, 12, 13, 14, 10, 15, 16, 17, 18, 19, 20, 21, 22, 23, 24, 42, 43, 44, 45, 46] (by decide +kernel) (by decide +kernel)
set_option maxRecDepth 20000 in
theorem gX1_faultOfEntry_X3_u4 : GoodIn wsX1_faultOfEntry (wsV RX1 41 RX3 yX3_u4 wsX3_u4) := goodIn_app (goodIn_of _ (by decide +kernel)) ggX1_faultOfEntry_X3_u4
set_option maxRecDepth 20000 in
theorem ggX1_faultOfEntry_X2_isUse : GoodIn wsX1_faultOfEntry wsX2_isUse := goodIn_r _ [28, 29, 30, 31, 32] (by decide +kernel) (by decide +kernel)
set_option maxRecDepth 20000 in
theorem gX1_faultOfEntry_X2_isUse : GoodIn wsX1_faultOfEntry (va_wsS RX1 78 yX2_isUse wsX2_isUse) := goodIn_app (goodIn_of _ (by decide +kernel)) ggX1_faultOfEntry_X2_isUse
set_option maxRecDepth 20000 in
theorem ggX1_faultOfEntry_X1_pieceAt : GoodIn wsX1_faultOfEntry wsX1_pieceAt := goodIn_r _ [36, 37, 38, 39, 40, 41] (by decide +kernel) (by decide +kernel)
set_option maxRecDepth 20000 in
theorem gX1_faultOfEntry_X1_pieceAt : GoodIn wsX1_faultOfEntry (wsV RX1 81 RX1 yX1_pieceAt wsX1_pieceAt) := goodIn_app (goodIn_of _ (by decide +kernel)) ggX1_faultOfEntry_X1_pieceAt
theorem dX1_faultOfEntry_0 : decode cX1_faultOfEntry 0 = .ok (.bipush 24, 2) := by decide +kernel
theorem dX1_faultOfEntry_2 : decode cX1_faultOfEntry 2 = .ok (.bipush 12, 2) := by decide +kernel
theorem dX1_faultOfEntry_4 : decode cX1_faultOfEntry 4 = .ok (.iload_n 2, 1) := by decide +kernel
theorem dX1_faultOfEntry_5 : decode cX1_faultOfEntry 5 = .ok (.imul, 1) := by decide +kernel
theorem dX1_faultOfEntry_6 : decode cX1_faultOfEntry 6 = .ok (.iadd, 1) := by decide +kernel
theorem dX1_faultOfEntry_7 : decode cX1_faultOfEntry 7 = .ok (.istore_n 3, 1) := by decide +kernel
theorem dX1_faultOfEntry_8 : decode cX1_faultOfEntry 8 = .ok (.iload_n 2, 1) := by decide +kernel
theorem dX1_faultOfEntry_9 : decode cX1_faultOfEntry 9 = .ok (.bipush 40, 2) := by decide +kernel
theorem dX1_faultOfEntry_11 : decode cX1_faultOfEntry 11 = .ok (.if_icmp .lt 11, 3) := by decide +kernel
theorem dX1_faultOfEntry_14 : decode cX1_faultOfEntry 14 = .ok (.aload_n 0, 1) := by decide +kernel
theorem dX1_faultOfEntry_15 : decode cX1_faultOfEntry 15 = .ok (.bipush 10, 2) := by decide +kernel
theorem dX1_faultOfEntry_17 : decode cX1_faultOfEntry 17 = .ok (.iload_n 3, 1) := by decide +kernel
theorem dX1_faultOfEntry_18 : decode cX1_faultOfEntry 18 = .ok (.invokevirtual 37, 3) := by decide +kernel
theorem dX1_faultOfEntry_21 : decode cX1_faultOfEntry 21 = .ok (.ireturn, 1) := by decide +kernel
theorem dX1_faultOfEntry_22 : decode cX1_faultOfEntry 22 = .ok (.aload_n 1, 1) := by decide +kernel
theorem dX1_faultOfEntry_23 : decode cX1_faultOfEntry 23 = .ok (.iload_n 3, 1) := by decide +kernel
theorem dX1_faultOfEntry_24 : decode cX1_faultOfEntry 24 = .ok (.invokevirtual 41, 3) := by decide +kernel
theorem dX1_faultOfEntry_27 : decode cX1_faultOfEntry 27 = .ok (.l2i, 1) := by decide +kernel
theorem dX1_faultOfEntry_28 : decode cX1_faultOfEntry 28 = .ok (.invokestatic 78, 3) := by decide +kernel
theorem dX1_faultOfEntry_31 : decode cX1_faultOfEntry 31 = .ok (.ifCond .ne 11, 3) := by decide +kernel
theorem dX1_faultOfEntry_34 : decode cX1_faultOfEntry 34 = .ok (.aload_n 0, 1) := by decide +kernel
theorem dX1_faultOfEntry_35 : decode cX1_faultOfEntry 35 = .ok (.bipush 7, 2) := by decide +kernel
theorem dX1_faultOfEntry_37 : decode cX1_faultOfEntry 37 = .ok (.iload_n 3, 1) := by decide +kernel
theorem dX1_faultOfEntry_38 : decode cX1_faultOfEntry 38 = .ok (.invokevirtual 37, 3) := by decide +kernel
theorem dX1_faultOfEntry_41 : decode cX1_faultOfEntry 41 = .ok (.ireturn, 1) := by decide +kernel
theorem dX1_faultOfEntry_42 : decode cX1_faultOfEntry 42 = .ok (.iconst 0, 1) := by decide +kernel
theorem dX1_faultOfEntry_43 : decode cX1_faultOfEntry 43 = .ok (.istore 4, 2) := by decide +kernel
theorem dX1_faultOfEntry_45 : decode cX1_faultOfEntry 45 = .ok (.iload 4, 2) := by decide +kernel
theorem dX1_faultOfEntry_47 : decode cX1_faultOfEntry 47 = .ok (.iload_n 2, 1) := by decide +kernel
theorem dX1_faultOfEntry_48 : decode cX1_faultOfEntry 48 = .ok (.if_icmp .ge 61, 3) := by decide +kernel
theorem dX1_faultOfEntry_51 : decode cX1_faultOfEntry 51 = .ok (.bipush 24, 2) := by decide +kernel
theorem dX1_faultOfEntry_53 : decode cX1_faultOfEntry 53 = .ok (.bipush 12, 2) := by decide +kernel
theorem dX1_faultOfEntry_55 : decode cX1_faultOfEntry 55 = .ok (.iload 4, 2) := by decide +kernel
theorem dX1_faultOfEntry_57 : decode cX1_faultOfEntry 57 = .ok (.imul, 1) := by decide +kernel
theorem dX1_faultOfEntry_58 : decode cX1_faultOfEntry 58 = .ok (.iadd, 1) := by decide +kernel
theorem dX1_faultOfEntry_59 : decode cX1_faultOfEntry 59 = .ok (.istore 5, 2) := by decide +kernel
theorem dX1_faultOfEntry_61 : decode cX1_faultOfEntry 61 = .ok (.aload_n 1, 1) := by decide +kernel
theorem dX1_faultOfEntry_62 : decode cX1_faultOfEntry 62 = .ok (.iload 5, 2) := by decide +kernel
theorem dX1_faultOfEntry_64 : decode cX1_faultOfEntry 64 = .ok (.invokevirtual 41, 3) := by decide +kernel
theorem dX1_faultOfEntry_67 : decode cX1_faultOfEntry 67 = .ok (.aload_n 1, 1) := by decide +kernel
theorem dX1_faultOfEntry_68 : decode cX1_faultOfEntry 68 = .ok (.iload_n 3, 1) := by decide +kernel
theorem dX1_faultOfEntry_69 : decode cX1_faultOfEntry 69 = .ok (.invokevirtual 41, 3) := by decide +kernel
theorem dX1_faultOfEntry_72 : decode cX1_faultOfEntry 72 = .ok (.lcmp, 1) := by decide +kernel
theorem dX1_faultOfEntry_73 : decode cX1_faultOfEntry 73 = .ok (.ifCond .ne 30, 3) := by decide +kernel
theorem dX1_faultOfEntry_76 : decode cX1_faultOfEntry 76 = .ok (.aload_n 1, 1) := by decide +kernel
theorem dX1_faultOfEntry_77 : decode cX1_faultOfEntry 77 = .ok (.iload 5, 2) := by decide +kernel
theorem dX1_faultOfEntry_79 : decode cX1_faultOfEntry 79 = .ok (.iconst 4, 1) := by decide +kernel
theorem dX1_faultOfEntry_80 : decode cX1_faultOfEntry 80 = .ok (.iadd, 1) := by decide +kernel
theorem dX1_faultOfEntry_81 : decode cX1_faultOfEntry 81 = .ok (.invokevirtual 41, 3) := by decide +kernel
theorem dX1_faultOfEntry_84 : decode cX1_faultOfEntry 84 = .ok (.aload_n 1, 1) := by decide +kernel
theorem dX1_faultOfEntry_85 : decode cX1_faultOfEntry 85 = .ok (.iload_n 3, 1) := by decide +kernel
theorem dX1_faultOfEntry_86 : decode cX1_faultOfEntry 86 = .ok (.iconst 4, 1) := by decide +kernel
theorem dX1_faultOfEntry_87 : decode cX1_faultOfEntry 87 = .ok (.iadd, 1) := by decide +kernel
theorem dX1_faultOfEntry_88 : decode cX1_faultOfEntry 88 = .ok (.invokevirtual 41, 3) := by decide +kernel
theorem dX1_faultOfEntry_91 : decode cX1_faultOfEntry 91 = .ok (.lcmp, 1) := by decide +kernel
theorem dX1_faultOfEntry_92 : decode cX1_faultOfEntry 92 = .ok (.ifCond .ne 11, 3) := by decide +kernel
theorem dX1_faultOfEntry_95 : decode cX1_faultOfEntry 95 = .ok (.aload_n 0, 1) := by decide +kernel
theorem dX1_faultOfEntry_96 : decode cX1_faultOfEntry 96 = .ok (.bipush 9, 2) := by decide +kernel
theorem dX1_faultOfEntry_98 : decode cX1_faultOfEntry 98 = .ok (.iload_n 3, 1) := by decide +kernel
theorem dX1_faultOfEntry_99 : decode cX1_faultOfEntry 99 = .ok (.invokevirtual 37, 3) := by decide +kernel
theorem dX1_faultOfEntry_102 : decode cX1_faultOfEntry 102 = .ok (.ireturn, 1) := by decide +kernel
theorem dX1_faultOfEntry_103 : decode cX1_faultOfEntry 103 = .ok (.iinc 4 1, 3) := by decide +kernel
theorem dX1_faultOfEntry_106 : decode cX1_faultOfEntry 106 = .ok (.goto (-61), 3) := by decide +kernel
theorem dX1_faultOfEntry_109 : decode cX1_faultOfEntry 109 = .ok (.aload_n 0, 1) := by decide +kernel
theorem dX1_faultOfEntry_110 : decode cX1_faultOfEntry 110 = .ok (.aload_n 1, 1) := by decide +kernel
theorem dX1_faultOfEntry_111 : decode cX1_faultOfEntry 111 = .ok (.iload_n 3, 1) := by decide +kernel
theorem dX1_faultOfEntry_112 : decode cX1_faultOfEntry 112 = .ok (.bipush 8, 2) := by decide +kernel
theorem dX1_faultOfEntry_114 : decode cX1_faultOfEntry 114 = .ok (.iadd, 1) := by decide +kernel
theorem dX1_faultOfEntry_115 : decode cX1_faultOfEntry 115 = .ok (.invokevirtual 41, 3) := by decide +kernel
theorem dX1_faultOfEntry_118 : decode cX1_faultOfEntry 118 = .ok (.invokevirtual 81, 3) := by decide +kernel
theorem dX1_faultOfEntry_121 : decode cX1_faultOfEntry 121 = .ok (.ifCond .ge 14, 3) := by decide +kernel
theorem dX1_faultOfEntry_124 : decode cX1_faultOfEntry 124 = .ok (.aload_n 0, 1) := by decide +kernel
theorem dX1_faultOfEntry_125 : decode cX1_faultOfEntry 125 = .ok (.bipush 8, 2) := by decide +kernel
theorem dX1_faultOfEntry_127 : decode cX1_faultOfEntry 127 = .ok (.iload_n 3, 1) := by decide +kernel
theorem dX1_faultOfEntry_128 : decode cX1_faultOfEntry 128 = .ok (.bipush 8, 2) := by decide +kernel
theorem dX1_faultOfEntry_130 : decode cX1_faultOfEntry 130 = .ok (.iadd, 1) := by decide +kernel
theorem dX1_faultOfEntry_131 : decode cX1_faultOfEntry 131 = .ok (.invokevirtual 37, 3) := by decide +kernel
theorem dX1_faultOfEntry_134 : decode cX1_faultOfEntry 134 = .ok (.ireturn, 1) := by decide +kernel
theorem dX1_faultOfEntry_135 : decode cX1_faultOfEntry 135 = .ok (.iconst 0, 1) := by decide +kernel
theorem dX1_faultOfEntry_136 : decode cX1_faultOfEntry 136 = .ok (.ireturn, 1) := by decide +kernel
theorem dX1_pieceAt_0 : decode cX1_pieceAt 0 = .ok (.iconst 0, 1) := by decide +kernel
theorem dX1_pieceAt_1 : decode cX1_pieceAt 1 = .ok (.istore_n 3, 1) := by decide +kernel
theorem dX1_pieceAt_2 : decode cX1_pieceAt 2 = .ok (.iload_n 3, 1) := by decide +kernel
theorem dX1_pieceAt_3 : decode cX1_pieceAt 3 = .ok (.aload_n 0, 1) := by decide +kernel
theorem dX1_pieceAt_4 : decode cX1_pieceAt 4 = .ok (.getfield 15, 3) := by decide +kernel
theorem dX1_pieceAt_7 : decode cX1_pieceAt 7 = .ok (.if_icmp .ge 23, 3) := by decide +kernel
theorem dX1_pieceAt_10 : decode cX1_pieceAt 10 = .ok (.aload_n 0, 1) := by decide +kernel
theorem dX1_pieceAt_11 : decode cX1_pieceAt 11 = .ok (.getfield 9, 3) := by decide +kernel
theorem dX1_pieceAt_14 : decode cX1_pieceAt 14 = .ok (.iload_n 3, 1) := by decide +kernel
theorem dX1_pieceAt_15 : decode cX1_pieceAt 15 = .ok (.iaload, 1) := by decide +kernel
theorem dX1_pieceAt_16 : decode cX1_pieceAt 16 = .ok (.i2l, 1) := by decide +kernel
theorem dX1_pieceAt_17 : decode cX1_pieceAt 17 = .ok (.lload_n 1, 1) := by decide +kernel
theorem dX1_pieceAt_18 : decode cX1_pieceAt 18 = .ok (.lcmp, 1) := by decide +kernel
theorem dX1_pieceAt_19 : decode cX1_pieceAt 19 = .ok (.ifCond .ne 5, 3) := by decide +kernel
theorem dX1_pieceAt_22 : decode cX1_pieceAt 22 = .ok (.iload_n 3, 1) := by decide +kernel
theorem dX1_pieceAt_23 : decode cX1_pieceAt 23 = .ok (.ireturn, 1) := by decide +kernel
theorem dX1_pieceAt_24 : decode cX1_pieceAt 24 = .ok (.iinc 3 1, 3) := by decide +kernel
theorem dX1_pieceAt_27 : decode cX1_pieceAt 27 = .ok (.goto (-25), 3) := by decide +kernel
theorem dX1_pieceAt_30 : decode cX1_pieceAt 30 = .ok (.bipush (-2), 2) := by decide +kernel
theorem dX1_pieceAt_32 : decode cX1_pieceAt 32 = .ok (.ireturn, 1) := by decide +kernel
set_option maxRecDepth 20000 in
theorem ggX1_moveInto_X0_empty : GoodIn wsX1_moveInto wsX0_empty := goodIn_r _ [12, 13, 14, 15, 16, 17, 18, 19, 20, 21, 93, 94, 95, 96, 97, 98, 99, 100, 101, 102] (by decide +kernel) (by decide +kernel)
set_option maxRecDepth 20000 in
theorem gX1_moveInto_X0_empty : GoodIn wsX1_moveInto (wsV RX1 85 RX0 yX0_empty wsX0_empty) := goodIn_app (goodIn_of _ (by decide +kernel)) ggX1_moveInto_X0_empty
set_option maxRecDepth 20000 in
theorem ggX1_moveInto_X3_u4 : GoodIn wsX1_moveInto wsX3_u4 := goodIn_r _ [25, 26, 27, 28, 5, 29, 30, 31, 32, 33, 34, 35, 36, 37, 38, 90, 91, 92, 101, 102] (by decide +kernel) (by decide +kernel)
set_option maxRecDepth 20000 in
theorem gX1_moveInto_X3_u4 : GoodIn wsX1_moveInto (wsV RX1 41 RX3 yX3_u4 wsX3_u4) := goodIn_app (goodIn_of _ (by decide +kernel)) ggX1_moveInto_X3_u4
set_option maxRecDepth 20000 in
theorem ggX1_moveInto_X3_init : GoodIn wsX1_moveInto wsX3_init := goodIn_r _ [41, 42, 43, 44, 45, 31, 33, 38, 101, 102, 90, 91, 92] (by decide +kernel) (by decide +kernel)
set_option maxRecDepth 20000 in
theorem gX1_moveInto_X3_init : GoodIn wsX1_moveInto (wsX3_init) := ggX1_moveInto_X3_init
set_option maxRecDepth 20000 in
theorem ggX1_moveInto_X0_addChunk : GoodIn wsX1_moveInto wsX0_addChunk := goodIn_r _ [49, 50, 51, 14, 52, 13, 53, 54, 55, 56, 11, 57, 58, 59, 60, 19, 61, 62, 21, 63, 64, 65, 66, 67, 68, 69, 70, 71, 72, 73, 74, 90, 91, 92, 93, 94, 95, 96, 97, 98, 99, 100, 101, 102] (by decide +kernel) (by decide +kernel)
set_option maxRecDepth 20000 in
theorem gX1_moveInto_X0_addChunk : GoodIn wsX1_moveInto (wsV RX1 100 RX0 yX0_addChunk wsX0_addChunk) := goodIn_app (goodIn_of _ (by decide +kernel)) ggX1_moveInto_X0_addChunk
