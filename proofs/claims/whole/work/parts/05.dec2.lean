theorem dX9_init_47 : decode cX9_init 47 = .ok (.dup, 1) := by decide +kernel
theorem dX9_init_48 : decode cX9_init 48 = .ok (.invokespecial 30, 3) := by decide +kernel
theorem dX9_init_51 : decode cX9_init 51 = .ok (.putfield 31, 3) := by decide +kernel
theorem dX9_init_54 : decode cX9_init 54 = .ok (.aload_n 0, 1) := by decide +kernel
theorem dX9_init_55 : decode cX9_init 55 = .ok (.bipush (-2), 2) := by decide +kernel
theorem dX9_init_57 : decode cX9_init 57 = .ok (.putfield 35, 3) := by decide +kernel
theorem dX9_init_60 : decode cX9_init 60 = .ok (.return_, 1) := by decide +kernel
set_option maxRecDepth 20000 in
theorem ggX9_feed_X6_room : GoodIn wsX9_feed wsX6_room := goodIn_r _ [7, 8, 9, 20, 21] (by decide +kernel) (by decide +kernel)
set_option maxRecDepth 20000 in
theorem gX9_feed_X6_room : GoodIn wsX9_feed (wsV RX9 39 RX6 yX6_room wsX6_room) := goodIn_app (goodIn_of _ (by decide +kernel)) ggX9_feed_X6_room
set_option maxRecDepth 20000 in
theorem ggX9_feed_X6_append : GoodIn wsX9_feed wsX6_append := goodIn_r _ [13, 8, 9, 14, 4, 5, 6, 7, 20, 21] (by decide +kernel) (by decide +kernel)
set_option maxRecDepth 20000 in
theorem gX9_feed_X6_append : GoodIn wsX9_feed (wsV RX9 43 RX6 yX6_append wsX6_append) := goodIn_app (goodIn_of _ (by decide +kernel)) ggX9_feed_X6_append
theorem dX9_feed_0 : decode cX9_feed 0 = .ok (.iload_n 1, 1) := by decide +kernel
theorem dX9_feed_1 : decode cX9_feed 1 = .ok (.iconst 1, 1) := by decide +kernel
theorem dX9_feed_2 : decode cX9_feed 2 = .ok (.if_icmp .lt 9, 3) := by decide +kernel
theorem dX9_feed_5 : decode cX9_feed 5 = .ok (.iload_n 1, 1) := by decide +kernel
theorem dX9_feed_6 : decode cX9_feed 6 = .ok (.bipush 8, 2) := by decide +kernel
theorem dX9_feed_8 : decode cX9_feed 8 = .ok (.if_icmp .le 5, 3) := by decide +kernel
theorem dX9_feed_11 : decode cX9_feed 11 = .ok (.iconst (-1), 1) := by decide +kernel
theorem dX9_feed_12 : decode cX9_feed 12 = .ok (.ireturn, 1) := by decide +kernel
theorem dX9_feed_13 : decode cX9_feed 13 = .ok (.iload_n 1, 1) := by decide +kernel
theorem dX9_feed_14 : decode cX9_feed 14 = .ok (.aload_n 0, 1) := by decide +kernel
theorem dX9_feed_15 : decode cX9_feed 15 = .ok (.getfield 14, 3) := by decide +kernel
theorem dX9_feed_18 : decode cX9_feed 18 = .ok (.invokevirtual 39, 3) := by decide +kernel
theorem dX9_feed_21 : decode cX9_feed 21 = .ok (.if_icmp .le 6, 3) := by decide +kernel
theorem dX9_feed_24 : decode cX9_feed 24 = .ok (.bipush (-4), 2) := by decide +kernel
theorem dX9_feed_26 : decode cX9_feed 26 = .ok (.ireturn, 1) := by decide +kernel
theorem dX9_feed_27 : decode cX9_feed 27 = .ok (.aload_n 0, 1) := by decide +kernel
theorem dX9_feed_28 : decode cX9_feed 28 = .ok (.getfield 14, 3) := by decide +kernel
theorem dX9_feed_31 : decode cX9_feed 31 = .ok (.iload_n 1, 1) := by decide +kernel
theorem dX9_feed_32 : decode cX9_feed 32 = .ok (.lload_n 2, 1) := by decide +kernel
theorem dX9_feed_33 : decode cX9_feed 33 = .ok (.invokevirtual 43, 3) := by decide +kernel
theorem dX9_feed_36 : decode cX9_feed 36 = .ok (.aload_n 0, 1) := by decide +kernel
theorem dX9_feed_37 : decode cX9_feed 37 = .ok (.getfield 14, 3) := by decide +kernel
theorem dX9_feed_40 : decode cX9_feed 40 = .ok (.getfield 47, 3) := by decide +kernel
theorem dX9_feed_43 : decode cX9_feed 43 = .ok (.ireturn, 1) := by decide +kernel
set_option maxRecDepth 20000 in
theorem ggX9_cut_X6_keep : GoodIn wsX9_cut wsX6_keep := goodIn_r _ [7, 8, 14, 15] (by decide +kernel) (by decide +kernel)
set_option maxRecDepth 20000 in
theorem gX9_cut_X6_keep : GoodIn wsX9_cut (wsV RX9 50 RX6 yX6_keep wsX6_keep) := goodIn_app (goodIn_of _ (by decide +kernel)) ggX9_cut_X6_keep
theorem dX9_cut_0 : decode cX9_cut 0 = .ok (.iload_n 1, 1) := by decide +kernel
theorem dX9_cut_1 : decode cX9_cut 1 = .ok (.ifCond .lt 14, 3) := by decide +kernel
theorem dX9_cut_4 : decode cX9_cut 4 = .ok (.iload_n 1, 1) := by decide +kernel
theorem dX9_cut_5 : decode cX9_cut 5 = .ok (.aload_n 0, 1) := by decide +kernel
theorem dX9_cut_6 : decode cX9_cut 6 = .ok (.getfield 14, 3) := by decide +kernel
theorem dX9_cut_9 : decode cX9_cut 9 = .ok (.getfield 47, 3) := by decide +kernel
theorem dX9_cut_12 : decode cX9_cut 12 = .ok (.if_icmp .le 5, 3) := by decide +kernel
theorem dX9_cut_15 : decode cX9_cut 15 = .ok (.iconst (-1), 1) := by decide +kernel
theorem dX9_cut_16 : decode cX9_cut 16 = .ok (.ireturn, 1) := by decide +kernel
theorem dX9_cut_17 : decode cX9_cut 17 = .ok (.aload_n 0, 1) := by decide +kernel
theorem dX9_cut_18 : decode cX9_cut 18 = .ok (.getfield 14, 3) := by decide +kernel
theorem dX9_cut_21 : decode cX9_cut 21 = .ok (.getfield 47, 3) := by decide +kernel
theorem dX9_cut_24 : decode cX9_cut 24 = .ok (.iload_n 1, 1) := by decide +kernel
theorem dX9_cut_25 : decode cX9_cut 25 = .ok (.isub, 1) := by decide +kernel
theorem dX9_cut_26 : decode cX9_cut 26 = .ok (.istore_n 2, 1) := by decide +kernel
theorem dX9_cut_27 : decode cX9_cut 27 = .ok (.aload_n 0, 1) := by decide +kernel
theorem dX9_cut_28 : decode cX9_cut 28 = .ok (.getfield 14, 3) := by decide +kernel
theorem dX9_cut_31 : decode cX9_cut 31 = .ok (.iload_n 1, 1) := by decide +kernel
theorem dX9_cut_32 : decode cX9_cut 32 = .ok (.invokevirtual 50, 3) := by decide +kernel
theorem dX9_cut_35 : decode cX9_cut 35 = .ok (.iload_n 2, 1) := by decide +kernel
theorem dX9_cut_36 : decode cX9_cut 36 = .ok (.ireturn, 1) := by decide +kernel
set_option maxRecDepth 20000 in
theorem ggX9_read_X6_whole : GoodIn wsX9_read wsX6_whole := goodIn_r _ [11, 12, 13, 14, 15, 16, 17, 18, 19, 20, 21, 22, 23, 24, 25, 178, 179, 180, 181, 182] (by decide +kernel) (by decide +kernel)
set_option maxRecDepth 20000 in
theorem gX9_read_X6_whole : GoodIn wsX9_read (wsV RX9 53 RX6 yX6_whole wsX6_whole) := goodIn_app (goodIn_of _ (by decide +kernel)) ggX9_read_X6_whole
set_option maxRecDepth 20000 in
theorem ggX9_read_X1_faultOf : GoodIn wsX9_read wsX1_faultOf := goodIn_r _ [30, 31, 32, 33, 34, 35, 29, 36, 37, 38, 39, 40, 41, 42, 43, 44, 45, 46, 14, 47, 48, 49, 50, 51, 52, 23, 53, 24, 54, 55, 56, 57, 25, 58, 59, 60, 61, 62, 63, 64, 65, 66, 67, 68, 69, 70, 71, 72, 73, 74, 75, 76, 77, 78, 79, 80, 81, 82, 83, 84, 85, 86, 87, 88, 89, 90, 91, 92, 93, 94, 95, 96, 97, 98, 99, 100, 101, 102, 103, 104, 167, 168, 169, 178, 179, 180, 181, 182] (by decide +kernel) (by decide +kernel)
set_option maxRecDepth 20000 in
theorem gX9_read_X1_faultOf : GoodIn wsX9_read (wsV RX9 57 RX1 yX1_faultOf wsX1_faultOf) := goodIn_app (goodIn_of _ (by decide +kernel)) ggX9_read_X1_faultOf
set_option maxRecDepth 20000 in
theorem ggX9_read_X1_moveInto : GoodIn wsX9_read wsX1_moveInto := goodIn_r _ [108, 31, 62, 109, 13, 14, 110, 111, 112, 113, 114, 115, 116, 117, 118, 119, 120, 121, 122, 10, 123, 15, 44, 45, 46, 47, 48, 49, 50, 51, 52, 23, 53, 24, 54, 55, 56, 57, 25, 124, 17, 18, 19, 20, 21, 22, 125, 126, 127, 128, 129, 130, 131, 132, 133, 134, 135, 136, 137, 138, 139, 140, 141, 142, 143, 144, 145, 146, 147, 148, 149, 150, 151, 152, 153, 101, 102, 103, 29, 104, 154, 155, 156, 157, 158, 159, 160, 167, 168, 169, 178, 179, 180, 170, 171, 172, 173, 174, 175, 176, 177, 181, 182] (by decide +kernel) (by decide +kernel)
set_option maxRecDepth 20000 in
theorem gX9_read_X1_moveInto : GoodIn wsX9_read (wsV RX9 61 RX1 yX1_moveInto wsX1_moveInto) := goodIn_app (goodIn_of _ (by decide +kernel)) ggX9_read_X1_moveInto
set_option maxRecDepth 20000 in
theorem ggX9_read_X6_keep : GoodIn wsX9_read wsX6_keep := goodIn_r _ [123, 15, 181, 182] (by decide +kernel) (by decide +kernel)
set_option maxRecDepth 20000 in
theorem gX9_read_X6_keep : GoodIn wsX9_read (wsV RX9 50 RX6 yX6_keep wsX6_keep) := goodIn_app (goodIn_of _ (by decide +kernel)) ggX9_read_X6_keep
theorem dX9_read_0 : decode cX9_read 0 = .ok (.aload_n 0, 1) := by decide +kernel
theorem dX9_read_1 : decode cX9_read 1 = .ok (.getfield 14, 3) := by decide +kernel
theorem dX9_read_4 : decode cX9_read 4 = .ok (.invokevirtual 53, 3) := by decide +kernel
theorem dX9_read_7 : decode cX9_read 7 = .ok (.astore_n 1, 1) := by decide +kernel
theorem dX9_read_8 : decode cX9_read 8 = .ok (.aload_n 0, 1) := by decide +kernel
theorem dX9_read_9 : decode cX9_read 9 = .ok (.getfield 31, 3) := by decide +kernel
theorem dX9_read_12 : decode cX9_read 12 = .ok (.aload_n 1, 1) := by decide +kernel
theorem dX9_read_13 : decode cX9_read 13 = .ok (.invokevirtual 57, 3) := by decide +kernel
theorem dX9_read_16 : decode cX9_read 16 = .ok (.istore_n 2, 1) := by decide +kernel
theorem dX9_read_17 : decode cX9_read 17 = .ok (.aload_n 0, 1) := by decide +kernel
theorem dX9_read_18 : decode cX9_read 18 = .ok (.bipush (-2), 2) := by decide +kernel
theorem dX9_read_20 : decode cX9_read 20 = .ok (.putfield 35, 3) := by decide +kernel
theorem dX9_read_23 : decode cX9_read 23 = .ok (.iload_n 2, 1) := by decide +kernel
theorem dX9_read_24 : decode cX9_read 24 = .ok (.ifCond .ne 18, 3) := by decide +kernel
theorem dX9_read_27 : decode cX9_read 27 = .ok (.aload_n 0, 1) := by decide +kernel
theorem dX9_read_28 : decode cX9_read 28 = .ok (.getfield 31, 3) := by decide +kernel
theorem dX9_read_31 : decode cX9_read 31 = .ok (.aload_n 0, 1) := by decide +kernel
theorem dX9_read_32 : decode cX9_read 32 = .ok (.getfield 24, 3) := by decide +kernel
theorem dX9_read_35 : decode cX9_read 35 = .ok (.aload_n 1, 1) := by decide +kernel
theorem dX9_read_36 : decode cX9_read 36 = .ok (.invokevirtual 61, 3) := by decide +kernel
theorem dX9_read_39 : decode cX9_read 39 = .ok (.goto 14, 3) := by decide +kernel
theorem dX9_read_42 : decode cX9_read 42 = .ok (.aload_n 0, 1) := by decide +kernel
theorem dX9_read_43 : decode cX9_read 43 = .ok (.aload_n 0, 1) := by decide +kernel
theorem dX9_read_44 : decode cX9_read 44 = .ok (.getfield 31, 3) := by decide +kernel
theorem dX9_read_47 : decode cX9_read 47 = .ok (.getfield 65, 3) := by decide +kernel
theorem dX9_read_50 : decode cX9_read 50 = .ok (.putfield 35, 3) := by decide +kernel
theorem dX9_read_53 : decode cX9_read 53 = .ok (.aload_n 0, 1) := by decide +kernel
theorem dX9_read_54 : decode cX9_read 54 = .ok (.getfield 14, 3) := by decide +kernel
theorem dX9_read_57 : decode cX9_read 57 = .ok (.iconst 0, 1) := by decide +kernel
theorem dX9_read_58 : decode cX9_read 58 = .ok (.invokevirtual 50, 3) := by decide +kernel
theorem dX9_read_61 : decode cX9_read 61 = .ok (.iload_n 2, 1) := by decide +kernel
theorem dX9_read_62 : decode cX9_read 62 = .ok (.ifCond .ne 13, 3) := by decide +kernel
theorem dX9_read_65 : decode cX9_read 65 = .ok (.aload_n 0, 1) := by decide +kernel
theorem dX9_read_66 : decode cX9_read 66 = .ok (.getfield 24, 3) := by decide +kernel
theorem dX9_read_69 : decode cX9_read 69 = .ok (.getfield 68, 3) := by decide +kernel
theorem dX9_read_72 : decode cX9_read 72 = .ok (.goto 7, 3) := by decide +kernel
theorem dX9_read_75 : decode cX9_read 75 = .ok (.bipush (-10), 2) := by decide +kernel
theorem dX9_read_77 : decode cX9_read 77 = .ok (.iload_n 2, 1) := by decide +kernel
theorem dX9_read_78 : decode cX9_read 78 = .ok (.isub, 1) := by decide +kernel
theorem dX9_read_79 : decode cX9_read 79 = .ok (.ireturn, 1) := by decide +kernel
theorem dX9_place_0 : decode cX9_place 0 = .ok (.aload_n 0, 1) := by decide +kernel
theorem dX9_place_1 : decode cX9_place 1 = .ok (.getfield 35, 3) := by decide +kernel
theorem dX9_place_4 : decode cX9_place 4 = .ok (.ireturn, 1) := by decide +kernel
theorem dX9_told_0 : decode cX9_told 0 = .ok (.iload_n 1, 1) := by decide +kernel
theorem dX9_told_1 : decode cX9_told 1 = .ok (.tableswitch 78 0 4 #[35, 43, 51, 62, 70], 35) := by decide +kernel
theorem dX9_told_36 : decode cX9_told 36 = .ok (.aload_n 0, 1) := by decide +kernel
theorem dX9_told_37 : decode cX9_told 37 = .ok (.getfield 24, 3) := by decide +kernel
theorem dX9_told_40 : decode cX9_told 40 = .ok (.getfield 68, 3) := by decide +kernel
theorem dX9_told_43 : decode cX9_told 43 = .ok (.ireturn, 1) := by decide +kernel
theorem dX9_told_44 : decode cX9_told 44 = .ok (.aload_n 0, 1) := by decide +kernel
theorem dX9_told_45 : decode cX9_told 45 = .ok (.getfield 24, 3) := by decide +kernel
theorem dX9_told_48 : decode cX9_told 48 = .ok (.getfield 71, 3) := by decide +kernel
theorem dX9_told_51 : decode cX9_told 51 = .ok (.ireturn, 1) := by decide +kernel
theorem dX9_told_52 : decode cX9_told 52 = .ok (.aload_n 0, 1) := by decide +kernel
theorem dX9_told_53 : decode cX9_told 53 = .ok (.getfield 24, 3) := by decide +kernel
theorem dX9_told_56 : decode cX9_told 56 = .ok (.getfield 74, 3) := by decide +kernel
theorem dX9_told_59 : decode cX9_told 59 = .ok (.getfield 47, 3) := by decide +kernel
theorem dX9_told_62 : decode cX9_told 62 = .ok (.ireturn, 1) := by decide +kernel
theorem dX9_told_63 : decode cX9_told 63 = .ok (.aload_n 0, 1) := by decide +kernel
theorem dX9_told_64 : decode cX9_told 64 = .ok (.getfield 14, 3) := by decide +kernel
theorem dX9_told_67 : decode cX9_told 67 = .ok (.getfield 47, 3) := by decide +kernel
theorem dX9_told_70 : decode cX9_told 70 = .ok (.ireturn, 1) := by decide +kernel
theorem dX9_told_71 : decode cX9_told 71 = .ok (.aload_n 0, 1) := by decide +kernel
theorem dX9_told_72 : decode cX9_told 72 = .ok (.getfield 18, 3) := by decide +kernel
theorem dX9_told_75 : decode cX9_told 75 = .ok (.getfield 47, 3) := by decide +kernel
theorem dX9_told_78 : decode cX9_told 78 = .ok (.ireturn, 1) := by decide +kernel
theorem dX9_told_79 : decode cX9_told 79 = .ok (.iconst (-1), 1) := by decide +kernel
theorem dX9_told_80 : decode cX9_told 80 = .ok (.ireturn, 1) := by decide +kernel
set_option maxRecDepth 20000 in
theorem ggX9_chunk_X0_hasChunk : GoodIn wsX9_chunk wsX0_hasChunk := goodIn_r _ [6, 7, 35, 36, 37, 38, 39, 40, 41, 42] (by decide +kernel) (by decide +kernel)
set_option maxRecDepth 20000 in
theorem gX9_chunk_X0_hasChunk : GoodIn wsX9_chunk (wsV RX9 77 RX0 yX0_hasChunk wsX0_hasChunk) := goodIn_app (goodIn_of _ (by decide +kernel)) ggX9_chunk_X0_hasChunk
set_option maxRecDepth 20000 in
theorem ggX9_chunk_X0_kindOf : GoodIn wsX9_chunk wsX0_kindOf := goodIn_r _ [11, 12, 13, 3, 4, 5, 6, 7, 35, 36, 37, 38, 39, 40, 41, 42] (by decide +kernel) (by decide +kernel)
set_option maxRecDepth 20000 in
theorem gX9_chunk_X0_kindOf : GoodIn wsX9_chunk (wsV RX9 81 RX0 yX0_kindOf wsX0_kindOf) := goodIn_app (goodIn_of _ (by decide +kernel)) ggX9_chunk_X0_kindOf
set_option maxRecDepth 20000 in
theorem ggX9_chunk_X0_lengthOf : GoodIn wsX9_chunk wsX0_lengthOf := goodIn_r _ [17, 18, 13, 3, 4, 5, 6, 7, 35, 36, 37, 38, 39, 40, 41, 42] (by decide +kernel) (by decide +kernel)
set_option maxRecDepth 20000 in
theorem gX9_chunk_X0_lengthOf : GoodIn wsX9_chunk (wsV RX9 85 RX0 yX0_lengthOf wsX0_lengthOf) := goodIn_app (goodIn_of _ (by decide +kernel)) ggX9_chunk_X0_lengthOf
set_option maxRecDepth 20000 in
theorem ggX9_chunk_X0_placeOf : GoodIn wsX9_chunk wsX0_placeOf := goodIn_r _ [22, 23, 7, 24, 15, 16, 5, 17, 18, 13, 3, 4, 6, 35, 36, 37, 38, 39, 40, 41, 42] (by decide +kernel) (by decide +kernel)
set_option maxRecDepth 20000 in
theorem gX9_chunk_X0_placeOf : GoodIn wsX9_chunk (wsV RX9 88 RX0 yX0_placeOf wsX0_placeOf) := goodIn_app (goodIn_of _ (by decide +kernel)) ggX9_chunk_X0_placeOf
set_option maxRecDepth 20000 in
theorem ggX9_chunk_X0_meaningsOf : GoodIn wsX9_chunk wsX0_meaningsOf := goodIn_r _ [28, 23, 29, 35, 36, 37, 38, 39, 40, 41, 42] (by decide +kernel) (by decide +kernel)
set_option maxRecDepth 20000 in
theorem gX9_chunk_X0_meaningsOf : GoodIn wsX9_chunk (wsV RX9 91 RX0 yX0_meaningsOf wsX0_meaningsOf) := goodIn_app (goodIn_of _ (by decide +kernel)) ggX9_chunk_X0_meaningsOf
theorem dX9_chunk_0 : decode cX9_chunk 0 = .ok (.aload_n 0, 1) := by decide +kernel
theorem dX9_chunk_1 : decode cX9_chunk 1 = .ok (.getfield 24, 3) := by decide +kernel
theorem dX9_chunk_4 : decode cX9_chunk 4 = .ok (.iload_n 1, 1) := by decide +kernel
theorem dX9_chunk_5 : decode cX9_chunk 5 = .ok (.invokevirtual 77, 3) := by decide +kernel
theorem dX9_chunk_8 : decode cX9_chunk 8 = .ok (.ifCond .ne 5, 3) := by decide +kernel
theorem dX9_chunk_11 : decode cX9_chunk 11 = .ok (.iconst (-1), 1) := by decide +kernel
theorem dX9_chunk_12 : decode cX9_chunk 12 = .ok (.ireturn, 1) := by decide +kernel
theorem dX9_chunk_13 : decode cX9_chunk 13 = .ok (.iload_n 2, 1) := by decide +kernel
theorem dX9_chunk_14 : decode cX9_chunk 14 = .ok (.tableswitch 66 0 3 #[30, 39, 48, 57], 30) := by decide +kernel
theorem dX9_chunk_44 : decode cX9_chunk 44 = .ok (.aload_n 0, 1) := by decide +kernel
theorem dX9_chunk_45 : decode cX9_chunk 45 = .ok (.getfield 24, 3) := by decide +kernel
theorem dX9_chunk_48 : decode cX9_chunk 48 = .ok (.iload_n 1, 1) := by decide +kernel
theorem dX9_chunk_49 : decode cX9_chunk 49 = .ok (.invokevirtual 81, 3) := by decide +kernel
theorem dX9_chunk_52 : decode cX9_chunk 52 = .ok (.ireturn, 1) := by decide +kernel
theorem dX9_chunk_53 : decode cX9_chunk 53 = .ok (.aload_n 0, 1) := by decide +kernel
theorem dX9_chunk_54 : decode cX9_chunk 54 = .ok (.getfield 24, 3) := by decide +kernel
theorem dX9_chunk_57 : decode cX9_chunk 57 = .ok (.iload_n 1, 1) := by decide +kernel
theorem dX9_chunk_58 : decode cX9_chunk 58 = .ok (.invokevirtual 85, 3) := by decide +kernel
theorem dX9_chunk_61 : decode cX9_chunk 61 = .ok (.ireturn, 1) := by decide +kernel
theorem dX9_chunk_62 : decode cX9_chunk 62 = .ok (.aload_n 0, 1) := by decide +kernel
theorem dX9_chunk_63 : decode cX9_chunk 63 = .ok (.getfield 24, 3) := by decide +kernel
theorem dX9_chunk_66 : decode cX9_chunk 66 = .ok (.iload_n 1, 1) := by decide +kernel
theorem dX9_chunk_67 : decode cX9_chunk 67 = .ok (.invokevirtual 88, 3) := by decide +kernel
theorem dX9_chunk_70 : decode cX9_chunk 70 = .ok (.ireturn, 1) := by decide +kernel
theorem dX9_chunk_71 : decode cX9_chunk 71 = .ok (.aload_n 0, 1) := by decide +kernel
theorem dX9_chunk_72 : decode cX9_chunk 72 = .ok (.getfield 24, 3) := by decide +kernel
theorem dX9_chunk_75 : decode cX9_chunk 75 = .ok (.iload_n 1, 1) := by decide +kernel
theorem dX9_chunk_76 : decode cX9_chunk 76 = .ok (.invokevirtual 91, 3) := by decide +kernel
theorem dX9_chunk_79 : decode cX9_chunk 79 = .ok (.ireturn, 1) := by decide +kernel
theorem dX9_chunk_80 : decode cX9_chunk 80 = .ok (.iconst (-1), 1) := by decide +kernel
theorem dX9_chunk_81 : decode cX9_chunk 81 = .ok (.ireturn, 1) := by decide +kernel
set_option maxRecDepth 20000 in
theorem ggX9_octet_X0_dataOf : GoodIn wsX9_octet wsX0_dataOf := goodIn_r _ [6, 7, 8, 9, 10, 11, 12, 13, 14, 5, 15, 16, 17, 18, 19, 20, 21, 22, 23, 24, 25, 26, 27, 28, 29, 30, 51, 52, 53, 54, 55, 56, 57, 58, 59, 60, 61, 62, 63] (by decide +kernel) (by decide +kernel)
set_option maxRecDepth 20000 in
theorem gX9_octet_X0_dataOf : GoodIn wsX9_octet (wsV RX9 94 RX0 yX0_dataOf wsX0_dataOf) := goodIn_app (goodIn_of _ (by decide +kernel)) ggX9_octet_X0_dataOf
set_option maxRecDepth 20000 in
theorem ggX9_octet_X3_holds : GoodIn wsX9_octet wsX3_holds := goodIn_r _ [34, 30, 51, 52, 53] (by decide +kernel) (by decide +kernel)
set_option maxRecDepth 20000 in
theorem gX9_octet_X3_holds : GoodIn wsX9_octet (wsV RX9 98 RX3 yX3_holds wsX3_holds) := goodIn_app (goodIn_of _ (by decide +kernel)) ggX9_octet_X3_holds
set_option maxRecDepth 20000 in
theorem ggX9_octet_X3_at : GoodIn wsX9_octet wsX3_at := goodIn_r _ [38, 39, 40, 41, 9, 42, 43, 28, 44, 29, 45, 32, 33, 34, 30, 51, 52, 53, 62, 63] (by decide +kernel) (by decide +kernel)
set_option maxRecDepth 20000 in
theorem gX9_octet_X3_at : GoodIn wsX9_octet (wsV RX9 104 RX3 yX3_at wsX3_at) := goodIn_app (goodIn_of _ (by decide +kernel)) ggX9_octet_X3_at
theorem dX9_octet_0 : decode cX9_octet 0 = .ok (.aload_n 0, 1) := by decide +kernel
theorem dX9_octet_1 : decode cX9_octet 1 = .ok (.getfield 24, 3) := by decide +kernel
theorem dX9_octet_4 : decode cX9_octet 4 = .ok (.iload_n 1, 1) := by decide +kernel
theorem dX9_octet_5 : decode cX9_octet 5 = .ok (.invokevirtual 94, 3) := by decide +kernel
theorem dX9_octet_8 : decode cX9_octet 8 = .ok (.astore_n 3, 1) := by decide +kernel
theorem dX9_octet_9 : decode cX9_octet 9 = .ok (.aload_n 3, 1) := by decide +kernel
theorem dX9_octet_10 : decode cX9_octet 10 = .ok (.iload_n 2, 1) := by decide +kernel
theorem dX9_octet_11 : decode cX9_octet 11 = .ok (.iconst 1, 1) := by decide +kernel
theorem dX9_octet_12 : decode cX9_octet 12 = .ok (.invokevirtual 98, 3) := by decide +kernel
theorem dX9_octet_15 : decode cX9_octet 15 = .ok (.ifCond .eq 11, 3) := by decide +kernel
theorem dX9_octet_18 : decode cX9_octet 18 = .ok (.aload_n 3, 1) := by decide +kernel
theorem dX9_octet_19 : decode cX9_octet 19 = .ok (.iload_n 2, 1) := by decide +kernel
theorem dX9_octet_20 : decode cX9_octet 20 = .ok (.invokevirtual 104, 3) := by decide +kernel
theorem dX9_octet_23 : decode cX9_octet 23 = .ok (.goto 4, 3) := by decide +kernel
theorem dX9_octet_26 : decode cX9_octet 26 = .ok (.iconst (-1), 1) := by decide +kernel
theorem dX9_octet_27 : decode cX9_octet 27 = .ok (.ireturn, 1) := by decide +kernel
set_option maxRecDepth 20000 in
theorem ggX9_entry_X0_hasEntry : GoodIn wsX9_entry wsX0_hasEntry := goodIn_r _ [10, 11, 87, 88, 89, 90, 91, 92, 93, 94] (by decide +kernel) (by decide +kernel)
set_option maxRecDepth 20000 in
theorem gX9_entry_X0_hasEntry : GoodIn wsX9_entry (wsV RX9 107 RX0 yX0_hasEntry wsX0_hasEntry) := goodIn_app (goodIn_of _ (by decide +kernel)) ggX9_entry_X0_hasEntry
set_option maxRecDepth 20000 in
theorem ggX9_entry_X0_goes : GoodIn wsX9_entry wsX0_goes := goodIn_r _ [15, 16, 17, 18, 7, 8, 9, 10, 11, 19, 20, 21, 22, 23, 24, 25, 26, 27, 28, 29, 30, 31, 32, 33, 34, 35, 36, 37, 38, 39, 40, 41, 42, 43, 44, 45, 46, 47, 48, 49, 50, 51, 52, 53, 54, 55, 56, 57, 58, 59, 60, 61, 62, 63, 64, 65, 66, 67, 68, 69, 70, 71, 72, 73, 74, 75, 76, 77, 78, 79, 80, 81, 87, 88, 89, 90, 91, 92, 93, 94, 95, 96, 97, 98, 99] (by decide +kernel) (by decide +kernel)
set_option maxRecDepth 20000 in
theorem gX9_entry_X0_goes : GoodIn wsX9_entry (wsV RX9 123 RX0 yX0_goes wsX0_goes) := goodIn_app (goodIn_of _ (by decide +kernel)) ggX9_entry_X0_goes
theorem dX9_entry_0 : decode cX9_entry 0 = .ok (.aload_n 0, 1) := by decide +kernel
theorem dX9_entry_1 : decode cX9_entry 1 = .ok (.getfield 24, 3) := by decide +kernel
theorem dX9_entry_4 : decode cX9_entry 4 = .ok (.iload_n 1, 1) := by decide +kernel
theorem dX9_entry_5 : decode cX9_entry 5 = .ok (.invokevirtual 107, 3) := by decide +kernel
theorem dX9_entry_8 : decode cX9_entry 8 = .ok (.ifCond .ne 7, 3) := by decide +kernel
theorem dX9_entry_11 : decode cX9_entry 11 = .ok (.ldc2_w 110, 3) := by decide +kernel
theorem dX9_entry_14 : decode cX9_entry 14 = .ok (.lreturn, 1) := by decide +kernel
theorem dX9_entry_15 : decode cX9_entry 15 = .ok (.iload_n 2, 1) := by decide +kernel
theorem dX9_entry_16 : decode cX9_entry 16 = .ok (.tableswitch 81 0 3 #[32, 43, 53, 64], 32) := by decide +kernel
theorem dX9_entry_48 : decode cX9_entry 48 = .ok (.aload_n 0, 1) := by decide +kernel
theorem dX9_entry_49 : decode cX9_entry 49 = .ok (.getfield 24, 3) := by decide +kernel
theorem dX9_entry_52 : decode cX9_entry 52 = .ok (.getfield 112, 3) := by decide +kernel
theorem dX9_entry_55 : decode cX9_entry 55 = .ok (.iload_n 1, 1) := by decide +kernel
theorem dX9_entry_56 : decode cX9_entry 56 = .ok (.iaload, 1) := by decide +kernel
theorem dX9_entry_57 : decode cX9_entry 57 = .ok (.i2l, 1) := by decide +kernel
theorem dX9_entry_58 : decode cX9_entry 58 = .ok (.lreturn, 1) := by decide +kernel
theorem dX9_entry_59 : decode cX9_entry 59 = .ok (.aload_n 0, 1) := by decide +kernel
theorem dX9_entry_60 : decode cX9_entry 60 = .ok (.getfield 24, 3) := by decide +kernel
theorem dX9_entry_63 : decode cX9_entry 63 = .ok (.getfield 116, 3) := by decide +kernel
theorem dX9_entry_66 : decode cX9_entry 66 = .ok (.iload_n 1, 1) := by decide +kernel
theorem dX9_entry_67 : decode cX9_entry 67 = .ok (.laload, 1) := by decide +kernel
theorem dX9_entry_68 : decode cX9_entry 68 = .ok (.lreturn, 1) := by decide +kernel
theorem dX9_entry_69 : decode cX9_entry 69 = .ok (.aload_n 0, 1) := by decide +kernel
theorem dX9_entry_70 : decode cX9_entry 70 = .ok (.getfield 24, 3) := by decide +kernel
theorem dX9_entry_73 : decode cX9_entry 73 = .ok (.getfield 120, 3) := by decide +kernel
theorem dX9_entry_76 : decode cX9_entry 76 = .ok (.iload_n 1, 1) := by decide +kernel
theorem dX9_entry_77 : decode cX9_entry 77 = .ok (.iaload, 1) := by decide +kernel
theorem dX9_entry_78 : decode cX9_entry 78 = .ok (.i2l, 1) := by decide +kernel
theorem dX9_entry_79 : decode cX9_entry 79 = .ok (.lreturn, 1) := by decide +kernel
theorem dX9_entry_80 : decode cX9_entry 80 = .ok (.aload_n 0, 1) := by decide +kernel
theorem dX9_entry_81 : decode cX9_entry 81 = .ok (.getfield 24, 3) := by decide +kernel
theorem dX9_entry_84 : decode cX9_entry 84 = .ok (.iload_n 1, 1) := by decide +kernel
theorem dX9_entry_85 : decode cX9_entry 85 = .ok (.invokevirtual 123, 3) := by decide +kernel
theorem dX9_entry_88 : decode cX9_entry 88 = .ok (.ifCond .eq 7, 3) := by decide +kernel
theorem dX9_entry_91 : decode cX9_entry 91 = .ok (.lconst 1, 1) := by decide +kernel
theorem dX9_entry_92 : decode cX9_entry 92 = .ok (.goto 4, 3) := by decide +kernel
theorem dX9_entry_95 : decode cX9_entry 95 = .ok (.lconst 0, 1) := by decide +kernel
theorem dX9_entry_96 : decode cX9_entry 96 = .ok (.lreturn, 1) := by decide +kernel
theorem dX9_entry_97 : decode cX9_entry 97 = .ok (.ldc2_w 110, 3) := by decide +kernel
theorem dX9_entry_100 : decode cX9_entry 100 = .ok (.lreturn, 1) := by decide +kernel
set_option maxRecDepth 20000 in
theorem ggX9_find_X9_isName : GoodIn wsX9_find wsX9_isName := goodIn_r _ [6, 7, 8, 9, 10, 11, 12, 13, 14, 15, 16, 5, 17, 18] (by decide +kernel) (by decide +kernel)
set_option maxRecDepth 20000 in
theorem gX9_find_X9_isName : GoodIn wsX9_find (va_wsS RX9 126 yX9_isName wsX9_isName) := goodIn_app (goodIn_of _ (by decide +kernel)) ggX9_find_X9_isName
set_option maxRecDepth 20000 in
theorem ggX9_find_X0_entryOf : GoodIn wsX9_find wsX0_entryOf := goodIn_r _ [23, 24, 25, 26, 36, 37, 38, 39, 40, 41, 42, 43] (by decide +kernel) (by decide +kernel)
set_option maxRecDepth 20000 in
theorem gX9_find_X0_entryOf : GoodIn wsX9_find (wsV RX9 130 RX0 yX0_entryOf wsX0_entryOf) := goodIn_app (goodIn_of _ (by decide +kernel)) ggX9_find_X0_entryOf
set_option maxRecDepth 20000 in
theorem ggX9_find_X0_hasEntry : GoodIn wsX9_find wsX0_hasEntry := goodIn_r _ [30, 24, 36, 37, 38, 39, 40, 41, 42, 43] (by decide +kernel) (by decide +kernel)
set_option maxRecDepth 20000 in
theorem gX9_find_X0_hasEntry : GoodIn wsX9_find (wsV RX9 107 RX0 yX0_hasEntry wsX0_hasEntry) := goodIn_app (goodIn_of _ (by decide +kernel)) ggX9_find_X0_hasEntry
theorem dX9_find_0 : decode cX9_find 0 = .ok (.iload_n 1, 1) := by decide +kernel
theorem dX9_find_1 : decode cX9_find 1 = .ok (.lload_n 2, 1) := by decide +kernel
theorem dX9_find_2 : decode cX9_find 2 = .ok (.invokestatic 126, 3) := by decide +kernel
theorem dX9_find_5 : decode cX9_find 5 = .ok (.ifCond .ne 5, 3) := by decide +kernel
theorem dX9_find_8 : decode cX9_find 8 = .ok (.iconst (-1), 1) := by decide +kernel
theorem dX9_find_9 : decode cX9_find 9 = .ok (.ireturn, 1) := by decide +kernel
theorem dX9_find_10 : decode cX9_find 10 = .ok (.aload_n 0, 1) := by decide +kernel
theorem dX9_find_11 : decode cX9_find 11 = .ok (.getfield 24, 3) := by decide +kernel
theorem dX9_find_14 : decode cX9_find 14 = .ok (.iload_n 1, 1) := by decide +kernel
theorem dX9_find_15 : decode cX9_find 15 = .ok (.lload_n 2, 1) := by decide +kernel
theorem dX9_find_16 : decode cX9_find 16 = .ok (.invokevirtual 130, 3) := by decide +kernel
theorem dX9_find_19 : decode cX9_find 19 = .ok (.istore 4, 2) := by decide +kernel
theorem dX9_find_21 : decode cX9_find 21 = .ok (.aload_n 0, 1) := by decide +kernel
theorem dX9_find_22 : decode cX9_find 22 = .ok (.getfield 24, 3) := by decide +kernel
theorem dX9_find_25 : decode cX9_find 25 = .ok (.iload 4, 2) := by decide +kernel
theorem dX9_find_27 : decode cX9_find 27 = .ok (.invokevirtual 107, 3) := by decide +kernel
theorem dX9_find_30 : decode cX9_find 30 = .ok (.ifCond .eq 16, 3) := by decide +kernel
theorem dX9_find_33 : decode cX9_find 33 = .ok (.aload_n 0, 1) := by decide +kernel
theorem dX9_find_34 : decode cX9_find 34 = .ok (.getfield 24, 3) := by decide +kernel
theorem dX9_find_37 : decode cX9_find 37 = .ok (.getfield 120, 3) := by decide +kernel
theorem dX9_find_40 : decode cX9_find 40 = .ok (.iload 4, 2) := by decide +kernel
theorem dX9_find_42 : decode cX9_find 42 = .ok (.iaload, 1) := by decide +kernel
theorem dX9_find_43 : decode cX9_find 43 = .ok (.goto 5, 3) := by decide +kernel
theorem dX9_find_46 : decode cX9_find 46 = .ok (.bipush (-2), 2) := by decide +kernel
theorem dX9_find_48 : decode cX9_find 48 = .ok (.ireturn, 1) := by decide +kernel
set_option maxRecDepth 20000 in
theorem ggX9_size_X0_hasChunk : GoodIn wsX9_size wsX0_hasChunk := goodIn_r _ [7, 8, 104, 105, 106, 107, 108, 109, 110, 111] (by decide +kernel) (by decide +kernel)
set_option maxRecDepth 20000 in
theorem gX9_size_X0_hasChunk : GoodIn wsX9_size (wsV RX9 77 RX0 yX0_hasChunk wsX0_hasChunk) := goodIn_app (goodIn_of _ (by decide +kernel)) ggX9_size_X0_hasChunk
set_option maxRecDepth 20000 in
theorem ggX9_size_X9_isAxis : GoodIn wsX9_size wsX9_isAxis := goodIn_r _ [12] (by decide +kernel) (by decide +kernel)
set_option maxRecDepth 20000 in
theorem gX9_size_X9_isAxis : GoodIn wsX9_size (va_wsS RX9 134 yX9_isAxis wsX9_isAxis) := goodIn_app (goodIn_of _ (by decide +kernel)) ggX9_size_X9_isAxis
set_option maxRecDepth 20000 in
theorem ggX9_size_X0_kindOf : GoodIn wsX9_size wsX0_kindOf := goodIn_r _ [16, 17, 18, 4, 5, 6, 7, 8, 104, 105, 106, 107, 108, 109, 110, 111] (by decide +kernel) (by decide +kernel)
set_option maxRecDepth 20000 in
theorem gX9_size_X0_kindOf : GoodIn wsX9_size (wsV RX9 81 RX0 yX0_kindOf wsX0_kindOf) := goodIn_app (goodIn_of _ (by decide +kernel)) ggX9_size_X0_kindOf
set_option maxRecDepth 20000 in
theorem ggX9_size_X0_dataOf : GoodIn wsX9_size wsX0_dataOf := goodIn_r _ [22, 23, 24, 25, 26, 27, 18, 4, 5, 6, 7, 8, 28, 29, 30, 31, 32, 33, 34, 35, 36, 37, 38, 39, 40, 41, 112, 113, 114, 104, 105, 106, 107, 108, 109, 110, 111, 115, 116] (by decide +kernel) (by decide +kernel)
set_option maxRecDepth 20000 in
theorem gX9_size_X0_dataOf : GoodIn wsX9_size (wsV RX9 94 RX0 yX0_dataOf wsX0_dataOf) := goodIn_app (goodIn_of _ (by decide +kernel)) ggX9_size_X0_dataOf
set_option maxRecDepth 20000 in
theorem ggX9_size_X4_measure : GoodIn wsX9_size wsX4_measure := goodIn_r _ [45, 46, 47, 48, 44, 49, 50, 51, 52, 53, 25, 54, 55, 56, 57, 58, 59, 39, 60, 40, 61, 62, 63, 64, 41, 65, 66, 67, 68, 69, 70, 71, 72, 73, 74, 75, 76, 77, 78, 79, 80, 81, 82, 83, 84, 85, 86, 87, 88, 89, 90, 91, 92, 93, 94, 95, 96, 97, 98, 112, 113, 114, 115, 116] (by decide +kernel) (by decide +kernel)
set_option maxRecDepth 20000 in
theorem gX9_size_X4_measure : GoodIn wsX9_size (va_wsS RX9 137 yX4_measure wsX4_measure) := goodIn_app (goodIn_of _ (by decide +kernel)) ggX9_size_X4_measure
theorem dX9_size_0 : decode cX9_size 0 = .ok (.aload_n 0, 1) := by decide +kernel
theorem dX9_size_1 : decode cX9_size 1 = .ok (.getfield 24, 3) := by decide +kernel
theorem dX9_size_4 : decode cX9_size 4 = .ok (.iload_n 1, 1) := by decide +kernel
theorem dX9_size_5 : decode cX9_size 5 = .ok (.invokevirtual 77, 3) := by decide +kernel
theorem dX9_size_8 : decode cX9_size 8 = .ok (.ifCond .eq 10, 3) := by decide +kernel
theorem dX9_size_11 : decode cX9_size 11 = .ok (.iload_n 2, 1) := by decide +kernel
theorem dX9_size_12 : decode cX9_size 12 = .ok (.invokestatic 134, 3) := by decide +kernel
theorem dX9_size_15 : decode cX9_size 15 = .ok (.ifCond .ne 7, 3) := by decide +kernel
theorem dX9_size_18 : decode cX9_size 18 = .ok (.ldc2_w 110, 3) := by decide +kernel
theorem dX9_size_21 : decode cX9_size 21 = .ok (.lreturn, 1) := by decide +kernel
theorem dX9_size_22 : decode cX9_size 22 = .ok (.aload_n 0, 1) := by decide +kernel
theorem dX9_size_23 : decode cX9_size 23 = .ok (.getfield 24, 3) := by decide +kernel
theorem dX9_size_26 : decode cX9_size 26 = .ok (.iload_n 1, 1) := by decide +kernel
theorem dX9_size_27 : decode cX9_size 27 = .ok (.invokevirtual 81, 3) := by decide +kernel
theorem dX9_size_30 : decode cX9_size 30 = .ok (.aload_n 0, 1) := by decide +kernel
theorem dX9_size_31 : decode cX9_size 31 = .ok (.getfield 24, 3) := by decide +kernel
theorem dX9_size_34 : decode cX9_size 34 = .ok (.iload_n 1, 1) := by decide +kernel
theorem dX9_size_35 : decode cX9_size 35 = .ok (.invokevirtual 94, 3) := by decide +kernel
theorem dX9_size_38 : decode cX9_size 38 = .ok (.iload_n 2, 1) := by decide +kernel
theorem dX9_size_39 : decode cX9_size 39 = .ok (.invokestatic 137, 3) := by decide +kernel
theorem dX9_size_42 : decode cX9_size 42 = .ok (.lreturn, 1) := by decide +kernel
set_option maxRecDepth 20000 in
theorem ggX9_sound_X0_hasChunk : GoodIn wsX9_sound wsX0_hasChunk := goodIn_r _ [9, 10, 79, 80, 81, 82, 83, 84, 85, 86] (by decide +kernel) (by decide +kernel)
set_option maxRecDepth 20000 in
theorem gX9_sound_X0_hasChunk : GoodIn wsX9_sound (wsV RX9 77 RX0 yX0_hasChunk wsX0_hasChunk) := goodIn_app (goodIn_of _ (by decide +kernel)) ggX9_sound_X0_hasChunk
set_option maxRecDepth 20000 in
theorem ggX9_sound_X0_kindOf : GoodIn wsX9_sound wsX0_kindOf := goodIn_r _ [14, 15, 16, 6, 7, 8, 9, 10, 79, 80, 81, 82, 83, 84, 85, 86] (by decide +kernel) (by decide +kernel)
set_option maxRecDepth 20000 in
theorem gX9_sound_X0_kindOf : GoodIn wsX9_sound (wsV RX9 81 RX0 yX0_kindOf wsX0_kindOf) := goodIn_app (goodIn_of _ (by decide +kernel)) ggX9_sound_X0_kindOf
set_option maxRecDepth 20000 in
theorem ggX9_sound_X0_dataOf : GoodIn wsX9_sound wsX0_dataOf := goodIn_r _ [20, 21, 22, 23, 24, 25, 16, 6, 7, 8, 9, 10, 26, 27, 28, 29, 30, 31, 32, 33, 34, 35, 36, 37, 38, 39, 87, 88, 89, 79, 80, 81, 82, 83, 84, 85, 86, 90, 91] (by decide +kernel) (by decide +kernel)
set_option maxRecDepth 20000 in
theorem gX9_sound_X0_dataOf : GoodIn wsX9_sound (wsV RX9 94 RX0 yX0_dataOf wsX0_dataOf) := goodIn_app (goodIn_of _ (by decide +kernel)) ggX9_sound_X0_dataOf
set_option maxRecDepth 20000 in
theorem ggX9_sound_X7_measure : GoodIn wsX9_sound wsX7_measure := goodIn_r _ [43, 44, 45, 46, 47, 48, 49, 50, 51, 23, 52, 53, 54, 55, 56, 57, 37, 58, 38, 59, 60, 61, 62, 39, 63, 64, 65, 42, 66, 67, 68, 69, 70, 71, 72, 73, 87, 88, 89, 90, 91] (by decide +kernel) (by decide +kernel)
set_option maxRecDepth 20000 in
theorem gX9_sound_X7_measure : GoodIn wsX9_sound (va_wsS RX9 146 yX7_measure wsX7_measure) := goodIn_app (goodIn_of _ (by decide +kernel)) ggX9_sound_X7_measure
theorem dX9_sound_0 : decode cX9_sound 0 = .ok (.aload_n 0, 1) := by decide +kernel
theorem dX9_sound_1 : decode cX9_sound 1 = .ok (.getfield 24, 3) := by decide +kernel
theorem dX9_sound_4 : decode cX9_sound 4 = .ok (.iload_n 1, 1) := by decide +kernel
theorem dX9_sound_5 : decode cX9_sound 5 = .ok (.invokevirtual 77, 3) := by decide +kernel
theorem dX9_sound_8 : decode cX9_sound 8 = .ok (.ifCond .eq 12, 3) := by decide +kernel
theorem dX9_sound_11 : decode cX9_sound 11 = .ok (.iload_n 2, 1) := by decide +kernel
theorem dX9_sound_12 : decode cX9_sound 12 = .ok (.ifCond .lt 8, 3) := by decide +kernel
theorem dX9_sound_15 : decode cX9_sound 15 = .ok (.iload_n 2, 1) := by decide +kernel
theorem dX9_sound_16 : decode cX9_sound 16 = .ok (.iconst 3, 1) := by decide +kernel
theorem dX9_sound_17 : decode cX9_sound 17 = .ok (.if_icmp .le 7, 3) := by decide +kernel
theorem dX9_sound_20 : decode cX9_sound 20 = .ok (.ldc2_w 110, 3) := by decide +kernel
theorem dX9_sound_23 : decode cX9_sound 23 = .ok (.lreturn, 1) := by decide +kernel
theorem dX9_sound_24 : decode cX9_sound 24 = .ok (.aload_n 0, 1) := by decide +kernel
theorem dX9_sound_25 : decode cX9_sound 25 = .ok (.getfield 24, 3) := by decide +kernel
theorem dX9_sound_28 : decode cX9_sound 28 = .ok (.iload_n 1, 1) := by decide +kernel
theorem dX9_sound_29 : decode cX9_sound 29 = .ok (.invokevirtual 81, 3) := by decide +kernel
theorem dX9_sound_32 : decode cX9_sound 32 = .ok (.ldc 145, 2) := by decide +kernel
theorem dX9_sound_34 : decode cX9_sound 34 = .ok (.if_icmp .ne 18, 3) := by decide +kernel
theorem dX9_sound_37 : decode cX9_sound 37 = .ok (.aload_n 0, 1) := by decide +kernel
theorem dX9_sound_38 : decode cX9_sound 38 = .ok (.getfield 24, 3) := by decide +kernel
theorem dX9_sound_41 : decode cX9_sound 41 = .ok (.iload_n 1, 1) := by decide +kernel
theorem dX9_sound_42 : decode cX9_sound 42 = .ok (.invokevirtual 94, 3) := by decide +kernel
theorem dX9_sound_45 : decode cX9_sound 45 = .ok (.iload_n 2, 1) := by decide +kernel
theorem dX9_sound_46 : decode cX9_sound 46 = .ok (.invokestatic 146, 3) := by decide +kernel
theorem dX9_sound_49 : decode cX9_sound 49 = .ok (.goto 6, 3) := by decide +kernel
theorem dX9_sound_52 : decode cX9_sound 52 = .ok (.ldc2_w 151, 3) := by decide +kernel
theorem dX9_sound_55 : decode cX9_sound 55 = .ok (.lreturn, 1) := by decide +kernel
set_option maxRecDepth 20000 in
theorem ggX9_front_X0_firstWith : GoodIn wsX9_front wsX0_firstWith := goodIn_r _ [8, 9, 10, 11, 12, 13, 7, 14, 15, 16, 17, 18, 19, 58, 59, 60, 61, 62, 63, 64, 65] (by decide +kernel) (by decide +kernel)
set_option maxRecDepth 20000 in
theorem gX9_front_X0_firstWith : GoodIn wsX9_front (wsV RX9 154 RX0 yX0_firstWith wsX0_firstWith) := goodIn_app (goodIn_of _ (by decide +kernel)) ggX9_front_X0_firstWith
set_option maxRecDepth 20000 in
theorem ggX9_front_X0_hasChunk : GoodIn wsX9_front wsX0_hasChunk := goodIn_r _ [19, 9, 58, 59, 60, 61, 62, 63, 64, 65] (by decide +kernel) (by decide +kernel)
set_option maxRecDepth 20000 in
theorem gX9_front_X0_hasChunk : GoodIn wsX9_front (wsV RX9 77 RX0 yX0_hasChunk wsX0_hasChunk) := goodIn_app (goodIn_of _ (by decide +kernel)) ggX9_front_X0_hasChunk
set_option maxRecDepth 20000 in
theorem ggX9_front_X0_dataOf : GoodIn wsX9_front wsX0_dataOf := goodIn_r _ [24, 25, 26, 27, 28, 15, 16, 17, 18, 7, 19, 9, 11, 12, 13, 14, 29, 30, 31, 32, 33, 34, 35, 36, 37, 38, 66, 67, 68, 58, 59, 60, 61, 62, 63, 64, 65, 69, 70] (by decide +kernel) (by decide +kernel)
set_option maxRecDepth 20000 in
theorem gX9_front_X0_dataOf : GoodIn wsX9_front (wsV RX9 94 RX0 yX0_dataOf wsX0_dataOf) := goodIn_app (goodIn_of _ (by decide +kernel)) ggX9_front_X0_dataOf
set_option maxRecDepth 20000 in
theorem ggX9_front_X3_u4 : GoodIn wsX9_front wsX3_u4 := goodIn_r _ [42, 43, 44, 45, 27, 46, 47, 36, 48, 37, 49, 50, 51, 52, 38, 66, 67, 68, 69, 70] (by decide +kernel) (by decide +kernel)
set_option maxRecDepth 20000 in
theorem gX9_front_X3_u4 : GoodIn wsX9_front (wsV RX9 158 RX3 yX3_u4 wsX3_u4) := goodIn_app (goodIn_of _ (by decide +kernel)) ggX9_front_X3_u4
theorem dX9_front_0 : decode cX9_front 0 = .ok (.aload_n 0, 1) := by decide +kernel
theorem dX9_front_1 : decode cX9_front 1 = .ok (.getfield 24, 3) := by decide +kernel
theorem dX9_front_4 : decode cX9_front 4 = .ok (.ldc 153, 2) := by decide +kernel
theorem dX9_front_6 : decode cX9_front 6 = .ok (.iconst 4, 1) := by decide +kernel
theorem dX9_front_7 : decode cX9_front 7 = .ok (.invokevirtual 154, 3) := by decide +kernel
theorem dX9_front_10 : decode cX9_front 10 = .ok (.istore_n 1, 1) := by decide +kernel
theorem dX9_front_11 : decode cX9_front 11 = .ok (.aload_n 0, 1) := by decide +kernel
theorem dX9_front_12 : decode cX9_front 12 = .ok (.getfield 24, 3) := by decide +kernel
theorem dX9_front_15 : decode cX9_front 15 = .ok (.iload_n 1, 1) := by decide +kernel
theorem dX9_front_16 : decode cX9_front 16 = .ok (.invokevirtual 77, 3) := by decide +kernel
theorem dX9_front_19 : decode cX9_front 19 = .ok (.ifCond .eq 18, 3) := by decide +kernel
theorem dX9_front_22 : decode cX9_front 22 = .ok (.aload_n 0, 1) := by decide +kernel
theorem dX9_front_23 : decode cX9_front 23 = .ok (.getfield 24, 3) := by decide +kernel
theorem dX9_front_26 : decode cX9_front 26 = .ok (.iload_n 1, 1) := by decide +kernel
theorem dX9_front_27 : decode cX9_front 27 = .ok (.invokevirtual 94, 3) := by decide +kernel
theorem dX9_front_30 : decode cX9_front 30 = .ok (.iconst 0, 1) := by decide +kernel
theorem dX9_front_31 : decode cX9_front 31 = .ok (.invokevirtual 158, 3) := by decide +kernel
theorem dX9_front_34 : decode cX9_front 34 = .ok (.goto 6, 3) := by decide +kernel
theorem dX9_front_37 : decode cX9_front 37 = .ok (.ldc2_w 151, 3) := by decide +kernel
theorem dX9_front_40 : decode cX9_front 40 = .ok (.lreturn, 1) := by decide +kernel
set_option maxRecDepth 20000 in
theorem ggX9_release_X0_firstWith : GoodIn wsX9_release wsX0_firstWith := goodIn_r _ [7, 8, 9, 10, 11, 12, 6, 13, 14, 15, 16, 17, 18, 57, 58, 59, 60, 61, 62, 63, 64] (by decide +kernel) (by decide +kernel)
set_option maxRecDepth 20000 in
theorem gX9_release_X0_firstWith : GoodIn wsX9_release (wsV RX9 154 RX0 yX0_firstWith wsX0_firstWith) := goodIn_app (goodIn_of _ (by decide +kernel)) ggX9_release_X0_firstWith
set_option maxRecDepth 20000 in
theorem ggX9_release_X0_hasChunk : GoodIn wsX9_release wsX0_hasChunk := goodIn_r _ [18, 8, 57, 58, 59, 60, 61, 62, 63, 64] (by decide +kernel) (by decide +kernel)
set_option maxRecDepth 20000 in
theorem gX9_release_X0_hasChunk : GoodIn wsX9_release (wsV RX9 77 RX0 yX0_hasChunk wsX0_hasChunk) := goodIn_app (goodIn_of _ (by decide +kernel)) ggX9_release_X0_hasChunk
set_option maxRecDepth 20000 in
theorem ggX9_release_X0_dataOf : GoodIn wsX9_release wsX0_dataOf := goodIn_r _ [23, 24, 25, 26, 27, 14, 15, 16, 17, 6, 18, 8, 10, 11, 12, 13, 28, 29, 30, 31, 32, 33, 34, 35, 36, 37, 65, 66, 67, 57, 58, 59, 60, 61, 62, 63, 64, 68, 69] (by decide +kernel) (by decide +kernel)
set_option maxRecDepth 20000 in
theorem gX9_release_X0_dataOf : GoodIn wsX9_release (wsV RX9 94 RX0 yX0_dataOf wsX0_dataOf) := goodIn_app (goodIn_of _ (by decide +kernel)) ggX9_release_X0_dataOf
set_option maxRecDepth 20000 in
theorem ggX9_release_X3_u2 : GoodIn wsX9_release wsX3_u2 := goodIn_r _ [41, 42, 43, 44, 26, 45, 46, 35, 47, 36, 48, 49, 50, 51, 37, 65, 66, 67, 68, 69] (by decide +kernel) (by decide +kernel)
set_option maxRecDepth 20000 in
theorem gX9_release_X3_u2 : GoodIn wsX9_release (wsV RX9 163 RX3 yX3_u2 wsX3_u2) := goodIn_app (goodIn_of _ (by decide +kernel)) ggX9_release_X3_u2
theorem dX9_release_0 : decode cX9_release 0 = .ok (.aload_n 0, 1) := by decide +kernel
theorem dX9_release_1 : decode cX9_release 1 = .ok (.getfield 24, 3) := by decide +kernel
theorem dX9_release_4 : decode cX9_release 4 = .ok (.ldc 162, 2) := by decide +kernel
theorem dX9_release_6 : decode cX9_release 6 = .ok (.iconst 2, 1) := by decide +kernel
theorem dX9_release_7 : decode cX9_release 7 = .ok (.invokevirtual 154, 3) := by decide +kernel
theorem dX9_release_10 : decode cX9_release 10 = .ok (.istore_n 1, 1) := by decide +kernel
theorem dX9_release_11 : decode cX9_release 11 = .ok (.aload_n 0, 1) := by decide +kernel
theorem dX9_release_12 : decode cX9_release 12 = .ok (.getfield 24, 3) := by decide +kernel
theorem dX9_release_15 : decode cX9_release 15 = .ok (.iload_n 1, 1) := by decide +kernel
theorem dX9_release_16 : decode cX9_release 16 = .ok (.invokevirtual 77, 3) := by decide +kernel
theorem dX9_release_19 : decode cX9_release 19 = .ok (.ifCond .eq 18, 3) := by decide +kernel
theorem dX9_release_22 : decode cX9_release 22 = .ok (.aload_n 0, 1) := by decide +kernel
theorem dX9_release_23 : decode cX9_release 23 = .ok (.getfield 24, 3) := by decide +kernel
theorem dX9_release_26 : decode cX9_release 26 = .ok (.iload_n 1, 1) := by decide +kernel
theorem dX9_release_27 : decode cX9_release 27 = .ok (.invokevirtual 94, 3) := by decide +kernel
theorem dX9_release_30 : decode cX9_release 30 = .ok (.iconst 0, 1) := by decide +kernel
theorem dX9_release_31 : decode cX9_release 31 = .ok (.invokevirtual 163, 3) := by decide +kernel
theorem dX9_release_34 : decode cX9_release 34 = .ok (.goto 5, 3) := by decide +kernel
theorem dX9_release_37 : decode cX9_release 37 = .ok (.bipush (-2), 2) := by decide +kernel
theorem dX9_release_39 : decode cX9_release 39 = .ok (.ireturn, 1) := by decide +kernel
set_option maxRecDepth 20000 in
theorem ggX9_colour_X0_firstOf : GoodIn wsX9_colour wsX0_firstOf := goodIn_r _ [8, 9, 10, 64, 65, 66, 67, 68, 69, 70, 71] (by decide +kernel) (by decide +kernel)
set_option maxRecDepth 20000 in
theorem gX9_colour_X0_firstOf : GoodIn wsX9_colour (wsV RX9 167 RX0 yX0_firstOf wsX0_firstOf) := goodIn_app (goodIn_of _ (by decide +kernel)) ggX9_colour_X0_firstOf
set_option maxRecDepth 20000 in
theorem ggX9_colour_X0_dataOf : GoodIn wsX9_colour wsX0_dataOf := goodIn_r _ [14, 15, 16, 17, 18, 19, 20, 21, 22, 7, 23, 9, 24, 25, 26, 27, 28, 29, 30, 31, 32, 33, 34, 35, 36, 37, 61, 62, 63, 64, 65, 66, 67, 68, 69, 70, 71, 72, 73] (by decide +kernel) (by decide +kernel)
set_option maxRecDepth 20000 in
theorem gX9_colour_X0_dataOf : GoodIn wsX9_colour (wsV RX9 94 RX0 yX0_dataOf wsX0_dataOf) := goodIn_app (goodIn_of _ (by decide +kernel)) ggX9_colour_X0_dataOf
set_option maxRecDepth 20000 in
theorem ggX9_colour_X3_u2 : GoodIn wsX9_colour wsX3_u2 := goodIn_r _ [41, 42, 43, 44, 17, 45, 46, 35, 47, 36, 48, 49, 50, 51, 37, 61, 62, 63, 72, 73] (by decide +kernel) (by decide +kernel)
set_option maxRecDepth 20000 in
theorem gX9_colour_X3_u2 : GoodIn wsX9_colour (wsV RX9 163 RX3 yX3_u2 wsX3_u2) := goodIn_app (goodIn_of _ (by decide +kernel)) ggX9_colour_X3_u2
set_option maxRecDepth 20000 in
theorem ggX9_colour_X3_at : GoodIn wsX9_colour wsX3_at := goodIn_r _ [55, 42, 43, 44, 17, 45, 46, 35, 47, 36, 48, 49, 50, 51, 37, 61, 62, 63, 72, 73] (by decide +kernel) (by decide +kernel)
set_option maxRecDepth 20000 in
theorem gX9_colour_X3_at : GoodIn wsX9_colour (wsV RX9 104 RX3 yX3_at wsX3_at) := goodIn_app (goodIn_of _ (by decide +kernel)) ggX9_colour_X3_at
theorem dX9_colour_0 : decode cX9_colour 0 = .ok (.iload_n 1, 1) := by decide +kernel
theorem dX9_colour_1 : decode cX9_colour 1 = .ok (.ifCond .ge 5, 3) := by decide +kernel
theorem dX9_colour_4 : decode cX9_colour 4 = .ok (.iconst (-1), 1) := by decide +kernel
theorem dX9_colour_5 : decode cX9_colour 5 = .ok (.ireturn, 1) := by decide +kernel
theorem dX9_colour_6 : decode cX9_colour 6 = .ok (.aload_n 0, 1) := by decide +kernel
theorem dX9_colour_7 : decode cX9_colour 7 = .ok (.getfield 24, 3) := by decide +kernel
theorem dX9_colour_10 : decode cX9_colour 10 = .ok (.aload_n 0, 1) := by decide +kernel
theorem dX9_colour_11 : decode cX9_colour 11 = .ok (.getfield 24, 3) := by decide +kernel
theorem dX9_colour_14 : decode cX9_colour 14 = .ok (.ldc 166, 2) := by decide +kernel
theorem dX9_colour_16 : decode cX9_colour 16 = .ok (.invokevirtual 167, 3) := by decide +kernel
theorem dX9_colour_19 : decode cX9_colour 19 = .ok (.invokevirtual 94, 3) := by decide +kernel
theorem dX9_colour_22 : decode cX9_colour 22 = .ok (.astore_n 2, 1) := by decide +kernel
theorem dX9_colour_23 : decode cX9_colour 23 = .ok (.iload_n 1, 1) := by decide +kernel
theorem dX9_colour_24 : decode cX9_colour 24 = .ok (.aload_n 2, 1) := by decide +kernel
theorem dX9_colour_25 : decode cX9_colour 25 = .ok (.getfield 170, 3) := by decide +kernel
theorem dX9_colour_28 : decode cX9_colour 28 = .ok (.iconst 3, 1) := by decide +kernel
theorem dX9_colour_29 : decode cX9_colour 29 = .ok (.idiv, 1) := by decide +kernel
theorem dX9_colour_30 : decode cX9_colour 30 = .ok (.if_icmp .lt 6, 3) := by decide +kernel
theorem dX9_colour_33 : decode cX9_colour 33 = .ok (.bipush (-2), 2) := by decide +kernel
theorem dX9_colour_35 : decode cX9_colour 35 = .ok (.ireturn, 1) := by decide +kernel
theorem dX9_colour_36 : decode cX9_colour 36 = .ok (.aload_n 2, 1) := by decide +kernel
theorem dX9_colour_37 : decode cX9_colour 37 = .ok (.iconst 3, 1) := by decide +kernel
theorem dX9_colour_38 : decode cX9_colour 38 = .ok (.iload_n 1, 1) := by decide +kernel
theorem dX9_colour_39 : decode cX9_colour 39 = .ok (.imul, 1) := by decide +kernel
theorem dX9_colour_40 : decode cX9_colour 40 = .ok (.invokevirtual 163, 3) := by decide +kernel
theorem dX9_colour_43 : decode cX9_colour 43 = .ok (.bipush 8, 2) := by decide +kernel
theorem dX9_colour_45 : decode cX9_colour 45 = .ok (.ishl, 1) := by decide +kernel
theorem dX9_colour_46 : decode cX9_colour 46 = .ok (.aload_n 2, 1) := by decide +kernel
theorem dX9_colour_47 : decode cX9_colour 47 = .ok (.iconst 3, 1) := by decide +kernel
theorem dX9_colour_48 : decode cX9_colour 48 = .ok (.iload_n 1, 1) := by decide +kernel
theorem dX9_colour_49 : decode cX9_colour 49 = .ok (.imul, 1) := by decide +kernel
theorem dX9_colour_50 : decode cX9_colour 50 = .ok (.iconst 2, 1) := by decide +kernel
theorem dX9_colour_51 : decode cX9_colour 51 = .ok (.iadd, 1) := by decide +kernel
theorem dX9_colour_52 : decode cX9_colour 52 = .ok (.invokevirtual 104, 3) := by decide +kernel
theorem dX9_colour_55 : decode cX9_colour 55 = .ok (.ior, 1) := by decide +kernel
theorem dX9_colour_56 : decode cX9_colour 56 = .ok (.ireturn, 1) := by decide +kernel
set_option maxRecDepth 20000 in
theorem ggX9_scaled_X9_isNumber : GoodIn wsX9_scaled wsX9_isNumber := goodIn_r _ [11, 12] (by decide +kernel) (by decide +kernel)
set_option maxRecDepth 20000 in
theorem gX9_scaled_X9_isNumber : GoodIn wsX9_scaled (va_wsS RX9 171 yX9_isNumber wsX9_isNumber) := goodIn_app (goodIn_of _ (by decide +kernel)) ggX9_scaled_X9_isNumber
set_option maxRecDepth 20000 in
theorem ggX9_scaled_X9_isSide : GoodIn wsX9_scaled wsX9_isSide := goodIn_r _ [15, 7] (by decide +kernel) (by decide +kernel)
set_option maxRecDepth 20000 in
theorem gX9_scaled_X9_isSide : GoodIn wsX9_scaled (va_wsS RX9 175 yX9_isSide wsX9_isSide) := goodIn_app (goodIn_of _ (by decide +kernel)) ggX9_scaled_X9_isSide
set_option maxRecDepth 20000 in
theorem ggX9_scaled_X9_isAxis : GoodIn wsX9_scaled wsX9_isAxis := goodIn_r _ [18] (by decide +kernel) (by decide +kernel)
set_option maxRecDepth 20000 in
theorem gX9_scaled_X9_isAxis : GoodIn wsX9_scaled (va_wsS RX9 134 yX9_isAxis wsX9_isAxis) := goodIn_app (goodIn_of _ (by decide +kernel)) ggX9_scaled_X9_isAxis
set_option maxRecDepth 20000 in
theorem ggX9_scaled_X0_entryOf : GoodIn wsX9_scaled wsX0_entryOf := goodIn_r _ [23, 24, 25, 26, 186, 187, 188, 189, 190, 191, 192, 193] (by decide +kernel) (by decide +kernel)
set_option maxRecDepth 20000 in
theorem gX9_scaled_X0_entryOf : GoodIn wsX9_scaled (wsV RX9 130 RX0 yX0_entryOf wsX0_entryOf) := goodIn_app (goodIn_of _ (by decide +kernel)) ggX9_scaled_X0_entryOf
set_option maxRecDepth 20000 in
theorem ggX9_scaled_X0_hasEntry : GoodIn wsX9_scaled wsX0_hasEntry := goodIn_r _ [30, 24, 186, 187, 188, 189, 190, 191, 192, 193] (by decide +kernel) (by decide +kernel)
set_option maxRecDepth 20000 in
theorem gX9_scaled_X0_hasEntry : GoodIn wsX9_scaled (wsV RX9 107 RX0 yX0_hasEntry wsX0_hasEntry) := goodIn_app (goodIn_of _ (by decide +kernel)) ggX9_scaled_X0_hasEntry
set_option maxRecDepth 20000 in
theorem ggX9_scaled_X0_kindOf : GoodIn wsX9_scaled wsX0_kindOf := goodIn_r _ [34, 35, 36, 37, 38, 22, 39, 40, 186, 187, 188, 189, 190, 191, 192, 193] (by decide +kernel) (by decide +kernel)
set_option maxRecDepth 20000 in
theorem gX9_scaled_X0_kindOf : GoodIn wsX9_scaled (wsV RX9 81 RX0 yX0_kindOf wsX0_kindOf) := goodIn_app (goodIn_of _ (by decide +kernel)) ggX9_scaled_X0_kindOf
set_option maxRecDepth 20000 in
theorem ggX9_scaled_X0_dataOf : GoodIn wsX9_scaled wsX0_dataOf := goodIn_r _ [44, 45, 46, 47, 48, 49, 36, 37, 38, 22, 39, 40, 50, 51, 52, 53, 54, 55, 56, 57, 58, 59, 60, 61, 62, 63, 194, 195, 196, 186, 187, 188, 189, 190, 191, 192, 193, 197, 198] (by decide +kernel) (by decide +kernel)
set_option maxRecDepth 20000 in
theorem gX9_scaled_X0_dataOf : GoodIn wsX9_scaled (wsV RX9 94 RX0 yX0_dataOf wsX0_dataOf) := goodIn_app (goodIn_of _ (by decide +kernel)) ggX9_scaled_X0_dataOf
set_option maxRecDepth 20000 in
theorem ggX9_scaled_X4_measure : GoodIn wsX9_scaled wsX4_measure := goodIn_r _ [67, 68, 69, 70, 66, 71, 72, 73, 74, 75, 47, 76, 77, 78, 79, 80, 81, 61, 82, 62, 83, 84, 85, 86, 63, 87, 88, 89, 90, 91, 92, 93, 94, 95, 96, 97, 98, 99, 100, 101, 102, 103, 104, 105, 106, 107, 108, 109, 110, 111, 112, 113, 114, 115, 116, 117, 118, 119, 120, 194, 195, 196, 197, 198] (by decide +kernel) (by decide +kernel)
set_option maxRecDepth 20000 in
theorem gX9_scaled_X4_measure : GoodIn wsX9_scaled (va_wsS RX9 137 yX4_measure wsX4_measure) := goodIn_app (goodIn_of _ (by decide +kernel)) ggX9_scaled_X4_measure
set_option maxRecDepth 20000 in
theorem ggX9_scaled_X0_firstOf : GoodIn wsX9_scaled wsX0_firstOf := goodIn_r _ [124, 40, 35, 186, 187, 188, 189, 190, 191, 192, 193] (by decide +kernel) (by decide +kernel)
set_option maxRecDepth 20000 in
theorem gX9_scaled_X0_firstOf : GoodIn wsX9_scaled (wsV RX9 167 RX0 yX0_firstOf wsX0_firstOf) := goodIn_app (goodIn_of _ (by decide +kernel)) ggX9_scaled_X0_firstOf
set_option maxRecDepth 20000 in
theorem ggX9_scaled_X8_rowOf : GoodIn wsX9_scaled wsX8_rowOf := goodIn_r _ [128, 129, 130, 74, 75, 47, 76, 77, 78, 79, 80, 81, 61, 82, 62, 83, 84, 85, 86, 63, 194, 195, 196, 197, 198] (by decide +kernel) (by decide +kernel)
set_option maxRecDepth 20000 in
theorem gX9_scaled_X8_rowOf : GoodIn wsX9_scaled (va_wsS RX9 180 yX8_rowOf wsX8_rowOf) := goodIn_app (goodIn_of _ (by decide +kernel)) ggX9_scaled_X8_rowOf
set_option maxRecDepth 20000 in
theorem ggX9_scaled_X8_ratioOn : GoodIn wsX9_scaled wsX8_ratioOn := goodIn_r _ [133, 134, 135, 136, 130, 74, 75, 47, 76, 77, 78, 79, 80, 81, 61, 82, 62, 83, 84, 85, 86, 63, 137, 138, 139, 140, 58, 59, 141, 142, 143, 144, 127, 145, 146, 147, 148, 149, 150, 151, 152, 153, 154, 155, 156, 157, 158, 159, 160, 161, 162, 163, 164, 165, 166, 167, 168, 169, 170, 171, 172, 173, 174, 199, 200, 194, 195, 196, 197, 198] (by decide +kernel) (by decide +kernel)
set_option maxRecDepth 20000 in
theorem gX9_scaled_X8_ratioOn : GoodIn wsX9_scaled (va_wsS RX9 188 yX8_ratioOn wsX8_ratioOn) := goodIn_app (goodIn_of _ (by decide +kernel)) ggX9_scaled_X8_ratioOn
set_option maxRecDepth 20000 in
theorem ggX9_scaled_X5_isProper : GoodIn wsX9_scaled wsX5_isProper := goodIn_r _ [154, 141, 142, 199, 200] (by decide +kernel) (by decide +kernel)
set_option maxRecDepth 20000 in
theorem gX9_scaled_X5_isProper : GoodIn wsX9_scaled (wsV RX9 192 RX5 yX5_isProper wsX5_isProper) := goodIn_app (goodIn_of _ (by decide +kernel)) ggX9_scaled_X5_isProper
set_option maxRecDepth 20000 in
theorem ggX9_scaled_X5_of : GoodIn wsX9_scaled wsX5_of := goodIn_r _ [179, 142, 141, 180, 199, 200] (by decide +kernel) (by decide +kernel)
set_option maxRecDepth 20000 in
theorem gX9_scaled_X5_of : GoodIn wsX9_scaled (wsV RX9 198 RX5 yX5_of wsX5_of) := goodIn_app (goodIn_of _ (by decide +kernel)) ggX9_scaled_X5_of
theorem dX9_scaled_0 : decode cX9_scaled 0 = .ok (.lload_n 1, 1) := by decide +kernel
theorem dX9_scaled_1 : decode cX9_scaled 1 = .ok (.invokestatic 171, 3) := by decide +kernel
theorem dX9_scaled_4 : decode cX9_scaled 4 = .ok (.ifCond .eq 28, 3) := by decide +kernel
theorem dX9_scaled_7 : decode cX9_scaled 7 = .ok (.iload_n 3, 1) := by decide +kernel
theorem dX9_scaled_8 : decode cX9_scaled 8 = .ok (.i2l, 1) := by decide +kernel
theorem dX9_scaled_9 : decode cX9_scaled 9 = .ok (.invokestatic 175, 3) := by decide +kernel
theorem dX9_scaled_12 : decode cX9_scaled 12 = .ok (.ifCond .eq 20, 3) := by decide +kernel
theorem dX9_scaled_15 : decode cX9_scaled 15 = .ok (.iload 4, 2) := by decide +kernel
theorem dX9_scaled_17 : decode cX9_scaled 17 = .ok (.i2l, 1) := by decide +kernel
theorem dX9_scaled_18 : decode cX9_scaled 18 = .ok (.invokestatic 175, 3) := by decide +kernel
theorem dX9_scaled_21 : decode cX9_scaled 21 = .ok (.ifCond .eq 11, 3) := by decide +kernel
theorem dX9_scaled_24 : decode cX9_scaled 24 = .ok (.iload 5, 2) := by decide +kernel
theorem dX9_scaled_26 : decode cX9_scaled 26 = .ok (.invokestatic 134, 3) := by decide +kernel
theorem dX9_scaled_29 : decode cX9_scaled 29 = .ok (.ifCond .ne 7, 3) := by decide +kernel
theorem dX9_scaled_32 : decode cX9_scaled 32 = .ok (.ldc2_w 110, 3) := by decide +kernel
theorem dX9_scaled_35 : decode cX9_scaled 35 = .ok (.lreturn, 1) := by decide +kernel
theorem dX9_scaled_36 : decode cX9_scaled 36 = .ok (.aload_n 0, 1) := by decide +kernel
theorem dX9_scaled_37 : decode cX9_scaled 37 = .ok (.getfield 24, 3) := by decide +kernel
theorem dX9_scaled_40 : decode cX9_scaled 40 = .ok (.ldc 178, 2) := by decide +kernel
theorem dX9_scaled_42 : decode cX9_scaled 42 = .ok (.lload_n 1, 1) := by decide +kernel
theorem dX9_scaled_43 : decode cX9_scaled 43 = .ok (.invokevirtual 130, 3) := by decide +kernel
theorem dX9_scaled_46 : decode cX9_scaled 46 = .ok (.istore 6, 2) := by decide +kernel
theorem dX9_scaled_48 : decode cX9_scaled 48 = .ok (.aload_n 0, 1) := by decide +kernel
theorem dX9_scaled_49 : decode cX9_scaled 49 = .ok (.getfield 24, 3) := by decide +kernel
theorem dX9_scaled_52 : decode cX9_scaled 52 = .ok (.iload 6, 2) := by decide +kernel
theorem dX9_scaled_54 : decode cX9_scaled 54 = .ok (.invokevirtual 107, 3) := by decide +kernel
theorem dX9_scaled_57 : decode cX9_scaled 57 = .ok (.ifCond .ne 7, 3) := by decide +kernel
theorem dX9_scaled_60 : decode cX9_scaled 60 = .ok (.ldc2_w 151, 3) := by decide +kernel
theorem dX9_scaled_63 : decode cX9_scaled 63 = .ok (.lreturn, 1) := by decide +kernel
theorem dX9_scaled_64 : decode cX9_scaled 64 = .ok (.aload_n 0, 1) := by decide +kernel
theorem dX9_scaled_65 : decode cX9_scaled 65 = .ok (.getfield 24, 3) := by decide +kernel
theorem dX9_scaled_68 : decode cX9_scaled 68 = .ok (.getfield 120, 3) := by decide +kernel
theorem dX9_scaled_71 : decode cX9_scaled 71 = .ok (.iload 6, 2) := by decide +kernel
theorem dX9_scaled_73 : decode cX9_scaled 73 = .ok (.iaload, 1) := by decide +kernel
theorem dX9_scaled_74 : decode cX9_scaled 74 = .ok (.istore 7, 2) := by decide +kernel
theorem dX9_scaled_76 : decode cX9_scaled 76 = .ok (.aload_n 0, 1) := by decide +kernel
theorem dX9_scaled_77 : decode cX9_scaled 77 = .ok (.getfield 24, 3) := by decide +kernel
theorem dX9_scaled_80 : decode cX9_scaled 80 = .ok (.iload 7, 2) := by decide +kernel
theorem dX9_scaled_82 : decode cX9_scaled 82 = .ok (.invokevirtual 81, 3) := by decide +kernel
theorem dX9_scaled_85 : decode cX9_scaled 85 = .ok (.aload_n 0, 1) := by decide +kernel
theorem dX9_scaled_86 : decode cX9_scaled 86 = .ok (.getfield 24, 3) := by decide +kernel
theorem dX9_scaled_89 : decode cX9_scaled 89 = .ok (.iload 7, 2) := by decide +kernel
theorem dX9_scaled_91 : decode cX9_scaled 91 = .ok (.invokevirtual 94, 3) := by decide +kernel
theorem dX9_scaled_94 : decode cX9_scaled 94 = .ok (.iconst 0, 1) := by decide +kernel
theorem dX9_scaled_95 : decode cX9_scaled 95 = .ok (.invokestatic 137, 3) := by decide +kernel
theorem dX9_scaled_98 : decode cX9_scaled 98 = .ok (.lstore 8, 2) := by decide +kernel
theorem dX9_scaled_100 : decode cX9_scaled 100 = .ok (.aload_n 0, 1) := by decide +kernel
theorem dX9_scaled_101 : decode cX9_scaled 101 = .ok (.getfield 24, 3) := by decide +kernel
theorem dX9_scaled_104 : decode cX9_scaled 104 = .ok (.iload 7, 2) := by decide +kernel
theorem dX9_scaled_106 : decode cX9_scaled 106 = .ok (.invokevirtual 81, 3) := by decide +kernel
theorem dX9_scaled_109 : decode cX9_scaled 109 = .ok (.aload_n 0, 1) := by decide +kernel
theorem dX9_scaled_110 : decode cX9_scaled 110 = .ok (.getfield 24, 3) := by decide +kernel
theorem dX9_scaled_113 : decode cX9_scaled 113 = .ok (.iload 7, 2) := by decide +kernel
theorem dX9_scaled_115 : decode cX9_scaled 115 = .ok (.invokevirtual 94, 3) := by decide +kernel
theorem dX9_scaled_118 : decode cX9_scaled 118 = .ok (.iconst 1, 1) := by decide +kernel
theorem dX9_scaled_119 : decode cX9_scaled 119 = .ok (.invokestatic 137, 3) := by decide +kernel
theorem dX9_scaled_122 : decode cX9_scaled 122 = .ok (.lstore 10, 2) := by decide +kernel
theorem dX9_scaled_124 : decode cX9_scaled 124 = .ok (.lload 8, 2) := by decide +kernel
theorem dX9_scaled_126 : decode cX9_scaled 126 = .ok (.lconst 0, 1) := by decide +kernel
theorem dX9_scaled_127 : decode cX9_scaled 127 = .ok (.lcmp, 1) := by decide +kernel
theorem dX9_scaled_128 : decode cX9_scaled 128 = .ok (.ifCond .le 10, 3) := by decide +kernel
theorem dX9_scaled_131 : decode cX9_scaled 131 = .ok (.lload 10, 2) := by decide +kernel
theorem dX9_scaled_133 : decode cX9_scaled 133 = .ok (.lconst 0, 1) := by decide +kernel
theorem dX9_scaled_134 : decode cX9_scaled 134 = .ok (.lcmp, 1) := by decide +kernel
theorem dX9_scaled_135 : decode cX9_scaled 135 = .ok (.ifCond .gt 7, 3) := by decide +kernel
theorem dX9_scaled_138 : decode cX9_scaled 138 = .ok (.ldc2_w 151, 3) := by decide +kernel
theorem dX9_scaled_141 : decode cX9_scaled 141 = .ok (.lreturn, 1) := by decide +kernel
theorem dX9_scaled_142 : decode cX9_scaled 142 = .ok (.iload 5, 2) := by decide +kernel
theorem dX9_scaled_144 : decode cX9_scaled 144 = .ok (.ifCond .ne 8, 3) := by decide +kernel
theorem dX9_scaled_147 : decode cX9_scaled 147 = .ok (.lload 8, 2) := by decide +kernel
theorem dX9_scaled_149 : decode cX9_scaled 149 = .ok (.goto 5, 3) := by decide +kernel
theorem dX9_scaled_152 : decode cX9_scaled 152 = .ok (.lload 10, 2) := by decide +kernel
theorem dX9_scaled_154 : decode cX9_scaled 154 = .ok (.lstore 12, 2) := by decide +kernel
theorem dX9_scaled_156 : decode cX9_scaled 156 = .ok (.aload_n 0, 1) := by decide +kernel
theorem dX9_scaled_157 : decode cX9_scaled 157 = .ok (.getfield 24, 3) := by decide +kernel
theorem dX9_scaled_160 : decode cX9_scaled 160 = .ok (.aload_n 0, 1) := by decide +kernel
theorem dX9_scaled_161 : decode cX9_scaled 161 = .ok (.getfield 24, 3) := by decide +kernel
theorem dX9_scaled_164 : decode cX9_scaled 164 = .ok (.ldc 179, 2) := by decide +kernel
theorem dX9_scaled_166 : decode cX9_scaled 166 = .ok (.invokevirtual 167, 3) := by decide +kernel
theorem dX9_scaled_169 : decode cX9_scaled 169 = .ok (.invokevirtual 94, 3) := by decide +kernel
theorem dX9_scaled_172 : decode cX9_scaled 172 = .ok (.astore 14, 2) := by decide +kernel
theorem dX9_scaled_174 : decode cX9_scaled 174 = .ok (.aload 14, 2) := by decide +kernel
theorem dX9_scaled_176 : decode cX9_scaled 176 = .ok (.lload_n 1, 1) := by decide +kernel
theorem dX9_scaled_177 : decode cX9_scaled 177 = .ok (.invokestatic 180, 3) := by decide +kernel
theorem dX9_scaled_180 : decode cX9_scaled 180 = .ok (.istore 15, 2) := by decide +kernel
theorem dX9_scaled_182 : decode cX9_scaled 182 = .ok (.iload 15, 2) := by decide +kernel
theorem dX9_scaled_184 : decode cX9_scaled 184 = .ok (.ifCond .ge 6, 3) := by decide +kernel
theorem dX9_scaled_187 : decode cX9_scaled 187 = .ok (.lload 12, 2) := by decide +kernel
theorem dX9_scaled_189 : decode cX9_scaled 189 = .ok (.lreturn, 1) := by decide +kernel
theorem dX9_scaled_190 : decode cX9_scaled 190 = .ok (.lload 8, 2) := by decide +kernel
theorem dX9_scaled_192 : decode cX9_scaled 192 = .ok (.ldc2_w 186, 3) := by decide +kernel
theorem dX9_scaled_195 : decode cX9_scaled 195 = .ok (.lcmp, 1) := by decide +kernel
theorem dX9_scaled_196 : decode cX9_scaled 196 = .ok (.ifCond .gt 12, 3) := by decide +kernel
theorem dX9_scaled_199 : decode cX9_scaled 199 = .ok (.lload 10, 2) := by decide +kernel
theorem dX9_scaled_201 : decode cX9_scaled 201 = .ok (.ldc2_w 186, 3) := by decide +kernel
theorem dX9_scaled_204 : decode cX9_scaled 204 = .ok (.lcmp, 1) := by decide +kernel
theorem dX9_scaled_205 : decode cX9_scaled 205 = .ok (.ifCond .le 7, 3) := by decide +kernel
theorem dX9_scaled_208 : decode cX9_scaled 208 = .ok (.ldc2_w 151, 3) := by decide +kernel
theorem dX9_scaled_211 : decode cX9_scaled 211 = .ok (.lreturn, 1) := by decide +kernel
theorem dX9_scaled_212 : decode cX9_scaled 212 = .ok (.aload 14, 2) := by decide +kernel
theorem dX9_scaled_214 : decode cX9_scaled 214 = .ok (.iload 15, 2) := by decide +kernel
theorem dX9_scaled_216 : decode cX9_scaled 216 = .ok (.iload_n 3, 1) := by decide +kernel
theorem dX9_scaled_217 : decode cX9_scaled 217 = .ok (.iload 4, 2) := by decide +kernel
theorem dX9_scaled_219 : decode cX9_scaled 219 = .ok (.invokestatic 188, 3) := by decide +kernel
theorem dX9_scaled_222 : decode cX9_scaled 222 = .ok (.astore 16, 2) := by decide +kernel
theorem dX9_scaled_224 : decode cX9_scaled 224 = .ok (.aload 16, 2) := by decide +kernel
theorem dX9_scaled_226 : decode cX9_scaled 226 = .ok (.invokevirtual 192, 3) := by decide +kernel
theorem dX9_scaled_229 : decode cX9_scaled 229 = .ok (.ifCond .eq 13, 3) := by decide +kernel
theorem dX9_scaled_232 : decode cX9_scaled 232 = .ok (.aload 16, 2) := by decide +kernel
theorem dX9_scaled_234 : decode cX9_scaled 234 = .ok (.lload 12, 2) := by decide +kernel
theorem dX9_scaled_236 : decode cX9_scaled 236 = .ok (.invokevirtual 198, 3) := by decide +kernel
theorem dX9_scaled_239 : decode cX9_scaled 239 = .ok (.goto 6, 3) := by decide +kernel
theorem dX9_scaled_242 : decode cX9_scaled 242 = .ok (.ldc2_w 151, 3) := by decide +kernel
theorem dX9_scaled_245 : decode cX9_scaled 245 = .ok (.lreturn, 1) := by decide +kernel
set_option maxRecDepth 20000 in
theorem ggX9_add_X2_isKind : GoodIn wsX9_add wsX2_isKind := goodIn_r _ [9, 10, 11, 8, 12] (by decide +kernel) (by decide +kernel)
set_option maxRecDepth 20000 in
theorem gX9_add_X2_isKind : GoodIn wsX9_add (va_wsS RX9 202 yX2_isKind wsX2_isKind) := goodIn_app (goodIn_of _ (by decide +kernel)) ggX9_add_X2_isKind
set_option maxRecDepth 20000 in
theorem ggX9_add_X0_hasChunkRoom : GoodIn wsX9_add wsX0_hasChunkRoom := goodIn_r _ [17, 18, 19, 20, 21, 22, 23, 24, 25, 26, 76, 77, 78, 79, 80, 81, 82, 83, 74, 75] (by decide +kernel) (by decide +kernel)
set_option maxRecDepth 20000 in
theorem gX9_add_X0_hasChunkRoom : GoodIn wsX9_add (wsV RX9 206 RX0 yX0_hasChunkRoom wsX0_hasChunkRoom) := goodIn_app (goodIn_of _ (by decide +kernel)) ggX9_add_X0_hasChunkRoom
set_option maxRecDepth 20000 in
theorem ggX9_add_X6_whole : GoodIn wsX9_add wsX6_whole := goodIn_r _ [30, 31, 32, 33, 26, 34, 35, 36, 37, 38, 39, 40, 41, 42, 43, 84, 85, 86, 74, 75] (by decide +kernel) (by decide +kernel)
set_option maxRecDepth 20000 in
theorem gX9_add_X6_whole : GoodIn wsX9_add (wsV RX9 53 RX6 yX6_whole wsX6_whole) := goodIn_app (goodIn_of _ (by decide +kernel)) ggX9_add_X6_whole
set_option maxRecDepth 20000 in
theorem ggX9_add_X0_addChunk : GoodIn wsX9_add wsX0_addChunk := goodIn_r _ [47, 48, 49, 18, 50, 19, 51, 52, 14, 15, 16, 17, 20, 21, 22, 23, 24, 25, 26, 53, 54, 55, 56, 57, 58, 59, 60, 61, 62, 63, 64, 84, 85, 86, 76, 77, 78, 79, 80, 81, 82, 83, 74, 75] (by decide +kernel) (by decide +kernel)
set_option maxRecDepth 20000 in
theorem gX9_add_X0_addChunk : GoodIn wsX9_add (wsV RX9 209 RX0 yX0_addChunk wsX0_addChunk) := goodIn_app (goodIn_of _ (by decide +kernel)) ggX9_add_X0_addChunk
set_option maxRecDepth 20000 in
theorem ggX9_add_X6_keep : GoodIn wsX9_add wsX6_keep := goodIn_r _ [68, 26, 74, 75] (by decide +kernel) (by decide +kernel)
set_option maxRecDepth 20000 in
theorem gX9_add_X6_keep : GoodIn wsX9_add (wsV RX9 50 RX6 yX6_keep wsX6_keep) := goodIn_app (goodIn_of _ (by decide +kernel)) ggX9_add_X6_keep
theorem dX9_add_0 : decode cX9_add 0 = .ok (.iload_n 1, 1) := by decide +kernel
theorem dX9_add_1 : decode cX9_add 1 = .ok (.invokestatic 202, 3) := by decide +kernel
theorem dX9_add_4 : decode cX9_add 4 = .ok (.ifCond .eq 9, 3) := by decide +kernel
theorem dX9_add_7 : decode cX9_add 7 = .ok (.iload_n 1, 1) := by decide +kernel
theorem dX9_add_8 : decode cX9_add 8 = .ok (.ldc 205, 2) := by decide +kernel
theorem dX9_add_10 : decode cX9_add 10 = .ok (.if_icmp .ne 5, 3) := by decide +kernel
theorem dX9_add_13 : decode cX9_add 13 = .ok (.iconst (-1), 1) := by decide +kernel
theorem dX9_add_14 : decode cX9_add 14 = .ok (.ireturn, 1) := by decide +kernel
theorem dX9_add_15 : decode cX9_add 15 = .ok (.aload_n 0, 1) := by decide +kernel
theorem dX9_add_16 : decode cX9_add 16 = .ok (.getfield 24, 3) := by decide +kernel
theorem dX9_add_19 : decode cX9_add 19 = .ok (.aload_n 0, 1) := by decide +kernel
theorem dX9_add_20 : decode cX9_add 20 = .ok (.getfield 14, 3) := by decide +kernel
theorem dX9_add_23 : decode cX9_add 23 = .ok (.getfield 47, 3) := by decide +kernel
theorem dX9_add_26 : decode cX9_add 26 = .ok (.invokevirtual 206, 3) := by decide +kernel
theorem dX9_add_29 : decode cX9_add 29 = .ok (.ifCond .ne 6, 3) := by decide +kernel
theorem dX9_add_32 : decode cX9_add 32 = .ok (.bipush (-4), 2) := by decide +kernel
theorem dX9_add_34 : decode cX9_add 34 = .ok (.ireturn, 1) := by decide +kernel
theorem dX9_add_35 : decode cX9_add 35 = .ok (.aload_n 0, 1) := by decide +kernel
theorem dX9_add_36 : decode cX9_add 36 = .ok (.getfield 24, 3) := by decide +kernel
theorem dX9_add_39 : decode cX9_add 39 = .ok (.iload_n 1, 1) := by decide +kernel
theorem dX9_add_40 : decode cX9_add 40 = .ok (.aload_n 0, 1) := by decide +kernel
theorem dX9_add_41 : decode cX9_add 41 = .ok (.getfield 14, 3) := by decide +kernel
theorem dX9_add_44 : decode cX9_add 44 = .ok (.invokevirtual 53, 3) := by decide +kernel
theorem dX9_add_47 : decode cX9_add 47 = .ok (.invokevirtual 209, 3) := by decide +kernel
theorem dX9_add_50 : decode cX9_add 50 = .ok (.aload_n 0, 1) := by decide +kernel
theorem dX9_add_51 : decode cX9_add 51 = .ok (.getfield 14, 3) := by decide +kernel
theorem dX9_add_54 : decode cX9_add 54 = .ok (.iconst 0, 1) := by decide +kernel
theorem dX9_add_55 : decode cX9_add 55 = .ok (.invokevirtual 50, 3) := by decide +kernel
theorem dX9_add_58 : decode cX9_add 58 = .ok (.aload_n 0, 1) := by decide +kernel
theorem dX9_add_59 : decode cX9_add 59 = .ok (.getfield 24, 3) := by decide +kernel
theorem dX9_add_62 : decode cX9_add 62 = .ok (.getfield 68, 3) := by decide +kernel
theorem dX9_add_65 : decode cX9_add 65 = .ok (.iconst 1, 1) := by decide +kernel
theorem dX9_add_66 : decode cX9_add 66 = .ok (.isub, 1) := by decide +kernel
theorem dX9_add_67 : decode cX9_add 67 = .ok (.ireturn, 1) := by decide +kernel
set_option maxRecDepth 20000 in
theorem ggX9_mean_X9_isName : GoodIn wsX9_mean wsX9_isName := goodIn_r _ [6, 7, 8, 9, 10, 11, 12, 13, 14, 15, 16, 5, 17, 18] (by decide +kernel) (by decide +kernel)
set_option maxRecDepth 20000 in
theorem gX9_mean_X9_isName : GoodIn wsX9_mean (va_wsS RX9 126 yX9_isName wsX9_isName) := goodIn_app (goodIn_of _ (by decide +kernel)) ggX9_mean_X9_isName
set_option maxRecDepth 20000 in
theorem ggX9_mean_X0_hasChunk : GoodIn wsX9_mean wsX0_hasChunk := goodIn_r _ [23, 24, 46, 47, 48, 49, 50, 51, 52, 53] (by decide +kernel) (by decide +kernel)
set_option maxRecDepth 20000 in
theorem gX9_mean_X0_hasChunk : GoodIn wsX9_mean (wsV RX9 77 RX0 yX0_hasChunk wsX0_hasChunk) := goodIn_app (goodIn_of _ (by decide +kernel)) ggX9_mean_X0_hasChunk
set_option maxRecDepth 20000 in
theorem ggX9_mean_X0_entryOf : GoodIn wsX9_mean wsX0_entryOf := goodIn_r _ [28, 29, 30, 31, 46, 47, 48, 49, 50, 51, 52, 53] (by decide +kernel) (by decide +kernel)
set_option maxRecDepth 20000 in
theorem gX9_mean_X0_entryOf : GoodIn wsX9_mean (wsV RX9 130 RX0 yX0_entryOf wsX0_entryOf) := goodIn_app (goodIn_of _ (by decide +kernel)) ggX9_mean_X0_entryOf
set_option maxRecDepth 20000 in
theorem ggX9_mean_X0_hasEntry : GoodIn wsX9_mean wsX0_hasEntry := goodIn_r _ [35, 29, 46, 47, 48, 49, 50, 51, 52, 53] (by decide +kernel) (by decide +kernel)
set_option maxRecDepth 20000 in
theorem gX9_mean_X0_hasEntry : GoodIn wsX9_mean (wsV RX9 107 RX0 yX0_hasEntry wsX0_hasEntry) := goodIn_app (goodIn_of _ (by decide +kernel)) ggX9_mean_X0_hasEntry
set_option maxRecDepth 20000 in
theorem ggX9_mean_X0_addEntry : GoodIn wsX9_mean wsX0_addEntry := goodIn_r _ [39, 29, 30, 31, 40, 46, 47, 48, 49, 50, 51, 52, 53] (by decide +kernel) (by decide +kernel)
set_option maxRecDepth 20000 in
theorem gX9_mean_X0_addEntry : GoodIn wsX9_mean (wsV RX9 213 RX0 yX0_addEntry wsX0_addEntry) := goodIn_app (goodIn_of _ (by decide +kernel)) ggX9_mean_X0_addEntry
theorem dX9_mean_0 : decode cX9_mean 0 = .ok (.iload_n 1, 1) := by decide +kernel
theorem dX9_mean_1 : decode cX9_mean 1 = .ok (.lload_n 2, 1) := by decide +kernel
theorem dX9_mean_2 : decode cX9_mean 2 = .ok (.invokestatic 126, 3) := by decide +kernel
theorem dX9_mean_5 : decode cX9_mean 5 = .ok (.ifCond .eq 15, 3) := by decide +kernel
theorem dX9_mean_8 : decode cX9_mean 8 = .ok (.aload_n 0, 1) := by decide +kernel
theorem dX9_mean_9 : decode cX9_mean 9 = .ok (.getfield 24, 3) := by decide +kernel
theorem dX9_mean_12 : decode cX9_mean 12 = .ok (.iload 4, 2) := by decide +kernel
theorem dX9_mean_14 : decode cX9_mean 14 = .ok (.invokevirtual 77, 3) := by decide +kernel
theorem dX9_mean_17 : decode cX9_mean 17 = .ok (.ifCond .ne 5, 3) := by decide +kernel
theorem dX9_mean_20 : decode cX9_mean 20 = .ok (.iconst (-1), 1) := by decide +kernel
theorem dX9_mean_21 : decode cX9_mean 21 = .ok (.ireturn, 1) := by decide +kernel
theorem dX9_mean_22 : decode cX9_mean 22 = .ok (.aload_n 0, 1) := by decide +kernel
theorem dX9_mean_23 : decode cX9_mean 23 = .ok (.getfield 24, 3) := by decide +kernel
theorem dX9_mean_26 : decode cX9_mean 26 = .ok (.aload_n 0, 1) := by decide +kernel
theorem dX9_mean_27 : decode cX9_mean 27 = .ok (.getfield 24, 3) := by decide +kernel
theorem dX9_mean_30 : decode cX9_mean 30 = .ok (.iload_n 1, 1) := by decide +kernel
theorem dX9_mean_31 : decode cX9_mean 31 = .ok (.lload_n 2, 1) := by decide +kernel
theorem dX9_mean_32 : decode cX9_mean 32 = .ok (.invokevirtual 130, 3) := by decide +kernel
theorem dX9_mean_35 : decode cX9_mean 35 = .ok (.invokevirtual 107, 3) := by decide +kernel
theorem dX9_mean_38 : decode cX9_mean 38 = .ok (.ifCond .eq 6, 3) := by decide +kernel
theorem dX9_mean_41 : decode cX9_mean 41 = .ok (.bipush (-3), 2) := by decide +kernel
theorem dX9_mean_43 : decode cX9_mean 43 = .ok (.ireturn, 1) := by decide +kernel
theorem dX9_mean_44 : decode cX9_mean 44 = .ok (.aload_n 0, 1) := by decide +kernel
theorem dX9_mean_45 : decode cX9_mean 45 = .ok (.getfield 24, 3) := by decide +kernel
theorem dX9_mean_48 : decode cX9_mean 48 = .ok (.getfield 71, 3) := by decide +kernel
theorem dX9_mean_51 : decode cX9_mean 51 = .ok (.bipush 40, 2) := by decide +kernel
theorem dX9_mean_53 : decode cX9_mean 53 = .ok (.if_icmp .lt 6, 3) := by decide +kernel
theorem dX9_mean_56 : decode cX9_mean 56 = .ok (.bipush (-4), 2) := by decide +kernel
theorem dX9_mean_58 : decode cX9_mean 58 = .ok (.ireturn, 1) := by decide +kernel
theorem dX9_mean_59 : decode cX9_mean 59 = .ok (.aload_n 0, 1) := by decide +kernel
theorem dX9_mean_60 : decode cX9_mean 60 = .ok (.getfield 24, 3) := by decide +kernel
theorem dX9_mean_63 : decode cX9_mean 63 = .ok (.iload_n 1, 1) := by decide +kernel
theorem dX9_mean_64 : decode cX9_mean 64 = .ok (.lload_n 2, 1) := by decide +kernel
theorem dX9_mean_65 : decode cX9_mean 65 = .ok (.iload 4, 2) := by decide +kernel
theorem dX9_mean_67 : decode cX9_mean 67 = .ok (.invokevirtual 213, 3) := by decide +kernel
theorem dX9_mean_70 : decode cX9_mean 70 = .ok (.aload_n 0, 1) := by decide +kernel
theorem dX9_mean_71 : decode cX9_mean 71 = .ok (.getfield 24, 3) := by decide +kernel
theorem dX9_mean_74 : decode cX9_mean 74 = .ok (.getfield 71, 3) := by decide +kernel
theorem dX9_mean_77 : decode cX9_mean 77 = .ok (.iconst 1, 1) := by decide +kernel
theorem dX9_mean_78 : decode cX9_mean 78 = .ok (.isub, 1) := by decide +kernel
theorem dX9_mean_79 : decode cX9_mean 79 = .ok (.ireturn, 1) := by decide +kernel
set_option maxRecDepth 20000 in
theorem ggX9_change_X0_hasChunk : GoodIn wsX9_change wsX0_hasChunk := goodIn_r _ [9, 10, 72, 73, 74, 75, 76, 77, 78, 79] (by decide +kernel) (by decide +kernel)
set_option maxRecDepth 20000 in
theorem gX9_change_X0_hasChunk : GoodIn wsX9_change (wsV RX9 77 RX0 yX0_hasChunk wsX0_hasChunk) := goodIn_app (goodIn_of _ (by decide +kernel)) ggX9_change_X0_hasChunk
set_option maxRecDepth 20000 in
theorem ggX9_change_X0_lengthOf : GoodIn wsX9_change wsX0_lengthOf := goodIn_r _ [14, 15, 16, 6, 7, 8, 9, 10, 72, 73, 74, 75, 76, 77, 78, 79] (by decide +kernel) (by decide +kernel)
set_option maxRecDepth 20000 in
theorem gX9_change_X0_lengthOf : GoodIn wsX9_change (wsV RX9 85 RX0 yX0_lengthOf wsX0_lengthOf) := goodIn_app (goodIn_of _ (by decide +kernel)) ggX9_change_X0_lengthOf
set_option maxRecDepth 20000 in
theorem ggX9_change_X6_room : GoodIn wsX9_change wsX6_room := goodIn_r _ [21, 22, 23, 70, 71] (by decide +kernel) (by decide +kernel)
set_option maxRecDepth 20000 in
theorem gX9_change_X6_room : GoodIn wsX9_change (wsV RX9 39 RX6 yX6_room wsX6_room) := goodIn_app (goodIn_of _ (by decide +kernel)) ggX9_change_X6_room
set_option maxRecDepth 20000 in
theorem ggX9_change_X6_whole : GoodIn wsX9_change wsX6_whole := goodIn_r _ [27, 28, 29, 30, 23, 31, 32, 33, 34, 35, 36, 37, 38, 39, 40, 80, 81, 82, 70, 71] (by decide +kernel) (by decide +kernel)
set_option maxRecDepth 20000 in
theorem gX9_change_X6_whole : GoodIn wsX9_change (wsV RX9 53 RX6 yX6_whole wsX6_whole) := goodIn_app (goodIn_of _ (by decide +kernel)) ggX9_change_X6_whole
set_option maxRecDepth 20000 in
theorem ggX9_change_X0_setData : GoodIn wsX9_change wsX0_setData := goodIn_r _ [44, 45, 46, 15, 10, 47, 12, 13, 8, 14, 16, 6, 7, 9, 48, 18, 19, 20, 21, 22, 23, 49, 50, 51, 52, 53, 54, 55, 56, 57, 58, 59, 60, 80, 81, 82, 72, 73, 74, 75, 76, 77, 78, 79, 70, 71] (by decide +kernel) (by decide +kernel)
set_option maxRecDepth 20000 in
theorem gX9_change_X0_setData : GoodIn wsX9_change (wsV RX9 217 RX0 yX0_setData wsX0_setData) := goodIn_app (goodIn_of _ (by decide +kernel)) ggX9_change_X0_setData
set_option maxRecDepth 20000 in
theorem ggX9_change_X6_keep : GoodIn wsX9_change wsX6_keep := goodIn_r _ [64, 23, 70, 71] (by decide +kernel) (by decide +kernel)
set_option maxRecDepth 20000 in
theorem gX9_change_X6_keep : GoodIn wsX9_change (wsV RX9 50 RX6 yX6_keep wsX6_keep) := goodIn_app (goodIn_of _ (by decide +kernel)) ggX9_change_X6_keep
theorem dX9_change_0 : decode cX9_change 0 = .ok (.aload_n 0, 1) := by decide +kernel
theorem dX9_change_1 : decode cX9_change 1 = .ok (.getfield 24, 3) := by decide +kernel
theorem dX9_change_4 : decode cX9_change 4 = .ok (.iload_n 1, 1) := by decide +kernel
theorem dX9_change_5 : decode cX9_change 5 = .ok (.invokevirtual 77, 3) := by decide +kernel
theorem dX9_change_8 : decode cX9_change 8 = .ok (.ifCond .ne 5, 3) := by decide +kernel
theorem dX9_change_11 : decode cX9_change 11 = .ok (.iconst (-1), 1) := by decide +kernel
theorem dX9_change_12 : decode cX9_change 12 = .ok (.ireturn, 1) := by decide +kernel
theorem dX9_change_13 : decode cX9_change 13 = .ok (.aload_n 0, 1) := by decide +kernel
theorem dX9_change_14 : decode cX9_change 14 = .ok (.getfield 24, 3) := by decide +kernel
theorem dX9_change_17 : decode cX9_change 17 = .ok (.iload_n 1, 1) := by decide +kernel
theorem dX9_change_18 : decode cX9_change 18 = .ok (.invokevirtual 85, 3) := by decide +kernel
theorem dX9_change_21 : decode cX9_change 21 = .ok (.istore_n 2, 1) := by decide +kernel
theorem dX9_change_22 : decode cX9_change 22 = .ok (.aload_n 0, 1) := by decide +kernel
theorem dX9_change_23 : decode cX9_change 23 = .ok (.getfield 14, 3) := by decide +kernel
theorem dX9_change_26 : decode cX9_change 26 = .ok (.getfield 47, 3) := by decide +kernel
theorem dX9_change_29 : decode cX9_change 29 = .ok (.iload_n 2, 1) := by decide +kernel
theorem dX9_change_30 : decode cX9_change 30 = .ok (.isub, 1) := by decide +kernel
theorem dX9_change_31 : decode cX9_change 31 = .ok (.aload_n 0, 1) := by decide +kernel
theorem dX9_change_32 : decode cX9_change 32 = .ok (.getfield 24, 3) := by decide +kernel
theorem dX9_change_35 : decode cX9_change 35 = .ok (.getfield 74, 3) := by decide +kernel
theorem dX9_change_38 : decode cX9_change 38 = .ok (.invokevirtual 39, 3) := by decide +kernel
theorem dX9_change_41 : decode cX9_change 41 = .ok (.if_icmp .le 6, 3) := by decide +kernel
theorem dX9_change_44 : decode cX9_change 44 = .ok (.bipush (-4), 2) := by decide +kernel
theorem dX9_change_46 : decode cX9_change 46 = .ok (.ireturn, 1) := by decide +kernel
theorem dX9_change_47 : decode cX9_change 47 = .ok (.aload_n 0, 1) := by decide +kernel
theorem dX9_change_48 : decode cX9_change 48 = .ok (.getfield 24, 3) := by decide +kernel
theorem dX9_change_51 : decode cX9_change 51 = .ok (.iload_n 1, 1) := by decide +kernel
theorem dX9_change_52 : decode cX9_change 52 = .ok (.aload_n 0, 1) := by decide +kernel
theorem dX9_change_53 : decode cX9_change 53 = .ok (.getfield 14, 3) := by decide +kernel
theorem dX9_change_56 : decode cX9_change 56 = .ok (.invokevirtual 53, 3) := by decide +kernel
theorem dX9_change_59 : decode cX9_change 59 = .ok (.invokevirtual 217, 3) := by decide +kernel
theorem dX9_change_62 : decode cX9_change 62 = .ok (.aload_n 0, 1) := by decide +kernel
theorem dX9_change_63 : decode cX9_change 63 = .ok (.getfield 14, 3) := by decide +kernel
theorem dX9_change_66 : decode cX9_change 66 = .ok (.iconst 0, 1) := by decide +kernel
theorem dX9_change_67 : decode cX9_change 67 = .ok (.invokevirtual 50, 3) := by decide +kernel
theorem dX9_change_70 : decode cX9_change 70 = .ok (.iload_n 2, 1) := by decide +kernel
theorem dX9_change_71 : decode cX9_change 71 = .ok (.ireturn, 1) := by decide +kernel
set_option maxRecDepth 20000 in
theorem ggX9_drop_X9_isName : GoodIn wsX9_drop wsX9_isName := goodIn_r _ [6, 7, 8, 9, 10, 11, 12, 13, 14, 15, 16, 5, 17, 18] (by decide +kernel) (by decide +kernel)
set_option maxRecDepth 20000 in
theorem gX9_drop_X9_isName : GoodIn wsX9_drop (va_wsS RX9 126 yX9_isName wsX9_isName) := goodIn_app (goodIn_of _ (by decide +kernel)) ggX9_drop_X9_isName
set_option maxRecDepth 20000 in
theorem ggX9_drop_X0_entryOf : GoodIn wsX9_drop wsX0_entryOf := goodIn_r _ [23, 24, 25, 26, 100, 101, 102, 103, 104, 105, 106, 107] (by decide +kernel) (by decide +kernel)
set_option maxRecDepth 20000 in
theorem gX9_drop_X0_entryOf : GoodIn wsX9_drop (wsV RX9 130 RX0 yX0_entryOf wsX0_entryOf) := goodIn_app (goodIn_of _ (by decide +kernel)) ggX9_drop_X0_entryOf
set_option maxRecDepth 20000 in
theorem ggX9_drop_X0_hasEntry : GoodIn wsX9_drop wsX0_hasEntry := goodIn_r _ [30, 24, 100, 101, 102, 103, 104, 105, 106, 107] (by decide +kernel) (by decide +kernel)
set_option maxRecDepth 20000 in
theorem gX9_drop_X0_hasEntry : GoodIn wsX9_drop (wsV RX9 107 RX0 yX0_hasEntry wsX0_hasEntry) := goodIn_app (goodIn_of _ (by decide +kernel)) ggX9_drop_X0_hasEntry
set_option maxRecDepth 20000 in
theorem ggX9_drop_X0_takeEntry : GoodIn wsX9_drop wsX0_takeEntry := goodIn_r _ [34, 24, 25, 26, 35, 36, 28, 29, 22, 30, 100, 101, 102, 103, 104, 105, 106, 107] (by decide +kernel) (by decide +kernel)
set_option maxRecDepth 20000 in
theorem gX9_drop_X0_takeEntry : GoodIn wsX9_drop (wsV RX9 220 RX0 yX0_takeEntry wsX0_takeEntry) := goodIn_app (goodIn_of _ (by decide +kernel)) ggX9_drop_X0_takeEntry
set_option maxRecDepth 20000 in
theorem ggX9_drop_X0_meaningsOf : GoodIn wsX9_drop wsX0_meaningsOf := goodIn_r _ [40, 24, 35, 100, 101, 102, 103, 104, 105, 106, 107] (by decide +kernel) (by decide +kernel)
set_option maxRecDepth 20000 in
theorem gX9_drop_X0_meaningsOf : GoodIn wsX9_drop (wsV RX9 91 RX0 yX0_meaningsOf wsX0_meaningsOf) := goodIn_app (goodIn_of _ (by decide +kernel)) ggX9_drop_X0_meaningsOf
set_option maxRecDepth 20000 in
theorem ggX9_drop_X0_takeChunk : GoodIn wsX9_drop wsX0_takeChunk := goodIn_r _ [44, 45, 46, 47, 48, 49, 50, 51, 52, 24, 35, 53, 54, 55, 22, 56, 57, 58, 59, 60, 61, 62, 63, 64, 65, 66, 67, 68, 69, 70, 71, 72, 73, 74, 75, 76, 77, 78, 79, 80, 81, 82, 83, 84, 85, 86, 87, 88, 89, 90, 91, 92, 93, 94, 108, 109, 110, 100, 101, 102, 103, 104, 105, 106, 107, 111, 112] (by decide +kernel) (by decide +kernel)
set_option maxRecDepth 20000 in
theorem gX9_drop_X0_takeChunk : GoodIn wsX9_drop (wsV RX9 223 RX0 yX0_takeChunk wsX0_takeChunk) := goodIn_app (goodIn_of _ (by decide +kernel)) ggX9_drop_X0_takeChunk
theorem dX9_drop_0 : decode cX9_drop 0 = .ok (.iload_n 1, 1) := by decide +kernel
theorem dX9_drop_1 : decode cX9_drop 1 = .ok (.lload_n 2, 1) := by decide +kernel
theorem dX9_drop_2 : decode cX9_drop 2 = .ok (.invokestatic 126, 3) := by decide +kernel
theorem dX9_drop_5 : decode cX9_drop 5 = .ok (.ifCond .ne 5, 3) := by decide +kernel
theorem dX9_drop_8 : decode cX9_drop 8 = .ok (.iconst (-1), 1) := by decide +kernel
theorem dX9_drop_9 : decode cX9_drop 9 = .ok (.ireturn, 1) := by decide +kernel
theorem dX9_drop_10 : decode cX9_drop 10 = .ok (.aload_n 0, 1) := by decide +kernel
theorem dX9_drop_11 : decode cX9_drop 11 = .ok (.getfield 24, 3) := by decide +kernel
theorem dX9_drop_14 : decode cX9_drop 14 = .ok (.iload_n 1, 1) := by decide +kernel
theorem dX9_drop_15 : decode cX9_drop 15 = .ok (.lload_n 2, 1) := by decide +kernel
theorem dX9_drop_16 : decode cX9_drop 16 = .ok (.invokevirtual 130, 3) := by decide +kernel
theorem dX9_drop_19 : decode cX9_drop 19 = .ok (.istore 4, 2) := by decide +kernel
theorem dX9_drop_21 : decode cX9_drop 21 = .ok (.aload_n 0, 1) := by decide +kernel
theorem dX9_drop_22 : decode cX9_drop 22 = .ok (.getfield 24, 3) := by decide +kernel
theorem dX9_drop_25 : decode cX9_drop 25 = .ok (.iload 4, 2) := by decide +kernel
theorem dX9_drop_27 : decode cX9_drop 27 = .ok (.invokevirtual 107, 3) := by decide +kernel
theorem dX9_drop_30 : decode cX9_drop 30 = .ok (.ifCond .ne 6, 3) := by decide +kernel
theorem dX9_drop_33 : decode cX9_drop 33 = .ok (.bipush (-2), 2) := by decide +kernel
theorem dX9_drop_35 : decode cX9_drop 35 = .ok (.ireturn, 1) := by decide +kernel
theorem dX9_drop_36 : decode cX9_drop 36 = .ok (.aload_n 0, 1) := by decide +kernel
theorem dX9_drop_37 : decode cX9_drop 37 = .ok (.getfield 24, 3) := by decide +kernel
theorem dX9_drop_40 : decode cX9_drop 40 = .ok (.getfield 120, 3) := by decide +kernel
theorem dX9_drop_43 : decode cX9_drop 43 = .ok (.iload 4, 2) := by decide +kernel
theorem dX9_drop_45 : decode cX9_drop 45 = .ok (.iaload, 1) := by decide +kernel
theorem dX9_drop_46 : decode cX9_drop 46 = .ok (.istore 5, 2) := by decide +kernel
theorem dX9_drop_48 : decode cX9_drop 48 = .ok (.aload_n 0, 1) := by decide +kernel
theorem dX9_drop_49 : decode cX9_drop 49 = .ok (.getfield 24, 3) := by decide +kernel
theorem dX9_drop_52 : decode cX9_drop 52 = .ok (.iload 4, 2) := by decide +kernel
theorem dX9_drop_54 : decode cX9_drop 54 = .ok (.invokevirtual 220, 3) := by decide +kernel
theorem dX9_drop_57 : decode cX9_drop 57 = .ok (.aload_n 0, 1) := by decide +kernel
theorem dX9_drop_58 : decode cX9_drop 58 = .ok (.getfield 24, 3) := by decide +kernel
theorem dX9_drop_61 : decode cX9_drop 61 = .ok (.iload 5, 2) := by decide +kernel
theorem dX9_drop_63 : decode cX9_drop 63 = .ok (.invokevirtual 91, 3) := by decide +kernel
theorem dX9_drop_66 : decode cX9_drop 66 = .ok (.ifCond .le 5, 3) := by decide +kernel
theorem dX9_drop_69 : decode cX9_drop 69 = .ok (.iconst 0, 1) := by decide +kernel
theorem dX9_drop_70 : decode cX9_drop 70 = .ok (.ireturn, 1) := by decide +kernel
theorem dX9_drop_71 : decode cX9_drop 71 = .ok (.aload_n 0, 1) := by decide +kernel
theorem dX9_drop_72 : decode cX9_drop 72 = .ok (.getfield 24, 3) := by decide +kernel
theorem dX9_drop_75 : decode cX9_drop 75 = .ok (.iload 5, 2) := by decide +kernel
theorem dX9_drop_77 : decode cX9_drop 77 = .ok (.invokevirtual 223, 3) := by decide +kernel
theorem dX9_drop_80 : decode cX9_drop 80 = .ok (.iconst 1, 1) := by decide +kernel
theorem dX9_drop_81 : decode cX9_drop 81 = .ok (.ireturn, 1) := by decide +kernel
set_option maxRecDepth 20000 in
theorem ggX9_remove_X0_hasChunk : GoodIn wsX9_remove wsX0_hasChunk := goodIn_r _ [6, 7, 70, 71, 72, 73, 74, 75, 76, 77] (by decide +kernel) (by decide +kernel)
set_option maxRecDepth 20000 in
theorem gX9_remove_X0_hasChunk : GoodIn wsX9_remove (wsV RX9 77 RX0 yX0_hasChunk wsX0_hasChunk) := goodIn_app (goodIn_of _ (by decide +kernel)) ggX9_remove_X0_hasChunk
set_option maxRecDepth 20000 in
theorem ggX9_remove_X0_meaningsOf : GoodIn wsX9_remove wsX0_meaningsOf := goodIn_r _ [11, 12, 13, 70, 71, 72, 73, 74, 75, 76, 77] (by decide +kernel) (by decide +kernel)
set_option maxRecDepth 20000 in
theorem gX9_remove_X0_meaningsOf : GoodIn wsX9_remove (wsV RX9 91 RX0 yX0_meaningsOf wsX0_meaningsOf) := goodIn_app (goodIn_of _ (by decide +kernel)) ggX9_remove_X0_meaningsOf
set_option maxRecDepth 20000 in
theorem ggX9_remove_X0_lengthOf : GoodIn wsX9_remove wsX0_lengthOf := goodIn_r _ [17, 18, 19, 3, 4, 5, 6, 7, 70, 71, 72, 73, 74, 75, 76, 77] (by decide +kernel) (by decide +kernel)
set_option maxRecDepth 20000 in
theorem gX9_remove_X0_lengthOf : GoodIn wsX9_remove (wsV RX9 85 RX0 yX0_lengthOf wsX0_lengthOf) := goodIn_app (goodIn_of _ (by decide +kernel)) ggX9_remove_X0_lengthOf
set_option maxRecDepth 20000 in
theorem ggX9_remove_X0_takeChunk : GoodIn wsX9_remove wsX0_takeChunk := goodIn_r _ [23, 24, 25, 26, 27, 7, 28, 18, 29, 12, 13, 19, 3, 4, 5, 6, 30, 31, 32, 33, 34, 35, 36, 37, 38, 39, 40, 41, 42, 43, 44, 45, 15, 16, 17, 46, 47, 48, 49, 50, 51, 52, 53, 54, 55, 56, 57, 58, 59, 60, 61, 62, 63, 64, 78, 79, 80, 70, 71, 72, 73, 74, 75, 76, 77, 81, 82] (by decide +kernel) (by decide +kernel)
set_option maxRecDepth 20000 in
theorem gX9_remove_X0_takeChunk : GoodIn wsX9_remove (wsV RX9 223 RX0 yX0_takeChunk wsX0_takeChunk) := goodIn_app (goodIn_of _ (by decide +kernel)) ggX9_remove_X0_takeChunk
theorem dX9_remove_0 : decode cX9_remove 0 = .ok (.aload_n 0, 1) := by decide +kernel
theorem dX9_remove_1 : decode cX9_remove 1 = .ok (.getfield 24, 3) := by decide +kernel
theorem dX9_remove_4 : decode cX9_remove 4 = .ok (.iload_n 1, 1) := by decide +kernel
theorem dX9_remove_5 : decode cX9_remove 5 = .ok (.invokevirtual 77, 3) := by decide +kernel
theorem dX9_remove_8 : decode cX9_remove 8 = .ok (.ifCond .ne 5, 3) := by decide +kernel
theorem dX9_remove_11 : decode cX9_remove 11 = .ok (.iconst (-1), 1) := by decide +kernel
theorem dX9_remove_12 : decode cX9_remove 12 = .ok (.ireturn, 1) := by decide +kernel
theorem dX9_remove_13 : decode cX9_remove 13 = .ok (.aload_n 0, 1) := by decide +kernel
theorem dX9_remove_14 : decode cX9_remove 14 = .ok (.getfield 24, 3) := by decide +kernel
theorem dX9_remove_17 : decode cX9_remove 17 = .ok (.iload_n 1, 1) := by decide +kernel
theorem dX9_remove_18 : decode cX9_remove 18 = .ok (.invokevirtual 91, 3) := by decide +kernel
theorem dX9_remove_21 : decode cX9_remove 21 = .ok (.ifCond .le 6, 3) := by decide +kernel
theorem dX9_remove_24 : decode cX9_remove 24 = .ok (.bipush (-3), 2) := by decide +kernel
theorem dX9_remove_26 : decode cX9_remove 26 = .ok (.ireturn, 1) := by decide +kernel
theorem dX9_remove_27 : decode cX9_remove 27 = .ok (.aload_n 0, 1) := by decide +kernel
theorem dX9_remove_28 : decode cX9_remove 28 = .ok (.getfield 24, 3) := by decide +kernel
theorem dX9_remove_31 : decode cX9_remove 31 = .ok (.iload_n 1, 1) := by decide +kernel
theorem dX9_remove_32 : decode cX9_remove 32 = .ok (.invokevirtual 85, 3) := by decide +kernel
theorem dX9_remove_35 : decode cX9_remove 35 = .ok (.istore_n 2, 1) := by decide +kernel
theorem dX9_remove_36 : decode cX9_remove 36 = .ok (.aload_n 0, 1) := by decide +kernel
theorem dX9_remove_37 : decode cX9_remove 37 = .ok (.getfield 24, 3) := by decide +kernel
theorem dX9_remove_40 : decode cX9_remove 40 = .ok (.iload_n 1, 1) := by decide +kernel
theorem dX9_remove_41 : decode cX9_remove 41 = .ok (.invokevirtual 223, 3) := by decide +kernel
theorem dX9_remove_44 : decode cX9_remove 44 = .ok (.iload_n 2, 1) := by decide +kernel
theorem dX9_remove_45 : decode cX9_remove 45 = .ok (.ireturn, 1) := by decide +kernel
set_option maxRecDepth 20000 in
theorem ggX9_write_X6_keep : GoodIn wsX9_write wsX6_keep := goodIn_r _ [8, 9, 81, 82] (by decide +kernel) (by decide +kernel)
set_option maxRecDepth 20000 in
theorem gX9_write_X6_keep : GoodIn wsX9_write (wsV RX9 50 RX6 yX6_keep wsX6_keep) := goodIn_app (goodIn_of _ (by decide +kernel)) ggX9_write_X6_keep
set_option maxRecDepth 20000 in
theorem ggX9_write_X0_writeTo : GoodIn wsX9_write wsX0_writeTo := goodIn_r _ [14, 15, 16, 17, 18, 19, 20, 21, 22, 23, 24, 25, 26, 27, 7, 28, 29, 9, 30, 31, 32, 33, 34, 35, 36, 13, 37, 38, 39, 40, 41, 42, 43, 44, 45, 46, 47, 48, 49, 50, 51, 52, 53, 54, 55, 56, 57, 58, 59, 60, 61, 62, 63, 64, 65, 66, 67, 68, 69, 70, 71, 72, 73, 74, 75, 83, 84, 85, 86, 87, 88, 89, 90, 81, 82, 91, 92, 93] (by decide +kernel) (by decide +kernel)
set_option maxRecDepth 20000 in
theorem gX9_write_X0_writeTo : GoodIn wsX9_write (wsV RX9 226 RX0 yX0_writeTo wsX0_writeTo) := goodIn_app (goodIn_of _ (by decide +kernel)) ggX9_write_X0_writeTo
theorem dX9_write_0 : decode cX9_write 0 = .ok (.aload_n 0, 1) := by decide +kernel
theorem dX9_write_1 : decode cX9_write 1 = .ok (.getfield 18, 3) := by decide +kernel
theorem dX9_write_4 : decode cX9_write 4 = .ok (.iconst 0, 1) := by decide +kernel
theorem dX9_write_5 : decode cX9_write 5 = .ok (.invokevirtual 50, 3) := by decide +kernel
theorem dX9_write_8 : decode cX9_write 8 = .ok (.aload_n 0, 1) := by decide +kernel
theorem dX9_write_9 : decode cX9_write 9 = .ok (.getfield 24, 3) := by decide +kernel
theorem dX9_write_12 : decode cX9_write 12 = .ok (.aload_n 0, 1) := by decide +kernel
theorem dX9_write_13 : decode cX9_write 13 = .ok (.getfield 18, 3) := by decide +kernel
theorem dX9_write_16 : decode cX9_write 16 = .ok (.invokevirtual 226, 3) := by decide +kernel
theorem dX9_write_19 : decode cX9_write 19 = .ok (.aload_n 0, 1) := by decide +kernel
theorem dX9_write_20 : decode cX9_write 20 = .ok (.getfield 18, 3) := by decide +kernel
theorem dX9_write_23 : decode cX9_write 23 = .ok (.getfield 47, 3) := by decide +kernel
theorem dX9_write_26 : decode cX9_write 26 = .ok (.ireturn, 1) := by decide +kernel
set_option maxRecDepth 20000 in
theorem ggX9_out_X6_whole : GoodIn wsX9_out wsX6_whole := goodIn_r _ [6, 7, 8, 9, 10, 11, 12, 13, 14, 15, 16, 17, 18, 19, 20, 41, 42, 43, 44, 45] (by decide +kernel) (by decide +kernel)
set_option maxRecDepth 20000 in
theorem gX9_out_X6_whole : GoodIn wsX9_out (wsV RX9 53 RX6 yX6_whole wsX6_whole) := goodIn_app (goodIn_of _ (by decide +kernel)) ggX9_out_X6_whole
set_option maxRecDepth 20000 in
theorem ggX9_out_X3_holds : GoodIn wsX9_out wsX3_holds := goodIn_r _ [24, 20, 41, 42, 43] (by decide +kernel) (by decide +kernel)
set_option maxRecDepth 20000 in
theorem gX9_out_X3_holds : GoodIn wsX9_out (wsV RX9 98 RX3 yX3_holds wsX3_holds) := goodIn_app (goodIn_of _ (by decide +kernel)) ggX9_out_X3_holds
set_option maxRecDepth 20000 in
theorem ggX9_out_X3_at : GoodIn wsX9_out wsX3_at := goodIn_r _ [28, 29, 30, 31, 9, 32, 33, 18, 34, 19, 35, 22, 23, 24, 20, 41, 42, 43, 44, 45] (by decide +kernel) (by decide +kernel)
set_option maxRecDepth 20000 in
theorem gX9_out_X3_at : GoodIn wsX9_out (wsV RX9 104 RX3 yX3_at wsX3_at) := goodIn_app (goodIn_of _ (by decide +kernel)) ggX9_out_X3_at
theorem dX9_out_0 : decode cX9_out 0 = .ok (.aload_n 0, 1) := by decide +kernel
theorem dX9_out_1 : decode cX9_out 1 = .ok (.getfield 18, 3) := by decide +kernel
theorem dX9_out_4 : decode cX9_out 4 = .ok (.invokevirtual 53, 3) := by decide +kernel
theorem dX9_out_7 : decode cX9_out 7 = .ok (.astore_n 2, 1) := by decide +kernel
theorem dX9_out_8 : decode cX9_out 8 = .ok (.aload_n 2, 1) := by decide +kernel
theorem dX9_out_9 : decode cX9_out 9 = .ok (.iload_n 1, 1) := by decide +kernel
theorem dX9_out_10 : decode cX9_out 10 = .ok (.iconst 1, 1) := by decide +kernel
theorem dX9_out_11 : decode cX9_out 11 = .ok (.invokevirtual 98, 3) := by decide +kernel
theorem dX9_out_14 : decode cX9_out 14 = .ok (.ifCond .eq 11, 3) := by decide +kernel
theorem dX9_out_17 : decode cX9_out 17 = .ok (.aload_n 2, 1) := by decide +kernel
theorem dX9_out_18 : decode cX9_out 18 = .ok (.iload_n 1, 1) := by decide +kernel
theorem dX9_out_19 : decode cX9_out 19 = .ok (.invokevirtual 104, 3) := by decide +kernel
theorem dX9_out_22 : decode cX9_out 22 = .ok (.goto 4, 3) := by decide +kernel
theorem dX9_out_25 : decode cX9_out 25 = .ok (.iconst (-1), 1) := by decide +kernel
theorem dX9_out_26 : decode cX9_out 26 = .ok (.ireturn, 1) := by decide +kernel
set_option maxRecDepth 20000 in
theorem ggX9_back_X6_keep : GoodIn wsX9_back wsX6_keep := goodIn_r _ [8, 9, 48, 49] (by decide +kernel) (by decide +kernel)
set_option maxRecDepth 20000 in
theorem gX9_back_X6_keep : GoodIn wsX9_back (wsV RX9 50 RX6 yX6_keep wsX6_keep) := goodIn_app (goodIn_of _ (by decide +kernel)) ggX9_back_X6_keep
set_option maxRecDepth 20000 in
theorem ggX9_back_X6_whole : GoodIn wsX9_back wsX6_whole := goodIn_r _ [13, 14, 15, 16, 9, 17, 18, 19, 20, 21, 22, 23, 24, 25, 26, 50, 51, 52, 48, 49] (by decide +kernel) (by decide +kernel)
set_option maxRecDepth 20000 in
theorem gX9_back_X6_whole : GoodIn wsX9_back (wsV RX9 53 RX6 yX6_whole wsX6_whole) := goodIn_app (goodIn_of _ (by decide +kernel)) ggX9_back_X6_whole
set_option maxRecDepth 20000 in
theorem ggX9_back_X6_splice : GoodIn wsX9_back wsX6_splice := goodIn_r _ [30, 9, 31, 32, 33, 34, 35, 36, 37, 38, 39, 40, 41, 7, 42, 48, 49, 50, 51, 52] (by decide +kernel) (by decide +kernel)
set_option maxRecDepth 20000 in
theorem gX9_back_X6_splice : GoodIn wsX9_back (wsV RX9 230 RX6 yX6_splice wsX6_splice) := goodIn_app (goodIn_of _ (by decide +kernel)) ggX9_back_X6_splice
theorem dX9_back_0 : decode cX9_back 0 = .ok (.aload_n 0, 1) := by decide +kernel
theorem dX9_back_1 : decode cX9_back 1 = .ok (.getfield 18, 3) := by decide +kernel
theorem dX9_back_4 : decode cX9_back 4 = .ok (.getfield 47, 3) := by decide +kernel
theorem dX9_back_7 : decode cX9_back 7 = .ok (.sipush 6000, 3) := by decide +kernel
theorem dX9_back_10 : decode cX9_back 10 = .ok (.if_icmp .le 6, 3) := by decide +kernel
theorem dX9_back_13 : decode cX9_back 13 = .ok (.bipush (-4), 2) := by decide +kernel
theorem dX9_back_15 : decode cX9_back 15 = .ok (.ireturn, 1) := by decide +kernel
theorem dX9_back_16 : decode cX9_back 16 = .ok (.aload_n 0, 1) := by decide +kernel
theorem dX9_back_17 : decode cX9_back 17 = .ok (.getfield 14, 3) := by decide +kernel
theorem dX9_back_20 : decode cX9_back 20 = .ok (.iconst 0, 1) := by decide +kernel
theorem dX9_back_21 : decode cX9_back 21 = .ok (.invokevirtual 50, 3) := by decide +kernel
theorem dX9_back_24 : decode cX9_back 24 = .ok (.aload_n 0, 1) := by decide +kernel
theorem dX9_back_25 : decode cX9_back 25 = .ok (.getfield 14, 3) := by decide +kernel
theorem dX9_back_28 : decode cX9_back 28 = .ok (.iconst 0, 1) := by decide +kernel
theorem dX9_back_29 : decode cX9_back 29 = .ok (.iconst 0, 1) := by decide +kernel
theorem dX9_back_30 : decode cX9_back 30 = .ok (.aload_n 0, 1) := by decide +kernel
theorem dX9_back_31 : decode cX9_back 31 = .ok (.getfield 18, 3) := by decide +kernel
theorem dX9_back_34 : decode cX9_back 34 = .ok (.invokevirtual 53, 3) := by decide +kernel
theorem dX9_back_37 : decode cX9_back 37 = .ok (.invokevirtual 230, 3) := by decide +kernel
theorem dX9_back_40 : decode cX9_back 40 = .ok (.aload_n 0, 1) := by decide +kernel
theorem dX9_back_41 : decode cX9_back 41 = .ok (.getfield 14, 3) := by decide +kernel
theorem dX9_back_44 : decode cX9_back 44 = .ok (.getfield 47, 3) := by decide +kernel
theorem dX9_back_47 : decode cX9_back 47 = .ok (.ireturn, 1) := by decide +kernel
theorem dX9_isNumber_0 : decode cX9_isNumber 0 = .ok (.lload_n 0, 1) := by decide +kernel
theorem dX9_isNumber_1 : decode cX9_isNumber 1 = .ok (.lconst 0, 1) := by decide +kernel
theorem dX9_isNumber_2 : decode cX9_isNumber 2 = .ok (.lcmp, 1) := by decide +kernel
theorem dX9_isNumber_3 : decode cX9_isNumber 3 = .ok (.ifCond .lt 15, 3) := by decide +kernel
theorem dX9_isNumber_6 : decode cX9_isNumber 6 = .ok (.lload_n 0, 1) := by decide +kernel
theorem dX9_isNumber_7 : decode cX9_isNumber 7 = .ok (.ldc2_w 234, 3) := by decide +kernel
theorem dX9_isNumber_10 : decode cX9_isNumber 10 = .ok (.lcmp, 1) := by decide +kernel
theorem dX9_isNumber_11 : decode cX9_isNumber 11 = .ok (.ifCond .gt 7, 3) := by decide +kernel
theorem dX9_isNumber_14 : decode cX9_isNumber 14 = .ok (.iconst 1, 1) := by decide +kernel
theorem dX9_isNumber_15 : decode cX9_isNumber 15 = .ok (.goto 4, 3) := by decide +kernel
theorem dX9_isNumber_18 : decode cX9_isNumber 18 = .ok (.iconst 0, 1) := by decide +kernel
theorem dX9_isNumber_19 : decode cX9_isNumber 19 = .ok (.ireturn, 1) := by decide +kernel
set_option maxRecDepth 20000 in
theorem ggX9_isName_X2_isUse : GoodIn wsX9_isName wsX2_isUse := goodIn_r _ [4, 5, 6, 7, 8] (by decide +kernel) (by decide +kernel)
set_option maxRecDepth 20000 in
theorem gX9_isName_X2_isUse : GoodIn wsX9_isName (va_wsS RX9 236 yX2_isUse wsX2_isUse) := goodIn_app (goodIn_of _ (by decide +kernel)) ggX9_isName_X2_isUse
set_option maxRecDepth 20000 in
theorem ggX9_isName_X9_isNumber : GoodIn wsX9_isName wsX9_isNumber := goodIn_r _ [12, 13] (by decide +kernel) (by decide +kernel)
set_option maxRecDepth 20000 in
theorem gX9_isName_X9_isNumber : GoodIn wsX9_isName (va_wsS RX9 171 yX9_isNumber wsX9_isNumber) := goodIn_app (goodIn_of _ (by decide +kernel)) ggX9_isName_X9_isNumber
theorem dX9_isName_0 : decode cX9_isName 0 = .ok (.iload_n 0, 1) := by decide +kernel
theorem dX9_isName_1 : decode cX9_isName 1 = .ok (.invokestatic 236, 3) := by decide +kernel
theorem dX9_isName_4 : decode cX9_isName 4 = .ok (.ifCond .eq 14, 3) := by decide +kernel
theorem dX9_isName_7 : decode cX9_isName 7 = .ok (.lload_n 1, 1) := by decide +kernel
theorem dX9_isName_8 : decode cX9_isName 8 = .ok (.invokestatic 171, 3) := by decide +kernel
theorem dX9_isName_11 : decode cX9_isName 11 = .ok (.ifCond .eq 7, 3) := by decide +kernel
theorem dX9_isName_14 : decode cX9_isName 14 = .ok (.iconst 1, 1) := by decide +kernel
theorem dX9_isName_15 : decode cX9_isName 15 = .ok (.goto 4, 3) := by decide +kernel
theorem dX9_isName_18 : decode cX9_isName 18 = .ok (.iconst 0, 1) := by decide +kernel
theorem dX9_isName_19 : decode cX9_isName 19 = .ok (.ireturn, 1) := by decide +kernel
theorem dX9_isAxis_0 : decode cX9_isAxis 0 = .ok (.iload_n 0, 1) := by decide +kernel
theorem dX9_isAxis_1 : decode cX9_isAxis 1 = .ok (.ifCond .eq 8, 3) := by decide +kernel
theorem dX9_isAxis_4 : decode cX9_isAxis 4 = .ok (.iload_n 0, 1) := by decide +kernel
theorem dX9_isAxis_5 : decode cX9_isAxis 5 = .ok (.iconst 1, 1) := by decide +kernel
theorem dX9_isAxis_6 : decode cX9_isAxis 6 = .ok (.if_icmp .ne 7, 3) := by decide +kernel
theorem dX9_isAxis_9 : decode cX9_isAxis 9 = .ok (.iconst 1, 1) := by decide +kernel
theorem dX9_isAxis_10 : decode cX9_isAxis 10 = .ok (.goto 4, 3) := by decide +kernel
theorem dX9_isAxis_13 : decode cX9_isAxis 13 = .ok (.iconst 0, 1) := by decide +kernel
theorem dX9_isAxis_14 : decode cX9_isAxis 14 = .ok (.ireturn, 1) := by decide +kernel
theorem dX9_isSide_0 : decode cX9_isSide 0 = .ok (.lload_n 0, 1) := by decide +kernel
theorem dX9_isSide_1 : decode cX9_isSide 1 = .ok (.lconst 1, 1) := by decide +kernel
theorem dX9_isSide_2 : decode cX9_isSide 2 = .ok (.lcmp, 1) := by decide +kernel
theorem dX9_isSide_3 : decode cX9_isSide 3 = .ok (.ifCond .lt 15, 3) := by decide +kernel
theorem dX9_isSide_6 : decode cX9_isSide 6 = .ok (.lload_n 0, 1) := by decide +kernel
theorem dX9_isSide_7 : decode cX9_isSide 7 = .ok (.ldc2_w 186, 3) := by decide +kernel
theorem dX9_isSide_10 : decode cX9_isSide 10 = .ok (.lcmp, 1) := by decide +kernel
theorem dX9_isSide_11 : decode cX9_isSide 11 = .ok (.ifCond .gt 7, 3) := by decide +kernel
theorem dX9_isSide_14 : decode cX9_isSide 14 = .ok (.iconst 1, 1) := by decide +kernel
theorem dX9_isSide_15 : decode cX9_isSide 15 = .ok (.goto 4, 3) := by decide +kernel
theorem dX9_isSide_18 : decode cX9_isSide 18 = .ok (.iconst 0, 1) := by decide +kernel
theorem dX9_isSide_19 : decode cX9_isSide 19 = .ok (.ireturn, 1) := by decide +kernel
theorem dX10_init_0 : decode cX10_init 0 = .ok (.aload_n 0, 1) := by decide +kernel
theorem dX10_init_1 : decode cX10_init 1 = .ok (.invokespecial 1, 3) := by decide +kernel
theorem dX10_init_4 : decode cX10_init 4 = .ok (.aload_n 0, 1) := by decide +kernel
theorem dX10_init_5 : decode cX10_init 5 = .ok (.sipush 6000, 3) := by decide +kernel
theorem dX10_init_8 : decode cX10_init 8 = .ok (.newarray .int, 2) := by decide +kernel
theorem dX10_init_10 : decode cX10_init 10 = .ok (.putfield 7, 3) := by decide +kernel
theorem dX10_init_13 : decode cX10_init 13 = .ok (.aload_n 0, 1) := by decide +kernel
theorem dX10_init_14 : decode cX10_init 14 = .ok (.sipush 12000, 3) := by decide +kernel
theorem dX10_init_17 : decode cX10_init 17 = .ok (.newarray .int, 2) := by decide +kernel
theorem dX10_init_19 : decode cX10_init 19 = .ok (.putfield 13, 3) := by decide +kernel
theorem dX10_init_22 : decode cX10_init 22 = .ok (.aload_n 0, 1) := by decide +kernel
theorem dX10_init_23 : decode cX10_init 23 = .ok (.bipush 61, 2) := by decide +kernel
theorem dX10_init_25 : decode cX10_init 25 = .ok (.newarray .int, 2) := by decide +kernel
theorem dX10_init_27 : decode cX10_init 27 = .ok (.putfield 16, 3) := by decide +kernel
theorem dX10_init_30 : decode cX10_init 30 = .ok (.aload_n 0, 1) := by decide +kernel
theorem dX10_init_31 : decode cX10_init 31 = .ok (.bipush 61, 2) := by decide +kernel
theorem dX10_init_33 : decode cX10_init 33 = .ok (.newarray .int, 2) := by decide +kernel
theorem dX10_init_35 : decode cX10_init 35 = .ok (.putfield 19, 3) := by decide +kernel
theorem dX10_init_38 : decode cX10_init 38 = .ok (.aload_n 0, 1) := by decide +kernel
theorem dX10_init_39 : decode cX10_init 39 = .ok (.bipush 41, 2) := by decide +kernel
theorem dX10_init_41 : decode cX10_init 41 = .ok (.newarray .int, 2) := by decide +kernel
theorem dX10_init_43 : decode cX10_init 43 = .ok (.putfield 22, 3) := by decide +kernel
theorem dX10_init_46 : decode cX10_init 46 = .ok (.aload_n 0, 1) := by decide +kernel
theorem dX10_init_47 : decode cX10_init 47 = .ok (.bipush 41, 2) := by decide +kernel
theorem dX10_init_49 : decode cX10_init 49 = .ok (.newarray .long, 2) := by decide +kernel
theorem dX10_init_51 : decode cX10_init 51 = .ok (.putfield 25, 3) := by decide +kernel
theorem dX10_init_54 : decode cX10_init 54 = .ok (.aload_n 0, 1) := by decide +kernel
theorem dX10_init_55 : decode cX10_init 55 = .ok (.bipush 41, 2) := by decide +kernel
theorem dX10_init_57 : decode cX10_init 57 = .ok (.newarray .int, 2) := by decide +kernel
theorem dX10_init_59 : decode cX10_init 59 = .ok (.putfield 29, 3) := by decide +kernel
theorem dX10_init_62 : decode cX10_init 62 = .ok (.aload_n 0, 1) := by decide +kernel
theorem dX10_init_63 : decode cX10_init 63 = .ok (.sipush 14000, 3) := by decide +kernel
theorem dX10_init_66 : decode cX10_init 66 = .ok (.newarray .int, 2) := by decide +kernel
theorem dX10_init_68 : decode cX10_init 68 = .ok (.putfield 32, 3) := by decide +kernel
theorem dX10_init_71 : decode cX10_init 71 = .ok (.aload_n 0, 1) := by decide +kernel
theorem dX10_init_72 : decode cX10_init 72 = .ok (.bipush (-2), 2) := by decide +kernel
theorem dX10_init_74 : decode cX10_init 74 = .ok (.putfield 35, 3) := by decide +kernel
theorem dX10_init_77 : decode cX10_init 77 = .ok (.aload_n 0, 1) := by decide +kernel
theorem dX10_init_78 : decode cX10_init 78 = .ok (.bipush 61, 2) := by decide +kernel
theorem dX10_init_80 : decode cX10_init 80 = .ok (.newarray .int, 2) := by decide +kernel
theorem dX10_init_82 : decode cX10_init 82 = .ok (.putfield 39, 3) := by decide +kernel
theorem dX10_init_85 : decode cX10_init 85 = .ok (.return_, 1) := by decide +kernel
theorem dX10_in_0 : decode cX10_in 0 = .ok (.lload_n 0, 1) := by decide +kernel
theorem dX10_in_1 : decode cX10_in 1 = .ok (.lload_n 2, 1) := by decide +kernel
theorem dX10_in_2 : decode cX10_in 2 = .ok (.lcmp, 1) := by decide +kernel
theorem dX10_in_3 : decode cX10_in 3 = .ok (.ifCond .lt 14, 3) := by decide +kernel
theorem dX10_in_6 : decode cX10_in 6 = .ok (.lload_n 0, 1) := by decide +kernel
theorem dX10_in_7 : decode cX10_in 7 = .ok (.lload 4, 2) := by decide +kernel
theorem dX10_in_9 : decode cX10_in 9 = .ok (.lcmp, 1) := by decide +kernel
theorem dX10_in_10 : decode cX10_in 10 = .ok (.ifCond .gt 7, 3) := by decide +kernel
theorem dX10_in_13 : decode cX10_in 13 = .ok (.iconst 1, 1) := by decide +kernel
theorem dX10_in_14 : decode cX10_in 14 = .ok (.goto 4, 3) := by decide +kernel
theorem dX10_in_17 : decode cX10_in 17 = .ok (.iconst 0, 1) := by decide +kernel
theorem dX10_in_18 : decode cX10_in 18 = .ok (.ireturn, 1) := by decide +kernel
set_option maxRecDepth 20000 in
theorem ggX10_isNumber_X10_in : GoodIn wsX10_isNumber wsX10_in := goodIn_r _ [5] (by decide +kernel) (by decide +kernel)
set_option maxRecDepth 20000 in
theorem gX10_isNumber_X10_in : GoodIn wsX10_isNumber (va_wsS RX10 44 yX10_in wsX10_in) := goodIn_app (goodIn_of _ (by decide +kernel)) ggX10_isNumber_X10_in
theorem dX10_isNumber_0 : decode cX10_isNumber 0 = .ok (.lload_n 0, 1) := by decide +kernel
theorem dX10_isNumber_1 : decode cX10_isNumber 1 = .ok (.lconst 0, 1) := by decide +kernel
theorem dX10_isNumber_2 : decode cX10_isNumber 2 = .ok (.ldc2_w 42, 3) := by decide +kernel
theorem dX10_isNumber_5 : decode cX10_isNumber 5 = .ok (.invokestatic 44, 3) := by decide +kernel
theorem dX10_isNumber_8 : decode cX10_isNumber 8 = .ok (.ireturn, 1) := by decide +kernel
theorem dX10_isUse_0 : decode cX10_isUse 0 = .ok (.iload_n 0, 1) := by decide +kernel
theorem dX10_isUse_1 : decode cX10_isUse 1 = .ok (.ldc 48, 2) := by decide +kernel
theorem dX10_isUse_3 : decode cX10_isUse 3 = .ok (.if_icmp .eq 21, 3) := by decide +kernel
theorem dX10_isUse_6 : decode cX10_isUse 6 = .ok (.iload_n 0, 1) := by decide +kernel
theorem dX10_isUse_7 : decode cX10_isUse 7 = .ok (.ldc 49, 2) := by decide +kernel
theorem dX10_isUse_9 : decode cX10_isUse 9 = .ok (.if_icmp .eq 15, 3) := by decide +kernel
theorem dX10_isUse_12 : decode cX10_isUse 12 = .ok (.iload_n 0, 1) := by decide +kernel
theorem dX10_isUse_13 : decode cX10_isUse 13 = .ok (.ldc 50, 2) := by decide +kernel
theorem dX10_isUse_15 : decode cX10_isUse 15 = .ok (.if_icmp .eq 9, 3) := by decide +kernel
theorem dX10_isUse_18 : decode cX10_isUse 18 = .ok (.iload_n 0, 1) := by decide +kernel
theorem dX10_isUse_19 : decode cX10_isUse 19 = .ok (.ldc 51, 2) := by decide +kernel
theorem dX10_isUse_21 : decode cX10_isUse 21 = .ok (.if_icmp .ne 7, 3) := by decide +kernel
theorem dX10_isUse_24 : decode cX10_isUse 24 = .ok (.iconst 1, 1) := by decide +kernel
theorem dX10_isUse_25 : decode cX10_isUse 25 = .ok (.goto 4, 3) := by decide +kernel
theorem dX10_isUse_28 : decode cX10_isUse 28 = .ok (.iconst 0, 1) := by decide +kernel
theorem dX10_isUse_29 : decode cX10_isUse 29 = .ok (.ireturn, 1) := by decide +kernel
set_option maxRecDepth 20000 in
theorem ggX10_isKind_X10_in : GoodIn wsX10_isKind wsX10_in := goodIn_r _ [6] (by decide +kernel) (by decide +kernel)
set_option maxRecDepth 20000 in
theorem gX10_isKind_X10_in : GoodIn wsX10_isKind (va_wsS RX10 44 yX10_in wsX10_in) := goodIn_app (goodIn_of _ (by decide +kernel)) ggX10_isKind_X10_in
theorem dX10_isKind_0 : decode cX10_isKind 0 = .ok (.iload_n 0, 1) := by decide +kernel
theorem dX10_isKind_1 : decode cX10_isKind 1 = .ok (.bipush 24, 2) := by decide +kernel
theorem dX10_isKind_3 : decode cX10_isKind 3 = .ok (.ishr, 1) := by decide +kernel
theorem dX10_isKind_4 : decode cX10_isKind 4 = .ok (.sipush 255, 3) := by decide +kernel
theorem dX10_isKind_7 : decode cX10_isKind 7 = .ok (.iand, 1) := by decide +kernel
theorem dX10_isKind_8 : decode cX10_isKind 8 = .ok (.i2l, 1) := by decide +kernel
theorem dX10_isKind_9 : decode cX10_isKind 9 = .ok (.ldc2_w 52, 3) := by decide +kernel
theorem dX10_isKind_12 : decode cX10_isKind 12 = .ok (.ldc2_w 54, 3) := by decide +kernel
theorem dX10_isKind_15 : decode cX10_isKind 15 = .ok (.invokestatic 44, 3) := by decide +kernel
theorem dX10_isKind_18 : decode cX10_isKind 18 = .ok (.ifCond .eq 67, 3) := by decide +kernel
theorem dX10_isKind_21 : decode cX10_isKind 21 = .ok (.iload_n 0, 1) := by decide +kernel
theorem dX10_isKind_22 : decode cX10_isKind 22 = .ok (.bipush 16, 2) := by decide +kernel
theorem dX10_isKind_24 : decode cX10_isKind 24 = .ok (.ishr, 1) := by decide +kernel
theorem dX10_isKind_25 : decode cX10_isKind 25 = .ok (.sipush 255, 3) := by decide +kernel
theorem dX10_isKind_28 : decode cX10_isKind 28 = .ok (.iand, 1) := by decide +kernel
theorem dX10_isKind_29 : decode cX10_isKind 29 = .ok (.i2l, 1) := by decide +kernel
theorem dX10_isKind_30 : decode cX10_isKind 30 = .ok (.ldc2_w 52, 3) := by decide +kernel
theorem dX10_isKind_33 : decode cX10_isKind 33 = .ok (.ldc2_w 54, 3) := by decide +kernel
theorem dX10_isKind_36 : decode cX10_isKind 36 = .ok (.invokestatic 44, 3) := by decide +kernel
theorem dX10_isKind_39 : decode cX10_isKind 39 = .ok (.ifCond .eq 46, 3) := by decide +kernel
theorem dX10_isKind_42 : decode cX10_isKind 42 = .ok (.iload_n 0, 1) := by decide +kernel
theorem dX10_isKind_43 : decode cX10_isKind 43 = .ok (.bipush 8, 2) := by decide +kernel
theorem dX10_isKind_45 : decode cX10_isKind 45 = .ok (.ishr, 1) := by decide +kernel
theorem dX10_isKind_46 : decode cX10_isKind 46 = .ok (.sipush 255, 3) := by decide +kernel
theorem dX10_isKind_49 : decode cX10_isKind 49 = .ok (.iand, 1) := by decide +kernel
theorem dX10_isKind_50 : decode cX10_isKind 50 = .ok (.i2l, 1) := by decide +kernel
theorem dX10_isKind_51 : decode cX10_isKind 51 = .ok (.ldc2_w 52, 3) := by decide +kernel
theorem dX10_isKind_54 : decode cX10_isKind 54 = .ok (.ldc2_w 54, 3) := by decide +kernel
theorem dX10_isKind_57 : decode cX10_isKind 57 = .ok (.invokestatic 44, 3) := by decide +kernel
theorem dX10_isKind_60 : decode cX10_isKind 60 = .ok (.ifCond .eq 25, 3) := by decide +kernel
theorem dX10_isKind_63 : decode cX10_isKind 63 = .ok (.iload_n 0, 1) := by decide +kernel
theorem dX10_isKind_64 : decode cX10_isKind 64 = .ok (.sipush 255, 3) := by decide +kernel
theorem dX10_isKind_67 : decode cX10_isKind 67 = .ok (.iand, 1) := by decide +kernel
theorem dX10_isKind_68 : decode cX10_isKind 68 = .ok (.i2l, 1) := by decide +kernel
theorem dX10_isKind_69 : decode cX10_isKind 69 = .ok (.ldc2_w 52, 3) := by decide +kernel
theorem dX10_isKind_72 : decode cX10_isKind 72 = .ok (.ldc2_w 54, 3) := by decide +kernel
theorem dX10_isKind_75 : decode cX10_isKind 75 = .ok (.invokestatic 44, 3) := by decide +kernel
theorem dX10_isKind_78 : decode cX10_isKind 78 = .ok (.ifCond .eq 7, 3) := by decide +kernel
theorem dX10_isKind_81 : decode cX10_isKind 81 = .ok (.iconst 1, 1) := by decide +kernel
theorem dX10_isKind_82 : decode cX10_isKind 82 = .ok (.goto 4, 3) := by decide +kernel
theorem dX10_isKind_85 : decode cX10_isKind 85 = .ok (.iconst 0, 1) := by decide +kernel
theorem dX10_isKind_86 : decode cX10_isKind 86 = .ok (.ireturn, 1) := by decide +kernel
set_option maxRecDepth 20000 in
theorem ggX10_feed_X10_in : GoodIn wsX10_feed wsX10_in := goodIn_r _ [8] (by decide +kernel) (by decide +kernel)
set_option maxRecDepth 20000 in
theorem gX10_feed_X10_in : GoodIn wsX10_feed (va_wsS RX10 44 yX10_in wsX10_in) := goodIn_app (goodIn_of _ (by decide +kernel)) ggX10_feed_X10_in
theorem dX10_feed_0 : decode cX10_feed 0 = .ok (.iload_n 1, 1) := by decide +kernel
theorem dX10_feed_1 : decode cX10_feed 1 = .ok (.i2l, 1) := by decide +kernel
theorem dX10_feed_2 : decode cX10_feed 2 = .ok (.lconst 1, 1) := by decide +kernel
theorem dX10_feed_3 : decode cX10_feed 3 = .ok (.ldc2_w 56, 3) := by decide +kernel
theorem dX10_feed_6 : decode cX10_feed 6 = .ok (.invokestatic 44, 3) := by decide +kernel
theorem dX10_feed_9 : decode cX10_feed 9 = .ok (.ifCond .ne 5, 3) := by decide +kernel
theorem dX10_feed_12 : decode cX10_feed 12 = .ok (.iconst (-1), 1) := by decide +kernel
theorem dX10_feed_13 : decode cX10_feed 13 = .ok (.ireturn, 1) := by decide +kernel
theorem dX10_feed_14 : decode cX10_feed 14 = .ok (.aload_n 0, 1) := by decide +kernel
theorem dX10_feed_15 : decode cX10_feed 15 = .ok (.getfield 58, 3) := by decide +kernel
theorem dX10_feed_18 : decode cX10_feed 18 = .ok (.iload_n 1, 1) := by decide +kernel
theorem dX10_feed_19 : decode cX10_feed 19 = .ok (.iadd, 1) := by decide +kernel
theorem dX10_feed_20 : decode cX10_feed 20 = .ok (.sipush 6000, 3) := by decide +kernel
theorem dX10_feed_23 : decode cX10_feed 23 = .ok (.if_icmp .le 6, 3) := by decide +kernel
theorem dX10_feed_26 : decode cX10_feed 26 = .ok (.bipush (-4), 2) := by decide +kernel
theorem dX10_feed_28 : decode cX10_feed 28 = .ok (.ireturn, 1) := by decide +kernel
theorem dX10_feed_29 : decode cX10_feed 29 = .ok (.iload_n 1, 1) := by decide +kernel
theorem dX10_feed_30 : decode cX10_feed 30 = .ok (.iconst 1, 1) := by decide +kernel
