theorem dX4_hasRoomFor_0 : decode cX4_hasRoomFor 0 = .ok (.iload_n 1, 1) := by decide +kernel
theorem dX4_hasRoomFor_1 : decode cX4_hasRoomFor 1 = .ok (.aload_n 0, 1) := by decide +kernel
theorem dX4_hasRoomFor_2 : decode cX4_hasRoomFor 2 = .ok (.getfield 9, 3) := by decide +kernel
theorem dX4_hasRoomFor_5 : decode cX4_hasRoomFor 5 = .ok (.arraylength, 1) := by decide +kernel
theorem dX4_hasRoomFor_6 : decode cX4_hasRoomFor 6 = .ok (.aload_n 0, 1) := by decide +kernel
theorem dX4_hasRoomFor_7 : decode cX4_hasRoomFor 7 = .ok (.getfield 15, 3) := by decide +kernel
theorem dX4_hasRoomFor_10 : decode cX4_hasRoomFor 10 = .ok (.isub, 1) := by decide +kernel
theorem dX4_hasRoomFor_11 : decode cX4_hasRoomFor 11 = .ok (.if_icmp .gt 7, 3) := by decide +kernel
theorem dX4_hasRoomFor_14 : decode cX4_hasRoomFor 14 = .ok (.iconst 1, 1) := by decide +kernel
theorem dX4_hasRoomFor_15 : decode cX4_hasRoomFor 15 = .ok (.goto 4, 3) := by decide +kernel
theorem dX4_hasRoomFor_18 : decode cX4_hasRoomFor 18 = .ok (.iconst 0, 1) := by decide +kernel
theorem dX4_hasRoomFor_19 : decode cX4_hasRoomFor 19 = .ok (.ireturn, 1) := by decide +kernel
theorem dX4_append_0 : decode cX4_append 0 = .ok (.iload_n 3, 1) := by decide +kernel
theorem dX4_append_1 : decode cX4_append 1 = .ok (.iconst 1, 1) := by decide +kernel
theorem dX4_append_2 : decode cX4_append 2 = .ok (.isub, 1) := by decide +kernel
theorem dX4_append_3 : decode cX4_append 3 = .ok (.istore 4, 2) := by decide +kernel
theorem dX4_append_5 : decode cX4_append 5 = .ok (.iload 4, 2) := by decide +kernel
theorem dX4_append_7 : decode cX4_append 7 = .ok (.ifCond .lt 49, 3) := by decide +kernel
theorem dX4_append_10 : decode cX4_append 10 = .ok (.aload_n 0, 1) := by decide +kernel
theorem dX4_append_11 : decode cX4_append 11 = .ok (.getfield 15, 3) := by decide +kernel
theorem dX4_append_14 : decode cX4_append 14 = .ok (.aload_n 0, 1) := by decide +kernel
theorem dX4_append_15 : decode cX4_append 15 = .ok (.getfield 9, 3) := by decide +kernel
theorem dX4_append_18 : decode cX4_append 18 = .ok (.arraylength, 1) := by decide +kernel
theorem dX4_append_19 : decode cX4_append 19 = .ok (.if_icmp .ge 37, 3) := by decide +kernel
theorem dX4_append_22 : decode cX4_append 22 = .ok (.aload_n 0, 1) := by decide +kernel
theorem dX4_append_23 : decode cX4_append 23 = .ok (.getfield 9, 3) := by decide +kernel
theorem dX4_append_26 : decode cX4_append 26 = .ok (.aload_n 0, 1) := by decide +kernel
theorem dX4_append_27 : decode cX4_append 27 = .ok (.getfield 15, 3) := by decide +kernel
theorem dX4_append_30 : decode cX4_append 30 = .ok (.lload_n 1, 1) := by decide +kernel
theorem dX4_append_31 : decode cX4_append 31 = .ok (.bipush 8, 2) := by decide +kernel
theorem dX4_append_33 : decode cX4_append 33 = .ok (.iload 4, 2) := by decide +kernel
theorem dX4_append_35 : decode cX4_append 35 = .ok (.imul, 1) := by decide +kernel
theorem dX4_append_36 : decode cX4_append 36 = .ok (.lushr, 1) := by decide +kernel
theorem dX4_append_37 : decode cX4_append 37 = .ok (.l2i, 1) := by decide +kernel
theorem dX4_append_38 : decode cX4_append 38 = .ok (.i2b, 1) := by decide +kernel
theorem dX4_append_39 : decode cX4_append 39 = .ok (.bastore, 1) := by decide +kernel
theorem dX4_append_40 : decode cX4_append 40 = .ok (.aload_n 0, 1) := by decide +kernel
theorem dX4_append_41 : decode cX4_append 41 = .ok (.dup, 1) := by decide +kernel
theorem dX4_append_42 : decode cX4_append 42 = .ok (.getfield 15, 3) := by decide +kernel
theorem dX4_append_45 : decode cX4_append 45 = .ok (.iconst 1, 1) := by decide +kernel
theorem dX4_append_46 : decode cX4_append 46 = .ok (.iadd, 1) := by decide +kernel
theorem dX4_append_47 : decode cX4_append 47 = .ok (.putfield 15, 3) := by decide +kernel
theorem dX4_append_50 : decode cX4_append 50 = .ok (.iinc 4 (-1), 3) := by decide +kernel
theorem dX4_append_53 : decode cX4_append 53 = .ok (.goto (-48), 3) := by decide +kernel
theorem dX4_append_56 : decode cX4_append 56 = .ok (.return_, 1) := by decide +kernel
set_option maxRecDepth 20000 in
theorem ggX5_feed_X5_isWithin : GoodIn wsX5_feed wsX5_isWithin := goodIn_r _ [5] (by decide +kernel) (by decide +kernel)
set_option maxRecDepth 20000 in
theorem gX5_feed_X5_isWithin : GoodIn wsX5_feed (va_wsS RX5 68 yX5_isWithin wsX5_isWithin) := goodIn_app (goodIn_of _ (by decide +kernel)) ggX5_feed_X5_isWithin
set_option maxRecDepth 20000 in
theorem ggX5_feed_X4_hasRoomFor : GoodIn wsX5_feed wsX4_hasRoomFor := goodIn_r _ [9, 10, 11, 29, 30] (by decide +kernel) (by decide +kernel)
set_option maxRecDepth 20000 in
theorem gX5_feed_X4_hasRoomFor_n75 : GoodIn wsX5_feed (wsX4_hasRoomFor) := ggX5_feed_X4_hasRoomFor
set_option maxRecDepth 20000 in
theorem ggX5_feed_X4_append : GoodIn wsX5_feed wsX4_append := goodIn_r _ [14, 11, 10, 29, 30] (by decide +kernel) (by decide +kernel)
set_option maxRecDepth 20000 in
theorem gX5_feed_X4_append_n79 : GoodIn wsX5_feed (wsX4_append) := ggX5_feed_X4_append
theorem dX5_feed_0 : decode cX5_feed 0 = .ok (.iload_n 3, 1) := by decide +kernel
theorem dX5_feed_1 : decode cX5_feed 1 = .ok (.iconst 1, 1) := by decide +kernel
theorem dX5_feed_2 : decode cX5_feed 2 = .ok (.bipush 8, 2) := by decide +kernel
theorem dX5_feed_4 : decode cX5_feed 4 = .ok (.invokestatic 68, 3) := by decide +kernel
theorem dX5_feed_7 : decode cX5_feed 7 = .ok (.ifCond .ne 6, 3) := by decide +kernel
theorem dX5_feed_10 : decode cX5_feed 10 = .ok (.bipush (-2), 2) := by decide +kernel
theorem dX5_feed_12 : decode cX5_feed 12 = .ok (.ireturn, 1) := by decide +kernel
theorem dX5_feed_13 : decode cX5_feed 13 = .ok (.aload_n 0, 1) := by decide +kernel
theorem dX5_feed_14 : decode cX5_feed 14 = .ok (.getfield 31, 3) := by decide +kernel
theorem dX5_feed_17 : decode cX5_feed 17 = .ok (.iload_n 3, 1) := by decide +kernel
theorem dX5_feed_18 : decode cX5_feed 18 = .ok (.invokevirtual 75, 3) := by decide +kernel
theorem dX5_feed_21 : decode cX5_feed 21 = .ok (.ifCond .ne 6, 3) := by decide +kernel
theorem dX5_feed_24 : decode cX5_feed 24 = .ok (.bipush (-4), 2) := by decide +kernel
theorem dX5_feed_26 : decode cX5_feed 26 = .ok (.ireturn, 1) := by decide +kernel
theorem dX5_feed_27 : decode cX5_feed 27 = .ok (.aload_n 0, 1) := by decide +kernel
theorem dX5_feed_28 : decode cX5_feed 28 = .ok (.getfield 31, 3) := by decide +kernel
theorem dX5_feed_31 : decode cX5_feed 31 = .ok (.lload_n 1, 1) := by decide +kernel
theorem dX5_feed_32 : decode cX5_feed 32 = .ok (.iload_n 3, 1) := by decide +kernel
theorem dX5_feed_33 : decode cX5_feed 33 = .ok (.invokevirtual 79, 3) := by decide +kernel
theorem dX5_feed_36 : decode cX5_feed 36 = .ok (.aload_n 0, 1) := by decide +kernel
theorem dX5_feed_37 : decode cX5_feed 37 = .ok (.getfield 31, 3) := by decide +kernel
theorem dX5_feed_40 : decode cX5_feed 40 = .ok (.getfield 83, 3) := by decide +kernel
theorem dX5_feed_43 : decode cX5_feed 43 = .ok (.ireturn, 1) := by decide +kernel
set_option maxRecDepth 20000 in
theorem ggX5_bar_X5_isWord : GoodIn wsX5_bar wsX5_isWord := goodIn_r _ [5, 6, 7, 8, 4, 9] (by decide +kernel) (by decide +kernel)
set_option maxRecDepth 20000 in
theorem gX5_bar_X5_isWord : GoodIn wsX5_bar (va_wsS RX5 141 yX5_isWord wsX5_isWord) := goodIn_app (goodIn_of _ (by decide +kernel)) ggX5_bar_X5_isWord
set_option maxRecDepth 20000 in
theorem ggX5_bar_X2_isBarred : GoodIn wsX5_bar wsX2_isBarred := goodIn_r _ [13, 14, 15, 33, 34, 35, 36, 37, 38, 39, 40] (by decide +kernel) (by decide +kernel)
set_option maxRecDepth 20000 in
theorem gX5_bar_X2_isBarred_n145 : GoodIn wsX5_bar (wsX2_isBarred) := ggX5_bar_X2_isBarred
set_option maxRecDepth 20000 in
theorem ggX5_bar_X2_addBarred : GoodIn wsX5_bar wsX2_addBarred := goodIn_r _ [18, 14, 15, 33, 34, 35, 36, 37, 38, 39, 40] (by decide +kernel) (by decide +kernel)
set_option maxRecDepth 20000 in
theorem gX5_bar_X2_addBarred_n151 : GoodIn wsX5_bar (wsX2_addBarred) := ggX5_bar_X2_addBarred
theorem dX5_bar_0 : decode cX5_bar 0 = .ok (.lload_n 1, 1) := by decide +kernel
theorem dX5_bar_1 : decode cX5_bar 1 = .ok (.invokestatic 141, 3) := by decide +kernel
theorem dX5_bar_4 : decode cX5_bar 4 = .ok (.ifCond .eq 14, 3) := by decide +kernel
theorem dX5_bar_7 : decode cX5_bar 7 = .ok (.aload_n 0, 1) := by decide +kernel
theorem dX5_bar_8 : decode cX5_bar 8 = .ok (.getfield 38, 3) := by decide +kernel
theorem dX5_bar_11 : decode cX5_bar 11 = .ok (.lload_n 1, 1) := by decide +kernel
theorem dX5_bar_12 : decode cX5_bar 12 = .ok (.invokevirtual 145, 3) := by decide +kernel
theorem dX5_bar_15 : decode cX5_bar 15 = .ok (.ifCond .eq 6, 3) := by decide +kernel
theorem dX5_bar_18 : decode cX5_bar 18 = .ok (.bipush (-2), 2) := by decide +kernel
theorem dX5_bar_20 : decode cX5_bar 20 = .ok (.ireturn, 1) := by decide +kernel
theorem dX5_bar_21 : decode cX5_bar 21 = .ok (.aload_n 0, 1) := by decide +kernel
theorem dX5_bar_22 : decode cX5_bar 22 = .ok (.getfield 38, 3) := by decide +kernel
theorem dX5_bar_25 : decode cX5_bar 25 = .ok (.getfield 148, 3) := by decide +kernel
theorem dX5_bar_28 : decode cX5_bar 28 = .ok (.bipush 8, 2) := by decide +kernel
theorem dX5_bar_30 : decode cX5_bar 30 = .ok (.if_icmp .lt 6, 3) := by decide +kernel
theorem dX5_bar_36 : decode cX5_bar 36 = .ok (.aload_n 0, 1) := by decide +kernel
theorem dX5_bar_37 : decode cX5_bar 37 = .ok (.getfield 38, 3) := by decide +kernel
theorem dX5_bar_40 : decode cX5_bar 40 = .ok (.lload_n 1, 1) := by decide +kernel
theorem dX5_bar_41 : decode cX5_bar 41 = .ok (.invokevirtual 151, 3) := by decide +kernel
theorem dX5_bar_44 : decode cX5_bar 44 = .ok (.aload_n 0, 1) := by decide +kernel
theorem dX5_bar_45 : decode cX5_bar 45 = .ok (.getfield 38, 3) := by decide +kernel
theorem dX5_bar_48 : decode cX5_bar 48 = .ok (.getfield 148, 3) := by decide +kernel
theorem dX5_bar_51 : decode cX5_bar 51 = .ok (.ireturn, 1) := by decide +kernel
set_option maxRecDepth 20000 in
theorem ggX5_fewest_J6_bitCount_0f7a4 : GoodIn wsX5_fewest wsJ6_bitCount_0f7a4 := goodIn_r _ [4, 5, 6, 7] (by decide +kernel) (by decide +kernel)
set_option maxRecDepth 20000 in
theorem gX5_fewest_J6_bitCount_0f7a4 : GoodIn wsX5_fewest (va_wsS RX5 179 yJ6_bitCount_0f7a4 wsJ6_bitCount_0f7a4) := goodIn_app (goodIn_of _ (by decide +kernel)) ggX5_fewest_J6_bitCount_0f7a4
set_option maxRecDepth 20000 in
theorem ggX5_fewest_X5_openedBy : GoodIn wsX5_fewest wsX5_openedBy := goodIn_r _ [12, 13, 14, 15, 16, 11, 17, 18, 19, 20, 21, 22, 23, 24, 25, 26, 27, 28, 29, 30, 31, 32, 33, 34, 35, 36, 37, 38, 39, 40, 41, 42, 43, 44, 45, 46, 47] (by decide +kernel) (by decide +kernel)
set_option maxRecDepth 20000 in
theorem gX5_fewest_X5_openedBy : GoodIn wsX5_fewest (wsV RX5 176 RX5 yX5_openedBy wsX5_openedBy) := goodIn_app (goodIn_of _ (by decide +kernel)) ggX5_fewest_X5_openedBy
theorem dX5_fewest_0 : decode cX5_fewest 0 = .ok (.iconst 0, 1) := by decide +kernel
theorem dX5_fewest_1 : decode cX5_fewest 1 = .ok (.istore_n 1, 1) := by decide +kernel
theorem dX5_fewest_2 : decode cX5_fewest 2 = .ok (.iconst 4, 1) := by decide +kernel
theorem dX5_fewest_3 : decode cX5_fewest 3 = .ok (.istore_n 2, 1) := by decide +kernel
theorem dX5_fewest_4 : decode cX5_fewest 4 = .ok (.iconst 1, 1) := by decide +kernel
theorem dX5_fewest_5 : decode cX5_fewest 5 = .ok (.istore_n 3, 1) := by decide +kernel
theorem dX5_fewest_6 : decode cX5_fewest 6 = .ok (.iload_n 3, 1) := by decide +kernel
theorem dX5_fewest_7 : decode cX5_fewest 7 = .ok (.sipush 256, 3) := by decide +kernel
theorem dX5_fewest_10 : decode cX5_fewest 10 = .ok (.if_icmp .ge 32, 3) := by decide +kernel
theorem dX5_fewest_13 : decode cX5_fewest 13 = .ok (.iload_n 3, 1) := by decide +kernel
theorem dX5_fewest_14 : decode cX5_fewest 14 = .ok (.invokestatic 179, 3) := by decide +kernel
theorem dX5_fewest_17 : decode cX5_fewest 17 = .ok (.iload_n 2, 1) := by decide +kernel
theorem dX5_fewest_18 : decode cX5_fewest 18 = .ok (.if_icmp .ge 18, 3) := by decide +kernel
theorem dX5_fewest_21 : decode cX5_fewest 21 = .ok (.aload_n 0, 1) := by decide +kernel
theorem dX5_fewest_22 : decode cX5_fewest 22 = .ok (.iload_n 3, 1) := by decide +kernel
theorem dX5_fewest_23 : decode cX5_fewest 23 = .ok (.invokevirtual 176, 3) := by decide +kernel
theorem dX5_fewest_26 : decode cX5_fewest 26 = .ok (.ifCond .le 10, 3) := by decide +kernel
theorem dX5_fewest_36 : decode cX5_fewest 36 = .ok (.iinc 3 1, 3) := by decide +kernel
theorem dX5_fewest_39 : decode cX5_fewest 39 = .ok (.goto (-33), 3) := by decide +kernel
theorem dX5_fewest_42 : decode cX5_fewest 42 = .ok (.iload_n 1, 1) := by decide +kernel
theorem dX5_fewest_43 : decode cX5_fewest 43 = .ok (.ireturn, 1) := by decide +kernel
set_option maxRecDepth 20000 in
theorem ggX5_share_X5_bearerOf : GoodIn wsX5_share wsX5_bearerOf := goodIn_r _ [5, 6, 7, 8, 9, 4, 10, 11, 50, 51, 52, 53, 54, 55, 56, 57, 58, 59, 60, 61, 62, 63, 40, 41, 42, 43, 44, 45, 46, 47, 48, 49] (by decide +kernel) (by decide +kernel)
set_option maxRecDepth 20000 in
theorem gX5_share_X5_bearerOf : GoodIn wsX5_share (wsV RX5 167 RX5 yX5_bearerOf wsX5_bearerOf) := goodIn_app (goodIn_of _ (by decide +kernel)) ggX5_share_X5_bearerOf
set_option maxRecDepth 20000 in
theorem ggX5_share_X5_find : GoodIn wsX5_share wsX5_find := goodIn_r _ [10, 6, 11, 50, 51, 52, 53, 54, 55, 56, 57, 58, 59, 60, 61, 62, 63] (by decide +kernel) (by decide +kernel)
set_option maxRecDepth 20000 in
theorem gX5_share_X5_find : GoodIn wsX5_share (wsV RX5 86 RX5 yX5_find wsX5_find) := goodIn_app (goodIn_of _ (by decide +kernel)) ggX5_share_X5_find
theorem dX5_share_0 : decode cX5_share 0 = .ok (.iconst 0, 1) := by decide +kernel
theorem dX5_share_1 : decode cX5_share 1 = .ok (.istore_n 1, 1) := by decide +kernel
theorem dX5_share_2 : decode cX5_share 2 = .ok (.iconst 0, 1) := by decide +kernel
theorem dX5_share_3 : decode cX5_share 3 = .ok (.istore_n 2, 1) := by decide +kernel
theorem dX5_share_4 : decode cX5_share 4 = .ok (.iload_n 2, 1) := by decide +kernel
theorem dX5_share_5 : decode cX5_share 5 = .ok (.bipush 100, 2) := by decide +kernel
theorem dX5_share_7 : decode cX5_share 7 = .ok (.if_icmp .ge 64, 3) := by decide +kernel
theorem dX5_share_10 : decode cX5_share 10 = .ok (.aload_n 0, 1) := by decide +kernel
theorem dX5_share_11 : decode cX5_share 11 = .ok (.aload_n 0, 1) := by decide +kernel
theorem dX5_share_12 : decode cX5_share 12 = .ok (.iload_n 2, 1) := by decide +kernel
theorem dX5_share_13 : decode cX5_share 13 = .ok (.invokevirtual 167, 3) := by decide +kernel
theorem dX5_share_16 : decode cX5_share 16 = .ok (.invokevirtual 86, 3) := by decide +kernel
theorem dX5_share_19 : decode cX5_share 19 = .ok (.astore_n 3, 1) := by decide +kernel
theorem dX5_share_20 : decode cX5_share 20 = .ok (.aload_n 3, 1) := by decide +kernel
theorem dX5_share_21 : decode cX5_share 21 = .ok (.ifnull 44, 3) := by decide +kernel
theorem dX5_share_65 : decode cX5_share 65 = .ok (.iinc 2 1, 3) := by decide +kernel
theorem dX5_share_68 : decode cX5_share 68 = .ok (.goto (-64), 3) := by decide +kernel
theorem dX5_share_71 : decode cX5_share 71 = .ok (.iload_n 1, 1) := by decide +kernel
theorem dX5_share_72 : decode cX5_share 72 = .ok (.ireturn, 1) := by decide +kernel
set_option maxRecDepth 20000 in
theorem ggX5_again_X5_bearerOf : GoodIn wsX5_again wsX5_bearerOf := goodIn_r _ [6, 7, 8, 9, 10, 5, 11, 12, 74, 75, 76, 77, 78, 79, 80, 81, 82, 83, 84, 85, 86, 87, 64, 65, 66, 67, 68, 69, 70, 71, 72, 73] (by decide +kernel) (by decide +kernel)
set_option maxRecDepth 20000 in
theorem gX5_again_X5_bearerOf : GoodIn wsX5_again (wsV RX5 167 RX5 yX5_bearerOf wsX5_bearerOf) := goodIn_app (goodIn_of _ (by decide +kernel)) ggX5_again_X5_bearerOf
set_option maxRecDepth 20000 in
theorem ggX5_again_X5_find : GoodIn wsX5_again wsX5_find := goodIn_r _ [11, 7, 12, 74, 75, 76, 77, 78, 79, 80, 81, 82, 83, 84, 85, 86, 87] (by decide +kernel) (by decide +kernel)
set_option maxRecDepth 20000 in
theorem gX5_again_X5_find : GoodIn wsX5_again (wsV RX5 86 RX5 yX5_find wsX5_find) := goodIn_app (goodIn_of _ (by decide +kernel)) ggX5_again_X5_find
theorem dX5_again_0 : decode cX5_again 0 = .ok (.iconst 0, 1) := by decide +kernel
theorem dX5_again_1 : decode cX5_again 1 = .ok (.istore_n 1, 1) := by decide +kernel
theorem dX5_again_2 : decode cX5_again 2 = .ok (.iconst 0, 1) := by decide +kernel
theorem dX5_again_3 : decode cX5_again 3 = .ok (.istore_n 2, 1) := by decide +kernel
theorem dX5_again_4 : decode cX5_again 4 = .ok (.iload_n 2, 1) := by decide +kernel
theorem dX5_again_5 : decode cX5_again 5 = .ok (.bipush 100, 2) := by decide +kernel
theorem dX5_again_7 : decode cX5_again 7 = .ok (.if_icmp .ge 57, 3) := by decide +kernel
theorem dX5_again_10 : decode cX5_again 10 = .ok (.aload_n 0, 1) := by decide +kernel
theorem dX5_again_11 : decode cX5_again 11 = .ok (.aload_n 0, 1) := by decide +kernel
theorem dX5_again_12 : decode cX5_again 12 = .ok (.iload_n 2, 1) := by decide +kernel
theorem dX5_again_13 : decode cX5_again 13 = .ok (.invokevirtual 167, 3) := by decide +kernel
theorem dX5_again_16 : decode cX5_again 16 = .ok (.invokevirtual 86, 3) := by decide +kernel
theorem dX5_again_19 : decode cX5_again 19 = .ok (.astore_n 3, 1) := by decide +kernel
theorem dX5_again_20 : decode cX5_again 20 = .ok (.aload_n 3, 1) := by decide +kernel
theorem dX5_again_21 : decode cX5_again 21 = .ok (.ifnull 37, 3) := by decide +kernel
theorem dX5_again_58 : decode cX5_again 58 = .ok (.iinc 2 1, 3) := by decide +kernel
theorem dX5_again_61 : decode cX5_again 61 = .ok (.goto (-57), 3) := by decide +kernel
theorem dX5_again_64 : decode cX5_again 64 = .ok (.iload_n 1, 1) := by decide +kernel
theorem dX5_again_65 : decode cX5_again 65 = .ok (.ireturn, 1) := by decide +kernel
set_option maxRecDepth 20000 in
theorem ggX5_count_X5_essayCount : GoodIn wsX5_count wsX5_essayCount := goodIn_r _ [9, 1, 10, 11, 12, 8, 13, 14, 15, 16, 17, 18, 155, 156, 157, 158, 159, 160, 161, 162, 163, 164, 165, 166, 167, 168, 179, 180, 181, 182, 183, 184, 185, 186, 187, 188] (by decide +kernel) (by decide +kernel)
set_option maxRecDepth 20000 in
theorem gX5_count_X5_essayCount : GoodIn wsX5_count (wsV RX5 261 RX5 yX5_essayCount wsX5_essayCount) := goodIn_app (goodIn_of _ (by decide +kernel)) ggX5_count_X5_essayCount
set_option maxRecDepth 20000 in
theorem ggX5_count_X5_struckCount : GoodIn wsX5_count wsX5_struckCount := goodIn_r _ [22, 1, 14, 15, 16, 8, 17, 18, 155, 156, 157, 158, 159, 160, 161, 162, 163, 164, 165, 166, 167, 168, 179, 180, 181, 182, 183, 184, 185, 186, 187, 188] (by decide +kernel) (by decide +kernel)
set_option maxRecDepth 20000 in
theorem gX5_count_X5_struckCount : GoodIn wsX5_count (wsV RX5 264 RX5 yX5_struckCount wsX5_struckCount) := goodIn_app (goodIn_of _ (by decide +kernel)) ggX5_count_X5_struckCount
set_option maxRecDepth 20000 in
theorem ggX5_count_X5_markCount : GoodIn wsX5_count wsX5_markCount := goodIn_r _ [26, 1, 14, 15, 16, 8, 17, 18, 27, 28, 29, 30, 31, 32, 33, 34, 35, 36, 37, 38, 39, 40, 155, 156, 157, 158, 159, 160, 161, 162, 163, 164, 165, 166, 167, 168, 179, 180, 181, 182, 183, 184, 185, 186, 187, 188] (by decide +kernel) (by decide +kernel)
set_option maxRecDepth 20000 in
theorem gX5_count_X5_markCount : GoodIn wsX5_count (wsV RX5 267 RX5 yX5_markCount wsX5_markCount) := goodIn_app (goodIn_of _ (by decide +kernel)) ggX5_count_X5_markCount
set_option maxRecDepth 20000 in
theorem ggX5_count_X5_settle : GoodIn wsX5_count wsX5_settle := goodIn_r _ [44, 1, 45, 46, 47, 48, 49, 50, 8, 51, 2, 52, 53, 54, 55, 56, 14, 15, 16, 17, 18, 57, 28, 58, 59, 31, 60, 33, 34, 35, 36, 37, 38, 39, 40, 61, 62, 63, 64, 65, 66, 67, 68, 3, 69, 70, 71, 72, 73, 74, 75, 76, 77, 78, 79, 80, 81, 82, 83, 84, 85, 86, 87, 88, 89, 90, 91, 92, 93, 94, 95, 96, 97, 98, 99, 100, 101, 102, 103, 104, 105, 106, 107, 108, 109, 110, 111, 112, 113, 114, 115, 116, 117, 118, 27, 29, 30, 32, 119, 120, 121, 122, 123, 124, 125, 126, 127, 128, 129, 130, 131, 132, 133, 134, 135, 136, 137, 138, 139, 140, 141, 142, 143, 144, 145, 146, 147, 148, 149, 150, 155, 156, 157, 158, 159, 160, 161, 162, 163, 164, 165, 166, 167, 168, 179, 180, 181, 182, 183, 184, 185, 186, 187, 188, 189, 190, 191, 169, 170, 171, 172, 173, 174, 175, 176] (by decide +kernel) (by decide +kernel)
set_option maxRecDepth 20000 in
theorem gX5_count_X5_settle : GoodIn wsX5_count (wsV RX5 231 RX5 yX5_settle wsX5_settle) := goodIn_app (goodIn_of _ (by decide +kernel)) ggX5_count_X5_settle
set_option maxRecDepth 20000 in
theorem ggX5_count_X5_passingCount : GoodIn wsX5_count wsX5_passingCount := goodIn_r _ [154, 1, 47, 155, 156, 157, 158, 159, 160, 161, 162, 163, 164, 165, 166, 167, 168] (by decide +kernel) (by decide +kernel)
set_option maxRecDepth 20000 in
theorem gX5_count_X5_passingCount : GoodIn wsX5_count (wsV RX5 270 RX5 yX5_passingCount wsX5_passingCount) := goodIn_app (goodIn_of _ (by decide +kernel)) ggX5_count_X5_passingCount
theorem dX5_count_0 : decode cX5_count 0 = .ok (.iload_n 1, 1) := by decide +kernel
theorem dX5_count_1 : decode cX5_count 1 = .ok (.tableswitch 110 0 8 #[51, 56, 61, 66, 74, 82, 90, 95, 100], 51) := by decide +kernel
theorem dX5_count_52 : decode cX5_count 52 = .ok (.aload_n 0, 1) := by decide +kernel
theorem dX5_count_53 : decode cX5_count 53 = .ok (.getfield 15, 3) := by decide +kernel
theorem dX5_count_56 : decode cX5_count 56 = .ok (.ireturn, 1) := by decide +kernel
theorem dX5_count_57 : decode cX5_count 57 = .ok (.aload_n 0, 1) := by decide +kernel
theorem dX5_count_58 : decode cX5_count 58 = .ok (.getfield 25, 3) := by decide +kernel
theorem dX5_count_61 : decode cX5_count 61 = .ok (.ireturn, 1) := by decide +kernel
theorem dX5_count_62 : decode cX5_count 62 = .ok (.aload_n 0, 1) := by decide +kernel
theorem dX5_count_63 : decode cX5_count 63 = .ok (.invokevirtual 261, 3) := by decide +kernel
theorem dX5_count_66 : decode cX5_count 66 = .ok (.ireturn, 1) := by decide +kernel
theorem dX5_count_67 : decode cX5_count 67 = .ok (.aload_n 0, 1) := by decide +kernel
theorem dX5_count_68 : decode cX5_count 68 = .ok (.getfield 38, 3) := by decide +kernel
theorem dX5_count_71 : decode cX5_count 71 = .ok (.getfield 134, 3) := by decide +kernel
theorem dX5_count_74 : decode cX5_count 74 = .ok (.ireturn, 1) := by decide +kernel
theorem dX5_count_75 : decode cX5_count 75 = .ok (.aload_n 0, 1) := by decide +kernel
theorem dX5_count_76 : decode cX5_count 76 = .ok (.getfield 38, 3) := by decide +kernel
theorem dX5_count_79 : decode cX5_count 79 = .ok (.getfield 148, 3) := by decide +kernel
theorem dX5_count_82 : decode cX5_count 82 = .ok (.ireturn, 1) := by decide +kernel
theorem dX5_count_83 : decode cX5_count 83 = .ok (.aload_n 0, 1) := by decide +kernel
theorem dX5_count_84 : decode cX5_count 84 = .ok (.getfield 31, 3) := by decide +kernel
theorem dX5_count_87 : decode cX5_count 87 = .ok (.getfield 83, 3) := by decide +kernel
theorem dX5_count_90 : decode cX5_count 90 = .ok (.ireturn, 1) := by decide +kernel
theorem dX5_count_91 : decode cX5_count 91 = .ok (.aload_n 0, 1) := by decide +kernel
theorem dX5_count_92 : decode cX5_count 92 = .ok (.invokevirtual 264, 3) := by decide +kernel
theorem dX5_count_95 : decode cX5_count 95 = .ok (.ireturn, 1) := by decide +kernel
theorem dX5_count_96 : decode cX5_count 96 = .ok (.aload_n 0, 1) := by decide +kernel
theorem dX5_count_97 : decode cX5_count 97 = .ok (.invokevirtual 267, 3) := by decide +kernel
theorem dX5_count_100 : decode cX5_count 100 = .ok (.ireturn, 1) := by decide +kernel
theorem dX5_count_101 : decode cX5_count 101 = .ok (.aload_n 0, 1) := by decide +kernel
theorem dX5_count_102 : decode cX5_count 102 = .ok (.iconst (-1), 1) := by decide +kernel
theorem dX5_count_103 : decode cX5_count 103 = .ok (.invokevirtual 231, 3) := by decide +kernel
theorem dX5_count_106 : decode cX5_count 106 = .ok (.aload_n 0, 1) := by decide +kernel
theorem dX5_count_107 : decode cX5_count 107 = .ok (.invokevirtual 270, 3) := by decide +kernel
theorem dX5_count_110 : decode cX5_count 110 = .ok (.ireturn, 1) := by decide +kernel
theorem dX5_count_111 : decode cX5_count 111 = .ok (.iconst (-1), 1) := by decide +kernel
theorem dX5_count_112 : decode cX5_count 112 = .ok (.ireturn, 1) := by decide +kernel
set_option maxRecDepth 20000 in
theorem ggX5_isWord_X5_isLetter : GoodIn wsX5_isWord wsX5_isLetter := goodIn_r _ [5] (by decide +kernel) (by decide +kernel)
set_option maxRecDepth 20000 in
theorem gX5_isWord_X5_isLetter : GoodIn wsX5_isWord (va_wsS RX5 275 yX5_isLetter wsX5_isLetter) := goodIn_app (goodIn_of _ (by decide +kernel)) ggX5_isWord_X5_isLetter
theorem dX5_isWord_0 : decode cX5_isWord 0 = .ok (.lload_n 0, 1) := by decide +kernel
theorem dX5_isWord_1 : decode cX5_isWord 1 = .ok (.lconst 0, 1) := by decide +kernel
theorem dX5_isWord_2 : decode cX5_isWord 2 = .ok (.lcmp, 1) := by decide +kernel
theorem dX5_isWord_3 : decode cX5_isWord 3 = .ok (.ifCond .ne 5, 3) := by decide +kernel
theorem dX5_isWord_6 : decode cX5_isWord 6 = .ok (.iconst 0, 1) := by decide +kernel
theorem dX5_isWord_7 : decode cX5_isWord 7 = .ok (.ireturn, 1) := by decide +kernel
theorem dX5_isWord_8 : decode cX5_isWord 8 = .ok (.lload_n 0, 1) := by decide +kernel
theorem dX5_isWord_9 : decode cX5_isWord 9 = .ok (.lstore_n 2, 1) := by decide +kernel
theorem dX5_isWord_10 : decode cX5_isWord 10 = .ok (.iconst 0, 1) := by decide +kernel
theorem dX5_isWord_11 : decode cX5_isWord 11 = .ok (.istore 4, 2) := by decide +kernel
theorem dX5_isWord_13 : decode cX5_isWord 13 = .ok (.iload 4, 2) := by decide +kernel
theorem dX5_isWord_15 : decode cX5_isWord 15 = .ok (.bipush 8, 2) := by decide +kernel
theorem dX5_isWord_17 : decode cX5_isWord 17 = .ok (.if_icmp .ge 34, 3) := by decide +kernel
theorem dX5_isWord_20 : decode cX5_isWord 20 = .ok (.lload_n 2, 1) := by decide +kernel
theorem dX5_isWord_21 : decode cX5_isWord 21 = .ok (.lconst 0, 1) := by decide +kernel
theorem dX5_isWord_22 : decode cX5_isWord 22 = .ok (.lcmp, 1) := by decide +kernel
theorem dX5_isWord_23 : decode cX5_isWord 23 = .ok (.ifCond .eq 28, 3) := by decide +kernel
theorem dX5_isWord_26 : decode cX5_isWord 26 = .ok (.lload_n 2, 1) := by decide +kernel
theorem dX5_isWord_27 : decode cX5_isWord 27 = .ok (.ldc2_w 273, 3) := by decide +kernel
theorem dX5_isWord_30 : decode cX5_isWord 30 = .ok (.land, 1) := by decide +kernel
theorem dX5_isWord_31 : decode cX5_isWord 31 = .ok (.l2i, 1) := by decide +kernel
theorem dX5_isWord_32 : decode cX5_isWord 32 = .ok (.invokestatic 275, 3) := by decide +kernel
theorem dX5_isWord_35 : decode cX5_isWord 35 = .ok (.ifCond .ne 5, 3) := by decide +kernel
theorem dX5_isWord_38 : decode cX5_isWord 38 = .ok (.iconst 0, 1) := by decide +kernel
theorem dX5_isWord_39 : decode cX5_isWord 39 = .ok (.ireturn, 1) := by decide +kernel
theorem dX5_isWord_40 : decode cX5_isWord 40 = .ok (.lload_n 2, 1) := by decide +kernel
theorem dX5_isWord_41 : decode cX5_isWord 41 = .ok (.bipush 8, 2) := by decide +kernel
theorem dX5_isWord_43 : decode cX5_isWord 43 = .ok (.lushr, 1) := by decide +kernel
theorem dX5_isWord_44 : decode cX5_isWord 44 = .ok (.lstore_n 2, 1) := by decide +kernel
theorem dX5_isWord_45 : decode cX5_isWord 45 = .ok (.iinc 4 1, 3) := by decide +kernel
theorem dX5_isWord_48 : decode cX5_isWord 48 = .ok (.goto (-35), 3) := by decide +kernel
theorem dX5_isWord_51 : decode cX5_isWord 51 = .ok (.iconst 1, 1) := by decide +kernel
theorem dX5_isWord_52 : decode cX5_isWord 52 = .ok (.ireturn, 1) := by decide +kernel
theorem dJ6_bitCount_0f7a4_0 : decode cJ6_bitCount_0f7a4 0 = .ok (.iload_n 0, 1) := by decide +kernel
theorem dJ6_bitCount_0f7a4_1 : decode cJ6_bitCount_0f7a4 1 = .ok (.iload_n 0, 1) := by decide +kernel
theorem dJ6_bitCount_0f7a4_2 : decode cJ6_bitCount_0f7a4 2 = .ok (.iconst 1, 1) := by decide +kernel
theorem dJ6_bitCount_0f7a4_3 : decode cJ6_bitCount_0f7a4 3 = .ok (.iushr, 1) := by decide +kernel
theorem dJ6_bitCount_0f7a4_4 : decode cJ6_bitCount_0f7a4 4 = .ok (.ldc_w 265, 3) := by decide +kernel
theorem dJ6_bitCount_0f7a4_7 : decode cJ6_bitCount_0f7a4 7 = .ok (.iand, 1) := by decide +kernel
theorem dJ6_bitCount_0f7a4_8 : decode cJ6_bitCount_0f7a4 8 = .ok (.isub, 1) := by decide +kernel
theorem dJ6_bitCount_0f7a4_9 : decode cJ6_bitCount_0f7a4 9 = .ok (.istore_n 0, 1) := by decide +kernel
theorem dJ6_bitCount_0f7a4_10 : decode cJ6_bitCount_0f7a4 10 = .ok (.iload_n 0, 1) := by decide +kernel
theorem dJ6_bitCount_0f7a4_11 : decode cJ6_bitCount_0f7a4 11 = .ok (.ldc_w 266, 3) := by decide +kernel
theorem dJ6_bitCount_0f7a4_14 : decode cJ6_bitCount_0f7a4 14 = .ok (.iand, 1) := by decide +kernel
theorem dJ6_bitCount_0f7a4_15 : decode cJ6_bitCount_0f7a4 15 = .ok (.iload_n 0, 1) := by decide +kernel
theorem dJ6_bitCount_0f7a4_16 : decode cJ6_bitCount_0f7a4 16 = .ok (.iconst 2, 1) := by decide +kernel
theorem dJ6_bitCount_0f7a4_17 : decode cJ6_bitCount_0f7a4 17 = .ok (.iushr, 1) := by decide +kernel
theorem dJ6_bitCount_0f7a4_18 : decode cJ6_bitCount_0f7a4 18 = .ok (.ldc_w 266, 3) := by decide +kernel
theorem dJ6_bitCount_0f7a4_21 : decode cJ6_bitCount_0f7a4 21 = .ok (.iand, 1) := by decide +kernel
theorem dJ6_bitCount_0f7a4_22 : decode cJ6_bitCount_0f7a4 22 = .ok (.iadd, 1) := by decide +kernel
theorem dJ6_bitCount_0f7a4_23 : decode cJ6_bitCount_0f7a4 23 = .ok (.istore_n 0, 1) := by decide +kernel
theorem dJ6_bitCount_0f7a4_24 : decode cJ6_bitCount_0f7a4 24 = .ok (.iload_n 0, 1) := by decide +kernel
theorem dJ6_bitCount_0f7a4_25 : decode cJ6_bitCount_0f7a4 25 = .ok (.iload_n 0, 1) := by decide +kernel
theorem dJ6_bitCount_0f7a4_26 : decode cJ6_bitCount_0f7a4 26 = .ok (.iconst 4, 1) := by decide +kernel
theorem dJ6_bitCount_0f7a4_27 : decode cJ6_bitCount_0f7a4 27 = .ok (.iushr, 1) := by decide +kernel
theorem dJ6_bitCount_0f7a4_28 : decode cJ6_bitCount_0f7a4 28 = .ok (.iadd, 1) := by decide +kernel
theorem dJ6_bitCount_0f7a4_29 : decode cJ6_bitCount_0f7a4 29 = .ok (.ldc_w 267, 3) := by decide +kernel
theorem dJ6_bitCount_0f7a4_32 : decode cJ6_bitCount_0f7a4 32 = .ok (.iand, 1) := by decide +kernel
theorem dJ6_bitCount_0f7a4_33 : decode cJ6_bitCount_0f7a4 33 = .ok (.istore_n 0, 1) := by decide +kernel
theorem dJ6_bitCount_0f7a4_34 : decode cJ6_bitCount_0f7a4 34 = .ok (.iload_n 0, 1) := by decide +kernel
theorem dJ6_bitCount_0f7a4_35 : decode cJ6_bitCount_0f7a4 35 = .ok (.iload_n 0, 1) := by decide +kernel
theorem dJ6_bitCount_0f7a4_36 : decode cJ6_bitCount_0f7a4 36 = .ok (.bipush 8, 2) := by decide +kernel
theorem dJ6_bitCount_0f7a4_38 : decode cJ6_bitCount_0f7a4 38 = .ok (.iushr, 1) := by decide +kernel
theorem dJ6_bitCount_0f7a4_39 : decode cJ6_bitCount_0f7a4 39 = .ok (.iadd, 1) := by decide +kernel
theorem dJ6_bitCount_0f7a4_40 : decode cJ6_bitCount_0f7a4 40 = .ok (.istore_n 0, 1) := by decide +kernel
theorem dJ6_bitCount_0f7a4_41 : decode cJ6_bitCount_0f7a4 41 = .ok (.iload_n 0, 1) := by decide +kernel
theorem dJ6_bitCount_0f7a4_42 : decode cJ6_bitCount_0f7a4 42 = .ok (.iload_n 0, 1) := by decide +kernel
theorem dJ6_bitCount_0f7a4_43 : decode cJ6_bitCount_0f7a4 43 = .ok (.bipush 16, 2) := by decide +kernel
theorem dJ6_bitCount_0f7a4_45 : decode cJ6_bitCount_0f7a4 45 = .ok (.iushr, 1) := by decide +kernel
theorem dJ6_bitCount_0f7a4_46 : decode cJ6_bitCount_0f7a4 46 = .ok (.iadd, 1) := by decide +kernel
theorem dJ6_bitCount_0f7a4_47 : decode cJ6_bitCount_0f7a4 47 = .ok (.istore_n 0, 1) := by decide +kernel
theorem dJ6_bitCount_0f7a4_48 : decode cJ6_bitCount_0f7a4 48 = .ok (.iload_n 0, 1) := by decide +kernel
theorem dJ6_bitCount_0f7a4_49 : decode cJ6_bitCount_0f7a4 49 = .ok (.bipush 63, 2) := by decide +kernel
theorem dJ6_bitCount_0f7a4_51 : decode cJ6_bitCount_0f7a4 51 = .ok (.iand, 1) := by decide +kernel
theorem dJ6_bitCount_0f7a4_52 : decode cJ6_bitCount_0f7a4 52 = .ok (.ireturn, 1) := by decide +kernel
set_option maxHeartbeats 4000000 in
set_option maxRecDepth 100000 in
theorem c_J_bitCount (l : Launch) (dC : Nat → ClassId) (dI : Nat → Nat → Nat) (c1 : Int32) : Met l yJ6_bitCount_0f7a4 wsJ6_bitCount_0f7a4 ({ frames := 0, cells := 0, slots := 0, locals := 0 }) (va_Pc [.int c1] (PS dC dI [] [])) (vp_Si (fun _ => True)) 0 0 (fun _ => False) := by
  refine Met.ofW (cc := cJ6_bitCount_0f7a4) (maxL := 1) (ret := (some .int)) (by decide) rfl ?_
  intro p e s m args below meth c s₁ B hml hv
  obtain ⟨rfl, hP, hK, hF⟩ := hv
  have hx := B.exec
  have hb := B.bytes
  have hr := B.returns
  have hts := atoms_spec (ws := wsJ6_bitCount_0f7a4) B.pre
  have hown : s.vm.findClass RJ6 = some m.cls := findClass_of_methodNamed B.named
  have hlocks := B.notSynchronized
  have hl := lv_entry ([.int c1]) (n := 1) (Nat.le_of_ble_eq_true rfl)
  rw [lg_entry_eq]
  generalize (lg_sl ([.int c1]) ++ List.replicate (1 - (lg_sl ([.int c1])).length) Slot.unset).toArray = ls at hl ⊢
  have hl : lv_has ls 1 [(0, .int c1)] := hl
  refine lv_iload_n hx hb dJ6_bitCount_0f7a4_0 rfl (lv_at hl 0 rfl) ?_
  refine lv_iload_n hx hb dJ6_bitCount_0f7a4_1 rfl (lv_at hl 0 rfl) ?_
  refine lv_iconst (v := 1) hx hb dJ6_bitCount_0f7a4_2 (by decide) ?_
  refine lv_iushr hx hb dJ6_bitCount_0f7a4_3 rfl ?_
  refine lv_topi (fun f_1 _ => ?_)
  refine lv_ldcw (v := 1431655765) hx hb hown (hts (.constant RJ6 265 (1431655765)) (List.mem_of_getElem? (i := 1) rfl)) dJ6_bitCount_0f7a4_4 ?_
  refine lv_iand hx hb dJ6_bitCount_0f7a4_7 ?_
  refine lv_isub hx hb dJ6_bitCount_0f7a4_8 ?_
  refine lv_istore_n (lv' := [(0, .int (c1 - (f_1 &&& 1431655765)))]) hx hb dJ6_bitCount_0f7a4_9 rfl hl (by decide) rfl (fun ls hl => ?_)
  refine lv_iload_n hx hb dJ6_bitCount_0f7a4_10 rfl (lv_at hl 0 rfl) ?_
  refine lv_ldcw (v := 858993459) hx hb hown (hts (.constant RJ6 266 (858993459)) (List.mem_of_getElem? (i := 2) rfl)) dJ6_bitCount_0f7a4_11 ?_
  refine lv_iand hx hb dJ6_bitCount_0f7a4_14 ?_
  refine lv_iload_n hx hb dJ6_bitCount_0f7a4_15 rfl (lv_at hl 0 rfl) ?_
  refine lv_iconst (v := 2) hx hb dJ6_bitCount_0f7a4_16 (by decide) ?_
  refine lv_iushr hx hb dJ6_bitCount_0f7a4_17 rfl ?_
  refine lv_topi (fun f_2 _ => ?_)
  refine lv_ldcw (v := 858993459) hx hb hown (hts (.constant RJ6 266 (858993459)) (List.mem_of_getElem? (i := 2) rfl)) dJ6_bitCount_0f7a4_18 ?_
  refine lv_iand hx hb dJ6_bitCount_0f7a4_21 ?_
  refine lv_iadd hx hb dJ6_bitCount_0f7a4_22 ?_
  refine lv_istore_n (lv' := [(0, .int (((c1 - (f_1 &&& 1431655765)) &&& 858993459) + (f_2 &&& 858993459)))]) hx hb dJ6_bitCount_0f7a4_23 rfl hl (by decide) rfl (fun ls hl => ?_)
  refine lv_iload_n hx hb dJ6_bitCount_0f7a4_24 rfl (lv_at hl 0 rfl) ?_
  refine lv_iload_n hx hb dJ6_bitCount_0f7a4_25 rfl (lv_at hl 0 rfl) ?_
  refine lv_iconst (v := 4) hx hb dJ6_bitCount_0f7a4_26 (by decide) ?_
  refine lv_iushr hx hb dJ6_bitCount_0f7a4_27 rfl ?_
  refine lv_topi (fun f_3 _ => ?_)
  refine lv_iadd hx hb dJ6_bitCount_0f7a4_28 ?_
  refine lv_ldcw (v := 252645135) hx hb hown (hts (.constant RJ6 267 (252645135)) (List.mem_of_getElem? (i := 3) rfl)) dJ6_bitCount_0f7a4_29 ?_
  refine lv_iand hx hb dJ6_bitCount_0f7a4_32 ?_
  refine lv_istore_n (lv' := [(0, .int (((((c1 - (f_1 &&& 1431655765)) &&& 858993459) + (f_2 &&& 858993459)) + f_3) &&& 252645135))]) hx hb dJ6_bitCount_0f7a4_33 rfl hl (by decide) rfl (fun ls hl => ?_)
  refine lv_iload_n hx hb dJ6_bitCount_0f7a4_34 rfl (lv_at hl 0 rfl) ?_
  refine lv_iload_n hx hb dJ6_bitCount_0f7a4_35 rfl (lv_at hl 0 rfl) ?_
  refine lv_bipush (v := 8) hx hb dJ6_bitCount_0f7a4_36 (by decide) ?_
  refine lv_iushr hx hb dJ6_bitCount_0f7a4_38 rfl ?_
  refine lv_topi (fun f_4 _ => ?_)
  refine lv_iadd hx hb dJ6_bitCount_0f7a4_39 ?_
  refine lv_istore_n (lv' := [(0, .int ((((((c1 - (f_1 &&& 1431655765)) &&& 858993459) + (f_2 &&& 858993459)) + f_3) &&& 252645135) + f_4))]) hx hb dJ6_bitCount_0f7a4_40 rfl hl (by decide) rfl (fun ls hl => ?_)
  refine lv_iload_n hx hb dJ6_bitCount_0f7a4_41 rfl (lv_at hl 0 rfl) ?_
  refine lv_iload_n hx hb dJ6_bitCount_0f7a4_42 rfl (lv_at hl 0 rfl) ?_
  refine lv_bipush (v := 16) hx hb dJ6_bitCount_0f7a4_43 (by decide) ?_
  refine lv_iushr hx hb dJ6_bitCount_0f7a4_45 rfl ?_
  refine lv_topi (fun f_5 _ => ?_)
  refine lv_iadd hx hb dJ6_bitCount_0f7a4_46 ?_
  refine lv_istore_n (lv' := [(0, .int (((((((c1 - (f_1 &&& 1431655765)) &&& 858993459) + (f_2 &&& 858993459)) + f_3) &&& 252645135) + f_4) + f_5))]) hx hb dJ6_bitCount_0f7a4_47 rfl hl (by decide) rfl (fun ls hl => ?_)
  refine lv_iload_n hx hb dJ6_bitCount_0f7a4_48 rfl (lv_at hl 0 rfl) ?_
  refine lv_bipush (v := 63) hx hb dJ6_bitCount_0f7a4_49 (by decide) ?_
  refine lv_iand hx hb dJ6_bitCount_0f7a4_51 ?_
  exact W.iret (v := (((((((c1 - (f_1 &&& 1431655765)) &&& 858993459) + (f_2 &&& 858993459)) + f_3) &&& 252645135) + f_4) + f_5) &&& 63) hx hb hr (fun t ht hW => ⟨_, rfl, trivial, ht⟩) (fun _ h9 => absurd h9 List.not_mem_nil) dJ6_bitCount_0f7a4_52

set_option maxHeartbeats 4000000 in
set_option maxRecDepth 100000 in
theorem c_X_share (l : Launch) (dC : Nat → ClassId) (dI : Nat → Nat → Nat) (x : Nat) (cd : Nat) (rd : Nat) (tp : Nat) (fo : Nat) (qu : Nat) (sh : Nat) (vs : Nat) (pa : Nat) (pb : Nat) : Met l yX5_share wsX5_share ({ frames := 1, cells := 0, slots := 0, locals := 23 }) (va_Pc [.ref x] (PS dC dI [(x, .inr (10, [.ref cd, .int 0, .ref rd, .int 0, .ref tp, .ref fo, .int 10, .ref qu, .int 0, .int 0, .ref sh, .ref vs, .ref pa, .ref pb]))] [])) (vp_Si (fun r => r = 0)) 0 0 (fun _ => False) := by
  refine Met.ofW (cc := cX5_share) (maxL := 5) (ret := (some .int)) (by decide) rfl ?_
  intro p e s m args below meth c s₁ B hml hv
  obtain ⟨rfl, hP, hK, hF⟩ := hv
  have hx := B.exec
  have hb := B.bytes
  have hr := B.returns
  have hts := atoms_spec (ws := wsX5_share) B.pre
  have hown : s.vm.findClass RX5 = some m.cls := findClass_of_methodNamed B.named
  have hlocks := B.notSynchronized
  have hl := lv_entry ([.ref x]) (n := 5) (Nat.le_of_ble_eq_true rfl)
  rw [lg_entry_eq]
  generalize (lg_sl ([.ref x]) ++ List.replicate (5 - (lg_sl ([.ref x])).length) Slot.unset).toArray = ls at hl ⊢
  have hl : lv_has ls 5 [(0, .ref x)] := hl
  refine lv_iconst (v := 0) hx hb dX5_share_0 (by decide) ?_
  refine lv_istore_n (lv' := [(1, .int 0), (0, .ref x)]) hx hb dX5_share_1 rfl hl (by decide) rfl (fun ls hl => ?_)
  refine lv_iconst (v := 0) hx hb dX5_share_2 (by decide) ?_
  refine lv_istore_n (lv' := [(2, .int 0), (1, .int 0), (0, .ref x)]) hx hb dX5_share_3 rfl hl (by decide) rfl (fun ls hl => ?_)
  obtain ⟨n_1, en⟩ : ∃ n_1 : Int32, n_1 = 0 := ⟨_, rfl⟩
  replace hl : lv_has ls 5 [(2, .int n_1), (1, .int 0), (0, .ref x)] := by rw [en]; exact hl
  obtain ⟨i, hi, ei⟩ : ∃ i : Nat, i ≤ 100 ∧ n_1 = nI i := ⟨0, by omega, en⟩
  obtain ⟨k, hk⟩ : ∃ k : Nat, 100 - i < k := ⟨101, by omega⟩
  clear en
  induction k generalizing n_1 i ls with
  | zero => exact absurd hk (by omega)
  | succ k ih =>
    refine lv_iload_n hx hb dX5_share_4 rfl (lv_at hl 0 rfl) ?_
    refine lv_bipush (v := 100) hx hb dX5_share_5 (by decide) ?_
    refine lv_icmp_ge (tgt := 71) hx hb dX5_share_7 (by decide) (fun c_2 => ?_) (fun c_2 => ?_)
    · skip
      refine lv_iload_n hx hb dX5_share_71 rfl (lv_at hl 1 rfl) ?_
      exact W.iret (v := 0) hx hb hr (fun t ht hW => ⟨_, rfl, rfl, ht⟩) (fun _ h9 => absurd h9 List.not_mem_nil) dX5_share_72
    · skip
      refine lv_aload_n hx hb dX5_share_10 rfl (lv_at hl 2 rfl) ?_
      refine lv_aload_n hx hb dX5_share_11 rfl (lv_at hl 2 rfl) ?_
      refine lv_iload_n hx hb dX5_share_12 rfl (lv_at hl 0 rfl) ?_
      refine vp_callSi (va_Run.run (va_runV (As := [.int n_1]) (rest := [.ref x]) ⟨hx, hb, hml, hown, hts⟩ (c_X_bearerOf l dC dI x cd rd tp fo qu sh vs pa pb n_1) (cwV 1 hts gX5_share_X5_bearerOf rfl rfl rfl (by decide +kernel) ⟨Nat.le_of_ble_eq_true rfl, Nat.le_of_ble_eq_true rfl⟩) ⟨PS_blind, va_recv hK hP (ci := 10) (q0 := 0) rfl rfl, PS_pre hP hK hF⟩ rfl rfl hl.1 rfl (lv_room (Nat.le_of_ble_eq_true rfl)) dX5_share_13 ⟨Nat.le_of_ble_eq_true rfl, Nat.le_of_ble_eq_true rfl⟩)) (fun r_3 hr_3 => ?_)
      subst hr_3
      refine va_csq (va_Run.run (va_runV (As := [.int (-1)]) (rest := []) ⟨hx, hb, hml, hown, hts⟩ (c_X_find l dC dI x cd rd tp fo qu sh vs pa pb (-1)) (cwV 1 hts gX5_share_X5_find rfl rfl rfl (by decide +kernel) ⟨Nat.le_of_ble_eq_true rfl, Nat.le_of_ble_eq_true rfl⟩) ⟨PS_blind, va_recv hK hP (ci := 10) (q0 := 0) rfl rfl, PS_pre hP hK hF⟩ rfl rfl hl.1 rfl (lv_room (Nat.le_of_ble_eq_true rfl)) dX5_share_16 ⟨Nat.le_of_ble_eq_true rfl, Nat.le_of_ble_eq_true rfl⟩)) (fun r_4 hr_4 => ?_)
      subst hr_4
      refine W.eq (g2 := F0 m 19 ls [.null]) rfl ?_
      refine lv_astore_nN (lv' := [(3, .null), (2, .int n_1), (1, .int 0), (0, .ref x)]) hx hb dX5_share_19 rfl hl (by decide) rfl (fun ls hl => ?_)
      refine lv_aload_nN hx hb dX5_share_20 rfl (lv_at hl 0 rfl) ?_
      refine lv_ifnullN (tgt := 65) hx hb dX5_share_21 (by decide) ?_
      refine lv_iinc (v := n_1 + 1) (lv' := [(2, .int (n_1 + 1)), (3, .null), (1, .int 0), (0, .ref x)]) hx hb dX5_share_65 hl (k := 1) rfl rfl (by decide) rfl (fun ls hl => ?_)
      refine lv_goto (tgt := 4) hx hb dX5_share_68 (by decide) ?_
      have hlt := (i_lt hi (by decide) ei (show ¬ nI 100 ≤ n_1 from c_2))
      exact ih ls (n_1 + 1) (lv_sub hl [0, 2, 3] rfl) (i + 1) hlt (by rw [ei]; exact nI_1 i) (by omega)

set_option maxHeartbeats 4000000 in
set_option maxRecDepth 100000 in
theorem c_X_again (l : Launch) (dC : Nat → ClassId) (dI : Nat → Nat → Nat) (x : Nat) (cd : Nat) (rd : Nat) (tp : Nat) (fo : Nat) (qu : Nat) (sh : Nat) (vs : Nat) (pa : Nat) (pb : Nat) : Met l yX5_again wsX5_again ({ frames := 1, cells := 0, slots := 0, locals := 23 }) (va_Pc [.ref x] (PS dC dI [(x, .inr (10, [.ref cd, .int 0, .ref rd, .int 0, .ref tp, .ref fo, .int 10, .ref qu, .int 0, .int 0, .ref sh, .ref vs, .ref pa, .ref pb]))] [])) (vp_Si (fun r => r = 0)) 0 0 (fun _ => False) := by
  refine Met.ofW (cc := cX5_again) (maxL := 4) (ret := (some .int)) (by decide) rfl ?_
  intro p e s m args below meth c s₁ B hml hv
  obtain ⟨rfl, hP, hK, hF⟩ := hv
  have hx := B.exec
  have hb := B.bytes
  have hr := B.returns
  have hts := atoms_spec (ws := wsX5_again) B.pre
  have hown : s.vm.findClass RX5 = some m.cls := findClass_of_methodNamed B.named
  have hlocks := B.notSynchronized
  have hl := lv_entry ([.ref x]) (n := 4) (Nat.le_of_ble_eq_true rfl)
  rw [lg_entry_eq]
  generalize (lg_sl ([.ref x]) ++ List.replicate (4 - (lg_sl ([.ref x])).length) Slot.unset).toArray = ls at hl ⊢
  have hl : lv_has ls 4 [(0, .ref x)] := hl
  refine lv_iconst (v := 0) hx hb dX5_again_0 (by decide) ?_
  refine lv_istore_n (lv' := [(1, .int 0), (0, .ref x)]) hx hb dX5_again_1 rfl hl (by decide) rfl (fun ls hl => ?_)
  refine lv_iconst (v := 0) hx hb dX5_again_2 (by decide) ?_
  refine lv_istore_n (lv' := [(2, .int 0), (1, .int 0), (0, .ref x)]) hx hb dX5_again_3 rfl hl (by decide) rfl (fun ls hl => ?_)
  obtain ⟨n_1, en⟩ : ∃ n_1 : Int32, n_1 = 0 := ⟨_, rfl⟩
  replace hl : lv_has ls 4 [(2, .int n_1), (1, .int 0), (0, .ref x)] := by rw [en]; exact hl
  obtain ⟨i, hi, ei⟩ : ∃ i : Nat, i ≤ 100 ∧ n_1 = nI i := ⟨0, by omega, en⟩
  obtain ⟨k, hk⟩ : ∃ k : Nat, 100 - i < k := ⟨101, by omega⟩
  clear en
  induction k generalizing n_1 i ls with
  | zero => exact absurd hk (by omega)
  | succ k ih =>
    refine lv_iload_n hx hb dX5_again_4 rfl (lv_at hl 0 rfl) ?_
    refine lv_bipush (v := 100) hx hb dX5_again_5 (by decide) ?_
    refine lv_icmp_ge (tgt := 64) hx hb dX5_again_7 (by decide) (fun c_2 => ?_) (fun c_2 => ?_)
    · skip
      refine lv_iload_n hx hb dX5_again_64 rfl (lv_at hl 1 rfl) ?_
      exact W.iret (v := 0) hx hb hr (fun t ht hW => ⟨_, rfl, rfl, ht⟩) (fun _ h9 => absurd h9 List.not_mem_nil) dX5_again_65
    · skip
      refine lv_aload_n hx hb dX5_again_10 rfl (lv_at hl 2 rfl) ?_
      refine lv_aload_n hx hb dX5_again_11 rfl (lv_at hl 2 rfl) ?_
      refine lv_iload_n hx hb dX5_again_12 rfl (lv_at hl 0 rfl) ?_
      refine vp_callSi (va_Run.run (va_runV (As := [.int n_1]) (rest := [.ref x]) ⟨hx, hb, hml, hown, hts⟩ (c_X_bearerOf l dC dI x cd rd tp fo qu sh vs pa pb n_1) (cwV 1 hts gX5_again_X5_bearerOf rfl rfl rfl (by decide +kernel) ⟨Nat.le_of_ble_eq_true rfl, Nat.le_of_ble_eq_true rfl⟩) ⟨PS_blind, va_recv hK hP (ci := 10) (q0 := 0) rfl rfl, PS_pre hP hK hF⟩ rfl rfl hl.1 rfl (lv_room (Nat.le_of_ble_eq_true rfl)) dX5_again_13 ⟨Nat.le_of_ble_eq_true rfl, Nat.le_of_ble_eq_true rfl⟩)) (fun r_3 hr_3 => ?_)
      subst hr_3
      refine va_csq (va_Run.run (va_runV (As := [.int (-1)]) (rest := []) ⟨hx, hb, hml, hown, hts⟩ (c_X_find l dC dI x cd rd tp fo qu sh vs pa pb (-1)) (cwV 1 hts gX5_again_X5_find rfl rfl rfl (by decide +kernel) ⟨Nat.le_of_ble_eq_true rfl, Nat.le_of_ble_eq_true rfl⟩) ⟨PS_blind, va_recv hK hP (ci := 10) (q0 := 0) rfl rfl, PS_pre hP hK hF⟩ rfl rfl hl.1 rfl (lv_room (Nat.le_of_ble_eq_true rfl)) dX5_again_16 ⟨Nat.le_of_ble_eq_true rfl, Nat.le_of_ble_eq_true rfl⟩)) (fun r_4 hr_4 => ?_)
      subst hr_4
      refine W.eq (g2 := F0 m 19 ls [.null]) rfl ?_
      refine lv_astore_nN (lv' := [(3, .null), (2, .int n_1), (1, .int 0), (0, .ref x)]) hx hb dX5_again_19 rfl hl (by decide) rfl (fun ls hl => ?_)
      refine lv_aload_nN hx hb dX5_again_20 rfl (lv_at hl 0 rfl) ?_
      refine lv_ifnullN (tgt := 58) hx hb dX5_again_21 (by decide) ?_
      refine lv_iinc (v := n_1 + 1) (lv' := [(2, .int (n_1 + 1)), (3, .null), (1, .int 0), (0, .ref x)]) hx hb dX5_again_58 hl (k := 1) rfl rfl (by decide) rfl (fun ls hl => ?_)
      refine lv_goto (tgt := 4) hx hb dX5_again_61 (by decide) ?_
      have hlt := (i_lt hi (by decide) ei (show ¬ nI 100 ≤ n_1 from c_2))
      exact ih ls (n_1 + 1) (lv_sub hl [0, 2, 3] rfl) (i + 1) hlt (by rw [ei]; exact nI_1 i) (by omega)

set_option maxHeartbeats 4000000 in
set_option maxRecDepth 100000 in
theorem c_X_fewest (l : Launch) (dC : Nat → ClassId) (dI : Nat → Nat → Nat) (x : Nat) (cd : Nat) (rd : Nat) (tp : Nat) (fo : Nat) (qu : Nat) (sh : Nat) (vs : Nat) (pa : Nat) (pb : Nat) : Met l yX5_fewest wsX5_fewest ({ frames := 1, cells := 0, slots := 0, locals := 24 }) (va_Pc [.ref x] (PS dC dI [(x, .inr (10, [.ref cd, .int 0, .ref rd, .int 0, .ref tp, .ref fo, .int 10, .ref qu, .int 0, .int 0, .ref sh, .ref vs, .ref pa, .ref pb]))] [])) (vp_Si (fun r => r = 0)) 0 0 (fun _ => False) := by
  refine Met.ofW (cc := cX5_fewest) (maxL := 4) (ret := (some .int)) (by decide) rfl ?_
  intro p e s m args below meth c s₁ B hml hv
  obtain ⟨rfl, hP, hK, hF⟩ := hv
  have hx := B.exec
  have hb := B.bytes
  have hr := B.returns
  have hts := atoms_spec (ws := wsX5_fewest) B.pre
  have hown : s.vm.findClass RX5 = some m.cls := findClass_of_methodNamed B.named
  have hlocks := B.notSynchronized
  have hl := lv_entry ([.ref x]) (n := 4) (Nat.le_of_ble_eq_true rfl)
  rw [lg_entry_eq]
  generalize (lg_sl ([.ref x]) ++ List.replicate (4 - (lg_sl ([.ref x])).length) Slot.unset).toArray = ls at hl ⊢
  have hl : lv_has ls 4 [(0, .ref x)] := hl
  refine lv_iconst (v := 0) hx hb dX5_fewest_0 (by decide) ?_
  refine lv_istore_n (lv' := [(1, .int 0), (0, .ref x)]) hx hb dX5_fewest_1 rfl hl (by decide) rfl (fun ls hl => ?_)
  refine lv_iconst (v := 4) hx hb dX5_fewest_2 (by decide) ?_
  refine lv_istore_n (lv' := [(2, .int 4), (1, .int 0), (0, .ref x)]) hx hb dX5_fewest_3 rfl hl (by decide) rfl (fun ls hl => ?_)
  refine lv_iconst (v := 1) hx hb dX5_fewest_4 (by decide) ?_
  refine lv_istore_n (lv' := [(3, .int 1), (2, .int 4), (1, .int 0), (0, .ref x)]) hx hb dX5_fewest_5 rfl hl (by decide) rfl (fun ls hl => ?_)
  obtain ⟨n_1, en⟩ : ∃ n_1 : Int32, n_1 = 1 := ⟨_, rfl⟩
  replace hl : lv_has ls 4 [(3, .int n_1), (2, .int 4), (1, .int 0), (0, .ref x)] := by rw [en]; exact hl
  obtain ⟨i, hi, ei⟩ : ∃ i : Nat, i ≤ 256 ∧ n_1 = nI i := ⟨1, by omega, en⟩
  obtain ⟨k, hk⟩ : ∃ k : Nat, 256 - i < k := ⟨257, by omega⟩
  clear en
  induction k generalizing n_1 i ls with
  | zero => exact absurd hk (by omega)
  | succ k ih =>
    refine lv_iload_n hx hb dX5_fewest_6 rfl (lv_at hl 0 rfl) ?_
    refine lv_sipush (v := 256) hx hb dX5_fewest_7 (by decide) ?_
    refine lv_icmp_ge (tgt := 42) hx hb dX5_fewest_10 (by decide) (fun c_2 => ?_) (fun c_2 => ?_)
    · skip
      refine lv_iload_n hx hb dX5_fewest_42 rfl (lv_at hl 2 rfl) ?_
      exact W.iret (v := 0) hx hb hr (fun t ht hW => ⟨_, rfl, rfl, ht⟩) (fun _ h9 => absurd h9 List.not_mem_nil) dX5_fewest_43
    · skip
      refine lv_iload_n hx hb dX5_fewest_13 rfl (lv_at hl 0 rfl) ?_
      refine vp_callSi (va_Run.run (va_runS (As := [.int n_1]) (rest := []) ⟨hx, hb, hml, hown, hts⟩ (c_J_bitCount l dC dI n_1) (va_cwS 1 hts gX5_fewest_J6_bitCount_0f7a4 rfl rfl rfl (by decide +kernel) ⟨Nat.le_of_ble_eq_true rfl, Nat.le_of_ble_eq_true rfl⟩) ⟨PS_blind, PS_pre (hP.sub (ws' := []) [] rfl) hK hF⟩ rfl rfl hl.1 rfl (lv_room (Nat.le_of_ble_eq_true rfl)) dX5_fewest_14 ⟨Nat.le_of_ble_eq_true rfl, Nat.le_of_ble_eq_true rfl⟩)) (fun r_3 hr_3 => ?_)
      refine lv_iload_n hx hb dX5_fewest_17 rfl (lv_at hl 1 rfl) ?_
      refine lv_icmp_ge (tgt := 36) hx hb dX5_fewest_18 (by decide) (fun c_4 => ?_) (fun c_4 => ?_)
      · skip
        refine lv_iinc (v := n_1 + 1) (lv' := [(3, .int (n_1 + 1)), (2, .int 4), (1, .int 0), (0, .ref x)]) hx hb dX5_fewest_36 hl (k := 0) rfl rfl (by decide) rfl (fun ls hl => ?_)
        refine lv_goto (tgt := 6) hx hb dX5_fewest_39 (by decide) ?_
        have hlt := (i_lt hi (by decide) ei (show ¬ nI 256 ≤ n_1 from c_2))
        exact ih ls (n_1 + 1) (lv_sub hl [0, 1, 2, 3] rfl) (i + 1) hlt (by rw [ei]; exact nI_1 i) (by omega)
      · skip
        refine lv_aload_n hx hb dX5_fewest_21 rfl (lv_at hl 3 rfl) ?_
        refine lv_iload_n hx hb dX5_fewest_22 rfl (lv_at hl 0 rfl) ?_
        refine vp_callSi (va_Run.run (va_runV (As := [.int n_1]) (rest := []) ⟨hx, hb, hml, hown, hts⟩ (c_X_openedBy l dC dI x cd rd tp fo qu sh vs pa pb n_1) (cwV 1 hts gX5_fewest_X5_openedBy rfl rfl rfl (by decide +kernel) ⟨Nat.le_of_ble_eq_true rfl, Nat.le_of_ble_eq_true rfl⟩) ⟨PS_blind, va_recv hK hP (ci := 10) (q0 := 0) rfl rfl, PS_pre hP hK hF⟩ rfl rfl hl.1 rfl (lv_room (Nat.le_of_ble_eq_true rfl)) dX5_fewest_23 ⟨Nat.le_of_ble_eq_true rfl, Nat.le_of_ble_eq_true rfl⟩)) (fun r_5 hr_5 => ?_)
        subst hr_5
        refine lv_if_le (tgt := 36) hx hb dX5_fewest_26 (by decide) (fun _ => ?_) (fun c_6 => absurd (by decide) c_6)
        refine lv_iinc (v := n_1 + 1) (lv' := [(3, .int (n_1 + 1)), (2, .int 4), (1, .int 0), (0, .ref x)]) hx hb dX5_fewest_36 hl (k := 0) rfl rfl (by decide) rfl (fun ls hl => ?_)
        refine lv_goto (tgt := 6) hx hb dX5_fewest_39 (by decide) ?_
        have hlt := (i_lt hi (by decide) ei (show ¬ nI 256 ≤ n_1 from c_2))
        exact ih ls (n_1 + 1) (lv_sub hl [0, 1, 2, 3] rfl) (i + 1) hlt (by rw [ei]; exact nI_1 i) (by omega)

def sp_X_count (c1 : Int32) : Int32 := if c1 = 0 then 0 else if c1 = 1 then 0 else if c1 = 2 then 0 else if c1 = 3 then 0 else if c1 = 4 then 0 else if c1 = 5 then 0 else if c1 = 6 then 0 else if c1 = 7 then 0 else if c1 = 8 then 0 else (-1)
set_option maxHeartbeats 4000000 in
set_option maxRecDepth 100000 in
theorem c_X_count (l : Launch) (dC : Nat → ClassId) (dI : Nat → Nat → Nat) (x : Nat) (cd : Nat) (rd : Nat) (tp : Nat) (fo : Nat) (qu : Nat) (sh : Nat) (vs : Nat) (pa : Nat) (pb : Nat) (tb : Nat) (le : Nat) (mo : Nat) (os : Nat) (ps : Nat) (br : Nat) (c1 : Int32) : Met l yX5_count wsX5_count ({ frames := 2, cells := 0, slots := 0, locals := 44 }) (va_Pc [.ref x, .int c1] (PS dC dI [(x, .inr (10, [.ref cd, .int 0, .ref rd, .int 0, .ref tp, .ref fo, .int 10, .ref qu, .int 0, .int 0, .ref sh, .ref vs, .ref pa, .ref pb])), (tp, .inr (9, [.ref tb, .int 0])), (fo, .inr (7, [.int 1, .ref le, .ref mo, .ref os, .ref ps, .int 0, .ref br, .int 0]))] [])) (vp_Si (fun r => r = sp_X_count c1)) 0 0 (fun _ => False) := by
  refine Met.ofW (cc := cX5_count) (maxL := 2) (ret := (some .int)) (by decide) rfl ?_
  intro p e s m args below meth c s₁ B hml hv
  obtain ⟨rfl, hP, hK, hF⟩ := hv
  have hx := B.exec
  have hb := B.bytes
  have hr := B.returns
  have hts := atoms_spec (ws := wsX5_count) B.pre
  have hown : s.vm.findClass RX5 = some m.cls := findClass_of_methodNamed B.named
  have hlocks := B.notSynchronized
  have hl := lv_entry ([.ref x, .int c1]) (n := 2) (Nat.le_of_ble_eq_true rfl)
  rw [lg_entry_eq]
  generalize (lg_sl ([.ref x, .int c1]) ++ List.replicate (2 - (lg_sl ([.ref x, .int c1])).length) Slot.unset).toArray = ls at hl ⊢
  have hl : lv_has ls 2 [(0, .ref x), (1, .int c1)] := hl
  refine lv_iload_n hx hb dX5_count_0 rfl (lv_at hl 1 rfl) ?_
  by_cases c_1 : c1 = 0
  · refine lv_tableIn (tgt := 52) hx hb dX5_count_1 (by rw [c_1]; decide) (by rw [c_1]; decide) (off := 51) (by rw [c_1]; decide) (by decide) ?_
    refine lv_aload_n hx hb dX5_count_52 rfl (lv_at hl 0 rfl) ?_
    refine va_get (D := (dC, dI)) (ci := 10) (v := .int 0) (C := RX5) (T := TX5) (N := 14) hx hb hts (fun _ h9 => List.mem_cons_of_mem _ (List.mem_append_left _ (List.mem_append_left _ (List.mem_append_left _ (List.mem_append_left _ (List.mem_append_right _ (h9))))))) hown hK hP 0 rfl rfl 1 (by decide) (hts (.fieldLink RX5 15 "ExamHalls" "candidateCount" "I") (List.mem_of_getElem? (i := 1) rfl)) (fun _ h9 => h9) rfl dX5_count_53 ?_
    exact W.iret (v := 0) hx hb hr (fun t ht hW => ⟨_, rfl, (by simp only [sp_X_count, if_pos c_1]), ht⟩) (fun _ h9 => absurd h9 List.not_mem_nil) dX5_count_56
  by_cases c_2 : c1 = 1
  · refine lv_tableIn (tgt := 57) hx hb dX5_count_1 (by rw [c_2]; decide) (by rw [c_2]; decide) (off := 56) (by rw [c_2]; decide) (by decide) ?_
    refine lv_aload_n hx hb dX5_count_57 rfl (lv_at hl 0 rfl) ?_
    refine va_get (D := (dC, dI)) (ci := 10) (v := .int 0) (C := RX5) (T := TX5) (N := 14) hx hb hts (fun _ h9 => List.mem_cons_of_mem _ (List.mem_append_left _ (List.mem_append_left _ (List.mem_append_left _ (List.mem_append_left _ (List.mem_append_right _ (h9))))))) hown hK hP 0 rfl rfl 3 (by decide) (hts (.fieldLink RX5 25 "ExamHalls" "readerCount" "I") (List.mem_of_getElem? (i := 2) rfl)) (fun _ h9 => h9) rfl dX5_count_58 ?_
    exact W.iret (v := 0) hx hb hr (fun t ht hW => ⟨_, rfl, (by simp only [sp_X_count, if_neg c_1, if_pos c_2]), ht⟩) (fun _ h9 => absurd h9 List.not_mem_nil) dX5_count_61
  by_cases c_3 : c1 = 2
  · refine lv_tableIn (tgt := 62) hx hb dX5_count_1 (by rw [c_3]; decide) (by rw [c_3]; decide) (off := 61) (by rw [c_3]; decide) (by decide) ?_
    refine lv_aload_n hx hb dX5_count_62 rfl (lv_at hl 0 rfl) ?_
    refine vp_callSi (va_Run.run (va_runV (As := []) (rest := []) ⟨hx, hb, hml, hown, hts⟩ (c_X_essayCount l dC dI x cd rd tp fo qu sh vs pa pb) (cwV 0 hts gX5_count_X5_essayCount rfl rfl rfl (by decide +kernel) ⟨Nat.le_of_ble_eq_true rfl, Nat.le_of_ble_eq_true rfl⟩) ⟨PS_blind, va_recv hK hP (ci := 10) (q0 := 0) rfl rfl, PS_pre (hP.sub (ws' := [(x, .inr (10, [.ref cd, .int 0, .ref rd, .int 0, .ref tp, .ref fo, .int 10, .ref qu, .int 0, .int 0, .ref sh, .ref vs, .ref pa, .ref pb]))]) [0] rfl) hK hF⟩ rfl rfl hl.1 rfl (lv_room (Nat.le_of_ble_eq_true rfl)) dX5_count_63 ⟨Nat.le_of_ble_eq_true rfl, Nat.le_of_ble_eq_true rfl⟩)) (fun r_4 hr_4 => ?_)
    subst hr_4
    exact W.iret (v := 0) hx hb hr (fun t ht hW => ⟨_, rfl, (by simp only [sp_X_count, if_neg c_1, if_neg c_2, if_pos c_3]), ht⟩) (fun _ h9 => absurd h9 List.not_mem_nil) dX5_count_66
  by_cases c_5 : c1 = 3
  · refine lv_tableIn (tgt := 67) hx hb dX5_count_1 (by rw [c_5]; decide) (by rw [c_5]; decide) (off := 66) (by rw [c_5]; decide) (by decide) ?_
    refine lv_aload_n hx hb dX5_count_67 rfl (lv_at hl 0 rfl) ?_
    refine va_get (D := (dC, dI)) (ci := 10) (v := .ref fo) (C := RX5) (T := TX5) (N := 14) hx hb hts (fun _ h9 => List.mem_cons_of_mem _ (List.mem_append_left _ (List.mem_append_left _ (List.mem_append_left _ (List.mem_append_left _ (List.mem_append_right _ (h9))))))) hown hK hP 0 rfl rfl 5 (by decide) (hts (.fieldLink RX5 38 "ExamHalls" "form" "LExamHalls$Form;") (List.mem_of_getElem? (i := 3) rfl)) (fun _ h9 => h9) rfl dX5_count_68 ?_
    refine va_getN (D := (dC, dI)) (ci := 7) (v := .int 0) (C := RX2) (T := TX2) (N := 8) hx hb hts (fun _ h9 => List.mem_cons_of_mem _ (List.mem_append_left _ (List.mem_append_left _ (List.mem_append_left _ (List.mem_append_right _ (h9)))))) hown hK hP 2 rfl rfl 5 (by decide) (Ft.nf hF (RX5, 134, "ExamHalls$Form", "parallelCount", "I", RX5) (by decide +kernel)) (fun _ h9 => h9) rfl dX5_count_71 ?_
    exact W.iret (v := 0) hx hb hr (fun t ht hW => ⟨_, rfl, (by simp only [sp_X_count, if_neg c_1, if_neg c_2, if_neg c_3, if_pos c_5]), ht⟩) (fun _ h9 => absurd h9 List.not_mem_nil) dX5_count_74
  by_cases c_6 : c1 = 4
  · refine lv_tableIn (tgt := 75) hx hb dX5_count_1 (by rw [c_6]; decide) (by rw [c_6]; decide) (off := 74) (by rw [c_6]; decide) (by decide) ?_
    refine lv_aload_n hx hb dX5_count_75 rfl (lv_at hl 0 rfl) ?_
    refine va_get (D := (dC, dI)) (ci := 10) (v := .ref fo) (C := RX5) (T := TX5) (N := 14) hx hb hts (fun _ h9 => List.mem_cons_of_mem _ (List.mem_append_left _ (List.mem_append_left _ (List.mem_append_left _ (List.mem_append_left _ (List.mem_append_right _ (h9))))))) hown hK hP 0 rfl rfl 5 (by decide) (hts (.fieldLink RX5 38 "ExamHalls" "form" "LExamHalls$Form;") (List.mem_of_getElem? (i := 3) rfl)) (fun _ h9 => h9) rfl dX5_count_76 ?_
    refine va_getN (D := (dC, dI)) (ci := 7) (v := .int 0) (C := RX2) (T := TX2) (N := 8) hx hb hts (fun _ h9 => List.mem_cons_of_mem _ (List.mem_append_left _ (List.mem_append_left _ (List.mem_append_left _ (List.mem_append_right _ (h9)))))) hown hK hP 2 rfl rfl 7 (by decide) (Ft.nf hF (RX5, 148, "ExamHalls$Form", "barredCount", "I", RX5) (by decide +kernel)) (fun _ h9 => h9) rfl dX5_count_79 ?_
    exact W.iret (v := 0) hx hb hr (fun t ht hW => ⟨_, rfl, (by simp only [sp_X_count, if_neg c_1, if_neg c_2, if_neg c_3, if_neg c_5, if_pos c_6]), ht⟩) (fun _ h9 => absurd h9 List.not_mem_nil) dX5_count_82
  by_cases c_7 : c1 = 5
  · refine lv_tableIn (tgt := 83) hx hb dX5_count_1 (by rw [c_7]; decide) (by rw [c_7]; decide) (off := 82) (by rw [c_7]; decide) (by decide) ?_
    refine lv_aload_n hx hb dX5_count_83 rfl (lv_at hl 0 rfl) ?_
    refine va_get (D := (dC, dI)) (ci := 10) (v := .ref tp) (C := RX5) (T := TX5) (N := 14) hx hb hts (fun _ h9 => List.mem_cons_of_mem _ (List.mem_append_left _ (List.mem_append_left _ (List.mem_append_left _ (List.mem_append_left _ (List.mem_append_right _ (h9))))))) hown hK hP 0 rfl rfl 4 (by decide) (hts (.fieldLink RX5 31 "ExamHalls" "tape" "LExamHalls$Tape;") (List.mem_of_getElem? (i := 4) rfl)) (fun _ h9 => h9) rfl dX5_count_84 ?_
    refine va_getN (D := (dC, dI)) (ci := 9) (v := .int 0) (C := RX4) (T := TX4) (N := 2) hx hb hts (fun _ h9 => List.mem_cons_of_mem _ (List.mem_append_left _ (List.mem_append_left _ (List.mem_append_right _ (h9))))) hown hK hP 1 rfl rfl 1 (by decide) (Ft.nf hF (RX5, 83, "ExamHalls$Tape", "size", "I", RX5) (by decide +kernel)) (fun _ h9 => h9) rfl dX5_count_87 ?_
    exact W.iret (v := 0) hx hb hr (fun t ht hW => ⟨_, rfl, (by simp only [sp_X_count, if_neg c_1, if_neg c_2, if_neg c_3, if_neg c_5, if_neg c_6, if_pos c_7]), ht⟩) (fun _ h9 => absurd h9 List.not_mem_nil) dX5_count_90
  by_cases c_8 : c1 = 6
  · refine lv_tableIn (tgt := 91) hx hb dX5_count_1 (by rw [c_8]; decide) (by rw [c_8]; decide) (off := 90) (by rw [c_8]; decide) (by decide) ?_
    refine lv_aload_n hx hb dX5_count_91 rfl (lv_at hl 0 rfl) ?_
    refine vp_callSi (va_Run.run (va_runV (As := []) (rest := []) ⟨hx, hb, hml, hown, hts⟩ (c_X_struckCount l dC dI x cd rd tp fo qu sh vs pa pb) (cwV 0 hts gX5_count_X5_struckCount rfl rfl rfl (by decide +kernel) ⟨Nat.le_of_ble_eq_true rfl, Nat.le_of_ble_eq_true rfl⟩) ⟨PS_blind, va_recv hK hP (ci := 10) (q0 := 0) rfl rfl, PS_pre (hP.sub (ws' := [(x, .inr (10, [.ref cd, .int 0, .ref rd, .int 0, .ref tp, .ref fo, .int 10, .ref qu, .int 0, .int 0, .ref sh, .ref vs, .ref pa, .ref pb]))]) [0] rfl) hK hF⟩ rfl rfl hl.1 rfl (lv_room (Nat.le_of_ble_eq_true rfl)) dX5_count_92 ⟨Nat.le_of_ble_eq_true rfl, Nat.le_of_ble_eq_true rfl⟩)) (fun r_9 hr_9 => ?_)
    subst hr_9
    exact W.iret (v := 0) hx hb hr (fun t ht hW => ⟨_, rfl, (by simp only [sp_X_count, if_neg c_1, if_neg c_2, if_neg c_3, if_neg c_5, if_neg c_6, if_neg c_7, if_pos c_8]), ht⟩) (fun _ h9 => absurd h9 List.not_mem_nil) dX5_count_95
  by_cases c_10 : c1 = 7
  · refine lv_tableIn (tgt := 96) hx hb dX5_count_1 (by rw [c_10]; decide) (by rw [c_10]; decide) (off := 95) (by rw [c_10]; decide) (by decide) ?_
    refine lv_aload_n hx hb dX5_count_96 rfl (lv_at hl 0 rfl) ?_
    refine vp_callSi (va_Run.run (va_runV (As := []) (rest := []) ⟨hx, hb, hml, hown, hts⟩ (c_X_markCount l dC dI x cd rd tp fo qu sh vs pa pb) (cwV 0 hts gX5_count_X5_markCount rfl rfl rfl (by decide +kernel) ⟨Nat.le_of_ble_eq_true rfl, Nat.le_of_ble_eq_true rfl⟩) ⟨PS_blind, va_recv hK hP (ci := 10) (q0 := 0) rfl rfl, PS_pre (hP.sub (ws' := [(x, .inr (10, [.ref cd, .int 0, .ref rd, .int 0, .ref tp, .ref fo, .int 10, .ref qu, .int 0, .int 0, .ref sh, .ref vs, .ref pa, .ref pb]))]) [0] rfl) hK hF⟩ rfl rfl hl.1 rfl (lv_room (Nat.le_of_ble_eq_true rfl)) dX5_count_97 ⟨Nat.le_of_ble_eq_true rfl, Nat.le_of_ble_eq_true rfl⟩)) (fun r_11 hr_11 => ?_)
    subst hr_11
    exact W.iret (v := 0) hx hb hr (fun t ht hW => ⟨_, rfl, (by simp only [sp_X_count, if_neg c_1, if_neg c_2, if_neg c_3, if_neg c_5, if_neg c_6, if_neg c_7, if_neg c_8, if_pos c_10]), ht⟩) (fun _ h9 => absurd h9 List.not_mem_nil) dX5_count_100
  by_cases c_12 : c1 = 8
  · refine lv_tableIn (tgt := 101) hx hb dX5_count_1 (by rw [c_12]; decide) (by rw [c_12]; decide) (off := 100) (by rw [c_12]; decide) (by decide) ?_
    refine lv_aload_n hx hb dX5_count_101 rfl (lv_at hl 0 rfl) ?_
    refine lv_iconst (v := (-1)) hx hb dX5_count_102 (by decide) ?_
    refine va_csv (va_Run.run (va_runV (As := [.int (-1)]) (rest := []) ⟨hx, hb, hml, hown, hts⟩ (c_X_settle l dC dI x cd rd tp fo qu sh vs pa pb (-1)) (cwV 1 hts gX5_count_X5_settle rfl rfl rfl (by decide +kernel) ⟨Nat.le_of_ble_eq_true rfl, Nat.le_of_ble_eq_true rfl⟩) ⟨PS_blind, va_recv hK hP (ci := 10) (q0 := 0) rfl rfl, PS_pre (hP.sub (ws' := [(x, .inr (10, [.ref cd, .int 0, .ref rd, .int 0, .ref tp, .ref fo, .int 10, .ref qu, .int 0, .int 0, .ref sh, .ref vs, .ref pa, .ref pb]))]) [0] rfl) hK hF⟩ rfl rfl hl.1 rfl (lv_room (Nat.le_of_ble_eq_true rfl)) dX5_count_103 ⟨Nat.le_of_ble_eq_true rfl, Nat.le_of_ble_eq_true rfl⟩)) (fun _ => ?_)
    refine lv_aload_n hx hb dX5_count_106 rfl (lv_at hl 0 rfl) ?_
    refine vp_callSi (va_Run.run (va_runV (As := []) (rest := []) ⟨hx, hb, hml, hown, hts⟩ (c_X_passingCount l dC dI x cd rd tp fo qu sh vs pa pb) (cwV 0 hts gX5_count_X5_passingCount rfl rfl rfl (by decide +kernel) ⟨Nat.le_of_ble_eq_true rfl, Nat.le_of_ble_eq_true rfl⟩) ⟨PS_blind, va_recv hK hP (ci := 10) (q0 := 0) rfl rfl, PS_pre (hP.sub (ws' := [(x, .inr (10, [.ref cd, .int 0, .ref rd, .int 0, .ref tp, .ref fo, .int 10, .ref qu, .int 0, .int 0, .ref sh, .ref vs, .ref pa, .ref pb]))]) [0] rfl) hK hF⟩ rfl rfl hl.1 rfl (lv_room (Nat.le_of_ble_eq_true rfl)) dX5_count_107 ⟨Nat.le_of_ble_eq_true rfl, Nat.le_of_ble_eq_true rfl⟩)) (fun r_14 hr_14 => ?_)
    subst hr_14
    exact W.iret (v := 0) hx hb hr (fun t ht hW => ⟨_, rfl, (by simp only [sp_X_count, if_neg c_1, if_neg c_2, if_neg c_3, if_neg c_5, if_neg c_6, if_neg c_7, if_neg c_8, if_neg c_10, if_pos c_12]), ht⟩) (fun _ h9 => absurd h9 List.not_mem_nil) dX5_count_110
  refine lv_tableOut (tgt := 111) hx hb dX5_count_1 (by have h9 := sw_ne8 c_1 c_2 c_3 c_5 c_6 c_7 c_8 c_10 c_12; exact h9) (by decide) ?_
  refine lv_iconst (v := (-1)) hx hb dX5_count_111 (by decide) ?_
  exact W.iret (v := (-1)) hx hb hr (fun t ht hW => ⟨_, rfl, (by simp only [sp_X_count, if_neg c_1, if_neg c_2, if_neg c_3, if_neg c_5, if_neg c_6, if_neg c_7, if_neg c_8, if_neg c_10, if_neg c_12]), ht⟩) (fun _ h9 => absurd h9 List.not_mem_nil) dX5_count_112

def wd : Nat → Int64 → Int32
  | 0, _ => 1
  | k + 1, r => if lg_cmp r 0 = 0 then 1 else if sp_X_isLetter ((r &&& 255).toInt32) = 0 then 0 else wd k ((r.toUInt64 >>> ((8 : Int32).toInt64.toUInt64 &&& Int64.toUInt64 63)).toInt64)
def sp_X_isWord (w : Int64) : Int32 := if lg_cmp w 0 = 0 then 0 else wd 8 w
theorem n_of {n : Int32} (h : ¬ sp_X_isWithin n 1 8 = 0) : ∃ N : Nat, N ≤ 8 ∧ n = nI N := by
  obtain ⟨h1, h2⟩ := wb h
  obtain ⟨j, hj, rfl⟩ := nI_of (x := n) (fun q => h1 (Int32.lt_trans q (by decide)))
  exact ⟨j, Nat.le_of_not_lt (fun q => h2 (show nI 8 < nI j from nI_lt q hj)), rfl⟩

set_option maxHeartbeats 4000000 in
set_option maxRecDepth 100000 in
theorem c_X_isWord (l : Launch) (dC : Nat → ClassId) (dI : Nat → Nat → Nat) (c1 : Int64) : Met l yX5_isWord wsX5_isWord ({ frames := 1, cells := 0, slots := 0, locals := 20 }) (va_Pc [.long c1] (PS dC dI [] [])) (vp_Si (fun r => r = sp_X_isWord c1)) 0 0 (fun _ => False) := by
  refine Met.ofW (cc := cX5_isWord) (maxL := 5) (ret := (some .boolean)) (by decide) rfl ?_
  intro p e s m args below meth c s₁ B hml hv
  obtain ⟨rfl, hP, hK, hF⟩ := hv
  have hx := B.exec
  have hb := B.bytes
  have hr := B.returns
  have hts := atoms_spec (ws := wsX5_isWord) B.pre
  have hown : s.vm.findClass RX5 = some m.cls := findClass_of_methodNamed B.named
  have hlocks := B.notSynchronized
  have hl := lv_entry ([.long c1]) (n := 5) (Nat.le_of_ble_eq_true rfl)
  rw [lg_entry_eq]
  generalize (lg_sl ([.long c1]) ++ List.replicate (5 - (lg_sl ([.long c1])).length) Slot.unset).toArray = ls at hl ⊢
  have hl : lv_has ls 5 [(0, .long c1)] := hl
  refine lv_lload_n hx hb dX5_isWord_0 rfl (lv_at hl 0 rfl) ?_
  refine lv_lconst (v := 0) hx hb dX5_isWord_1 (by decide) ?_
  refine W.lcmp hx hb dX5_isWord_2 ?_
  refine lv_if_ne (tgt := 8) hx hb dX5_isWord_3 (by decide) (fun c_1 => ?_) (fun c_1 => ?_)
  · skip
    refine lv_lload_n hx hb dX5_isWord_8 rfl (lv_at hl 0 rfl) ?_
    refine lv_lstore_n (lv' := [(2, .long c1), (0, .long c1)]) hx hb dX5_isWord_9 rfl hl (by decide) rfl (fun ls hl => ?_)
    refine lv_iconst (v := 0) hx hb dX5_isWord_10 (by decide) ?_
    refine lv_istore (lv' := [(4, .int 0), (2, .long c1), (0, .long c1)]) hx hb dX5_isWord_11 hl (by decide) rfl (fun ls hl => ?_)
    obtain ⟨i, ei0⟩ : ∃ i : Int32, i = 0 := ⟨_, rfl⟩
    obtain ⟨r, er⟩ : ∃ r : Int64, r = c1 := ⟨_, rfl⟩
    replace hl : lv_has ls 5 [(4, .int i), (2, .long r), (0, .long c1)] := by rw [ei0, er]; exact lv_sub hl [0, 1, 2] rfl
    obtain ⟨k, hk, ei, hsp⟩ : ∃ k : Nat, k ≤ 8 ∧ i = nI (8 - k) ∧ sp_X_isWord c1 = wd k r := ⟨8, Nat.le_refl _, ei0, by rw [sp_X_isWord, if_neg c_1, er]⟩
    clear ei0 er
    induction k generalizing i r ls with
    | zero =>
      have hz : (8 : Int32) ≤ i := by rw [ei]; decide
      refine lv_iload hx hb dX5_isWord_13 (lv_at hl 0 rfl) ?_
      refine lv_bipush (v := 8) hx hb dX5_isWord_15 (by decide) ?_
      refine lv_icmp_ge (tgt := 51) hx hb dX5_isWord_17 (by decide) (fun _ => ?_) (fun c_2 => absurd hz c_2)
      refine lv_iconst (v := 1) hx hb dX5_isWord_51 (by decide) ?_
      exact W.zret (v := 1) hx hb hr (by decide) (fun t ht hW => ⟨_, rfl, (by rw [hsp]; rfl), ht⟩) (fun _ h9 => absurd h9 List.not_mem_nil) dX5_isWord_52
    | succ k ih =>
      have hz : ¬ (8 : Int32) ≤ i := by rw [ei]; exact (show ¬ nI 8 ≤ nI _ from nI_ge (by omega) (by decide))
      refine lv_iload hx hb dX5_isWord_13 (lv_at hl 0 rfl) ?_
      refine lv_bipush (v := 8) hx hb dX5_isWord_15 (by decide) ?_
      refine lv_icmp_ge (tgt := 51) hx hb dX5_isWord_17 (by decide) (fun c_3 => absurd c_3 hz) (fun _ => ?_)
      refine lv_lload_n hx hb dX5_isWord_20 rfl (lv_at hl 1 rfl) ?_
      refine lv_lconst (v := 0) hx hb dX5_isWord_21 (by decide) ?_
      refine W.lcmp hx hb dX5_isWord_22 ?_
      refine lv_if_eq (tgt := 51) hx hb dX5_isWord_23 (by decide) (fun c_4 => ?_) (fun c_4 => ?_)
      · skip
        refine lv_iconst (v := 1) hx hb dX5_isWord_51 (by decide) ?_
        exact W.zret (v := 1) hx hb hr (by decide) (fun t ht hW => ⟨_, rfl, (by rw [hsp, wd, if_pos c_4]), ht⟩) (fun _ h9 => absurd h9 List.not_mem_nil) dX5_isWord_52
      · skip
        refine lv_lload_n hx hb dX5_isWord_26 rfl (lv_at hl 1 rfl) ?_
        refine lv_ldc2 (v := 255) hx hb hown (hts (.constantLong RX5 273 (255)) (List.mem_of_getElem? (i := 1) rfl)) dX5_isWord_27 ?_
        refine lv_land hx hb dX5_isWord_30 ?_
        refine lv_l2i hx hb dX5_isWord_31 rfl ?_
        refine vp_callSi (va_Run.run (va_runS (As := [.int ((r &&& 255).toInt32)]) (rest := []) ⟨hx, hb, hml, hown, hts⟩ (c_X_isLetter l dC dI ((r &&& 255).toInt32)) (va_cwS 1 hts gX5_isWord_X5_isLetter rfl rfl rfl (by decide +kernel) ⟨Nat.le_of_ble_eq_true rfl, Nat.le_of_ble_eq_true rfl⟩) ⟨PS_blind, PS_pre hP hK hF⟩ rfl rfl hl.1 rfl (lv_room (Nat.le_of_ble_eq_true rfl)) dX5_isWord_32 ⟨Nat.le_of_ble_eq_true rfl, Nat.le_of_ble_eq_true rfl⟩)) (fun r_5 hr_5 => ?_)
        subst hr_5
        refine lv_if_ne (tgt := 40) hx hb dX5_isWord_35 (by decide) (fun c_6 => ?_) (fun c_6 => ?_)
        · skip
          refine lv_lload_n hx hb dX5_isWord_40 rfl (lv_at hl 1 rfl) ?_
          refine lv_bipush (v := 8) hx hb dX5_isWord_41 (by decide) ?_
          refine lv_lushr hx hb dX5_isWord_43 rfl ?_
          refine lv_lstore_n (lv' := [(2, .long ((r.toUInt64 >>> ((8 : Int32).toInt64.toUInt64 &&& Int64.toUInt64 63)).toInt64)), (4, .int i), (0, .long c1)]) hx hb dX5_isWord_44 rfl hl (by decide) rfl (fun ls hl => ?_)
          refine lv_iinc (v := i + 1) (lv' := [(4, .int (i + 1)), (2, .long ((r.toUInt64 >>> ((8 : Int32).toInt64.toUInt64 &&& Int64.toUInt64 63)).toInt64)), (0, .long c1)]) hx hb dX5_isWord_45 hl (k := 1) rfl rfl (by decide) rfl (fun ls hl => ?_)
          refine lv_goto (tgt := 13) hx hb dX5_isWord_48 (by decide) ?_
          exact ih (ls := ls) (i := i + 1) (r := _) (hl := lv_sub hl [0, 1, 2] rfl) (hk := by omega) (ei := by rw [ei, nI_1]; congr 1; omega) (hsp := by rw [hsp, wd, if_neg c_4, if_neg c_6])
        · skip
          refine lv_iconst (v := 0) hx hb dX5_isWord_38 (by decide) ?_
          exact W.zret (v := 0) hx hb hr (by decide) (fun t ht hW => ⟨_, rfl, (by rw [hsp, wd, if_neg c_4, if_pos c_6]), ht⟩) (fun _ h9 => absurd h9 List.not_mem_nil) dX5_isWord_39
  · skip
    refine lv_iconst (v := 0) hx hb dX5_isWord_6 (by decide) ?_
    exact W.zret (v := 0) hx hb hr (by decide) (fun t ht hW => ⟨_, rfl, (by rw [sp_X_isWord, if_pos c_1]), ht⟩) (fun _ h9 => absurd h9 List.not_mem_nil) dX5_isWord_7

def sp_X_bar (c1 : Int64) : Int32 := if (sp_X_isWord c1) = 0 then (-2) else 1
set_option maxHeartbeats 4000000 in
set_option maxRecDepth 100000 in
theorem c_X_bar (l : Launch) (dC : Nat → ClassId) (dI : Nat → Nat → Nat) (x : Nat) (cd : Nat) (rd : Nat) (tp : Nat) (fo : Nat) (qu : Nat) (sh : Nat) (vs : Nat) (pa : Nat) (pb : Nat) (le : Nat) (mo : Nat) (os : Nat) (ps : Nat) (br : Nat) (kb : ClassId) (c1 : Int64) (sz : Nat) : Met l yX5_bar wsX5_bar ({ frames := 2, cells := 0, slots := 0, locals := 44 }) (va_Pc [.ref x, .long c1] (PQ dC dI sz [(x, .inr (10, [.ref cd, .int 0, .ref rd, .int 0, .ref tp, .ref fo, .int 10, .ref qu, .int 0, .int 0, .ref sh, .ref vs, .ref pa, .ref pb])), (fo, .inr (7, [.int 1, .ref le, .ref mo, .ref os, .ref ps, .int 0, .ref br, .int 0])), (br, .inl (kb, 8, .inr (.inl (fun _ => 0))))] [(kb, .long)])) (va_Qi (fun r (_ : Unit) => r = sp_X_bar c1) (fun _ _ => True) (va_A [(x, .inr (10, [.ref cd, .int 0, .ref rd, .int 0, .ref tp, .ref fo, .int 10, .ref qu, .int 0, .int 0, .ref sh, .ref vs, .ref pa, .ref pb])), (fo, .inr (7, [.int 1, .ref le, .ref mo, .ref os, .ref ps, .int 0, .ref br, .int 0])), (br, .inl (kb, 8, .inr (.inl (fun _ => 0))))] sz)) 0 0 (va_A [(x, .inr (10, [.ref cd, .int 0, .ref rd, .int 0, .ref tp, .ref fo, .int 10, .ref qu, .int 0, .int 0, .ref sh, .ref vs, .ref pa, .ref pb])), (fo, .inr (7, [.int 1, .ref le, .ref mo, .ref os, .ref ps, .int 0, .ref br, .int 0])), (br, .inl (kb, 8, .inr (.inl (fun _ => 0))))] sz) := by
  refine Met.ofW (cc := cX5_bar) (maxL := 3) (ret := (some .int)) (by decide) rfl ?_
  intro p e s m args below meth c s₁ B hml hv
  obtain ⟨rfl, hsz, hP, hK, hD0, hF⟩ := hv
  have hx := B.exec
  have hb := B.bytes
  have hr := B.returns
  have hts := atoms_spec (ws := wsX5_bar) B.pre
  have hown : s.vm.findClass RX5 = some m.cls := findClass_of_methodNamed B.named
  have hlocks := B.notSynchronized
  subst hsz
  have hD := hD0.self (sz := s.heap.size)
  generalize hAe : va_A [(x, .inr (10, [.ref cd, .int 0, .ref rd, .int 0, .ref tp, .ref fo, .int 10, .ref qu, .int 0, .int 0, .ref sh, .ref vs, .ref pa, .ref pb])), (fo, .inr (7, [.int 1, .ref le, .ref mo, .ref os, .ref ps, .int 0, .ref br, .int 0])), (br, .inl (kb, 8, .inr (.inl (fun _ => 0))))] s.heap.size = A at hD ⊢
  have hA : ∀ q : Nat, s.heap.size ≤ q → A q := fun q h => by rw [← hAe]; exact Or.inr h
  have hS : va_S A s.heap s.heap [] := va_S.rf
  have hl := lv_entry ([.ref x, .long c1]) (n := 3) (Nat.le_of_ble_eq_true rfl)
  rw [lg_entry_eq]
  generalize (lg_sl ([.ref x, .long c1]) ++ List.replicate (3 - (lg_sl ([.ref x, .long c1])).length) Slot.unset).toArray = ls at hl ⊢
  have hl : lv_has ls 3 [(0, .ref x), (1, .long c1)] := hl
  refine lv_lload_n hx hb dX5_bar_0 rfl (lv_at hl 1 rfl) ?_
  refine vp_callSi (va_Run.run (va_runS (As := [.long c1]) (rest := []) ⟨hx, hb, hml, hown, hts⟩ (c_X_isWord l dC dI c1) (va_cwS 1 hts gX5_bar_X5_isWord rfl rfl rfl (by decide +kernel) ⟨Nat.le_of_ble_eq_true rfl, Nat.le_of_ble_eq_true rfl⟩) ⟨PS_blind, PS_pre (hP.sub (ws' := []) [] rfl) (hK.sub (tys' := []) [] rfl) hF⟩ rfl rfl hl.1 rfl (lv_room (Nat.le_of_ble_eq_true rfl)) dX5_bar_1 ⟨Nat.le_of_ble_eq_true rfl, Nat.le_of_ble_eq_true rfl⟩)) (fun r_1 hr_1 => ?_)
  subst hr_1
  refine lv_if_eq (tgt := 18) hx hb dX5_bar_4 (by decide) (fun c_2 => ?_) (fun c_2 => ?_)
  · skip
    refine lv_bipush (v := (-2)) hx hb dX5_bar_18 (by decide) ?_
    exact W.iret (v := (-2)) hx hb hr (fun t ht hW => ⟨⟨_, (), rfl, (by simp only [sp_X_bar, if_pos c_2]), trivial⟩, hS.F ht⟩) hS.2.2 dX5_bar_20
  · skip
    refine lv_aload_n hx hb dX5_bar_7 rfl (lv_at hl 0 rfl) ?_
    refine va_get (D := (dC, dI)) (ci := 10) (v := .ref fo) (C := RX5) (T := TX5) (N := 14) hx hb hts (fun _ h9 => List.mem_cons_of_mem _ (List.mem_append_left _ (List.mem_append_right _ (h9)))) hown hK hP 0 rfl rfl 5 (by decide) (hts (.fieldLink RX5 38 "ExamHalls" "form" "LExamHalls$Form;") (List.mem_of_getElem? (i := 1) rfl)) (fun _ h9 => h9) rfl dX5_bar_8 ?_
    refine lv_lload_n hx hb dX5_bar_11 rfl (lv_at hl 1 rfl) ?_
    refine vp_callSi (va_Run.run (va_runVN (As := [.long c1]) (rest := []) ⟨hx, hb, hml, hown, hts⟩ (c_F_isBarred l dC dI fo le mo os ps br c1) ⟨va_cnB 1 hts gX5_bar_X2_isBarred_n145 rfl rfl rfl (Ft.nm hF (RX5, 145, yX2_isBarred, RX5) (by decide +kernel)) (hts (.initialized RX2) (List.mem_of_getElem? (i := 11) rfl)) (by decide +kernel) ⟨Nat.le_of_ble_eq_true rfl, Nat.le_of_ble_eq_true rfl⟩, (hts (.instanceMethod yX2_isBarred) (List.mem_of_getElem? (i := 10) rfl)), (hts (.selects RX2 yX2_isBarred yX2_isBarred) (List.mem_of_getElem? (i := 12) rfl))⟩ ⟨PS_blind, va_recv hK hP (ci := 7) (q0 := 1) rfl rfl, PS_pre (hP.sub (ws' := [(fo, .inr (7, [.int 1, .ref le, .ref mo, .ref os, .ref ps, .int 0, .ref br, .int 0]))]) [1] rfl) (hK.sub (tys' := []) [] rfl) hF⟩ rfl rfl hl.1 rfl (lv_room (Nat.le_of_ble_eq_true rfl)) dX5_bar_12 ⟨Nat.le_of_ble_eq_true rfl, Nat.le_of_ble_eq_true rfl⟩)) (fun r_3 hr_3 => ?_)
    subst hr_3
    refine lv_if_eq (tgt := 21) hx hb dX5_bar_15 (by decide) (fun _ => ?_) (fun c_4 => absurd (by decide) c_4)
    refine lv_aload_n hx hb dX5_bar_21 rfl (lv_at hl 0 rfl) ?_
    refine va_get (D := (dC, dI)) (ci := 10) (v := .ref fo) (C := RX5) (T := TX5) (N := 14) hx hb hts (fun _ h9 => List.mem_cons_of_mem _ (List.mem_append_left _ (List.mem_append_right _ (h9)))) hown hK hP 0 rfl rfl 5 (by decide) (hts (.fieldLink RX5 38 "ExamHalls" "form" "LExamHalls$Form;") (List.mem_of_getElem? (i := 1) rfl)) (fun _ h9 => h9) rfl dX5_bar_22 ?_
    refine va_getN (D := (dC, dI)) (ci := 7) (v := .int 0) (C := RX2) (T := TX2) (N := 8) hx hb hts (fun _ h9 => List.mem_cons_of_mem _ (List.mem_append_right _ (h9))) hown hK hP 1 rfl rfl 7 (by decide) (Ft.nf hF (RX5, 148, "ExamHalls$Form", "barredCount", "I", RX5) (by decide +kernel)) (fun _ h9 => h9) rfl dX5_bar_25 ?_
    refine lv_bipush (v := 8) hx hb dX5_bar_28 (by decide) ?_
    refine lv_icmp_lt (tgt := 36) hx hb dX5_bar_30 (by decide) (fun _ => ?_) (fun c_5 => absurd (by decide) c_5)
    refine lv_aload_n hx hb dX5_bar_36 rfl (lv_at hl 0 rfl) ?_
    refine va_get (D := (dC, dI)) (ci := 10) (v := .ref fo) (C := RX5) (T := TX5) (N := 14) hx hb hts (fun _ h9 => List.mem_cons_of_mem _ (List.mem_append_left _ (List.mem_append_right _ (h9)))) hown hK hP 0 rfl rfl 5 (by decide) (hts (.fieldLink RX5 38 "ExamHalls" "form" "LExamHalls$Form;") (List.mem_of_getElem? (i := 1) rfl)) (fun _ h9 => h9) rfl dX5_bar_37 ?_
    refine lv_lload_n hx hb dX5_bar_40 rfl (lv_at hl 1 rfl) ?_
    have hPc := hP.sub (ws' := [(fo, .inr (7, [.int 1, .ref le, .ref mo, .ref os, .ref ps, .int 0, .ref br, .int 0])), (br, .inl (kb, 8, .inr (.inl (fun _ => 0))))]) [1, 2] rfl
    have hDc := hD.sub (ws' := [(fo, .inr (7, [.int 1, .ref le, .ref mo, .ref os, .ref ps, .int 0, .ref br, .int 0])), (br, .inl (kb, 8, .inr (.inl (fun _ => 0))))]) [1, 2] (by decide) rfl
    have hKc := hK.sub (tys' := [(kb, .long)]) [0] rfl
    have hFc := va_free (wc := [(fo, .inr (7, [.int 1, .ref le, .ref mo, .ref os, .ref ps, .int 0, .ref br, .int 0])), (br, .inl (kb, 8, .inr (.inl (fun _ => 0))))]) hD hS hA [1, 2] rfl
    refine va_callv (va_runVN (As := [.long c1]) (rest := []) ⟨hx, hb, hml, hown, hts⟩ (c_F_addBarred l dC dI fo le mo os ps br kb c1 s.heap.size) ⟨va_cnB 1 hts gX5_bar_X2_addBarred_n151 rfl rfl rfl (Ft.nm hF (RX5, 151, yX2_addBarred, RX5) (by decide +kernel)) (hts (.initialized RX2) (List.mem_of_getElem? (i := 11) rfl)) (by decide +kernel) ⟨Nat.le_of_ble_eq_true rfl, Nat.le_of_ble_eq_true rfl⟩, (hts (.instanceMethod yX2_addBarred) (List.mem_of_getElem? (i := 16) rfl)), (hts (.selects RX2 yX2_addBarred yX2_addBarred) (List.mem_of_getElem? (i := 17) rfl))⟩ ⟨PQ_blind, va_recv hK hP (ci := 7) (q0 := 1) rfl rfl, PQ_pre hPc hKc hDc hF⟩ rfl rfl hl.1 rfl (lv_room (Nat.le_of_ble_eq_true rfl)) dX5_bar_41 ⟨Nat.le_of_ble_eq_true rfl, Nat.le_of_ble_eq_true rfl⟩) hS (fun q _ h => hFc q h) hFc (fun u t H1 locs ht hvm hw hB hz1 hk1 hS => ?_)
    obtain ⟨hP1, hK1, hD1⟩ := hB
    rw [ht] at hP1
    have hK1 := va_K.moved hvm.symm hK1
    obtain ⟨hP, hD⟩ := va_join (wr := [(x, .inr (10, [.ref cd, .int 0, .ref rd, .int 0, .ref tp, .ref fo, .int 10, .ref qu, .int 0, .int 0, .ref sh, .ref vs, .ref pa, .ref pb]))]) (w1 := [(fo, .inr (7, [.int 1, .ref le, .ref mo, .ref os, .ref ps, .int 0, .ref br, .int 1]))]) hP hD [1, 2] [0] rfl rfl (by decide) (by decide) hk1 hFc hP1 hD1
    have hK := hK.app hK1
    generalize H1 = H at hP hS ⊢
    have hP : va_P (dC, dI) vwCl [(x, .inr (10, [.ref cd, .int 0, .ref rd, .int 0, .ref tp, .ref fo, .int 10, .ref qu, .int 0, .int 0, .ref sh, .ref vs, .ref pa, .ref pb])), (fo, .inr (7, [.int 1, .ref le, .ref mo, .ref os, .ref ps, .int 0, .ref br, .int 1]))] H := hP
    have hD : va_D A [(x, .inr (10, [.ref cd, .int 0, .ref rd, .int 0, .ref tp, .ref fo, .int 10, .ref qu, .int 0, .int 0, .ref sh, .ref vs, .ref pa, .ref pb])), (fo, .inr (7, [.int 1, .ref le, .ref mo, .ref os, .ref ps, .int 0, .ref br, .int 1]))] := hD
    have hK : va_K (dC, dI) vwCl [(kb, .long)] s := hK
    refine W.widen (k := 0) (n := 0) (Nat.le_of_ble_eq_true rfl) (Nat.le_of_ble_eq_true rfl) ?_
    refine lv_aload_n hx hb dX5_bar_44 rfl (lv_at hl 0 rfl) ?_
    refine va_get (D := (dC, dI)) (ci := 10) (v := .ref fo) (C := RX5) (T := TX5) (N := 14) hx hb hts (fun _ h9 => List.mem_cons_of_mem _ (List.mem_append_left _ (List.mem_append_right _ (h9)))) hown hK hP 0 rfl rfl 5 (by decide) (hts (.fieldLink RX5 38 "ExamHalls" "form" "LExamHalls$Form;") (List.mem_of_getElem? (i := 1) rfl)) (fun _ h9 => h9) rfl dX5_bar_45 ?_
    refine va_getN (D := (dC, dI)) (ci := 7) (v := .int 1) (C := RX2) (T := TX2) (N := 8) hx hb hts (fun _ h9 => List.mem_cons_of_mem _ (List.mem_append_right _ (h9))) hown hK hP 1 rfl rfl 7 (by decide) (Ft.nf hF (RX5, 148, "ExamHalls$Form", "barredCount", "I", RX5) (by decide +kernel)) (fun _ h9 => h9) rfl dX5_bar_48 ?_
    exact W.iret (v := 1) hx hb hr (fun t ht hW => ⟨⟨_, (), rfl, (by simp only [sp_X_bar, if_neg c_2]), trivial⟩, hS.F ht⟩) hS.2.2 dX5_bar_51

def sp_T_hasRoomFor (c1 : Int32) : Int32 := if 250 < c1 then 0 else 1
set_option maxHeartbeats 4000000 in
set_option maxRecDepth 100000 in
theorem c_T_hasRoomFor (l : Launch) (dC : Nat → ClassId) (dI : Nat → Nat → Nat) (tp : Nat) (tb : Nat) (kB : ClassId) (c1 : Int32) : Met l yX4_hasRoomFor wsX4_hasRoomFor ({ frames := 0, cells := 0, slots := 0, locals := 0 }) (va_Pc [.ref tp, .int c1] (PS dC dI [(tp, .inr (9, [.ref tb, .int 0])), (tb, .inl (kB, 250, .inl (fun _ => 0)))] [(kB, .byte)])) (vp_Si (fun r => r = sp_T_hasRoomFor c1)) 0 0 (fun _ => False) := by
  refine Met.ofW (cc := cX4_hasRoomFor) (maxL := 2) (ret := (some .boolean)) (by decide) rfl ?_
  intro p e s m args below meth c s₁ B hml hv
  obtain ⟨rfl, hP, hK, hF⟩ := hv
  have hx := B.exec
  have hb := B.bytes
  have hr := B.returns
  have hts := atoms_spec (ws := wsX4_hasRoomFor) B.pre
  have hown : s.vm.findClass RX4 = some m.cls := findClass_of_methodNamed B.named
  have hlocks := B.notSynchronized
  have hl := lv_entry ([.ref tp, .int c1]) (n := 2) (Nat.le_of_ble_eq_true rfl)
  rw [lg_entry_eq]
  generalize (lg_sl ([.ref tp, .int c1]) ++ List.replicate (2 - (lg_sl ([.ref tp, .int c1])).length) Slot.unset).toArray = ls at hl ⊢
  have hl : lv_has ls 2 [(0, .ref tp), (1, .int c1)] := hl
  refine lv_iload_n hx hb dX4_hasRoomFor_0 rfl (lv_at hl 1 rfl) ?_
  refine lv_aload_n hx hb dX4_hasRoomFor_1 rfl (lv_at hl 0 rfl) ?_
  refine va_get (D := (dC, dI)) (ci := 9) (v := .ref tb) (C := RX4) (T := TX4) (N := 2) hx hb hts (fun _ h9 => List.mem_cons_of_mem _ (List.mem_append_right _ (h9))) hown hK hP 0 rfl rfl 0 (by decide) (hts (.fieldLink RX4 9 "ExamHalls$Tape" "bytes" "[B") (List.mem_of_getElem? (i := 1) rfl)) (fun _ h9 => h9) rfl dX4_hasRoomFor_2 ?_
  refine va_alen hx hb hK hP 1 0 rfl rfl (v := 250) rfl dX4_hasRoomFor_5 ?_
  refine lv_aload_n hx hb dX4_hasRoomFor_6 rfl (lv_at hl 0 rfl) ?_
  refine va_get (D := (dC, dI)) (ci := 9) (v := .int 0) (C := RX4) (T := TX4) (N := 2) hx hb hts (fun _ h9 => List.mem_cons_of_mem _ (List.mem_append_right _ (h9))) hown hK hP 0 rfl rfl 1 (by decide) (hts (.fieldLink RX4 15 "ExamHalls$Tape" "size" "I") (List.mem_of_getElem? (i := 2) rfl)) (fun _ h9 => h9) rfl dX4_hasRoomFor_7 ?_
  refine lv_isub hx hb dX4_hasRoomFor_10 ?_
  refine lv_topi (fun f_1 ef_1 => ?_)
  obtain rfl : f_1 = 250 := ef_1.trans (by decide)
  refine lv_icmp_gt (tgt := 18) hx hb dX4_hasRoomFor_11 (by decide) (fun c_2 => ?_) (fun c_2 => ?_)
  · skip
    refine lv_iconst (v := 0) hx hb dX4_hasRoomFor_18 (by decide) ?_
    exact W.zret (v := 0) hx hb hr (by decide) (fun t ht hW => ⟨_, rfl, (by simp only [sp_T_hasRoomFor, if_pos c_2]), ht⟩) (fun _ h9 => absurd h9 List.not_mem_nil) dX4_hasRoomFor_19
  · skip
    refine lv_iconst (v := 1) hx hb dX4_hasRoomFor_14 (by decide) ?_
    refine lv_goto (tgt := 19) hx hb dX4_hasRoomFor_15 (by decide) ?_
    exact W.zret (v := 1) hx hb hr (by decide) (fun t ht hW => ⟨_, rfl, (by simp only [sp_T_hasRoomFor, if_neg c_2]), ht⟩) (fun _ h9 => absurd h9 List.not_mem_nil) dX4_hasRoomFor_19

set_option maxHeartbeats 4000000 in
set_option maxRecDepth 100000 in
theorem c_T_append (l : Launch) (dC : Nat → ClassId) (dI : Nat → Nat → Nat) (tp : Nat) (tb : Nat) (kB : ClassId) (c1 : Int64) (c2 : Int32) (sz : Nat) (hn : ¬ sp_X_isWithin c2 1 8 = 0) : Met l yX4_append wsX4_append ({ frames := 0, cells := 0, slots := 0, locals := 0 }) (va_Pc [.ref tp, .long c1, .int c2] (PQ dC dI sz [(tp, .inr (9, [.ref tb, .int 0])), (tb, .inl (kB, 250, .inl (fun _ => 0)))] [(kB, .byte)])) (va_Qv (fun _ : Unit => True) (fun _ t => va_P (dC, dI) vwCl [(tp, .inr (9, [.ref tb, .int c2]))] t.heap ∧ va_K (dC, dI) vwCl [] t ∧ va_D (va_A [(tp, .inr (9, [.ref tb, .int 0])), (tb, .inl (kB, 250, .inl (fun _ => 0)))] sz) [(tp, .inr (9, [.ref tb, .int c2]))]) (va_A [(tp, .inr (9, [.ref tb, .int 0])), (tb, .inl (kB, 250, .inl (fun _ => 0)))] sz)) 0 0 (va_A [(tp, .inr (9, [.ref tb, .int 0])), (tb, .inl (kB, 250, .inl (fun _ => 0)))] sz) := by
  refine Met.ofW (cc := cX4_append) (maxL := 5) (ret := none) (by decide) rfl ?_
  intro p e s m args below meth c s₁ B hml hv
  obtain ⟨rfl, hsz, hP, hK, hD0, hF⟩ := hv
  have hx := B.exec
  have hb := B.bytes
  have hr := B.returns
  have hts := atoms_spec (ws := wsX4_append) B.pre
  have hown : s.vm.findClass RX4 = some m.cls := findClass_of_methodNamed B.named
  have hlocks := B.notSynchronized
  subst hsz
  have hD := hD0.self (sz := s.heap.size)
  generalize hAe : va_A [(tp, .inr (9, [.ref tb, .int 0])), (tb, .inl (kB, 250, .inl (fun _ => 0)))] s.heap.size = A at hD ⊢
  have hA : ∀ q : Nat, s.heap.size ≤ q → A q := fun q h => by rw [← hAe]; exact Or.inr h
  have hS : va_S A s.heap s.heap [] := va_S.rf
  have hl := lv_entry ([.ref tp, .long c1, .int c2]) (n := 5) (Nat.le_of_ble_eq_true rfl)
  rw [lg_entry_eq]
  generalize (lg_sl ([.ref tp, .long c1, .int c2]) ++ List.replicate (5 - (lg_sl ([.ref tp, .long c1, .int c2])).length) Slot.unset).toArray = ls at hl ⊢
  have hl : lv_has ls 5 [(0, .ref tp), (1, .long c1), (3, .int c2)] := hl
  refine lv_iload_n hx hb dX4_append_0 rfl (lv_at hl 2 rfl) ?_
  refine lv_iconst (v := 1) hx hb dX4_append_1 (by decide) ?_
  refine lv_isub hx hb dX4_append_2 ?_
  refine lv_istore (lv' := [(4, .int (c2 - 1)), (0, .ref tp), (1, .long c1), (3, .int c2)]) hx hb dX4_append_3 hl (by decide) rfl (fun ls hl => ?_)
  obtain ⟨N, hN, rfl⟩ := n_of hn
  refine W_gen (fun H locs eH eL => ?_)
  obtain ⟨i, ei0⟩ : ∃ i : Int32, i = nI N - 1 := ⟨_, rfl⟩
  obtain ⟨z, ez0⟩ : ∃ z : Int32, z = nI (N - N) := ⟨_, rfl⟩
  obtain ⟨fz, efz⟩ : ∃ f : Nat → Int32, f = fun _ => 0 := ⟨_, rfl⟩
  replace hP : va_P (dC, dI) vwCl [(tp, .inr (9, [.ref tb, .int z])), (tb, .inl (kB, 250, .inl fz))] H := by rw [eH, efz, ez0, Nat.sub_self]; exact hP
  replace hD : va_D A [(tp, .inr (9, [.ref tb, .int z])), (tb, .inl (kB, 250, .inl fz))] := by rw [efz, ez0, Nat.sub_self]; exact hD
  replace hS : va_S A s.heap H locs := by rw [eH, eL]; exact va_S.rf
  replace hl : lv_has ls 5 [(4, .int i), (0, .ref tp), (1, .long c1), (3, .int (nI N))] := by rw [ei0]; exact lv_sub hl [0, 1, 2, 3] rfl
  clear eH eL efz
  obtain ⟨j, hj, ei, ez⟩ : ∃ j : Nat, j ≤ N ∧ i = nI j - 1 ∧ z = nI (N - j) := ⟨N, Nat.le_refl _, ei0, ez0⟩
  clear ei0 ez0
  induction j generalizing i z fz H locs ls with
  | zero =>
    have hz : i < 0 := by rw [ei]; exact nI_m1_neg
    obtain rfl : z = nI N := ez
    refine lv_iload hx hb dX4_append_5 (lv_at hl 0 rfl) ?_
    refine lv_if_lt (tgt := 56) hx hb dX4_append_7 (by decide) (fun _ => ?_) (fun c_1 => absurd hz c_1)
    have hP9 := hP.sub (ws' := [(tp, .inr (9, [.ref tb, .int (nI N)]))]) [0] rfl
    have hD9 := hD.sub (ws' := [(tp, .inr (9, [.ref tb, .int (nI N)]))]) [0] (by decide) rfl
    have hK9 := hK.sub (tys' := []) [] rfl
    exact W.vret hx hb hr (fun t ht hW => ⟨⟨(), rfl, trivial, by rw [ht]; exact hP9, va_K.moved hW.alike hK9, hD9⟩, hS.F ht⟩) hS.2.2 dX4_append_56
  | succ j ih =>
    have hz : ¬ i < 0 := by rw [ei]; exact nI_s1 (by omega)
    have hz2 : ¬ (250 : Int32) ≤ z := by rw [ez]; exact (show ¬ nI 250 ≤ nI _ from nI_ge (by omega) (by decide))
    refine lv_iload hx hb dX4_append_5 (lv_at hl 0 rfl) ?_
    refine lv_if_lt (tgt := 56) hx hb dX4_append_7 (by decide) (fun c_2 => absurd c_2 hz) (fun _ => ?_)
    refine lv_aload_n hx hb dX4_append_10 rfl (lv_at hl 1 rfl) ?_
    refine va_get (D := (dC, dI)) (ci := 9) (v := .int z) (C := RX4) (T := TX4) (N := 2) hx hb hts (fun _ h9 => List.mem_cons_of_mem _ (List.mem_append_right _ (h9))) hown hK hP 0 rfl rfl 1 (by decide) (hts (.fieldLink RX4 15 "ExamHalls$Tape" "size" "I") (List.mem_of_getElem? (i := 1) rfl)) (fun _ h9 => h9) rfl dX4_append_11 ?_
    refine lv_aload_n hx hb dX4_append_14 rfl (lv_at hl 1 rfl) ?_
    refine va_get (D := (dC, dI)) (ci := 9) (v := .ref tb) (C := RX4) (T := TX4) (N := 2) hx hb hts (fun _ h9 => List.mem_cons_of_mem _ (List.mem_append_right _ (h9))) hown hK hP 0 rfl rfl 0 (by decide) (hts (.fieldLink RX4 9 "ExamHalls$Tape" "bytes" "[B") (List.mem_of_getElem? (i := 2) rfl)) (fun _ h9 => h9) rfl dX4_append_15 ?_
    refine va_alen hx hb hK hP 1 0 rfl rfl (v := 250) rfl dX4_append_18 ?_
    refine lv_icmp_ge (tgt := 56) hx hb dX4_append_19 (by decide) (fun c_3 => absurd c_3 hz2) (fun _ => ?_)
    refine lv_aload_n hx hb dX4_append_22 rfl (lv_at hl 1 rfl) ?_
    refine va_get (D := (dC, dI)) (ci := 9) (v := .ref tb) (C := RX4) (T := TX4) (N := 2) hx hb hts (fun _ h9 => List.mem_cons_of_mem _ (List.mem_append_right _ (h9))) hown hK hP 0 rfl rfl 0 (by decide) (hts (.fieldLink RX4 9 "ExamHalls$Tape" "bytes" "[B") (List.mem_of_getElem? (i := 2) rfl)) (fun _ h9 => h9) rfl dX4_append_23 ?_
    refine lv_aload_n hx hb dX4_append_26 rfl (lv_at hl 1 rfl) ?_
    refine va_get (D := (dC, dI)) (ci := 9) (v := .int z) (C := RX4) (T := TX4) (N := 2) hx hb hts (fun _ h9 => List.mem_cons_of_mem _ (List.mem_append_right _ (h9))) hown hK hP 0 rfl rfl 1 (by decide) (hts (.fieldLink RX4 15 "ExamHalls$Tape" "size" "I") (List.mem_of_getElem? (i := 1) rfl)) (fun _ h9 => h9) rfl dX4_append_27 ?_
    refine lv_lload_n hx hb dX4_append_30 rfl (lv_at hl 2 rfl) ?_
    refine lv_bipush (v := 8) hx hb dX4_append_31 (by decide) ?_
    refine lv_iload hx hb dX4_append_33 (lv_at hl 0 rfl) ?_
    refine lv_imul hx hb dX4_append_35 ?_
    refine lv_lushr hx hb dX4_append_36 rfl ?_
    refine lv_l2i hx hb dX4_append_37 rfl ?_
    refine lv_i2b hx hb dX4_append_38 rfl ?_
    refine va_bast hx hb hK hP hD hS 1 0 rfl rfl (by rw [ez]; exact vp_in_nI (by omega) (by decide)) dX4_append_39 (fun H locs hP hD hS => ?_)
    have hP : va_P (dC, dI) vwCl [(tp, .inr (9, [.ref tb, .int z])), (tb, .inl (kB, 250, .inl (upd fz (z : Int32).toNatClampNeg (vp_nar .byte ((((c1.toUInt64 >>> ((8 * i).toInt64.toUInt64 &&& Int64.toUInt64 63)).toInt64).toInt32).toInt8.toInt32)))))] H := hP
    have hD : va_D A [(tp, .inr (9, [.ref tb, .int z])), (tb, .inl (kB, 250, .inl (upd fz (z : Int32).toNatClampNeg (vp_nar .byte ((((c1.toUInt64 >>> ((8 * i).toInt64.toUInt64 &&& Int64.toUInt64 63)).toInt64).toInt32).toInt8.toInt32)))))] := hD
    generalize (upd fz (z : Int32).toNatClampNeg (vp_nar .byte ((((c1.toUInt64 >>> ((8 * i).toInt64.toUInt64 &&& Int64.toUInt64 63)).toInt64).toInt32).toInt8.toInt32))) = a_4 at hP hD
    refine lv_aload_n hx hb dX4_append_40 rfl (lv_at hl 1 rfl) ?_
    refine lv_dup hx hb dX4_append_41 rfl ?_
    refine va_get (D := (dC, dI)) (ci := 9) (v := .int z) (C := RX4) (T := TX4) (N := 2) hx hb hts (fun _ h9 => List.mem_cons_of_mem _ (List.mem_append_right _ (h9))) hown hK hP 0 rfl rfl 1 (by decide) (hts (.fieldLink RX4 15 "ExamHalls$Tape" "size" "I") (List.mem_of_getElem? (i := 1) rfl)) (fun _ h9 => h9) rfl dX4_append_42 ?_
    refine lv_iconst (v := 1) hx hb dX4_append_45 (by decide) ?_
    refine lv_iadd hx hb dX4_append_46 ?_
    refine va_put (D := (dC, dI)) (ci := 9) (v := .int (z + 1)) (ty := .int) (C := RX4) (T := TX4) (N := 2) hx hb hts (fun _ h9 => List.mem_cons_of_mem _ (List.mem_append_right _ (h9))) tyX4 tyX4_ok nmX4 hown hK hP hD hS 0 rfl rfl 1 (by decide) (hts (.fieldLink RX4 15 "ExamHalls$Tape" "size" "I") (List.mem_of_getElem? (i := 1) rfl)) (fun _ h9 => h9) rfl (by decide +kernel) rfl rfl (Nat.le_of_ble_eq_true rfl) dX4_append_47 (fun H locs hP hD hS => ?_)
    have hP : va_P (dC, dI) vwCl [(tp, .inr (9, [.ref tb, .int (z + 1)])), (tb, .inl (kB, 250, .inl a_4))] H := hP
    have hD : va_D A [(tp, .inr (9, [.ref tb, .int (z + 1)])), (tb, .inl (kB, 250, .inl a_4))] := hD
    refine lv_iinc (v := i + (-1)) (lv' := [(4, .int (i + (-1))), (0, .ref tp), (1, .long c1), (3, .int (nI N))]) hx hb dX4_append_50 hl (k := 0) rfl rfl (by decide) rfl (fun ls hl => ?_)
    refine lv_goto (tgt := 5) hx hb dX4_append_53 (by decide) ?_
    exact ih (ls := ls) (H := H) (locs := locs) (i := i + (-1)) (z := z + 1) (fz := a_4) (hl := lv_sub hl [0, 1, 2, 3] rfl) (hP := hP) (hD := hD) (hS := hS) (hj := by omega) (ei := by rw [ei]; exact nI_pm j) (ez := by rw [ez, nI_1]; congr 1; omega)

def sp_X_feed (c2 : Int32) : Int32 := if (sp_X_isWithin c2 1 8) = 0 then (-2) else if (sp_T_hasRoomFor c2) = 0 then (-4) else c2
set_option maxHeartbeats 4000000 in
set_option maxRecDepth 100000 in
theorem c_X_feed (l : Launch) (dC : Nat → ClassId) (dI : Nat → Nat → Nat) (x : Nat) (cd : Nat) (rd : Nat) (tp : Nat) (fo : Nat) (qu : Nat) (sh : Nat) (vs : Nat) (pa : Nat) (pb : Nat) (tb : Nat) (kB : ClassId) (c1 : Int64) (c2 : Int32) (sz : Nat) : Met l yX5_feed wsX5_feed ({ frames := 1, cells := 0, slots := 0, locals := 24 }) (va_Pc [.ref x, .long c1, .int c2] (PQ dC dI sz [(x, .inr (10, [.ref cd, .int 0, .ref rd, .int 0, .ref tp, .ref fo, .int 10, .ref qu, .int 0, .int 0, .ref sh, .ref vs, .ref pa, .ref pb])), (tp, .inr (9, [.ref tb, .int 0])), (tb, .inl (kB, 250, .inl (fun _ => 0)))] [(kB, .byte)])) (va_Qi (fun r (_ : Unit) => r = sp_X_feed c2) (fun _ _ => True) (va_A [(x, .inr (10, [.ref cd, .int 0, .ref rd, .int 0, .ref tp, .ref fo, .int 10, .ref qu, .int 0, .int 0, .ref sh, .ref vs, .ref pa, .ref pb])), (tp, .inr (9, [.ref tb, .int 0])), (tb, .inl (kB, 250, .inl (fun _ => 0)))] sz)) 0 0 (va_A [(x, .inr (10, [.ref cd, .int 0, .ref rd, .int 0, .ref tp, .ref fo, .int 10, .ref qu, .int 0, .int 0, .ref sh, .ref vs, .ref pa, .ref pb])), (tp, .inr (9, [.ref tb, .int 0])), (tb, .inl (kB, 250, .inl (fun _ => 0)))] sz) := by
  refine Met.ofW (cc := cX5_feed) (maxL := 4) (ret := (some .int)) (by decide) rfl ?_
  intro p e s m args below meth c s₁ B hml hv
  obtain ⟨rfl, hsz, hP, hK, hD0, hF⟩ := hv
  have hx := B.exec
  have hb := B.bytes
  have hr := B.returns
  have hts := atoms_spec (ws := wsX5_feed) B.pre
  have hown : s.vm.findClass RX5 = some m.cls := findClass_of_methodNamed B.named
  have hlocks := B.notSynchronized
  subst hsz
  have hD := hD0.self (sz := s.heap.size)
  generalize hAe : va_A [(x, .inr (10, [.ref cd, .int 0, .ref rd, .int 0, .ref tp, .ref fo, .int 10, .ref qu, .int 0, .int 0, .ref sh, .ref vs, .ref pa, .ref pb])), (tp, .inr (9, [.ref tb, .int 0])), (tb, .inl (kB, 250, .inl (fun _ => 0)))] s.heap.size = A at hD ⊢
  have hA : ∀ q : Nat, s.heap.size ≤ q → A q := fun q h => by rw [← hAe]; exact Or.inr h
  have hS : va_S A s.heap s.heap [] := va_S.rf
  have hl := lv_entry ([.ref x, .long c1, .int c2]) (n := 4) (Nat.le_of_ble_eq_true rfl)
  rw [lg_entry_eq]
  generalize (lg_sl ([.ref x, .long c1, .int c2]) ++ List.replicate (4 - (lg_sl ([.ref x, .long c1, .int c2])).length) Slot.unset).toArray = ls at hl ⊢
  have hl : lv_has ls 4 [(0, .ref x), (1, .long c1), (3, .int c2)] := hl
  refine lv_iload_n hx hb dX5_feed_0 rfl (lv_at hl 2 rfl) ?_
  refine lv_iconst (v := 1) hx hb dX5_feed_1 (by decide) ?_
  refine lv_bipush (v := 8) hx hb dX5_feed_2 (by decide) ?_
  refine vp_callSi (va_Run.run (va_runS (As := [.int c2, .int 1, .int 8]) (rest := []) ⟨hx, hb, hml, hown, hts⟩ (c_X_isWithin l dC dI c2 1 8) (va_cwS 3 hts gX5_feed_X5_isWithin rfl rfl rfl (by decide +kernel) ⟨Nat.le_of_ble_eq_true rfl, Nat.le_of_ble_eq_true rfl⟩) ⟨PS_blind, PS_pre (hP.sub (ws' := []) [] rfl) (hK.sub (tys' := []) [] rfl) hF⟩ rfl rfl hl.1 rfl (lv_room (Nat.le_of_ble_eq_true rfl)) dX5_feed_4 ⟨Nat.le_of_ble_eq_true rfl, Nat.le_of_ble_eq_true rfl⟩)) (fun r_1 hr_1 => ?_)
  subst hr_1
  refine lv_if_ne (tgt := 13) hx hb dX5_feed_7 (by decide) (fun c_2 => ?_) (fun c_2 => ?_)
  · skip
    refine lv_aload_n hx hb dX5_feed_13 rfl (lv_at hl 0 rfl) ?_
    refine va_get (D := (dC, dI)) (ci := 10) (v := .ref tp) (C := RX5) (T := TX5) (N := 14) hx hb hts (fun _ h9 => List.mem_cons_of_mem _ (List.mem_append_left _ (List.mem_append_right _ (h9)))) hown hK hP 0 rfl rfl 4 (by decide) (hts (.fieldLink RX5 31 "ExamHalls" "tape" "LExamHalls$Tape;") (List.mem_of_getElem? (i := 1) rfl)) (fun _ h9 => h9) rfl dX5_feed_14 ?_
    refine lv_iload_n hx hb dX5_feed_17 rfl (lv_at hl 2 rfl) ?_
    refine vp_callSi (va_Run.run (va_runVN (As := [.int c2]) (rest := []) ⟨hx, hb, hml, hown, hts⟩ (c_T_hasRoomFor l dC dI tp tb kB c2) ⟨va_cnB 1 hts gX5_feed_X4_hasRoomFor_n75 rfl rfl rfl (Ft.nm hF (RX5, 75, yX4_hasRoomFor, RX5) (by decide +kernel)) (hts (.initialized RX4) (List.mem_of_getElem? (i := 7) rfl)) (by decide +kernel) ⟨Nat.le_of_ble_eq_true rfl, Nat.le_of_ble_eq_true rfl⟩, (hts (.instanceMethod yX4_hasRoomFor) (List.mem_of_getElem? (i := 6) rfl)), (hts (.selects RX4 yX4_hasRoomFor yX4_hasRoomFor) (List.mem_of_getElem? (i := 8) rfl))⟩ ⟨PS_blind, va_recv hK hP (ci := 9) (q0 := 1) rfl rfl, PS_pre (hP.sub (ws' := [(tp, .inr (9, [.ref tb, .int 0])), (tb, .inl (kB, 250, .inl (fun _ => 0)))]) [1, 2] rfl) hK hF⟩ rfl rfl hl.1 rfl (lv_room (Nat.le_of_ble_eq_true rfl)) dX5_feed_18 ⟨Nat.le_of_ble_eq_true rfl, Nat.le_of_ble_eq_true rfl⟩)) (fun r_3 hr_3 => ?_)
    subst hr_3
    refine lv_if_ne (tgt := 27) hx hb dX5_feed_21 (by decide) (fun c_4 => ?_) (fun c_4 => ?_)
    · skip
      refine lv_aload_n hx hb dX5_feed_27 rfl (lv_at hl 0 rfl) ?_
      refine va_get (D := (dC, dI)) (ci := 10) (v := .ref tp) (C := RX5) (T := TX5) (N := 14) hx hb hts (fun _ h9 => List.mem_cons_of_mem _ (List.mem_append_left _ (List.mem_append_right _ (h9)))) hown hK hP 0 rfl rfl 4 (by decide) (hts (.fieldLink RX5 31 "ExamHalls" "tape" "LExamHalls$Tape;") (List.mem_of_getElem? (i := 1) rfl)) (fun _ h9 => h9) rfl dX5_feed_28 ?_
      refine lv_lload_n hx hb dX5_feed_31 rfl (lv_at hl 1 rfl) ?_
      refine lv_iload_n hx hb dX5_feed_32 rfl (lv_at hl 2 rfl) ?_
      have hPc := hP.sub (ws' := [(tp, .inr (9, [.ref tb, .int 0])), (tb, .inl (kB, 250, .inl (fun _ => 0)))]) [1, 2] rfl
      have hDc := hD.sub (ws' := [(tp, .inr (9, [.ref tb, .int 0])), (tb, .inl (kB, 250, .inl (fun _ => 0)))]) [1, 2] (by decide) rfl
      have hKc := hK.sub (tys' := [(kB, .byte)]) [0] rfl
      have hFc := va_free (wc := [(tp, .inr (9, [.ref tb, .int 0])), (tb, .inl (kB, 250, .inl (fun _ => 0)))]) hD hS hA [1, 2] rfl
      refine va_callv (va_runVN (As := [.long c1, .int c2]) (rest := []) ⟨hx, hb, hml, hown, hts⟩ (c_T_append l dC dI tp tb kB c1 c2 s.heap.size c_2) ⟨va_cnB 2 hts gX5_feed_X4_append_n79 rfl rfl rfl (Ft.nm hF (RX5, 79, yX4_append, RX5) (by decide +kernel)) (hts (.initialized RX4) (List.mem_of_getElem? (i := 7) rfl)) (by decide +kernel) ⟨Nat.le_of_ble_eq_true rfl, Nat.le_of_ble_eq_true rfl⟩, (hts (.instanceMethod yX4_append) (List.mem_of_getElem? (i := 12) rfl)), (hts (.selects RX4 yX4_append yX4_append) (List.mem_of_getElem? (i := 13) rfl))⟩ ⟨PQ_blind, va_recv hK hP (ci := 9) (q0 := 1) rfl rfl, PQ_pre hPc hKc hDc hF⟩ rfl rfl hl.1 rfl (lv_room (Nat.le_of_ble_eq_true rfl)) dX5_feed_33 ⟨Nat.le_of_ble_eq_true rfl, Nat.le_of_ble_eq_true rfl⟩) hS (fun q _ h => hFc q h) hFc (fun u t H1 locs ht hvm hw hB hz1 hk1 hS => ?_)
      obtain ⟨hP1, hK1, hD1⟩ := hB
      rw [ht] at hP1
      have hK1 := va_K.moved hvm.symm hK1
      obtain ⟨hP, hD⟩ := va_join (wr := [(x, .inr (10, [.ref cd, .int 0, .ref rd, .int 0, .ref tp, .ref fo, .int 10, .ref qu, .int 0, .int 0, .ref sh, .ref vs, .ref pa, .ref pb]))]) (w1 := [(tp, .inr (9, [.ref tb, .int c2]))]) hP hD [1, 2] [0] rfl rfl (by decide) (by decide) hk1 hFc hP1 hD1
      have hK := hK.app hK1
      generalize H1 = H at hP hS ⊢
      have hP : va_P (dC, dI) vwCl [(x, .inr (10, [.ref cd, .int 0, .ref rd, .int 0, .ref tp, .ref fo, .int 10, .ref qu, .int 0, .int 0, .ref sh, .ref vs, .ref pa, .ref pb])), (tp, .inr (9, [.ref tb, .int c2]))] H := hP
      have hD : va_D A [(x, .inr (10, [.ref cd, .int 0, .ref rd, .int 0, .ref tp, .ref fo, .int 10, .ref qu, .int 0, .int 0, .ref sh, .ref vs, .ref pa, .ref pb])), (tp, .inr (9, [.ref tb, .int c2]))] := hD
      have hK : va_K (dC, dI) vwCl [(kB, .byte)] s := hK
      refine W.widen (k := 0) (n := 0) (Nat.le_of_ble_eq_true rfl) (Nat.le_of_ble_eq_true rfl) ?_
      refine lv_aload_n hx hb dX5_feed_36 rfl (lv_at hl 0 rfl) ?_
      refine va_get (D := (dC, dI)) (ci := 10) (v := .ref tp) (C := RX5) (T := TX5) (N := 14) hx hb hts (fun _ h9 => List.mem_cons_of_mem _ (List.mem_append_left _ (List.mem_append_right _ (h9)))) hown hK hP 0 rfl rfl 4 (by decide) (hts (.fieldLink RX5 31 "ExamHalls" "tape" "LExamHalls$Tape;") (List.mem_of_getElem? (i := 1) rfl)) (fun _ h9 => h9) rfl dX5_feed_37 ?_
      refine va_getN (D := (dC, dI)) (ci := 9) (v := .int c2) (C := RX4) (T := TX4) (N := 2) hx hb hts (fun _ h9 => List.mem_cons_of_mem _ (List.mem_append_right _ (h9))) hown hK hP 1 rfl rfl 1 (by decide) (Ft.nf hF (RX5, 83, "ExamHalls$Tape", "size", "I", RX5) (by decide +kernel)) (fun _ h9 => h9) rfl dX5_feed_40 ?_
      exact W.iret (v := c2) hx hb hr (fun t ht hW => ⟨⟨_, (), rfl, (by simp only [sp_X_feed, if_neg c_2, if_neg c_4]), trivial⟩, hS.F ht⟩) hS.2.2 dX5_feed_43
    · skip
      refine lv_bipush (v := (-4)) hx hb dX5_feed_24 (by decide) ?_
      exact W.iret (v := (-4)) hx hb hr (fun t ht hW => ⟨⟨_, (), rfl, (by simp only [sp_X_feed, if_neg c_2, if_pos c_4]), trivial⟩, hS.F ht⟩) hS.2.2 dX5_feed_26
  · skip
    refine lv_bipush (v := (-2)) hx hb dX5_feed_10 (by decide) ?_
    exact W.iret (v := (-2)) hx hb hr (fun t ht hW => ⟨⟨_, (), rfl, (by simp only [sp_X_feed, if_pos c_2]), trivial⟩, hS.F ht⟩) hS.2.2 dX5_feed_12
