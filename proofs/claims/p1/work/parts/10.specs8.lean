set_option maxRecDepth 20000 in
theorem ggX9_candidate_X9_isProvince : GoodIn wsX9_candidate wsX9_isProvince := goodIn_r _ [9] (by decide +kernel) (by decide +kernel)
set_option maxRecDepth 20000 in
theorem gX9_candidate_X9_isProvince : GoodIn wsX9_candidate (va_wsS RX9 62 yX9_isProvince wsX9_isProvince) := goodIn_app (goodIn_of _ (by decide +kernel)) ggX9_candidate_X9_isProvince
set_option maxRecDepth 20000 in
theorem ggX9_candidate_Jx4a65c_size_8abf5 : GoodIn wsX9_candidate wsJx4a65c_size_8abf5 := goodIn_r _ [28, 29, 164, 165, 166] (by decide +kernel) (by decide +kernel)
set_option maxRecDepth 20000 in
theorem gX9_candidate_Jx4a65c_size_8abf5_f56Jx4a65c : GoodIn wsX9_candidate (va_wsF RX9 56 RJx4a65c ⟨"java/util/List", "size", "()I"⟩ yJx4a65c_size_8abf5 wsJx4a65c_size_8abf5) := goodIn_app (goodIn_of _ (by decide +kernel)) ggX9_candidate_Jx4a65c_size_8abf5
set_option maxRecDepth 20000 in
theorem ggX9_candidate_X6_init : GoodIn wsX9_candidate wsX6_init := goodIn_r _ [31, 32, 33, 34, 35, 36, 37, 38, 39, 27, 40, 41, 42, 43, 44, 45, 46, 47, 48, 49, 50, 51, 52, 53, 54, 55, 152, 153, 154, 155, 156, 157, 158, 164, 165, 166, 159, 160, 161, 162, 163] (by decide +kernel) (by decide +kernel)
set_option maxRecDepth 20000 in
theorem gX9_candidate_X6_init_n68 : GoodIn wsX9_candidate (wsX6_init) := ggX9_candidate_X6_init
set_option maxRecDepth 20000 in
theorem ggX9_candidate_Jx4a65c_add_9ea2d : GoodIn wsX9_candidate wsJx4a65c_add_9ea2d := goodIn_r _ [134, 78, 22, 45, 29, 135, 136, 137, 27, 138, 87, 88, 89, 90, 91, 92, 93, 94, 44, 95, 96, 97, 98, 99, 100, 101, 102, 103, 104, 105, 106, 107, 108, 109, 110, 111, 112, 113, 114, 115, 116, 117, 118, 119, 120, 121, 122, 123, 124, 125, 80, 81, 82, 159, 160, 161, 162, 163, 164, 165, 166] (by decide +kernel) (by decide +kernel)
set_option maxRecDepth 20000 in
theorem gX9_candidate_Jx4a65c_add_9ea2d_f72Jx4a65c : GoodIn wsX9_candidate (va_wsF RX9 72 RJx4a65c ⟨"java/util/List", "add", "(Ljava/lang/Object;)Z"⟩ yJx4a65c_add_9ea2d wsJx4a65c_add_9ea2d) := goodIn_app (goodIn_of _ (by decide +kernel)) ggX9_candidate_Jx4a65c_add_9ea2d
theorem dX9_candidate_0 : decode cX9_candidate 0 = .ok (.iload_n 1, 1) := by decide +kernel
theorem dX9_candidate_1 : decode cX9_candidate 1 = .ok (.invokestatic 62, 3) := by decide +kernel
theorem dX9_candidate_4 : decode cX9_candidate 4 = .ok (.ifCond .ne 5, 3) := by decide +kernel
theorem dX9_candidate_7 : decode cX9_candidate 7 = .ok (.iconst (-1), 1) := by decide +kernel
theorem dX9_candidate_8 : decode cX9_candidate 8 = .ok (.ireturn, 1) := by decide +kernel
theorem dX9_candidate_9 : decode cX9_candidate 9 = .ok (.aload_n 0, 1) := by decide +kernel
theorem dX9_candidate_10 : decode cX9_candidate 10 = .ok (.getfield 10, 3) := by decide +kernel
theorem dX9_candidate_13 : decode cX9_candidate 13 = .ok (.invokeinterface 56 1, 5) := by decide +kernel
theorem dX9_candidate_18 : decode cX9_candidate 18 = .ok (.bipush 24, 2) := by decide +kernel
theorem dX9_candidate_20 : decode cX9_candidate 20 = .ok (.if_icmp .ne 6, 3) := by decide +kernel
theorem dX9_candidate_26 : decode cX9_candidate 26 = .ok (.new 66, 3) := by decide +kernel
theorem dX9_candidate_29 : decode cX9_candidate 29 = .ok (.dup, 1) := by decide +kernel
theorem dX9_candidate_30 : decode cX9_candidate 30 = .ok (.invokespecial 68, 3) := by decide +kernel
theorem dX9_candidate_33 : decode cX9_candidate 33 = .ok (.astore_n 2, 1) := by decide +kernel
theorem dX9_candidate_34 : decode cX9_candidate 34 = .ok (.aload_n 2, 1) := by decide +kernel
theorem dX9_candidate_35 : decode cX9_candidate 35 = .ok (.iload_n 1, 1) := by decide +kernel
theorem dX9_candidate_36 : decode cX9_candidate 36 = .ok (.putfield 69, 3) := by decide +kernel
theorem dX9_candidate_39 : decode cX9_candidate 39 = .ok (.aload_n 0, 1) := by decide +kernel
theorem dX9_candidate_40 : decode cX9_candidate 40 = .ok (.getfield 10, 3) := by decide +kernel
theorem dX9_candidate_43 : decode cX9_candidate 43 = .ok (.aload_n 2, 1) := by decide +kernel
theorem dX9_candidate_44 : decode cX9_candidate 44 = .ok (.invokeinterface 72 2, 5) := by decide +kernel
theorem dX9_candidate_49 : decode cX9_candidate 49 = .ok (.pop, 1) := by decide +kernel
theorem dX9_candidate_50 : decode cX9_candidate 50 = .ok (.aload_n 0, 1) := by decide +kernel
theorem dX9_candidate_51 : decode cX9_candidate 51 = .ok (.getfield 10, 3) := by decide +kernel
theorem dX9_candidate_54 : decode cX9_candidate 54 = .ok (.invokeinterface 56 1, 5) := by decide +kernel
theorem dX9_candidate_59 : decode cX9_candidate 59 = .ok (.iconst 1, 1) := by decide +kernel
theorem dX9_candidate_60 : decode cX9_candidate 60 = .ok (.isub, 1) := by decide +kernel
theorem dX9_candidate_61 : decode cX9_candidate 61 = .ok (.ireturn, 1) := by decide +kernel
set_option maxRecDepth 20000 in
theorem ggX9_feed_Jx4a65c_size_8abf5 : GoodIn wsX9_feed wsJx4a65c_size_8abf5 := goodIn_r _ [21, 22, 146, 147, 148] (by decide +kernel) (by decide +kernel)
set_option maxRecDepth 20000 in
theorem gX9_feed_Jx4a65c_size_8abf5_f56Jx4a65c : GoodIn wsX9_feed (va_wsF RX9 56 RJx4a65c ⟨"java/util/List", "size", "()I"⟩ yJx4a65c_size_8abf5 wsJx4a65c_size_8abf5) := goodIn_app (goodIn_of _ (by decide +kernel)) ggX9_feed_Jx4a65c_size_8abf5
set_option maxRecDepth 20000 in
theorem ggX9_feed_J6_valueOf_2dffe : GoodIn wsX9_feed wsJ6_valueOf_2dffe := goodIn_r _ [26, 27, 28, 29, 30, 25, 31, 32, 33, 34, 35, 36, 37, 38, 39, 40, 41, 149] (by decide +kernel) (by decide +kernel)
set_option maxRecDepth 20000 in
theorem gX9_feed_J6_valueOf_2dffe : GoodIn wsX9_feed (va_wsS RX9 78 yJ6_valueOf_2dffe wsJ6_valueOf_2dffe) := goodIn_app (goodIn_of _ (by decide +kernel)) ggX9_feed_J6_valueOf_2dffe
set_option maxRecDepth 20000 in
theorem ggX9_feed_Jx4a65c_add_9ea2d : GoodIn wsX9_feed wsJx4a65c_add_9ea2d := goodIn_r _ [123, 65, 15, 66, 22, 124, 125, 126, 20, 127, 75, 76, 77, 78, 79, 80, 81, 82, 83, 84, 85, 86, 87, 88, 89, 90, 91, 92, 93, 94, 95, 96, 97, 98, 99, 100, 101, 102, 103, 104, 105, 106, 107, 108, 109, 110, 111, 112, 113, 114, 68, 69, 70, 141, 142, 143, 144, 145, 146, 147, 148] (by decide +kernel) (by decide +kernel)
set_option maxRecDepth 20000 in
theorem gX9_feed_Jx4a65c_add_9ea2d_f72Jx4a65c : GoodIn wsX9_feed (va_wsF RX9 72 RJx4a65c ⟨"java/util/List", "add", "(Ljava/lang/Object;)Z"⟩ yJx4a65c_add_9ea2d wsJx4a65c_add_9ea2d) := goodIn_app (goodIn_of _ (by decide +kernel)) ggX9_feed_Jx4a65c_add_9ea2d
theorem dX9_feed_0 : decode cX9_feed 0 = .ok (.iload_n 3, 1) := by decide +kernel
theorem dX9_feed_1 : decode cX9_feed 1 = .ok (.iconst 1, 1) := by decide +kernel
theorem dX9_feed_2 : decode cX9_feed 2 = .ok (.if_icmp .lt 9, 3) := by decide +kernel
theorem dX9_feed_5 : decode cX9_feed 5 = .ok (.iload_n 3, 1) := by decide +kernel
theorem dX9_feed_6 : decode cX9_feed 6 = .ok (.bipush 8, 2) := by decide +kernel
theorem dX9_feed_8 : decode cX9_feed 8 = .ok (.if_icmp .le 6, 3) := by decide +kernel
theorem dX9_feed_11 : decode cX9_feed 11 = .ok (.bipush (-2), 2) := by decide +kernel
theorem dX9_feed_13 : decode cX9_feed 13 = .ok (.ireturn, 1) := by decide +kernel
theorem dX9_feed_14 : decode cX9_feed 14 = .ok (.aload_n 0, 1) := by decide +kernel
theorem dX9_feed_15 : decode cX9_feed 15 = .ok (.getfield 24, 3) := by decide +kernel
theorem dX9_feed_18 : decode cX9_feed 18 = .ok (.invokeinterface 56 1, 5) := by decide +kernel
theorem dX9_feed_23 : decode cX9_feed 23 = .ok (.iload_n 3, 1) := by decide +kernel
theorem dX9_feed_24 : decode cX9_feed 24 = .ok (.iadd, 1) := by decide +kernel
theorem dX9_feed_25 : decode cX9_feed 25 = .ok (.sipush 250, 3) := by decide +kernel
theorem dX9_feed_28 : decode cX9_feed 28 = .ok (.if_icmp .le 6, 3) := by decide +kernel
theorem dX9_feed_31 : decode cX9_feed 31 = .ok (.bipush (-4), 2) := by decide +kernel
theorem dX9_feed_33 : decode cX9_feed 33 = .ok (.ireturn, 1) := by decide +kernel
theorem dX9_feed_34 : decode cX9_feed 34 = .ok (.iload_n 3, 1) := by decide +kernel
theorem dX9_feed_35 : decode cX9_feed 35 = .ok (.iconst 1, 1) := by decide +kernel
theorem dX9_feed_36 : decode cX9_feed 36 = .ok (.isub, 1) := by decide +kernel
theorem dX9_feed_37 : decode cX9_feed 37 = .ok (.istore 4, 2) := by decide +kernel
theorem dX9_feed_39 : decode cX9_feed 39 = .ok (.iload 4, 2) := by decide +kernel
theorem dX9_feed_41 : decode cX9_feed 41 = .ok (.ifCond .lt 34, 3) := by decide +kernel
theorem dX9_feed_44 : decode cX9_feed 44 = .ok (.aload_n 0, 1) := by decide +kernel
theorem dX9_feed_45 : decode cX9_feed 45 = .ok (.getfield 24, 3) := by decide +kernel
theorem dX9_feed_48 : decode cX9_feed 48 = .ok (.lload_n 1, 1) := by decide +kernel
theorem dX9_feed_49 : decode cX9_feed 49 = .ok (.bipush 8, 2) := by decide +kernel
theorem dX9_feed_51 : decode cX9_feed 51 = .ok (.iload 4, 2) := by decide +kernel
theorem dX9_feed_53 : decode cX9_feed 53 = .ok (.imul, 1) := by decide +kernel
theorem dX9_feed_54 : decode cX9_feed 54 = .ok (.lshr, 1) := by decide +kernel
theorem dX9_feed_55 : decode cX9_feed 55 = .ok (.ldc2_w 76, 3) := by decide +kernel
theorem dX9_feed_58 : decode cX9_feed 58 = .ok (.land, 1) := by decide +kernel
theorem dX9_feed_59 : decode cX9_feed 59 = .ok (.l2i, 1) := by decide +kernel
theorem dX9_feed_60 : decode cX9_feed 60 = .ok (.invokestatic 78, 3) := by decide +kernel
theorem dX9_feed_63 : decode cX9_feed 63 = .ok (.invokeinterface 72 2, 5) := by decide +kernel
theorem dX9_feed_68 : decode cX9_feed 68 = .ok (.pop, 1) := by decide +kernel
theorem dX9_feed_69 : decode cX9_feed 69 = .ok (.iinc 4 (-1), 3) := by decide +kernel
theorem dX9_feed_72 : decode cX9_feed 72 = .ok (.goto (-33), 3) := by decide +kernel
theorem dX9_feed_75 : decode cX9_feed 75 = .ok (.aload_n 0, 1) := by decide +kernel
theorem dX9_feed_76 : decode cX9_feed 76 = .ok (.getfield 24, 3) := by decide +kernel
theorem dX9_feed_79 : decode cX9_feed 79 = .ok (.invokeinterface 56 1, 5) := by decide +kernel
theorem dX9_feed_84 : decode cX9_feed 84 = .ok (.ireturn, 1) := by decide +kernel
set_option maxRecDepth 20000 in
theorem ggX9_parallel_X9_isLeg : GoodIn wsX9_parallel wsX9_isLeg := goodIn_r _ [6] (by decide +kernel) (by decide +kernel)
set_option maxRecDepth 20000 in
theorem gX9_parallel_X9_isLeg : GoodIn wsX9_parallel (va_wsS RX9 148 yX9_isLeg wsX9_isLeg) := goodIn_app (goodIn_of _ (by decide +kernel)) ggX9_parallel_X9_isLeg
set_option maxRecDepth 20000 in
theorem ggX9_parallel_Jx4a65c_size_8abf5 : GoodIn wsX9_parallel wsJx4a65c_size_8abf5 := goodIn_r _ [25, 26, 131, 132, 133] (by decide +kernel) (by decide +kernel)
set_option maxRecDepth 20000 in
theorem gX9_parallel_Jx4a65c_size_8abf5_f56Jx4a65c : GoodIn wsX9_parallel (va_wsF RX9 56 RJx4a65c ⟨"java/util/List", "size", "()I"⟩ yJx4a65c_size_8abf5 wsJx4a65c_size_8abf5) := goodIn_app (goodIn_of _ (by decide +kernel)) ggX9_parallel_Jx4a65c_size_8abf5
set_option maxRecDepth 20000 in
theorem ggX9_parallel_Jx4a65c_add_9ea2d : GoodIn wsX9_parallel wsJx4a65c_add_9ea2d := goodIn_r _ [108, 50, 19, 51, 26, 109, 110, 111, 24, 112, 60, 61, 62, 63, 64, 65, 66, 67, 68, 69, 70, 71, 72, 73, 74, 75, 76, 77, 78, 79, 80, 81, 82, 83, 84, 85, 86, 87, 88, 89, 90, 91, 92, 93, 94, 95, 96, 97, 98, 99, 53, 54, 55, 126, 127, 128, 129, 130, 131, 132, 133] (by decide +kernel) (by decide +kernel)
set_option maxRecDepth 20000 in
theorem gX9_parallel_Jx4a65c_add_9ea2d_f72Jx4a65c : GoodIn wsX9_parallel (va_wsF RX9 72 RJx4a65c ⟨"java/util/List", "add", "(Ljava/lang/Object;)Z"⟩ yJx4a65c_add_9ea2d wsJx4a65c_add_9ea2d) := goodIn_app (goodIn_of _ (by decide +kernel)) ggX9_parallel_Jx4a65c_add_9ea2d
theorem dX9_parallel_0 : decode cX9_parallel 0 = .ok (.iload_n 1, 1) := by decide +kernel
theorem dX9_parallel_1 : decode cX9_parallel 1 = .ok (.invokestatic 148, 3) := by decide +kernel
theorem dX9_parallel_4 : decode cX9_parallel 4 = .ok (.ifCond .eq 10, 3) := by decide +kernel
theorem dX9_parallel_7 : decode cX9_parallel 7 = .ok (.iload_n 2, 1) := by decide +kernel
theorem dX9_parallel_8 : decode cX9_parallel 8 = .ok (.invokestatic 148, 3) := by decide +kernel
theorem dX9_parallel_11 : decode cX9_parallel 11 = .ok (.ifCond .ne 5, 3) := by decide +kernel
theorem dX9_parallel_14 : decode cX9_parallel 14 = .ok (.iconst (-1), 1) := by decide +kernel
theorem dX9_parallel_15 : decode cX9_parallel 15 = .ok (.ireturn, 1) := by decide +kernel
theorem dX9_parallel_16 : decode cX9_parallel 16 = .ok (.iload_n 1, 1) := by decide +kernel
theorem dX9_parallel_17 : decode cX9_parallel 17 = .ok (.iload_n 2, 1) := by decide +kernel
theorem dX9_parallel_18 : decode cX9_parallel 18 = .ok (.if_icmp .ne 6, 3) := by decide +kernel
theorem dX9_parallel_21 : decode cX9_parallel 21 = .ok (.bipush (-2), 2) := by decide +kernel
theorem dX9_parallel_23 : decode cX9_parallel 23 = .ok (.ireturn, 1) := by decide +kernel
theorem dX9_parallel_24 : decode cX9_parallel 24 = .ok (.aload_n 0, 1) := by decide +kernel
theorem dX9_parallel_25 : decode cX9_parallel 25 = .ok (.getfield 34, 3) := by decide +kernel
theorem dX9_parallel_28 : decode cX9_parallel 28 = .ok (.invokeinterface 56 1, 5) := by decide +kernel
theorem dX9_parallel_33 : decode cX9_parallel 33 = .ok (.bipush 6, 2) := by decide +kernel
theorem dX9_parallel_35 : decode cX9_parallel 35 = .ok (.if_icmp .ne 6, 3) := by decide +kernel
theorem dX9_parallel_41 : decode cX9_parallel 41 = .ok (.aload_n 0, 1) := by decide +kernel
theorem dX9_parallel_42 : decode cX9_parallel 42 = .ok (.getfield 34, 3) := by decide +kernel
theorem dX9_parallel_45 : decode cX9_parallel 45 = .ok (.iconst 2, 1) := by decide +kernel
theorem dX9_parallel_46 : decode cX9_parallel 46 = .ok (.newarray .int, 2) := by decide +kernel
theorem dX9_parallel_48 : decode cX9_parallel 48 = .ok (.dup, 1) := by decide +kernel
theorem dX9_parallel_49 : decode cX9_parallel 49 = .ok (.iconst 0, 1) := by decide +kernel
theorem dX9_parallel_50 : decode cX9_parallel 50 = .ok (.iload_n 1, 1) := by decide +kernel
theorem dX9_parallel_51 : decode cX9_parallel 51 = .ok (.iastore, 1) := by decide +kernel
theorem dX9_parallel_52 : decode cX9_parallel 52 = .ok (.dup, 1) := by decide +kernel
theorem dX9_parallel_53 : decode cX9_parallel 53 = .ok (.iconst 1, 1) := by decide +kernel
theorem dX9_parallel_54 : decode cX9_parallel 54 = .ok (.iload_n 2, 1) := by decide +kernel
theorem dX9_parallel_55 : decode cX9_parallel 55 = .ok (.iastore, 1) := by decide +kernel
theorem dX9_parallel_56 : decode cX9_parallel 56 = .ok (.invokeinterface 72 2, 5) := by decide +kernel
theorem dX9_parallel_61 : decode cX9_parallel 61 = .ok (.pop, 1) := by decide +kernel
theorem dX9_parallel_62 : decode cX9_parallel 62 = .ok (.aload_n 0, 1) := by decide +kernel
theorem dX9_parallel_63 : decode cX9_parallel 63 = .ok (.getfield 34, 3) := by decide +kernel
theorem dX9_parallel_66 : decode cX9_parallel 66 = .ok (.invokeinterface 56 1, 5) := by decide +kernel
theorem dX9_parallel_71 : decode cX9_parallel 71 = .ok (.iconst 1, 1) := by decide +kernel
theorem dX9_parallel_72 : decode cX9_parallel 72 = .ok (.isub, 1) := by decide +kernel
theorem dX9_parallel_73 : decode cX9_parallel 73 = .ok (.ireturn, 1) := by decide +kernel
set_option maxRecDepth 20000 in
theorem ggX9_reader_X9_isProvince : GoodIn wsX9_reader wsX9_isProvince := goodIn_r _ [10] (by decide +kernel) (by decide +kernel)
set_option maxRecDepth 20000 in
theorem gX9_reader_X9_isProvince : GoodIn wsX9_reader (va_wsS RX9 62 yX9_isProvince wsX9_isProvince) := goodIn_app (goodIn_of _ (by decide +kernel)) ggX9_reader_X9_isProvince
set_option maxRecDepth 20000 in
theorem ggX9_reader_Jx4a65c_size_8abf5 : GoodIn wsX9_reader wsJx4a65c_size_8abf5 := goodIn_r _ [29, 30, 142, 143, 144] (by decide +kernel) (by decide +kernel)
set_option maxRecDepth 20000 in
theorem gX9_reader_Jx4a65c_size_8abf5_f56Jx4a65c : GoodIn wsX9_reader (va_wsF RX9 56 RJx4a65c ⟨"java/util/List", "size", "()I"⟩ yJx4a65c_size_8abf5 wsJx4a65c_size_8abf5) := goodIn_app (goodIn_of _ (by decide +kernel)) ggX9_reader_Jx4a65c_size_8abf5
set_option maxRecDepth 20000 in
theorem ggX9_reader_X7_init : GoodIn wsX9_reader wsX7_init := goodIn_r _ [32, 33, 34, 35] (by decide +kernel) (by decide +kernel)
set_option maxRecDepth 20000 in
theorem gX9_reader_X7_init_n210 : GoodIn wsX9_reader (wsX7_init) := ggX9_reader_X7_init
set_option maxRecDepth 20000 in
theorem ggX9_reader_Jx4a65c_add_9ea2d : GoodIn wsX9_reader wsJx4a65c_add_9ea2d := goodIn_r _ [117, 59, 23, 60, 30, 118, 119, 120, 28, 121, 69, 70, 71, 72, 73, 74, 75, 76, 77, 78, 79, 80, 81, 82, 83, 84, 85, 86, 87, 88, 89, 90, 91, 92, 93, 94, 95, 96, 97, 98, 99, 100, 101, 102, 103, 104, 105, 106, 107, 108, 62, 63, 64, 137, 138, 139, 140, 141, 142, 143, 144] (by decide +kernel) (by decide +kernel)
set_option maxRecDepth 20000 in
theorem gX9_reader_Jx4a65c_add_9ea2d_f72Jx4a65c : GoodIn wsX9_reader (va_wsF RX9 72 RJx4a65c ⟨"java/util/List", "add", "(Ljava/lang/Object;)Z"⟩ yJx4a65c_add_9ea2d wsJx4a65c_add_9ea2d) := goodIn_app (goodIn_of _ (by decide +kernel)) ggX9_reader_Jx4a65c_add_9ea2d
theorem dX9_reader_0 : decode cX9_reader 0 = .ok (.iload_n 1, 1) := by decide +kernel
theorem dX9_reader_1 : decode cX9_reader 1 = .ok (.invokestatic 62, 3) := by decide +kernel
theorem dX9_reader_4 : decode cX9_reader 4 = .ok (.ifCond .eq 12, 3) := by decide +kernel
theorem dX9_reader_7 : decode cX9_reader 7 = .ok (.iload_n 2, 1) := by decide +kernel
theorem dX9_reader_8 : decode cX9_reader 8 = .ok (.ifCond .lt 8, 3) := by decide +kernel
theorem dX9_reader_11 : decode cX9_reader 11 = .ok (.iload_n 2, 1) := by decide +kernel
theorem dX9_reader_12 : decode cX9_reader 12 = .ok (.iconst 3, 1) := by decide +kernel
theorem dX9_reader_13 : decode cX9_reader 13 = .ok (.if_icmp .le 5, 3) := by decide +kernel
theorem dX9_reader_16 : decode cX9_reader 16 = .ok (.iconst (-1), 1) := by decide +kernel
theorem dX9_reader_17 : decode cX9_reader 17 = .ok (.ireturn, 1) := by decide +kernel
theorem dX9_reader_18 : decode cX9_reader 18 = .ok (.aload_n 0, 1) := by decide +kernel
theorem dX9_reader_19 : decode cX9_reader 19 = .ok (.getfield 16, 3) := by decide +kernel
theorem dX9_reader_22 : decode cX9_reader 22 = .ok (.invokeinterface 56 1, 5) := by decide +kernel
theorem dX9_reader_27 : decode cX9_reader 27 = .ok (.bipush 6, 2) := by decide +kernel
theorem dX9_reader_29 : decode cX9_reader 29 = .ok (.if_icmp .ne 6, 3) := by decide +kernel
theorem dX9_reader_35 : decode cX9_reader 35 = .ok (.new 208, 3) := by decide +kernel
theorem dX9_reader_38 : decode cX9_reader 38 = .ok (.dup, 1) := by decide +kernel
theorem dX9_reader_39 : decode cX9_reader 39 = .ok (.invokespecial 210, 3) := by decide +kernel
theorem dX9_reader_42 : decode cX9_reader 42 = .ok (.astore_n 3, 1) := by decide +kernel
theorem dX9_reader_43 : decode cX9_reader 43 = .ok (.aload_n 3, 1) := by decide +kernel
theorem dX9_reader_44 : decode cX9_reader 44 = .ok (.iload_n 1, 1) := by decide +kernel
theorem dX9_reader_45 : decode cX9_reader 45 = .ok (.putfield 211, 3) := by decide +kernel
theorem dX9_reader_48 : decode cX9_reader 48 = .ok (.aload_n 3, 1) := by decide +kernel
theorem dX9_reader_49 : decode cX9_reader 49 = .ok (.iload_n 2, 1) := by decide +kernel
theorem dX9_reader_50 : decode cX9_reader 50 = .ok (.putfield 212, 3) := by decide +kernel
theorem dX9_reader_53 : decode cX9_reader 53 = .ok (.aload_n 0, 1) := by decide +kernel
theorem dX9_reader_54 : decode cX9_reader 54 = .ok (.getfield 16, 3) := by decide +kernel
theorem dX9_reader_57 : decode cX9_reader 57 = .ok (.aload_n 3, 1) := by decide +kernel
theorem dX9_reader_58 : decode cX9_reader 58 = .ok (.invokeinterface 72 2, 5) := by decide +kernel
theorem dX9_reader_63 : decode cX9_reader 63 = .ok (.pop, 1) := by decide +kernel
theorem dX9_reader_64 : decode cX9_reader 64 = .ok (.aload_n 0, 1) := by decide +kernel
theorem dX9_reader_65 : decode cX9_reader 65 = .ok (.getfield 16, 3) := by decide +kernel
theorem dX9_reader_68 : decode cX9_reader 68 = .ok (.invokeinterface 56 1, 5) := by decide +kernel
theorem dX9_reader_73 : decode cX9_reader 73 = .ok (.iconst 1, 1) := by decide +kernel
theorem dX9_reader_74 : decode cX9_reader 74 = .ok (.isub, 1) := by decide +kernel
theorem dX9_reader_75 : decode cX9_reader 75 = .ok (.ireturn, 1) := by decide +kernel
set_option maxRecDepth 20000 in
theorem ggJ6_valueOf_2dffe_J6_init_d00df : GoodIn wsJ6_valueOf_2dffe wsJ6_init_d00df := goodIn_r _ [8, 9, 10, 11, 12, 13, 14, 15, 16, 17] (by decide +kernel) (by decide +kernel)
set_option maxRecDepth 20000 in
theorem gJ6_valueOf_2dffe_J6_init_d00df : GoodIn wsJ6_valueOf_2dffe (wsJ6_init_d00df) := ggJ6_valueOf_2dffe_J6_init_d00df
theorem dJ6_valueOf_2dffe_0 : decode cJ6_valueOf_2dffe 0 = .ok (.iload_n 0, 1) := by decide +kernel
theorem dJ6_valueOf_2dffe_1 : decode cJ6_valueOf_2dffe 1 = .ok (.bipush (-128), 2) := by decide +kernel
theorem dJ6_valueOf_2dffe_3 : decode cJ6_valueOf_2dffe 3 = .ok (.if_icmp .lt 20, 3) := by decide +kernel
theorem dJ6_valueOf_2dffe_6 : decode cJ6_valueOf_2dffe 6 = .ok (.iload_n 0, 1) := by decide +kernel
theorem dJ6_valueOf_2dffe_7 : decode cJ6_valueOf_2dffe 7 = .ok (.getstatic 191, 3) := by decide +kernel
theorem dJ6_valueOf_2dffe_10 : decode cJ6_valueOf_2dffe 10 = .ok (.if_icmp .gt 13, 3) := by decide +kernel
theorem dJ6_valueOf_2dffe_13 : decode cJ6_valueOf_2dffe 13 = .ok (.getstatic 195, 3) := by decide +kernel
theorem dJ6_valueOf_2dffe_16 : decode cJ6_valueOf_2dffe 16 = .ok (.iload_n 0, 1) := by decide +kernel
theorem dJ6_valueOf_2dffe_17 : decode cJ6_valueOf_2dffe 17 = .ok (.sipush 128, 3) := by decide +kernel
theorem dJ6_valueOf_2dffe_20 : decode cJ6_valueOf_2dffe 20 = .ok (.iadd, 1) := by decide +kernel
theorem dJ6_valueOf_2dffe_21 : decode cJ6_valueOf_2dffe 21 = .ok (.aaload, 1) := by decide +kernel
theorem dJ6_valueOf_2dffe_22 : decode cJ6_valueOf_2dffe 22 = .ok (.areturn, 1) := by decide +kernel
theorem dJ6_valueOf_2dffe_23 : decode cJ6_valueOf_2dffe 23 = .ok (.new 1, 3) := by decide +kernel
theorem dJ6_valueOf_2dffe_26 : decode cJ6_valueOf_2dffe 26 = .ok (.dup, 1) := by decide +kernel
theorem dJ6_valueOf_2dffe_27 : decode cJ6_valueOf_2dffe 27 = .ok (.iload_n 0, 1) := by decide +kernel
theorem dJ6_valueOf_2dffe_28 : decode cJ6_valueOf_2dffe 28 = .ok (.invokespecial 199, 3) := by decide +kernel
theorem dJ6_valueOf_2dffe_31 : decode cJ6_valueOf_2dffe 31 = .ok (.areturn, 1) := by decide +kernel
set_option maxRecDepth 20000 in
theorem ggJ6_init_d00df_Jxd2413_init_da8c8 : GoodIn wsJ6_init_d00df wsJxd2413_init_da8c8 := goodIn_r _ [5, 6, 7, 8] (by decide +kernel) (by decide +kernel)
set_option maxRecDepth 20000 in
theorem gJ6_init_d00df_Jxd2413_init_da8c8 : GoodIn wsJ6_init_d00df (wsJxd2413_init_da8c8) := ggJ6_init_d00df_Jxd2413_init_da8c8
theorem dJ6_init_d00df_0 : decode cJ6_init_d00df 0 = .ok (.aload_n 0, 1) := by decide +kernel
theorem dJ6_init_d00df_1 : decode cJ6_init_d00df 1 = .ok (.invokespecial 202, 3) := by decide +kernel
theorem dJ6_init_d00df_4 : decode cJ6_init_d00df 4 = .ok (.aload_n 0, 1) := by decide +kernel
theorem dJ6_init_d00df_5 : decode cJ6_init_d00df 5 = .ok (.iload_n 1, 1) := by decide +kernel
theorem dJ6_init_d00df_6 : decode cJ6_init_d00df 6 = .ok (.putfield 205, 3) := by decide +kernel
theorem dJ6_init_d00df_9 : decode cJ6_init_d00df 9 = .ok (.return_, 1) := by decide +kernel
theorem dJxd2413_init_da8c8_0 : decode cJxd2413_init_da8c8 0 = .ok (.aload_n 0, 1) := by decide +kernel
theorem dJxd2413_init_da8c8_1 : decode cJxd2413_init_da8c8 1 = .ok (.invokespecial 1, 3) := by decide +kernel
theorem dJxd2413_init_da8c8_4 : decode cJxd2413_init_da8c8 4 = .ok (.return_, 1) := by decide +kernel
theorem dfJ6 : ∀ j, j < 1 → defaultValue (tyJ6 j) = vp_V [.int 0] j := by
  intro j hj
  rcases (show j = 0 by omega) with rfl <;> rfl
theorem dfX6 : ∀ j, j < 7 → defaultValue (tyX6 j) = vp_V [.int 0, .null, .int 0, .int 0, .int 0, .null, .null] j := by
  intro j hj
  rcases (show j = 0 ∨ j = 1 ∨ j = 2 ∨ j = 3 ∨ j = 4 ∨ j = 5 ∨ j = 6 by omega) with rfl | rfl | rfl | rfl | rfl | rfl | rfl <;> rfl
theorem dfX7 : ∀ j, j < 2 → defaultValue (tyX7 j) = vp_V [.int 0, .int 0] j := by
  intro j hj
  rcases (show j = 0 ∨ j = 1 by omega) with rfl | rfl <;> rfl
def sp_M_candidate (c1 : Int32) : Int32 := if (sp_M_isProvince c1) = 0 then (-1) else 0
set_option maxHeartbeats 4000000 in
set_option maxRecDepth 100000 in
theorem c_M_candidate (l : Launch) (dC : Nat → ClassId) (dI : Nat → Nat → Nat) (d : Nat) (tc : Nat) (ad : Nat → Nat) (mx : Nat) (lc : Nat) (lr : Nat) (kn : Nat) (lt : Nat) (ml : Nat) (mm : Nat) (lp : Nat) (lb : Nat) (mq : Nat) (c1 : Int32) (sz : Nat) : Met l yX9_candidate wsX9_candidate ({ frames := 5, cells := 44, slots := 188, locals := 101 }) (va_Pc [.ref mx, .int c1] (PZ dC dI d tc ad sz [(mx, .inr (14, [.ref lc, .ref lr, .ref kn, .ref lt, .ref ml, .ref mm, .ref lp, .ref lb, .ref mq, .int 1, .int 10, .int 0, .int 0])), (lc, .inr (4, [.int 0, .ref d, .int 0]))] [])) (va_Qi (fun r (_ : Unit) => r = sp_M_candidate c1) (fun _ _ => True) (va_A [(mx, .inr (14, [.ref lc, .ref lr, .ref kn, .ref lt, .ref ml, .ref mm, .ref lp, .ref lb, .ref mq, .int 1, .int 10, .int 0, .int 0])), (lc, .inr (4, [.int 0, .ref d, .int 0]))] sz)) 44 188 (va_A [(mx, .inr (14, [.ref lc, .ref lr, .ref kn, .ref lt, .ref ml, .ref mm, .ref lp, .ref lb, .ref mq, .int 1, .int 10, .int 0, .int 0])), (lc, .inr (4, [.int 0, .ref d, .int 0]))] sz) := by
  refine Met.ofW (cc := cX9_candidate) (maxL := 3) (ret := (some .int)) (by decide) rfl ?_
  intro p e s m args below meth c s₁ B hml hv
  obtain ⟨rfl, hsz, hP, hK, hD0, hF, hZ⟩ := hv
  have hx := B.exec
  have hb := B.bytes
  have hr := B.returns
  have hts := atoms_spec (ws := wsX9_candidate) B.pre
  have hown : s.vm.findClass RX9 = some m.cls := findClass_of_methodNamed B.named
  have hlocks := B.notSynchronized
  subst hsz
  have hD := hD0.self (sz := s.heap.size)
  generalize hAe : va_A [(mx, .inr (14, [.ref lc, .ref lr, .ref kn, .ref lt, .ref ml, .ref mm, .ref lp, .ref lb, .ref mq, .int 1, .int 10, .int 0, .int 0])), (lc, .inr (4, [.int 0, .ref d, .int 0]))] s.heap.size = A at hD hZ ⊢
  have hA : ∀ q : Nat, s.heap.size ≤ q → A q := fun q h => by rw [← hAe]; exact Or.inr h
  have hS : va_S A s.heap s.heap [] := va_S.rf
  have hl := lv_entry ([.ref mx, .int c1]) (n := 3) (Nat.le_of_ble_eq_true rfl)
  rw [lg_entry_eq]
  generalize (lg_sl ([.ref mx, .int c1]) ++ List.replicate (3 - (lg_sl ([.ref mx, .int c1])).length) Slot.unset).toArray = ls at hl ⊢
  have hl : lv_has ls 3 [(0, .ref mx), (1, .int c1)] := hl
  refine lv_iload_n hx hb dX9_candidate_0 rfl (lv_at hl 1 rfl) ?_
  refine vp_callSi (va_Run.run (va_runS (As := [.int c1]) (rest := []) ⟨hx, hb, hml, hown, hts⟩ (c_M_isProvince l dC dI c1) (va_cwS 1 hts gX9_candidate_X9_isProvince rfl rfl rfl (by decide +kernel) ⟨Nat.le_of_ble_eq_true rfl, Nat.le_of_ble_eq_true rfl⟩) ⟨PS_blind, PS_pre (hP.sub (ws' := []) [] rfl) hK hF⟩ rfl rfl hl.1 rfl (lv_room (Nat.le_of_ble_eq_true rfl)) dX9_candidate_1 ⟨Nat.le_of_ble_eq_true rfl, Nat.le_of_ble_eq_true rfl⟩)) (fun r_1 hr_1 => ?_)
  subst hr_1
  refine lv_if_ne (tgt := 9) hx hb dX9_candidate_4 (by decide) (fun c_2 => ?_) (fun c_2 => ?_)
  · skip
    refine lv_aload_n hx hb dX9_candidate_9 rfl (lv_at hl 0 rfl) ?_
    refine va_get (D := (dC, dI)) (ci := 14) (v := .ref lc) (C := RX9) (T := TX9) (N := 13) hx hb hts (fun _ h9 => List.mem_cons_of_mem _ (List.mem_append_left _ (List.mem_append_left _ (List.mem_append_left _ (List.mem_append_right _ (h9)))))) hown hK hP 0 rfl rfl 0 (by decide) (hts (.fieldLink RX9 10 "ExamHallsModel" "candidates" "Ljava/util/List;") (List.mem_of_getElem? (i := 1) rfl)) (fun _ h9 => h9) rfl dX9_candidate_10 ?_
    refine va_csFi (va_runF (hK.1 4 _ rfl).2 (As := []) (rest := []) ⟨hx, hb, hml, hown, hts⟩ (c_AL_size l dC dI lc 0 d 0) (va_cwF 0 hts gX9_candidate_Jx4a65c_size_8abf5_f56Jx4a65c rfl rfl rfl (Ft.fw hF (RJx4a65c, ⟨"java/util/List", "size", "()I"⟩, yJx4a65c_size_8abf5) (by decide +kernel)) (by decide +kernel) ⟨Nat.le_of_ble_eq_true rfl, Nat.le_of_ble_eq_true rfl⟩) ⟨PS_blind, va_recv hK hP (ci := 4) (q0 := 1) rfl rfl, PS_pre (hP.sub (ws' := [(lc, .inr (4, [.int 0, .ref d, .int 0]))]) [1] rfl) hK hF⟩ rfl rfl hl.1 rfl (lv_room (Nat.le_of_ble_eq_true rfl)) dX9_candidate_13 ⟨Nat.le_of_ble_eq_true rfl, Nat.le_of_ble_eq_true rfl⟩) (fun r_3 hr_3 => ?_)
    subst hr_3
    refine lv_bipush (v := 24) hx hb dX9_candidate_18 (by decide) ?_
    refine lv_icmp_ne (tgt := 26) hx hb dX9_candidate_20 (by decide) (fun _ => ?_) (fun c_4 => absurd c_4 (by decide))
    refine va_new (ci := 11) (fs := [.int 0, .null, .int 0, .int 0, .int 0, .null, .null]) (C := RX6) (T := TX6) (N := 7) hx hb hts (fun _ h9 => List.mem_cons_of_mem _ (List.mem_append_left _ (List.mem_append_left _ (List.mem_append_right _ (h9))))) tyX6 tyX6_ok hown (hts (.classLink RX9 66 RX6) (List.mem_of_getElem? (i := 2) rfl)) (hts (.instantiable RX6 7) (List.mem_of_getElem? (i := 3) rfl)) (hts (.initialized RX6) (List.mem_of_getElem? (i := 4) rfl)) hK hP hD hS hA rfl dfX6 (Nat.le_of_ble_eq_true rfl) (Nat.le_of_ble_eq_true rfl) dX9_candidate_26 (fun q_5 H hP hD hS => ?_)
    have hP : va_P (dC, dI) vwCl [(mx, .inr (14, [.ref lc, .ref lr, .ref kn, .ref lt, .ref ml, .ref mm, .ref lp, .ref lb, .ref mq, .int 1, .int 10, .int 0, .int 0])), (lc, .inr (4, [.int 0, .ref d, .int 0])), (q_5, .inr (11, [.int 0, .null, .int 0, .int 0, .int 0, .null, .null]))] H := hP
    have hD : va_D A [(mx, .inr (14, [.ref lc, .ref lr, .ref kn, .ref lt, .ref ml, .ref mm, .ref lp, .ref lb, .ref mq, .int 1, .int 10, .int 0, .int 0])), (lc, .inr (4, [.int 0, .ref d, .int 0])), (q_5, .inr (11, [.int 0, .null, .int 0, .int 0, .int 0, .null, .null]))] := hD
    refine W.widen (k := 1) (n := 7) (Nat.le_of_ble_eq_true rfl) (Nat.le_of_ble_eq_true rfl) ?_
    refine lv_dup hx hb dX9_candidate_29 rfl ?_
    have hPc := hP.sub (ws' := [(q_5, .inr (11, [.int 0, .null, .int 0, .int 0, .int 0, .null, .null]))]) [2] rfl
    have hDc := hD.sub (ws' := [(q_5, .inr (11, [.int 0, .null, .int 0, .int 0, .int 0, .null, .null]))]) [2] (by decide) rfl
    have hKc := hK.sub (tys' := []) [] rfl
    have hFc := va_free (wc := [(q_5, .inr (11, [.int 0, .null, .int 0, .int 0, .int 0, .null, .null]))]) hD hS hA [2] rfl
    refine va_callv (va_runIN (As := []) (rest := [.ref q_5]) ⟨hx, hb, hml, hown, hts⟩ (c_X6_init l dC dI d tc ad q_5 H.size) ⟨va_cnB 0 hts gX9_candidate_X6_init_n68 rfl rfl rfl (Ft.nm hF (RX9, 68, yX6_init, RX9) (by decide +kernel)) (hts (.initialized RX6) (List.mem_of_getElem? (i := 4) rfl)) (by decide +kernel) ⟨Nat.le_of_ble_eq_true rfl, Nat.le_of_ble_eq_true rfl⟩, rfl, (hts (.instanceMethod yX6_init) (List.mem_of_getElem? (i := 30) rfl))⟩ ⟨PZ_blind, PZ_pre hPc hKc hDc hF hZ hS hFc⟩ rfl rfl hl.1 rfl (lv_room (Nat.le_of_ble_eq_true rfl)) dX9_candidate_30 ⟨Nat.le_of_ble_eq_true rfl, Nat.le_of_ble_eq_true rfl⟩) hS (fun q _ h => hFc q h) hFc (fun u t H1 locs ht hvm hw hB hz1 hk1 hS => ?_)
    obtain ⟨g1_7, g2_8, hP1, hK1, hD1⟩ := hB
    rw [ht] at hP1
    have hK1 := va_K.moved hvm.symm hK1
    obtain ⟨hP, hD⟩ := va_join (wr := [(mx, .inr (14, [.ref lc, .ref lr, .ref kn, .ref lt, .ref ml, .ref mm, .ref lp, .ref lb, .ref mq, .int 1, .int 10, .int 0, .int 0])), (lc, .inr (4, [.int 0, .ref d, .int 0]))]) (w1 := [(q_5, .inr (11, [.int 0, .null, .int (-1), .int (-1), .int 0, .ref g1_7, .ref g2_8]))]) hP hD [2] [0, 1] rfl rfl (by decide) (by decide) hk1 hFc hP1 hD1
    have hK := hK.app hK1
    generalize H1 = H at hP hS ⊢
    have hP : va_P (dC, dI) vwCl [(mx, .inr (14, [.ref lc, .ref lr, .ref kn, .ref lt, .ref ml, .ref mm, .ref lp, .ref lb, .ref mq, .int 1, .int 10, .int 0, .int 0])), (lc, .inr (4, [.int 0, .ref d, .int 0])), (q_5, .inr (11, [.int 0, .null, .int (-1), .int (-1), .int 0, .ref g1_7, .ref g2_8]))] H := hP
    have hD : va_D A [(mx, .inr (14, [.ref lc, .ref lr, .ref kn, .ref lt, .ref ml, .ref mm, .ref lp, .ref lb, .ref mq, .int 1, .int 10, .int 0, .int 0])), (lc, .inr (4, [.int 0, .ref d, .int 0])), (q_5, .inr (11, [.int 0, .null, .int (-1), .int (-1), .int 0, .ref g1_7, .ref g2_8]))] := hD
    have hK : va_K (dC, dI) vwCl [] s := hK
    refine W.widen (k := 43) (n := 178) (Nat.le_of_ble_eq_true rfl) (Nat.le_of_ble_eq_true rfl) ?_
    refine lv_astore_n (lv' := [(2, .ref q_5), (0, .ref mx), (1, .int c1)]) hx hb dX9_candidate_33 rfl hl (by decide) rfl (fun ls hl => ?_)
    refine lv_aload_n hx hb dX9_candidate_34 rfl (lv_at hl 0 rfl) ?_
    refine lv_iload_n hx hb dX9_candidate_35 rfl (lv_at hl 2 rfl) ?_
    refine va_put (D := (dC, dI)) (ci := 11) (v := .int c1) (ty := .int) (C := RX6) (T := TX6) (N := 7) hx hb hts (fun _ h9 => List.mem_cons_of_mem _ (List.mem_append_left _ (List.mem_append_left _ (List.mem_append_right _ (h9))))) tyX6 tyX6_ok nmX6 hown hK hP hD hS 2 rfl rfl 0 (by decide) (hts (.fieldLink RX9 69 "ExamHallsModel$Candidate" "province" "I") (List.mem_of_getElem? (i := 5) rfl)) (fun _ h9 => h9) rfl (by decide +kernel) rfl rfl (Nat.le_of_ble_eq_true rfl) dX9_candidate_36 (fun H locs hP hD hS => ?_)
    have hP : va_P (dC, dI) vwCl [(mx, .inr (14, [.ref lc, .ref lr, .ref kn, .ref lt, .ref ml, .ref mm, .ref lp, .ref lb, .ref mq, .int 1, .int 10, .int 0, .int 0])), (lc, .inr (4, [.int 0, .ref d, .int 0])), (q_5, .inr (11, [.int c1, .null, .int (-1), .int (-1), .int 0, .ref g1_7, .ref g2_8]))] H := hP
    have hD : va_D A [(mx, .inr (14, [.ref lc, .ref lr, .ref kn, .ref lt, .ref ml, .ref mm, .ref lp, .ref lb, .ref mq, .int 1, .int 10, .int 0, .int 0])), (lc, .inr (4, [.int 0, .ref d, .int 0])), (q_5, .inr (11, [.int c1, .null, .int (-1), .int (-1), .int 0, .ref g1_7, .ref g2_8]))] := hD
    refine lv_aload_n hx hb dX9_candidate_39 rfl (lv_at hl 1 rfl) ?_
    refine va_get (D := (dC, dI)) (ci := 14) (v := .ref lc) (C := RX9) (T := TX9) (N := 13) hx hb hts (fun _ h9 => List.mem_cons_of_mem _ (List.mem_append_left _ (List.mem_append_left _ (List.mem_append_left _ (List.mem_append_right _ (h9)))))) hown hK hP 0 rfl rfl 0 (by decide) (hts (.fieldLink RX9 10 "ExamHallsModel" "candidates" "Ljava/util/List;") (List.mem_of_getElem? (i := 1) rfl)) (fun _ h9 => h9) rfl dX9_candidate_40 ?_
    refine lv_aload_n hx hb dX9_candidate_43 rfl (lv_at hl 0 rfl) ?_
    have hPc := hP.sub (ws' := [(lc, .inr (4, [.int 0, .ref d, .int 0]))]) [1] rfl
    have hDc := hD.sub (ws' := [(lc, .inr (4, [.int 0, .ref d, .int 0]))]) [1] (by decide) rfl
    have hKc := hK.sub (tys' := []) [] rfl
    have hFc := va_free (wc := [(lc, .inr (4, [.int 0, .ref d, .int 0]))]) hD hS hA [1] rfl
    refine va_callFi (va_runF (hK.1 4 _ rfl).2 (As := [.ref q_5]) (rest := []) ⟨hx, hb, hml, hown, hts⟩ (c_AL_addf l dC dI d tc ad lc 0 q_5 H.size (fun h9 => absurd (hD.1 2 1 _ _ rfl rfl h9) (by decide)) (hP 2 _ rfl).lt) (va_cwF 1 hts gX9_candidate_Jx4a65c_add_9ea2d_f72Jx4a65c rfl rfl rfl (Ft.fw hF (RJx4a65c, ⟨"java/util/List", "add", "(Ljava/lang/Object;)Z"⟩, yJx4a65c_add_9ea2d) (by decide +kernel)) (by decide +kernel) ⟨Nat.le_of_ble_eq_true rfl, Nat.le_of_ble_eq_true rfl⟩) ⟨PE_blind, va_recv hK hP (ci := 4) (q0 := 1) rfl rfl, PE_pre hPc hKc hDc hF hZ hS hFc (any_obj hF hK hP (ci := 11) (q0 := 2) rfl rfl (by decide +kernel))⟩ rfl rfl hl.1 rfl (lv_room (Nat.le_of_ble_eq_true rfl)) dX9_candidate_44 ⟨Nat.le_of_ble_eq_true rfl, Nat.le_of_ble_eq_true rfl⟩) hS (fun q _ h => hFc q h) hFc (fun r_9 u t H1 locs ht hvm hw hB hz1 hk1 hS => ?_)
    obtain ⟨hm_10, g1_11, kO_12, fa_13, hP1, hK1, hD1⟩ := hB
    rw [ht] at hP1
    have hK1 := va_K.moved hvm.symm hK1
    obtain ⟨hP, hD⟩ := va_join (wr := [(mx, .inr (14, [.ref lc, .ref lr, .ref kn, .ref lt, .ref ml, .ref mm, .ref lp, .ref lb, .ref mq, .int 1, .int 10, .int 0, .int 0])), (q_5, .inr (11, [.int c1, .null, .int (-1), .int (-1), .int 0, .ref g1_7, .ref g2_8]))]) (w1 := [(lc, .inr (4, [.int hm_10, .ref g1_11, .int 1])), (g1_11, .inl (kO_12, 10, .inr (.inr (.inr (.inr fa_13)))))]) hP hD [1] [0, 2] rfl rfl (by decide) (by decide) hk1 hFc hP1 hD1
    have hK := hK.app hK1
    generalize H1 = H at hP hS ⊢
    have hP : va_P (dC, dI) vwCl [(mx, .inr (14, [.ref lc, .ref lr, .ref kn, .ref lt, .ref ml, .ref mm, .ref lp, .ref lb, .ref mq, .int 1, .int 10, .int 0, .int 0])), (q_5, .inr (11, [.int c1, .null, .int (-1), .int (-1), .int 0, .ref g1_7, .ref g2_8])), (lc, .inr (4, [.int hm_10, .ref g1_11, .int 1])), (g1_11, .inl (kO_12, 10, .inr (.inr (.inr (.inr fa_13)))))] H := hP
    have hD : va_D A [(mx, .inr (14, [.ref lc, .ref lr, .ref kn, .ref lt, .ref ml, .ref mm, .ref lp, .ref lb, .ref mq, .int 1, .int 10, .int 0, .int 0])), (q_5, .inr (11, [.int c1, .null, .int (-1), .int (-1), .int 0, .ref g1_7, .ref g2_8])), (lc, .inr (4, [.int hm_10, .ref g1_11, .int 1])), (g1_11, .inl (kO_12, 10, .inr (.inr (.inr (.inr fa_13)))))] := hD
    have hK : va_K (dC, dI) vwCl [(kO_12, .object "java/lang/Object")] s := hK
    refine W.widen (k := 44) (n := 188) (Nat.le_of_ble_eq_true rfl) (Nat.le_of_ble_eq_true rfl) ?_
    obtain rfl := hw
    refine lv_pop hx hb dX9_candidate_49 rfl ?_
    refine lv_aload_n hx hb dX9_candidate_50 rfl (lv_at hl 1 rfl) ?_
    refine va_get (D := (dC, dI)) (ci := 14) (v := .ref lc) (C := RX9) (T := TX9) (N := 13) hx hb hts (fun _ h9 => List.mem_cons_of_mem _ (List.mem_append_left _ (List.mem_append_left _ (List.mem_append_left _ (List.mem_append_right _ (h9)))))) hown hK hP 0 rfl rfl 0 (by decide) (hts (.fieldLink RX9 10 "ExamHallsModel" "candidates" "Ljava/util/List;") (List.mem_of_getElem? (i := 1) rfl)) (fun _ h9 => h9) rfl dX9_candidate_51 ?_
    refine va_csFi (va_runF (hK.1 4 _ rfl).2 (As := []) (rest := []) ⟨hx, hb, hml, hown, hts⟩ (c_AL_size l dC dI lc hm_10 g1_11 1) (va_cwF 0 hts gX9_candidate_Jx4a65c_size_8abf5_f56Jx4a65c rfl rfl rfl (Ft.fw hF (RJx4a65c, ⟨"java/util/List", "size", "()I"⟩, yJx4a65c_size_8abf5) (by decide +kernel)) (by decide +kernel) ⟨Nat.le_of_ble_eq_true rfl, Nat.le_of_ble_eq_true rfl⟩) ⟨PS_blind, va_recv hK hP (ci := 4) (q0 := 2) rfl rfl, PS_pre (hP.sub (ws' := [(lc, .inr (4, [.int hm_10, .ref g1_11, .int 1]))]) [2] rfl) (hK.sub (tys' := []) [] rfl) hF⟩ rfl rfl hl.1 rfl (lv_room (Nat.le_of_ble_eq_true rfl)) dX9_candidate_54 ⟨Nat.le_of_ble_eq_true rfl, Nat.le_of_ble_eq_true rfl⟩) (fun r_14 hr_14 => ?_)
    subst hr_14
    refine lv_iconst (v := 1) hx hb dX9_candidate_59 (by decide) ?_
    refine lv_isub hx hb dX9_candidate_60 ?_
    refine lv_topi (fun f_15 ef_15 => ?_)
    obtain rfl : f_15 = 0 := ef_15.trans (by decide)
    exact W.iret (v := 0) hx hb hr (fun t ht hW => ⟨⟨_, (), rfl, (by simp only [sp_M_candidate, if_neg c_2]), trivial⟩, hS.F ht⟩) hS.2.2 dX9_candidate_61
  · skip
    refine lv_iconst (v := (-1)) hx hb dX9_candidate_7 (by decide) ?_
    refine W.widen (k := 44) (n := 188) (Nat.le_of_ble_eq_true rfl) (Nat.le_of_ble_eq_true rfl) ?_
    exact W.iret (v := (-1)) hx hb hr (fun t ht hW => ⟨⟨_, (), rfl, (by simp only [sp_M_candidate, if_pos c_2]), trivial⟩, hS.F ht⟩) hS.2.2 dX9_candidate_8

def sp_M_reader (c1 : Int32) (c2 : Int32) : Int32 := if (sp_M_isProvince c1) = 0 then (-1) else if c2 < 0 then (-1) else if c2 ≤ 3 then 0 else (-1)
set_option maxHeartbeats 4000000 in
set_option maxRecDepth 100000 in
theorem c_M_reader (l : Launch) (dC : Nat → ClassId) (dI : Nat → Nat → Nat) (d : Nat) (tc : Nat) (ad : Nat → Nat) (mx : Nat) (lc : Nat) (lr : Nat) (kn : Nat) (lt : Nat) (ml : Nat) (mm : Nat) (lp : Nat) (lb : Nat) (mq : Nat) (c1 : Int32) (c2 : Int32) (sz : Nat) : Met l yX9_reader wsX9_reader ({ frames := 5, cells := 2, slots := 12, locals := 101 }) (va_Pc [.ref mx, .int c1, .int c2] (PZ dC dI d tc ad sz [(mx, .inr (14, [.ref lc, .ref lr, .ref kn, .ref lt, .ref ml, .ref mm, .ref lp, .ref lb, .ref mq, .int 1, .int 10, .int 0, .int 0])), (lr, .inr (4, [.int 0, .ref d, .int 0]))] [])) (va_Qi (fun r (_ : Unit) => r = sp_M_reader c1 c2) (fun _ _ => True) (va_A [(mx, .inr (14, [.ref lc, .ref lr, .ref kn, .ref lt, .ref ml, .ref mm, .ref lp, .ref lb, .ref mq, .int 1, .int 10, .int 0, .int 0])), (lr, .inr (4, [.int 0, .ref d, .int 0]))] sz)) 2 12 (va_A [(mx, .inr (14, [.ref lc, .ref lr, .ref kn, .ref lt, .ref ml, .ref mm, .ref lp, .ref lb, .ref mq, .int 1, .int 10, .int 0, .int 0])), (lr, .inr (4, [.int 0, .ref d, .int 0]))] sz) := by
  refine Met.ofW (cc := cX9_reader) (maxL := 4) (ret := (some .int)) (by decide) rfl ?_
  intro p e s m args below meth c s₁ B hml hv
  obtain ⟨rfl, hsz, hP, hK, hD0, hF, hZ⟩ := hv
  have hx := B.exec
  have hb := B.bytes
  have hr := B.returns
  have hts := atoms_spec (ws := wsX9_reader) B.pre
  have hown : s.vm.findClass RX9 = some m.cls := findClass_of_methodNamed B.named
  have hlocks := B.notSynchronized
  subst hsz
  have hD := hD0.self (sz := s.heap.size)
  generalize hAe : va_A [(mx, .inr (14, [.ref lc, .ref lr, .ref kn, .ref lt, .ref ml, .ref mm, .ref lp, .ref lb, .ref mq, .int 1, .int 10, .int 0, .int 0])), (lr, .inr (4, [.int 0, .ref d, .int 0]))] s.heap.size = A at hD hZ ⊢
  have hA : ∀ q : Nat, s.heap.size ≤ q → A q := fun q h => by rw [← hAe]; exact Or.inr h
  have hS : va_S A s.heap s.heap [] := va_S.rf
  have hl := lv_entry ([.ref mx, .int c1, .int c2]) (n := 4) (Nat.le_of_ble_eq_true rfl)
  rw [lg_entry_eq]
  generalize (lg_sl ([.ref mx, .int c1, .int c2]) ++ List.replicate (4 - (lg_sl ([.ref mx, .int c1, .int c2])).length) Slot.unset).toArray = ls at hl ⊢
  have hl : lv_has ls 4 [(0, .ref mx), (1, .int c1), (2, .int c2)] := hl
  refine lv_iload_n hx hb dX9_reader_0 rfl (lv_at hl 1 rfl) ?_
  refine vp_callSi (va_Run.run (va_runS (As := [.int c1]) (rest := []) ⟨hx, hb, hml, hown, hts⟩ (c_M_isProvince l dC dI c1) (va_cwS 1 hts gX9_reader_X9_isProvince rfl rfl rfl (by decide +kernel) ⟨Nat.le_of_ble_eq_true rfl, Nat.le_of_ble_eq_true rfl⟩) ⟨PS_blind, PS_pre (hP.sub (ws' := []) [] rfl) hK hF⟩ rfl rfl hl.1 rfl (lv_room (Nat.le_of_ble_eq_true rfl)) dX9_reader_1 ⟨Nat.le_of_ble_eq_true rfl, Nat.le_of_ble_eq_true rfl⟩)) (fun r_1 hr_1 => ?_)
  subst hr_1
  refine lv_if_eq (tgt := 16) hx hb dX9_reader_4 (by decide) (fun c_2 => ?_) (fun c_2 => ?_)
  · skip
    refine lv_iconst (v := (-1)) hx hb dX9_reader_16 (by decide) ?_
    refine W.widen (k := 2) (n := 12) (Nat.le_of_ble_eq_true rfl) (Nat.le_of_ble_eq_true rfl) ?_
    exact W.iret (v := (-1)) hx hb hr (fun t ht hW => ⟨⟨_, (), rfl, (by simp only [sp_M_reader, if_pos c_2]), trivial⟩, hS.F ht⟩) hS.2.2 dX9_reader_17
  · skip
    refine lv_iload_n hx hb dX9_reader_7 rfl (lv_at hl 2 rfl) ?_
    refine lv_if_lt (tgt := 16) hx hb dX9_reader_8 (by decide) (fun c_3 => ?_) (fun c_3 => ?_)
    · skip
      refine lv_iconst (v := (-1)) hx hb dX9_reader_16 (by decide) ?_
      refine W.widen (k := 2) (n := 12) (Nat.le_of_ble_eq_true rfl) (Nat.le_of_ble_eq_true rfl) ?_
      exact W.iret (v := (-1)) hx hb hr (fun t ht hW => ⟨⟨_, (), rfl, (by simp only [sp_M_reader, if_neg c_2, if_pos c_3]), trivial⟩, hS.F ht⟩) hS.2.2 dX9_reader_17
    · skip
      refine lv_iload_n hx hb dX9_reader_11 rfl (lv_at hl 2 rfl) ?_
      refine lv_iconst (v := 3) hx hb dX9_reader_12 (by decide) ?_
      refine lv_icmp_le (tgt := 18) hx hb dX9_reader_13 (by decide) (fun c_4 => ?_) (fun c_4 => ?_)
      · skip
        refine lv_aload_n hx hb dX9_reader_18 rfl (lv_at hl 0 rfl) ?_
        refine va_get (D := (dC, dI)) (ci := 14) (v := .ref lr) (C := RX9) (T := TX9) (N := 13) hx hb hts (fun _ h9 => List.mem_cons_of_mem _ (List.mem_append_left _ (List.mem_append_left _ (List.mem_append_left _ (List.mem_append_right _ (h9)))))) hown hK hP 0 rfl rfl 1 (by decide) (hts (.fieldLink RX9 16 "ExamHallsModel" "readers" "Ljava/util/List;") (List.mem_of_getElem? (i := 1) rfl)) (fun _ h9 => h9) rfl dX9_reader_19 ?_
        refine va_csFi (va_runF (hK.1 4 _ rfl).2 (As := []) (rest := []) ⟨hx, hb, hml, hown, hts⟩ (c_AL_size l dC dI lr 0 d 0) (va_cwF 0 hts gX9_reader_Jx4a65c_size_8abf5_f56Jx4a65c rfl rfl rfl (Ft.fw hF (RJx4a65c, ⟨"java/util/List", "size", "()I"⟩, yJx4a65c_size_8abf5) (by decide +kernel)) (by decide +kernel) ⟨Nat.le_of_ble_eq_true rfl, Nat.le_of_ble_eq_true rfl⟩) ⟨PS_blind, va_recv hK hP (ci := 4) (q0 := 1) rfl rfl, PS_pre (hP.sub (ws' := [(lr, .inr (4, [.int 0, .ref d, .int 0]))]) [1] rfl) hK hF⟩ rfl rfl hl.1 rfl (lv_room (Nat.le_of_ble_eq_true rfl)) dX9_reader_22 ⟨Nat.le_of_ble_eq_true rfl, Nat.le_of_ble_eq_true rfl⟩) (fun r_5 hr_5 => ?_)
        subst hr_5
        refine lv_bipush (v := 6) hx hb dX9_reader_27 (by decide) ?_
        refine lv_icmp_ne (tgt := 35) hx hb dX9_reader_29 (by decide) (fun _ => ?_) (fun c_6 => absurd c_6 (by decide))
        refine va_new (ci := 12) (fs := [.int 0, .int 0]) (C := RX7) (T := TX7) (N := 2) hx hb hts (fun _ h9 => List.mem_cons_of_mem _ (List.mem_append_left _ (List.mem_append_left _ (List.mem_append_right _ (h9))))) tyX7 tyX7_ok hown (hts (.classLink RX9 208 RX7) (List.mem_of_getElem? (i := 2) rfl)) (hts (.instantiable RX7 2) (List.mem_of_getElem? (i := 3) rfl)) (hts (.initialized RX7) (List.mem_of_getElem? (i := 4) rfl)) hK hP hD hS hA rfl dfX7 (Nat.le_of_ble_eq_true rfl) (Nat.le_of_ble_eq_true rfl) dX9_reader_35 (fun q_7 H hP hD hS => ?_)
        have hP : va_P (dC, dI) vwCl [(mx, .inr (14, [.ref lc, .ref lr, .ref kn, .ref lt, .ref ml, .ref mm, .ref lp, .ref lb, .ref mq, .int 1, .int 10, .int 0, .int 0])), (lr, .inr (4, [.int 0, .ref d, .int 0])), (q_7, .inr (12, [.int 0, .int 0]))] H := hP
        have hD : va_D A [(mx, .inr (14, [.ref lc, .ref lr, .ref kn, .ref lt, .ref ml, .ref mm, .ref lp, .ref lb, .ref mq, .int 1, .int 10, .int 0, .int 0])), (lr, .inr (4, [.int 0, .ref d, .int 0])), (q_7, .inr (12, [.int 0, .int 0]))] := hD
        refine W.widen (k := 1) (n := 2) (Nat.le_of_ble_eq_true rfl) (Nat.le_of_ble_eq_true rfl) ?_
        refine lv_dup hx hb dX9_reader_38 rfl ?_
        have hPc := hP.sub (ws' := [(q_7, .inr (12, [.int 0, .int 0]))]) [2] rfl
        have hDc := hD.sub (ws' := [(q_7, .inr (12, [.int 0, .int 0]))]) [2] (by decide) rfl
        have hKc := hK.sub (tys' := []) [] rfl
        have hFc := va_free (wc := [(q_7, .inr (12, [.int 0, .int 0]))]) hD hS hA [2] rfl
        refine va_callv (va_runIN (As := []) (rest := [.ref q_7]) ⟨hx, hb, hml, hown, hts⟩ (c_X7_init l dC dI q_7 H.size) ⟨va_cnB 0 hts gX9_reader_X7_init_n210 rfl rfl rfl (Ft.nm hF (RX9, 210, yX7_init, RX9) (by decide +kernel)) (hts (.initialized RX7) (List.mem_of_getElem? (i := 4) rfl)) (by decide +kernel) ⟨Nat.le_of_ble_eq_true rfl, Nat.le_of_ble_eq_true rfl⟩, rfl, (hts (.instanceMethod yX7_init) (List.mem_of_getElem? (i := 31) rfl))⟩ ⟨PQ_blind, PQ_pre hPc hKc hDc hF⟩ rfl rfl hl.1 rfl (lv_room (Nat.le_of_ble_eq_true rfl)) dX9_reader_39 ⟨Nat.le_of_ble_eq_true rfl, Nat.le_of_ble_eq_true rfl⟩) hS (fun q _ h => hFc q h) hFc (fun u t H1 locs ht hvm hw hB hz1 hk1 hS => ?_)
        obtain ⟨hP1, hK1, hD1⟩ := hB
        rw [ht] at hP1
        have hK1 := va_K.moved hvm.symm hK1
        obtain ⟨hP, hD⟩ := va_join (wr := [(mx, .inr (14, [.ref lc, .ref lr, .ref kn, .ref lt, .ref ml, .ref mm, .ref lp, .ref lb, .ref mq, .int 1, .int 10, .int 0, .int 0])), (lr, .inr (4, [.int 0, .ref d, .int 0]))]) (w1 := [(q_7, .inr (12, [.int 0, .int 0]))]) hP hD [2] [0, 1] rfl rfl (by decide) (by decide) hk1 hFc hP1 hD1
        have hK := hK.app hK1
        generalize H1 = H at hP hS ⊢
        have hP : va_P (dC, dI) vwCl [(mx, .inr (14, [.ref lc, .ref lr, .ref kn, .ref lt, .ref ml, .ref mm, .ref lp, .ref lb, .ref mq, .int 1, .int 10, .int 0, .int 0])), (lr, .inr (4, [.int 0, .ref d, .int 0])), (q_7, .inr (12, [.int 0, .int 0]))] H := hP
        have hD : va_D A [(mx, .inr (14, [.ref lc, .ref lr, .ref kn, .ref lt, .ref ml, .ref mm, .ref lp, .ref lb, .ref mq, .int 1, .int 10, .int 0, .int 0])), (lr, .inr (4, [.int 0, .ref d, .int 0])), (q_7, .inr (12, [.int 0, .int 0]))] := hD
        have hK : va_K (dC, dI) vwCl [] s := hK
        refine W.widen (k := 1) (n := 2) (Nat.le_of_ble_eq_true rfl) (Nat.le_of_ble_eq_true rfl) ?_
        refine lv_astore_n (lv' := [(3, .ref q_7), (0, .ref mx), (1, .int c1), (2, .int c2)]) hx hb dX9_reader_42 rfl hl (by decide) rfl (fun ls hl => ?_)
        refine lv_aload_n hx hb dX9_reader_43 rfl (lv_at hl 0 rfl) ?_
        refine lv_iload_n hx hb dX9_reader_44 rfl (lv_at hl 2 rfl) ?_
        refine va_put (D := (dC, dI)) (ci := 12) (v := .int c1) (ty := .int) (C := RX7) (T := TX7) (N := 2) hx hb hts (fun _ h9 => List.mem_cons_of_mem _ (List.mem_append_left _ (List.mem_append_left _ (List.mem_append_right _ (h9))))) tyX7 tyX7_ok nmX7 hown hK hP hD hS 2 rfl rfl 0 (by decide) (hts (.fieldLink RX9 211 "ExamHallsModel$Reader" "province" "I") (List.mem_of_getElem? (i := 5) rfl)) (fun _ h9 => h9) rfl (by decide +kernel) rfl rfl (Nat.le_of_ble_eq_true rfl) dX9_reader_45 (fun H locs hP hD hS => ?_)
        have hP : va_P (dC, dI) vwCl [(mx, .inr (14, [.ref lc, .ref lr, .ref kn, .ref lt, .ref ml, .ref mm, .ref lp, .ref lb, .ref mq, .int 1, .int 10, .int 0, .int 0])), (lr, .inr (4, [.int 0, .ref d, .int 0])), (q_7, .inr (12, [.int c1, .int 0]))] H := hP
        have hD : va_D A [(mx, .inr (14, [.ref lc, .ref lr, .ref kn, .ref lt, .ref ml, .ref mm, .ref lp, .ref lb, .ref mq, .int 1, .int 10, .int 0, .int 0])), (lr, .inr (4, [.int 0, .ref d, .int 0])), (q_7, .inr (12, [.int c1, .int 0]))] := hD
        refine lv_aload_n hx hb dX9_reader_48 rfl (lv_at hl 0 rfl) ?_
        refine lv_iload_n hx hb dX9_reader_49 rfl (lv_at hl 3 rfl) ?_
        refine va_put (D := (dC, dI)) (ci := 12) (v := .int c2) (ty := .int) (C := RX7) (T := TX7) (N := 2) hx hb hts (fun _ h9 => List.mem_cons_of_mem _ (List.mem_append_left _ (List.mem_append_left _ (List.mem_append_right _ (h9))))) tyX7 tyX7_ok nmX7 hown hK hP hD hS 2 rfl rfl 1 (by decide) (hts (.fieldLink RX9 212 "ExamHallsModel$Reader" "room" "I") (List.mem_of_getElem? (i := 6) rfl)) (fun _ h9 => h9) rfl (by decide +kernel) rfl rfl (Nat.le_of_ble_eq_true rfl) dX9_reader_50 (fun H locs hP hD hS => ?_)
        have hP : va_P (dC, dI) vwCl [(mx, .inr (14, [.ref lc, .ref lr, .ref kn, .ref lt, .ref ml, .ref mm, .ref lp, .ref lb, .ref mq, .int 1, .int 10, .int 0, .int 0])), (lr, .inr (4, [.int 0, .ref d, .int 0])), (q_7, .inr (12, [.int c1, .int c2]))] H := hP
        have hD : va_D A [(mx, .inr (14, [.ref lc, .ref lr, .ref kn, .ref lt, .ref ml, .ref mm, .ref lp, .ref lb, .ref mq, .int 1, .int 10, .int 0, .int 0])), (lr, .inr (4, [.int 0, .ref d, .int 0])), (q_7, .inr (12, [.int c1, .int c2]))] := hD
        refine lv_aload_n hx hb dX9_reader_53 rfl (lv_at hl 1 rfl) ?_
        refine va_get (D := (dC, dI)) (ci := 14) (v := .ref lr) (C := RX9) (T := TX9) (N := 13) hx hb hts (fun _ h9 => List.mem_cons_of_mem _ (List.mem_append_left _ (List.mem_append_left _ (List.mem_append_left _ (List.mem_append_right _ (h9)))))) hown hK hP 0 rfl rfl 1 (by decide) (hts (.fieldLink RX9 16 "ExamHallsModel" "readers" "Ljava/util/List;") (List.mem_of_getElem? (i := 1) rfl)) (fun _ h9 => h9) rfl dX9_reader_54 ?_
        refine lv_aload_n hx hb dX9_reader_57 rfl (lv_at hl 0 rfl) ?_
        have hPc := hP.sub (ws' := [(lr, .inr (4, [.int 0, .ref d, .int 0]))]) [1] rfl
        have hDc := hD.sub (ws' := [(lr, .inr (4, [.int 0, .ref d, .int 0]))]) [1] (by decide) rfl
        have hKc := hK.sub (tys' := []) [] rfl
        have hFc := va_free (wc := [(lr, .inr (4, [.int 0, .ref d, .int 0]))]) hD hS hA [1] rfl
        refine va_callFi (va_runF (hK.1 4 _ rfl).2 (As := [.ref q_7]) (rest := []) ⟨hx, hb, hml, hown, hts⟩ (c_AL_addf l dC dI d tc ad lr 0 q_7 H.size (fun h9 => absurd (hD.1 2 1 _ _ rfl rfl h9) (by decide)) (hP 2 _ rfl).lt) (va_cwF 1 hts gX9_reader_Jx4a65c_add_9ea2d_f72Jx4a65c rfl rfl rfl (Ft.fw hF (RJx4a65c, ⟨"java/util/List", "add", "(Ljava/lang/Object;)Z"⟩, yJx4a65c_add_9ea2d) (by decide +kernel)) (by decide +kernel) ⟨Nat.le_of_ble_eq_true rfl, Nat.le_of_ble_eq_true rfl⟩) ⟨PE_blind, va_recv hK hP (ci := 4) (q0 := 1) rfl rfl, PE_pre hPc hKc hDc hF hZ hS hFc (any_obj hF hK hP (ci := 12) (q0 := 2) rfl rfl (by decide +kernel))⟩ rfl rfl hl.1 rfl (lv_room (Nat.le_of_ble_eq_true rfl)) dX9_reader_58 ⟨Nat.le_of_ble_eq_true rfl, Nat.le_of_ble_eq_true rfl⟩) hS (fun q _ h => hFc q h) hFc (fun r_9 u t H1 locs ht hvm hw hB hz1 hk1 hS => ?_)
        obtain ⟨hm_10, g1_11, kO_12, fa_13, hP1, hK1, hD1⟩ := hB
        rw [ht] at hP1
        have hK1 := va_K.moved hvm.symm hK1
        obtain ⟨hP, hD⟩ := va_join (wr := [(mx, .inr (14, [.ref lc, .ref lr, .ref kn, .ref lt, .ref ml, .ref mm, .ref lp, .ref lb, .ref mq, .int 1, .int 10, .int 0, .int 0])), (q_7, .inr (12, [.int c1, .int c2]))]) (w1 := [(lr, .inr (4, [.int hm_10, .ref g1_11, .int 1])), (g1_11, .inl (kO_12, 10, .inr (.inr (.inr (.inr fa_13)))))]) hP hD [1] [0, 2] rfl rfl (by decide) (by decide) hk1 hFc hP1 hD1
        have hK := hK.app hK1
        generalize H1 = H at hP hS ⊢
        have hP : va_P (dC, dI) vwCl [(mx, .inr (14, [.ref lc, .ref lr, .ref kn, .ref lt, .ref ml, .ref mm, .ref lp, .ref lb, .ref mq, .int 1, .int 10, .int 0, .int 0])), (q_7, .inr (12, [.int c1, .int c2])), (lr, .inr (4, [.int hm_10, .ref g1_11, .int 1])), (g1_11, .inl (kO_12, 10, .inr (.inr (.inr (.inr fa_13)))))] H := hP
        have hD : va_D A [(mx, .inr (14, [.ref lc, .ref lr, .ref kn, .ref lt, .ref ml, .ref mm, .ref lp, .ref lb, .ref mq, .int 1, .int 10, .int 0, .int 0])), (q_7, .inr (12, [.int c1, .int c2])), (lr, .inr (4, [.int hm_10, .ref g1_11, .int 1])), (g1_11, .inl (kO_12, 10, .inr (.inr (.inr (.inr fa_13)))))] := hD
        have hK : va_K (dC, dI) vwCl [(kO_12, .object "java/lang/Object")] s := hK
        refine W.widen (k := 2) (n := 12) (Nat.le_of_ble_eq_true rfl) (Nat.le_of_ble_eq_true rfl) ?_
        obtain rfl := hw
        refine lv_pop hx hb dX9_reader_63 rfl ?_
        refine lv_aload_n hx hb dX9_reader_64 rfl (lv_at hl 1 rfl) ?_
        refine va_get (D := (dC, dI)) (ci := 14) (v := .ref lr) (C := RX9) (T := TX9) (N := 13) hx hb hts (fun _ h9 => List.mem_cons_of_mem _ (List.mem_append_left _ (List.mem_append_left _ (List.mem_append_left _ (List.mem_append_right _ (h9)))))) hown hK hP 0 rfl rfl 1 (by decide) (hts (.fieldLink RX9 16 "ExamHallsModel" "readers" "Ljava/util/List;") (List.mem_of_getElem? (i := 1) rfl)) (fun _ h9 => h9) rfl dX9_reader_65 ?_
        refine va_csFi (va_runF (hK.1 4 _ rfl).2 (As := []) (rest := []) ⟨hx, hb, hml, hown, hts⟩ (c_AL_size l dC dI lr hm_10 g1_11 1) (va_cwF 0 hts gX9_reader_Jx4a65c_size_8abf5_f56Jx4a65c rfl rfl rfl (Ft.fw hF (RJx4a65c, ⟨"java/util/List", "size", "()I"⟩, yJx4a65c_size_8abf5) (by decide +kernel)) (by decide +kernel) ⟨Nat.le_of_ble_eq_true rfl, Nat.le_of_ble_eq_true rfl⟩) ⟨PS_blind, va_recv hK hP (ci := 4) (q0 := 2) rfl rfl, PS_pre (hP.sub (ws' := [(lr, .inr (4, [.int hm_10, .ref g1_11, .int 1]))]) [2] rfl) (hK.sub (tys' := []) [] rfl) hF⟩ rfl rfl hl.1 rfl (lv_room (Nat.le_of_ble_eq_true rfl)) dX9_reader_68 ⟨Nat.le_of_ble_eq_true rfl, Nat.le_of_ble_eq_true rfl⟩) (fun r_14 hr_14 => ?_)
        subst hr_14
        refine lv_iconst (v := 1) hx hb dX9_reader_73 (by decide) ?_
        refine lv_isub hx hb dX9_reader_74 ?_
        refine lv_topi (fun f_15 ef_15 => ?_)
        obtain rfl : f_15 = 0 := ef_15.trans (by decide)
        exact W.iret (v := 0) hx hb hr (fun t ht hW => ⟨⟨_, (), rfl, (by simp only [sp_M_reader, if_neg c_2, if_neg c_3, if_pos c_4]), trivial⟩, hS.F ht⟩) hS.2.2 dX9_reader_75
      · skip
        refine lv_iconst (v := (-1)) hx hb dX9_reader_16 (by decide) ?_
        refine W.widen (k := 2) (n := 12) (Nat.le_of_ble_eq_true rfl) (Nat.le_of_ble_eq_true rfl) ?_
        exact W.iret (v := (-1)) hx hb hr (fun t ht hW => ⟨⟨_, (), rfl, (by simp only [sp_M_reader, if_neg c_2, if_neg c_3, if_neg c_4]), trivial⟩, hS.F ht⟩) hS.2.2 dX9_reader_17

def sp_M_parallel (c1 : Int32) (c2 : Int32) : Int32 := if (sp_M_isLeg c1) = 0 then (-1) else if (sp_M_isLeg c2) = 0 then (-1) else if c1 = c2 then (-2) else 0
set_option maxHeartbeats 4000000 in
set_option maxRecDepth 100000 in
theorem c_M_parallel (l : Launch) (dC : Nat → ClassId) (dI : Nat → Nat → Nat) (d : Nat) (tc : Nat) (ad : Nat → Nat) (mx : Nat) (lc : Nat) (lr : Nat) (kn : Nat) (lt : Nat) (ml : Nat) (mm : Nat) (lp : Nat) (lb : Nat) (mq : Nat) (c1 : Int32) (c2 : Int32) (sz : Nat) : Met l yX9_parallel wsX9_parallel ({ frames := 5, cells := 2, slots := 12, locals := 101 }) (va_Pc [.ref mx, .int c1, .int c2] (PZ dC dI d tc ad sz [(mx, .inr (14, [.ref lc, .ref lr, .ref kn, .ref lt, .ref ml, .ref mm, .ref lp, .ref lb, .ref mq, .int 1, .int 10, .int 0, .int 0])), (lp, .inr (4, [.int 0, .ref d, .int 0]))] [])) (va_Qi (fun r (_ : Unit) => r = sp_M_parallel c1 c2) (fun _ _ => True) (va_A [(mx, .inr (14, [.ref lc, .ref lr, .ref kn, .ref lt, .ref ml, .ref mm, .ref lp, .ref lb, .ref mq, .int 1, .int 10, .int 0, .int 0])), (lp, .inr (4, [.int 0, .ref d, .int 0]))] sz)) 2 12 (va_A [(mx, .inr (14, [.ref lc, .ref lr, .ref kn, .ref lt, .ref ml, .ref mm, .ref lp, .ref lb, .ref mq, .int 1, .int 10, .int 0, .int 0])), (lp, .inr (4, [.int 0, .ref d, .int 0]))] sz) := by
  refine Met.ofW (cc := cX9_parallel) (maxL := 3) (ret := (some .int)) (by decide) rfl ?_
  intro p e s m args below meth c s₁ B hml hv
  obtain ⟨rfl, hsz, hP, hK, hD0, hF, hZ⟩ := hv
  have hx := B.exec
  have hb := B.bytes
  have hr := B.returns
  have hts := atoms_spec (ws := wsX9_parallel) B.pre
  have hown : s.vm.findClass RX9 = some m.cls := findClass_of_methodNamed B.named
  have hlocks := B.notSynchronized
  subst hsz
  have hD := hD0.self (sz := s.heap.size)
  generalize hAe : va_A [(mx, .inr (14, [.ref lc, .ref lr, .ref kn, .ref lt, .ref ml, .ref mm, .ref lp, .ref lb, .ref mq, .int 1, .int 10, .int 0, .int 0])), (lp, .inr (4, [.int 0, .ref d, .int 0]))] s.heap.size = A at hD hZ ⊢
  have hA : ∀ q : Nat, s.heap.size ≤ q → A q := fun q h => by rw [← hAe]; exact Or.inr h
  have hS : va_S A s.heap s.heap [] := va_S.rf
  have hl := lv_entry ([.ref mx, .int c1, .int c2]) (n := 3) (Nat.le_of_ble_eq_true rfl)
  rw [lg_entry_eq]
  generalize (lg_sl ([.ref mx, .int c1, .int c2]) ++ List.replicate (3 - (lg_sl ([.ref mx, .int c1, .int c2])).length) Slot.unset).toArray = ls at hl ⊢
  have hl : lv_has ls 3 [(0, .ref mx), (1, .int c1), (2, .int c2)] := hl
  refine lv_iload_n hx hb dX9_parallel_0 rfl (lv_at hl 1 rfl) ?_
  refine vp_callSi (va_Run.run (va_runS (As := [.int c1]) (rest := []) ⟨hx, hb, hml, hown, hts⟩ (c_M_isLeg l dC dI c1) (va_cwS 1 hts gX9_parallel_X9_isLeg rfl rfl rfl (by decide +kernel) ⟨Nat.le_of_ble_eq_true rfl, Nat.le_of_ble_eq_true rfl⟩) ⟨PS_blind, PS_pre (hP.sub (ws' := []) [] rfl) hK hF⟩ rfl rfl hl.1 rfl (lv_room (Nat.le_of_ble_eq_true rfl)) dX9_parallel_1 ⟨Nat.le_of_ble_eq_true rfl, Nat.le_of_ble_eq_true rfl⟩)) (fun r_1 hr_1 => ?_)
  subst hr_1
  refine lv_if_eq (tgt := 14) hx hb dX9_parallel_4 (by decide) (fun c_2 => ?_) (fun c_2 => ?_)
  · skip
    refine lv_iconst (v := (-1)) hx hb dX9_parallel_14 (by decide) ?_
    refine W.widen (k := 2) (n := 12) (Nat.le_of_ble_eq_true rfl) (Nat.le_of_ble_eq_true rfl) ?_
    exact W.iret (v := (-1)) hx hb hr (fun t ht hW => ⟨⟨_, (), rfl, (by simp only [sp_M_parallel, if_pos c_2]), trivial⟩, hS.F ht⟩) hS.2.2 dX9_parallel_15
  · skip
    refine lv_iload_n hx hb dX9_parallel_7 rfl (lv_at hl 2 rfl) ?_
    refine vp_callSi (va_Run.run (va_runS (As := [.int c2]) (rest := []) ⟨hx, hb, hml, hown, hts⟩ (c_M_isLeg l dC dI c2) (va_cwS 1 hts gX9_parallel_X9_isLeg rfl rfl rfl (by decide +kernel) ⟨Nat.le_of_ble_eq_true rfl, Nat.le_of_ble_eq_true rfl⟩) ⟨PS_blind, PS_pre (hP.sub (ws' := []) [] rfl) hK hF⟩ rfl rfl hl.1 rfl (lv_room (Nat.le_of_ble_eq_true rfl)) dX9_parallel_8 ⟨Nat.le_of_ble_eq_true rfl, Nat.le_of_ble_eq_true rfl⟩)) (fun r_3 hr_3 => ?_)
    subst hr_3
    refine lv_if_ne (tgt := 16) hx hb dX9_parallel_11 (by decide) (fun c_4 => ?_) (fun c_4 => ?_)
    · skip
      refine lv_iload_n hx hb dX9_parallel_16 rfl (lv_at hl 1 rfl) ?_
      refine lv_iload_n hx hb dX9_parallel_17 rfl (lv_at hl 2 rfl) ?_
      refine lv_icmp_ne (tgt := 24) hx hb dX9_parallel_18 (by decide) (fun c_5 => ?_) (fun c_5 => ?_)
      · skip
        refine lv_aload_n hx hb dX9_parallel_24 rfl (lv_at hl 0 rfl) ?_
        refine va_get (D := (dC, dI)) (ci := 14) (v := .ref lp) (C := RX9) (T := TX9) (N := 13) hx hb hts (fun _ h9 => List.mem_cons_of_mem _ (List.mem_append_left _ (List.mem_append_left _ (List.mem_append_right _ (h9))))) hown hK hP 0 rfl rfl 6 (by decide) (hts (.fieldLink RX9 34 "ExamHallsModel" "parallels" "Ljava/util/List;") (List.mem_of_getElem? (i := 1) rfl)) (fun _ h9 => h9) rfl dX9_parallel_25 ?_
        refine va_csFi (va_runF (hK.1 4 _ rfl).2 (As := []) (rest := []) ⟨hx, hb, hml, hown, hts⟩ (c_AL_size l dC dI lp 0 d 0) (va_cwF 0 hts gX9_parallel_Jx4a65c_size_8abf5_f56Jx4a65c rfl rfl rfl (Ft.fw hF (RJx4a65c, ⟨"java/util/List", "size", "()I"⟩, yJx4a65c_size_8abf5) (by decide +kernel)) (by decide +kernel) ⟨Nat.le_of_ble_eq_true rfl, Nat.le_of_ble_eq_true rfl⟩) ⟨PS_blind, va_recv hK hP (ci := 4) (q0 := 1) rfl rfl, PS_pre (hP.sub (ws' := [(lp, .inr (4, [.int 0, .ref d, .int 0]))]) [1] rfl) hK hF⟩ rfl rfl hl.1 rfl (lv_room (Nat.le_of_ble_eq_true rfl)) dX9_parallel_28 ⟨Nat.le_of_ble_eq_true rfl, Nat.le_of_ble_eq_true rfl⟩) (fun r_6 hr_6 => ?_)
        subst hr_6
        refine lv_bipush (v := 6) hx hb dX9_parallel_33 (by decide) ?_
        refine lv_icmp_ne (tgt := 41) hx hb dX9_parallel_35 (by decide) (fun _ => ?_) (fun c_7 => absurd c_7 (by decide))
        refine lv_aload_n hx hb dX9_parallel_41 rfl (lv_at hl 0 rfl) ?_
        refine va_get (D := (dC, dI)) (ci := 14) (v := .ref lp) (C := RX9) (T := TX9) (N := 13) hx hb hts (fun _ h9 => List.mem_cons_of_mem _ (List.mem_append_left _ (List.mem_append_left _ (List.mem_append_right _ (h9))))) hown hK hP 0 rfl rfl 6 (by decide) (hts (.fieldLink RX9 34 "ExamHallsModel" "parallels" "Ljava/util/List;") (List.mem_of_getElem? (i := 1) rfl)) (fun _ h9 => h9) rfl dX9_parallel_42 ?_
        refine lv_iconst (v := 2) hx hb dX9_parallel_45 (by decide) ?_
        refine va_newa (atype := .int) (ty := .int) (a0 := (2, (.inl (fun _ => 0)))) hx hb (hts (.arrayClass .int) (List.mem_of_getElem? (i := 2) rfl)) rfl hK hP hD hS hA (fun _ => rfl) (by decide) (by decide) (Nat.le_of_ble_eq_true rfl) (Nat.le_of_ble_eq_true rfl) (Nat.le_of_ble_eq_true rfl) dX9_parallel_46 (fun q_8 k_9 H hK hP hD hS => ?_)
        have hP : va_P (dC, dI) vwCl [(mx, .inr (14, [.ref lc, .ref lr, .ref kn, .ref lt, .ref ml, .ref mm, .ref lp, .ref lb, .ref mq, .int 1, .int 10, .int 0, .int 0])), (lp, .inr (4, [.int 0, .ref d, .int 0])), (q_8, .inl (k_9, 2, .inl (fun _ => 0)))] H := hP
        have hD : va_D A [(mx, .inr (14, [.ref lc, .ref lr, .ref kn, .ref lt, .ref ml, .ref mm, .ref lp, .ref lb, .ref mq, .int 1, .int 10, .int 0, .int 0])), (lp, .inr (4, [.int 0, .ref d, .int 0])), (q_8, .inl (k_9, 2, .inl (fun _ => 0)))] := hD
        have hK : va_K (dC, dI) vwCl [(k_9, .int)] s := hK
        refine W.widen (k := 1) (n := 2) (Nat.le_of_ble_eq_true rfl) (Nat.le_of_ble_eq_true rfl) ?_
        refine lv_dup hx hb dX9_parallel_48 rfl ?_
        refine lv_iconst (v := 0) hx hb dX9_parallel_49 (by decide) ?_
        refine lv_iload_n hx hb dX9_parallel_50 rfl (lv_at hl 1 rfl) ?_
        refine va_iast hx hb hK hP hD hS 2 0 rfl rfl (by unfold vp_in; decide) dX9_parallel_51 (fun H locs hP hD hS => ?_)
        have hP : va_P (dC, dI) vwCl [(mx, .inr (14, [.ref lc, .ref lr, .ref kn, .ref lt, .ref ml, .ref mm, .ref lp, .ref lb, .ref mq, .int 1, .int 10, .int 0, .int 0])), (lp, .inr (4, [.int 0, .ref d, .int 0])), (q_8, .inl (k_9, 2, .inl (upd (fun _ => 0) (0 : Int32).toNatClampNeg c1)))] H := hP
        have hD : va_D A [(mx, .inr (14, [.ref lc, .ref lr, .ref kn, .ref lt, .ref ml, .ref mm, .ref lp, .ref lb, .ref mq, .int 1, .int 10, .int 0, .int 0])), (lp, .inr (4, [.int 0, .ref d, .int 0])), (q_8, .inl (k_9, 2, .inl (upd (fun _ => 0) (0 : Int32).toNatClampNeg c1)))] := hD
        generalize (upd (fun _ => 0) (0 : Int32).toNatClampNeg c1) = a_10 at hP hD
        refine lv_dup hx hb dX9_parallel_52 rfl ?_
        refine lv_iconst (v := 1) hx hb dX9_parallel_53 (by decide) ?_
        refine lv_iload_n hx hb dX9_parallel_54 rfl (lv_at hl 2 rfl) ?_
        refine va_iast hx hb hK hP hD hS 2 0 rfl rfl (by unfold vp_in; decide) dX9_parallel_55 (fun H locs hP hD hS => ?_)
        have hP : va_P (dC, dI) vwCl [(mx, .inr (14, [.ref lc, .ref lr, .ref kn, .ref lt, .ref ml, .ref mm, .ref lp, .ref lb, .ref mq, .int 1, .int 10, .int 0, .int 0])), (lp, .inr (4, [.int 0, .ref d, .int 0])), (q_8, .inl (k_9, 2, .inl (upd a_10 (1 : Int32).toNatClampNeg c2)))] H := hP
        have hD : va_D A [(mx, .inr (14, [.ref lc, .ref lr, .ref kn, .ref lt, .ref ml, .ref mm, .ref lp, .ref lb, .ref mq, .int 1, .int 10, .int 0, .int 0])), (lp, .inr (4, [.int 0, .ref d, .int 0])), (q_8, .inl (k_9, 2, .inl (upd a_10 (1 : Int32).toNatClampNeg c2)))] := hD
        generalize (upd a_10 (1 : Int32).toNatClampNeg c2) = a_11 at hP hD
        have hPc := hP.sub (ws' := [(lp, .inr (4, [.int 0, .ref d, .int 0]))]) [1] rfl
        have hDc := hD.sub (ws' := [(lp, .inr (4, [.int 0, .ref d, .int 0]))]) [1] (by decide) rfl
        have hKc := hK.sub (tys' := []) [] rfl
        have hFc := va_free (wc := [(lp, .inr (4, [.int 0, .ref d, .int 0]))]) hD hS hA [1] rfl
        refine va_callFi (va_runF (hK.1 4 _ rfl).2 (As := [.ref q_8]) (rest := []) ⟨hx, hb, hml, hown, hts⟩ (c_AL_addf l dC dI d tc ad lp 0 q_8 H.size (fun h9 => absurd (hD.1 2 1 _ _ rfl rfl h9) (by decide)) (hP 2 _ rfl).lt) (va_cwF 1 hts gX9_parallel_Jx4a65c_add_9ea2d_f72Jx4a65c rfl rfl rfl (Ft.fw hF (RJx4a65c, ⟨"java/util/List", "add", "(Ljava/lang/Object;)Z"⟩, yJx4a65c_add_9ea2d) (by decide +kernel)) (by decide +kernel) ⟨Nat.le_of_ble_eq_true rfl, Nat.le_of_ble_eq_true rfl⟩) ⟨PE_blind, va_recv hK hP (ci := 4) (q0 := 1) rfl rfl, PE_pre hPc hKc hDc hF hZ hS hFc (any_arr hK hP (q0 := 2) (t0 := 0) rfl rfl (hF.nc "[I" (by decide +kernel)))⟩ rfl rfl hl.1 rfl (lv_room (Nat.le_of_ble_eq_true rfl)) dX9_parallel_56 ⟨Nat.le_of_ble_eq_true rfl, Nat.le_of_ble_eq_true rfl⟩) hS (fun q _ h => hFc q h) hFc (fun r_12 u t H1 locs ht hvm hw hB hz1 hk1 hS => ?_)
        obtain ⟨hm_13, g1_14, kO_15, fa_16, hP1, hK1, hD1⟩ := hB
        rw [ht] at hP1
        have hK1 := va_K.moved hvm.symm hK1
        obtain ⟨hP, hD⟩ := va_join (wr := [(mx, .inr (14, [.ref lc, .ref lr, .ref kn, .ref lt, .ref ml, .ref mm, .ref lp, .ref lb, .ref mq, .int 1, .int 10, .int 0, .int 0])), (q_8, .inl (k_9, 2, .inl a_11))]) (w1 := [(lp, .inr (4, [.int hm_13, .ref g1_14, .int 1])), (g1_14, .inl (kO_15, 10, .inr (.inr (.inr (.inr fa_16)))))]) hP hD [1] [0, 2] rfl rfl (by decide) (by decide) hk1 hFc hP1 hD1
        have hK := hK.app hK1
        generalize H1 = H at hP hS ⊢
        have hP : va_P (dC, dI) vwCl [(mx, .inr (14, [.ref lc, .ref lr, .ref kn, .ref lt, .ref ml, .ref mm, .ref lp, .ref lb, .ref mq, .int 1, .int 10, .int 0, .int 0])), (q_8, .inl (k_9, 2, .inl a_11)), (lp, .inr (4, [.int hm_13, .ref g1_14, .int 1])), (g1_14, .inl (kO_15, 10, .inr (.inr (.inr (.inr fa_16)))))] H := hP
        have hD : va_D A [(mx, .inr (14, [.ref lc, .ref lr, .ref kn, .ref lt, .ref ml, .ref mm, .ref lp, .ref lb, .ref mq, .int 1, .int 10, .int 0, .int 0])), (q_8, .inl (k_9, 2, .inl a_11)), (lp, .inr (4, [.int hm_13, .ref g1_14, .int 1])), (g1_14, .inl (kO_15, 10, .inr (.inr (.inr (.inr fa_16)))))] := hD
        have hK : va_K (dC, dI) vwCl [(k_9, .int), (kO_15, .object "java/lang/Object")] s := hK
        refine W.widen (k := 2) (n := 12) (Nat.le_of_ble_eq_true rfl) (Nat.le_of_ble_eq_true rfl) ?_
        obtain rfl := hw
        refine lv_pop hx hb dX9_parallel_61 rfl ?_
        refine lv_aload_n hx hb dX9_parallel_62 rfl (lv_at hl 0 rfl) ?_
        refine va_get (D := (dC, dI)) (ci := 14) (v := .ref lp) (C := RX9) (T := TX9) (N := 13) hx hb hts (fun _ h9 => List.mem_cons_of_mem _ (List.mem_append_left _ (List.mem_append_left _ (List.mem_append_right _ (h9))))) hown hK hP 0 rfl rfl 6 (by decide) (hts (.fieldLink RX9 34 "ExamHallsModel" "parallels" "Ljava/util/List;") (List.mem_of_getElem? (i := 1) rfl)) (fun _ h9 => h9) rfl dX9_parallel_63 ?_
        refine va_csFi (va_runF (hK.1 4 _ rfl).2 (As := []) (rest := []) ⟨hx, hb, hml, hown, hts⟩ (c_AL_size l dC dI lp hm_13 g1_14 1) (va_cwF 0 hts gX9_parallel_Jx4a65c_size_8abf5_f56Jx4a65c rfl rfl rfl (Ft.fw hF (RJx4a65c, ⟨"java/util/List", "size", "()I"⟩, yJx4a65c_size_8abf5) (by decide +kernel)) (by decide +kernel) ⟨Nat.le_of_ble_eq_true rfl, Nat.le_of_ble_eq_true rfl⟩) ⟨PS_blind, va_recv hK hP (ci := 4) (q0 := 2) rfl rfl, PS_pre (hP.sub (ws' := [(lp, .inr (4, [.int hm_13, .ref g1_14, .int 1]))]) [2] rfl) (hK.sub (tys' := []) [] rfl) hF⟩ rfl rfl hl.1 rfl (lv_room (Nat.le_of_ble_eq_true rfl)) dX9_parallel_66 ⟨Nat.le_of_ble_eq_true rfl, Nat.le_of_ble_eq_true rfl⟩) (fun r_17 hr_17 => ?_)
        subst hr_17
        refine lv_iconst (v := 1) hx hb dX9_parallel_71 (by decide) ?_
        refine lv_isub hx hb dX9_parallel_72 ?_
        refine lv_topi (fun f_18 ef_18 => ?_)
        obtain rfl : f_18 = 0 := ef_18.trans (by decide)
        exact W.iret (v := 0) hx hb hr (fun t ht hW => ⟨⟨_, (), rfl, (by simp only [sp_M_parallel, if_neg c_2, if_neg c_4, if_neg c_5]), trivial⟩, hS.F ht⟩) hS.2.2 dX9_parallel_73
      · skip
        refine lv_bipush (v := (-2)) hx hb dX9_parallel_21 (by decide) ?_
        refine W.widen (k := 2) (n := 12) (Nat.le_of_ble_eq_true rfl) (Nat.le_of_ble_eq_true rfl) ?_
        exact W.iret (v := (-2)) hx hb hr (fun t ht hW => ⟨⟨_, (), rfl, (by simp only [sp_M_parallel, if_neg c_2, if_neg c_4, if_pos c_5]), trivial⟩, hS.F ht⟩) hS.2.2 dX9_parallel_23
    · skip
      refine lv_iconst (v := (-1)) hx hb dX9_parallel_14 (by decide) ?_
      refine W.widen (k := 2) (n := 12) (Nat.le_of_ble_eq_true rfl) (Nat.le_of_ble_eq_true rfl) ?_
      exact W.iret (v := (-1)) hx hb hr (fun t ht hW => ⟨⟨_, (), rfl, (by simp only [sp_M_parallel, if_neg c_2, if_pos c_4]), trivial⟩, hS.F ht⟩) hS.2.2 dX9_parallel_15

set_option maxHeartbeats 4000000 in
set_option maxRecDepth 100000 in
theorem c_Num_init (l : Launch) (dC : Nat → ClassId) (dI : Nat → Nat → Nat) (y : Nat) : Met l yJxd2413_init_da8c8 wsJxd2413_init_da8c8 ({ frames := 1, cells := 0, slots := 0, locals := 12 }) (va_Pc [.ref y] (PS dC dI [] [])) (va_Sv (fun _ => True)) 0 0 (fun _ => False) := by
  refine Met.ofW (cc := cJxd2413_init_da8c8) (maxL := 1) (ret := none) (by decide) rfl ?_
  intro p e s m args below meth c s₁ B hml hv
  obtain ⟨rfl, hP, hK, hF⟩ := hv
  have hx := B.exec
  have hb := B.bytes
  have hr := B.returns
  have hts := atoms_spec (ws := wsJxd2413_init_da8c8) B.pre
  have hown : s.vm.findClass RJxd2413 = some m.cls := findClass_of_methodNamed B.named
  have hlocks := B.notSynchronized
  have hl := lv_entry ([.ref y]) (n := 1) (Nat.le_of_ble_eq_true rfl)
  rw [lg_entry_eq]
  generalize (lg_sl ([.ref y]) ++ List.replicate (1 - (lg_sl ([.ref y])).length) Slot.unset).toArray = ls at hl ⊢
  have hl : lv_has ls 1 [(0, .ref y)] := hl
  refine lv_aload_n hx hb dJxd2413_init_da8c8_0 rfl (lv_at hl 0 rfl) ?_
  refine W.objInit hx hb hown (hts (.methodLink RJxd2413 1 objectInit) (List.mem_of_getElem? (i := 1) rfl)) (hts (.instanceMethod objectInit) (List.mem_of_getElem? (i := 2) rfl)) (hts _ (List.mem_of_getElem? (i := 3) rfl)) rfl (by rw [hml]; exact hl.1) rfl dJxd2413_init_da8c8_1 (Nat.le_of_ble_eq_true rfl) (Nat.le_of_ble_eq_true rfl) ?_
  refine W.eq (g2 := F0 m 4 ls []) rfl ?_
  exact W.vret hx hb hr (fun t ht hW => ⟨rfl, trivial, ht⟩) (fun _ h9 => absurd h9 List.not_mem_nil) dJxd2413_init_da8c8_4

set_option maxHeartbeats 4000000 in
set_option maxRecDepth 100000 in
theorem c_Int_init (l : Launch) (dC : Nat → ClassId) (dI : Nat → Nat → Nat) (y : Nat) (c1 : Int32) (sz : Nat) : Met l yJ6_init_d00df wsJ6_init_d00df ({ frames := 2, cells := 0, slots := 0, locals := 32 }) (va_Pc [.ref y, .int c1] (PQ dC dI sz [(y, .inr (2, [.int 0]))] [])) (va_Qv (fun _ : Unit => True) (fun _ t => va_P (dC, dI) vwCl [(y, .inr (2, [.int c1]))] t.heap ∧ va_K (dC, dI) vwCl [] t ∧ va_D (va_A [(y, .inr (2, [.int 0]))] sz) [(y, .inr (2, [.int c1]))]) (va_A [(y, .inr (2, [.int 0]))] sz)) 0 0 (va_A [(y, .inr (2, [.int 0]))] sz) := by
  refine Met.ofW (cc := cJ6_init_d00df) (maxL := 2) (ret := none) (by decide) rfl ?_
  intro p e s m args below meth c s₁ B hml hv
  obtain ⟨rfl, hsz, hP, hK, hD0, hF⟩ := hv
  have hx := B.exec
  have hb := B.bytes
  have hr := B.returns
  have hts := atoms_spec (ws := wsJ6_init_d00df) B.pre
  have hown : s.vm.findClass RJ6 = some m.cls := findClass_of_methodNamed B.named
  have hlocks := B.notSynchronized
  have hin : meth.name = "<init>" := (name_of_methodNamed B.named B.method).1
  subst hsz
  have hD := hD0.self (sz := s.heap.size)
  generalize hAe : va_A [(y, .inr (2, [.int 0]))] s.heap.size = A at hD ⊢
  have hA : ∀ q : Nat, s.heap.size ≤ q → A q := fun q h => by rw [← hAe]; exact Or.inr h
  have hS : va_S A s.heap s.heap [] := va_S.rf
  have hl := lv_entry ([.ref y, .int c1]) (n := 2) (Nat.le_of_ble_eq_true rfl)
  rw [lg_entry_eq]
  generalize (lg_sl ([.ref y, .int c1]) ++ List.replicate (2 - (lg_sl ([.ref y, .int c1])).length) Slot.unset).toArray = ls at hl ⊢
  have hl : lv_has ls 2 [(0, .ref y), (1, .int c1)] := hl
  refine lv_aload_n hx hb dJ6_init_d00df_0 rfl (lv_at hl 0 rfl) ?_
  refine va_csv (va_Run.run (va_runI (As := []) (rest := []) ⟨hx, hb, hml, hown, hts⟩ (c_Num_init l dC dI y) (cwI 0 hts gJ6_init_d00df_Jxd2413_init_da8c8 rfl rfl rfl (hts (.initialized RJxd2413) (List.mem_of_getElem? (i := 4) rfl)) (hts (.methodLink RJ6 202 yJxd2413_init_da8c8) (List.mem_of_getElem? (i := 2) rfl)) (hts (.instanceMethod yJxd2413_init_da8c8) (List.mem_of_getElem? (i := 3) rfl)) rfl (by decide +kernel) ⟨Nat.le_of_ble_eq_true rfl, Nat.le_of_ble_eq_true rfl⟩) ⟨PS_blind, PS_pre (hP.sub (ws' := []) [] rfl) hK hF⟩ rfl rfl hl.1 rfl (lv_room (Nat.le_of_ble_eq_true rfl)) dJ6_init_d00df_1 ⟨Nat.le_of_ble_eq_true rfl, Nat.le_of_ble_eq_true rfl⟩)) (fun _ => ?_)
  refine lv_aload_n hx hb dJ6_init_d00df_4 rfl (lv_at hl 0 rfl) ?_
  refine lv_iload_n hx hb dJ6_init_d00df_5 rfl (lv_at hl 1 rfl) ?_
  refine va_putF (D := (dC, dI)) (ci := 2) (v := .int c1) (ty := .int) (C := RJ6) (T := TJ6) (N := 1) hx hb hts (fun _ h9 => List.mem_cons_of_mem _ (List.mem_append_right _ (h9))) tyJ6 tyJ6_ok nmJ6 hown hK hP hD hS 0 rfl rfl 0 (by decide) (hts (.fieldLink RJ6 205 "java/lang/Integer" "value" "I") (List.mem_of_getElem? (i := 1) rfl)) (fun _ h9 => h9) rfl hin rfl (by decide +kernel) rfl rfl (Nat.le_of_ble_eq_true rfl) dJ6_init_d00df_6 (fun H locs hP hD hS => ?_)
  have hP : va_P (dC, dI) vwCl [(y, .inr (2, [.int c1]))] H := hP
  have hD : va_D A [(y, .inr (2, [.int c1]))] := hD
  have hP9 := hP.sub (ws' := [(y, .inr (2, [.int c1]))]) [0] rfl
  have hD9 := hD.sub (ws' := [(y, .inr (2, [.int c1]))]) [0] (by decide) rfl
  have hK9 := hK.sub (tys' := []) [] rfl
  exact W.vret hx hb hr (fun t ht hW => ⟨⟨(), rfl, trivial, by rw [ht]; exact hP9, va_K.moved hW.alike hK9, hD9⟩, hS.F ht⟩) hS.2.2 dJ6_init_d00df_9

set_option maxHeartbeats 4000000 in
set_option maxRecDepth 100000 in
theorem c_valueOf (l : Launch) (dC : Nat → ClassId) (dI : Nat → Nat → Nat) (d : Nat) (tc : Nat) (ad : Nat → Nat) (c1 : Int32) (sz : Nat) : Met l yJ6_valueOf_2dffe wsJ6_valueOf_2dffe ({ frames := 3, cells := 1, slots := 1, locals := 53 }) (va_Pc [.int c1] (PZ dC dI d tc ad sz [] [])) (va_Qr (fun _ : Unit => True) (fun _ ra t => va_P (dC, dI) vwCl [] t.heap ∧ va_K (dC, dI) vwCl [] t ∧ va_D (va_A [] sz) [] ∧ va_Any "java/lang/Object" t t.heap ra ∧ (sz ≤ ra ∨ ∃ k : Nat, k < 256 ∧ ra = ad k) ∧ ra < t.heap.size) (va_A [] sz)) 1 1 (va_A [] sz) := by
  refine Met.ofW (cc := cJ6_valueOf_2dffe) (maxL := 1) (ret := (some (.object "java/lang/Integer"))) (by decide) rfl ?_
  intro p e s m args below meth c s₁ B hml hv
  obtain ⟨rfl, hsz, hP, hK, hD0, hF, hZ⟩ := hv
  have hx := B.exec
  have hb := B.bytes
  have hr := B.returns
  have hts := atoms_spec (ws := wsJ6_valueOf_2dffe) B.pre
  have hown : s.vm.findClass RJ6 = some m.cls := findClass_of_methodNamed B.named
  have hlocks := B.notSynchronized
  subst hsz
  have hD := hD0.self (sz := s.heap.size)
  generalize hAe : va_A [] s.heap.size = A at hD hZ ⊢
  have hA : ∀ q : Nat, s.heap.size ≤ q → A q := fun q h => by rw [← hAe]; exact Or.inr h
  have hS : va_S A s.heap s.heap [] := va_S.rf
  have hl := lv_entry ([.int c1]) (n := 1) (Nat.le_of_ble_eq_true rfl)
  rw [lg_entry_eq]
  generalize (lg_sl ([.int c1]) ++ List.replicate (1 - (lg_sl ([.int c1])).length) Slot.unset).toArray = ls at hl ⊢
  have hl : lv_has ls 1 [(0, .int c1)] := hl
  refine lv_iload_n hx hb dJ6_valueOf_2dffe_0 rfl (lv_at hl 0 rfl) ?_
  refine lv_bipush (v := (-128)) hx hb dJ6_valueOf_2dffe_1 (by decide) ?_
  refine lv_icmp_lt (tgt := 23) hx hb dJ6_valueOf_2dffe_3 (by decide) (fun c_1 => ?_) (fun c_1 => ?_)
  · skip
    refine va_new (ci := 2) (fs := [.int 0]) (C := RJ6) (T := TJ6) (N := 1) hx hb hts (fun _ h9 => List.mem_cons_of_mem _ (List.mem_append_right _ (h9))) tyJ6 tyJ6_ok hown (hts (.classLink RJ6 1 RJ6) (List.mem_of_getElem? (i := 3) rfl)) (hts (.instantiable RJ6 1) (List.mem_of_getElem? (i := 4) rfl)) (hts (.initialized RJ6) (List.mem_of_getElem? (i := 5) rfl)) hK hP hD hS hA rfl dfJ6 (Nat.le_of_ble_eq_true rfl) (Nat.le_of_ble_eq_true rfl) dJ6_valueOf_2dffe_23 (fun q_2 H hP hD hS => ?_)
    have hP : va_P (dC, dI) vwCl [(q_2, .inr (2, [.int 0]))] H := hP
    have hD : va_D A [(q_2, .inr (2, [.int 0]))] := hD
    refine W.widen (k := 1) (n := 1) (Nat.le_of_ble_eq_true rfl) (Nat.le_of_ble_eq_true rfl) ?_
    refine lv_dup hx hb dJ6_valueOf_2dffe_26 rfl ?_
    refine lv_iload_n hx hb dJ6_valueOf_2dffe_27 rfl (lv_at hl 0 rfl) ?_
    have hPc := hP.sub (ws' := [(q_2, .inr (2, [.int 0]))]) [0] rfl
    have hDc := hD.sub (ws' := [(q_2, .inr (2, [.int 0]))]) [0] (by decide) rfl
    have hKc := hK.sub (tys' := []) [] rfl
    have hFc := va_free (wc := [(q_2, .inr (2, [.int 0]))]) hD hS hA [0] rfl
    refine va_callv (va_runI (As := [.int c1]) (rest := [.ref q_2]) ⟨hx, hb, hml, hown, hts⟩ (c_Int_init l dC dI q_2 c1 H.size) (cwI 1 hts gJ6_valueOf_2dffe_J6_init_d00df rfl rfl rfl (hts (.initialized RJ6) (List.mem_of_getElem? (i := 5) rfl)) (hts (.methodLink RJ6 199 yJ6_init_d00df) (List.mem_of_getElem? (i := 6) rfl)) (hts (.instanceMethod yJ6_init_d00df) (List.mem_of_getElem? (i := 7) rfl)) rfl (by decide +kernel) ⟨Nat.le_of_ble_eq_true rfl, Nat.le_of_ble_eq_true rfl⟩) ⟨PQ_blind, PQ_pre hPc hKc hDc hF⟩ rfl rfl hl.1 rfl (lv_room (Nat.le_of_ble_eq_true rfl)) dJ6_valueOf_2dffe_28 ⟨Nat.le_of_ble_eq_true rfl, Nat.le_of_ble_eq_true rfl⟩) hS (fun q _ h => hFc q h) hFc (fun u t H1 locs ht hvm hw hB hz1 hk1 hS => ?_)
    obtain ⟨hP1, hK1, hD1⟩ := hB
    rw [ht] at hP1
    have hK1 := va_K.moved hvm.symm hK1
    obtain ⟨hP, hD⟩ := va_join (wr := []) (w1 := [(q_2, .inr (2, [.int c1]))]) hP hD [0] [] rfl rfl (by decide) (by decide) hk1 hFc hP1 hD1
    have hK := hK.app hK1
    generalize H1 = H at hP hS ⊢
    have hP : va_P (dC, dI) vwCl [(q_2, .inr (2, [.int c1]))] H := hP
    have hD : va_D A [(q_2, .inr (2, [.int c1]))] := hD
    have hK : va_K (dC, dI) vwCl [] s := hK
    refine W.widen (k := 1) (n := 1) (Nat.le_of_ble_eq_true rfl) (Nat.le_of_ble_eq_true rfl) ?_
    have hE9 := any_obj hF hK hP (ci := 2) (q0 := 0) rfl rfl (by decide +kernel)
    have hl9 := (hP 0 _ rfl).lt
    have hl8 : s.heap.size ≤ q_2 := by
      rcases (by rw [hAe]; exact hD.2 0 _ rfl : va_A [] s.heap.size q_2) with ⟨k9, e9, h9⟩ | h9
      · simp at h9
      · exact h9
    have hP9 := hP.sub (ws' := []) [] rfl
    have hD9 := hD.sub (ws' := []) [] (by decide) rfl
    have hK9 := hK.sub (tys' := []) [] rfl
    exact W.aret (v := .ref q_2) hx hb hr (Or.inl ⟨_, rfl⟩) (Or.inr ⟨_, rfl⟩) (fun t ht hW => ⟨⟨(), _, rfl, trivial, by rw [ht]; exact hP9, va_K.moved hW.alike hK9, hD9, (by rw [ht]; exact any_moved hW.alike hE9), Or.inl hl8, (by rw [ht]; exact hl9)⟩, hS.F ht⟩) hS.2.2 dJ6_valueOf_2dffe_31
  · skip
    refine lv_iload_n hx hb dJ6_valueOf_2dffe_6 rfl (lv_at hl 0 rfl) ?_
    refine va_gets hx hb hZ.2.2.1 hS hown (hts (.fieldLink RJ6 191 "java/lang/Integer$IntegerCache" "high" "I") (List.mem_of_getElem? (i := 1) rfl)) (fun _ h9 => h9) dJ6_valueOf_2dffe_7 ?_
    refine lv_icmp_gt (tgt := 23) hx hb dJ6_valueOf_2dffe_10 (by decide) (fun c_4 => ?_) (fun c_4 => ?_)
    · skip
      refine va_new (ci := 2) (fs := [.int 0]) (C := RJ6) (T := TJ6) (N := 1) hx hb hts (fun _ h9 => List.mem_cons_of_mem _ (List.mem_append_right _ (h9))) tyJ6 tyJ6_ok hown (hts (.classLink RJ6 1 RJ6) (List.mem_of_getElem? (i := 3) rfl)) (hts (.instantiable RJ6 1) (List.mem_of_getElem? (i := 4) rfl)) (hts (.initialized RJ6) (List.mem_of_getElem? (i := 5) rfl)) hK hP hD hS hA rfl dfJ6 (Nat.le_of_ble_eq_true rfl) (Nat.le_of_ble_eq_true rfl) dJ6_valueOf_2dffe_23 (fun q_5 H hP hD hS => ?_)
      have hP : va_P (dC, dI) vwCl [(q_5, .inr (2, [.int 0]))] H := hP
      have hD : va_D A [(q_5, .inr (2, [.int 0]))] := hD
      refine W.widen (k := 1) (n := 1) (Nat.le_of_ble_eq_true rfl) (Nat.le_of_ble_eq_true rfl) ?_
      refine lv_dup hx hb dJ6_valueOf_2dffe_26 rfl ?_
      refine lv_iload_n hx hb dJ6_valueOf_2dffe_27 rfl (lv_at hl 0 rfl) ?_
      have hPc := hP.sub (ws' := [(q_5, .inr (2, [.int 0]))]) [0] rfl
      have hDc := hD.sub (ws' := [(q_5, .inr (2, [.int 0]))]) [0] (by decide) rfl
      have hKc := hK.sub (tys' := []) [] rfl
      have hFc := va_free (wc := [(q_5, .inr (2, [.int 0]))]) hD hS hA [0] rfl
      refine va_callv (va_runI (As := [.int c1]) (rest := [.ref q_5]) ⟨hx, hb, hml, hown, hts⟩ (c_Int_init l dC dI q_5 c1 H.size) (cwI 1 hts gJ6_valueOf_2dffe_J6_init_d00df rfl rfl rfl (hts (.initialized RJ6) (List.mem_of_getElem? (i := 5) rfl)) (hts (.methodLink RJ6 199 yJ6_init_d00df) (List.mem_of_getElem? (i := 6) rfl)) (hts (.instanceMethod yJ6_init_d00df) (List.mem_of_getElem? (i := 7) rfl)) rfl (by decide +kernel) ⟨Nat.le_of_ble_eq_true rfl, Nat.le_of_ble_eq_true rfl⟩) ⟨PQ_blind, PQ_pre hPc hKc hDc hF⟩ rfl rfl hl.1 rfl (lv_room (Nat.le_of_ble_eq_true rfl)) dJ6_valueOf_2dffe_28 ⟨Nat.le_of_ble_eq_true rfl, Nat.le_of_ble_eq_true rfl⟩) hS (fun q _ h => hFc q h) hFc (fun u t H1 locs ht hvm hw hB hz1 hk1 hS => ?_)
      obtain ⟨hP1, hK1, hD1⟩ := hB
      rw [ht] at hP1
      have hK1 := va_K.moved hvm.symm hK1
      obtain ⟨hP, hD⟩ := va_join (wr := []) (w1 := [(q_5, .inr (2, [.int c1]))]) hP hD [0] [] rfl rfl (by decide) (by decide) hk1 hFc hP1 hD1
      have hK := hK.app hK1
      generalize H1 = H at hP hS ⊢
      have hP : va_P (dC, dI) vwCl [(q_5, .inr (2, [.int c1]))] H := hP
      have hD : va_D A [(q_5, .inr (2, [.int c1]))] := hD
      have hK : va_K (dC, dI) vwCl [] s := hK
      refine W.widen (k := 1) (n := 1) (Nat.le_of_ble_eq_true rfl) (Nat.le_of_ble_eq_true rfl) ?_
      have hE9 := any_obj hF hK hP (ci := 2) (q0 := 0) rfl rfl (by decide +kernel)
      have hl9 := (hP 0 _ rfl).lt
      have hl8 : s.heap.size ≤ q_5 := by
        rcases (by rw [hAe]; exact hD.2 0 _ rfl : va_A [] s.heap.size q_5) with ⟨k9, e9, h9⟩ | h9
        · simp at h9
        · exact h9
      have hP9 := hP.sub (ws' := []) [] rfl
      have hD9 := hD.sub (ws' := []) [] (by decide) rfl
      have hK9 := hK.sub (tys' := []) [] rfl
      exact W.aret (v := .ref q_5) hx hb hr (Or.inl ⟨_, rfl⟩) (Or.inr ⟨_, rfl⟩) (fun t ht hW => ⟨⟨(), _, rfl, trivial, by rw [ht]; exact hP9, va_K.moved hW.alike hK9, hD9, (by rw [ht]; exact any_moved hW.alike hE9), Or.inl hl8, (by rw [ht]; exact hl9)⟩, hS.F ht⟩) hS.2.2 dJ6_valueOf_2dffe_31
    · skip
      refine va_gets hx hb hZ.2.2.2.1 hS hown (hts (.fieldLink RJ6 195 "java/lang/Integer$IntegerCache" "cache" "[Ljava/lang/Integer;") (List.mem_of_getElem? (i := 2) rfl)) (fun _ h9 => h9) dJ6_valueOf_2dffe_13 ?_
      refine lv_iload_n hx hb dJ6_valueOf_2dffe_16 rfl (lv_at hl 0 rfl) ?_
      refine lv_sipush (v := 128) hx hb dJ6_valueOf_2dffe_17 (by decide) ?_
      refine lv_iadd hx hb dJ6_valueOf_2dffe_20 ?_
      obtain ⟨j, hj, ej, -⟩ := bx_small c_1 c_4
      refine vb_tq hx hb hZ.2.2.2.2.1 hS (by rw [ej]; exact vp_in_nI hj (by decide)) (v := .ref (ad j)) (by rw [ej, nI_clamp (by omega)]) dJ6_valueOf_2dffe_21 ?_
      refine W.widen (k := 1) (n := 1) (Nat.le_of_ble_eq_true rfl) (Nat.le_of_ble_eq_true rfl) ?_
      have hO9 := va_Orecv (hZ.2.2.2.2.2.1 j hj) hS
      have hE9 := any_recv (hK.1 2 _ rfl).2 (hF.nc "java/lang/Integer" (by decide +kernel)) hO9
      have hl9 : ad j < s.heap.size := by obtain ⟨cell, h1, -⟩ := hO9; exact (Array.getElem?_eq_some_iff.mp h1).1
      have hP9 := hP.sub (ws' := []) [] rfl
      have hD9 := hD.sub (ws' := []) [] (by decide) rfl
      have hK9 := hK.sub (tys' := []) [] rfl
      exact W.aret (v := .ref (ad j)) hx hb hr (Or.inl ⟨_, rfl⟩) (Or.inr ⟨_, rfl⟩) (fun t ht hW => ⟨⟨(), _, rfl, trivial, by rw [ht]; exact hP9, va_K.moved hW.alike hK9, hD9, (by rw [ht]; exact any_moved hW.alike hE9), Or.inr ⟨j, hj, rfl⟩, (by rw [ht]; exact hl9)⟩, hS.F ht⟩) hS.2.2 dJ6_valueOf_2dffe_22

def sp_M_feed (n : Int32) : Int32 := if n < 1 then -2 else if n ≤ 8 then (if 0 + n ≤ 250 then n else -4) else -2
theorem feed_cases {n : Int32} (h1 : ¬ n < 1) (h2 : n ≤ 8) : n = 1 ∨ n = 2 ∨ n = 3 ∨ n = 4 ∨ n = 5 ∨ n = 6 ∨ n = 7 ∨ n = 8 := by
  obtain ⟨j, hj, rfl⟩ := nI_of (x := n) (fun q => h1 (Int32.lt_trans q (by decide)))
  have h3 : j ≤ 8 := Nat.le_of_not_lt (fun q => absurd h2 (show ¬ nI j ≤ nI 8 from nI_ge q hj))
  match j, h3 with
  | 0, _ => exact absurd (by decide) h1
  | 1, _ => exact Or.inl rfl
  | 2, _ => exact Or.inr (Or.inl rfl)
  | 3, _ => exact Or.inr (Or.inr (Or.inl rfl))
  | 4, _ => exact Or.inr (Or.inr (Or.inr (Or.inl rfl)))
  | 5, _ => exact Or.inr (Or.inr (Or.inr (Or.inr (Or.inl rfl))))
  | 6, _ => exact Or.inr (Or.inr (Or.inr (Or.inr (Or.inr (Or.inl rfl)))))
  | 7, _ => exact Or.inr (Or.inr (Or.inr (Or.inr (Or.inr (Or.inr (Or.inl rfl))))))
  | 8, _ => exact Or.inr (Or.inr (Or.inr (Or.inr (Or.inr (Or.inr (Or.inr rfl))))))
  | j + 9, h => omega

set_option maxHeartbeats 4000000 in
set_option maxRecDepth 100000 in
theorem c_M_feed (l : Launch) (dC : Nat → ClassId) (dI : Nat → Nat → Nat) (d : Nat) (tc : Nat) (ad : Nat → Nat) (mx : Nat) (lc : Nat) (lr : Nat) (kn : Nat) (lt : Nat) (ml : Nat) (mm : Nat) (lp : Nat) (lb : Nat) (mq : Nat) (c1 : Int64) (c2 : Int32) (sz : Nat) : Met l yX9_feed wsX9_feed ({ frames := 5, cells := 9, slots := 18, locals := 101 }) (va_Pc [.ref mx, .long c1, .int c2] (PZ dC dI d tc ad sz [(mx, .inr (14, [.ref lc, .ref lr, .ref kn, .ref lt, .ref ml, .ref mm, .ref lp, .ref lb, .ref mq, .int 1, .int 10, .int 0, .int 0])), (lt, .inr (4, [.int 0, .ref d, .int 0]))] [])) (va_Qi (fun r (_ : Unit) => r = sp_M_feed c2) (fun _ _ => True) (va_A [(mx, .inr (14, [.ref lc, .ref lr, .ref kn, .ref lt, .ref ml, .ref mm, .ref lp, .ref lb, .ref mq, .int 1, .int 10, .int 0, .int 0])), (lt, .inr (4, [.int 0, .ref d, .int 0]))] sz)) 9 18 (va_A [(mx, .inr (14, [.ref lc, .ref lr, .ref kn, .ref lt, .ref ml, .ref mm, .ref lp, .ref lb, .ref mq, .int 1, .int 10, .int 0, .int 0])), (lt, .inr (4, [.int 0, .ref d, .int 0]))] sz) := by
  refine Met.ofW (cc := cX9_feed) (maxL := 5) (ret := (some .int)) (by decide) rfl ?_
  intro p e s m args below meth c s₁ B hml hv
  obtain ⟨rfl, hsz, hP, hK, hD0, hF, hZ⟩ := hv
  have hx := B.exec
  have hb := B.bytes
  have hr := B.returns
  have hts := atoms_spec (ws := wsX9_feed) B.pre
  have hown : s.vm.findClass RX9 = some m.cls := findClass_of_methodNamed B.named
  have hlocks := B.notSynchronized
  subst hsz
  have hD := hD0.self (sz := s.heap.size)
  generalize hAe : va_A [(mx, .inr (14, [.ref lc, .ref lr, .ref kn, .ref lt, .ref ml, .ref mm, .ref lp, .ref lb, .ref mq, .int 1, .int 10, .int 0, .int 0])), (lt, .inr (4, [.int 0, .ref d, .int 0]))] s.heap.size = A at hD hZ ⊢
  have hA : ∀ q : Nat, s.heap.size ≤ q → A q := fun q h => by rw [← hAe]; exact Or.inr h
  have hS : va_S A s.heap s.heap [] := va_S.rf
  have hl := lv_entry ([.ref mx, .long c1, .int c2]) (n := 5) (Nat.le_of_ble_eq_true rfl)
  rw [lg_entry_eq]
  generalize (lg_sl ([.ref mx, .long c1, .int c2]) ++ List.replicate (5 - (lg_sl ([.ref mx, .long c1, .int c2])).length) Slot.unset).toArray = ls at hl ⊢
  have hl : lv_has ls 5 [(0, .ref mx), (1, .long c1), (3, .int c2)] := hl
  refine lv_iload_n hx hb dX9_feed_0 rfl (lv_at hl 2 rfl) ?_
  refine lv_iconst (v := 1) hx hb dX9_feed_1 (by decide) ?_
  refine lv_icmp_lt (tgt := 11) hx hb dX9_feed_2 (by decide) (fun c_1 => ?_) (fun c_1 => ?_)
  · skip
    refine lv_bipush (v := (-2)) hx hb dX9_feed_11 (by decide) ?_
    refine W.widen (k := 9) (n := 18) (Nat.le_of_ble_eq_true rfl) (Nat.le_of_ble_eq_true rfl) ?_
    exact W.iret (v := (-2)) hx hb hr (fun t ht hW => ⟨⟨_, (), rfl, (by simp only [sp_M_feed, if_pos c_1]), trivial⟩, hS.F ht⟩) hS.2.2 dX9_feed_13
  · skip
    refine lv_iload_n hx hb dX9_feed_5 rfl (lv_at hl 2 rfl) ?_
    refine lv_bipush (v := 8) hx hb dX9_feed_6 (by decide) ?_
    refine lv_icmp_le (tgt := 14) hx hb dX9_feed_8 (by decide) (fun c_2 => ?_) (fun c_2 => ?_)
    · skip
      refine lv_aload_n hx hb dX9_feed_14 rfl (lv_at hl 0 rfl) ?_
      refine va_get (D := (dC, dI)) (ci := 14) (v := .ref lt) (C := RX9) (T := TX9) (N := 13) hx hb hts (fun _ h9 => List.mem_cons_of_mem _ (List.mem_append_left _ (List.mem_append_left _ (List.mem_append_left _ (List.mem_append_right _ (h9)))))) hown hK hP 0 rfl rfl 3 (by decide) (hts (.fieldLink RX9 24 "ExamHallsModel" "tape" "Ljava/util/List;") (List.mem_of_getElem? (i := 1) rfl)) (fun _ h9 => h9) rfl dX9_feed_15 ?_
      refine va_csFi (va_runF (hK.1 4 _ rfl).2 (As := []) (rest := []) ⟨hx, hb, hml, hown, hts⟩ (c_AL_size l dC dI lt 0 d 0) (va_cwF 0 hts gX9_feed_Jx4a65c_size_8abf5_f56Jx4a65c rfl rfl rfl (Ft.fw hF (RJx4a65c, ⟨"java/util/List", "size", "()I"⟩, yJx4a65c_size_8abf5) (by decide +kernel)) (by decide +kernel) ⟨Nat.le_of_ble_eq_true rfl, Nat.le_of_ble_eq_true rfl⟩) ⟨PS_blind, va_recv hK hP (ci := 4) (q0 := 1) rfl rfl, PS_pre (hP.sub (ws' := [(lt, .inr (4, [.int 0, .ref d, .int 0]))]) [1] rfl) hK hF⟩ rfl rfl hl.1 rfl (lv_room (Nat.le_of_ble_eq_true rfl)) dX9_feed_18 ⟨Nat.le_of_ble_eq_true rfl, Nat.le_of_ble_eq_true rfl⟩) (fun r_3 hr_3 => ?_)
      subst hr_3
      refine lv_iload_n hx hb dX9_feed_23 rfl (lv_at hl 2 rfl) ?_
      refine lv_iadd hx hb dX9_feed_24 ?_
      refine lv_sipush (v := 250) hx hb dX9_feed_25 (by decide) ?_
      refine lv_icmp_le (tgt := 34) hx hb dX9_feed_28 (by decide) (fun c_4 => ?_) (fun c_4 => ?_)
      · skip
        refine lv_iload_n hx hb dX9_feed_34 rfl (lv_at hl 2 rfl) ?_
        refine lv_iconst (v := 1) hx hb dX9_feed_35 (by decide) ?_
        refine lv_isub hx hb dX9_feed_36 ?_
        refine lv_istore (lv' := [(4, .int (c2 - 1)), (0, .ref mx), (1, .long c1), (3, .int c2)]) hx hb dX9_feed_37 hl (by decide) rfl (fun ls hl => ?_)
        rcases feed_cases c_1 c_2 with rfl | rfl | rfl | rfl | rfl | rfl | rfl | rfl
        · have hl : lv_has ls 5 [(4, .int (1 - 1)), (0, .ref mx), (1, .long c1), (3, .int 1)] := hl
          have e9 : (1 : Int32) - 1 = 0 := by decide
          rw [e9] at hl
          refine lv_iload hx hb dX9_feed_39 (lv_at hl 0 rfl) ?_
          refine lv_if_lt (tgt := 75) hx hb dX9_feed_41 (by decide) (fun c_5 => absurd c_5 (by decide)) (fun _ => ?_)
          refine lv_aload_n hx hb dX9_feed_44 rfl (lv_at hl 1 rfl) ?_
          refine va_get (D := (dC, dI)) (ci := 14) (v := .ref lt) (C := RX9) (T := TX9) (N := 13) hx hb hts (fun _ h9 => List.mem_cons_of_mem _ (List.mem_append_left _ (List.mem_append_left _ (List.mem_append_left _ (List.mem_append_right _ (h9)))))) hown hK hP 0 rfl rfl 3 (by decide) (hts (.fieldLink RX9 24 "ExamHallsModel" "tape" "Ljava/util/List;") (List.mem_of_getElem? (i := 1) rfl)) (fun _ h9 => h9) rfl dX9_feed_45 ?_
          refine lv_lload_n hx hb dX9_feed_48 rfl (lv_at hl 2 rfl) ?_
          refine lv_bipush (v := 8) hx hb dX9_feed_49 (by decide) ?_
          refine lv_iload hx hb dX9_feed_51 (lv_at hl 0 rfl) ?_
          refine lv_imul hx hb dX9_feed_53 ?_
          refine lv_topi (fun f_6 ef_6 => ?_)
          obtain rfl : f_6 = 0 := ef_6.trans (by decide)
          refine lv_lshr hx hb dX9_feed_54 rfl ?_
          refine lv_ldc2 (v := 255) hx hb hown (hts (.constantLong RX9 76 (255)) (List.mem_of_getElem? (i := 2) rfl)) dX9_feed_55 ?_
          refine lv_land hx hb dX9_feed_58 ?_
          refine lv_l2i hx hb dX9_feed_59 rfl ?_
          have hPc := hP.sub (ws' := []) [] rfl
          have hDc := hD.sub (ws' := []) [] (by decide) rfl
          have hKc := hK.sub (tys' := []) [] rfl
          have hFc := va_free (wc := []) hD hS hA [] rfl
          refine va_callr (va_runS (As := [.int (((c1 >>> ((0 : Int32).toInt64 &&& 63)) &&& 255).toInt32)]) (rest := [.ref lt]) ⟨hx, hb, hml, hown, hts⟩ (c_valueOf l dC dI d tc ad (((c1 >>> ((0 : Int32).toInt64 &&& 63)) &&& 255).toInt32) s.heap.size) (va_cwS 1 hts gX9_feed_J6_valueOf_2dffe rfl rfl rfl (by decide +kernel) ⟨Nat.le_of_ble_eq_true rfl, Nat.le_of_ble_eq_true rfl⟩) ⟨PZ_blind, PZ_pre hPc hKc hDc hF hZ hS hFc⟩ rfl rfl hl.1 rfl (lv_room (Nat.le_of_ble_eq_true rfl)) dX9_feed_60 ⟨Nat.le_of_ble_eq_true rfl, Nat.le_of_ble_eq_true rfl⟩) hS (fun q _ h => hFc q h) hFc (fun u r_7 t H1 locs ht hvm hw hB hz1 hk1 hS => ?_)
          obtain ⟨hP1, hK1, hD1, hx_8, hx_9, hx_10⟩ := hB
          rw [ht] at hP1
          have hK1 := va_K.moved hvm.symm hK1
          rw [ht] at hx_8 hx_10
          have hEr_7 := any_moved hvm.symm hx_8
          have ner_7_lt : r_7 ≠ lt := by
            rcases hx_9 with h9 | ⟨k9, hk9, e9⟩
            · intro e9; have h8 := (hP 1 _ rfl).lt; rw [← e9] at h8; exact absurd h9 (Nat.not_le.mpr h8)
            · intro e8; obtain ⟨_, _, _, _, h7⟩ := hZ.2.2.2.2.2.1 k9 hk9; exact h7 (by rw [← e9, e8]; exact hD.2 1 _ rfl)
          obtain ⟨hP, hD⟩ := va_join (wr := [(mx, .inr (14, [.ref lc, .ref lr, .ref kn, .ref lt, .ref ml, .ref mm, .ref lp, .ref lb, .ref mq, .int 1, .int 10, .int 0, .int 0])), (lt, .inr (4, [.int 0, .ref d, .int 0]))]) (w1 := []) hP hD [] [0, 1] rfl rfl (by decide) (by decide) hk1 hFc hP1 hD1
          have hK := hK.app hK1
          generalize H1 = H at hP hS hEr_7 hx_10 ⊢
          have hP : va_P (dC, dI) vwCl [(mx, .inr (14, [.ref lc, .ref lr, .ref kn, .ref lt, .ref ml, .ref mm, .ref lp, .ref lb, .ref mq, .int 1, .int 10, .int 0, .int 0])), (lt, .inr (4, [.int 0, .ref d, .int 0]))] H := hP
          have hD : va_D A [(mx, .inr (14, [.ref lc, .ref lr, .ref kn, .ref lt, .ref ml, .ref mm, .ref lp, .ref lb, .ref mq, .int 1, .int 10, .int 0, .int 0])), (lt, .inr (4, [.int 0, .ref d, .int 0]))] := hD
          have hK : va_K (dC, dI) vwCl [] s := hK
          refine W.widen (k := 1) (n := 1) (Nat.le_of_ble_eq_true rfl) (Nat.le_of_ble_eq_true rfl) ?_
          have hPc := hP.sub (ws' := [(lt, .inr (4, [.int 0, .ref d, .int 0]))]) [1] rfl
          have hDc := hD.sub (ws' := [(lt, .inr (4, [.int 0, .ref d, .int 0]))]) [1] (by decide) rfl
          have hKc := hK.sub (tys' := []) [] rfl
          have hFc := va_free (wc := [(lt, .inr (4, [.int 0, .ref d, .int 0]))]) hD hS hA [1] rfl
          refine va_callFi (va_runF (hK.1 4 _ rfl).2 (As := [.ref r_7]) (rest := []) ⟨hx, hb, hml, hown, hts⟩ (c_AL_addf l dC dI d tc ad lt 0 r_7 H.size ner_7_lt hx_10) (va_cwF 1 hts gX9_feed_Jx4a65c_add_9ea2d_f72Jx4a65c rfl rfl rfl (Ft.fw hF (RJx4a65c, ⟨"java/util/List", "add", "(Ljava/lang/Object;)Z"⟩, yJx4a65c_add_9ea2d) (by decide +kernel)) (by decide +kernel) ⟨Nat.le_of_ble_eq_true rfl, Nat.le_of_ble_eq_true rfl⟩) ⟨PE_blind, va_recv hK hP (ci := 4) (q0 := 1) rfl rfl, PE_pre hPc hKc hDc hF hZ hS hFc hEr_7⟩ rfl rfl hl.1 rfl (lv_room (Nat.le_of_ble_eq_true rfl)) dX9_feed_63 ⟨Nat.le_of_ble_eq_true rfl, Nat.le_of_ble_eq_true rfl⟩) hS (fun q _ h => hFc q h) hFc (fun r_11 u t H1 locs ht hvm hw hB hz1 hk1 hS => ?_)
          obtain ⟨hm_12, g1_13, kO_14, fa_15, hP1, hK1, hD1⟩ := hB
          rw [ht] at hP1
          have hK1 := va_K.moved hvm.symm hK1
          obtain ⟨hP, hD⟩ := va_join (wr := [(mx, .inr (14, [.ref lc, .ref lr, .ref kn, .ref lt, .ref ml, .ref mm, .ref lp, .ref lb, .ref mq, .int 1, .int 10, .int 0, .int 0]))]) (w1 := [(lt, .inr (4, [.int hm_12, .ref g1_13, .int 1])), (g1_13, .inl (kO_14, 10, .inr (.inr (.inr (.inr fa_15)))))]) hP hD [1] [0] rfl rfl (by decide) (by decide) hk1 hFc hP1 hD1
          have hK := hK.app hK1
          generalize H1 = H at hP hS ⊢
          have hP : va_P (dC, dI) vwCl [(mx, .inr (14, [.ref lc, .ref lr, .ref kn, .ref lt, .ref ml, .ref mm, .ref lp, .ref lb, .ref mq, .int 1, .int 10, .int 0, .int 0])), (lt, .inr (4, [.int hm_12, .ref g1_13, .int 1])), (g1_13, .inl (kO_14, 10, .inr (.inr (.inr (.inr fa_15)))))] H := hP
          have hD : va_D A [(mx, .inr (14, [.ref lc, .ref lr, .ref kn, .ref lt, .ref ml, .ref mm, .ref lp, .ref lb, .ref mq, .int 1, .int 10, .int 0, .int 0])), (lt, .inr (4, [.int hm_12, .ref g1_13, .int 1])), (g1_13, .inl (kO_14, 10, .inr (.inr (.inr (.inr fa_15)))))] := hD
          have hK : va_K (dC, dI) vwCl [(kO_14, .object "java/lang/Object")] s := hK
          refine W.widen (k := 2) (n := 11) (Nat.le_of_ble_eq_true rfl) (Nat.le_of_ble_eq_true rfl) ?_
          obtain rfl := hw
          refine lv_pop hx hb dX9_feed_68 rfl ?_
          refine lv_iinc (v := (-1)) (lv' := [(4, .int (-1)), (0, .ref mx), (1, .long c1), (3, .int 1)]) hx hb dX9_feed_69 hl (k := 0) rfl (by decide) (by decide) rfl (fun ls hl => ?_)
          refine lv_goto (tgt := 39) hx hb dX9_feed_72 (by decide) ?_
          refine lv_iload hx hb dX9_feed_39 (lv_at hl 0 rfl) ?_
          refine lv_if_lt (tgt := 75) hx hb dX9_feed_41 (by decide) (fun _ => ?_) (fun c_16 => absurd (by decide) c_16)
          refine lv_aload_n hx hb dX9_feed_75 rfl (lv_at hl 1 rfl) ?_
          refine va_get (D := (dC, dI)) (ci := 14) (v := .ref lt) (C := RX9) (T := TX9) (N := 13) hx hb hts (fun _ h9 => List.mem_cons_of_mem _ (List.mem_append_left _ (List.mem_append_left _ (List.mem_append_left _ (List.mem_append_right _ (h9)))))) hown hK hP 0 rfl rfl 3 (by decide) (hts (.fieldLink RX9 24 "ExamHallsModel" "tape" "Ljava/util/List;") (List.mem_of_getElem? (i := 1) rfl)) (fun _ h9 => h9) rfl dX9_feed_76 ?_
          refine va_csFi (va_runF (hK.1 4 _ rfl).2 (As := []) (rest := []) ⟨hx, hb, hml, hown, hts⟩ (c_AL_size l dC dI lt hm_12 g1_13 1) (va_cwF 0 hts gX9_feed_Jx4a65c_size_8abf5_f56Jx4a65c rfl rfl rfl (Ft.fw hF (RJx4a65c, ⟨"java/util/List", "size", "()I"⟩, yJx4a65c_size_8abf5) (by decide +kernel)) (by decide +kernel) ⟨Nat.le_of_ble_eq_true rfl, Nat.le_of_ble_eq_true rfl⟩) ⟨PS_blind, va_recv hK hP (ci := 4) (q0 := 1) rfl rfl, PS_pre (hP.sub (ws' := [(lt, .inr (4, [.int hm_12, .ref g1_13, .int 1]))]) [1] rfl) (hK.sub (tys' := []) [] rfl) hF⟩ rfl rfl hl.1 rfl (lv_room (Nat.le_of_ble_eq_true rfl)) dX9_feed_79 ⟨Nat.le_of_ble_eq_true rfl, Nat.le_of_ble_eq_true rfl⟩) (fun r_17 hr_17 => ?_)
          subst hr_17
          refine W.widen (k := 9) (n := 18) (Nat.le_of_ble_eq_true rfl) (Nat.le_of_ble_eq_true rfl) ?_
          exact W.iret (v := 1) hx hb hr (fun t ht hW => ⟨⟨_, (), rfl, (by decide), trivial⟩, hS.F ht⟩) hS.2.2 dX9_feed_84
        · have hl : lv_has ls 5 [(4, .int (2 - 1)), (0, .ref mx), (1, .long c1), (3, .int 2)] := hl
          have e9 : (2 : Int32) - 1 = 1 := by decide
          rw [e9] at hl
          refine lv_iload hx hb dX9_feed_39 (lv_at hl 0 rfl) ?_
          refine lv_if_lt (tgt := 75) hx hb dX9_feed_41 (by decide) (fun c_18 => absurd c_18 (by decide)) (fun _ => ?_)
          refine lv_aload_n hx hb dX9_feed_44 rfl (lv_at hl 1 rfl) ?_
          refine va_get (D := (dC, dI)) (ci := 14) (v := .ref lt) (C := RX9) (T := TX9) (N := 13) hx hb hts (fun _ h9 => List.mem_cons_of_mem _ (List.mem_append_left _ (List.mem_append_left _ (List.mem_append_left _ (List.mem_append_right _ (h9)))))) hown hK hP 0 rfl rfl 3 (by decide) (hts (.fieldLink RX9 24 "ExamHallsModel" "tape" "Ljava/util/List;") (List.mem_of_getElem? (i := 1) rfl)) (fun _ h9 => h9) rfl dX9_feed_45 ?_
          refine lv_lload_n hx hb dX9_feed_48 rfl (lv_at hl 2 rfl) ?_
          refine lv_bipush (v := 8) hx hb dX9_feed_49 (by decide) ?_
          refine lv_iload hx hb dX9_feed_51 (lv_at hl 0 rfl) ?_
          refine lv_imul hx hb dX9_feed_53 ?_
          refine lv_topi (fun f_19 ef_19 => ?_)
          obtain rfl : f_19 = 8 := ef_19.trans (by decide)
          refine lv_lshr hx hb dX9_feed_54 rfl ?_
          refine lv_ldc2 (v := 255) hx hb hown (hts (.constantLong RX9 76 (255)) (List.mem_of_getElem? (i := 2) rfl)) dX9_feed_55 ?_
          refine lv_land hx hb dX9_feed_58 ?_
          refine lv_l2i hx hb dX9_feed_59 rfl ?_
          have hPc := hP.sub (ws' := []) [] rfl
          have hDc := hD.sub (ws' := []) [] (by decide) rfl
          have hKc := hK.sub (tys' := []) [] rfl
          have hFc := va_free (wc := []) hD hS hA [] rfl
          refine va_callr (va_runS (As := [.int (((c1 >>> ((8 : Int32).toInt64 &&& 63)) &&& 255).toInt32)]) (rest := [.ref lt]) ⟨hx, hb, hml, hown, hts⟩ (c_valueOf l dC dI d tc ad (((c1 >>> ((8 : Int32).toInt64 &&& 63)) &&& 255).toInt32) s.heap.size) (va_cwS 1 hts gX9_feed_J6_valueOf_2dffe rfl rfl rfl (by decide +kernel) ⟨Nat.le_of_ble_eq_true rfl, Nat.le_of_ble_eq_true rfl⟩) ⟨PZ_blind, PZ_pre hPc hKc hDc hF hZ hS hFc⟩ rfl rfl hl.1 rfl (lv_room (Nat.le_of_ble_eq_true rfl)) dX9_feed_60 ⟨Nat.le_of_ble_eq_true rfl, Nat.le_of_ble_eq_true rfl⟩) hS (fun q _ h => hFc q h) hFc (fun u r_20 t H1 locs ht hvm hw hB hz1 hk1 hS => ?_)
          obtain ⟨hP1, hK1, hD1, hx_21, hx_22, hx_23⟩ := hB
          rw [ht] at hP1
          have hK1 := va_K.moved hvm.symm hK1
          rw [ht] at hx_21 hx_23
          have hEr_20 := any_moved hvm.symm hx_21
          have ner_20_lt : r_20 ≠ lt := by
            rcases hx_22 with h9 | ⟨k9, hk9, e9⟩
            · intro e9; have h8 := (hP 1 _ rfl).lt; rw [← e9] at h8; exact absurd h9 (Nat.not_le.mpr h8)
            · intro e8; obtain ⟨_, _, _, _, h7⟩ := hZ.2.2.2.2.2.1 k9 hk9; exact h7 (by rw [← e9, e8]; exact hD.2 1 _ rfl)
          obtain ⟨hP, hD⟩ := va_join (wr := [(mx, .inr (14, [.ref lc, .ref lr, .ref kn, .ref lt, .ref ml, .ref mm, .ref lp, .ref lb, .ref mq, .int 1, .int 10, .int 0, .int 0])), (lt, .inr (4, [.int 0, .ref d, .int 0]))]) (w1 := []) hP hD [] [0, 1] rfl rfl (by decide) (by decide) hk1 hFc hP1 hD1
          have hK := hK.app hK1
          generalize H1 = H at hP hS hEr_20 hx_23 ⊢
          have hP : va_P (dC, dI) vwCl [(mx, .inr (14, [.ref lc, .ref lr, .ref kn, .ref lt, .ref ml, .ref mm, .ref lp, .ref lb, .ref mq, .int 1, .int 10, .int 0, .int 0])), (lt, .inr (4, [.int 0, .ref d, .int 0]))] H := hP
          have hD : va_D A [(mx, .inr (14, [.ref lc, .ref lr, .ref kn, .ref lt, .ref ml, .ref mm, .ref lp, .ref lb, .ref mq, .int 1, .int 10, .int 0, .int 0])), (lt, .inr (4, [.int 0, .ref d, .int 0]))] := hD
          have hK : va_K (dC, dI) vwCl [] s := hK
          refine W.widen (k := 1) (n := 1) (Nat.le_of_ble_eq_true rfl) (Nat.le_of_ble_eq_true rfl) ?_
          have hPc := hP.sub (ws' := [(lt, .inr (4, [.int 0, .ref d, .int 0]))]) [1] rfl
          have hDc := hD.sub (ws' := [(lt, .inr (4, [.int 0, .ref d, .int 0]))]) [1] (by decide) rfl
          have hKc := hK.sub (tys' := []) [] rfl
          have hFc := va_free (wc := [(lt, .inr (4, [.int 0, .ref d, .int 0]))]) hD hS hA [1] rfl
          refine va_callFi (va_runF (hK.1 4 _ rfl).2 (As := [.ref r_20]) (rest := []) ⟨hx, hb, hml, hown, hts⟩ (c_AL_addf l dC dI d tc ad lt 0 r_20 H.size ner_20_lt hx_23) (va_cwF 1 hts gX9_feed_Jx4a65c_add_9ea2d_f72Jx4a65c rfl rfl rfl (Ft.fw hF (RJx4a65c, ⟨"java/util/List", "add", "(Ljava/lang/Object;)Z"⟩, yJx4a65c_add_9ea2d) (by decide +kernel)) (by decide +kernel) ⟨Nat.le_of_ble_eq_true rfl, Nat.le_of_ble_eq_true rfl⟩) ⟨PE_blind, va_recv hK hP (ci := 4) (q0 := 1) rfl rfl, PE_pre hPc hKc hDc hF hZ hS hFc hEr_20⟩ rfl rfl hl.1 rfl (lv_room (Nat.le_of_ble_eq_true rfl)) dX9_feed_63 ⟨Nat.le_of_ble_eq_true rfl, Nat.le_of_ble_eq_true rfl⟩) hS (fun q _ h => hFc q h) hFc (fun r_24 u t H1 locs ht hvm hw hB hz1 hk1 hS => ?_)
          obtain ⟨hm_25, g1_26, kO_27, fa_28, hP1, hK1, hD1⟩ := hB
          rw [ht] at hP1
          have hK1 := va_K.moved hvm.symm hK1
          obtain ⟨hP, hD⟩ := va_join (wr := [(mx, .inr (14, [.ref lc, .ref lr, .ref kn, .ref lt, .ref ml, .ref mm, .ref lp, .ref lb, .ref mq, .int 1, .int 10, .int 0, .int 0]))]) (w1 := [(lt, .inr (4, [.int hm_25, .ref g1_26, .int 1])), (g1_26, .inl (kO_27, 10, .inr (.inr (.inr (.inr fa_28)))))]) hP hD [1] [0] rfl rfl (by decide) (by decide) hk1 hFc hP1 hD1
          have hK := hK.app hK1
          generalize H1 = H at hP hS ⊢
          have hP : va_P (dC, dI) vwCl [(mx, .inr (14, [.ref lc, .ref lr, .ref kn, .ref lt, .ref ml, .ref mm, .ref lp, .ref lb, .ref mq, .int 1, .int 10, .int 0, .int 0])), (lt, .inr (4, [.int hm_25, .ref g1_26, .int 1])), (g1_26, .inl (kO_27, 10, .inr (.inr (.inr (.inr fa_28)))))] H := hP
          have hD : va_D A [(mx, .inr (14, [.ref lc, .ref lr, .ref kn, .ref lt, .ref ml, .ref mm, .ref lp, .ref lb, .ref mq, .int 1, .int 10, .int 0, .int 0])), (lt, .inr (4, [.int hm_25, .ref g1_26, .int 1])), (g1_26, .inl (kO_27, 10, .inr (.inr (.inr (.inr fa_28)))))] := hD
          have hK : va_K (dC, dI) vwCl [(kO_27, .object "java/lang/Object")] s := hK
          refine W.widen (k := 2) (n := 11) (Nat.le_of_ble_eq_true rfl) (Nat.le_of_ble_eq_true rfl) ?_
          obtain rfl := hw
          refine lv_pop hx hb dX9_feed_68 rfl ?_
          refine lv_iinc (v := 0) (lv' := [(4, .int 0), (0, .ref mx), (1, .long c1), (3, .int 2)]) hx hb dX9_feed_69 hl (k := 0) rfl (by decide) (by decide) rfl (fun ls hl => ?_)
          refine lv_goto (tgt := 39) hx hb dX9_feed_72 (by decide) ?_
          refine lv_iload hx hb dX9_feed_39 (lv_at hl 0 rfl) ?_
          refine lv_if_lt (tgt := 75) hx hb dX9_feed_41 (by decide) (fun c_29 => absurd c_29 (by decide)) (fun _ => ?_)
          refine lv_aload_n hx hb dX9_feed_44 rfl (lv_at hl 1 rfl) ?_
          refine va_get (D := (dC, dI)) (ci := 14) (v := .ref lt) (C := RX9) (T := TX9) (N := 13) hx hb hts (fun _ h9 => List.mem_cons_of_mem _ (List.mem_append_left _ (List.mem_append_left _ (List.mem_append_left _ (List.mem_append_right _ (h9)))))) hown hK hP 0 rfl rfl 3 (by decide) (hts (.fieldLink RX9 24 "ExamHallsModel" "tape" "Ljava/util/List;") (List.mem_of_getElem? (i := 1) rfl)) (fun _ h9 => h9) rfl dX9_feed_45 ?_
          refine lv_lload_n hx hb dX9_feed_48 rfl (lv_at hl 2 rfl) ?_
          refine lv_bipush (v := 8) hx hb dX9_feed_49 (by decide) ?_
          refine lv_iload hx hb dX9_feed_51 (lv_at hl 0 rfl) ?_
          refine lv_imul hx hb dX9_feed_53 ?_
          refine lv_topi (fun f_30 ef_30 => ?_)
          obtain rfl : f_30 = 0 := ef_30.trans (by decide)
          refine lv_lshr hx hb dX9_feed_54 rfl ?_
          refine lv_ldc2 (v := 255) hx hb hown (hts (.constantLong RX9 76 (255)) (List.mem_of_getElem? (i := 2) rfl)) dX9_feed_55 ?_
          refine lv_land hx hb dX9_feed_58 ?_
          refine lv_l2i hx hb dX9_feed_59 rfl ?_
          have hPc := hP.sub (ws' := []) [] rfl
          have hDc := hD.sub (ws' := []) [] (by decide) rfl
          have hKc := hK.sub (tys' := []) [] rfl
          have hFc := va_free (wc := []) hD hS hA [] rfl
          refine va_callr (va_runS (As := [.int (((c1 >>> ((0 : Int32).toInt64 &&& 63)) &&& 255).toInt32)]) (rest := [.ref lt]) ⟨hx, hb, hml, hown, hts⟩ (c_valueOf l dC dI d tc ad (((c1 >>> ((0 : Int32).toInt64 &&& 63)) &&& 255).toInt32) H.size) (va_cwS 1 hts gX9_feed_J6_valueOf_2dffe rfl rfl rfl (by decide +kernel) ⟨Nat.le_of_ble_eq_true rfl, Nat.le_of_ble_eq_true rfl⟩) ⟨PZ_blind, PZ_pre hPc hKc hDc hF hZ hS hFc⟩ rfl rfl hl.1 rfl (lv_room (Nat.le_of_ble_eq_true rfl)) dX9_feed_60 ⟨Nat.le_of_ble_eq_true rfl, Nat.le_of_ble_eq_true rfl⟩) hS (fun q _ h => hFc q h) hFc (fun u r_31 t H1 locs ht hvm hw hB hz1 hk1 hS => ?_)
          obtain ⟨hP1, hK1, hD1, hx_32, hx_33, hx_34⟩ := hB
          rw [ht] at hP1
          have hK1 := va_K.moved hvm.symm hK1
          rw [ht] at hx_32 hx_34
          have hEr_31 := any_moved hvm.symm hx_32
          have ner_31_lt : r_31 ≠ lt := by
            rcases hx_33 with h9 | ⟨k9, hk9, e9⟩
            · intro e9; have h8 := (hP 1 _ rfl).lt; rw [← e9] at h8; exact absurd h9 (Nat.not_le.mpr h8)
            · intro e8; obtain ⟨_, _, _, _, h7⟩ := hZ.2.2.2.2.2.1 k9 hk9; exact h7 (by rw [← e9, e8]; exact hD.2 1 _ rfl)
          have ner_31_g1_26 : r_31 ≠ g1_26 := by
            rcases hx_33 with h9 | ⟨k9, hk9, e9⟩
            · intro e9; have h8 := (hP 2 _ rfl).lt; rw [← e9] at h8; exact absurd h9 (Nat.not_le.mpr h8)
            · intro e8; obtain ⟨_, _, _, _, h7⟩ := hZ.2.2.2.2.2.1 k9 hk9; exact h7 (by rw [← e9, e8]; exact hD.2 2 _ rfl)
          obtain ⟨hP, hD⟩ := va_join (wr := [(mx, .inr (14, [.ref lc, .ref lr, .ref kn, .ref lt, .ref ml, .ref mm, .ref lp, .ref lb, .ref mq, .int 1, .int 10, .int 0, .int 0])), (lt, .inr (4, [.int hm_25, .ref g1_26, .int 1])), (g1_26, .inl (kO_27, 10, .inr (.inr (.inr (.inr fa_28)))))]) (w1 := []) hP hD [] [0, 1, 2] rfl rfl (by decide) (by decide) hk1 hFc hP1 hD1
          have hK := hK.app hK1
          generalize H1 = H at hP hS hEr_31 hx_34 ⊢
          have hP : va_P (dC, dI) vwCl [(mx, .inr (14, [.ref lc, .ref lr, .ref kn, .ref lt, .ref ml, .ref mm, .ref lp, .ref lb, .ref mq, .int 1, .int 10, .int 0, .int 0])), (lt, .inr (4, [.int hm_25, .ref g1_26, .int 1])), (g1_26, .inl (kO_27, 10, .inr (.inr (.inr (.inr fa_28)))))] H := hP
          have hD : va_D A [(mx, .inr (14, [.ref lc, .ref lr, .ref kn, .ref lt, .ref ml, .ref mm, .ref lp, .ref lb, .ref mq, .int 1, .int 10, .int 0, .int 0])), (lt, .inr (4, [.int hm_25, .ref g1_26, .int 1])), (g1_26, .inl (kO_27, 10, .inr (.inr (.inr (.inr fa_28)))))] := hD
          have hK : va_K (dC, dI) vwCl [(kO_27, .object "java/lang/Object")] s := hK
          refine W.widen (k := 3) (n := 12) (Nat.le_of_ble_eq_true rfl) (Nat.le_of_ble_eq_true rfl) ?_
          have hPc := hP.sub (ws' := [(lt, .inr (4, [.int hm_25, .ref g1_26, .int 1])), (g1_26, .inl (kO_27, 10, .inr (.inr (.inr (.inr fa_28)))))]) [1, 2] rfl
          have hDc := hD.sub (ws' := [(lt, .inr (4, [.int hm_25, .ref g1_26, .int 1])), (g1_26, .inl (kO_27, 10, .inr (.inr (.inr (.inr fa_28)))))]) [1, 2] (by decide) rfl
          have hKc := hK.sub (tys' := [(kO_27, .object "java/lang/Object")]) [0] rfl
          have hFc := va_free (wc := [(lt, .inr (4, [.int hm_25, .ref g1_26, .int 1])), (g1_26, .inl (kO_27, 10, .inr (.inr (.inr (.inr fa_28)))))]) hD hS hA [1, 2] rfl
          refine va_callFi (va_runF (hK.1 4 _ rfl).2 (As := [.ref r_31]) (rest := []) ⟨hx, hb, hml, hown, hts⟩ (c_AL_addn l dC dI d tc ad lt hm_25 r_31 g1_26 1 kO_27 fa_28 H.size ner_31_lt hx_34 ner_31_g1_26 (by unfold vp_in; decide) (by decide)) (va_cwF 1 hts gX9_feed_Jx4a65c_add_9ea2d_f72Jx4a65c rfl rfl rfl (Ft.fw hF (RJx4a65c, ⟨"java/util/List", "add", "(Ljava/lang/Object;)Z"⟩, yJx4a65c_add_9ea2d) (by decide +kernel)) (by decide +kernel) ⟨Nat.le_of_ble_eq_true rfl, Nat.le_of_ble_eq_true rfl⟩) ⟨PE_blind, va_recv hK hP (ci := 4) (q0 := 1) rfl rfl, PE_pre hPc hKc hDc hF hZ hS hFc hEr_31⟩ rfl rfl hl.1 rfl (lv_room (Nat.le_of_ble_eq_true rfl)) dX9_feed_63 ⟨Nat.le_of_ble_eq_true rfl, Nat.le_of_ble_eq_true rfl⟩) hS (fun q _ h => hFc q h) hFc (fun r_35 u t H1 locs ht hvm hw hB hz1 hk1 hS => ?_)
          obtain ⟨hm_36, fb_37, hP1, hK1, hD1⟩ := hB
          rw [ht] at hP1
          have hK1 := va_K.moved hvm.symm hK1
          obtain ⟨hP, hD⟩ := va_join (wr := [(mx, .inr (14, [.ref lc, .ref lr, .ref kn, .ref lt, .ref ml, .ref mm, .ref lp, .ref lb, .ref mq, .int 1, .int 10, .int 0, .int 0]))]) (w1 := [(lt, .inr (4, [.int hm_36, .ref g1_26, .int (1 + 1)])), (g1_26, .inl (kO_27, 10, .inr (.inr (.inr (.inr fb_37)))))]) hP hD [1, 2] [0] rfl rfl (by decide) (by decide) hk1 hFc hP1 hD1
          have hK := hK.app hK1
          generalize H1 = H at hP hS ⊢
          have hP : va_P (dC, dI) vwCl [(mx, .inr (14, [.ref lc, .ref lr, .ref kn, .ref lt, .ref ml, .ref mm, .ref lp, .ref lb, .ref mq, .int 1, .int 10, .int 0, .int 0])), (lt, .inr (4, [.int hm_36, .ref g1_26, .int (1 + 1)])), (g1_26, .inl (kO_27, 10, .inr (.inr (.inr (.inr fb_37)))))] H := hP
          have hD : va_D A [(mx, .inr (14, [.ref lc, .ref lr, .ref kn, .ref lt, .ref ml, .ref mm, .ref lp, .ref lb, .ref mq, .int 1, .int 10, .int 0, .int 0])), (lt, .inr (4, [.int hm_36, .ref g1_26, .int (1 + 1)])), (g1_26, .inl (kO_27, 10, .inr (.inr (.inr (.inr fb_37)))))] := hD
          have hK : va_K (dC, dI) vwCl [(kO_27, .object "java/lang/Object"), (kO_27, .object "java/lang/Object")] s := hK
          refine W.widen (k := 3) (n := 12) (Nat.le_of_ble_eq_true rfl) (Nat.le_of_ble_eq_true rfl) ?_
          obtain rfl := hw
          have ez_38 : (1 + 1 : Int32) = 2 := by decide
          rw [ez_38] at hP hD
          have hP : va_P (dC, dI) vwCl [(mx, .inr (14, [.ref lc, .ref lr, .ref kn, .ref lt, .ref ml, .ref mm, .ref lp, .ref lb, .ref mq, .int 1, .int 10, .int 0, .int 0])), (lt, .inr (4, [.int hm_36, .ref g1_26, .int 2])), (g1_26, .inl (kO_27, 10, .inr (.inr (.inr (.inr fb_37)))))] H := hP
          have hD : va_D A [(mx, .inr (14, [.ref lc, .ref lr, .ref kn, .ref lt, .ref ml, .ref mm, .ref lp, .ref lb, .ref mq, .int 1, .int 10, .int 0, .int 0])), (lt, .inr (4, [.int hm_36, .ref g1_26, .int 2])), (g1_26, .inl (kO_27, 10, .inr (.inr (.inr (.inr fb_37)))))] := hD
          refine lv_pop hx hb dX9_feed_68 rfl ?_
          refine lv_iinc (v := (-1)) (lv' := [(4, .int (-1)), (0, .ref mx), (1, .long c1), (3, .int 2)]) hx hb dX9_feed_69 hl (k := 0) rfl (by decide) (by decide) rfl (fun ls hl => ?_)
          refine lv_goto (tgt := 39) hx hb dX9_feed_72 (by decide) ?_
          refine lv_iload hx hb dX9_feed_39 (lv_at hl 0 rfl) ?_
          refine lv_if_lt (tgt := 75) hx hb dX9_feed_41 (by decide) (fun _ => ?_) (fun c_39 => absurd (by decide) c_39)
          refine lv_aload_n hx hb dX9_feed_75 rfl (lv_at hl 1 rfl) ?_
          refine va_get (D := (dC, dI)) (ci := 14) (v := .ref lt) (C := RX9) (T := TX9) (N := 13) hx hb hts (fun _ h9 => List.mem_cons_of_mem _ (List.mem_append_left _ (List.mem_append_left _ (List.mem_append_left _ (List.mem_append_right _ (h9)))))) hown hK hP 0 rfl rfl 3 (by decide) (hts (.fieldLink RX9 24 "ExamHallsModel" "tape" "Ljava/util/List;") (List.mem_of_getElem? (i := 1) rfl)) (fun _ h9 => h9) rfl dX9_feed_76 ?_
          refine va_csFi (va_runF (hK.1 4 _ rfl).2 (As := []) (rest := []) ⟨hx, hb, hml, hown, hts⟩ (c_AL_size l dC dI lt hm_36 g1_26 2) (va_cwF 0 hts gX9_feed_Jx4a65c_size_8abf5_f56Jx4a65c rfl rfl rfl (Ft.fw hF (RJx4a65c, ⟨"java/util/List", "size", "()I"⟩, yJx4a65c_size_8abf5) (by decide +kernel)) (by decide +kernel) ⟨Nat.le_of_ble_eq_true rfl, Nat.le_of_ble_eq_true rfl⟩) ⟨PS_blind, va_recv hK hP (ci := 4) (q0 := 1) rfl rfl, PS_pre (hP.sub (ws' := [(lt, .inr (4, [.int hm_36, .ref g1_26, .int 2]))]) [1] rfl) (hK.sub (tys' := []) [] rfl) hF⟩ rfl rfl hl.1 rfl (lv_room (Nat.le_of_ble_eq_true rfl)) dX9_feed_79 ⟨Nat.le_of_ble_eq_true rfl, Nat.le_of_ble_eq_true rfl⟩) (fun r_40 hr_40 => ?_)
          subst hr_40
          refine W.widen (k := 9) (n := 18) (Nat.le_of_ble_eq_true rfl) (Nat.le_of_ble_eq_true rfl) ?_
          exact W.iret (v := 2) hx hb hr (fun t ht hW => ⟨⟨_, (), rfl, (by decide), trivial⟩, hS.F ht⟩) hS.2.2 dX9_feed_84
        · have hl : lv_has ls 5 [(4, .int (3 - 1)), (0, .ref mx), (1, .long c1), (3, .int 3)] := hl
          have e9 : (3 : Int32) - 1 = 2 := by decide
          rw [e9] at hl
          refine lv_iload hx hb dX9_feed_39 (lv_at hl 0 rfl) ?_
          refine lv_if_lt (tgt := 75) hx hb dX9_feed_41 (by decide) (fun c_41 => absurd c_41 (by decide)) (fun _ => ?_)
          refine lv_aload_n hx hb dX9_feed_44 rfl (lv_at hl 1 rfl) ?_
          refine va_get (D := (dC, dI)) (ci := 14) (v := .ref lt) (C := RX9) (T := TX9) (N := 13) hx hb hts (fun _ h9 => List.mem_cons_of_mem _ (List.mem_append_left _ (List.mem_append_left _ (List.mem_append_left _ (List.mem_append_right _ (h9)))))) hown hK hP 0 rfl rfl 3 (by decide) (hts (.fieldLink RX9 24 "ExamHallsModel" "tape" "Ljava/util/List;") (List.mem_of_getElem? (i := 1) rfl)) (fun _ h9 => h9) rfl dX9_feed_45 ?_
          refine lv_lload_n hx hb dX9_feed_48 rfl (lv_at hl 2 rfl) ?_
          refine lv_bipush (v := 8) hx hb dX9_feed_49 (by decide) ?_
          refine lv_iload hx hb dX9_feed_51 (lv_at hl 0 rfl) ?_
          refine lv_imul hx hb dX9_feed_53 ?_
          refine lv_topi (fun f_42 ef_42 => ?_)
          obtain rfl : f_42 = 16 := ef_42.trans (by decide)
          refine lv_lshr hx hb dX9_feed_54 rfl ?_
          refine lv_ldc2 (v := 255) hx hb hown (hts (.constantLong RX9 76 (255)) (List.mem_of_getElem? (i := 2) rfl)) dX9_feed_55 ?_
          refine lv_land hx hb dX9_feed_58 ?_
          refine lv_l2i hx hb dX9_feed_59 rfl ?_
          have hPc := hP.sub (ws' := []) [] rfl
          have hDc := hD.sub (ws' := []) [] (by decide) rfl
          have hKc := hK.sub (tys' := []) [] rfl
          have hFc := va_free (wc := []) hD hS hA [] rfl
          refine va_callr (va_runS (As := [.int (((c1 >>> ((16 : Int32).toInt64 &&& 63)) &&& 255).toInt32)]) (rest := [.ref lt]) ⟨hx, hb, hml, hown, hts⟩ (c_valueOf l dC dI d tc ad (((c1 >>> ((16 : Int32).toInt64 &&& 63)) &&& 255).toInt32) s.heap.size) (va_cwS 1 hts gX9_feed_J6_valueOf_2dffe rfl rfl rfl (by decide +kernel) ⟨Nat.le_of_ble_eq_true rfl, Nat.le_of_ble_eq_true rfl⟩) ⟨PZ_blind, PZ_pre hPc hKc hDc hF hZ hS hFc⟩ rfl rfl hl.1 rfl (lv_room (Nat.le_of_ble_eq_true rfl)) dX9_feed_60 ⟨Nat.le_of_ble_eq_true rfl, Nat.le_of_ble_eq_true rfl⟩) hS (fun q _ h => hFc q h) hFc (fun u r_43 t H1 locs ht hvm hw hB hz1 hk1 hS => ?_)
          obtain ⟨hP1, hK1, hD1, hx_44, hx_45, hx_46⟩ := hB
          rw [ht] at hP1
          have hK1 := va_K.moved hvm.symm hK1
          rw [ht] at hx_44 hx_46
          have hEr_43 := any_moved hvm.symm hx_44
          have ner_43_lt : r_43 ≠ lt := by
            rcases hx_45 with h9 | ⟨k9, hk9, e9⟩
            · intro e9; have h8 := (hP 1 _ rfl).lt; rw [← e9] at h8; exact absurd h9 (Nat.not_le.mpr h8)
            · intro e8; obtain ⟨_, _, _, _, h7⟩ := hZ.2.2.2.2.2.1 k9 hk9; exact h7 (by rw [← e9, e8]; exact hD.2 1 _ rfl)
          obtain ⟨hP, hD⟩ := va_join (wr := [(mx, .inr (14, [.ref lc, .ref lr, .ref kn, .ref lt, .ref ml, .ref mm, .ref lp, .ref lb, .ref mq, .int 1, .int 10, .int 0, .int 0])), (lt, .inr (4, [.int 0, .ref d, .int 0]))]) (w1 := []) hP hD [] [0, 1] rfl rfl (by decide) (by decide) hk1 hFc hP1 hD1
          have hK := hK.app hK1
          generalize H1 = H at hP hS hEr_43 hx_46 ⊢
          have hP : va_P (dC, dI) vwCl [(mx, .inr (14, [.ref lc, .ref lr, .ref kn, .ref lt, .ref ml, .ref mm, .ref lp, .ref lb, .ref mq, .int 1, .int 10, .int 0, .int 0])), (lt, .inr (4, [.int 0, .ref d, .int 0]))] H := hP
          have hD : va_D A [(mx, .inr (14, [.ref lc, .ref lr, .ref kn, .ref lt, .ref ml, .ref mm, .ref lp, .ref lb, .ref mq, .int 1, .int 10, .int 0, .int 0])), (lt, .inr (4, [.int 0, .ref d, .int 0]))] := hD
          have hK : va_K (dC, dI) vwCl [] s := hK
          refine W.widen (k := 1) (n := 1) (Nat.le_of_ble_eq_true rfl) (Nat.le_of_ble_eq_true rfl) ?_
          have hPc := hP.sub (ws' := [(lt, .inr (4, [.int 0, .ref d, .int 0]))]) [1] rfl
          have hDc := hD.sub (ws' := [(lt, .inr (4, [.int 0, .ref d, .int 0]))]) [1] (by decide) rfl
          have hKc := hK.sub (tys' := []) [] rfl
          have hFc := va_free (wc := [(lt, .inr (4, [.int 0, .ref d, .int 0]))]) hD hS hA [1] rfl
          refine va_callFi (va_runF (hK.1 4 _ rfl).2 (As := [.ref r_43]) (rest := []) ⟨hx, hb, hml, hown, hts⟩ (c_AL_addf l dC dI d tc ad lt 0 r_43 H.size ner_43_lt hx_46) (va_cwF 1 hts gX9_feed_Jx4a65c_add_9ea2d_f72Jx4a65c rfl rfl rfl (Ft.fw hF (RJx4a65c, ⟨"java/util/List", "add", "(Ljava/lang/Object;)Z"⟩, yJx4a65c_add_9ea2d) (by decide +kernel)) (by decide +kernel) ⟨Nat.le_of_ble_eq_true rfl, Nat.le_of_ble_eq_true rfl⟩) ⟨PE_blind, va_recv hK hP (ci := 4) (q0 := 1) rfl rfl, PE_pre hPc hKc hDc hF hZ hS hFc hEr_43⟩ rfl rfl hl.1 rfl (lv_room (Nat.le_of_ble_eq_true rfl)) dX9_feed_63 ⟨Nat.le_of_ble_eq_true rfl, Nat.le_of_ble_eq_true rfl⟩) hS (fun q _ h => hFc q h) hFc (fun r_47 u t H1 locs ht hvm hw hB hz1 hk1 hS => ?_)
          obtain ⟨hm_48, g1_49, kO_50, fa_51, hP1, hK1, hD1⟩ := hB
          rw [ht] at hP1
          have hK1 := va_K.moved hvm.symm hK1
          obtain ⟨hP, hD⟩ := va_join (wr := [(mx, .inr (14, [.ref lc, .ref lr, .ref kn, .ref lt, .ref ml, .ref mm, .ref lp, .ref lb, .ref mq, .int 1, .int 10, .int 0, .int 0]))]) (w1 := [(lt, .inr (4, [.int hm_48, .ref g1_49, .int 1])), (g1_49, .inl (kO_50, 10, .inr (.inr (.inr (.inr fa_51)))))]) hP hD [1] [0] rfl rfl (by decide) (by decide) hk1 hFc hP1 hD1
          have hK := hK.app hK1
          generalize H1 = H at hP hS ⊢
          have hP : va_P (dC, dI) vwCl [(mx, .inr (14, [.ref lc, .ref lr, .ref kn, .ref lt, .ref ml, .ref mm, .ref lp, .ref lb, .ref mq, .int 1, .int 10, .int 0, .int 0])), (lt, .inr (4, [.int hm_48, .ref g1_49, .int 1])), (g1_49, .inl (kO_50, 10, .inr (.inr (.inr (.inr fa_51)))))] H := hP
          have hD : va_D A [(mx, .inr (14, [.ref lc, .ref lr, .ref kn, .ref lt, .ref ml, .ref mm, .ref lp, .ref lb, .ref mq, .int 1, .int 10, .int 0, .int 0])), (lt, .inr (4, [.int hm_48, .ref g1_49, .int 1])), (g1_49, .inl (kO_50, 10, .inr (.inr (.inr (.inr fa_51)))))] := hD
          have hK : va_K (dC, dI) vwCl [(kO_50, .object "java/lang/Object")] s := hK
          refine W.widen (k := 2) (n := 11) (Nat.le_of_ble_eq_true rfl) (Nat.le_of_ble_eq_true rfl) ?_
          obtain rfl := hw
          refine lv_pop hx hb dX9_feed_68 rfl ?_
          refine lv_iinc (v := 1) (lv' := [(4, .int 1), (0, .ref mx), (1, .long c1), (3, .int 3)]) hx hb dX9_feed_69 hl (k := 0) rfl (by decide) (by decide) rfl (fun ls hl => ?_)
          refine lv_goto (tgt := 39) hx hb dX9_feed_72 (by decide) ?_
          refine lv_iload hx hb dX9_feed_39 (lv_at hl 0 rfl) ?_
          refine lv_if_lt (tgt := 75) hx hb dX9_feed_41 (by decide) (fun c_52 => absurd c_52 (by decide)) (fun _ => ?_)
          refine lv_aload_n hx hb dX9_feed_44 rfl (lv_at hl 1 rfl) ?_
          refine va_get (D := (dC, dI)) (ci := 14) (v := .ref lt) (C := RX9) (T := TX9) (N := 13) hx hb hts (fun _ h9 => List.mem_cons_of_mem _ (List.mem_append_left _ (List.mem_append_left _ (List.mem_append_left _ (List.mem_append_right _ (h9)))))) hown hK hP 0 rfl rfl 3 (by decide) (hts (.fieldLink RX9 24 "ExamHallsModel" "tape" "Ljava/util/List;") (List.mem_of_getElem? (i := 1) rfl)) (fun _ h9 => h9) rfl dX9_feed_45 ?_
          refine lv_lload_n hx hb dX9_feed_48 rfl (lv_at hl 2 rfl) ?_
          refine lv_bipush (v := 8) hx hb dX9_feed_49 (by decide) ?_
          refine lv_iload hx hb dX9_feed_51 (lv_at hl 0 rfl) ?_
          refine lv_imul hx hb dX9_feed_53 ?_
          refine lv_topi (fun f_53 ef_53 => ?_)
          obtain rfl : f_53 = 8 := ef_53.trans (by decide)
          refine lv_lshr hx hb dX9_feed_54 rfl ?_
          refine lv_ldc2 (v := 255) hx hb hown (hts (.constantLong RX9 76 (255)) (List.mem_of_getElem? (i := 2) rfl)) dX9_feed_55 ?_
          refine lv_land hx hb dX9_feed_58 ?_
          refine lv_l2i hx hb dX9_feed_59 rfl ?_
          have hPc := hP.sub (ws' := []) [] rfl
          have hDc := hD.sub (ws' := []) [] (by decide) rfl
          have hKc := hK.sub (tys' := []) [] rfl
          have hFc := va_free (wc := []) hD hS hA [] rfl
          refine va_callr (va_runS (As := [.int (((c1 >>> ((8 : Int32).toInt64 &&& 63)) &&& 255).toInt32)]) (rest := [.ref lt]) ⟨hx, hb, hml, hown, hts⟩ (c_valueOf l dC dI d tc ad (((c1 >>> ((8 : Int32).toInt64 &&& 63)) &&& 255).toInt32) H.size) (va_cwS 1 hts gX9_feed_J6_valueOf_2dffe rfl rfl rfl (by decide +kernel) ⟨Nat.le_of_ble_eq_true rfl, Nat.le_of_ble_eq_true rfl⟩) ⟨PZ_blind, PZ_pre hPc hKc hDc hF hZ hS hFc⟩ rfl rfl hl.1 rfl (lv_room (Nat.le_of_ble_eq_true rfl)) dX9_feed_60 ⟨Nat.le_of_ble_eq_true rfl, Nat.le_of_ble_eq_true rfl⟩) hS (fun q _ h => hFc q h) hFc (fun u r_54 t H1 locs ht hvm hw hB hz1 hk1 hS => ?_)
          obtain ⟨hP1, hK1, hD1, hx_55, hx_56, hx_57⟩ := hB
          rw [ht] at hP1
          have hK1 := va_K.moved hvm.symm hK1
          rw [ht] at hx_55 hx_57
          have hEr_54 := any_moved hvm.symm hx_55
          have ner_54_lt : r_54 ≠ lt := by
            rcases hx_56 with h9 | ⟨k9, hk9, e9⟩
            · intro e9; have h8 := (hP 1 _ rfl).lt; rw [← e9] at h8; exact absurd h9 (Nat.not_le.mpr h8)
            · intro e8; obtain ⟨_, _, _, _, h7⟩ := hZ.2.2.2.2.2.1 k9 hk9; exact h7 (by rw [← e9, e8]; exact hD.2 1 _ rfl)
          have ner_54_g1_49 : r_54 ≠ g1_49 := by
            rcases hx_56 with h9 | ⟨k9, hk9, e9⟩
            · intro e9; have h8 := (hP 2 _ rfl).lt; rw [← e9] at h8; exact absurd h9 (Nat.not_le.mpr h8)
            · intro e8; obtain ⟨_, _, _, _, h7⟩ := hZ.2.2.2.2.2.1 k9 hk9; exact h7 (by rw [← e9, e8]; exact hD.2 2 _ rfl)
          obtain ⟨hP, hD⟩ := va_join (wr := [(mx, .inr (14, [.ref lc, .ref lr, .ref kn, .ref lt, .ref ml, .ref mm, .ref lp, .ref lb, .ref mq, .int 1, .int 10, .int 0, .int 0])), (lt, .inr (4, [.int hm_48, .ref g1_49, .int 1])), (g1_49, .inl (kO_50, 10, .inr (.inr (.inr (.inr fa_51)))))]) (w1 := []) hP hD [] [0, 1, 2] rfl rfl (by decide) (by decide) hk1 hFc hP1 hD1
          have hK := hK.app hK1
          generalize H1 = H at hP hS hEr_54 hx_57 ⊢
          have hP : va_P (dC, dI) vwCl [(mx, .inr (14, [.ref lc, .ref lr, .ref kn, .ref lt, .ref ml, .ref mm, .ref lp, .ref lb, .ref mq, .int 1, .int 10, .int 0, .int 0])), (lt, .inr (4, [.int hm_48, .ref g1_49, .int 1])), (g1_49, .inl (kO_50, 10, .inr (.inr (.inr (.inr fa_51)))))] H := hP
          have hD : va_D A [(mx, .inr (14, [.ref lc, .ref lr, .ref kn, .ref lt, .ref ml, .ref mm, .ref lp, .ref lb, .ref mq, .int 1, .int 10, .int 0, .int 0])), (lt, .inr (4, [.int hm_48, .ref g1_49, .int 1])), (g1_49, .inl (kO_50, 10, .inr (.inr (.inr (.inr fa_51)))))] := hD
          have hK : va_K (dC, dI) vwCl [(kO_50, .object "java/lang/Object")] s := hK
          refine W.widen (k := 3) (n := 12) (Nat.le_of_ble_eq_true rfl) (Nat.le_of_ble_eq_true rfl) ?_
          have hPc := hP.sub (ws' := [(lt, .inr (4, [.int hm_48, .ref g1_49, .int 1])), (g1_49, .inl (kO_50, 10, .inr (.inr (.inr (.inr fa_51)))))]) [1, 2] rfl
          have hDc := hD.sub (ws' := [(lt, .inr (4, [.int hm_48, .ref g1_49, .int 1])), (g1_49, .inl (kO_50, 10, .inr (.inr (.inr (.inr fa_51)))))]) [1, 2] (by decide) rfl
          have hKc := hK.sub (tys' := [(kO_50, .object "java/lang/Object")]) [0] rfl
          have hFc := va_free (wc := [(lt, .inr (4, [.int hm_48, .ref g1_49, .int 1])), (g1_49, .inl (kO_50, 10, .inr (.inr (.inr (.inr fa_51)))))]) hD hS hA [1, 2] rfl
          refine va_callFi (va_runF (hK.1 4 _ rfl).2 (As := [.ref r_54]) (rest := []) ⟨hx, hb, hml, hown, hts⟩ (c_AL_addn l dC dI d tc ad lt hm_48 r_54 g1_49 1 kO_50 fa_51 H.size ner_54_lt hx_57 ner_54_g1_49 (by unfold vp_in; decide) (by decide)) (va_cwF 1 hts gX9_feed_Jx4a65c_add_9ea2d_f72Jx4a65c rfl rfl rfl (Ft.fw hF (RJx4a65c, ⟨"java/util/List", "add", "(Ljava/lang/Object;)Z"⟩, yJx4a65c_add_9ea2d) (by decide +kernel)) (by decide +kernel) ⟨Nat.le_of_ble_eq_true rfl, Nat.le_of_ble_eq_true rfl⟩) ⟨PE_blind, va_recv hK hP (ci := 4) (q0 := 1) rfl rfl, PE_pre hPc hKc hDc hF hZ hS hFc hEr_54⟩ rfl rfl hl.1 rfl (lv_room (Nat.le_of_ble_eq_true rfl)) dX9_feed_63 ⟨Nat.le_of_ble_eq_true rfl, Nat.le_of_ble_eq_true rfl⟩) hS (fun q _ h => hFc q h) hFc (fun r_58 u t H1 locs ht hvm hw hB hz1 hk1 hS => ?_)
          obtain ⟨hm_59, fb_60, hP1, hK1, hD1⟩ := hB
          rw [ht] at hP1
          have hK1 := va_K.moved hvm.symm hK1
          obtain ⟨hP, hD⟩ := va_join (wr := [(mx, .inr (14, [.ref lc, .ref lr, .ref kn, .ref lt, .ref ml, .ref mm, .ref lp, .ref lb, .ref mq, .int 1, .int 10, .int 0, .int 0]))]) (w1 := [(lt, .inr (4, [.int hm_59, .ref g1_49, .int (1 + 1)])), (g1_49, .inl (kO_50, 10, .inr (.inr (.inr (.inr fb_60)))))]) hP hD [1, 2] [0] rfl rfl (by decide) (by decide) hk1 hFc hP1 hD1
          have hK := hK.app hK1
          generalize H1 = H at hP hS ⊢
          have hP : va_P (dC, dI) vwCl [(mx, .inr (14, [.ref lc, .ref lr, .ref kn, .ref lt, .ref ml, .ref mm, .ref lp, .ref lb, .ref mq, .int 1, .int 10, .int 0, .int 0])), (lt, .inr (4, [.int hm_59, .ref g1_49, .int (1 + 1)])), (g1_49, .inl (kO_50, 10, .inr (.inr (.inr (.inr fb_60)))))] H := hP
          have hD : va_D A [(mx, .inr (14, [.ref lc, .ref lr, .ref kn, .ref lt, .ref ml, .ref mm, .ref lp, .ref lb, .ref mq, .int 1, .int 10, .int 0, .int 0])), (lt, .inr (4, [.int hm_59, .ref g1_49, .int (1 + 1)])), (g1_49, .inl (kO_50, 10, .inr (.inr (.inr (.inr fb_60)))))] := hD
          have hK : va_K (dC, dI) vwCl [(kO_50, .object "java/lang/Object"), (kO_50, .object "java/lang/Object")] s := hK
          refine W.widen (k := 3) (n := 12) (Nat.le_of_ble_eq_true rfl) (Nat.le_of_ble_eq_true rfl) ?_
          obtain rfl := hw
          have ez_61 : (1 + 1 : Int32) = 2 := by decide
          rw [ez_61] at hP hD
          have hP : va_P (dC, dI) vwCl [(mx, .inr (14, [.ref lc, .ref lr, .ref kn, .ref lt, .ref ml, .ref mm, .ref lp, .ref lb, .ref mq, .int 1, .int 10, .int 0, .int 0])), (lt, .inr (4, [.int hm_59, .ref g1_49, .int 2])), (g1_49, .inl (kO_50, 10, .inr (.inr (.inr (.inr fb_60)))))] H := hP
          have hD : va_D A [(mx, .inr (14, [.ref lc, .ref lr, .ref kn, .ref lt, .ref ml, .ref mm, .ref lp, .ref lb, .ref mq, .int 1, .int 10, .int 0, .int 0])), (lt, .inr (4, [.int hm_59, .ref g1_49, .int 2])), (g1_49, .inl (kO_50, 10, .inr (.inr (.inr (.inr fb_60)))))] := hD
          refine lv_pop hx hb dX9_feed_68 rfl ?_
          refine lv_iinc (v := 0) (lv' := [(4, .int 0), (0, .ref mx), (1, .long c1), (3, .int 3)]) hx hb dX9_feed_69 hl (k := 0) rfl (by decide) (by decide) rfl (fun ls hl => ?_)
          refine lv_goto (tgt := 39) hx hb dX9_feed_72 (by decide) ?_
          refine lv_iload hx hb dX9_feed_39 (lv_at hl 0 rfl) ?_
          refine lv_if_lt (tgt := 75) hx hb dX9_feed_41 (by decide) (fun c_62 => absurd c_62 (by decide)) (fun _ => ?_)
          refine lv_aload_n hx hb dX9_feed_44 rfl (lv_at hl 1 rfl) ?_
          refine va_get (D := (dC, dI)) (ci := 14) (v := .ref lt) (C := RX9) (T := TX9) (N := 13) hx hb hts (fun _ h9 => List.mem_cons_of_mem _ (List.mem_append_left _ (List.mem_append_left _ (List.mem_append_left _ (List.mem_append_right _ (h9)))))) hown hK hP 0 rfl rfl 3 (by decide) (hts (.fieldLink RX9 24 "ExamHallsModel" "tape" "Ljava/util/List;") (List.mem_of_getElem? (i := 1) rfl)) (fun _ h9 => h9) rfl dX9_feed_45 ?_
          refine lv_lload_n hx hb dX9_feed_48 rfl (lv_at hl 2 rfl) ?_
          refine lv_bipush (v := 8) hx hb dX9_feed_49 (by decide) ?_
          refine lv_iload hx hb dX9_feed_51 (lv_at hl 0 rfl) ?_
          refine lv_imul hx hb dX9_feed_53 ?_
          refine lv_topi (fun f_63 ef_63 => ?_)
          obtain rfl : f_63 = 0 := ef_63.trans (by decide)
          refine lv_lshr hx hb dX9_feed_54 rfl ?_
          refine lv_ldc2 (v := 255) hx hb hown (hts (.constantLong RX9 76 (255)) (List.mem_of_getElem? (i := 2) rfl)) dX9_feed_55 ?_
          refine lv_land hx hb dX9_feed_58 ?_
          refine lv_l2i hx hb dX9_feed_59 rfl ?_
          have hPc := hP.sub (ws' := []) [] rfl
          have hDc := hD.sub (ws' := []) [] (by decide) rfl
          have hKc := hK.sub (tys' := []) [] rfl
          have hFc := va_free (wc := []) hD hS hA [] rfl
          refine va_callr (va_runS (As := [.int (((c1 >>> ((0 : Int32).toInt64 &&& 63)) &&& 255).toInt32)]) (rest := [.ref lt]) ⟨hx, hb, hml, hown, hts⟩ (c_valueOf l dC dI d tc ad (((c1 >>> ((0 : Int32).toInt64 &&& 63)) &&& 255).toInt32) H.size) (va_cwS 1 hts gX9_feed_J6_valueOf_2dffe rfl rfl rfl (by decide +kernel) ⟨Nat.le_of_ble_eq_true rfl, Nat.le_of_ble_eq_true rfl⟩) ⟨PZ_blind, PZ_pre hPc hKc hDc hF hZ hS hFc⟩ rfl rfl hl.1 rfl (lv_room (Nat.le_of_ble_eq_true rfl)) dX9_feed_60 ⟨Nat.le_of_ble_eq_true rfl, Nat.le_of_ble_eq_true rfl⟩) hS (fun q _ h => hFc q h) hFc (fun u r_64 t H1 locs ht hvm hw hB hz1 hk1 hS => ?_)
          obtain ⟨hP1, hK1, hD1, hx_65, hx_66, hx_67⟩ := hB
          rw [ht] at hP1
          have hK1 := va_K.moved hvm.symm hK1
          rw [ht] at hx_65 hx_67
          have hEr_64 := any_moved hvm.symm hx_65
          have ner_64_lt : r_64 ≠ lt := by
            rcases hx_66 with h9 | ⟨k9, hk9, e9⟩
            · intro e9; have h8 := (hP 1 _ rfl).lt; rw [← e9] at h8; exact absurd h9 (Nat.not_le.mpr h8)
            · intro e8; obtain ⟨_, _, _, _, h7⟩ := hZ.2.2.2.2.2.1 k9 hk9; exact h7 (by rw [← e9, e8]; exact hD.2 1 _ rfl)
          have ner_64_g1_49 : r_64 ≠ g1_49 := by
            rcases hx_66 with h9 | ⟨k9, hk9, e9⟩
            · intro e9; have h8 := (hP 2 _ rfl).lt; rw [← e9] at h8; exact absurd h9 (Nat.not_le.mpr h8)
            · intro e8; obtain ⟨_, _, _, _, h7⟩ := hZ.2.2.2.2.2.1 k9 hk9; exact h7 (by rw [← e9, e8]; exact hD.2 2 _ rfl)
          obtain ⟨hP, hD⟩ := va_join (wr := [(mx, .inr (14, [.ref lc, .ref lr, .ref kn, .ref lt, .ref ml, .ref mm, .ref lp, .ref lb, .ref mq, .int 1, .int 10, .int 0, .int 0])), (lt, .inr (4, [.int hm_59, .ref g1_49, .int 2])), (g1_49, .inl (kO_50, 10, .inr (.inr (.inr (.inr fb_60)))))]) (w1 := []) hP hD [] [0, 1, 2] rfl rfl (by decide) (by decide) hk1 hFc hP1 hD1
          have hK := hK.app hK1
          generalize H1 = H at hP hS hEr_64 hx_67 ⊢
          have hP : va_P (dC, dI) vwCl [(mx, .inr (14, [.ref lc, .ref lr, .ref kn, .ref lt, .ref ml, .ref mm, .ref lp, .ref lb, .ref mq, .int 1, .int 10, .int 0, .int 0])), (lt, .inr (4, [.int hm_59, .ref g1_49, .int 2])), (g1_49, .inl (kO_50, 10, .inr (.inr (.inr (.inr fb_60)))))] H := hP
          have hD : va_D A [(mx, .inr (14, [.ref lc, .ref lr, .ref kn, .ref lt, .ref ml, .ref mm, .ref lp, .ref lb, .ref mq, .int 1, .int 10, .int 0, .int 0])), (lt, .inr (4, [.int hm_59, .ref g1_49, .int 2])), (g1_49, .inl (kO_50, 10, .inr (.inr (.inr (.inr fb_60)))))] := hD
          have hK : va_K (dC, dI) vwCl [(kO_50, .object "java/lang/Object"), (kO_50, .object "java/lang/Object")] s := hK
          refine W.widen (k := 4) (n := 13) (Nat.le_of_ble_eq_true rfl) (Nat.le_of_ble_eq_true rfl) ?_
          have hPc := hP.sub (ws' := [(lt, .inr (4, [.int hm_59, .ref g1_49, .int 2])), (g1_49, .inl (kO_50, 10, .inr (.inr (.inr (.inr fb_60)))))]) [1, 2] rfl
          have hDc := hD.sub (ws' := [(lt, .inr (4, [.int hm_59, .ref g1_49, .int 2])), (g1_49, .inl (kO_50, 10, .inr (.inr (.inr (.inr fb_60)))))]) [1, 2] (by decide) rfl
          have hKc := hK.sub (tys' := [(kO_50, .object "java/lang/Object")]) [0] rfl
          have hFc := va_free (wc := [(lt, .inr (4, [.int hm_59, .ref g1_49, .int 2])), (g1_49, .inl (kO_50, 10, .inr (.inr (.inr (.inr fb_60)))))]) hD hS hA [1, 2] rfl
          refine va_callFi (va_runF (hK.1 4 _ rfl).2 (As := [.ref r_64]) (rest := []) ⟨hx, hb, hml, hown, hts⟩ (c_AL_addn l dC dI d tc ad lt hm_59 r_64 g1_49 2 kO_50 fb_60 H.size ner_64_lt hx_67 ner_64_g1_49 (by unfold vp_in; decide) (by decide)) (va_cwF 1 hts gX9_feed_Jx4a65c_add_9ea2d_f72Jx4a65c rfl rfl rfl (Ft.fw hF (RJx4a65c, ⟨"java/util/List", "add", "(Ljava/lang/Object;)Z"⟩, yJx4a65c_add_9ea2d) (by decide +kernel)) (by decide +kernel) ⟨Nat.le_of_ble_eq_true rfl, Nat.le_of_ble_eq_true rfl⟩) ⟨PE_blind, va_recv hK hP (ci := 4) (q0 := 1) rfl rfl, PE_pre hPc hKc hDc hF hZ hS hFc hEr_64⟩ rfl rfl hl.1 rfl (lv_room (Nat.le_of_ble_eq_true rfl)) dX9_feed_63 ⟨Nat.le_of_ble_eq_true rfl, Nat.le_of_ble_eq_true rfl⟩) hS (fun q _ h => hFc q h) hFc (fun r_68 u t H1 locs ht hvm hw hB hz1 hk1 hS => ?_)
          obtain ⟨hm_69, fb_70, hP1, hK1, hD1⟩ := hB
          rw [ht] at hP1
          have hK1 := va_K.moved hvm.symm hK1
          obtain ⟨hP, hD⟩ := va_join (wr := [(mx, .inr (14, [.ref lc, .ref lr, .ref kn, .ref lt, .ref ml, .ref mm, .ref lp, .ref lb, .ref mq, .int 1, .int 10, .int 0, .int 0]))]) (w1 := [(lt, .inr (4, [.int hm_69, .ref g1_49, .int (2 + 1)])), (g1_49, .inl (kO_50, 10, .inr (.inr (.inr (.inr fb_70)))))]) hP hD [1, 2] [0] rfl rfl (by decide) (by decide) hk1 hFc hP1 hD1
          have hK := hK.app hK1
          generalize H1 = H at hP hS ⊢
          have hP : va_P (dC, dI) vwCl [(mx, .inr (14, [.ref lc, .ref lr, .ref kn, .ref lt, .ref ml, .ref mm, .ref lp, .ref lb, .ref mq, .int 1, .int 10, .int 0, .int 0])), (lt, .inr (4, [.int hm_69, .ref g1_49, .int (2 + 1)])), (g1_49, .inl (kO_50, 10, .inr (.inr (.inr (.inr fb_70)))))] H := hP
          have hD : va_D A [(mx, .inr (14, [.ref lc, .ref lr, .ref kn, .ref lt, .ref ml, .ref mm, .ref lp, .ref lb, .ref mq, .int 1, .int 10, .int 0, .int 0])), (lt, .inr (4, [.int hm_69, .ref g1_49, .int (2 + 1)])), (g1_49, .inl (kO_50, 10, .inr (.inr (.inr (.inr fb_70)))))] := hD
          have hK : va_K (dC, dI) vwCl [(kO_50, .object "java/lang/Object"), (kO_50, .object "java/lang/Object"), (kO_50, .object "java/lang/Object")] s := hK
          refine W.widen (k := 4) (n := 13) (Nat.le_of_ble_eq_true rfl) (Nat.le_of_ble_eq_true rfl) ?_
          obtain rfl := hw
          have ez_71 : (2 + 1 : Int32) = 3 := by decide
          rw [ez_71] at hP hD
          have hP : va_P (dC, dI) vwCl [(mx, .inr (14, [.ref lc, .ref lr, .ref kn, .ref lt, .ref ml, .ref mm, .ref lp, .ref lb, .ref mq, .int 1, .int 10, .int 0, .int 0])), (lt, .inr (4, [.int hm_69, .ref g1_49, .int 3])), (g1_49, .inl (kO_50, 10, .inr (.inr (.inr (.inr fb_70)))))] H := hP
          have hD : va_D A [(mx, .inr (14, [.ref lc, .ref lr, .ref kn, .ref lt, .ref ml, .ref mm, .ref lp, .ref lb, .ref mq, .int 1, .int 10, .int 0, .int 0])), (lt, .inr (4, [.int hm_69, .ref g1_49, .int 3])), (g1_49, .inl (kO_50, 10, .inr (.inr (.inr (.inr fb_70)))))] := hD
          refine lv_pop hx hb dX9_feed_68 rfl ?_
          refine lv_iinc (v := (-1)) (lv' := [(4, .int (-1)), (0, .ref mx), (1, .long c1), (3, .int 3)]) hx hb dX9_feed_69 hl (k := 0) rfl (by decide) (by decide) rfl (fun ls hl => ?_)
          refine lv_goto (tgt := 39) hx hb dX9_feed_72 (by decide) ?_
          refine lv_iload hx hb dX9_feed_39 (lv_at hl 0 rfl) ?_
          refine lv_if_lt (tgt := 75) hx hb dX9_feed_41 (by decide) (fun _ => ?_) (fun c_72 => absurd (by decide) c_72)
          refine lv_aload_n hx hb dX9_feed_75 rfl (lv_at hl 1 rfl) ?_
          refine va_get (D := (dC, dI)) (ci := 14) (v := .ref lt) (C := RX9) (T := TX9) (N := 13) hx hb hts (fun _ h9 => List.mem_cons_of_mem _ (List.mem_append_left _ (List.mem_append_left _ (List.mem_append_left _ (List.mem_append_right _ (h9)))))) hown hK hP 0 rfl rfl 3 (by decide) (hts (.fieldLink RX9 24 "ExamHallsModel" "tape" "Ljava/util/List;") (List.mem_of_getElem? (i := 1) rfl)) (fun _ h9 => h9) rfl dX9_feed_76 ?_
          refine va_csFi (va_runF (hK.1 4 _ rfl).2 (As := []) (rest := []) ⟨hx, hb, hml, hown, hts⟩ (c_AL_size l dC dI lt hm_69 g1_49 3) (va_cwF 0 hts gX9_feed_Jx4a65c_size_8abf5_f56Jx4a65c rfl rfl rfl (Ft.fw hF (RJx4a65c, ⟨"java/util/List", "size", "()I"⟩, yJx4a65c_size_8abf5) (by decide +kernel)) (by decide +kernel) ⟨Nat.le_of_ble_eq_true rfl, Nat.le_of_ble_eq_true rfl⟩) ⟨PS_blind, va_recv hK hP (ci := 4) (q0 := 1) rfl rfl, PS_pre (hP.sub (ws' := [(lt, .inr (4, [.int hm_69, .ref g1_49, .int 3]))]) [1] rfl) (hK.sub (tys' := []) [] rfl) hF⟩ rfl rfl hl.1 rfl (lv_room (Nat.le_of_ble_eq_true rfl)) dX9_feed_79 ⟨Nat.le_of_ble_eq_true rfl, Nat.le_of_ble_eq_true rfl⟩) (fun r_73 hr_73 => ?_)
          subst hr_73
          refine W.widen (k := 9) (n := 18) (Nat.le_of_ble_eq_true rfl) (Nat.le_of_ble_eq_true rfl) ?_
          exact W.iret (v := 3) hx hb hr (fun t ht hW => ⟨⟨_, (), rfl, (by decide), trivial⟩, hS.F ht⟩) hS.2.2 dX9_feed_84
        · have hl : lv_has ls 5 [(4, .int (4 - 1)), (0, .ref mx), (1, .long c1), (3, .int 4)] := hl
          have e9 : (4 : Int32) - 1 = 3 := by decide
          rw [e9] at hl
          refine lv_iload hx hb dX9_feed_39 (lv_at hl 0 rfl) ?_
          refine lv_if_lt (tgt := 75) hx hb dX9_feed_41 (by decide) (fun c_74 => absurd c_74 (by decide)) (fun _ => ?_)
          refine lv_aload_n hx hb dX9_feed_44 rfl (lv_at hl 1 rfl) ?_
          refine va_get (D := (dC, dI)) (ci := 14) (v := .ref lt) (C := RX9) (T := TX9) (N := 13) hx hb hts (fun _ h9 => List.mem_cons_of_mem _ (List.mem_append_left _ (List.mem_append_left _ (List.mem_append_left _ (List.mem_append_right _ (h9)))))) hown hK hP 0 rfl rfl 3 (by decide) (hts (.fieldLink RX9 24 "ExamHallsModel" "tape" "Ljava/util/List;") (List.mem_of_getElem? (i := 1) rfl)) (fun _ h9 => h9) rfl dX9_feed_45 ?_
          refine lv_lload_n hx hb dX9_feed_48 rfl (lv_at hl 2 rfl) ?_
          refine lv_bipush (v := 8) hx hb dX9_feed_49 (by decide) ?_
          refine lv_iload hx hb dX9_feed_51 (lv_at hl 0 rfl) ?_
          refine lv_imul hx hb dX9_feed_53 ?_
          refine lv_topi (fun f_75 ef_75 => ?_)
          obtain rfl : f_75 = 24 := ef_75.trans (by decide)
          refine lv_lshr hx hb dX9_feed_54 rfl ?_
          refine lv_ldc2 (v := 255) hx hb hown (hts (.constantLong RX9 76 (255)) (List.mem_of_getElem? (i := 2) rfl)) dX9_feed_55 ?_
          refine lv_land hx hb dX9_feed_58 ?_
          refine lv_l2i hx hb dX9_feed_59 rfl ?_
          have hPc := hP.sub (ws' := []) [] rfl
          have hDc := hD.sub (ws' := []) [] (by decide) rfl
          have hKc := hK.sub (tys' := []) [] rfl
          have hFc := va_free (wc := []) hD hS hA [] rfl
          refine va_callr (va_runS (As := [.int (((c1 >>> ((24 : Int32).toInt64 &&& 63)) &&& 255).toInt32)]) (rest := [.ref lt]) ⟨hx, hb, hml, hown, hts⟩ (c_valueOf l dC dI d tc ad (((c1 >>> ((24 : Int32).toInt64 &&& 63)) &&& 255).toInt32) s.heap.size) (va_cwS 1 hts gX9_feed_J6_valueOf_2dffe rfl rfl rfl (by decide +kernel) ⟨Nat.le_of_ble_eq_true rfl, Nat.le_of_ble_eq_true rfl⟩) ⟨PZ_blind, PZ_pre hPc hKc hDc hF hZ hS hFc⟩ rfl rfl hl.1 rfl (lv_room (Nat.le_of_ble_eq_true rfl)) dX9_feed_60 ⟨Nat.le_of_ble_eq_true rfl, Nat.le_of_ble_eq_true rfl⟩) hS (fun q _ h => hFc q h) hFc (fun u r_76 t H1 locs ht hvm hw hB hz1 hk1 hS => ?_)
          obtain ⟨hP1, hK1, hD1, hx_77, hx_78, hx_79⟩ := hB
          rw [ht] at hP1
          have hK1 := va_K.moved hvm.symm hK1
          rw [ht] at hx_77 hx_79
          have hEr_76 := any_moved hvm.symm hx_77
          have ner_76_lt : r_76 ≠ lt := by
            rcases hx_78 with h9 | ⟨k9, hk9, e9⟩
            · intro e9; have h8 := (hP 1 _ rfl).lt; rw [← e9] at h8; exact absurd h9 (Nat.not_le.mpr h8)
            · intro e8; obtain ⟨_, _, _, _, h7⟩ := hZ.2.2.2.2.2.1 k9 hk9; exact h7 (by rw [← e9, e8]; exact hD.2 1 _ rfl)
          obtain ⟨hP, hD⟩ := va_join (wr := [(mx, .inr (14, [.ref lc, .ref lr, .ref kn, .ref lt, .ref ml, .ref mm, .ref lp, .ref lb, .ref mq, .int 1, .int 10, .int 0, .int 0])), (lt, .inr (4, [.int 0, .ref d, .int 0]))]) (w1 := []) hP hD [] [0, 1] rfl rfl (by decide) (by decide) hk1 hFc hP1 hD1
          have hK := hK.app hK1
          generalize H1 = H at hP hS hEr_76 hx_79 ⊢
          have hP : va_P (dC, dI) vwCl [(mx, .inr (14, [.ref lc, .ref lr, .ref kn, .ref lt, .ref ml, .ref mm, .ref lp, .ref lb, .ref mq, .int 1, .int 10, .int 0, .int 0])), (lt, .inr (4, [.int 0, .ref d, .int 0]))] H := hP
          have hD : va_D A [(mx, .inr (14, [.ref lc, .ref lr, .ref kn, .ref lt, .ref ml, .ref mm, .ref lp, .ref lb, .ref mq, .int 1, .int 10, .int 0, .int 0])), (lt, .inr (4, [.int 0, .ref d, .int 0]))] := hD
          have hK : va_K (dC, dI) vwCl [] s := hK
          refine W.widen (k := 1) (n := 1) (Nat.le_of_ble_eq_true rfl) (Nat.le_of_ble_eq_true rfl) ?_
          have hPc := hP.sub (ws' := [(lt, .inr (4, [.int 0, .ref d, .int 0]))]) [1] rfl
          have hDc := hD.sub (ws' := [(lt, .inr (4, [.int 0, .ref d, .int 0]))]) [1] (by decide) rfl
          have hKc := hK.sub (tys' := []) [] rfl
          have hFc := va_free (wc := [(lt, .inr (4, [.int 0, .ref d, .int 0]))]) hD hS hA [1] rfl
          refine va_callFi (va_runF (hK.1 4 _ rfl).2 (As := [.ref r_76]) (rest := []) ⟨hx, hb, hml, hown, hts⟩ (c_AL_addf l dC dI d tc ad lt 0 r_76 H.size ner_76_lt hx_79) (va_cwF 1 hts gX9_feed_Jx4a65c_add_9ea2d_f72Jx4a65c rfl rfl rfl (Ft.fw hF (RJx4a65c, ⟨"java/util/List", "add", "(Ljava/lang/Object;)Z"⟩, yJx4a65c_add_9ea2d) (by decide +kernel)) (by decide +kernel) ⟨Nat.le_of_ble_eq_true rfl, Nat.le_of_ble_eq_true rfl⟩) ⟨PE_blind, va_recv hK hP (ci := 4) (q0 := 1) rfl rfl, PE_pre hPc hKc hDc hF hZ hS hFc hEr_76⟩ rfl rfl hl.1 rfl (lv_room (Nat.le_of_ble_eq_true rfl)) dX9_feed_63 ⟨Nat.le_of_ble_eq_true rfl, Nat.le_of_ble_eq_true rfl⟩) hS (fun q _ h => hFc q h) hFc (fun r_80 u t H1 locs ht hvm hw hB hz1 hk1 hS => ?_)
          obtain ⟨hm_81, g1_82, kO_83, fa_84, hP1, hK1, hD1⟩ := hB
          rw [ht] at hP1
          have hK1 := va_K.moved hvm.symm hK1
          obtain ⟨hP, hD⟩ := va_join (wr := [(mx, .inr (14, [.ref lc, .ref lr, .ref kn, .ref lt, .ref ml, .ref mm, .ref lp, .ref lb, .ref mq, .int 1, .int 10, .int 0, .int 0]))]) (w1 := [(lt, .inr (4, [.int hm_81, .ref g1_82, .int 1])), (g1_82, .inl (kO_83, 10, .inr (.inr (.inr (.inr fa_84)))))]) hP hD [1] [0] rfl rfl (by decide) (by decide) hk1 hFc hP1 hD1
          have hK := hK.app hK1
          generalize H1 = H at hP hS ⊢
          have hP : va_P (dC, dI) vwCl [(mx, .inr (14, [.ref lc, .ref lr, .ref kn, .ref lt, .ref ml, .ref mm, .ref lp, .ref lb, .ref mq, .int 1, .int 10, .int 0, .int 0])), (lt, .inr (4, [.int hm_81, .ref g1_82, .int 1])), (g1_82, .inl (kO_83, 10, .inr (.inr (.inr (.inr fa_84)))))] H := hP
          have hD : va_D A [(mx, .inr (14, [.ref lc, .ref lr, .ref kn, .ref lt, .ref ml, .ref mm, .ref lp, .ref lb, .ref mq, .int 1, .int 10, .int 0, .int 0])), (lt, .inr (4, [.int hm_81, .ref g1_82, .int 1])), (g1_82, .inl (kO_83, 10, .inr (.inr (.inr (.inr fa_84)))))] := hD
          have hK : va_K (dC, dI) vwCl [(kO_83, .object "java/lang/Object")] s := hK
          refine W.widen (k := 2) (n := 11) (Nat.le_of_ble_eq_true rfl) (Nat.le_of_ble_eq_true rfl) ?_
          obtain rfl := hw
          refine lv_pop hx hb dX9_feed_68 rfl ?_
          refine lv_iinc (v := 2) (lv' := [(4, .int 2), (0, .ref mx), (1, .long c1), (3, .int 4)]) hx hb dX9_feed_69 hl (k := 0) rfl (by decide) (by decide) rfl (fun ls hl => ?_)
          refine lv_goto (tgt := 39) hx hb dX9_feed_72 (by decide) ?_
          refine lv_iload hx hb dX9_feed_39 (lv_at hl 0 rfl) ?_
          refine lv_if_lt (tgt := 75) hx hb dX9_feed_41 (by decide) (fun c_85 => absurd c_85 (by decide)) (fun _ => ?_)
          refine lv_aload_n hx hb dX9_feed_44 rfl (lv_at hl 1 rfl) ?_
          refine va_get (D := (dC, dI)) (ci := 14) (v := .ref lt) (C := RX9) (T := TX9) (N := 13) hx hb hts (fun _ h9 => List.mem_cons_of_mem _ (List.mem_append_left _ (List.mem_append_left _ (List.mem_append_left _ (List.mem_append_right _ (h9)))))) hown hK hP 0 rfl rfl 3 (by decide) (hts (.fieldLink RX9 24 "ExamHallsModel" "tape" "Ljava/util/List;") (List.mem_of_getElem? (i := 1) rfl)) (fun _ h9 => h9) rfl dX9_feed_45 ?_
          refine lv_lload_n hx hb dX9_feed_48 rfl (lv_at hl 2 rfl) ?_
          refine lv_bipush (v := 8) hx hb dX9_feed_49 (by decide) ?_
          refine lv_iload hx hb dX9_feed_51 (lv_at hl 0 rfl) ?_
          refine lv_imul hx hb dX9_feed_53 ?_
          refine lv_topi (fun f_86 ef_86 => ?_)
          obtain rfl : f_86 = 16 := ef_86.trans (by decide)
          refine lv_lshr hx hb dX9_feed_54 rfl ?_
          refine lv_ldc2 (v := 255) hx hb hown (hts (.constantLong RX9 76 (255)) (List.mem_of_getElem? (i := 2) rfl)) dX9_feed_55 ?_
          refine lv_land hx hb dX9_feed_58 ?_
          refine lv_l2i hx hb dX9_feed_59 rfl ?_
          have hPc := hP.sub (ws' := []) [] rfl
          have hDc := hD.sub (ws' := []) [] (by decide) rfl
          have hKc := hK.sub (tys' := []) [] rfl
          have hFc := va_free (wc := []) hD hS hA [] rfl
          refine va_callr (va_runS (As := [.int (((c1 >>> ((16 : Int32).toInt64 &&& 63)) &&& 255).toInt32)]) (rest := [.ref lt]) ⟨hx, hb, hml, hown, hts⟩ (c_valueOf l dC dI d tc ad (((c1 >>> ((16 : Int32).toInt64 &&& 63)) &&& 255).toInt32) H.size) (va_cwS 1 hts gX9_feed_J6_valueOf_2dffe rfl rfl rfl (by decide +kernel) ⟨Nat.le_of_ble_eq_true rfl, Nat.le_of_ble_eq_true rfl⟩) ⟨PZ_blind, PZ_pre hPc hKc hDc hF hZ hS hFc⟩ rfl rfl hl.1 rfl (lv_room (Nat.le_of_ble_eq_true rfl)) dX9_feed_60 ⟨Nat.le_of_ble_eq_true rfl, Nat.le_of_ble_eq_true rfl⟩) hS (fun q _ h => hFc q h) hFc (fun u r_87 t H1 locs ht hvm hw hB hz1 hk1 hS => ?_)
          obtain ⟨hP1, hK1, hD1, hx_88, hx_89, hx_90⟩ := hB
          rw [ht] at hP1
          have hK1 := va_K.moved hvm.symm hK1
          rw [ht] at hx_88 hx_90
          have hEr_87 := any_moved hvm.symm hx_88
          have ner_87_lt : r_87 ≠ lt := by
            rcases hx_89 with h9 | ⟨k9, hk9, e9⟩
            · intro e9; have h8 := (hP 1 _ rfl).lt; rw [← e9] at h8; exact absurd h9 (Nat.not_le.mpr h8)
            · intro e8; obtain ⟨_, _, _, _, h7⟩ := hZ.2.2.2.2.2.1 k9 hk9; exact h7 (by rw [← e9, e8]; exact hD.2 1 _ rfl)
          have ner_87_g1_82 : r_87 ≠ g1_82 := by
            rcases hx_89 with h9 | ⟨k9, hk9, e9⟩
            · intro e9; have h8 := (hP 2 _ rfl).lt; rw [← e9] at h8; exact absurd h9 (Nat.not_le.mpr h8)
            · intro e8; obtain ⟨_, _, _, _, h7⟩ := hZ.2.2.2.2.2.1 k9 hk9; exact h7 (by rw [← e9, e8]; exact hD.2 2 _ rfl)
          obtain ⟨hP, hD⟩ := va_join (wr := [(mx, .inr (14, [.ref lc, .ref lr, .ref kn, .ref lt, .ref ml, .ref mm, .ref lp, .ref lb, .ref mq, .int 1, .int 10, .int 0, .int 0])), (lt, .inr (4, [.int hm_81, .ref g1_82, .int 1])), (g1_82, .inl (kO_83, 10, .inr (.inr (.inr (.inr fa_84)))))]) (w1 := []) hP hD [] [0, 1, 2] rfl rfl (by decide) (by decide) hk1 hFc hP1 hD1
          have hK := hK.app hK1
          generalize H1 = H at hP hS hEr_87 hx_90 ⊢
          have hP : va_P (dC, dI) vwCl [(mx, .inr (14, [.ref lc, .ref lr, .ref kn, .ref lt, .ref ml, .ref mm, .ref lp, .ref lb, .ref mq, .int 1, .int 10, .int 0, .int 0])), (lt, .inr (4, [.int hm_81, .ref g1_82, .int 1])), (g1_82, .inl (kO_83, 10, .inr (.inr (.inr (.inr fa_84)))))] H := hP
          have hD : va_D A [(mx, .inr (14, [.ref lc, .ref lr, .ref kn, .ref lt, .ref ml, .ref mm, .ref lp, .ref lb, .ref mq, .int 1, .int 10, .int 0, .int 0])), (lt, .inr (4, [.int hm_81, .ref g1_82, .int 1])), (g1_82, .inl (kO_83, 10, .inr (.inr (.inr (.inr fa_84)))))] := hD
          have hK : va_K (dC, dI) vwCl [(kO_83, .object "java/lang/Object")] s := hK
          refine W.widen (k := 3) (n := 12) (Nat.le_of_ble_eq_true rfl) (Nat.le_of_ble_eq_true rfl) ?_
          have hPc := hP.sub (ws' := [(lt, .inr (4, [.int hm_81, .ref g1_82, .int 1])), (g1_82, .inl (kO_83, 10, .inr (.inr (.inr (.inr fa_84)))))]) [1, 2] rfl
          have hDc := hD.sub (ws' := [(lt, .inr (4, [.int hm_81, .ref g1_82, .int 1])), (g1_82, .inl (kO_83, 10, .inr (.inr (.inr (.inr fa_84)))))]) [1, 2] (by decide) rfl
          have hKc := hK.sub (tys' := [(kO_83, .object "java/lang/Object")]) [0] rfl
          have hFc := va_free (wc := [(lt, .inr (4, [.int hm_81, .ref g1_82, .int 1])), (g1_82, .inl (kO_83, 10, .inr (.inr (.inr (.inr fa_84)))))]) hD hS hA [1, 2] rfl
          refine va_callFi (va_runF (hK.1 4 _ rfl).2 (As := [.ref r_87]) (rest := []) ⟨hx, hb, hml, hown, hts⟩ (c_AL_addn l dC dI d tc ad lt hm_81 r_87 g1_82 1 kO_83 fa_84 H.size ner_87_lt hx_90 ner_87_g1_82 (by unfold vp_in; decide) (by decide)) (va_cwF 1 hts gX9_feed_Jx4a65c_add_9ea2d_f72Jx4a65c rfl rfl rfl (Ft.fw hF (RJx4a65c, ⟨"java/util/List", "add", "(Ljava/lang/Object;)Z"⟩, yJx4a65c_add_9ea2d) (by decide +kernel)) (by decide +kernel) ⟨Nat.le_of_ble_eq_true rfl, Nat.le_of_ble_eq_true rfl⟩) ⟨PE_blind, va_recv hK hP (ci := 4) (q0 := 1) rfl rfl, PE_pre hPc hKc hDc hF hZ hS hFc hEr_87⟩ rfl rfl hl.1 rfl (lv_room (Nat.le_of_ble_eq_true rfl)) dX9_feed_63 ⟨Nat.le_of_ble_eq_true rfl, Nat.le_of_ble_eq_true rfl⟩) hS (fun q _ h => hFc q h) hFc (fun r_91 u t H1 locs ht hvm hw hB hz1 hk1 hS => ?_)
          obtain ⟨hm_92, fb_93, hP1, hK1, hD1⟩ := hB
          rw [ht] at hP1
          have hK1 := va_K.moved hvm.symm hK1
          obtain ⟨hP, hD⟩ := va_join (wr := [(mx, .inr (14, [.ref lc, .ref lr, .ref kn, .ref lt, .ref ml, .ref mm, .ref lp, .ref lb, .ref mq, .int 1, .int 10, .int 0, .int 0]))]) (w1 := [(lt, .inr (4, [.int hm_92, .ref g1_82, .int (1 + 1)])), (g1_82, .inl (kO_83, 10, .inr (.inr (.inr (.inr fb_93)))))]) hP hD [1, 2] [0] rfl rfl (by decide) (by decide) hk1 hFc hP1 hD1
          have hK := hK.app hK1
          generalize H1 = H at hP hS ⊢
          have hP : va_P (dC, dI) vwCl [(mx, .inr (14, [.ref lc, .ref lr, .ref kn, .ref lt, .ref ml, .ref mm, .ref lp, .ref lb, .ref mq, .int 1, .int 10, .int 0, .int 0])), (lt, .inr (4, [.int hm_92, .ref g1_82, .int (1 + 1)])), (g1_82, .inl (kO_83, 10, .inr (.inr (.inr (.inr fb_93)))))] H := hP
          have hD : va_D A [(mx, .inr (14, [.ref lc, .ref lr, .ref kn, .ref lt, .ref ml, .ref mm, .ref lp, .ref lb, .ref mq, .int 1, .int 10, .int 0, .int 0])), (lt, .inr (4, [.int hm_92, .ref g1_82, .int (1 + 1)])), (g1_82, .inl (kO_83, 10, .inr (.inr (.inr (.inr fb_93)))))] := hD
          have hK : va_K (dC, dI) vwCl [(kO_83, .object "java/lang/Object"), (kO_83, .object "java/lang/Object")] s := hK
          refine W.widen (k := 3) (n := 12) (Nat.le_of_ble_eq_true rfl) (Nat.le_of_ble_eq_true rfl) ?_
          obtain rfl := hw
          have ez_94 : (1 + 1 : Int32) = 2 := by decide
          rw [ez_94] at hP hD
          have hP : va_P (dC, dI) vwCl [(mx, .inr (14, [.ref lc, .ref lr, .ref kn, .ref lt, .ref ml, .ref mm, .ref lp, .ref lb, .ref mq, .int 1, .int 10, .int 0, .int 0])), (lt, .inr (4, [.int hm_92, .ref g1_82, .int 2])), (g1_82, .inl (kO_83, 10, .inr (.inr (.inr (.inr fb_93)))))] H := hP
          have hD : va_D A [(mx, .inr (14, [.ref lc, .ref lr, .ref kn, .ref lt, .ref ml, .ref mm, .ref lp, .ref lb, .ref mq, .int 1, .int 10, .int 0, .int 0])), (lt, .inr (4, [.int hm_92, .ref g1_82, .int 2])), (g1_82, .inl (kO_83, 10, .inr (.inr (.inr (.inr fb_93)))))] := hD
          refine lv_pop hx hb dX9_feed_68 rfl ?_
          refine lv_iinc (v := 1) (lv' := [(4, .int 1), (0, .ref mx), (1, .long c1), (3, .int 4)]) hx hb dX9_feed_69 hl (k := 0) rfl (by decide) (by decide) rfl (fun ls hl => ?_)
          refine lv_goto (tgt := 39) hx hb dX9_feed_72 (by decide) ?_
          refine lv_iload hx hb dX9_feed_39 (lv_at hl 0 rfl) ?_
          refine lv_if_lt (tgt := 75) hx hb dX9_feed_41 (by decide) (fun c_95 => absurd c_95 (by decide)) (fun _ => ?_)
          refine lv_aload_n hx hb dX9_feed_44 rfl (lv_at hl 1 rfl) ?_
          refine va_get (D := (dC, dI)) (ci := 14) (v := .ref lt) (C := RX9) (T := TX9) (N := 13) hx hb hts (fun _ h9 => List.mem_cons_of_mem _ (List.mem_append_left _ (List.mem_append_left _ (List.mem_append_left _ (List.mem_append_right _ (h9)))))) hown hK hP 0 rfl rfl 3 (by decide) (hts (.fieldLink RX9 24 "ExamHallsModel" "tape" "Ljava/util/List;") (List.mem_of_getElem? (i := 1) rfl)) (fun _ h9 => h9) rfl dX9_feed_45 ?_
          refine lv_lload_n hx hb dX9_feed_48 rfl (lv_at hl 2 rfl) ?_
          refine lv_bipush (v := 8) hx hb dX9_feed_49 (by decide) ?_
          refine lv_iload hx hb dX9_feed_51 (lv_at hl 0 rfl) ?_
          refine lv_imul hx hb dX9_feed_53 ?_
          refine lv_topi (fun f_96 ef_96 => ?_)
          obtain rfl : f_96 = 8 := ef_96.trans (by decide)
          refine lv_lshr hx hb dX9_feed_54 rfl ?_
          refine lv_ldc2 (v := 255) hx hb hown (hts (.constantLong RX9 76 (255)) (List.mem_of_getElem? (i := 2) rfl)) dX9_feed_55 ?_
          refine lv_land hx hb dX9_feed_58 ?_
          refine lv_l2i hx hb dX9_feed_59 rfl ?_
          have hPc := hP.sub (ws' := []) [] rfl
          have hDc := hD.sub (ws' := []) [] (by decide) rfl
          have hKc := hK.sub (tys' := []) [] rfl
          have hFc := va_free (wc := []) hD hS hA [] rfl
          refine va_callr (va_runS (As := [.int (((c1 >>> ((8 : Int32).toInt64 &&& 63)) &&& 255).toInt32)]) (rest := [.ref lt]) ⟨hx, hb, hml, hown, hts⟩ (c_valueOf l dC dI d tc ad (((c1 >>> ((8 : Int32).toInt64 &&& 63)) &&& 255).toInt32) H.size) (va_cwS 1 hts gX9_feed_J6_valueOf_2dffe rfl rfl rfl (by decide +kernel) ⟨Nat.le_of_ble_eq_true rfl, Nat.le_of_ble_eq_true rfl⟩) ⟨PZ_blind, PZ_pre hPc hKc hDc hF hZ hS hFc⟩ rfl rfl hl.1 rfl (lv_room (Nat.le_of_ble_eq_true rfl)) dX9_feed_60 ⟨Nat.le_of_ble_eq_true rfl, Nat.le_of_ble_eq_true rfl⟩) hS (fun q _ h => hFc q h) hFc (fun u r_97 t H1 locs ht hvm hw hB hz1 hk1 hS => ?_)
          obtain ⟨hP1, hK1, hD1, hx_98, hx_99, hx_100⟩ := hB
          rw [ht] at hP1
          have hK1 := va_K.moved hvm.symm hK1
          rw [ht] at hx_98 hx_100
          have hEr_97 := any_moved hvm.symm hx_98
          have ner_97_lt : r_97 ≠ lt := by
            rcases hx_99 with h9 | ⟨k9, hk9, e9⟩
            · intro e9; have h8 := (hP 1 _ rfl).lt; rw [← e9] at h8; exact absurd h9 (Nat.not_le.mpr h8)
            · intro e8; obtain ⟨_, _, _, _, h7⟩ := hZ.2.2.2.2.2.1 k9 hk9; exact h7 (by rw [← e9, e8]; exact hD.2 1 _ rfl)
          have ner_97_g1_82 : r_97 ≠ g1_82 := by
            rcases hx_99 with h9 | ⟨k9, hk9, e9⟩
            · intro e9; have h8 := (hP 2 _ rfl).lt; rw [← e9] at h8; exact absurd h9 (Nat.not_le.mpr h8)
            · intro e8; obtain ⟨_, _, _, _, h7⟩ := hZ.2.2.2.2.2.1 k9 hk9; exact h7 (by rw [← e9, e8]; exact hD.2 2 _ rfl)
          obtain ⟨hP, hD⟩ := va_join (wr := [(mx, .inr (14, [.ref lc, .ref lr, .ref kn, .ref lt, .ref ml, .ref mm, .ref lp, .ref lb, .ref mq, .int 1, .int 10, .int 0, .int 0])), (lt, .inr (4, [.int hm_92, .ref g1_82, .int 2])), (g1_82, .inl (kO_83, 10, .inr (.inr (.inr (.inr fb_93)))))]) (w1 := []) hP hD [] [0, 1, 2] rfl rfl (by decide) (by decide) hk1 hFc hP1 hD1
          have hK := hK.app hK1
          generalize H1 = H at hP hS hEr_97 hx_100 ⊢
          have hP : va_P (dC, dI) vwCl [(mx, .inr (14, [.ref lc, .ref lr, .ref kn, .ref lt, .ref ml, .ref mm, .ref lp, .ref lb, .ref mq, .int 1, .int 10, .int 0, .int 0])), (lt, .inr (4, [.int hm_92, .ref g1_82, .int 2])), (g1_82, .inl (kO_83, 10, .inr (.inr (.inr (.inr fb_93)))))] H := hP
          have hD : va_D A [(mx, .inr (14, [.ref lc, .ref lr, .ref kn, .ref lt, .ref ml, .ref mm, .ref lp, .ref lb, .ref mq, .int 1, .int 10, .int 0, .int 0])), (lt, .inr (4, [.int hm_92, .ref g1_82, .int 2])), (g1_82, .inl (kO_83, 10, .inr (.inr (.inr (.inr fb_93)))))] := hD
          have hK : va_K (dC, dI) vwCl [(kO_83, .object "java/lang/Object"), (kO_83, .object "java/lang/Object")] s := hK
          refine W.widen (k := 4) (n := 13) (Nat.le_of_ble_eq_true rfl) (Nat.le_of_ble_eq_true rfl) ?_
          have hPc := hP.sub (ws' := [(lt, .inr (4, [.int hm_92, .ref g1_82, .int 2])), (g1_82, .inl (kO_83, 10, .inr (.inr (.inr (.inr fb_93)))))]) [1, 2] rfl
          have hDc := hD.sub (ws' := [(lt, .inr (4, [.int hm_92, .ref g1_82, .int 2])), (g1_82, .inl (kO_83, 10, .inr (.inr (.inr (.inr fb_93)))))]) [1, 2] (by decide) rfl
          have hKc := hK.sub (tys' := [(kO_83, .object "java/lang/Object")]) [0] rfl
          have hFc := va_free (wc := [(lt, .inr (4, [.int hm_92, .ref g1_82, .int 2])), (g1_82, .inl (kO_83, 10, .inr (.inr (.inr (.inr fb_93)))))]) hD hS hA [1, 2] rfl
          refine va_callFi (va_runF (hK.1 4 _ rfl).2 (As := [.ref r_97]) (rest := []) ⟨hx, hb, hml, hown, hts⟩ (c_AL_addn l dC dI d tc ad lt hm_92 r_97 g1_82 2 kO_83 fb_93 H.size ner_97_lt hx_100 ner_97_g1_82 (by unfold vp_in; decide) (by decide)) (va_cwF 1 hts gX9_feed_Jx4a65c_add_9ea2d_f72Jx4a65c rfl rfl rfl (Ft.fw hF (RJx4a65c, ⟨"java/util/List", "add", "(Ljava/lang/Object;)Z"⟩, yJx4a65c_add_9ea2d) (by decide +kernel)) (by decide +kernel) ⟨Nat.le_of_ble_eq_true rfl, Nat.le_of_ble_eq_true rfl⟩) ⟨PE_blind, va_recv hK hP (ci := 4) (q0 := 1) rfl rfl, PE_pre hPc hKc hDc hF hZ hS hFc hEr_97⟩ rfl rfl hl.1 rfl (lv_room (Nat.le_of_ble_eq_true rfl)) dX9_feed_63 ⟨Nat.le_of_ble_eq_true rfl, Nat.le_of_ble_eq_true rfl⟩) hS (fun q _ h => hFc q h) hFc (fun r_101 u t H1 locs ht hvm hw hB hz1 hk1 hS => ?_)
          obtain ⟨hm_102, fb_103, hP1, hK1, hD1⟩ := hB
          rw [ht] at hP1
          have hK1 := va_K.moved hvm.symm hK1
          obtain ⟨hP, hD⟩ := va_join (wr := [(mx, .inr (14, [.ref lc, .ref lr, .ref kn, .ref lt, .ref ml, .ref mm, .ref lp, .ref lb, .ref mq, .int 1, .int 10, .int 0, .int 0]))]) (w1 := [(lt, .inr (4, [.int hm_102, .ref g1_82, .int (2 + 1)])), (g1_82, .inl (kO_83, 10, .inr (.inr (.inr (.inr fb_103)))))]) hP hD [1, 2] [0] rfl rfl (by decide) (by decide) hk1 hFc hP1 hD1
          have hK := hK.app hK1
          generalize H1 = H at hP hS ⊢
          have hP : va_P (dC, dI) vwCl [(mx, .inr (14, [.ref lc, .ref lr, .ref kn, .ref lt, .ref ml, .ref mm, .ref lp, .ref lb, .ref mq, .int 1, .int 10, .int 0, .int 0])), (lt, .inr (4, [.int hm_102, .ref g1_82, .int (2 + 1)])), (g1_82, .inl (kO_83, 10, .inr (.inr (.inr (.inr fb_103)))))] H := hP
          have hD : va_D A [(mx, .inr (14, [.ref lc, .ref lr, .ref kn, .ref lt, .ref ml, .ref mm, .ref lp, .ref lb, .ref mq, .int 1, .int 10, .int 0, .int 0])), (lt, .inr (4, [.int hm_102, .ref g1_82, .int (2 + 1)])), (g1_82, .inl (kO_83, 10, .inr (.inr (.inr (.inr fb_103)))))] := hD
          have hK : va_K (dC, dI) vwCl [(kO_83, .object "java/lang/Object"), (kO_83, .object "java/lang/Object"), (kO_83, .object "java/lang/Object")] s := hK
          refine W.widen (k := 4) (n := 13) (Nat.le_of_ble_eq_true rfl) (Nat.le_of_ble_eq_true rfl) ?_
          obtain rfl := hw
          have ez_104 : (2 + 1 : Int32) = 3 := by decide
          rw [ez_104] at hP hD
          have hP : va_P (dC, dI) vwCl [(mx, .inr (14, [.ref lc, .ref lr, .ref kn, .ref lt, .ref ml, .ref mm, .ref lp, .ref lb, .ref mq, .int 1, .int 10, .int 0, .int 0])), (lt, .inr (4, [.int hm_102, .ref g1_82, .int 3])), (g1_82, .inl (kO_83, 10, .inr (.inr (.inr (.inr fb_103)))))] H := hP
          have hD : va_D A [(mx, .inr (14, [.ref lc, .ref lr, .ref kn, .ref lt, .ref ml, .ref mm, .ref lp, .ref lb, .ref mq, .int 1, .int 10, .int 0, .int 0])), (lt, .inr (4, [.int hm_102, .ref g1_82, .int 3])), (g1_82, .inl (kO_83, 10, .inr (.inr (.inr (.inr fb_103)))))] := hD
          refine lv_pop hx hb dX9_feed_68 rfl ?_
          refine lv_iinc (v := 0) (lv' := [(4, .int 0), (0, .ref mx), (1, .long c1), (3, .int 4)]) hx hb dX9_feed_69 hl (k := 0) rfl (by decide) (by decide) rfl (fun ls hl => ?_)
          refine lv_goto (tgt := 39) hx hb dX9_feed_72 (by decide) ?_
          refine lv_iload hx hb dX9_feed_39 (lv_at hl 0 rfl) ?_
          refine lv_if_lt (tgt := 75) hx hb dX9_feed_41 (by decide) (fun c_105 => absurd c_105 (by decide)) (fun _ => ?_)
          refine lv_aload_n hx hb dX9_feed_44 rfl (lv_at hl 1 rfl) ?_
          refine va_get (D := (dC, dI)) (ci := 14) (v := .ref lt) (C := RX9) (T := TX9) (N := 13) hx hb hts (fun _ h9 => List.mem_cons_of_mem _ (List.mem_append_left _ (List.mem_append_left _ (List.mem_append_left _ (List.mem_append_right _ (h9)))))) hown hK hP 0 rfl rfl 3 (by decide) (hts (.fieldLink RX9 24 "ExamHallsModel" "tape" "Ljava/util/List;") (List.mem_of_getElem? (i := 1) rfl)) (fun _ h9 => h9) rfl dX9_feed_45 ?_
          refine lv_lload_n hx hb dX9_feed_48 rfl (lv_at hl 2 rfl) ?_
          refine lv_bipush (v := 8) hx hb dX9_feed_49 (by decide) ?_
          refine lv_iload hx hb dX9_feed_51 (lv_at hl 0 rfl) ?_
          refine lv_imul hx hb dX9_feed_53 ?_
          refine lv_topi (fun f_106 ef_106 => ?_)
          obtain rfl : f_106 = 0 := ef_106.trans (by decide)
          refine lv_lshr hx hb dX9_feed_54 rfl ?_
          refine lv_ldc2 (v := 255) hx hb hown (hts (.constantLong RX9 76 (255)) (List.mem_of_getElem? (i := 2) rfl)) dX9_feed_55 ?_
          refine lv_land hx hb dX9_feed_58 ?_
          refine lv_l2i hx hb dX9_feed_59 rfl ?_
          have hPc := hP.sub (ws' := []) [] rfl
          have hDc := hD.sub (ws' := []) [] (by decide) rfl
          have hKc := hK.sub (tys' := []) [] rfl
          have hFc := va_free (wc := []) hD hS hA [] rfl
          refine va_callr (va_runS (As := [.int (((c1 >>> ((0 : Int32).toInt64 &&& 63)) &&& 255).toInt32)]) (rest := [.ref lt]) ⟨hx, hb, hml, hown, hts⟩ (c_valueOf l dC dI d tc ad (((c1 >>> ((0 : Int32).toInt64 &&& 63)) &&& 255).toInt32) H.size) (va_cwS 1 hts gX9_feed_J6_valueOf_2dffe rfl rfl rfl (by decide +kernel) ⟨Nat.le_of_ble_eq_true rfl, Nat.le_of_ble_eq_true rfl⟩) ⟨PZ_blind, PZ_pre hPc hKc hDc hF hZ hS hFc⟩ rfl rfl hl.1 rfl (lv_room (Nat.le_of_ble_eq_true rfl)) dX9_feed_60 ⟨Nat.le_of_ble_eq_true rfl, Nat.le_of_ble_eq_true rfl⟩) hS (fun q _ h => hFc q h) hFc (fun u r_107 t H1 locs ht hvm hw hB hz1 hk1 hS => ?_)
          obtain ⟨hP1, hK1, hD1, hx_108, hx_109, hx_110⟩ := hB
          rw [ht] at hP1
          have hK1 := va_K.moved hvm.symm hK1
          rw [ht] at hx_108 hx_110
          have hEr_107 := any_moved hvm.symm hx_108
          have ner_107_lt : r_107 ≠ lt := by
            rcases hx_109 with h9 | ⟨k9, hk9, e9⟩
            · intro e9; have h8 := (hP 1 _ rfl).lt; rw [← e9] at h8; exact absurd h9 (Nat.not_le.mpr h8)
            · intro e8; obtain ⟨_, _, _, _, h7⟩ := hZ.2.2.2.2.2.1 k9 hk9; exact h7 (by rw [← e9, e8]; exact hD.2 1 _ rfl)
          have ner_107_g1_82 : r_107 ≠ g1_82 := by
            rcases hx_109 with h9 | ⟨k9, hk9, e9⟩
            · intro e9; have h8 := (hP 2 _ rfl).lt; rw [← e9] at h8; exact absurd h9 (Nat.not_le.mpr h8)
            · intro e8; obtain ⟨_, _, _, _, h7⟩ := hZ.2.2.2.2.2.1 k9 hk9; exact h7 (by rw [← e9, e8]; exact hD.2 2 _ rfl)
          obtain ⟨hP, hD⟩ := va_join (wr := [(mx, .inr (14, [.ref lc, .ref lr, .ref kn, .ref lt, .ref ml, .ref mm, .ref lp, .ref lb, .ref mq, .int 1, .int 10, .int 0, .int 0])), (lt, .inr (4, [.int hm_102, .ref g1_82, .int 3])), (g1_82, .inl (kO_83, 10, .inr (.inr (.inr (.inr fb_103)))))]) (w1 := []) hP hD [] [0, 1, 2] rfl rfl (by decide) (by decide) hk1 hFc hP1 hD1
          have hK := hK.app hK1
          generalize H1 = H at hP hS hEr_107 hx_110 ⊢
          have hP : va_P (dC, dI) vwCl [(mx, .inr (14, [.ref lc, .ref lr, .ref kn, .ref lt, .ref ml, .ref mm, .ref lp, .ref lb, .ref mq, .int 1, .int 10, .int 0, .int 0])), (lt, .inr (4, [.int hm_102, .ref g1_82, .int 3])), (g1_82, .inl (kO_83, 10, .inr (.inr (.inr (.inr fb_103)))))] H := hP
          have hD : va_D A [(mx, .inr (14, [.ref lc, .ref lr, .ref kn, .ref lt, .ref ml, .ref mm, .ref lp, .ref lb, .ref mq, .int 1, .int 10, .int 0, .int 0])), (lt, .inr (4, [.int hm_102, .ref g1_82, .int 3])), (g1_82, .inl (kO_83, 10, .inr (.inr (.inr (.inr fb_103)))))] := hD
          have hK : va_K (dC, dI) vwCl [(kO_83, .object "java/lang/Object"), (kO_83, .object "java/lang/Object"), (kO_83, .object "java/lang/Object")] s := hK
          refine W.widen (k := 5) (n := 14) (Nat.le_of_ble_eq_true rfl) (Nat.le_of_ble_eq_true rfl) ?_
          have hPc := hP.sub (ws' := [(lt, .inr (4, [.int hm_102, .ref g1_82, .int 3])), (g1_82, .inl (kO_83, 10, .inr (.inr (.inr (.inr fb_103)))))]) [1, 2] rfl
          have hDc := hD.sub (ws' := [(lt, .inr (4, [.int hm_102, .ref g1_82, .int 3])), (g1_82, .inl (kO_83, 10, .inr (.inr (.inr (.inr fb_103)))))]) [1, 2] (by decide) rfl
          have hKc := hK.sub (tys' := [(kO_83, .object "java/lang/Object")]) [0] rfl
          have hFc := va_free (wc := [(lt, .inr (4, [.int hm_102, .ref g1_82, .int 3])), (g1_82, .inl (kO_83, 10, .inr (.inr (.inr (.inr fb_103)))))]) hD hS hA [1, 2] rfl
          refine va_callFi (va_runF (hK.1 4 _ rfl).2 (As := [.ref r_107]) (rest := []) ⟨hx, hb, hml, hown, hts⟩ (c_AL_addn l dC dI d tc ad lt hm_102 r_107 g1_82 3 kO_83 fb_103 H.size ner_107_lt hx_110 ner_107_g1_82 (by unfold vp_in; decide) (by decide)) (va_cwF 1 hts gX9_feed_Jx4a65c_add_9ea2d_f72Jx4a65c rfl rfl rfl (Ft.fw hF (RJx4a65c, ⟨"java/util/List", "add", "(Ljava/lang/Object;)Z"⟩, yJx4a65c_add_9ea2d) (by decide +kernel)) (by decide +kernel) ⟨Nat.le_of_ble_eq_true rfl, Nat.le_of_ble_eq_true rfl⟩) ⟨PE_blind, va_recv hK hP (ci := 4) (q0 := 1) rfl rfl, PE_pre hPc hKc hDc hF hZ hS hFc hEr_107⟩ rfl rfl hl.1 rfl (lv_room (Nat.le_of_ble_eq_true rfl)) dX9_feed_63 ⟨Nat.le_of_ble_eq_true rfl, Nat.le_of_ble_eq_true rfl⟩) hS (fun q _ h => hFc q h) hFc (fun r_111 u t H1 locs ht hvm hw hB hz1 hk1 hS => ?_)
          obtain ⟨hm_112, fb_113, hP1, hK1, hD1⟩ := hB
          rw [ht] at hP1
          have hK1 := va_K.moved hvm.symm hK1
          obtain ⟨hP, hD⟩ := va_join (wr := [(mx, .inr (14, [.ref lc, .ref lr, .ref kn, .ref lt, .ref ml, .ref mm, .ref lp, .ref lb, .ref mq, .int 1, .int 10, .int 0, .int 0]))]) (w1 := [(lt, .inr (4, [.int hm_112, .ref g1_82, .int (3 + 1)])), (g1_82, .inl (kO_83, 10, .inr (.inr (.inr (.inr fb_113)))))]) hP hD [1, 2] [0] rfl rfl (by decide) (by decide) hk1 hFc hP1 hD1
          have hK := hK.app hK1
          generalize H1 = H at hP hS ⊢
          have hP : va_P (dC, dI) vwCl [(mx, .inr (14, [.ref lc, .ref lr, .ref kn, .ref lt, .ref ml, .ref mm, .ref lp, .ref lb, .ref mq, .int 1, .int 10, .int 0, .int 0])), (lt, .inr (4, [.int hm_112, .ref g1_82, .int (3 + 1)])), (g1_82, .inl (kO_83, 10, .inr (.inr (.inr (.inr fb_113)))))] H := hP
          have hD : va_D A [(mx, .inr (14, [.ref lc, .ref lr, .ref kn, .ref lt, .ref ml, .ref mm, .ref lp, .ref lb, .ref mq, .int 1, .int 10, .int 0, .int 0])), (lt, .inr (4, [.int hm_112, .ref g1_82, .int (3 + 1)])), (g1_82, .inl (kO_83, 10, .inr (.inr (.inr (.inr fb_113)))))] := hD
          have hK : va_K (dC, dI) vwCl [(kO_83, .object "java/lang/Object"), (kO_83, .object "java/lang/Object"), (kO_83, .object "java/lang/Object"), (kO_83, .object "java/lang/Object")] s := hK
          refine W.widen (k := 5) (n := 14) (Nat.le_of_ble_eq_true rfl) (Nat.le_of_ble_eq_true rfl) ?_
          obtain rfl := hw
          have ez_114 : (3 + 1 : Int32) = 4 := by decide
          rw [ez_114] at hP hD
          have hP : va_P (dC, dI) vwCl [(mx, .inr (14, [.ref lc, .ref lr, .ref kn, .ref lt, .ref ml, .ref mm, .ref lp, .ref lb, .ref mq, .int 1, .int 10, .int 0, .int 0])), (lt, .inr (4, [.int hm_112, .ref g1_82, .int 4])), (g1_82, .inl (kO_83, 10, .inr (.inr (.inr (.inr fb_113)))))] H := hP
          have hD : va_D A [(mx, .inr (14, [.ref lc, .ref lr, .ref kn, .ref lt, .ref ml, .ref mm, .ref lp, .ref lb, .ref mq, .int 1, .int 10, .int 0, .int 0])), (lt, .inr (4, [.int hm_112, .ref g1_82, .int 4])), (g1_82, .inl (kO_83, 10, .inr (.inr (.inr (.inr fb_113)))))] := hD
          refine lv_pop hx hb dX9_feed_68 rfl ?_
          refine lv_iinc (v := (-1)) (lv' := [(4, .int (-1)), (0, .ref mx), (1, .long c1), (3, .int 4)]) hx hb dX9_feed_69 hl (k := 0) rfl (by decide) (by decide) rfl (fun ls hl => ?_)
          refine lv_goto (tgt := 39) hx hb dX9_feed_72 (by decide) ?_
          refine lv_iload hx hb dX9_feed_39 (lv_at hl 0 rfl) ?_
          refine lv_if_lt (tgt := 75) hx hb dX9_feed_41 (by decide) (fun _ => ?_) (fun c_115 => absurd (by decide) c_115)
          refine lv_aload_n hx hb dX9_feed_75 rfl (lv_at hl 1 rfl) ?_
          refine va_get (D := (dC, dI)) (ci := 14) (v := .ref lt) (C := RX9) (T := TX9) (N := 13) hx hb hts (fun _ h9 => List.mem_cons_of_mem _ (List.mem_append_left _ (List.mem_append_left _ (List.mem_append_left _ (List.mem_append_right _ (h9)))))) hown hK hP 0 rfl rfl 3 (by decide) (hts (.fieldLink RX9 24 "ExamHallsModel" "tape" "Ljava/util/List;") (List.mem_of_getElem? (i := 1) rfl)) (fun _ h9 => h9) rfl dX9_feed_76 ?_
          refine va_csFi (va_runF (hK.1 4 _ rfl).2 (As := []) (rest := []) ⟨hx, hb, hml, hown, hts⟩ (c_AL_size l dC dI lt hm_112 g1_82 4) (va_cwF 0 hts gX9_feed_Jx4a65c_size_8abf5_f56Jx4a65c rfl rfl rfl (Ft.fw hF (RJx4a65c, ⟨"java/util/List", "size", "()I"⟩, yJx4a65c_size_8abf5) (by decide +kernel)) (by decide +kernel) ⟨Nat.le_of_ble_eq_true rfl, Nat.le_of_ble_eq_true rfl⟩) ⟨PS_blind, va_recv hK hP (ci := 4) (q0 := 1) rfl rfl, PS_pre (hP.sub (ws' := [(lt, .inr (4, [.int hm_112, .ref g1_82, .int 4]))]) [1] rfl) (hK.sub (tys' := []) [] rfl) hF⟩ rfl rfl hl.1 rfl (lv_room (Nat.le_of_ble_eq_true rfl)) dX9_feed_79 ⟨Nat.le_of_ble_eq_true rfl, Nat.le_of_ble_eq_true rfl⟩) (fun r_116 hr_116 => ?_)
          subst hr_116
          refine W.widen (k := 9) (n := 18) (Nat.le_of_ble_eq_true rfl) (Nat.le_of_ble_eq_true rfl) ?_
          exact W.iret (v := 4) hx hb hr (fun t ht hW => ⟨⟨_, (), rfl, (by decide), trivial⟩, hS.F ht⟩) hS.2.2 dX9_feed_84
        · have hl : lv_has ls 5 [(4, .int (5 - 1)), (0, .ref mx), (1, .long c1), (3, .int 5)] := hl
          have e9 : (5 : Int32) - 1 = 4 := by decide
          rw [e9] at hl
          refine lv_iload hx hb dX9_feed_39 (lv_at hl 0 rfl) ?_
          refine lv_if_lt (tgt := 75) hx hb dX9_feed_41 (by decide) (fun c_117 => absurd c_117 (by decide)) (fun _ => ?_)
          refine lv_aload_n hx hb dX9_feed_44 rfl (lv_at hl 1 rfl) ?_
          refine va_get (D := (dC, dI)) (ci := 14) (v := .ref lt) (C := RX9) (T := TX9) (N := 13) hx hb hts (fun _ h9 => List.mem_cons_of_mem _ (List.mem_append_left _ (List.mem_append_left _ (List.mem_append_left _ (List.mem_append_right _ (h9)))))) hown hK hP 0 rfl rfl 3 (by decide) (hts (.fieldLink RX9 24 "ExamHallsModel" "tape" "Ljava/util/List;") (List.mem_of_getElem? (i := 1) rfl)) (fun _ h9 => h9) rfl dX9_feed_45 ?_
          refine lv_lload_n hx hb dX9_feed_48 rfl (lv_at hl 2 rfl) ?_
          refine lv_bipush (v := 8) hx hb dX9_feed_49 (by decide) ?_
          refine lv_iload hx hb dX9_feed_51 (lv_at hl 0 rfl) ?_
          refine lv_imul hx hb dX9_feed_53 ?_
          refine lv_topi (fun f_118 ef_118 => ?_)
          obtain rfl : f_118 = 32 := ef_118.trans (by decide)
          refine lv_lshr hx hb dX9_feed_54 rfl ?_
          refine lv_ldc2 (v := 255) hx hb hown (hts (.constantLong RX9 76 (255)) (List.mem_of_getElem? (i := 2) rfl)) dX9_feed_55 ?_
          refine lv_land hx hb dX9_feed_58 ?_
          refine lv_l2i hx hb dX9_feed_59 rfl ?_
          have hPc := hP.sub (ws' := []) [] rfl
          have hDc := hD.sub (ws' := []) [] (by decide) rfl
          have hKc := hK.sub (tys' := []) [] rfl
          have hFc := va_free (wc := []) hD hS hA [] rfl
          refine va_callr (va_runS (As := [.int (((c1 >>> ((32 : Int32).toInt64 &&& 63)) &&& 255).toInt32)]) (rest := [.ref lt]) ⟨hx, hb, hml, hown, hts⟩ (c_valueOf l dC dI d tc ad (((c1 >>> ((32 : Int32).toInt64 &&& 63)) &&& 255).toInt32) s.heap.size) (va_cwS 1 hts gX9_feed_J6_valueOf_2dffe rfl rfl rfl (by decide +kernel) ⟨Nat.le_of_ble_eq_true rfl, Nat.le_of_ble_eq_true rfl⟩) ⟨PZ_blind, PZ_pre hPc hKc hDc hF hZ hS hFc⟩ rfl rfl hl.1 rfl (lv_room (Nat.le_of_ble_eq_true rfl)) dX9_feed_60 ⟨Nat.le_of_ble_eq_true rfl, Nat.le_of_ble_eq_true rfl⟩) hS (fun q _ h => hFc q h) hFc (fun u r_119 t H1 locs ht hvm hw hB hz1 hk1 hS => ?_)
          obtain ⟨hP1, hK1, hD1, hx_120, hx_121, hx_122⟩ := hB
          rw [ht] at hP1
          have hK1 := va_K.moved hvm.symm hK1
          rw [ht] at hx_120 hx_122
          have hEr_119 := any_moved hvm.symm hx_120
          have ner_119_lt : r_119 ≠ lt := by
            rcases hx_121 with h9 | ⟨k9, hk9, e9⟩
            · intro e9; have h8 := (hP 1 _ rfl).lt; rw [← e9] at h8; exact absurd h9 (Nat.not_le.mpr h8)
            · intro e8; obtain ⟨_, _, _, _, h7⟩ := hZ.2.2.2.2.2.1 k9 hk9; exact h7 (by rw [← e9, e8]; exact hD.2 1 _ rfl)
          obtain ⟨hP, hD⟩ := va_join (wr := [(mx, .inr (14, [.ref lc, .ref lr, .ref kn, .ref lt, .ref ml, .ref mm, .ref lp, .ref lb, .ref mq, .int 1, .int 10, .int 0, .int 0])), (lt, .inr (4, [.int 0, .ref d, .int 0]))]) (w1 := []) hP hD [] [0, 1] rfl rfl (by decide) (by decide) hk1 hFc hP1 hD1
          have hK := hK.app hK1
          generalize H1 = H at hP hS hEr_119 hx_122 ⊢
          have hP : va_P (dC, dI) vwCl [(mx, .inr (14, [.ref lc, .ref lr, .ref kn, .ref lt, .ref ml, .ref mm, .ref lp, .ref lb, .ref mq, .int 1, .int 10, .int 0, .int 0])), (lt, .inr (4, [.int 0, .ref d, .int 0]))] H := hP
          have hD : va_D A [(mx, .inr (14, [.ref lc, .ref lr, .ref kn, .ref lt, .ref ml, .ref mm, .ref lp, .ref lb, .ref mq, .int 1, .int 10, .int 0, .int 0])), (lt, .inr (4, [.int 0, .ref d, .int 0]))] := hD
          have hK : va_K (dC, dI) vwCl [] s := hK
          refine W.widen (k := 1) (n := 1) (Nat.le_of_ble_eq_true rfl) (Nat.le_of_ble_eq_true rfl) ?_
          have hPc := hP.sub (ws' := [(lt, .inr (4, [.int 0, .ref d, .int 0]))]) [1] rfl
          have hDc := hD.sub (ws' := [(lt, .inr (4, [.int 0, .ref d, .int 0]))]) [1] (by decide) rfl
          have hKc := hK.sub (tys' := []) [] rfl
          have hFc := va_free (wc := [(lt, .inr (4, [.int 0, .ref d, .int 0]))]) hD hS hA [1] rfl
          refine va_callFi (va_runF (hK.1 4 _ rfl).2 (As := [.ref r_119]) (rest := []) ⟨hx, hb, hml, hown, hts⟩ (c_AL_addf l dC dI d tc ad lt 0 r_119 H.size ner_119_lt hx_122) (va_cwF 1 hts gX9_feed_Jx4a65c_add_9ea2d_f72Jx4a65c rfl rfl rfl (Ft.fw hF (RJx4a65c, ⟨"java/util/List", "add", "(Ljava/lang/Object;)Z"⟩, yJx4a65c_add_9ea2d) (by decide +kernel)) (by decide +kernel) ⟨Nat.le_of_ble_eq_true rfl, Nat.le_of_ble_eq_true rfl⟩) ⟨PE_blind, va_recv hK hP (ci := 4) (q0 := 1) rfl rfl, PE_pre hPc hKc hDc hF hZ hS hFc hEr_119⟩ rfl rfl hl.1 rfl (lv_room (Nat.le_of_ble_eq_true rfl)) dX9_feed_63 ⟨Nat.le_of_ble_eq_true rfl, Nat.le_of_ble_eq_true rfl⟩) hS (fun q _ h => hFc q h) hFc (fun r_123 u t H1 locs ht hvm hw hB hz1 hk1 hS => ?_)
          obtain ⟨hm_124, g1_125, kO_126, fa_127, hP1, hK1, hD1⟩ := hB
          rw [ht] at hP1
          have hK1 := va_K.moved hvm.symm hK1
          obtain ⟨hP, hD⟩ := va_join (wr := [(mx, .inr (14, [.ref lc, .ref lr, .ref kn, .ref lt, .ref ml, .ref mm, .ref lp, .ref lb, .ref mq, .int 1, .int 10, .int 0, .int 0]))]) (w1 := [(lt, .inr (4, [.int hm_124, .ref g1_125, .int 1])), (g1_125, .inl (kO_126, 10, .inr (.inr (.inr (.inr fa_127)))))]) hP hD [1] [0] rfl rfl (by decide) (by decide) hk1 hFc hP1 hD1
          have hK := hK.app hK1
          generalize H1 = H at hP hS ⊢
          have hP : va_P (dC, dI) vwCl [(mx, .inr (14, [.ref lc, .ref lr, .ref kn, .ref lt, .ref ml, .ref mm, .ref lp, .ref lb, .ref mq, .int 1, .int 10, .int 0, .int 0])), (lt, .inr (4, [.int hm_124, .ref g1_125, .int 1])), (g1_125, .inl (kO_126, 10, .inr (.inr (.inr (.inr fa_127)))))] H := hP
          have hD : va_D A [(mx, .inr (14, [.ref lc, .ref lr, .ref kn, .ref lt, .ref ml, .ref mm, .ref lp, .ref lb, .ref mq, .int 1, .int 10, .int 0, .int 0])), (lt, .inr (4, [.int hm_124, .ref g1_125, .int 1])), (g1_125, .inl (kO_126, 10, .inr (.inr (.inr (.inr fa_127)))))] := hD
          have hK : va_K (dC, dI) vwCl [(kO_126, .object "java/lang/Object")] s := hK
          refine W.widen (k := 2) (n := 11) (Nat.le_of_ble_eq_true rfl) (Nat.le_of_ble_eq_true rfl) ?_
          obtain rfl := hw
          refine lv_pop hx hb dX9_feed_68 rfl ?_
          refine lv_iinc (v := 3) (lv' := [(4, .int 3), (0, .ref mx), (1, .long c1), (3, .int 5)]) hx hb dX9_feed_69 hl (k := 0) rfl (by decide) (by decide) rfl (fun ls hl => ?_)
          refine lv_goto (tgt := 39) hx hb dX9_feed_72 (by decide) ?_
          refine lv_iload hx hb dX9_feed_39 (lv_at hl 0 rfl) ?_
          refine lv_if_lt (tgt := 75) hx hb dX9_feed_41 (by decide) (fun c_128 => absurd c_128 (by decide)) (fun _ => ?_)
          refine lv_aload_n hx hb dX9_feed_44 rfl (lv_at hl 1 rfl) ?_
          refine va_get (D := (dC, dI)) (ci := 14) (v := .ref lt) (C := RX9) (T := TX9) (N := 13) hx hb hts (fun _ h9 => List.mem_cons_of_mem _ (List.mem_append_left _ (List.mem_append_left _ (List.mem_append_left _ (List.mem_append_right _ (h9)))))) hown hK hP 0 rfl rfl 3 (by decide) (hts (.fieldLink RX9 24 "ExamHallsModel" "tape" "Ljava/util/List;") (List.mem_of_getElem? (i := 1) rfl)) (fun _ h9 => h9) rfl dX9_feed_45 ?_
          refine lv_lload_n hx hb dX9_feed_48 rfl (lv_at hl 2 rfl) ?_
          refine lv_bipush (v := 8) hx hb dX9_feed_49 (by decide) ?_
          refine lv_iload hx hb dX9_feed_51 (lv_at hl 0 rfl) ?_
          refine lv_imul hx hb dX9_feed_53 ?_
          refine lv_topi (fun f_129 ef_129 => ?_)
          obtain rfl : f_129 = 24 := ef_129.trans (by decide)
          refine lv_lshr hx hb dX9_feed_54 rfl ?_
          refine lv_ldc2 (v := 255) hx hb hown (hts (.constantLong RX9 76 (255)) (List.mem_of_getElem? (i := 2) rfl)) dX9_feed_55 ?_
          refine lv_land hx hb dX9_feed_58 ?_
          refine lv_l2i hx hb dX9_feed_59 rfl ?_
          have hPc := hP.sub (ws' := []) [] rfl
          have hDc := hD.sub (ws' := []) [] (by decide) rfl
          have hKc := hK.sub (tys' := []) [] rfl
          have hFc := va_free (wc := []) hD hS hA [] rfl
          refine va_callr (va_runS (As := [.int (((c1 >>> ((24 : Int32).toInt64 &&& 63)) &&& 255).toInt32)]) (rest := [.ref lt]) ⟨hx, hb, hml, hown, hts⟩ (c_valueOf l dC dI d tc ad (((c1 >>> ((24 : Int32).toInt64 &&& 63)) &&& 255).toInt32) H.size) (va_cwS 1 hts gX9_feed_J6_valueOf_2dffe rfl rfl rfl (by decide +kernel) ⟨Nat.le_of_ble_eq_true rfl, Nat.le_of_ble_eq_true rfl⟩) ⟨PZ_blind, PZ_pre hPc hKc hDc hF hZ hS hFc⟩ rfl rfl hl.1 rfl (lv_room (Nat.le_of_ble_eq_true rfl)) dX9_feed_60 ⟨Nat.le_of_ble_eq_true rfl, Nat.le_of_ble_eq_true rfl⟩) hS (fun q _ h => hFc q h) hFc (fun u r_130 t H1 locs ht hvm hw hB hz1 hk1 hS => ?_)
          obtain ⟨hP1, hK1, hD1, hx_131, hx_132, hx_133⟩ := hB
          rw [ht] at hP1
          have hK1 := va_K.moved hvm.symm hK1
          rw [ht] at hx_131 hx_133
          have hEr_130 := any_moved hvm.symm hx_131
          have ner_130_lt : r_130 ≠ lt := by
            rcases hx_132 with h9 | ⟨k9, hk9, e9⟩
            · intro e9; have h8 := (hP 1 _ rfl).lt; rw [← e9] at h8; exact absurd h9 (Nat.not_le.mpr h8)
            · intro e8; obtain ⟨_, _, _, _, h7⟩ := hZ.2.2.2.2.2.1 k9 hk9; exact h7 (by rw [← e9, e8]; exact hD.2 1 _ rfl)
          have ner_130_g1_125 : r_130 ≠ g1_125 := by
            rcases hx_132 with h9 | ⟨k9, hk9, e9⟩
            · intro e9; have h8 := (hP 2 _ rfl).lt; rw [← e9] at h8; exact absurd h9 (Nat.not_le.mpr h8)
            · intro e8; obtain ⟨_, _, _, _, h7⟩ := hZ.2.2.2.2.2.1 k9 hk9; exact h7 (by rw [← e9, e8]; exact hD.2 2 _ rfl)
          obtain ⟨hP, hD⟩ := va_join (wr := [(mx, .inr (14, [.ref lc, .ref lr, .ref kn, .ref lt, .ref ml, .ref mm, .ref lp, .ref lb, .ref mq, .int 1, .int 10, .int 0, .int 0])), (lt, .inr (4, [.int hm_124, .ref g1_125, .int 1])), (g1_125, .inl (kO_126, 10, .inr (.inr (.inr (.inr fa_127)))))]) (w1 := []) hP hD [] [0, 1, 2] rfl rfl (by decide) (by decide) hk1 hFc hP1 hD1
          have hK := hK.app hK1
          generalize H1 = H at hP hS hEr_130 hx_133 ⊢
          have hP : va_P (dC, dI) vwCl [(mx, .inr (14, [.ref lc, .ref lr, .ref kn, .ref lt, .ref ml, .ref mm, .ref lp, .ref lb, .ref mq, .int 1, .int 10, .int 0, .int 0])), (lt, .inr (4, [.int hm_124, .ref g1_125, .int 1])), (g1_125, .inl (kO_126, 10, .inr (.inr (.inr (.inr fa_127)))))] H := hP
          have hD : va_D A [(mx, .inr (14, [.ref lc, .ref lr, .ref kn, .ref lt, .ref ml, .ref mm, .ref lp, .ref lb, .ref mq, .int 1, .int 10, .int 0, .int 0])), (lt, .inr (4, [.int hm_124, .ref g1_125, .int 1])), (g1_125, .inl (kO_126, 10, .inr (.inr (.inr (.inr fa_127)))))] := hD
          have hK : va_K (dC, dI) vwCl [(kO_126, .object "java/lang/Object")] s := hK
          refine W.widen (k := 3) (n := 12) (Nat.le_of_ble_eq_true rfl) (Nat.le_of_ble_eq_true rfl) ?_
          have hPc := hP.sub (ws' := [(lt, .inr (4, [.int hm_124, .ref g1_125, .int 1])), (g1_125, .inl (kO_126, 10, .inr (.inr (.inr (.inr fa_127)))))]) [1, 2] rfl
          have hDc := hD.sub (ws' := [(lt, .inr (4, [.int hm_124, .ref g1_125, .int 1])), (g1_125, .inl (kO_126, 10, .inr (.inr (.inr (.inr fa_127)))))]) [1, 2] (by decide) rfl
          have hKc := hK.sub (tys' := [(kO_126, .object "java/lang/Object")]) [0] rfl
          have hFc := va_free (wc := [(lt, .inr (4, [.int hm_124, .ref g1_125, .int 1])), (g1_125, .inl (kO_126, 10, .inr (.inr (.inr (.inr fa_127)))))]) hD hS hA [1, 2] rfl
          refine va_callFi (va_runF (hK.1 4 _ rfl).2 (As := [.ref r_130]) (rest := []) ⟨hx, hb, hml, hown, hts⟩ (c_AL_addn l dC dI d tc ad lt hm_124 r_130 g1_125 1 kO_126 fa_127 H.size ner_130_lt hx_133 ner_130_g1_125 (by unfold vp_in; decide) (by decide)) (va_cwF 1 hts gX9_feed_Jx4a65c_add_9ea2d_f72Jx4a65c rfl rfl rfl (Ft.fw hF (RJx4a65c, ⟨"java/util/List", "add", "(Ljava/lang/Object;)Z"⟩, yJx4a65c_add_9ea2d) (by decide +kernel)) (by decide +kernel) ⟨Nat.le_of_ble_eq_true rfl, Nat.le_of_ble_eq_true rfl⟩) ⟨PE_blind, va_recv hK hP (ci := 4) (q0 := 1) rfl rfl, PE_pre hPc hKc hDc hF hZ hS hFc hEr_130⟩ rfl rfl hl.1 rfl (lv_room (Nat.le_of_ble_eq_true rfl)) dX9_feed_63 ⟨Nat.le_of_ble_eq_true rfl, Nat.le_of_ble_eq_true rfl⟩) hS (fun q _ h => hFc q h) hFc (fun r_134 u t H1 locs ht hvm hw hB hz1 hk1 hS => ?_)
          obtain ⟨hm_135, fb_136, hP1, hK1, hD1⟩ := hB
          rw [ht] at hP1
          have hK1 := va_K.moved hvm.symm hK1
          obtain ⟨hP, hD⟩ := va_join (wr := [(mx, .inr (14, [.ref lc, .ref lr, .ref kn, .ref lt, .ref ml, .ref mm, .ref lp, .ref lb, .ref mq, .int 1, .int 10, .int 0, .int 0]))]) (w1 := [(lt, .inr (4, [.int hm_135, .ref g1_125, .int (1 + 1)])), (g1_125, .inl (kO_126, 10, .inr (.inr (.inr (.inr fb_136)))))]) hP hD [1, 2] [0] rfl rfl (by decide) (by decide) hk1 hFc hP1 hD1
          have hK := hK.app hK1
          generalize H1 = H at hP hS ⊢
          have hP : va_P (dC, dI) vwCl [(mx, .inr (14, [.ref lc, .ref lr, .ref kn, .ref lt, .ref ml, .ref mm, .ref lp, .ref lb, .ref mq, .int 1, .int 10, .int 0, .int 0])), (lt, .inr (4, [.int hm_135, .ref g1_125, .int (1 + 1)])), (g1_125, .inl (kO_126, 10, .inr (.inr (.inr (.inr fb_136)))))] H := hP
          have hD : va_D A [(mx, .inr (14, [.ref lc, .ref lr, .ref kn, .ref lt, .ref ml, .ref mm, .ref lp, .ref lb, .ref mq, .int 1, .int 10, .int 0, .int 0])), (lt, .inr (4, [.int hm_135, .ref g1_125, .int (1 + 1)])), (g1_125, .inl (kO_126, 10, .inr (.inr (.inr (.inr fb_136)))))] := hD
          have hK : va_K (dC, dI) vwCl [(kO_126, .object "java/lang/Object"), (kO_126, .object "java/lang/Object")] s := hK
          refine W.widen (k := 3) (n := 12) (Nat.le_of_ble_eq_true rfl) (Nat.le_of_ble_eq_true rfl) ?_
          obtain rfl := hw
          have ez_137 : (1 + 1 : Int32) = 2 := by decide
          rw [ez_137] at hP hD
          have hP : va_P (dC, dI) vwCl [(mx, .inr (14, [.ref lc, .ref lr, .ref kn, .ref lt, .ref ml, .ref mm, .ref lp, .ref lb, .ref mq, .int 1, .int 10, .int 0, .int 0])), (lt, .inr (4, [.int hm_135, .ref g1_125, .int 2])), (g1_125, .inl (kO_126, 10, .inr (.inr (.inr (.inr fb_136)))))] H := hP
          have hD : va_D A [(mx, .inr (14, [.ref lc, .ref lr, .ref kn, .ref lt, .ref ml, .ref mm, .ref lp, .ref lb, .ref mq, .int 1, .int 10, .int 0, .int 0])), (lt, .inr (4, [.int hm_135, .ref g1_125, .int 2])), (g1_125, .inl (kO_126, 10, .inr (.inr (.inr (.inr fb_136)))))] := hD
          refine lv_pop hx hb dX9_feed_68 rfl ?_
          refine lv_iinc (v := 2) (lv' := [(4, .int 2), (0, .ref mx), (1, .long c1), (3, .int 5)]) hx hb dX9_feed_69 hl (k := 0) rfl (by decide) (by decide) rfl (fun ls hl => ?_)
          refine lv_goto (tgt := 39) hx hb dX9_feed_72 (by decide) ?_
          refine lv_iload hx hb dX9_feed_39 (lv_at hl 0 rfl) ?_
          refine lv_if_lt (tgt := 75) hx hb dX9_feed_41 (by decide) (fun c_138 => absurd c_138 (by decide)) (fun _ => ?_)
          refine lv_aload_n hx hb dX9_feed_44 rfl (lv_at hl 1 rfl) ?_
          refine va_get (D := (dC, dI)) (ci := 14) (v := .ref lt) (C := RX9) (T := TX9) (N := 13) hx hb hts (fun _ h9 => List.mem_cons_of_mem _ (List.mem_append_left _ (List.mem_append_left _ (List.mem_append_left _ (List.mem_append_right _ (h9)))))) hown hK hP 0 rfl rfl 3 (by decide) (hts (.fieldLink RX9 24 "ExamHallsModel" "tape" "Ljava/util/List;") (List.mem_of_getElem? (i := 1) rfl)) (fun _ h9 => h9) rfl dX9_feed_45 ?_
          refine lv_lload_n hx hb dX9_feed_48 rfl (lv_at hl 2 rfl) ?_
          refine lv_bipush (v := 8) hx hb dX9_feed_49 (by decide) ?_
          refine lv_iload hx hb dX9_feed_51 (lv_at hl 0 rfl) ?_
          refine lv_imul hx hb dX9_feed_53 ?_
          refine lv_topi (fun f_139 ef_139 => ?_)
          obtain rfl : f_139 = 16 := ef_139.trans (by decide)
          refine lv_lshr hx hb dX9_feed_54 rfl ?_
          refine lv_ldc2 (v := 255) hx hb hown (hts (.constantLong RX9 76 (255)) (List.mem_of_getElem? (i := 2) rfl)) dX9_feed_55 ?_
          refine lv_land hx hb dX9_feed_58 ?_
          refine lv_l2i hx hb dX9_feed_59 rfl ?_
          have hPc := hP.sub (ws' := []) [] rfl
          have hDc := hD.sub (ws' := []) [] (by decide) rfl
          have hKc := hK.sub (tys' := []) [] rfl
          have hFc := va_free (wc := []) hD hS hA [] rfl
          refine va_callr (va_runS (As := [.int (((c1 >>> ((16 : Int32).toInt64 &&& 63)) &&& 255).toInt32)]) (rest := [.ref lt]) ⟨hx, hb, hml, hown, hts⟩ (c_valueOf l dC dI d tc ad (((c1 >>> ((16 : Int32).toInt64 &&& 63)) &&& 255).toInt32) H.size) (va_cwS 1 hts gX9_feed_J6_valueOf_2dffe rfl rfl rfl (by decide +kernel) ⟨Nat.le_of_ble_eq_true rfl, Nat.le_of_ble_eq_true rfl⟩) ⟨PZ_blind, PZ_pre hPc hKc hDc hF hZ hS hFc⟩ rfl rfl hl.1 rfl (lv_room (Nat.le_of_ble_eq_true rfl)) dX9_feed_60 ⟨Nat.le_of_ble_eq_true rfl, Nat.le_of_ble_eq_true rfl⟩) hS (fun q _ h => hFc q h) hFc (fun u r_140 t H1 locs ht hvm hw hB hz1 hk1 hS => ?_)
          obtain ⟨hP1, hK1, hD1, hx_141, hx_142, hx_143⟩ := hB
          rw [ht] at hP1
          have hK1 := va_K.moved hvm.symm hK1
          rw [ht] at hx_141 hx_143
          have hEr_140 := any_moved hvm.symm hx_141
          have ner_140_lt : r_140 ≠ lt := by
            rcases hx_142 with h9 | ⟨k9, hk9, e9⟩
            · intro e9; have h8 := (hP 1 _ rfl).lt; rw [← e9] at h8; exact absurd h9 (Nat.not_le.mpr h8)
            · intro e8; obtain ⟨_, _, _, _, h7⟩ := hZ.2.2.2.2.2.1 k9 hk9; exact h7 (by rw [← e9, e8]; exact hD.2 1 _ rfl)
          have ner_140_g1_125 : r_140 ≠ g1_125 := by
            rcases hx_142 with h9 | ⟨k9, hk9, e9⟩
            · intro e9; have h8 := (hP 2 _ rfl).lt; rw [← e9] at h8; exact absurd h9 (Nat.not_le.mpr h8)
            · intro e8; obtain ⟨_, _, _, _, h7⟩ := hZ.2.2.2.2.2.1 k9 hk9; exact h7 (by rw [← e9, e8]; exact hD.2 2 _ rfl)
          obtain ⟨hP, hD⟩ := va_join (wr := [(mx, .inr (14, [.ref lc, .ref lr, .ref kn, .ref lt, .ref ml, .ref mm, .ref lp, .ref lb, .ref mq, .int 1, .int 10, .int 0, .int 0])), (lt, .inr (4, [.int hm_135, .ref g1_125, .int 2])), (g1_125, .inl (kO_126, 10, .inr (.inr (.inr (.inr fb_136)))))]) (w1 := []) hP hD [] [0, 1, 2] rfl rfl (by decide) (by decide) hk1 hFc hP1 hD1
          have hK := hK.app hK1
          generalize H1 = H at hP hS hEr_140 hx_143 ⊢
          have hP : va_P (dC, dI) vwCl [(mx, .inr (14, [.ref lc, .ref lr, .ref kn, .ref lt, .ref ml, .ref mm, .ref lp, .ref lb, .ref mq, .int 1, .int 10, .int 0, .int 0])), (lt, .inr (4, [.int hm_135, .ref g1_125, .int 2])), (g1_125, .inl (kO_126, 10, .inr (.inr (.inr (.inr fb_136)))))] H := hP
          have hD : va_D A [(mx, .inr (14, [.ref lc, .ref lr, .ref kn, .ref lt, .ref ml, .ref mm, .ref lp, .ref lb, .ref mq, .int 1, .int 10, .int 0, .int 0])), (lt, .inr (4, [.int hm_135, .ref g1_125, .int 2])), (g1_125, .inl (kO_126, 10, .inr (.inr (.inr (.inr fb_136)))))] := hD
          have hK : va_K (dC, dI) vwCl [(kO_126, .object "java/lang/Object"), (kO_126, .object "java/lang/Object")] s := hK
          refine W.widen (k := 4) (n := 13) (Nat.le_of_ble_eq_true rfl) (Nat.le_of_ble_eq_true rfl) ?_
          have hPc := hP.sub (ws' := [(lt, .inr (4, [.int hm_135, .ref g1_125, .int 2])), (g1_125, .inl (kO_126, 10, .inr (.inr (.inr (.inr fb_136)))))]) [1, 2] rfl
          have hDc := hD.sub (ws' := [(lt, .inr (4, [.int hm_135, .ref g1_125, .int 2])), (g1_125, .inl (kO_126, 10, .inr (.inr (.inr (.inr fb_136)))))]) [1, 2] (by decide) rfl
          have hKc := hK.sub (tys' := [(kO_126, .object "java/lang/Object")]) [0] rfl
          have hFc := va_free (wc := [(lt, .inr (4, [.int hm_135, .ref g1_125, .int 2])), (g1_125, .inl (kO_126, 10, .inr (.inr (.inr (.inr fb_136)))))]) hD hS hA [1, 2] rfl
          refine va_callFi (va_runF (hK.1 4 _ rfl).2 (As := [.ref r_140]) (rest := []) ⟨hx, hb, hml, hown, hts⟩ (c_AL_addn l dC dI d tc ad lt hm_135 r_140 g1_125 2 kO_126 fb_136 H.size ner_140_lt hx_143 ner_140_g1_125 (by unfold vp_in; decide) (by decide)) (va_cwF 1 hts gX9_feed_Jx4a65c_add_9ea2d_f72Jx4a65c rfl rfl rfl (Ft.fw hF (RJx4a65c, ⟨"java/util/List", "add", "(Ljava/lang/Object;)Z"⟩, yJx4a65c_add_9ea2d) (by decide +kernel)) (by decide +kernel) ⟨Nat.le_of_ble_eq_true rfl, Nat.le_of_ble_eq_true rfl⟩) ⟨PE_blind, va_recv hK hP (ci := 4) (q0 := 1) rfl rfl, PE_pre hPc hKc hDc hF hZ hS hFc hEr_140⟩ rfl rfl hl.1 rfl (lv_room (Nat.le_of_ble_eq_true rfl)) dX9_feed_63 ⟨Nat.le_of_ble_eq_true rfl, Nat.le_of_ble_eq_true rfl⟩) hS (fun q _ h => hFc q h) hFc (fun r_144 u t H1 locs ht hvm hw hB hz1 hk1 hS => ?_)
          obtain ⟨hm_145, fb_146, hP1, hK1, hD1⟩ := hB
          rw [ht] at hP1
          have hK1 := va_K.moved hvm.symm hK1
          obtain ⟨hP, hD⟩ := va_join (wr := [(mx, .inr (14, [.ref lc, .ref lr, .ref kn, .ref lt, .ref ml, .ref mm, .ref lp, .ref lb, .ref mq, .int 1, .int 10, .int 0, .int 0]))]) (w1 := [(lt, .inr (4, [.int hm_145, .ref g1_125, .int (2 + 1)])), (g1_125, .inl (kO_126, 10, .inr (.inr (.inr (.inr fb_146)))))]) hP hD [1, 2] [0] rfl rfl (by decide) (by decide) hk1 hFc hP1 hD1
          have hK := hK.app hK1
          generalize H1 = H at hP hS ⊢
          have hP : va_P (dC, dI) vwCl [(mx, .inr (14, [.ref lc, .ref lr, .ref kn, .ref lt, .ref ml, .ref mm, .ref lp, .ref lb, .ref mq, .int 1, .int 10, .int 0, .int 0])), (lt, .inr (4, [.int hm_145, .ref g1_125, .int (2 + 1)])), (g1_125, .inl (kO_126, 10, .inr (.inr (.inr (.inr fb_146)))))] H := hP
          have hD : va_D A [(mx, .inr (14, [.ref lc, .ref lr, .ref kn, .ref lt, .ref ml, .ref mm, .ref lp, .ref lb, .ref mq, .int 1, .int 10, .int 0, .int 0])), (lt, .inr (4, [.int hm_145, .ref g1_125, .int (2 + 1)])), (g1_125, .inl (kO_126, 10, .inr (.inr (.inr (.inr fb_146)))))] := hD
          have hK : va_K (dC, dI) vwCl [(kO_126, .object "java/lang/Object"), (kO_126, .object "java/lang/Object"), (kO_126, .object "java/lang/Object")] s := hK
          refine W.widen (k := 4) (n := 13) (Nat.le_of_ble_eq_true rfl) (Nat.le_of_ble_eq_true rfl) ?_
          obtain rfl := hw
          have ez_147 : (2 + 1 : Int32) = 3 := by decide
          rw [ez_147] at hP hD
          have hP : va_P (dC, dI) vwCl [(mx, .inr (14, [.ref lc, .ref lr, .ref kn, .ref lt, .ref ml, .ref mm, .ref lp, .ref lb, .ref mq, .int 1, .int 10, .int 0, .int 0])), (lt, .inr (4, [.int hm_145, .ref g1_125, .int 3])), (g1_125, .inl (kO_126, 10, .inr (.inr (.inr (.inr fb_146)))))] H := hP
          have hD : va_D A [(mx, .inr (14, [.ref lc, .ref lr, .ref kn, .ref lt, .ref ml, .ref mm, .ref lp, .ref lb, .ref mq, .int 1, .int 10, .int 0, .int 0])), (lt, .inr (4, [.int hm_145, .ref g1_125, .int 3])), (g1_125, .inl (kO_126, 10, .inr (.inr (.inr (.inr fb_146)))))] := hD
          refine lv_pop hx hb dX9_feed_68 rfl ?_
          refine lv_iinc (v := 1) (lv' := [(4, .int 1), (0, .ref mx), (1, .long c1), (3, .int 5)]) hx hb dX9_feed_69 hl (k := 0) rfl (by decide) (by decide) rfl (fun ls hl => ?_)
          refine lv_goto (tgt := 39) hx hb dX9_feed_72 (by decide) ?_
          refine lv_iload hx hb dX9_feed_39 (lv_at hl 0 rfl) ?_
          refine lv_if_lt (tgt := 75) hx hb dX9_feed_41 (by decide) (fun c_148 => absurd c_148 (by decide)) (fun _ => ?_)
          refine lv_aload_n hx hb dX9_feed_44 rfl (lv_at hl 1 rfl) ?_
          refine va_get (D := (dC, dI)) (ci := 14) (v := .ref lt) (C := RX9) (T := TX9) (N := 13) hx hb hts (fun _ h9 => List.mem_cons_of_mem _ (List.mem_append_left _ (List.mem_append_left _ (List.mem_append_left _ (List.mem_append_right _ (h9)))))) hown hK hP 0 rfl rfl 3 (by decide) (hts (.fieldLink RX9 24 "ExamHallsModel" "tape" "Ljava/util/List;") (List.mem_of_getElem? (i := 1) rfl)) (fun _ h9 => h9) rfl dX9_feed_45 ?_
          refine lv_lload_n hx hb dX9_feed_48 rfl (lv_at hl 2 rfl) ?_
          refine lv_bipush (v := 8) hx hb dX9_feed_49 (by decide) ?_
          refine lv_iload hx hb dX9_feed_51 (lv_at hl 0 rfl) ?_
          refine lv_imul hx hb dX9_feed_53 ?_
          refine lv_topi (fun f_149 ef_149 => ?_)
          obtain rfl : f_149 = 8 := ef_149.trans (by decide)
          refine lv_lshr hx hb dX9_feed_54 rfl ?_
          refine lv_ldc2 (v := 255) hx hb hown (hts (.constantLong RX9 76 (255)) (List.mem_of_getElem? (i := 2) rfl)) dX9_feed_55 ?_
          refine lv_land hx hb dX9_feed_58 ?_
          refine lv_l2i hx hb dX9_feed_59 rfl ?_
          have hPc := hP.sub (ws' := []) [] rfl
          have hDc := hD.sub (ws' := []) [] (by decide) rfl
          have hKc := hK.sub (tys' := []) [] rfl
          have hFc := va_free (wc := []) hD hS hA [] rfl
          refine va_callr (va_runS (As := [.int (((c1 >>> ((8 : Int32).toInt64 &&& 63)) &&& 255).toInt32)]) (rest := [.ref lt]) ⟨hx, hb, hml, hown, hts⟩ (c_valueOf l dC dI d tc ad (((c1 >>> ((8 : Int32).toInt64 &&& 63)) &&& 255).toInt32) H.size) (va_cwS 1 hts gX9_feed_J6_valueOf_2dffe rfl rfl rfl (by decide +kernel) ⟨Nat.le_of_ble_eq_true rfl, Nat.le_of_ble_eq_true rfl⟩) ⟨PZ_blind, PZ_pre hPc hKc hDc hF hZ hS hFc⟩ rfl rfl hl.1 rfl (lv_room (Nat.le_of_ble_eq_true rfl)) dX9_feed_60 ⟨Nat.le_of_ble_eq_true rfl, Nat.le_of_ble_eq_true rfl⟩) hS (fun q _ h => hFc q h) hFc (fun u r_150 t H1 locs ht hvm hw hB hz1 hk1 hS => ?_)
          obtain ⟨hP1, hK1, hD1, hx_151, hx_152, hx_153⟩ := hB
          rw [ht] at hP1
          have hK1 := va_K.moved hvm.symm hK1
          rw [ht] at hx_151 hx_153
          have hEr_150 := any_moved hvm.symm hx_151
          have ner_150_lt : r_150 ≠ lt := by
            rcases hx_152 with h9 | ⟨k9, hk9, e9⟩
            · intro e9; have h8 := (hP 1 _ rfl).lt; rw [← e9] at h8; exact absurd h9 (Nat.not_le.mpr h8)
            · intro e8; obtain ⟨_, _, _, _, h7⟩ := hZ.2.2.2.2.2.1 k9 hk9; exact h7 (by rw [← e9, e8]; exact hD.2 1 _ rfl)
          have ner_150_g1_125 : r_150 ≠ g1_125 := by
            rcases hx_152 with h9 | ⟨k9, hk9, e9⟩
            · intro e9; have h8 := (hP 2 _ rfl).lt; rw [← e9] at h8; exact absurd h9 (Nat.not_le.mpr h8)
            · intro e8; obtain ⟨_, _, _, _, h7⟩ := hZ.2.2.2.2.2.1 k9 hk9; exact h7 (by rw [← e9, e8]; exact hD.2 2 _ rfl)
          obtain ⟨hP, hD⟩ := va_join (wr := [(mx, .inr (14, [.ref lc, .ref lr, .ref kn, .ref lt, .ref ml, .ref mm, .ref lp, .ref lb, .ref mq, .int 1, .int 10, .int 0, .int 0])), (lt, .inr (4, [.int hm_145, .ref g1_125, .int 3])), (g1_125, .inl (kO_126, 10, .inr (.inr (.inr (.inr fb_146)))))]) (w1 := []) hP hD [] [0, 1, 2] rfl rfl (by decide) (by decide) hk1 hFc hP1 hD1
          have hK := hK.app hK1
          generalize H1 = H at hP hS hEr_150 hx_153 ⊢
          have hP : va_P (dC, dI) vwCl [(mx, .inr (14, [.ref lc, .ref lr, .ref kn, .ref lt, .ref ml, .ref mm, .ref lp, .ref lb, .ref mq, .int 1, .int 10, .int 0, .int 0])), (lt, .inr (4, [.int hm_145, .ref g1_125, .int 3])), (g1_125, .inl (kO_126, 10, .inr (.inr (.inr (.inr fb_146)))))] H := hP
          have hD : va_D A [(mx, .inr (14, [.ref lc, .ref lr, .ref kn, .ref lt, .ref ml, .ref mm, .ref lp, .ref lb, .ref mq, .int 1, .int 10, .int 0, .int 0])), (lt, .inr (4, [.int hm_145, .ref g1_125, .int 3])), (g1_125, .inl (kO_126, 10, .inr (.inr (.inr (.inr fb_146)))))] := hD
          have hK : va_K (dC, dI) vwCl [(kO_126, .object "java/lang/Object"), (kO_126, .object "java/lang/Object"), (kO_126, .object "java/lang/Object")] s := hK
          refine W.widen (k := 5) (n := 14) (Nat.le_of_ble_eq_true rfl) (Nat.le_of_ble_eq_true rfl) ?_
          have hPc := hP.sub (ws' := [(lt, .inr (4, [.int hm_145, .ref g1_125, .int 3])), (g1_125, .inl (kO_126, 10, .inr (.inr (.inr (.inr fb_146)))))]) [1, 2] rfl
          have hDc := hD.sub (ws' := [(lt, .inr (4, [.int hm_145, .ref g1_125, .int 3])), (g1_125, .inl (kO_126, 10, .inr (.inr (.inr (.inr fb_146)))))]) [1, 2] (by decide) rfl
          have hKc := hK.sub (tys' := [(kO_126, .object "java/lang/Object")]) [0] rfl
          have hFc := va_free (wc := [(lt, .inr (4, [.int hm_145, .ref g1_125, .int 3])), (g1_125, .inl (kO_126, 10, .inr (.inr (.inr (.inr fb_146)))))]) hD hS hA [1, 2] rfl
          refine va_callFi (va_runF (hK.1 4 _ rfl).2 (As := [.ref r_150]) (rest := []) ⟨hx, hb, hml, hown, hts⟩ (c_AL_addn l dC dI d tc ad lt hm_145 r_150 g1_125 3 kO_126 fb_146 H.size ner_150_lt hx_153 ner_150_g1_125 (by unfold vp_in; decide) (by decide)) (va_cwF 1 hts gX9_feed_Jx4a65c_add_9ea2d_f72Jx4a65c rfl rfl rfl (Ft.fw hF (RJx4a65c, ⟨"java/util/List", "add", "(Ljava/lang/Object;)Z"⟩, yJx4a65c_add_9ea2d) (by decide +kernel)) (by decide +kernel) ⟨Nat.le_of_ble_eq_true rfl, Nat.le_of_ble_eq_true rfl⟩) ⟨PE_blind, va_recv hK hP (ci := 4) (q0 := 1) rfl rfl, PE_pre hPc hKc hDc hF hZ hS hFc hEr_150⟩ rfl rfl hl.1 rfl (lv_room (Nat.le_of_ble_eq_true rfl)) dX9_feed_63 ⟨Nat.le_of_ble_eq_true rfl, Nat.le_of_ble_eq_true rfl⟩) hS (fun q _ h => hFc q h) hFc (fun r_154 u t H1 locs ht hvm hw hB hz1 hk1 hS => ?_)
          obtain ⟨hm_155, fb_156, hP1, hK1, hD1⟩ := hB
          rw [ht] at hP1
          have hK1 := va_K.moved hvm.symm hK1
          obtain ⟨hP, hD⟩ := va_join (wr := [(mx, .inr (14, [.ref lc, .ref lr, .ref kn, .ref lt, .ref ml, .ref mm, .ref lp, .ref lb, .ref mq, .int 1, .int 10, .int 0, .int 0]))]) (w1 := [(lt, .inr (4, [.int hm_155, .ref g1_125, .int (3 + 1)])), (g1_125, .inl (kO_126, 10, .inr (.inr (.inr (.inr fb_156)))))]) hP hD [1, 2] [0] rfl rfl (by decide) (by decide) hk1 hFc hP1 hD1
          have hK := hK.app hK1
          generalize H1 = H at hP hS ⊢
          have hP : va_P (dC, dI) vwCl [(mx, .inr (14, [.ref lc, .ref lr, .ref kn, .ref lt, .ref ml, .ref mm, .ref lp, .ref lb, .ref mq, .int 1, .int 10, .int 0, .int 0])), (lt, .inr (4, [.int hm_155, .ref g1_125, .int (3 + 1)])), (g1_125, .inl (kO_126, 10, .inr (.inr (.inr (.inr fb_156)))))] H := hP
          have hD : va_D A [(mx, .inr (14, [.ref lc, .ref lr, .ref kn, .ref lt, .ref ml, .ref mm, .ref lp, .ref lb, .ref mq, .int 1, .int 10, .int 0, .int 0])), (lt, .inr (4, [.int hm_155, .ref g1_125, .int (3 + 1)])), (g1_125, .inl (kO_126, 10, .inr (.inr (.inr (.inr fb_156)))))] := hD
          have hK : va_K (dC, dI) vwCl [(kO_126, .object "java/lang/Object"), (kO_126, .object "java/lang/Object"), (kO_126, .object "java/lang/Object"), (kO_126, .object "java/lang/Object")] s := hK
          refine W.widen (k := 5) (n := 14) (Nat.le_of_ble_eq_true rfl) (Nat.le_of_ble_eq_true rfl) ?_
          obtain rfl := hw
          have ez_157 : (3 + 1 : Int32) = 4 := by decide
          rw [ez_157] at hP hD
          have hP : va_P (dC, dI) vwCl [(mx, .inr (14, [.ref lc, .ref lr, .ref kn, .ref lt, .ref ml, .ref mm, .ref lp, .ref lb, .ref mq, .int 1, .int 10, .int 0, .int 0])), (lt, .inr (4, [.int hm_155, .ref g1_125, .int 4])), (g1_125, .inl (kO_126, 10, .inr (.inr (.inr (.inr fb_156)))))] H := hP
          have hD : va_D A [(mx, .inr (14, [.ref lc, .ref lr, .ref kn, .ref lt, .ref ml, .ref mm, .ref lp, .ref lb, .ref mq, .int 1, .int 10, .int 0, .int 0])), (lt, .inr (4, [.int hm_155, .ref g1_125, .int 4])), (g1_125, .inl (kO_126, 10, .inr (.inr (.inr (.inr fb_156)))))] := hD
          refine lv_pop hx hb dX9_feed_68 rfl ?_
          refine lv_iinc (v := 0) (lv' := [(4, .int 0), (0, .ref mx), (1, .long c1), (3, .int 5)]) hx hb dX9_feed_69 hl (k := 0) rfl (by decide) (by decide) rfl (fun ls hl => ?_)
          refine lv_goto (tgt := 39) hx hb dX9_feed_72 (by decide) ?_
          refine lv_iload hx hb dX9_feed_39 (lv_at hl 0 rfl) ?_
          refine lv_if_lt (tgt := 75) hx hb dX9_feed_41 (by decide) (fun c_158 => absurd c_158 (by decide)) (fun _ => ?_)
          refine lv_aload_n hx hb dX9_feed_44 rfl (lv_at hl 1 rfl) ?_
          refine va_get (D := (dC, dI)) (ci := 14) (v := .ref lt) (C := RX9) (T := TX9) (N := 13) hx hb hts (fun _ h9 => List.mem_cons_of_mem _ (List.mem_append_left _ (List.mem_append_left _ (List.mem_append_left _ (List.mem_append_right _ (h9)))))) hown hK hP 0 rfl rfl 3 (by decide) (hts (.fieldLink RX9 24 "ExamHallsModel" "tape" "Ljava/util/List;") (List.mem_of_getElem? (i := 1) rfl)) (fun _ h9 => h9) rfl dX9_feed_45 ?_
          refine lv_lload_n hx hb dX9_feed_48 rfl (lv_at hl 2 rfl) ?_
          refine lv_bipush (v := 8) hx hb dX9_feed_49 (by decide) ?_
          refine lv_iload hx hb dX9_feed_51 (lv_at hl 0 rfl) ?_
          refine lv_imul hx hb dX9_feed_53 ?_
          refine lv_topi (fun f_159 ef_159 => ?_)
          obtain rfl : f_159 = 0 := ef_159.trans (by decide)
          refine lv_lshr hx hb dX9_feed_54 rfl ?_
          refine lv_ldc2 (v := 255) hx hb hown (hts (.constantLong RX9 76 (255)) (List.mem_of_getElem? (i := 2) rfl)) dX9_feed_55 ?_
          refine lv_land hx hb dX9_feed_58 ?_
          refine lv_l2i hx hb dX9_feed_59 rfl ?_
          have hPc := hP.sub (ws' := []) [] rfl
          have hDc := hD.sub (ws' := []) [] (by decide) rfl
          have hKc := hK.sub (tys' := []) [] rfl
          have hFc := va_free (wc := []) hD hS hA [] rfl
          refine va_callr (va_runS (As := [.int (((c1 >>> ((0 : Int32).toInt64 &&& 63)) &&& 255).toInt32)]) (rest := [.ref lt]) ⟨hx, hb, hml, hown, hts⟩ (c_valueOf l dC dI d tc ad (((c1 >>> ((0 : Int32).toInt64 &&& 63)) &&& 255).toInt32) H.size) (va_cwS 1 hts gX9_feed_J6_valueOf_2dffe rfl rfl rfl (by decide +kernel) ⟨Nat.le_of_ble_eq_true rfl, Nat.le_of_ble_eq_true rfl⟩) ⟨PZ_blind, PZ_pre hPc hKc hDc hF hZ hS hFc⟩ rfl rfl hl.1 rfl (lv_room (Nat.le_of_ble_eq_true rfl)) dX9_feed_60 ⟨Nat.le_of_ble_eq_true rfl, Nat.le_of_ble_eq_true rfl⟩) hS (fun q _ h => hFc q h) hFc (fun u r_160 t H1 locs ht hvm hw hB hz1 hk1 hS => ?_)
          obtain ⟨hP1, hK1, hD1, hx_161, hx_162, hx_163⟩ := hB
          rw [ht] at hP1
          have hK1 := va_K.moved hvm.symm hK1
          rw [ht] at hx_161 hx_163
          have hEr_160 := any_moved hvm.symm hx_161
          have ner_160_lt : r_160 ≠ lt := by
            rcases hx_162 with h9 | ⟨k9, hk9, e9⟩
            · intro e9; have h8 := (hP 1 _ rfl).lt; rw [← e9] at h8; exact absurd h9 (Nat.not_le.mpr h8)
            · intro e8; obtain ⟨_, _, _, _, h7⟩ := hZ.2.2.2.2.2.1 k9 hk9; exact h7 (by rw [← e9, e8]; exact hD.2 1 _ rfl)
          have ner_160_g1_125 : r_160 ≠ g1_125 := by
            rcases hx_162 with h9 | ⟨k9, hk9, e9⟩
            · intro e9; have h8 := (hP 2 _ rfl).lt; rw [← e9] at h8; exact absurd h9 (Nat.not_le.mpr h8)
            · intro e8; obtain ⟨_, _, _, _, h7⟩ := hZ.2.2.2.2.2.1 k9 hk9; exact h7 (by rw [← e9, e8]; exact hD.2 2 _ rfl)
          obtain ⟨hP, hD⟩ := va_join (wr := [(mx, .inr (14, [.ref lc, .ref lr, .ref kn, .ref lt, .ref ml, .ref mm, .ref lp, .ref lb, .ref mq, .int 1, .int 10, .int 0, .int 0])), (lt, .inr (4, [.int hm_155, .ref g1_125, .int 4])), (g1_125, .inl (kO_126, 10, .inr (.inr (.inr (.inr fb_156)))))]) (w1 := []) hP hD [] [0, 1, 2] rfl rfl (by decide) (by decide) hk1 hFc hP1 hD1
          have hK := hK.app hK1
          generalize H1 = H at hP hS hEr_160 hx_163 ⊢
          have hP : va_P (dC, dI) vwCl [(mx, .inr (14, [.ref lc, .ref lr, .ref kn, .ref lt, .ref ml, .ref mm, .ref lp, .ref lb, .ref mq, .int 1, .int 10, .int 0, .int 0])), (lt, .inr (4, [.int hm_155, .ref g1_125, .int 4])), (g1_125, .inl (kO_126, 10, .inr (.inr (.inr (.inr fb_156)))))] H := hP
          have hD : va_D A [(mx, .inr (14, [.ref lc, .ref lr, .ref kn, .ref lt, .ref ml, .ref mm, .ref lp, .ref lb, .ref mq, .int 1, .int 10, .int 0, .int 0])), (lt, .inr (4, [.int hm_155, .ref g1_125, .int 4])), (g1_125, .inl (kO_126, 10, .inr (.inr (.inr (.inr fb_156)))))] := hD
          have hK : va_K (dC, dI) vwCl [(kO_126, .object "java/lang/Object"), (kO_126, .object "java/lang/Object"), (kO_126, .object "java/lang/Object"), (kO_126, .object "java/lang/Object")] s := hK
          refine W.widen (k := 6) (n := 15) (Nat.le_of_ble_eq_true rfl) (Nat.le_of_ble_eq_true rfl) ?_
          have hPc := hP.sub (ws' := [(lt, .inr (4, [.int hm_155, .ref g1_125, .int 4])), (g1_125, .inl (kO_126, 10, .inr (.inr (.inr (.inr fb_156)))))]) [1, 2] rfl
          have hDc := hD.sub (ws' := [(lt, .inr (4, [.int hm_155, .ref g1_125, .int 4])), (g1_125, .inl (kO_126, 10, .inr (.inr (.inr (.inr fb_156)))))]) [1, 2] (by decide) rfl
          have hKc := hK.sub (tys' := [(kO_126, .object "java/lang/Object")]) [0] rfl
          have hFc := va_free (wc := [(lt, .inr (4, [.int hm_155, .ref g1_125, .int 4])), (g1_125, .inl (kO_126, 10, .inr (.inr (.inr (.inr fb_156)))))]) hD hS hA [1, 2] rfl
          refine va_callFi (va_runF (hK.1 4 _ rfl).2 (As := [.ref r_160]) (rest := []) ⟨hx, hb, hml, hown, hts⟩ (c_AL_addn l dC dI d tc ad lt hm_155 r_160 g1_125 4 kO_126 fb_156 H.size ner_160_lt hx_163 ner_160_g1_125 (by unfold vp_in; decide) (by decide)) (va_cwF 1 hts gX9_feed_Jx4a65c_add_9ea2d_f72Jx4a65c rfl rfl rfl (Ft.fw hF (RJx4a65c, ⟨"java/util/List", "add", "(Ljava/lang/Object;)Z"⟩, yJx4a65c_add_9ea2d) (by decide +kernel)) (by decide +kernel) ⟨Nat.le_of_ble_eq_true rfl, Nat.le_of_ble_eq_true rfl⟩) ⟨PE_blind, va_recv hK hP (ci := 4) (q0 := 1) rfl rfl, PE_pre hPc hKc hDc hF hZ hS hFc hEr_160⟩ rfl rfl hl.1 rfl (lv_room (Nat.le_of_ble_eq_true rfl)) dX9_feed_63 ⟨Nat.le_of_ble_eq_true rfl, Nat.le_of_ble_eq_true rfl⟩) hS (fun q _ h => hFc q h) hFc (fun r_164 u t H1 locs ht hvm hw hB hz1 hk1 hS => ?_)
          obtain ⟨hm_165, fb_166, hP1, hK1, hD1⟩ := hB
          rw [ht] at hP1
          have hK1 := va_K.moved hvm.symm hK1
          obtain ⟨hP, hD⟩ := va_join (wr := [(mx, .inr (14, [.ref lc, .ref lr, .ref kn, .ref lt, .ref ml, .ref mm, .ref lp, .ref lb, .ref mq, .int 1, .int 10, .int 0, .int 0]))]) (w1 := [(lt, .inr (4, [.int hm_165, .ref g1_125, .int (4 + 1)])), (g1_125, .inl (kO_126, 10, .inr (.inr (.inr (.inr fb_166)))))]) hP hD [1, 2] [0] rfl rfl (by decide) (by decide) hk1 hFc hP1 hD1
          have hK := hK.app hK1
          generalize H1 = H at hP hS ⊢
          have hP : va_P (dC, dI) vwCl [(mx, .inr (14, [.ref lc, .ref lr, .ref kn, .ref lt, .ref ml, .ref mm, .ref lp, .ref lb, .ref mq, .int 1, .int 10, .int 0, .int 0])), (lt, .inr (4, [.int hm_165, .ref g1_125, .int (4 + 1)])), (g1_125, .inl (kO_126, 10, .inr (.inr (.inr (.inr fb_166)))))] H := hP
          have hD : va_D A [(mx, .inr (14, [.ref lc, .ref lr, .ref kn, .ref lt, .ref ml, .ref mm, .ref lp, .ref lb, .ref mq, .int 1, .int 10, .int 0, .int 0])), (lt, .inr (4, [.int hm_165, .ref g1_125, .int (4 + 1)])), (g1_125, .inl (kO_126, 10, .inr (.inr (.inr (.inr fb_166)))))] := hD
          have hK : va_K (dC, dI) vwCl [(kO_126, .object "java/lang/Object"), (kO_126, .object "java/lang/Object"), (kO_126, .object "java/lang/Object"), (kO_126, .object "java/lang/Object"), (kO_126, .object "java/lang/Object")] s := hK
          refine W.widen (k := 6) (n := 15) (Nat.le_of_ble_eq_true rfl) (Nat.le_of_ble_eq_true rfl) ?_
          obtain rfl := hw
          have ez_167 : (4 + 1 : Int32) = 5 := by decide
          rw [ez_167] at hP hD
          have hP : va_P (dC, dI) vwCl [(mx, .inr (14, [.ref lc, .ref lr, .ref kn, .ref lt, .ref ml, .ref mm, .ref lp, .ref lb, .ref mq, .int 1, .int 10, .int 0, .int 0])), (lt, .inr (4, [.int hm_165, .ref g1_125, .int 5])), (g1_125, .inl (kO_126, 10, .inr (.inr (.inr (.inr fb_166)))))] H := hP
          have hD : va_D A [(mx, .inr (14, [.ref lc, .ref lr, .ref kn, .ref lt, .ref ml, .ref mm, .ref lp, .ref lb, .ref mq, .int 1, .int 10, .int 0, .int 0])), (lt, .inr (4, [.int hm_165, .ref g1_125, .int 5])), (g1_125, .inl (kO_126, 10, .inr (.inr (.inr (.inr fb_166)))))] := hD
          refine lv_pop hx hb dX9_feed_68 rfl ?_
          refine lv_iinc (v := (-1)) (lv' := [(4, .int (-1)), (0, .ref mx), (1, .long c1), (3, .int 5)]) hx hb dX9_feed_69 hl (k := 0) rfl (by decide) (by decide) rfl (fun ls hl => ?_)
          refine lv_goto (tgt := 39) hx hb dX9_feed_72 (by decide) ?_
          refine lv_iload hx hb dX9_feed_39 (lv_at hl 0 rfl) ?_
          refine lv_if_lt (tgt := 75) hx hb dX9_feed_41 (by decide) (fun _ => ?_) (fun c_168 => absurd (by decide) c_168)
          refine lv_aload_n hx hb dX9_feed_75 rfl (lv_at hl 1 rfl) ?_
          refine va_get (D := (dC, dI)) (ci := 14) (v := .ref lt) (C := RX9) (T := TX9) (N := 13) hx hb hts (fun _ h9 => List.mem_cons_of_mem _ (List.mem_append_left _ (List.mem_append_left _ (List.mem_append_left _ (List.mem_append_right _ (h9)))))) hown hK hP 0 rfl rfl 3 (by decide) (hts (.fieldLink RX9 24 "ExamHallsModel" "tape" "Ljava/util/List;") (List.mem_of_getElem? (i := 1) rfl)) (fun _ h9 => h9) rfl dX9_feed_76 ?_
          refine va_csFi (va_runF (hK.1 4 _ rfl).2 (As := []) (rest := []) ⟨hx, hb, hml, hown, hts⟩ (c_AL_size l dC dI lt hm_165 g1_125 5) (va_cwF 0 hts gX9_feed_Jx4a65c_size_8abf5_f56Jx4a65c rfl rfl rfl (Ft.fw hF (RJx4a65c, ⟨"java/util/List", "size", "()I"⟩, yJx4a65c_size_8abf5) (by decide +kernel)) (by decide +kernel) ⟨Nat.le_of_ble_eq_true rfl, Nat.le_of_ble_eq_true rfl⟩) ⟨PS_blind, va_recv hK hP (ci := 4) (q0 := 1) rfl rfl, PS_pre (hP.sub (ws' := [(lt, .inr (4, [.int hm_165, .ref g1_125, .int 5]))]) [1] rfl) (hK.sub (tys' := []) [] rfl) hF⟩ rfl rfl hl.1 rfl (lv_room (Nat.le_of_ble_eq_true rfl)) dX9_feed_79 ⟨Nat.le_of_ble_eq_true rfl, Nat.le_of_ble_eq_true rfl⟩) (fun r_169 hr_169 => ?_)
          subst hr_169
          refine W.widen (k := 9) (n := 18) (Nat.le_of_ble_eq_true rfl) (Nat.le_of_ble_eq_true rfl) ?_
          exact W.iret (v := 5) hx hb hr (fun t ht hW => ⟨⟨_, (), rfl, (by decide), trivial⟩, hS.F ht⟩) hS.2.2 dX9_feed_84
        · have hl : lv_has ls 5 [(4, .int (6 - 1)), (0, .ref mx), (1, .long c1), (3, .int 6)] := hl
          have e9 : (6 : Int32) - 1 = 5 := by decide
          rw [e9] at hl
          refine lv_iload hx hb dX9_feed_39 (lv_at hl 0 rfl) ?_
          refine lv_if_lt (tgt := 75) hx hb dX9_feed_41 (by decide) (fun c_170 => absurd c_170 (by decide)) (fun _ => ?_)
          refine lv_aload_n hx hb dX9_feed_44 rfl (lv_at hl 1 rfl) ?_
          refine va_get (D := (dC, dI)) (ci := 14) (v := .ref lt) (C := RX9) (T := TX9) (N := 13) hx hb hts (fun _ h9 => List.mem_cons_of_mem _ (List.mem_append_left _ (List.mem_append_left _ (List.mem_append_left _ (List.mem_append_right _ (h9)))))) hown hK hP 0 rfl rfl 3 (by decide) (hts (.fieldLink RX9 24 "ExamHallsModel" "tape" "Ljava/util/List;") (List.mem_of_getElem? (i := 1) rfl)) (fun _ h9 => h9) rfl dX9_feed_45 ?_
          refine lv_lload_n hx hb dX9_feed_48 rfl (lv_at hl 2 rfl) ?_
          refine lv_bipush (v := 8) hx hb dX9_feed_49 (by decide) ?_
          refine lv_iload hx hb dX9_feed_51 (lv_at hl 0 rfl) ?_
          refine lv_imul hx hb dX9_feed_53 ?_
          refine lv_topi (fun f_171 ef_171 => ?_)
          obtain rfl : f_171 = 40 := ef_171.trans (by decide)
          refine lv_lshr hx hb dX9_feed_54 rfl ?_
          refine lv_ldc2 (v := 255) hx hb hown (hts (.constantLong RX9 76 (255)) (List.mem_of_getElem? (i := 2) rfl)) dX9_feed_55 ?_
          refine lv_land hx hb dX9_feed_58 ?_
          refine lv_l2i hx hb dX9_feed_59 rfl ?_
          have hPc := hP.sub (ws' := []) [] rfl
          have hDc := hD.sub (ws' := []) [] (by decide) rfl
          have hKc := hK.sub (tys' := []) [] rfl
          have hFc := va_free (wc := []) hD hS hA [] rfl
          refine va_callr (va_runS (As := [.int (((c1 >>> ((40 : Int32).toInt64 &&& 63)) &&& 255).toInt32)]) (rest := [.ref lt]) ⟨hx, hb, hml, hown, hts⟩ (c_valueOf l dC dI d tc ad (((c1 >>> ((40 : Int32).toInt64 &&& 63)) &&& 255).toInt32) s.heap.size) (va_cwS 1 hts gX9_feed_J6_valueOf_2dffe rfl rfl rfl (by decide +kernel) ⟨Nat.le_of_ble_eq_true rfl, Nat.le_of_ble_eq_true rfl⟩) ⟨PZ_blind, PZ_pre hPc hKc hDc hF hZ hS hFc⟩ rfl rfl hl.1 rfl (lv_room (Nat.le_of_ble_eq_true rfl)) dX9_feed_60 ⟨Nat.le_of_ble_eq_true rfl, Nat.le_of_ble_eq_true rfl⟩) hS (fun q _ h => hFc q h) hFc (fun u r_172 t H1 locs ht hvm hw hB hz1 hk1 hS => ?_)
          obtain ⟨hP1, hK1, hD1, hx_173, hx_174, hx_175⟩ := hB
          rw [ht] at hP1
          have hK1 := va_K.moved hvm.symm hK1
          rw [ht] at hx_173 hx_175
          have hEr_172 := any_moved hvm.symm hx_173
          have ner_172_lt : r_172 ≠ lt := by
            rcases hx_174 with h9 | ⟨k9, hk9, e9⟩
            · intro e9; have h8 := (hP 1 _ rfl).lt; rw [← e9] at h8; exact absurd h9 (Nat.not_le.mpr h8)
            · intro e8; obtain ⟨_, _, _, _, h7⟩ := hZ.2.2.2.2.2.1 k9 hk9; exact h7 (by rw [← e9, e8]; exact hD.2 1 _ rfl)
          obtain ⟨hP, hD⟩ := va_join (wr := [(mx, .inr (14, [.ref lc, .ref lr, .ref kn, .ref lt, .ref ml, .ref mm, .ref lp, .ref lb, .ref mq, .int 1, .int 10, .int 0, .int 0])), (lt, .inr (4, [.int 0, .ref d, .int 0]))]) (w1 := []) hP hD [] [0, 1] rfl rfl (by decide) (by decide) hk1 hFc hP1 hD1
          have hK := hK.app hK1
          generalize H1 = H at hP hS hEr_172 hx_175 ⊢
          have hP : va_P (dC, dI) vwCl [(mx, .inr (14, [.ref lc, .ref lr, .ref kn, .ref lt, .ref ml, .ref mm, .ref lp, .ref lb, .ref mq, .int 1, .int 10, .int 0, .int 0])), (lt, .inr (4, [.int 0, .ref d, .int 0]))] H := hP
          have hD : va_D A [(mx, .inr (14, [.ref lc, .ref lr, .ref kn, .ref lt, .ref ml, .ref mm, .ref lp, .ref lb, .ref mq, .int 1, .int 10, .int 0, .int 0])), (lt, .inr (4, [.int 0, .ref d, .int 0]))] := hD
          have hK : va_K (dC, dI) vwCl [] s := hK
          refine W.widen (k := 1) (n := 1) (Nat.le_of_ble_eq_true rfl) (Nat.le_of_ble_eq_true rfl) ?_
          have hPc := hP.sub (ws' := [(lt, .inr (4, [.int 0, .ref d, .int 0]))]) [1] rfl
          have hDc := hD.sub (ws' := [(lt, .inr (4, [.int 0, .ref d, .int 0]))]) [1] (by decide) rfl
          have hKc := hK.sub (tys' := []) [] rfl
          have hFc := va_free (wc := [(lt, .inr (4, [.int 0, .ref d, .int 0]))]) hD hS hA [1] rfl
          refine va_callFi (va_runF (hK.1 4 _ rfl).2 (As := [.ref r_172]) (rest := []) ⟨hx, hb, hml, hown, hts⟩ (c_AL_addf l dC dI d tc ad lt 0 r_172 H.size ner_172_lt hx_175) (va_cwF 1 hts gX9_feed_Jx4a65c_add_9ea2d_f72Jx4a65c rfl rfl rfl (Ft.fw hF (RJx4a65c, ⟨"java/util/List", "add", "(Ljava/lang/Object;)Z"⟩, yJx4a65c_add_9ea2d) (by decide +kernel)) (by decide +kernel) ⟨Nat.le_of_ble_eq_true rfl, Nat.le_of_ble_eq_true rfl⟩) ⟨PE_blind, va_recv hK hP (ci := 4) (q0 := 1) rfl rfl, PE_pre hPc hKc hDc hF hZ hS hFc hEr_172⟩ rfl rfl hl.1 rfl (lv_room (Nat.le_of_ble_eq_true rfl)) dX9_feed_63 ⟨Nat.le_of_ble_eq_true rfl, Nat.le_of_ble_eq_true rfl⟩) hS (fun q _ h => hFc q h) hFc (fun r_176 u t H1 locs ht hvm hw hB hz1 hk1 hS => ?_)
          obtain ⟨hm_177, g1_178, kO_179, fa_180, hP1, hK1, hD1⟩ := hB
          rw [ht] at hP1
          have hK1 := va_K.moved hvm.symm hK1
          obtain ⟨hP, hD⟩ := va_join (wr := [(mx, .inr (14, [.ref lc, .ref lr, .ref kn, .ref lt, .ref ml, .ref mm, .ref lp, .ref lb, .ref mq, .int 1, .int 10, .int 0, .int 0]))]) (w1 := [(lt, .inr (4, [.int hm_177, .ref g1_178, .int 1])), (g1_178, .inl (kO_179, 10, .inr (.inr (.inr (.inr fa_180)))))]) hP hD [1] [0] rfl rfl (by decide) (by decide) hk1 hFc hP1 hD1
          have hK := hK.app hK1
          generalize H1 = H at hP hS ⊢
          have hP : va_P (dC, dI) vwCl [(mx, .inr (14, [.ref lc, .ref lr, .ref kn, .ref lt, .ref ml, .ref mm, .ref lp, .ref lb, .ref mq, .int 1, .int 10, .int 0, .int 0])), (lt, .inr (4, [.int hm_177, .ref g1_178, .int 1])), (g1_178, .inl (kO_179, 10, .inr (.inr (.inr (.inr fa_180)))))] H := hP
          have hD : va_D A [(mx, .inr (14, [.ref lc, .ref lr, .ref kn, .ref lt, .ref ml, .ref mm, .ref lp, .ref lb, .ref mq, .int 1, .int 10, .int 0, .int 0])), (lt, .inr (4, [.int hm_177, .ref g1_178, .int 1])), (g1_178, .inl (kO_179, 10, .inr (.inr (.inr (.inr fa_180)))))] := hD
          have hK : va_K (dC, dI) vwCl [(kO_179, .object "java/lang/Object")] s := hK
          refine W.widen (k := 2) (n := 11) (Nat.le_of_ble_eq_true rfl) (Nat.le_of_ble_eq_true rfl) ?_
          obtain rfl := hw
          refine lv_pop hx hb dX9_feed_68 rfl ?_
          refine lv_iinc (v := 4) (lv' := [(4, .int 4), (0, .ref mx), (1, .long c1), (3, .int 6)]) hx hb dX9_feed_69 hl (k := 0) rfl (by decide) (by decide) rfl (fun ls hl => ?_)
          refine lv_goto (tgt := 39) hx hb dX9_feed_72 (by decide) ?_
          refine lv_iload hx hb dX9_feed_39 (lv_at hl 0 rfl) ?_
          refine lv_if_lt (tgt := 75) hx hb dX9_feed_41 (by decide) (fun c_181 => absurd c_181 (by decide)) (fun _ => ?_)
          refine lv_aload_n hx hb dX9_feed_44 rfl (lv_at hl 1 rfl) ?_
          refine va_get (D := (dC, dI)) (ci := 14) (v := .ref lt) (C := RX9) (T := TX9) (N := 13) hx hb hts (fun _ h9 => List.mem_cons_of_mem _ (List.mem_append_left _ (List.mem_append_left _ (List.mem_append_left _ (List.mem_append_right _ (h9)))))) hown hK hP 0 rfl rfl 3 (by decide) (hts (.fieldLink RX9 24 "ExamHallsModel" "tape" "Ljava/util/List;") (List.mem_of_getElem? (i := 1) rfl)) (fun _ h9 => h9) rfl dX9_feed_45 ?_
          refine lv_lload_n hx hb dX9_feed_48 rfl (lv_at hl 2 rfl) ?_
          refine lv_bipush (v := 8) hx hb dX9_feed_49 (by decide) ?_
          refine lv_iload hx hb dX9_feed_51 (lv_at hl 0 rfl) ?_
          refine lv_imul hx hb dX9_feed_53 ?_
          refine lv_topi (fun f_182 ef_182 => ?_)
          obtain rfl : f_182 = 32 := ef_182.trans (by decide)
          refine lv_lshr hx hb dX9_feed_54 rfl ?_
          refine lv_ldc2 (v := 255) hx hb hown (hts (.constantLong RX9 76 (255)) (List.mem_of_getElem? (i := 2) rfl)) dX9_feed_55 ?_
          refine lv_land hx hb dX9_feed_58 ?_
          refine lv_l2i hx hb dX9_feed_59 rfl ?_
          have hPc := hP.sub (ws' := []) [] rfl
          have hDc := hD.sub (ws' := []) [] (by decide) rfl
          have hKc := hK.sub (tys' := []) [] rfl
          have hFc := va_free (wc := []) hD hS hA [] rfl
          refine va_callr (va_runS (As := [.int (((c1 >>> ((32 : Int32).toInt64 &&& 63)) &&& 255).toInt32)]) (rest := [.ref lt]) ⟨hx, hb, hml, hown, hts⟩ (c_valueOf l dC dI d tc ad (((c1 >>> ((32 : Int32).toInt64 &&& 63)) &&& 255).toInt32) H.size) (va_cwS 1 hts gX9_feed_J6_valueOf_2dffe rfl rfl rfl (by decide +kernel) ⟨Nat.le_of_ble_eq_true rfl, Nat.le_of_ble_eq_true rfl⟩) ⟨PZ_blind, PZ_pre hPc hKc hDc hF hZ hS hFc⟩ rfl rfl hl.1 rfl (lv_room (Nat.le_of_ble_eq_true rfl)) dX9_feed_60 ⟨Nat.le_of_ble_eq_true rfl, Nat.le_of_ble_eq_true rfl⟩) hS (fun q _ h => hFc q h) hFc (fun u r_183 t H1 locs ht hvm hw hB hz1 hk1 hS => ?_)
          obtain ⟨hP1, hK1, hD1, hx_184, hx_185, hx_186⟩ := hB
          rw [ht] at hP1
          have hK1 := va_K.moved hvm.symm hK1
          rw [ht] at hx_184 hx_186
          have hEr_183 := any_moved hvm.symm hx_184
          have ner_183_lt : r_183 ≠ lt := by
            rcases hx_185 with h9 | ⟨k9, hk9, e9⟩
            · intro e9; have h8 := (hP 1 _ rfl).lt; rw [← e9] at h8; exact absurd h9 (Nat.not_le.mpr h8)
            · intro e8; obtain ⟨_, _, _, _, h7⟩ := hZ.2.2.2.2.2.1 k9 hk9; exact h7 (by rw [← e9, e8]; exact hD.2 1 _ rfl)
          have ner_183_g1_178 : r_183 ≠ g1_178 := by
            rcases hx_185 with h9 | ⟨k9, hk9, e9⟩
            · intro e9; have h8 := (hP 2 _ rfl).lt; rw [← e9] at h8; exact absurd h9 (Nat.not_le.mpr h8)
            · intro e8; obtain ⟨_, _, _, _, h7⟩ := hZ.2.2.2.2.2.1 k9 hk9; exact h7 (by rw [← e9, e8]; exact hD.2 2 _ rfl)
          obtain ⟨hP, hD⟩ := va_join (wr := [(mx, .inr (14, [.ref lc, .ref lr, .ref kn, .ref lt, .ref ml, .ref mm, .ref lp, .ref lb, .ref mq, .int 1, .int 10, .int 0, .int 0])), (lt, .inr (4, [.int hm_177, .ref g1_178, .int 1])), (g1_178, .inl (kO_179, 10, .inr (.inr (.inr (.inr fa_180)))))]) (w1 := []) hP hD [] [0, 1, 2] rfl rfl (by decide) (by decide) hk1 hFc hP1 hD1
          have hK := hK.app hK1
          generalize H1 = H at hP hS hEr_183 hx_186 ⊢
          have hP : va_P (dC, dI) vwCl [(mx, .inr (14, [.ref lc, .ref lr, .ref kn, .ref lt, .ref ml, .ref mm, .ref lp, .ref lb, .ref mq, .int 1, .int 10, .int 0, .int 0])), (lt, .inr (4, [.int hm_177, .ref g1_178, .int 1])), (g1_178, .inl (kO_179, 10, .inr (.inr (.inr (.inr fa_180)))))] H := hP
          have hD : va_D A [(mx, .inr (14, [.ref lc, .ref lr, .ref kn, .ref lt, .ref ml, .ref mm, .ref lp, .ref lb, .ref mq, .int 1, .int 10, .int 0, .int 0])), (lt, .inr (4, [.int hm_177, .ref g1_178, .int 1])), (g1_178, .inl (kO_179, 10, .inr (.inr (.inr (.inr fa_180)))))] := hD
          have hK : va_K (dC, dI) vwCl [(kO_179, .object "java/lang/Object")] s := hK
          refine W.widen (k := 3) (n := 12) (Nat.le_of_ble_eq_true rfl) (Nat.le_of_ble_eq_true rfl) ?_
          have hPc := hP.sub (ws' := [(lt, .inr (4, [.int hm_177, .ref g1_178, .int 1])), (g1_178, .inl (kO_179, 10, .inr (.inr (.inr (.inr fa_180)))))]) [1, 2] rfl
          have hDc := hD.sub (ws' := [(lt, .inr (4, [.int hm_177, .ref g1_178, .int 1])), (g1_178, .inl (kO_179, 10, .inr (.inr (.inr (.inr fa_180)))))]) [1, 2] (by decide) rfl
          have hKc := hK.sub (tys' := [(kO_179, .object "java/lang/Object")]) [0] rfl
          have hFc := va_free (wc := [(lt, .inr (4, [.int hm_177, .ref g1_178, .int 1])), (g1_178, .inl (kO_179, 10, .inr (.inr (.inr (.inr fa_180)))))]) hD hS hA [1, 2] rfl
          refine va_callFi (va_runF (hK.1 4 _ rfl).2 (As := [.ref r_183]) (rest := []) ⟨hx, hb, hml, hown, hts⟩ (c_AL_addn l dC dI d tc ad lt hm_177 r_183 g1_178 1 kO_179 fa_180 H.size ner_183_lt hx_186 ner_183_g1_178 (by unfold vp_in; decide) (by decide)) (va_cwF 1 hts gX9_feed_Jx4a65c_add_9ea2d_f72Jx4a65c rfl rfl rfl (Ft.fw hF (RJx4a65c, ⟨"java/util/List", "add", "(Ljava/lang/Object;)Z"⟩, yJx4a65c_add_9ea2d) (by decide +kernel)) (by decide +kernel) ⟨Nat.le_of_ble_eq_true rfl, Nat.le_of_ble_eq_true rfl⟩) ⟨PE_blind, va_recv hK hP (ci := 4) (q0 := 1) rfl rfl, PE_pre hPc hKc hDc hF hZ hS hFc hEr_183⟩ rfl rfl hl.1 rfl (lv_room (Nat.le_of_ble_eq_true rfl)) dX9_feed_63 ⟨Nat.le_of_ble_eq_true rfl, Nat.le_of_ble_eq_true rfl⟩) hS (fun q _ h => hFc q h) hFc (fun r_187 u t H1 locs ht hvm hw hB hz1 hk1 hS => ?_)
          obtain ⟨hm_188, fb_189, hP1, hK1, hD1⟩ := hB
          rw [ht] at hP1
          have hK1 := va_K.moved hvm.symm hK1
          obtain ⟨hP, hD⟩ := va_join (wr := [(mx, .inr (14, [.ref lc, .ref lr, .ref kn, .ref lt, .ref ml, .ref mm, .ref lp, .ref lb, .ref mq, .int 1, .int 10, .int 0, .int 0]))]) (w1 := [(lt, .inr (4, [.int hm_188, .ref g1_178, .int (1 + 1)])), (g1_178, .inl (kO_179, 10, .inr (.inr (.inr (.inr fb_189)))))]) hP hD [1, 2] [0] rfl rfl (by decide) (by decide) hk1 hFc hP1 hD1
          have hK := hK.app hK1
          generalize H1 = H at hP hS ⊢
          have hP : va_P (dC, dI) vwCl [(mx, .inr (14, [.ref lc, .ref lr, .ref kn, .ref lt, .ref ml, .ref mm, .ref lp, .ref lb, .ref mq, .int 1, .int 10, .int 0, .int 0])), (lt, .inr (4, [.int hm_188, .ref g1_178, .int (1 + 1)])), (g1_178, .inl (kO_179, 10, .inr (.inr (.inr (.inr fb_189)))))] H := hP
          have hD : va_D A [(mx, .inr (14, [.ref lc, .ref lr, .ref kn, .ref lt, .ref ml, .ref mm, .ref lp, .ref lb, .ref mq, .int 1, .int 10, .int 0, .int 0])), (lt, .inr (4, [.int hm_188, .ref g1_178, .int (1 + 1)])), (g1_178, .inl (kO_179, 10, .inr (.inr (.inr (.inr fb_189)))))] := hD
          have hK : va_K (dC, dI) vwCl [(kO_179, .object "java/lang/Object"), (kO_179, .object "java/lang/Object")] s := hK
          refine W.widen (k := 3) (n := 12) (Nat.le_of_ble_eq_true rfl) (Nat.le_of_ble_eq_true rfl) ?_
          obtain rfl := hw
          have ez_190 : (1 + 1 : Int32) = 2 := by decide
          rw [ez_190] at hP hD
          have hP : va_P (dC, dI) vwCl [(mx, .inr (14, [.ref lc, .ref lr, .ref kn, .ref lt, .ref ml, .ref mm, .ref lp, .ref lb, .ref mq, .int 1, .int 10, .int 0, .int 0])), (lt, .inr (4, [.int hm_188, .ref g1_178, .int 2])), (g1_178, .inl (kO_179, 10, .inr (.inr (.inr (.inr fb_189)))))] H := hP
          have hD : va_D A [(mx, .inr (14, [.ref lc, .ref lr, .ref kn, .ref lt, .ref ml, .ref mm, .ref lp, .ref lb, .ref mq, .int 1, .int 10, .int 0, .int 0])), (lt, .inr (4, [.int hm_188, .ref g1_178, .int 2])), (g1_178, .inl (kO_179, 10, .inr (.inr (.inr (.inr fb_189)))))] := hD
          refine lv_pop hx hb dX9_feed_68 rfl ?_
          refine lv_iinc (v := 3) (lv' := [(4, .int 3), (0, .ref mx), (1, .long c1), (3, .int 6)]) hx hb dX9_feed_69 hl (k := 0) rfl (by decide) (by decide) rfl (fun ls hl => ?_)
          refine lv_goto (tgt := 39) hx hb dX9_feed_72 (by decide) ?_
          refine lv_iload hx hb dX9_feed_39 (lv_at hl 0 rfl) ?_
          refine lv_if_lt (tgt := 75) hx hb dX9_feed_41 (by decide) (fun c_191 => absurd c_191 (by decide)) (fun _ => ?_)
          refine lv_aload_n hx hb dX9_feed_44 rfl (lv_at hl 1 rfl) ?_
          refine va_get (D := (dC, dI)) (ci := 14) (v := .ref lt) (C := RX9) (T := TX9) (N := 13) hx hb hts (fun _ h9 => List.mem_cons_of_mem _ (List.mem_append_left _ (List.mem_append_left _ (List.mem_append_left _ (List.mem_append_right _ (h9)))))) hown hK hP 0 rfl rfl 3 (by decide) (hts (.fieldLink RX9 24 "ExamHallsModel" "tape" "Ljava/util/List;") (List.mem_of_getElem? (i := 1) rfl)) (fun _ h9 => h9) rfl dX9_feed_45 ?_
          refine lv_lload_n hx hb dX9_feed_48 rfl (lv_at hl 2 rfl) ?_
          refine lv_bipush (v := 8) hx hb dX9_feed_49 (by decide) ?_
          refine lv_iload hx hb dX9_feed_51 (lv_at hl 0 rfl) ?_
          refine lv_imul hx hb dX9_feed_53 ?_
          refine lv_topi (fun f_192 ef_192 => ?_)
          obtain rfl : f_192 = 24 := ef_192.trans (by decide)
          refine lv_lshr hx hb dX9_feed_54 rfl ?_
          refine lv_ldc2 (v := 255) hx hb hown (hts (.constantLong RX9 76 (255)) (List.mem_of_getElem? (i := 2) rfl)) dX9_feed_55 ?_
          refine lv_land hx hb dX9_feed_58 ?_
          refine lv_l2i hx hb dX9_feed_59 rfl ?_
          have hPc := hP.sub (ws' := []) [] rfl
          have hDc := hD.sub (ws' := []) [] (by decide) rfl
          have hKc := hK.sub (tys' := []) [] rfl
          have hFc := va_free (wc := []) hD hS hA [] rfl
          refine va_callr (va_runS (As := [.int (((c1 >>> ((24 : Int32).toInt64 &&& 63)) &&& 255).toInt32)]) (rest := [.ref lt]) ⟨hx, hb, hml, hown, hts⟩ (c_valueOf l dC dI d tc ad (((c1 >>> ((24 : Int32).toInt64 &&& 63)) &&& 255).toInt32) H.size) (va_cwS 1 hts gX9_feed_J6_valueOf_2dffe rfl rfl rfl (by decide +kernel) ⟨Nat.le_of_ble_eq_true rfl, Nat.le_of_ble_eq_true rfl⟩) ⟨PZ_blind, PZ_pre hPc hKc hDc hF hZ hS hFc⟩ rfl rfl hl.1 rfl (lv_room (Nat.le_of_ble_eq_true rfl)) dX9_feed_60 ⟨Nat.le_of_ble_eq_true rfl, Nat.le_of_ble_eq_true rfl⟩) hS (fun q _ h => hFc q h) hFc (fun u r_193 t H1 locs ht hvm hw hB hz1 hk1 hS => ?_)
          obtain ⟨hP1, hK1, hD1, hx_194, hx_195, hx_196⟩ := hB
          rw [ht] at hP1
          have hK1 := va_K.moved hvm.symm hK1
          rw [ht] at hx_194 hx_196
          have hEr_193 := any_moved hvm.symm hx_194
          have ner_193_lt : r_193 ≠ lt := by
            rcases hx_195 with h9 | ⟨k9, hk9, e9⟩
            · intro e9; have h8 := (hP 1 _ rfl).lt; rw [← e9] at h8; exact absurd h9 (Nat.not_le.mpr h8)
            · intro e8; obtain ⟨_, _, _, _, h7⟩ := hZ.2.2.2.2.2.1 k9 hk9; exact h7 (by rw [← e9, e8]; exact hD.2 1 _ rfl)
          have ner_193_g1_178 : r_193 ≠ g1_178 := by
            rcases hx_195 with h9 | ⟨k9, hk9, e9⟩
            · intro e9; have h8 := (hP 2 _ rfl).lt; rw [← e9] at h8; exact absurd h9 (Nat.not_le.mpr h8)
            · intro e8; obtain ⟨_, _, _, _, h7⟩ := hZ.2.2.2.2.2.1 k9 hk9; exact h7 (by rw [← e9, e8]; exact hD.2 2 _ rfl)
          obtain ⟨hP, hD⟩ := va_join (wr := [(mx, .inr (14, [.ref lc, .ref lr, .ref kn, .ref lt, .ref ml, .ref mm, .ref lp, .ref lb, .ref mq, .int 1, .int 10, .int 0, .int 0])), (lt, .inr (4, [.int hm_188, .ref g1_178, .int 2])), (g1_178, .inl (kO_179, 10, .inr (.inr (.inr (.inr fb_189)))))]) (w1 := []) hP hD [] [0, 1, 2] rfl rfl (by decide) (by decide) hk1 hFc hP1 hD1
          have hK := hK.app hK1
          generalize H1 = H at hP hS hEr_193 hx_196 ⊢
          have hP : va_P (dC, dI) vwCl [(mx, .inr (14, [.ref lc, .ref lr, .ref kn, .ref lt, .ref ml, .ref mm, .ref lp, .ref lb, .ref mq, .int 1, .int 10, .int 0, .int 0])), (lt, .inr (4, [.int hm_188, .ref g1_178, .int 2])), (g1_178, .inl (kO_179, 10, .inr (.inr (.inr (.inr fb_189)))))] H := hP
          have hD : va_D A [(mx, .inr (14, [.ref lc, .ref lr, .ref kn, .ref lt, .ref ml, .ref mm, .ref lp, .ref lb, .ref mq, .int 1, .int 10, .int 0, .int 0])), (lt, .inr (4, [.int hm_188, .ref g1_178, .int 2])), (g1_178, .inl (kO_179, 10, .inr (.inr (.inr (.inr fb_189)))))] := hD
          have hK : va_K (dC, dI) vwCl [(kO_179, .object "java/lang/Object"), (kO_179, .object "java/lang/Object")] s := hK
          refine W.widen (k := 4) (n := 13) (Nat.le_of_ble_eq_true rfl) (Nat.le_of_ble_eq_true rfl) ?_
          have hPc := hP.sub (ws' := [(lt, .inr (4, [.int hm_188, .ref g1_178, .int 2])), (g1_178, .inl (kO_179, 10, .inr (.inr (.inr (.inr fb_189)))))]) [1, 2] rfl
          have hDc := hD.sub (ws' := [(lt, .inr (4, [.int hm_188, .ref g1_178, .int 2])), (g1_178, .inl (kO_179, 10, .inr (.inr (.inr (.inr fb_189)))))]) [1, 2] (by decide) rfl
          have hKc := hK.sub (tys' := [(kO_179, .object "java/lang/Object")]) [0] rfl
          have hFc := va_free (wc := [(lt, .inr (4, [.int hm_188, .ref g1_178, .int 2])), (g1_178, .inl (kO_179, 10, .inr (.inr (.inr (.inr fb_189)))))]) hD hS hA [1, 2] rfl
          refine va_callFi (va_runF (hK.1 4 _ rfl).2 (As := [.ref r_193]) (rest := []) ⟨hx, hb, hml, hown, hts⟩ (c_AL_addn l dC dI d tc ad lt hm_188 r_193 g1_178 2 kO_179 fb_189 H.size ner_193_lt hx_196 ner_193_g1_178 (by unfold vp_in; decide) (by decide)) (va_cwF 1 hts gX9_feed_Jx4a65c_add_9ea2d_f72Jx4a65c rfl rfl rfl (Ft.fw hF (RJx4a65c, ⟨"java/util/List", "add", "(Ljava/lang/Object;)Z"⟩, yJx4a65c_add_9ea2d) (by decide +kernel)) (by decide +kernel) ⟨Nat.le_of_ble_eq_true rfl, Nat.le_of_ble_eq_true rfl⟩) ⟨PE_blind, va_recv hK hP (ci := 4) (q0 := 1) rfl rfl, PE_pre hPc hKc hDc hF hZ hS hFc hEr_193⟩ rfl rfl hl.1 rfl (lv_room (Nat.le_of_ble_eq_true rfl)) dX9_feed_63 ⟨Nat.le_of_ble_eq_true rfl, Nat.le_of_ble_eq_true rfl⟩) hS (fun q _ h => hFc q h) hFc (fun r_197 u t H1 locs ht hvm hw hB hz1 hk1 hS => ?_)
          obtain ⟨hm_198, fb_199, hP1, hK1, hD1⟩ := hB
          rw [ht] at hP1
          have hK1 := va_K.moved hvm.symm hK1
          obtain ⟨hP, hD⟩ := va_join (wr := [(mx, .inr (14, [.ref lc, .ref lr, .ref kn, .ref lt, .ref ml, .ref mm, .ref lp, .ref lb, .ref mq, .int 1, .int 10, .int 0, .int 0]))]) (w1 := [(lt, .inr (4, [.int hm_198, .ref g1_178, .int (2 + 1)])), (g1_178, .inl (kO_179, 10, .inr (.inr (.inr (.inr fb_199)))))]) hP hD [1, 2] [0] rfl rfl (by decide) (by decide) hk1 hFc hP1 hD1
          have hK := hK.app hK1
          generalize H1 = H at hP hS ⊢
          have hP : va_P (dC, dI) vwCl [(mx, .inr (14, [.ref lc, .ref lr, .ref kn, .ref lt, .ref ml, .ref mm, .ref lp, .ref lb, .ref mq, .int 1, .int 10, .int 0, .int 0])), (lt, .inr (4, [.int hm_198, .ref g1_178, .int (2 + 1)])), (g1_178, .inl (kO_179, 10, .inr (.inr (.inr (.inr fb_199)))))] H := hP
          have hD : va_D A [(mx, .inr (14, [.ref lc, .ref lr, .ref kn, .ref lt, .ref ml, .ref mm, .ref lp, .ref lb, .ref mq, .int 1, .int 10, .int 0, .int 0])), (lt, .inr (4, [.int hm_198, .ref g1_178, .int (2 + 1)])), (g1_178, .inl (kO_179, 10, .inr (.inr (.inr (.inr fb_199)))))] := hD
          have hK : va_K (dC, dI) vwCl [(kO_179, .object "java/lang/Object"), (kO_179, .object "java/lang/Object"), (kO_179, .object "java/lang/Object")] s := hK
          refine W.widen (k := 4) (n := 13) (Nat.le_of_ble_eq_true rfl) (Nat.le_of_ble_eq_true rfl) ?_
          obtain rfl := hw
          have ez_200 : (2 + 1 : Int32) = 3 := by decide
          rw [ez_200] at hP hD
          have hP : va_P (dC, dI) vwCl [(mx, .inr (14, [.ref lc, .ref lr, .ref kn, .ref lt, .ref ml, .ref mm, .ref lp, .ref lb, .ref mq, .int 1, .int 10, .int 0, .int 0])), (lt, .inr (4, [.int hm_198, .ref g1_178, .int 3])), (g1_178, .inl (kO_179, 10, .inr (.inr (.inr (.inr fb_199)))))] H := hP
          have hD : va_D A [(mx, .inr (14, [.ref lc, .ref lr, .ref kn, .ref lt, .ref ml, .ref mm, .ref lp, .ref lb, .ref mq, .int 1, .int 10, .int 0, .int 0])), (lt, .inr (4, [.int hm_198, .ref g1_178, .int 3])), (g1_178, .inl (kO_179, 10, .inr (.inr (.inr (.inr fb_199)))))] := hD
          refine lv_pop hx hb dX9_feed_68 rfl ?_
          refine lv_iinc (v := 2) (lv' := [(4, .int 2), (0, .ref mx), (1, .long c1), (3, .int 6)]) hx hb dX9_feed_69 hl (k := 0) rfl (by decide) (by decide) rfl (fun ls hl => ?_)
          refine lv_goto (tgt := 39) hx hb dX9_feed_72 (by decide) ?_
          refine lv_iload hx hb dX9_feed_39 (lv_at hl 0 rfl) ?_
          refine lv_if_lt (tgt := 75) hx hb dX9_feed_41 (by decide) (fun c_201 => absurd c_201 (by decide)) (fun _ => ?_)
          refine lv_aload_n hx hb dX9_feed_44 rfl (lv_at hl 1 rfl) ?_
          refine va_get (D := (dC, dI)) (ci := 14) (v := .ref lt) (C := RX9) (T := TX9) (N := 13) hx hb hts (fun _ h9 => List.mem_cons_of_mem _ (List.mem_append_left _ (List.mem_append_left _ (List.mem_append_left _ (List.mem_append_right _ (h9)))))) hown hK hP 0 rfl rfl 3 (by decide) (hts (.fieldLink RX9 24 "ExamHallsModel" "tape" "Ljava/util/List;") (List.mem_of_getElem? (i := 1) rfl)) (fun _ h9 => h9) rfl dX9_feed_45 ?_
          refine lv_lload_n hx hb dX9_feed_48 rfl (lv_at hl 2 rfl) ?_
          refine lv_bipush (v := 8) hx hb dX9_feed_49 (by decide) ?_
          refine lv_iload hx hb dX9_feed_51 (lv_at hl 0 rfl) ?_
          refine lv_imul hx hb dX9_feed_53 ?_
          refine lv_topi (fun f_202 ef_202 => ?_)
          obtain rfl : f_202 = 16 := ef_202.trans (by decide)
          refine lv_lshr hx hb dX9_feed_54 rfl ?_
          refine lv_ldc2 (v := 255) hx hb hown (hts (.constantLong RX9 76 (255)) (List.mem_of_getElem? (i := 2) rfl)) dX9_feed_55 ?_
          refine lv_land hx hb dX9_feed_58 ?_
          refine lv_l2i hx hb dX9_feed_59 rfl ?_
          have hPc := hP.sub (ws' := []) [] rfl
          have hDc := hD.sub (ws' := []) [] (by decide) rfl
          have hKc := hK.sub (tys' := []) [] rfl
          have hFc := va_free (wc := []) hD hS hA [] rfl
          refine va_callr (va_runS (As := [.int (((c1 >>> ((16 : Int32).toInt64 &&& 63)) &&& 255).toInt32)]) (rest := [.ref lt]) ⟨hx, hb, hml, hown, hts⟩ (c_valueOf l dC dI d tc ad (((c1 >>> ((16 : Int32).toInt64 &&& 63)) &&& 255).toInt32) H.size) (va_cwS 1 hts gX9_feed_J6_valueOf_2dffe rfl rfl rfl (by decide +kernel) ⟨Nat.le_of_ble_eq_true rfl, Nat.le_of_ble_eq_true rfl⟩) ⟨PZ_blind, PZ_pre hPc hKc hDc hF hZ hS hFc⟩ rfl rfl hl.1 rfl (lv_room (Nat.le_of_ble_eq_true rfl)) dX9_feed_60 ⟨Nat.le_of_ble_eq_true rfl, Nat.le_of_ble_eq_true rfl⟩) hS (fun q _ h => hFc q h) hFc (fun u r_203 t H1 locs ht hvm hw hB hz1 hk1 hS => ?_)
          obtain ⟨hP1, hK1, hD1, hx_204, hx_205, hx_206⟩ := hB
          rw [ht] at hP1
          have hK1 := va_K.moved hvm.symm hK1
          rw [ht] at hx_204 hx_206
          have hEr_203 := any_moved hvm.symm hx_204
          have ner_203_lt : r_203 ≠ lt := by
            rcases hx_205 with h9 | ⟨k9, hk9, e9⟩
            · intro e9; have h8 := (hP 1 _ rfl).lt; rw [← e9] at h8; exact absurd h9 (Nat.not_le.mpr h8)
            · intro e8; obtain ⟨_, _, _, _, h7⟩ := hZ.2.2.2.2.2.1 k9 hk9; exact h7 (by rw [← e9, e8]; exact hD.2 1 _ rfl)
          have ner_203_g1_178 : r_203 ≠ g1_178 := by
            rcases hx_205 with h9 | ⟨k9, hk9, e9⟩
            · intro e9; have h8 := (hP 2 _ rfl).lt; rw [← e9] at h8; exact absurd h9 (Nat.not_le.mpr h8)
            · intro e8; obtain ⟨_, _, _, _, h7⟩ := hZ.2.2.2.2.2.1 k9 hk9; exact h7 (by rw [← e9, e8]; exact hD.2 2 _ rfl)
          obtain ⟨hP, hD⟩ := va_join (wr := [(mx, .inr (14, [.ref lc, .ref lr, .ref kn, .ref lt, .ref ml, .ref mm, .ref lp, .ref lb, .ref mq, .int 1, .int 10, .int 0, .int 0])), (lt, .inr (4, [.int hm_198, .ref g1_178, .int 3])), (g1_178, .inl (kO_179, 10, .inr (.inr (.inr (.inr fb_199)))))]) (w1 := []) hP hD [] [0, 1, 2] rfl rfl (by decide) (by decide) hk1 hFc hP1 hD1
          have hK := hK.app hK1
          generalize H1 = H at hP hS hEr_203 hx_206 ⊢
          have hP : va_P (dC, dI) vwCl [(mx, .inr (14, [.ref lc, .ref lr, .ref kn, .ref lt, .ref ml, .ref mm, .ref lp, .ref lb, .ref mq, .int 1, .int 10, .int 0, .int 0])), (lt, .inr (4, [.int hm_198, .ref g1_178, .int 3])), (g1_178, .inl (kO_179, 10, .inr (.inr (.inr (.inr fb_199)))))] H := hP
          have hD : va_D A [(mx, .inr (14, [.ref lc, .ref lr, .ref kn, .ref lt, .ref ml, .ref mm, .ref lp, .ref lb, .ref mq, .int 1, .int 10, .int 0, .int 0])), (lt, .inr (4, [.int hm_198, .ref g1_178, .int 3])), (g1_178, .inl (kO_179, 10, .inr (.inr (.inr (.inr fb_199)))))] := hD
          have hK : va_K (dC, dI) vwCl [(kO_179, .object "java/lang/Object"), (kO_179, .object "java/lang/Object"), (kO_179, .object "java/lang/Object")] s := hK
          refine W.widen (k := 5) (n := 14) (Nat.le_of_ble_eq_true rfl) (Nat.le_of_ble_eq_true rfl) ?_
          have hPc := hP.sub (ws' := [(lt, .inr (4, [.int hm_198, .ref g1_178, .int 3])), (g1_178, .inl (kO_179, 10, .inr (.inr (.inr (.inr fb_199)))))]) [1, 2] rfl
          have hDc := hD.sub (ws' := [(lt, .inr (4, [.int hm_198, .ref g1_178, .int 3])), (g1_178, .inl (kO_179, 10, .inr (.inr (.inr (.inr fb_199)))))]) [1, 2] (by decide) rfl
          have hKc := hK.sub (tys' := [(kO_179, .object "java/lang/Object")]) [0] rfl
          have hFc := va_free (wc := [(lt, .inr (4, [.int hm_198, .ref g1_178, .int 3])), (g1_178, .inl (kO_179, 10, .inr (.inr (.inr (.inr fb_199)))))]) hD hS hA [1, 2] rfl
          refine va_callFi (va_runF (hK.1 4 _ rfl).2 (As := [.ref r_203]) (rest := []) ⟨hx, hb, hml, hown, hts⟩ (c_AL_addn l dC dI d tc ad lt hm_198 r_203 g1_178 3 kO_179 fb_199 H.size ner_203_lt hx_206 ner_203_g1_178 (by unfold vp_in; decide) (by decide)) (va_cwF 1 hts gX9_feed_Jx4a65c_add_9ea2d_f72Jx4a65c rfl rfl rfl (Ft.fw hF (RJx4a65c, ⟨"java/util/List", "add", "(Ljava/lang/Object;)Z"⟩, yJx4a65c_add_9ea2d) (by decide +kernel)) (by decide +kernel) ⟨Nat.le_of_ble_eq_true rfl, Nat.le_of_ble_eq_true rfl⟩) ⟨PE_blind, va_recv hK hP (ci := 4) (q0 := 1) rfl rfl, PE_pre hPc hKc hDc hF hZ hS hFc hEr_203⟩ rfl rfl hl.1 rfl (lv_room (Nat.le_of_ble_eq_true rfl)) dX9_feed_63 ⟨Nat.le_of_ble_eq_true rfl, Nat.le_of_ble_eq_true rfl⟩) hS (fun q _ h => hFc q h) hFc (fun r_207 u t H1 locs ht hvm hw hB hz1 hk1 hS => ?_)
          obtain ⟨hm_208, fb_209, hP1, hK1, hD1⟩ := hB
          rw [ht] at hP1
          have hK1 := va_K.moved hvm.symm hK1
          obtain ⟨hP, hD⟩ := va_join (wr := [(mx, .inr (14, [.ref lc, .ref lr, .ref kn, .ref lt, .ref ml, .ref mm, .ref lp, .ref lb, .ref mq, .int 1, .int 10, .int 0, .int 0]))]) (w1 := [(lt, .inr (4, [.int hm_208, .ref g1_178, .int (3 + 1)])), (g1_178, .inl (kO_179, 10, .inr (.inr (.inr (.inr fb_209)))))]) hP hD [1, 2] [0] rfl rfl (by decide) (by decide) hk1 hFc hP1 hD1
          have hK := hK.app hK1
          generalize H1 = H at hP hS ⊢
          have hP : va_P (dC, dI) vwCl [(mx, .inr (14, [.ref lc, .ref lr, .ref kn, .ref lt, .ref ml, .ref mm, .ref lp, .ref lb, .ref mq, .int 1, .int 10, .int 0, .int 0])), (lt, .inr (4, [.int hm_208, .ref g1_178, .int (3 + 1)])), (g1_178, .inl (kO_179, 10, .inr (.inr (.inr (.inr fb_209)))))] H := hP
          have hD : va_D A [(mx, .inr (14, [.ref lc, .ref lr, .ref kn, .ref lt, .ref ml, .ref mm, .ref lp, .ref lb, .ref mq, .int 1, .int 10, .int 0, .int 0])), (lt, .inr (4, [.int hm_208, .ref g1_178, .int (3 + 1)])), (g1_178, .inl (kO_179, 10, .inr (.inr (.inr (.inr fb_209)))))] := hD
          have hK : va_K (dC, dI) vwCl [(kO_179, .object "java/lang/Object"), (kO_179, .object "java/lang/Object"), (kO_179, .object "java/lang/Object"), (kO_179, .object "java/lang/Object")] s := hK
          refine W.widen (k := 5) (n := 14) (Nat.le_of_ble_eq_true rfl) (Nat.le_of_ble_eq_true rfl) ?_
          obtain rfl := hw
          have ez_210 : (3 + 1 : Int32) = 4 := by decide
          rw [ez_210] at hP hD
          have hP : va_P (dC, dI) vwCl [(mx, .inr (14, [.ref lc, .ref lr, .ref kn, .ref lt, .ref ml, .ref mm, .ref lp, .ref lb, .ref mq, .int 1, .int 10, .int 0, .int 0])), (lt, .inr (4, [.int hm_208, .ref g1_178, .int 4])), (g1_178, .inl (kO_179, 10, .inr (.inr (.inr (.inr fb_209)))))] H := hP
          have hD : va_D A [(mx, .inr (14, [.ref lc, .ref lr, .ref kn, .ref lt, .ref ml, .ref mm, .ref lp, .ref lb, .ref mq, .int 1, .int 10, .int 0, .int 0])), (lt, .inr (4, [.int hm_208, .ref g1_178, .int 4])), (g1_178, .inl (kO_179, 10, .inr (.inr (.inr (.inr fb_209)))))] := hD
          refine lv_pop hx hb dX9_feed_68 rfl ?_
          refine lv_iinc (v := 1) (lv' := [(4, .int 1), (0, .ref mx), (1, .long c1), (3, .int 6)]) hx hb dX9_feed_69 hl (k := 0) rfl (by decide) (by decide) rfl (fun ls hl => ?_)
          refine lv_goto (tgt := 39) hx hb dX9_feed_72 (by decide) ?_
          refine lv_iload hx hb dX9_feed_39 (lv_at hl 0 rfl) ?_
          refine lv_if_lt (tgt := 75) hx hb dX9_feed_41 (by decide) (fun c_211 => absurd c_211 (by decide)) (fun _ => ?_)
          refine lv_aload_n hx hb dX9_feed_44 rfl (lv_at hl 1 rfl) ?_
          refine va_get (D := (dC, dI)) (ci := 14) (v := .ref lt) (C := RX9) (T := TX9) (N := 13) hx hb hts (fun _ h9 => List.mem_cons_of_mem _ (List.mem_append_left _ (List.mem_append_left _ (List.mem_append_left _ (List.mem_append_right _ (h9)))))) hown hK hP 0 rfl rfl 3 (by decide) (hts (.fieldLink RX9 24 "ExamHallsModel" "tape" "Ljava/util/List;") (List.mem_of_getElem? (i := 1) rfl)) (fun _ h9 => h9) rfl dX9_feed_45 ?_
          refine lv_lload_n hx hb dX9_feed_48 rfl (lv_at hl 2 rfl) ?_
          refine lv_bipush (v := 8) hx hb dX9_feed_49 (by decide) ?_
          refine lv_iload hx hb dX9_feed_51 (lv_at hl 0 rfl) ?_
          refine lv_imul hx hb dX9_feed_53 ?_
          refine lv_topi (fun f_212 ef_212 => ?_)
          obtain rfl : f_212 = 8 := ef_212.trans (by decide)
          refine lv_lshr hx hb dX9_feed_54 rfl ?_
          refine lv_ldc2 (v := 255) hx hb hown (hts (.constantLong RX9 76 (255)) (List.mem_of_getElem? (i := 2) rfl)) dX9_feed_55 ?_
          refine lv_land hx hb dX9_feed_58 ?_
          refine lv_l2i hx hb dX9_feed_59 rfl ?_
          have hPc := hP.sub (ws' := []) [] rfl
          have hDc := hD.sub (ws' := []) [] (by decide) rfl
          have hKc := hK.sub (tys' := []) [] rfl
          have hFc := va_free (wc := []) hD hS hA [] rfl
          refine va_callr (va_runS (As := [.int (((c1 >>> ((8 : Int32).toInt64 &&& 63)) &&& 255).toInt32)]) (rest := [.ref lt]) ⟨hx, hb, hml, hown, hts⟩ (c_valueOf l dC dI d tc ad (((c1 >>> ((8 : Int32).toInt64 &&& 63)) &&& 255).toInt32) H.size) (va_cwS 1 hts gX9_feed_J6_valueOf_2dffe rfl rfl rfl (by decide +kernel) ⟨Nat.le_of_ble_eq_true rfl, Nat.le_of_ble_eq_true rfl⟩) ⟨PZ_blind, PZ_pre hPc hKc hDc hF hZ hS hFc⟩ rfl rfl hl.1 rfl (lv_room (Nat.le_of_ble_eq_true rfl)) dX9_feed_60 ⟨Nat.le_of_ble_eq_true rfl, Nat.le_of_ble_eq_true rfl⟩) hS (fun q _ h => hFc q h) hFc (fun u r_213 t H1 locs ht hvm hw hB hz1 hk1 hS => ?_)
          obtain ⟨hP1, hK1, hD1, hx_214, hx_215, hx_216⟩ := hB
          rw [ht] at hP1
          have hK1 := va_K.moved hvm.symm hK1
          rw [ht] at hx_214 hx_216
          have hEr_213 := any_moved hvm.symm hx_214
          have ner_213_lt : r_213 ≠ lt := by
            rcases hx_215 with h9 | ⟨k9, hk9, e9⟩
            · intro e9; have h8 := (hP 1 _ rfl).lt; rw [← e9] at h8; exact absurd h9 (Nat.not_le.mpr h8)
            · intro e8; obtain ⟨_, _, _, _, h7⟩ := hZ.2.2.2.2.2.1 k9 hk9; exact h7 (by rw [← e9, e8]; exact hD.2 1 _ rfl)
          have ner_213_g1_178 : r_213 ≠ g1_178 := by
            rcases hx_215 with h9 | ⟨k9, hk9, e9⟩
            · intro e9; have h8 := (hP 2 _ rfl).lt; rw [← e9] at h8; exact absurd h9 (Nat.not_le.mpr h8)
            · intro e8; obtain ⟨_, _, _, _, h7⟩ := hZ.2.2.2.2.2.1 k9 hk9; exact h7 (by rw [← e9, e8]; exact hD.2 2 _ rfl)
          obtain ⟨hP, hD⟩ := va_join (wr := [(mx, .inr (14, [.ref lc, .ref lr, .ref kn, .ref lt, .ref ml, .ref mm, .ref lp, .ref lb, .ref mq, .int 1, .int 10, .int 0, .int 0])), (lt, .inr (4, [.int hm_208, .ref g1_178, .int 4])), (g1_178, .inl (kO_179, 10, .inr (.inr (.inr (.inr fb_209)))))]) (w1 := []) hP hD [] [0, 1, 2] rfl rfl (by decide) (by decide) hk1 hFc hP1 hD1
          have hK := hK.app hK1
          generalize H1 = H at hP hS hEr_213 hx_216 ⊢
          have hP : va_P (dC, dI) vwCl [(mx, .inr (14, [.ref lc, .ref lr, .ref kn, .ref lt, .ref ml, .ref mm, .ref lp, .ref lb, .ref mq, .int 1, .int 10, .int 0, .int 0])), (lt, .inr (4, [.int hm_208, .ref g1_178, .int 4])), (g1_178, .inl (kO_179, 10, .inr (.inr (.inr (.inr fb_209)))))] H := hP
          have hD : va_D A [(mx, .inr (14, [.ref lc, .ref lr, .ref kn, .ref lt, .ref ml, .ref mm, .ref lp, .ref lb, .ref mq, .int 1, .int 10, .int 0, .int 0])), (lt, .inr (4, [.int hm_208, .ref g1_178, .int 4])), (g1_178, .inl (kO_179, 10, .inr (.inr (.inr (.inr fb_209)))))] := hD
          have hK : va_K (dC, dI) vwCl [(kO_179, .object "java/lang/Object"), (kO_179, .object "java/lang/Object"), (kO_179, .object "java/lang/Object"), (kO_179, .object "java/lang/Object")] s := hK
          refine W.widen (k := 6) (n := 15) (Nat.le_of_ble_eq_true rfl) (Nat.le_of_ble_eq_true rfl) ?_
          have hPc := hP.sub (ws' := [(lt, .inr (4, [.int hm_208, .ref g1_178, .int 4])), (g1_178, .inl (kO_179, 10, .inr (.inr (.inr (.inr fb_209)))))]) [1, 2] rfl
          have hDc := hD.sub (ws' := [(lt, .inr (4, [.int hm_208, .ref g1_178, .int 4])), (g1_178, .inl (kO_179, 10, .inr (.inr (.inr (.inr fb_209)))))]) [1, 2] (by decide) rfl
          have hKc := hK.sub (tys' := [(kO_179, .object "java/lang/Object")]) [0] rfl
          have hFc := va_free (wc := [(lt, .inr (4, [.int hm_208, .ref g1_178, .int 4])), (g1_178, .inl (kO_179, 10, .inr (.inr (.inr (.inr fb_209)))))]) hD hS hA [1, 2] rfl
          refine va_callFi (va_runF (hK.1 4 _ rfl).2 (As := [.ref r_213]) (rest := []) ⟨hx, hb, hml, hown, hts⟩ (c_AL_addn l dC dI d tc ad lt hm_208 r_213 g1_178 4 kO_179 fb_209 H.size ner_213_lt hx_216 ner_213_g1_178 (by unfold vp_in; decide) (by decide)) (va_cwF 1 hts gX9_feed_Jx4a65c_add_9ea2d_f72Jx4a65c rfl rfl rfl (Ft.fw hF (RJx4a65c, ⟨"java/util/List", "add", "(Ljava/lang/Object;)Z"⟩, yJx4a65c_add_9ea2d) (by decide +kernel)) (by decide +kernel) ⟨Nat.le_of_ble_eq_true rfl, Nat.le_of_ble_eq_true rfl⟩) ⟨PE_blind, va_recv hK hP (ci := 4) (q0 := 1) rfl rfl, PE_pre hPc hKc hDc hF hZ hS hFc hEr_213⟩ rfl rfl hl.1 rfl (lv_room (Nat.le_of_ble_eq_true rfl)) dX9_feed_63 ⟨Nat.le_of_ble_eq_true rfl, Nat.le_of_ble_eq_true rfl⟩) hS (fun q _ h => hFc q h) hFc (fun r_217 u t H1 locs ht hvm hw hB hz1 hk1 hS => ?_)
          obtain ⟨hm_218, fb_219, hP1, hK1, hD1⟩ := hB
          rw [ht] at hP1
          have hK1 := va_K.moved hvm.symm hK1
          obtain ⟨hP, hD⟩ := va_join (wr := [(mx, .inr (14, [.ref lc, .ref lr, .ref kn, .ref lt, .ref ml, .ref mm, .ref lp, .ref lb, .ref mq, .int 1, .int 10, .int 0, .int 0]))]) (w1 := [(lt, .inr (4, [.int hm_218, .ref g1_178, .int (4 + 1)])), (g1_178, .inl (kO_179, 10, .inr (.inr (.inr (.inr fb_219)))))]) hP hD [1, 2] [0] rfl rfl (by decide) (by decide) hk1 hFc hP1 hD1
          have hK := hK.app hK1
          generalize H1 = H at hP hS ⊢
          have hP : va_P (dC, dI) vwCl [(mx, .inr (14, [.ref lc, .ref lr, .ref kn, .ref lt, .ref ml, .ref mm, .ref lp, .ref lb, .ref mq, .int 1, .int 10, .int 0, .int 0])), (lt, .inr (4, [.int hm_218, .ref g1_178, .int (4 + 1)])), (g1_178, .inl (kO_179, 10, .inr (.inr (.inr (.inr fb_219)))))] H := hP
          have hD : va_D A [(mx, .inr (14, [.ref lc, .ref lr, .ref kn, .ref lt, .ref ml, .ref mm, .ref lp, .ref lb, .ref mq, .int 1, .int 10, .int 0, .int 0])), (lt, .inr (4, [.int hm_218, .ref g1_178, .int (4 + 1)])), (g1_178, .inl (kO_179, 10, .inr (.inr (.inr (.inr fb_219)))))] := hD
          have hK : va_K (dC, dI) vwCl [(kO_179, .object "java/lang/Object"), (kO_179, .object "java/lang/Object"), (kO_179, .object "java/lang/Object"), (kO_179, .object "java/lang/Object"), (kO_179, .object "java/lang/Object")] s := hK
          refine W.widen (k := 6) (n := 15) (Nat.le_of_ble_eq_true rfl) (Nat.le_of_ble_eq_true rfl) ?_
          obtain rfl := hw
          have ez_220 : (4 + 1 : Int32) = 5 := by decide
          rw [ez_220] at hP hD
          have hP : va_P (dC, dI) vwCl [(mx, .inr (14, [.ref lc, .ref lr, .ref kn, .ref lt, .ref ml, .ref mm, .ref lp, .ref lb, .ref mq, .int 1, .int 10, .int 0, .int 0])), (lt, .inr (4, [.int hm_218, .ref g1_178, .int 5])), (g1_178, .inl (kO_179, 10, .inr (.inr (.inr (.inr fb_219)))))] H := hP
          have hD : va_D A [(mx, .inr (14, [.ref lc, .ref lr, .ref kn, .ref lt, .ref ml, .ref mm, .ref lp, .ref lb, .ref mq, .int 1, .int 10, .int 0, .int 0])), (lt, .inr (4, [.int hm_218, .ref g1_178, .int 5])), (g1_178, .inl (kO_179, 10, .inr (.inr (.inr (.inr fb_219)))))] := hD
          refine lv_pop hx hb dX9_feed_68 rfl ?_
          refine lv_iinc (v := 0) (lv' := [(4, .int 0), (0, .ref mx), (1, .long c1), (3, .int 6)]) hx hb dX9_feed_69 hl (k := 0) rfl (by decide) (by decide) rfl (fun ls hl => ?_)
          refine lv_goto (tgt := 39) hx hb dX9_feed_72 (by decide) ?_
          refine lv_iload hx hb dX9_feed_39 (lv_at hl 0 rfl) ?_
          refine lv_if_lt (tgt := 75) hx hb dX9_feed_41 (by decide) (fun c_221 => absurd c_221 (by decide)) (fun _ => ?_)
          refine lv_aload_n hx hb dX9_feed_44 rfl (lv_at hl 1 rfl) ?_
          refine va_get (D := (dC, dI)) (ci := 14) (v := .ref lt) (C := RX9) (T := TX9) (N := 13) hx hb hts (fun _ h9 => List.mem_cons_of_mem _ (List.mem_append_left _ (List.mem_append_left _ (List.mem_append_left _ (List.mem_append_right _ (h9)))))) hown hK hP 0 rfl rfl 3 (by decide) (hts (.fieldLink RX9 24 "ExamHallsModel" "tape" "Ljava/util/List;") (List.mem_of_getElem? (i := 1) rfl)) (fun _ h9 => h9) rfl dX9_feed_45 ?_
          refine lv_lload_n hx hb dX9_feed_48 rfl (lv_at hl 2 rfl) ?_
          refine lv_bipush (v := 8) hx hb dX9_feed_49 (by decide) ?_
          refine lv_iload hx hb dX9_feed_51 (lv_at hl 0 rfl) ?_
          refine lv_imul hx hb dX9_feed_53 ?_
          refine lv_topi (fun f_222 ef_222 => ?_)
          obtain rfl : f_222 = 0 := ef_222.trans (by decide)
          refine lv_lshr hx hb dX9_feed_54 rfl ?_
          refine lv_ldc2 (v := 255) hx hb hown (hts (.constantLong RX9 76 (255)) (List.mem_of_getElem? (i := 2) rfl)) dX9_feed_55 ?_
          refine lv_land hx hb dX9_feed_58 ?_
          refine lv_l2i hx hb dX9_feed_59 rfl ?_
          have hPc := hP.sub (ws' := []) [] rfl
          have hDc := hD.sub (ws' := []) [] (by decide) rfl
          have hKc := hK.sub (tys' := []) [] rfl
          have hFc := va_free (wc := []) hD hS hA [] rfl
          refine va_callr (va_runS (As := [.int (((c1 >>> ((0 : Int32).toInt64 &&& 63)) &&& 255).toInt32)]) (rest := [.ref lt]) ⟨hx, hb, hml, hown, hts⟩ (c_valueOf l dC dI d tc ad (((c1 >>> ((0 : Int32).toInt64 &&& 63)) &&& 255).toInt32) H.size) (va_cwS 1 hts gX9_feed_J6_valueOf_2dffe rfl rfl rfl (by decide +kernel) ⟨Nat.le_of_ble_eq_true rfl, Nat.le_of_ble_eq_true rfl⟩) ⟨PZ_blind, PZ_pre hPc hKc hDc hF hZ hS hFc⟩ rfl rfl hl.1 rfl (lv_room (Nat.le_of_ble_eq_true rfl)) dX9_feed_60 ⟨Nat.le_of_ble_eq_true rfl, Nat.le_of_ble_eq_true rfl⟩) hS (fun q _ h => hFc q h) hFc (fun u r_223 t H1 locs ht hvm hw hB hz1 hk1 hS => ?_)
          obtain ⟨hP1, hK1, hD1, hx_224, hx_225, hx_226⟩ := hB
          rw [ht] at hP1
          have hK1 := va_K.moved hvm.symm hK1
          rw [ht] at hx_224 hx_226
          have hEr_223 := any_moved hvm.symm hx_224
          have ner_223_lt : r_223 ≠ lt := by
            rcases hx_225 with h9 | ⟨k9, hk9, e9⟩
            · intro e9; have h8 := (hP 1 _ rfl).lt; rw [← e9] at h8; exact absurd h9 (Nat.not_le.mpr h8)
            · intro e8; obtain ⟨_, _, _, _, h7⟩ := hZ.2.2.2.2.2.1 k9 hk9; exact h7 (by rw [← e9, e8]; exact hD.2 1 _ rfl)
          have ner_223_g1_178 : r_223 ≠ g1_178 := by
            rcases hx_225 with h9 | ⟨k9, hk9, e9⟩
            · intro e9; have h8 := (hP 2 _ rfl).lt; rw [← e9] at h8; exact absurd h9 (Nat.not_le.mpr h8)
            · intro e8; obtain ⟨_, _, _, _, h7⟩ := hZ.2.2.2.2.2.1 k9 hk9; exact h7 (by rw [← e9, e8]; exact hD.2 2 _ rfl)
          obtain ⟨hP, hD⟩ := va_join (wr := [(mx, .inr (14, [.ref lc, .ref lr, .ref kn, .ref lt, .ref ml, .ref mm, .ref lp, .ref lb, .ref mq, .int 1, .int 10, .int 0, .int 0])), (lt, .inr (4, [.int hm_218, .ref g1_178, .int 5])), (g1_178, .inl (kO_179, 10, .inr (.inr (.inr (.inr fb_219)))))]) (w1 := []) hP hD [] [0, 1, 2] rfl rfl (by decide) (by decide) hk1 hFc hP1 hD1
          have hK := hK.app hK1
          generalize H1 = H at hP hS hEr_223 hx_226 ⊢
          have hP : va_P (dC, dI) vwCl [(mx, .inr (14, [.ref lc, .ref lr, .ref kn, .ref lt, .ref ml, .ref mm, .ref lp, .ref lb, .ref mq, .int 1, .int 10, .int 0, .int 0])), (lt, .inr (4, [.int hm_218, .ref g1_178, .int 5])), (g1_178, .inl (kO_179, 10, .inr (.inr (.inr (.inr fb_219)))))] H := hP
          have hD : va_D A [(mx, .inr (14, [.ref lc, .ref lr, .ref kn, .ref lt, .ref ml, .ref mm, .ref lp, .ref lb, .ref mq, .int 1, .int 10, .int 0, .int 0])), (lt, .inr (4, [.int hm_218, .ref g1_178, .int 5])), (g1_178, .inl (kO_179, 10, .inr (.inr (.inr (.inr fb_219)))))] := hD
          have hK : va_K (dC, dI) vwCl [(kO_179, .object "java/lang/Object"), (kO_179, .object "java/lang/Object"), (kO_179, .object "java/lang/Object"), (kO_179, .object "java/lang/Object"), (kO_179, .object "java/lang/Object")] s := hK
          refine W.widen (k := 7) (n := 16) (Nat.le_of_ble_eq_true rfl) (Nat.le_of_ble_eq_true rfl) ?_
          have hPc := hP.sub (ws' := [(lt, .inr (4, [.int hm_218, .ref g1_178, .int 5])), (g1_178, .inl (kO_179, 10, .inr (.inr (.inr (.inr fb_219)))))]) [1, 2] rfl
          have hDc := hD.sub (ws' := [(lt, .inr (4, [.int hm_218, .ref g1_178, .int 5])), (g1_178, .inl (kO_179, 10, .inr (.inr (.inr (.inr fb_219)))))]) [1, 2] (by decide) rfl
          have hKc := hK.sub (tys' := [(kO_179, .object "java/lang/Object")]) [0] rfl
          have hFc := va_free (wc := [(lt, .inr (4, [.int hm_218, .ref g1_178, .int 5])), (g1_178, .inl (kO_179, 10, .inr (.inr (.inr (.inr fb_219)))))]) hD hS hA [1, 2] rfl
          refine va_callFi (va_runF (hK.1 4 _ rfl).2 (As := [.ref r_223]) (rest := []) ⟨hx, hb, hml, hown, hts⟩ (c_AL_addn l dC dI d tc ad lt hm_218 r_223 g1_178 5 kO_179 fb_219 H.size ner_223_lt hx_226 ner_223_g1_178 (by unfold vp_in; decide) (by decide)) (va_cwF 1 hts gX9_feed_Jx4a65c_add_9ea2d_f72Jx4a65c rfl rfl rfl (Ft.fw hF (RJx4a65c, ⟨"java/util/List", "add", "(Ljava/lang/Object;)Z"⟩, yJx4a65c_add_9ea2d) (by decide +kernel)) (by decide +kernel) ⟨Nat.le_of_ble_eq_true rfl, Nat.le_of_ble_eq_true rfl⟩) ⟨PE_blind, va_recv hK hP (ci := 4) (q0 := 1) rfl rfl, PE_pre hPc hKc hDc hF hZ hS hFc hEr_223⟩ rfl rfl hl.1 rfl (lv_room (Nat.le_of_ble_eq_true rfl)) dX9_feed_63 ⟨Nat.le_of_ble_eq_true rfl, Nat.le_of_ble_eq_true rfl⟩) hS (fun q _ h => hFc q h) hFc (fun r_227 u t H1 locs ht hvm hw hB hz1 hk1 hS => ?_)
          obtain ⟨hm_228, fb_229, hP1, hK1, hD1⟩ := hB
          rw [ht] at hP1
          have hK1 := va_K.moved hvm.symm hK1
          obtain ⟨hP, hD⟩ := va_join (wr := [(mx, .inr (14, [.ref lc, .ref lr, .ref kn, .ref lt, .ref ml, .ref mm, .ref lp, .ref lb, .ref mq, .int 1, .int 10, .int 0, .int 0]))]) (w1 := [(lt, .inr (4, [.int hm_228, .ref g1_178, .int (5 + 1)])), (g1_178, .inl (kO_179, 10, .inr (.inr (.inr (.inr fb_229)))))]) hP hD [1, 2] [0] rfl rfl (by decide) (by decide) hk1 hFc hP1 hD1
          have hK := hK.app hK1
          generalize H1 = H at hP hS ⊢
          have hP : va_P (dC, dI) vwCl [(mx, .inr (14, [.ref lc, .ref lr, .ref kn, .ref lt, .ref ml, .ref mm, .ref lp, .ref lb, .ref mq, .int 1, .int 10, .int 0, .int 0])), (lt, .inr (4, [.int hm_228, .ref g1_178, .int (5 + 1)])), (g1_178, .inl (kO_179, 10, .inr (.inr (.inr (.inr fb_229)))))] H := hP
          have hD : va_D A [(mx, .inr (14, [.ref lc, .ref lr, .ref kn, .ref lt, .ref ml, .ref mm, .ref lp, .ref lb, .ref mq, .int 1, .int 10, .int 0, .int 0])), (lt, .inr (4, [.int hm_228, .ref g1_178, .int (5 + 1)])), (g1_178, .inl (kO_179, 10, .inr (.inr (.inr (.inr fb_229)))))] := hD
          have hK : va_K (dC, dI) vwCl [(kO_179, .object "java/lang/Object"), (kO_179, .object "java/lang/Object"), (kO_179, .object "java/lang/Object"), (kO_179, .object "java/lang/Object"), (kO_179, .object "java/lang/Object"), (kO_179, .object "java/lang/Object")] s := hK
          refine W.widen (k := 7) (n := 16) (Nat.le_of_ble_eq_true rfl) (Nat.le_of_ble_eq_true rfl) ?_
          obtain rfl := hw
          have ez_230 : (5 + 1 : Int32) = 6 := by decide
          rw [ez_230] at hP hD
          have hP : va_P (dC, dI) vwCl [(mx, .inr (14, [.ref lc, .ref lr, .ref kn, .ref lt, .ref ml, .ref mm, .ref lp, .ref lb, .ref mq, .int 1, .int 10, .int 0, .int 0])), (lt, .inr (4, [.int hm_228, .ref g1_178, .int 6])), (g1_178, .inl (kO_179, 10, .inr (.inr (.inr (.inr fb_229)))))] H := hP
          have hD : va_D A [(mx, .inr (14, [.ref lc, .ref lr, .ref kn, .ref lt, .ref ml, .ref mm, .ref lp, .ref lb, .ref mq, .int 1, .int 10, .int 0, .int 0])), (lt, .inr (4, [.int hm_228, .ref g1_178, .int 6])), (g1_178, .inl (kO_179, 10, .inr (.inr (.inr (.inr fb_229)))))] := hD
          refine lv_pop hx hb dX9_feed_68 rfl ?_
          refine lv_iinc (v := (-1)) (lv' := [(4, .int (-1)), (0, .ref mx), (1, .long c1), (3, .int 6)]) hx hb dX9_feed_69 hl (k := 0) rfl (by decide) (by decide) rfl (fun ls hl => ?_)
          refine lv_goto (tgt := 39) hx hb dX9_feed_72 (by decide) ?_
          refine lv_iload hx hb dX9_feed_39 (lv_at hl 0 rfl) ?_
          refine lv_if_lt (tgt := 75) hx hb dX9_feed_41 (by decide) (fun _ => ?_) (fun c_231 => absurd (by decide) c_231)
          refine lv_aload_n hx hb dX9_feed_75 rfl (lv_at hl 1 rfl) ?_
          refine va_get (D := (dC, dI)) (ci := 14) (v := .ref lt) (C := RX9) (T := TX9) (N := 13) hx hb hts (fun _ h9 => List.mem_cons_of_mem _ (List.mem_append_left _ (List.mem_append_left _ (List.mem_append_left _ (List.mem_append_right _ (h9)))))) hown hK hP 0 rfl rfl 3 (by decide) (hts (.fieldLink RX9 24 "ExamHallsModel" "tape" "Ljava/util/List;") (List.mem_of_getElem? (i := 1) rfl)) (fun _ h9 => h9) rfl dX9_feed_76 ?_
          refine va_csFi (va_runF (hK.1 4 _ rfl).2 (As := []) (rest := []) ⟨hx, hb, hml, hown, hts⟩ (c_AL_size l dC dI lt hm_228 g1_178 6) (va_cwF 0 hts gX9_feed_Jx4a65c_size_8abf5_f56Jx4a65c rfl rfl rfl (Ft.fw hF (RJx4a65c, ⟨"java/util/List", "size", "()I"⟩, yJx4a65c_size_8abf5) (by decide +kernel)) (by decide +kernel) ⟨Nat.le_of_ble_eq_true rfl, Nat.le_of_ble_eq_true rfl⟩) ⟨PS_blind, va_recv hK hP (ci := 4) (q0 := 1) rfl rfl, PS_pre (hP.sub (ws' := [(lt, .inr (4, [.int hm_228, .ref g1_178, .int 6]))]) [1] rfl) (hK.sub (tys' := []) [] rfl) hF⟩ rfl rfl hl.1 rfl (lv_room (Nat.le_of_ble_eq_true rfl)) dX9_feed_79 ⟨Nat.le_of_ble_eq_true rfl, Nat.le_of_ble_eq_true rfl⟩) (fun r_232 hr_232 => ?_)
          subst hr_232
          refine W.widen (k := 9) (n := 18) (Nat.le_of_ble_eq_true rfl) (Nat.le_of_ble_eq_true rfl) ?_
          exact W.iret (v := 6) hx hb hr (fun t ht hW => ⟨⟨_, (), rfl, (by decide), trivial⟩, hS.F ht⟩) hS.2.2 dX9_feed_84
        · have hl : lv_has ls 5 [(4, .int (7 - 1)), (0, .ref mx), (1, .long c1), (3, .int 7)] := hl
          have e9 : (7 : Int32) - 1 = 6 := by decide
          rw [e9] at hl
          refine lv_iload hx hb dX9_feed_39 (lv_at hl 0 rfl) ?_
          refine lv_if_lt (tgt := 75) hx hb dX9_feed_41 (by decide) (fun c_233 => absurd c_233 (by decide)) (fun _ => ?_)
          refine lv_aload_n hx hb dX9_feed_44 rfl (lv_at hl 1 rfl) ?_
          refine va_get (D := (dC, dI)) (ci := 14) (v := .ref lt) (C := RX9) (T := TX9) (N := 13) hx hb hts (fun _ h9 => List.mem_cons_of_mem _ (List.mem_append_left _ (List.mem_append_left _ (List.mem_append_left _ (List.mem_append_right _ (h9)))))) hown hK hP 0 rfl rfl 3 (by decide) (hts (.fieldLink RX9 24 "ExamHallsModel" "tape" "Ljava/util/List;") (List.mem_of_getElem? (i := 1) rfl)) (fun _ h9 => h9) rfl dX9_feed_45 ?_
          refine lv_lload_n hx hb dX9_feed_48 rfl (lv_at hl 2 rfl) ?_
          refine lv_bipush (v := 8) hx hb dX9_feed_49 (by decide) ?_
          refine lv_iload hx hb dX9_feed_51 (lv_at hl 0 rfl) ?_
          refine lv_imul hx hb dX9_feed_53 ?_
          refine lv_topi (fun f_234 ef_234 => ?_)
          obtain rfl : f_234 = 48 := ef_234.trans (by decide)
          refine lv_lshr hx hb dX9_feed_54 rfl ?_
          refine lv_ldc2 (v := 255) hx hb hown (hts (.constantLong RX9 76 (255)) (List.mem_of_getElem? (i := 2) rfl)) dX9_feed_55 ?_
          refine lv_land hx hb dX9_feed_58 ?_
          refine lv_l2i hx hb dX9_feed_59 rfl ?_
          have hPc := hP.sub (ws' := []) [] rfl
          have hDc := hD.sub (ws' := []) [] (by decide) rfl
          have hKc := hK.sub (tys' := []) [] rfl
          have hFc := va_free (wc := []) hD hS hA [] rfl
          refine va_callr (va_runS (As := [.int (((c1 >>> ((48 : Int32).toInt64 &&& 63)) &&& 255).toInt32)]) (rest := [.ref lt]) ⟨hx, hb, hml, hown, hts⟩ (c_valueOf l dC dI d tc ad (((c1 >>> ((48 : Int32).toInt64 &&& 63)) &&& 255).toInt32) s.heap.size) (va_cwS 1 hts gX9_feed_J6_valueOf_2dffe rfl rfl rfl (by decide +kernel) ⟨Nat.le_of_ble_eq_true rfl, Nat.le_of_ble_eq_true rfl⟩) ⟨PZ_blind, PZ_pre hPc hKc hDc hF hZ hS hFc⟩ rfl rfl hl.1 rfl (lv_room (Nat.le_of_ble_eq_true rfl)) dX9_feed_60 ⟨Nat.le_of_ble_eq_true rfl, Nat.le_of_ble_eq_true rfl⟩) hS (fun q _ h => hFc q h) hFc (fun u r_235 t H1 locs ht hvm hw hB hz1 hk1 hS => ?_)
          obtain ⟨hP1, hK1, hD1, hx_236, hx_237, hx_238⟩ := hB
          rw [ht] at hP1
          have hK1 := va_K.moved hvm.symm hK1
          rw [ht] at hx_236 hx_238
          have hEr_235 := any_moved hvm.symm hx_236
          have ner_235_lt : r_235 ≠ lt := by
            rcases hx_237 with h9 | ⟨k9, hk9, e9⟩
            · intro e9; have h8 := (hP 1 _ rfl).lt; rw [← e9] at h8; exact absurd h9 (Nat.not_le.mpr h8)
            · intro e8; obtain ⟨_, _, _, _, h7⟩ := hZ.2.2.2.2.2.1 k9 hk9; exact h7 (by rw [← e9, e8]; exact hD.2 1 _ rfl)
          obtain ⟨hP, hD⟩ := va_join (wr := [(mx, .inr (14, [.ref lc, .ref lr, .ref kn, .ref lt, .ref ml, .ref mm, .ref lp, .ref lb, .ref mq, .int 1, .int 10, .int 0, .int 0])), (lt, .inr (4, [.int 0, .ref d, .int 0]))]) (w1 := []) hP hD [] [0, 1] rfl rfl (by decide) (by decide) hk1 hFc hP1 hD1
          have hK := hK.app hK1
          generalize H1 = H at hP hS hEr_235 hx_238 ⊢
          have hP : va_P (dC, dI) vwCl [(mx, .inr (14, [.ref lc, .ref lr, .ref kn, .ref lt, .ref ml, .ref mm, .ref lp, .ref lb, .ref mq, .int 1, .int 10, .int 0, .int 0])), (lt, .inr (4, [.int 0, .ref d, .int 0]))] H := hP
          have hD : va_D A [(mx, .inr (14, [.ref lc, .ref lr, .ref kn, .ref lt, .ref ml, .ref mm, .ref lp, .ref lb, .ref mq, .int 1, .int 10, .int 0, .int 0])), (lt, .inr (4, [.int 0, .ref d, .int 0]))] := hD
          have hK : va_K (dC, dI) vwCl [] s := hK
          refine W.widen (k := 1) (n := 1) (Nat.le_of_ble_eq_true rfl) (Nat.le_of_ble_eq_true rfl) ?_
          have hPc := hP.sub (ws' := [(lt, .inr (4, [.int 0, .ref d, .int 0]))]) [1] rfl
          have hDc := hD.sub (ws' := [(lt, .inr (4, [.int 0, .ref d, .int 0]))]) [1] (by decide) rfl
          have hKc := hK.sub (tys' := []) [] rfl
          have hFc := va_free (wc := [(lt, .inr (4, [.int 0, .ref d, .int 0]))]) hD hS hA [1] rfl
          refine va_callFi (va_runF (hK.1 4 _ rfl).2 (As := [.ref r_235]) (rest := []) ⟨hx, hb, hml, hown, hts⟩ (c_AL_addf l dC dI d tc ad lt 0 r_235 H.size ner_235_lt hx_238) (va_cwF 1 hts gX9_feed_Jx4a65c_add_9ea2d_f72Jx4a65c rfl rfl rfl (Ft.fw hF (RJx4a65c, ⟨"java/util/List", "add", "(Ljava/lang/Object;)Z"⟩, yJx4a65c_add_9ea2d) (by decide +kernel)) (by decide +kernel) ⟨Nat.le_of_ble_eq_true rfl, Nat.le_of_ble_eq_true rfl⟩) ⟨PE_blind, va_recv hK hP (ci := 4) (q0 := 1) rfl rfl, PE_pre hPc hKc hDc hF hZ hS hFc hEr_235⟩ rfl rfl hl.1 rfl (lv_room (Nat.le_of_ble_eq_true rfl)) dX9_feed_63 ⟨Nat.le_of_ble_eq_true rfl, Nat.le_of_ble_eq_true rfl⟩) hS (fun q _ h => hFc q h) hFc (fun r_239 u t H1 locs ht hvm hw hB hz1 hk1 hS => ?_)
          obtain ⟨hm_240, g1_241, kO_242, fa_243, hP1, hK1, hD1⟩ := hB
          rw [ht] at hP1
          have hK1 := va_K.moved hvm.symm hK1
          obtain ⟨hP, hD⟩ := va_join (wr := [(mx, .inr (14, [.ref lc, .ref lr, .ref kn, .ref lt, .ref ml, .ref mm, .ref lp, .ref lb, .ref mq, .int 1, .int 10, .int 0, .int 0]))]) (w1 := [(lt, .inr (4, [.int hm_240, .ref g1_241, .int 1])), (g1_241, .inl (kO_242, 10, .inr (.inr (.inr (.inr fa_243)))))]) hP hD [1] [0] rfl rfl (by decide) (by decide) hk1 hFc hP1 hD1
          have hK := hK.app hK1
          generalize H1 = H at hP hS ⊢
          have hP : va_P (dC, dI) vwCl [(mx, .inr (14, [.ref lc, .ref lr, .ref kn, .ref lt, .ref ml, .ref mm, .ref lp, .ref lb, .ref mq, .int 1, .int 10, .int 0, .int 0])), (lt, .inr (4, [.int hm_240, .ref g1_241, .int 1])), (g1_241, .inl (kO_242, 10, .inr (.inr (.inr (.inr fa_243)))))] H := hP
          have hD : va_D A [(mx, .inr (14, [.ref lc, .ref lr, .ref kn, .ref lt, .ref ml, .ref mm, .ref lp, .ref lb, .ref mq, .int 1, .int 10, .int 0, .int 0])), (lt, .inr (4, [.int hm_240, .ref g1_241, .int 1])), (g1_241, .inl (kO_242, 10, .inr (.inr (.inr (.inr fa_243)))))] := hD
          have hK : va_K (dC, dI) vwCl [(kO_242, .object "java/lang/Object")] s := hK
          refine W.widen (k := 2) (n := 11) (Nat.le_of_ble_eq_true rfl) (Nat.le_of_ble_eq_true rfl) ?_
          obtain rfl := hw
          refine lv_pop hx hb dX9_feed_68 rfl ?_
          refine lv_iinc (v := 5) (lv' := [(4, .int 5), (0, .ref mx), (1, .long c1), (3, .int 7)]) hx hb dX9_feed_69 hl (k := 0) rfl (by decide) (by decide) rfl (fun ls hl => ?_)
          refine lv_goto (tgt := 39) hx hb dX9_feed_72 (by decide) ?_
          refine lv_iload hx hb dX9_feed_39 (lv_at hl 0 rfl) ?_
          refine lv_if_lt (tgt := 75) hx hb dX9_feed_41 (by decide) (fun c_244 => absurd c_244 (by decide)) (fun _ => ?_)
          refine lv_aload_n hx hb dX9_feed_44 rfl (lv_at hl 1 rfl) ?_
          refine va_get (D := (dC, dI)) (ci := 14) (v := .ref lt) (C := RX9) (T := TX9) (N := 13) hx hb hts (fun _ h9 => List.mem_cons_of_mem _ (List.mem_append_left _ (List.mem_append_left _ (List.mem_append_left _ (List.mem_append_right _ (h9)))))) hown hK hP 0 rfl rfl 3 (by decide) (hts (.fieldLink RX9 24 "ExamHallsModel" "tape" "Ljava/util/List;") (List.mem_of_getElem? (i := 1) rfl)) (fun _ h9 => h9) rfl dX9_feed_45 ?_
          refine lv_lload_n hx hb dX9_feed_48 rfl (lv_at hl 2 rfl) ?_
          refine lv_bipush (v := 8) hx hb dX9_feed_49 (by decide) ?_
          refine lv_iload hx hb dX9_feed_51 (lv_at hl 0 rfl) ?_
          refine lv_imul hx hb dX9_feed_53 ?_
          refine lv_topi (fun f_245 ef_245 => ?_)
          obtain rfl : f_245 = 40 := ef_245.trans (by decide)
          refine lv_lshr hx hb dX9_feed_54 rfl ?_
          refine lv_ldc2 (v := 255) hx hb hown (hts (.constantLong RX9 76 (255)) (List.mem_of_getElem? (i := 2) rfl)) dX9_feed_55 ?_
          refine lv_land hx hb dX9_feed_58 ?_
          refine lv_l2i hx hb dX9_feed_59 rfl ?_
          have hPc := hP.sub (ws' := []) [] rfl
          have hDc := hD.sub (ws' := []) [] (by decide) rfl
          have hKc := hK.sub (tys' := []) [] rfl
          have hFc := va_free (wc := []) hD hS hA [] rfl
          refine va_callr (va_runS (As := [.int (((c1 >>> ((40 : Int32).toInt64 &&& 63)) &&& 255).toInt32)]) (rest := [.ref lt]) ⟨hx, hb, hml, hown, hts⟩ (c_valueOf l dC dI d tc ad (((c1 >>> ((40 : Int32).toInt64 &&& 63)) &&& 255).toInt32) H.size) (va_cwS 1 hts gX9_feed_J6_valueOf_2dffe rfl rfl rfl (by decide +kernel) ⟨Nat.le_of_ble_eq_true rfl, Nat.le_of_ble_eq_true rfl⟩) ⟨PZ_blind, PZ_pre hPc hKc hDc hF hZ hS hFc⟩ rfl rfl hl.1 rfl (lv_room (Nat.le_of_ble_eq_true rfl)) dX9_feed_60 ⟨Nat.le_of_ble_eq_true rfl, Nat.le_of_ble_eq_true rfl⟩) hS (fun q _ h => hFc q h) hFc (fun u r_246 t H1 locs ht hvm hw hB hz1 hk1 hS => ?_)
          obtain ⟨hP1, hK1, hD1, hx_247, hx_248, hx_249⟩ := hB
          rw [ht] at hP1
          have hK1 := va_K.moved hvm.symm hK1
          rw [ht] at hx_247 hx_249
          have hEr_246 := any_moved hvm.symm hx_247
          have ner_246_lt : r_246 ≠ lt := by
            rcases hx_248 with h9 | ⟨k9, hk9, e9⟩
            · intro e9; have h8 := (hP 1 _ rfl).lt; rw [← e9] at h8; exact absurd h9 (Nat.not_le.mpr h8)
            · intro e8; obtain ⟨_, _, _, _, h7⟩ := hZ.2.2.2.2.2.1 k9 hk9; exact h7 (by rw [← e9, e8]; exact hD.2 1 _ rfl)
          have ner_246_g1_241 : r_246 ≠ g1_241 := by
            rcases hx_248 with h9 | ⟨k9, hk9, e9⟩
            · intro e9; have h8 := (hP 2 _ rfl).lt; rw [← e9] at h8; exact absurd h9 (Nat.not_le.mpr h8)
            · intro e8; obtain ⟨_, _, _, _, h7⟩ := hZ.2.2.2.2.2.1 k9 hk9; exact h7 (by rw [← e9, e8]; exact hD.2 2 _ rfl)
          obtain ⟨hP, hD⟩ := va_join (wr := [(mx, .inr (14, [.ref lc, .ref lr, .ref kn, .ref lt, .ref ml, .ref mm, .ref lp, .ref lb, .ref mq, .int 1, .int 10, .int 0, .int 0])), (lt, .inr (4, [.int hm_240, .ref g1_241, .int 1])), (g1_241, .inl (kO_242, 10, .inr (.inr (.inr (.inr fa_243)))))]) (w1 := []) hP hD [] [0, 1, 2] rfl rfl (by decide) (by decide) hk1 hFc hP1 hD1
          have hK := hK.app hK1
          generalize H1 = H at hP hS hEr_246 hx_249 ⊢
          have hP : va_P (dC, dI) vwCl [(mx, .inr (14, [.ref lc, .ref lr, .ref kn, .ref lt, .ref ml, .ref mm, .ref lp, .ref lb, .ref mq, .int 1, .int 10, .int 0, .int 0])), (lt, .inr (4, [.int hm_240, .ref g1_241, .int 1])), (g1_241, .inl (kO_242, 10, .inr (.inr (.inr (.inr fa_243)))))] H := hP
          have hD : va_D A [(mx, .inr (14, [.ref lc, .ref lr, .ref kn, .ref lt, .ref ml, .ref mm, .ref lp, .ref lb, .ref mq, .int 1, .int 10, .int 0, .int 0])), (lt, .inr (4, [.int hm_240, .ref g1_241, .int 1])), (g1_241, .inl (kO_242, 10, .inr (.inr (.inr (.inr fa_243)))))] := hD
          have hK : va_K (dC, dI) vwCl [(kO_242, .object "java/lang/Object")] s := hK
          refine W.widen (k := 3) (n := 12) (Nat.le_of_ble_eq_true rfl) (Nat.le_of_ble_eq_true rfl) ?_
          have hPc := hP.sub (ws' := [(lt, .inr (4, [.int hm_240, .ref g1_241, .int 1])), (g1_241, .inl (kO_242, 10, .inr (.inr (.inr (.inr fa_243)))))]) [1, 2] rfl
          have hDc := hD.sub (ws' := [(lt, .inr (4, [.int hm_240, .ref g1_241, .int 1])), (g1_241, .inl (kO_242, 10, .inr (.inr (.inr (.inr fa_243)))))]) [1, 2] (by decide) rfl
          have hKc := hK.sub (tys' := [(kO_242, .object "java/lang/Object")]) [0] rfl
          have hFc := va_free (wc := [(lt, .inr (4, [.int hm_240, .ref g1_241, .int 1])), (g1_241, .inl (kO_242, 10, .inr (.inr (.inr (.inr fa_243)))))]) hD hS hA [1, 2] rfl
          refine va_callFi (va_runF (hK.1 4 _ rfl).2 (As := [.ref r_246]) (rest := []) ⟨hx, hb, hml, hown, hts⟩ (c_AL_addn l dC dI d tc ad lt hm_240 r_246 g1_241 1 kO_242 fa_243 H.size ner_246_lt hx_249 ner_246_g1_241 (by unfold vp_in; decide) (by decide)) (va_cwF 1 hts gX9_feed_Jx4a65c_add_9ea2d_f72Jx4a65c rfl rfl rfl (Ft.fw hF (RJx4a65c, ⟨"java/util/List", "add", "(Ljava/lang/Object;)Z"⟩, yJx4a65c_add_9ea2d) (by decide +kernel)) (by decide +kernel) ⟨Nat.le_of_ble_eq_true rfl, Nat.le_of_ble_eq_true rfl⟩) ⟨PE_blind, va_recv hK hP (ci := 4) (q0 := 1) rfl rfl, PE_pre hPc hKc hDc hF hZ hS hFc hEr_246⟩ rfl rfl hl.1 rfl (lv_room (Nat.le_of_ble_eq_true rfl)) dX9_feed_63 ⟨Nat.le_of_ble_eq_true rfl, Nat.le_of_ble_eq_true rfl⟩) hS (fun q _ h => hFc q h) hFc (fun r_250 u t H1 locs ht hvm hw hB hz1 hk1 hS => ?_)
          obtain ⟨hm_251, fb_252, hP1, hK1, hD1⟩ := hB
          rw [ht] at hP1
          have hK1 := va_K.moved hvm.symm hK1
          obtain ⟨hP, hD⟩ := va_join (wr := [(mx, .inr (14, [.ref lc, .ref lr, .ref kn, .ref lt, .ref ml, .ref mm, .ref lp, .ref lb, .ref mq, .int 1, .int 10, .int 0, .int 0]))]) (w1 := [(lt, .inr (4, [.int hm_251, .ref g1_241, .int (1 + 1)])), (g1_241, .inl (kO_242, 10, .inr (.inr (.inr (.inr fb_252)))))]) hP hD [1, 2] [0] rfl rfl (by decide) (by decide) hk1 hFc hP1 hD1
          have hK := hK.app hK1
          generalize H1 = H at hP hS ⊢
          have hP : va_P (dC, dI) vwCl [(mx, .inr (14, [.ref lc, .ref lr, .ref kn, .ref lt, .ref ml, .ref mm, .ref lp, .ref lb, .ref mq, .int 1, .int 10, .int 0, .int 0])), (lt, .inr (4, [.int hm_251, .ref g1_241, .int (1 + 1)])), (g1_241, .inl (kO_242, 10, .inr (.inr (.inr (.inr fb_252)))))] H := hP
          have hD : va_D A [(mx, .inr (14, [.ref lc, .ref lr, .ref kn, .ref lt, .ref ml, .ref mm, .ref lp, .ref lb, .ref mq, .int 1, .int 10, .int 0, .int 0])), (lt, .inr (4, [.int hm_251, .ref g1_241, .int (1 + 1)])), (g1_241, .inl (kO_242, 10, .inr (.inr (.inr (.inr fb_252)))))] := hD
          have hK : va_K (dC, dI) vwCl [(kO_242, .object "java/lang/Object"), (kO_242, .object "java/lang/Object")] s := hK
          refine W.widen (k := 3) (n := 12) (Nat.le_of_ble_eq_true rfl) (Nat.le_of_ble_eq_true rfl) ?_
          obtain rfl := hw
          have ez_253 : (1 + 1 : Int32) = 2 := by decide
          rw [ez_253] at hP hD
          have hP : va_P (dC, dI) vwCl [(mx, .inr (14, [.ref lc, .ref lr, .ref kn, .ref lt, .ref ml, .ref mm, .ref lp, .ref lb, .ref mq, .int 1, .int 10, .int 0, .int 0])), (lt, .inr (4, [.int hm_251, .ref g1_241, .int 2])), (g1_241, .inl (kO_242, 10, .inr (.inr (.inr (.inr fb_252)))))] H := hP
          have hD : va_D A [(mx, .inr (14, [.ref lc, .ref lr, .ref kn, .ref lt, .ref ml, .ref mm, .ref lp, .ref lb, .ref mq, .int 1, .int 10, .int 0, .int 0])), (lt, .inr (4, [.int hm_251, .ref g1_241, .int 2])), (g1_241, .inl (kO_242, 10, .inr (.inr (.inr (.inr fb_252)))))] := hD
          refine lv_pop hx hb dX9_feed_68 rfl ?_
          refine lv_iinc (v := 4) (lv' := [(4, .int 4), (0, .ref mx), (1, .long c1), (3, .int 7)]) hx hb dX9_feed_69 hl (k := 0) rfl (by decide) (by decide) rfl (fun ls hl => ?_)
          refine lv_goto (tgt := 39) hx hb dX9_feed_72 (by decide) ?_
          refine lv_iload hx hb dX9_feed_39 (lv_at hl 0 rfl) ?_
          refine lv_if_lt (tgt := 75) hx hb dX9_feed_41 (by decide) (fun c_254 => absurd c_254 (by decide)) (fun _ => ?_)
          refine lv_aload_n hx hb dX9_feed_44 rfl (lv_at hl 1 rfl) ?_
          refine va_get (D := (dC, dI)) (ci := 14) (v := .ref lt) (C := RX9) (T := TX9) (N := 13) hx hb hts (fun _ h9 => List.mem_cons_of_mem _ (List.mem_append_left _ (List.mem_append_left _ (List.mem_append_left _ (List.mem_append_right _ (h9)))))) hown hK hP 0 rfl rfl 3 (by decide) (hts (.fieldLink RX9 24 "ExamHallsModel" "tape" "Ljava/util/List;") (List.mem_of_getElem? (i := 1) rfl)) (fun _ h9 => h9) rfl dX9_feed_45 ?_
          refine lv_lload_n hx hb dX9_feed_48 rfl (lv_at hl 2 rfl) ?_
          refine lv_bipush (v := 8) hx hb dX9_feed_49 (by decide) ?_
          refine lv_iload hx hb dX9_feed_51 (lv_at hl 0 rfl) ?_
          refine lv_imul hx hb dX9_feed_53 ?_
          refine lv_topi (fun f_255 ef_255 => ?_)
          obtain rfl : f_255 = 32 := ef_255.trans (by decide)
          refine lv_lshr hx hb dX9_feed_54 rfl ?_
          refine lv_ldc2 (v := 255) hx hb hown (hts (.constantLong RX9 76 (255)) (List.mem_of_getElem? (i := 2) rfl)) dX9_feed_55 ?_
          refine lv_land hx hb dX9_feed_58 ?_
          refine lv_l2i hx hb dX9_feed_59 rfl ?_
          have hPc := hP.sub (ws' := []) [] rfl
          have hDc := hD.sub (ws' := []) [] (by decide) rfl
          have hKc := hK.sub (tys' := []) [] rfl
          have hFc := va_free (wc := []) hD hS hA [] rfl
          refine va_callr (va_runS (As := [.int (((c1 >>> ((32 : Int32).toInt64 &&& 63)) &&& 255).toInt32)]) (rest := [.ref lt]) ⟨hx, hb, hml, hown, hts⟩ (c_valueOf l dC dI d tc ad (((c1 >>> ((32 : Int32).toInt64 &&& 63)) &&& 255).toInt32) H.size) (va_cwS 1 hts gX9_feed_J6_valueOf_2dffe rfl rfl rfl (by decide +kernel) ⟨Nat.le_of_ble_eq_true rfl, Nat.le_of_ble_eq_true rfl⟩) ⟨PZ_blind, PZ_pre hPc hKc hDc hF hZ hS hFc⟩ rfl rfl hl.1 rfl (lv_room (Nat.le_of_ble_eq_true rfl)) dX9_feed_60 ⟨Nat.le_of_ble_eq_true rfl, Nat.le_of_ble_eq_true rfl⟩) hS (fun q _ h => hFc q h) hFc (fun u r_256 t H1 locs ht hvm hw hB hz1 hk1 hS => ?_)
          obtain ⟨hP1, hK1, hD1, hx_257, hx_258, hx_259⟩ := hB
          rw [ht] at hP1
          have hK1 := va_K.moved hvm.symm hK1
          rw [ht] at hx_257 hx_259
          have hEr_256 := any_moved hvm.symm hx_257
          have ner_256_lt : r_256 ≠ lt := by
            rcases hx_258 with h9 | ⟨k9, hk9, e9⟩
            · intro e9; have h8 := (hP 1 _ rfl).lt; rw [← e9] at h8; exact absurd h9 (Nat.not_le.mpr h8)
            · intro e8; obtain ⟨_, _, _, _, h7⟩ := hZ.2.2.2.2.2.1 k9 hk9; exact h7 (by rw [← e9, e8]; exact hD.2 1 _ rfl)
          have ner_256_g1_241 : r_256 ≠ g1_241 := by
            rcases hx_258 with h9 | ⟨k9, hk9, e9⟩
            · intro e9; have h8 := (hP 2 _ rfl).lt; rw [← e9] at h8; exact absurd h9 (Nat.not_le.mpr h8)
            · intro e8; obtain ⟨_, _, _, _, h7⟩ := hZ.2.2.2.2.2.1 k9 hk9; exact h7 (by rw [← e9, e8]; exact hD.2 2 _ rfl)
          obtain ⟨hP, hD⟩ := va_join (wr := [(mx, .inr (14, [.ref lc, .ref lr, .ref kn, .ref lt, .ref ml, .ref mm, .ref lp, .ref lb, .ref mq, .int 1, .int 10, .int 0, .int 0])), (lt, .inr (4, [.int hm_251, .ref g1_241, .int 2])), (g1_241, .inl (kO_242, 10, .inr (.inr (.inr (.inr fb_252)))))]) (w1 := []) hP hD [] [0, 1, 2] rfl rfl (by decide) (by decide) hk1 hFc hP1 hD1
          have hK := hK.app hK1
          generalize H1 = H at hP hS hEr_256 hx_259 ⊢
          have hP : va_P (dC, dI) vwCl [(mx, .inr (14, [.ref lc, .ref lr, .ref kn, .ref lt, .ref ml, .ref mm, .ref lp, .ref lb, .ref mq, .int 1, .int 10, .int 0, .int 0])), (lt, .inr (4, [.int hm_251, .ref g1_241, .int 2])), (g1_241, .inl (kO_242, 10, .inr (.inr (.inr (.inr fb_252)))))] H := hP
          have hD : va_D A [(mx, .inr (14, [.ref lc, .ref lr, .ref kn, .ref lt, .ref ml, .ref mm, .ref lp, .ref lb, .ref mq, .int 1, .int 10, .int 0, .int 0])), (lt, .inr (4, [.int hm_251, .ref g1_241, .int 2])), (g1_241, .inl (kO_242, 10, .inr (.inr (.inr (.inr fb_252)))))] := hD
          have hK : va_K (dC, dI) vwCl [(kO_242, .object "java/lang/Object"), (kO_242, .object "java/lang/Object")] s := hK
          refine W.widen (k := 4) (n := 13) (Nat.le_of_ble_eq_true rfl) (Nat.le_of_ble_eq_true rfl) ?_
          have hPc := hP.sub (ws' := [(lt, .inr (4, [.int hm_251, .ref g1_241, .int 2])), (g1_241, .inl (kO_242, 10, .inr (.inr (.inr (.inr fb_252)))))]) [1, 2] rfl
          have hDc := hD.sub (ws' := [(lt, .inr (4, [.int hm_251, .ref g1_241, .int 2])), (g1_241, .inl (kO_242, 10, .inr (.inr (.inr (.inr fb_252)))))]) [1, 2] (by decide) rfl
          have hKc := hK.sub (tys' := [(kO_242, .object "java/lang/Object")]) [0] rfl
          have hFc := va_free (wc := [(lt, .inr (4, [.int hm_251, .ref g1_241, .int 2])), (g1_241, .inl (kO_242, 10, .inr (.inr (.inr (.inr fb_252)))))]) hD hS hA [1, 2] rfl
          refine va_callFi (va_runF (hK.1 4 _ rfl).2 (As := [.ref r_256]) (rest := []) ⟨hx, hb, hml, hown, hts⟩ (c_AL_addn l dC dI d tc ad lt hm_251 r_256 g1_241 2 kO_242 fb_252 H.size ner_256_lt hx_259 ner_256_g1_241 (by unfold vp_in; decide) (by decide)) (va_cwF 1 hts gX9_feed_Jx4a65c_add_9ea2d_f72Jx4a65c rfl rfl rfl (Ft.fw hF (RJx4a65c, ⟨"java/util/List", "add", "(Ljava/lang/Object;)Z"⟩, yJx4a65c_add_9ea2d) (by decide +kernel)) (by decide +kernel) ⟨Nat.le_of_ble_eq_true rfl, Nat.le_of_ble_eq_true rfl⟩) ⟨PE_blind, va_recv hK hP (ci := 4) (q0 := 1) rfl rfl, PE_pre hPc hKc hDc hF hZ hS hFc hEr_256⟩ rfl rfl hl.1 rfl (lv_room (Nat.le_of_ble_eq_true rfl)) dX9_feed_63 ⟨Nat.le_of_ble_eq_true rfl, Nat.le_of_ble_eq_true rfl⟩) hS (fun q _ h => hFc q h) hFc (fun r_260 u t H1 locs ht hvm hw hB hz1 hk1 hS => ?_)
          obtain ⟨hm_261, fb_262, hP1, hK1, hD1⟩ := hB
          rw [ht] at hP1
          have hK1 := va_K.moved hvm.symm hK1
          obtain ⟨hP, hD⟩ := va_join (wr := [(mx, .inr (14, [.ref lc, .ref lr, .ref kn, .ref lt, .ref ml, .ref mm, .ref lp, .ref lb, .ref mq, .int 1, .int 10, .int 0, .int 0]))]) (w1 := [(lt, .inr (4, [.int hm_261, .ref g1_241, .int (2 + 1)])), (g1_241, .inl (kO_242, 10, .inr (.inr (.inr (.inr fb_262)))))]) hP hD [1, 2] [0] rfl rfl (by decide) (by decide) hk1 hFc hP1 hD1
          have hK := hK.app hK1
          generalize H1 = H at hP hS ⊢
          have hP : va_P (dC, dI) vwCl [(mx, .inr (14, [.ref lc, .ref lr, .ref kn, .ref lt, .ref ml, .ref mm, .ref lp, .ref lb, .ref mq, .int 1, .int 10, .int 0, .int 0])), (lt, .inr (4, [.int hm_261, .ref g1_241, .int (2 + 1)])), (g1_241, .inl (kO_242, 10, .inr (.inr (.inr (.inr fb_262)))))] H := hP
          have hD : va_D A [(mx, .inr (14, [.ref lc, .ref lr, .ref kn, .ref lt, .ref ml, .ref mm, .ref lp, .ref lb, .ref mq, .int 1, .int 10, .int 0, .int 0])), (lt, .inr (4, [.int hm_261, .ref g1_241, .int (2 + 1)])), (g1_241, .inl (kO_242, 10, .inr (.inr (.inr (.inr fb_262)))))] := hD
          have hK : va_K (dC, dI) vwCl [(kO_242, .object "java/lang/Object"), (kO_242, .object "java/lang/Object"), (kO_242, .object "java/lang/Object")] s := hK
          refine W.widen (k := 4) (n := 13) (Nat.le_of_ble_eq_true rfl) (Nat.le_of_ble_eq_true rfl) ?_
          obtain rfl := hw
          have ez_263 : (2 + 1 : Int32) = 3 := by decide
          rw [ez_263] at hP hD
          have hP : va_P (dC, dI) vwCl [(mx, .inr (14, [.ref lc, .ref lr, .ref kn, .ref lt, .ref ml, .ref mm, .ref lp, .ref lb, .ref mq, .int 1, .int 10, .int 0, .int 0])), (lt, .inr (4, [.int hm_261, .ref g1_241, .int 3])), (g1_241, .inl (kO_242, 10, .inr (.inr (.inr (.inr fb_262)))))] H := hP
          have hD : va_D A [(mx, .inr (14, [.ref lc, .ref lr, .ref kn, .ref lt, .ref ml, .ref mm, .ref lp, .ref lb, .ref mq, .int 1, .int 10, .int 0, .int 0])), (lt, .inr (4, [.int hm_261, .ref g1_241, .int 3])), (g1_241, .inl (kO_242, 10, .inr (.inr (.inr (.inr fb_262)))))] := hD
          refine lv_pop hx hb dX9_feed_68 rfl ?_
          refine lv_iinc (v := 3) (lv' := [(4, .int 3), (0, .ref mx), (1, .long c1), (3, .int 7)]) hx hb dX9_feed_69 hl (k := 0) rfl (by decide) (by decide) rfl (fun ls hl => ?_)
          refine lv_goto (tgt := 39) hx hb dX9_feed_72 (by decide) ?_
          refine lv_iload hx hb dX9_feed_39 (lv_at hl 0 rfl) ?_
          refine lv_if_lt (tgt := 75) hx hb dX9_feed_41 (by decide) (fun c_264 => absurd c_264 (by decide)) (fun _ => ?_)
          refine lv_aload_n hx hb dX9_feed_44 rfl (lv_at hl 1 rfl) ?_
          refine va_get (D := (dC, dI)) (ci := 14) (v := .ref lt) (C := RX9) (T := TX9) (N := 13) hx hb hts (fun _ h9 => List.mem_cons_of_mem _ (List.mem_append_left _ (List.mem_append_left _ (List.mem_append_left _ (List.mem_append_right _ (h9)))))) hown hK hP 0 rfl rfl 3 (by decide) (hts (.fieldLink RX9 24 "ExamHallsModel" "tape" "Ljava/util/List;") (List.mem_of_getElem? (i := 1) rfl)) (fun _ h9 => h9) rfl dX9_feed_45 ?_
          refine lv_lload_n hx hb dX9_feed_48 rfl (lv_at hl 2 rfl) ?_
          refine lv_bipush (v := 8) hx hb dX9_feed_49 (by decide) ?_
          refine lv_iload hx hb dX9_feed_51 (lv_at hl 0 rfl) ?_
          refine lv_imul hx hb dX9_feed_53 ?_
          refine lv_topi (fun f_265 ef_265 => ?_)
          obtain rfl : f_265 = 24 := ef_265.trans (by decide)
          refine lv_lshr hx hb dX9_feed_54 rfl ?_
          refine lv_ldc2 (v := 255) hx hb hown (hts (.constantLong RX9 76 (255)) (List.mem_of_getElem? (i := 2) rfl)) dX9_feed_55 ?_
          refine lv_land hx hb dX9_feed_58 ?_
          refine lv_l2i hx hb dX9_feed_59 rfl ?_
          have hPc := hP.sub (ws' := []) [] rfl
          have hDc := hD.sub (ws' := []) [] (by decide) rfl
          have hKc := hK.sub (tys' := []) [] rfl
          have hFc := va_free (wc := []) hD hS hA [] rfl
          refine va_callr (va_runS (As := [.int (((c1 >>> ((24 : Int32).toInt64 &&& 63)) &&& 255).toInt32)]) (rest := [.ref lt]) ⟨hx, hb, hml, hown, hts⟩ (c_valueOf l dC dI d tc ad (((c1 >>> ((24 : Int32).toInt64 &&& 63)) &&& 255).toInt32) H.size) (va_cwS 1 hts gX9_feed_J6_valueOf_2dffe rfl rfl rfl (by decide +kernel) ⟨Nat.le_of_ble_eq_true rfl, Nat.le_of_ble_eq_true rfl⟩) ⟨PZ_blind, PZ_pre hPc hKc hDc hF hZ hS hFc⟩ rfl rfl hl.1 rfl (lv_room (Nat.le_of_ble_eq_true rfl)) dX9_feed_60 ⟨Nat.le_of_ble_eq_true rfl, Nat.le_of_ble_eq_true rfl⟩) hS (fun q _ h => hFc q h) hFc (fun u r_266 t H1 locs ht hvm hw hB hz1 hk1 hS => ?_)
          obtain ⟨hP1, hK1, hD1, hx_267, hx_268, hx_269⟩ := hB
          rw [ht] at hP1
          have hK1 := va_K.moved hvm.symm hK1
          rw [ht] at hx_267 hx_269
          have hEr_266 := any_moved hvm.symm hx_267
          have ner_266_lt : r_266 ≠ lt := by
            rcases hx_268 with h9 | ⟨k9, hk9, e9⟩
            · intro e9; have h8 := (hP 1 _ rfl).lt; rw [← e9] at h8; exact absurd h9 (Nat.not_le.mpr h8)
            · intro e8; obtain ⟨_, _, _, _, h7⟩ := hZ.2.2.2.2.2.1 k9 hk9; exact h7 (by rw [← e9, e8]; exact hD.2 1 _ rfl)
          have ner_266_g1_241 : r_266 ≠ g1_241 := by
            rcases hx_268 with h9 | ⟨k9, hk9, e9⟩
            · intro e9; have h8 := (hP 2 _ rfl).lt; rw [← e9] at h8; exact absurd h9 (Nat.not_le.mpr h8)
            · intro e8; obtain ⟨_, _, _, _, h7⟩ := hZ.2.2.2.2.2.1 k9 hk9; exact h7 (by rw [← e9, e8]; exact hD.2 2 _ rfl)
          obtain ⟨hP, hD⟩ := va_join (wr := [(mx, .inr (14, [.ref lc, .ref lr, .ref kn, .ref lt, .ref ml, .ref mm, .ref lp, .ref lb, .ref mq, .int 1, .int 10, .int 0, .int 0])), (lt, .inr (4, [.int hm_261, .ref g1_241, .int 3])), (g1_241, .inl (kO_242, 10, .inr (.inr (.inr (.inr fb_262)))))]) (w1 := []) hP hD [] [0, 1, 2] rfl rfl (by decide) (by decide) hk1 hFc hP1 hD1
          have hK := hK.app hK1
          generalize H1 = H at hP hS hEr_266 hx_269 ⊢
          have hP : va_P (dC, dI) vwCl [(mx, .inr (14, [.ref lc, .ref lr, .ref kn, .ref lt, .ref ml, .ref mm, .ref lp, .ref lb, .ref mq, .int 1, .int 10, .int 0, .int 0])), (lt, .inr (4, [.int hm_261, .ref g1_241, .int 3])), (g1_241, .inl (kO_242, 10, .inr (.inr (.inr (.inr fb_262)))))] H := hP
          have hD : va_D A [(mx, .inr (14, [.ref lc, .ref lr, .ref kn, .ref lt, .ref ml, .ref mm, .ref lp, .ref lb, .ref mq, .int 1, .int 10, .int 0, .int 0])), (lt, .inr (4, [.int hm_261, .ref g1_241, .int 3])), (g1_241, .inl (kO_242, 10, .inr (.inr (.inr (.inr fb_262)))))] := hD
          have hK : va_K (dC, dI) vwCl [(kO_242, .object "java/lang/Object"), (kO_242, .object "java/lang/Object"), (kO_242, .object "java/lang/Object")] s := hK
          refine W.widen (k := 5) (n := 14) (Nat.le_of_ble_eq_true rfl) (Nat.le_of_ble_eq_true rfl) ?_
          have hPc := hP.sub (ws' := [(lt, .inr (4, [.int hm_261, .ref g1_241, .int 3])), (g1_241, .inl (kO_242, 10, .inr (.inr (.inr (.inr fb_262)))))]) [1, 2] rfl
          have hDc := hD.sub (ws' := [(lt, .inr (4, [.int hm_261, .ref g1_241, .int 3])), (g1_241, .inl (kO_242, 10, .inr (.inr (.inr (.inr fb_262)))))]) [1, 2] (by decide) rfl
          have hKc := hK.sub (tys' := [(kO_242, .object "java/lang/Object")]) [0] rfl
          have hFc := va_free (wc := [(lt, .inr (4, [.int hm_261, .ref g1_241, .int 3])), (g1_241, .inl (kO_242, 10, .inr (.inr (.inr (.inr fb_262)))))]) hD hS hA [1, 2] rfl
          refine va_callFi (va_runF (hK.1 4 _ rfl).2 (As := [.ref r_266]) (rest := []) ⟨hx, hb, hml, hown, hts⟩ (c_AL_addn l dC dI d tc ad lt hm_261 r_266 g1_241 3 kO_242 fb_262 H.size ner_266_lt hx_269 ner_266_g1_241 (by unfold vp_in; decide) (by decide)) (va_cwF 1 hts gX9_feed_Jx4a65c_add_9ea2d_f72Jx4a65c rfl rfl rfl (Ft.fw hF (RJx4a65c, ⟨"java/util/List", "add", "(Ljava/lang/Object;)Z"⟩, yJx4a65c_add_9ea2d) (by decide +kernel)) (by decide +kernel) ⟨Nat.le_of_ble_eq_true rfl, Nat.le_of_ble_eq_true rfl⟩) ⟨PE_blind, va_recv hK hP (ci := 4) (q0 := 1) rfl rfl, PE_pre hPc hKc hDc hF hZ hS hFc hEr_266⟩ rfl rfl hl.1 rfl (lv_room (Nat.le_of_ble_eq_true rfl)) dX9_feed_63 ⟨Nat.le_of_ble_eq_true rfl, Nat.le_of_ble_eq_true rfl⟩) hS (fun q _ h => hFc q h) hFc (fun r_270 u t H1 locs ht hvm hw hB hz1 hk1 hS => ?_)
          obtain ⟨hm_271, fb_272, hP1, hK1, hD1⟩ := hB
          rw [ht] at hP1
          have hK1 := va_K.moved hvm.symm hK1
          obtain ⟨hP, hD⟩ := va_join (wr := [(mx, .inr (14, [.ref lc, .ref lr, .ref kn, .ref lt, .ref ml, .ref mm, .ref lp, .ref lb, .ref mq, .int 1, .int 10, .int 0, .int 0]))]) (w1 := [(lt, .inr (4, [.int hm_271, .ref g1_241, .int (3 + 1)])), (g1_241, .inl (kO_242, 10, .inr (.inr (.inr (.inr fb_272)))))]) hP hD [1, 2] [0] rfl rfl (by decide) (by decide) hk1 hFc hP1 hD1
          have hK := hK.app hK1
          generalize H1 = H at hP hS ⊢
          have hP : va_P (dC, dI) vwCl [(mx, .inr (14, [.ref lc, .ref lr, .ref kn, .ref lt, .ref ml, .ref mm, .ref lp, .ref lb, .ref mq, .int 1, .int 10, .int 0, .int 0])), (lt, .inr (4, [.int hm_271, .ref g1_241, .int (3 + 1)])), (g1_241, .inl (kO_242, 10, .inr (.inr (.inr (.inr fb_272)))))] H := hP
          have hD : va_D A [(mx, .inr (14, [.ref lc, .ref lr, .ref kn, .ref lt, .ref ml, .ref mm, .ref lp, .ref lb, .ref mq, .int 1, .int 10, .int 0, .int 0])), (lt, .inr (4, [.int hm_271, .ref g1_241, .int (3 + 1)])), (g1_241, .inl (kO_242, 10, .inr (.inr (.inr (.inr fb_272)))))] := hD
          have hK : va_K (dC, dI) vwCl [(kO_242, .object "java/lang/Object"), (kO_242, .object "java/lang/Object"), (kO_242, .object "java/lang/Object"), (kO_242, .object "java/lang/Object")] s := hK
          refine W.widen (k := 5) (n := 14) (Nat.le_of_ble_eq_true rfl) (Nat.le_of_ble_eq_true rfl) ?_
          obtain rfl := hw
          have ez_273 : (3 + 1 : Int32) = 4 := by decide
          rw [ez_273] at hP hD
          have hP : va_P (dC, dI) vwCl [(mx, .inr (14, [.ref lc, .ref lr, .ref kn, .ref lt, .ref ml, .ref mm, .ref lp, .ref lb, .ref mq, .int 1, .int 10, .int 0, .int 0])), (lt, .inr (4, [.int hm_271, .ref g1_241, .int 4])), (g1_241, .inl (kO_242, 10, .inr (.inr (.inr (.inr fb_272)))))] H := hP
          have hD : va_D A [(mx, .inr (14, [.ref lc, .ref lr, .ref kn, .ref lt, .ref ml, .ref mm, .ref lp, .ref lb, .ref mq, .int 1, .int 10, .int 0, .int 0])), (lt, .inr (4, [.int hm_271, .ref g1_241, .int 4])), (g1_241, .inl (kO_242, 10, .inr (.inr (.inr (.inr fb_272)))))] := hD
          refine lv_pop hx hb dX9_feed_68 rfl ?_
          refine lv_iinc (v := 2) (lv' := [(4, .int 2), (0, .ref mx), (1, .long c1), (3, .int 7)]) hx hb dX9_feed_69 hl (k := 0) rfl (by decide) (by decide) rfl (fun ls hl => ?_)
          refine lv_goto (tgt := 39) hx hb dX9_feed_72 (by decide) ?_
          refine lv_iload hx hb dX9_feed_39 (lv_at hl 0 rfl) ?_
          refine lv_if_lt (tgt := 75) hx hb dX9_feed_41 (by decide) (fun c_274 => absurd c_274 (by decide)) (fun _ => ?_)
          refine lv_aload_n hx hb dX9_feed_44 rfl (lv_at hl 1 rfl) ?_
          refine va_get (D := (dC, dI)) (ci := 14) (v := .ref lt) (C := RX9) (T := TX9) (N := 13) hx hb hts (fun _ h9 => List.mem_cons_of_mem _ (List.mem_append_left _ (List.mem_append_left _ (List.mem_append_left _ (List.mem_append_right _ (h9)))))) hown hK hP 0 rfl rfl 3 (by decide) (hts (.fieldLink RX9 24 "ExamHallsModel" "tape" "Ljava/util/List;") (List.mem_of_getElem? (i := 1) rfl)) (fun _ h9 => h9) rfl dX9_feed_45 ?_
          refine lv_lload_n hx hb dX9_feed_48 rfl (lv_at hl 2 rfl) ?_
          refine lv_bipush (v := 8) hx hb dX9_feed_49 (by decide) ?_
          refine lv_iload hx hb dX9_feed_51 (lv_at hl 0 rfl) ?_
          refine lv_imul hx hb dX9_feed_53 ?_
          refine lv_topi (fun f_275 ef_275 => ?_)
          obtain rfl : f_275 = 16 := ef_275.trans (by decide)
          refine lv_lshr hx hb dX9_feed_54 rfl ?_
          refine lv_ldc2 (v := 255) hx hb hown (hts (.constantLong RX9 76 (255)) (List.mem_of_getElem? (i := 2) rfl)) dX9_feed_55 ?_
          refine lv_land hx hb dX9_feed_58 ?_
          refine lv_l2i hx hb dX9_feed_59 rfl ?_
          have hPc := hP.sub (ws' := []) [] rfl
          have hDc := hD.sub (ws' := []) [] (by decide) rfl
          have hKc := hK.sub (tys' := []) [] rfl
          have hFc := va_free (wc := []) hD hS hA [] rfl
          refine va_callr (va_runS (As := [.int (((c1 >>> ((16 : Int32).toInt64 &&& 63)) &&& 255).toInt32)]) (rest := [.ref lt]) ⟨hx, hb, hml, hown, hts⟩ (c_valueOf l dC dI d tc ad (((c1 >>> ((16 : Int32).toInt64 &&& 63)) &&& 255).toInt32) H.size) (va_cwS 1 hts gX9_feed_J6_valueOf_2dffe rfl rfl rfl (by decide +kernel) ⟨Nat.le_of_ble_eq_true rfl, Nat.le_of_ble_eq_true rfl⟩) ⟨PZ_blind, PZ_pre hPc hKc hDc hF hZ hS hFc⟩ rfl rfl hl.1 rfl (lv_room (Nat.le_of_ble_eq_true rfl)) dX9_feed_60 ⟨Nat.le_of_ble_eq_true rfl, Nat.le_of_ble_eq_true rfl⟩) hS (fun q _ h => hFc q h) hFc (fun u r_276 t H1 locs ht hvm hw hB hz1 hk1 hS => ?_)
          obtain ⟨hP1, hK1, hD1, hx_277, hx_278, hx_279⟩ := hB
          rw [ht] at hP1
          have hK1 := va_K.moved hvm.symm hK1
          rw [ht] at hx_277 hx_279
          have hEr_276 := any_moved hvm.symm hx_277
          have ner_276_lt : r_276 ≠ lt := by
            rcases hx_278 with h9 | ⟨k9, hk9, e9⟩
            · intro e9; have h8 := (hP 1 _ rfl).lt; rw [← e9] at h8; exact absurd h9 (Nat.not_le.mpr h8)
            · intro e8; obtain ⟨_, _, _, _, h7⟩ := hZ.2.2.2.2.2.1 k9 hk9; exact h7 (by rw [← e9, e8]; exact hD.2 1 _ rfl)
          have ner_276_g1_241 : r_276 ≠ g1_241 := by
            rcases hx_278 with h9 | ⟨k9, hk9, e9⟩
            · intro e9; have h8 := (hP 2 _ rfl).lt; rw [← e9] at h8; exact absurd h9 (Nat.not_le.mpr h8)
            · intro e8; obtain ⟨_, _, _, _, h7⟩ := hZ.2.2.2.2.2.1 k9 hk9; exact h7 (by rw [← e9, e8]; exact hD.2 2 _ rfl)
          obtain ⟨hP, hD⟩ := va_join (wr := [(mx, .inr (14, [.ref lc, .ref lr, .ref kn, .ref lt, .ref ml, .ref mm, .ref lp, .ref lb, .ref mq, .int 1, .int 10, .int 0, .int 0])), (lt, .inr (4, [.int hm_271, .ref g1_241, .int 4])), (g1_241, .inl (kO_242, 10, .inr (.inr (.inr (.inr fb_272)))))]) (w1 := []) hP hD [] [0, 1, 2] rfl rfl (by decide) (by decide) hk1 hFc hP1 hD1
          have hK := hK.app hK1
          generalize H1 = H at hP hS hEr_276 hx_279 ⊢
          have hP : va_P (dC, dI) vwCl [(mx, .inr (14, [.ref lc, .ref lr, .ref kn, .ref lt, .ref ml, .ref mm, .ref lp, .ref lb, .ref mq, .int 1, .int 10, .int 0, .int 0])), (lt, .inr (4, [.int hm_271, .ref g1_241, .int 4])), (g1_241, .inl (kO_242, 10, .inr (.inr (.inr (.inr fb_272)))))] H := hP
          have hD : va_D A [(mx, .inr (14, [.ref lc, .ref lr, .ref kn, .ref lt, .ref ml, .ref mm, .ref lp, .ref lb, .ref mq, .int 1, .int 10, .int 0, .int 0])), (lt, .inr (4, [.int hm_271, .ref g1_241, .int 4])), (g1_241, .inl (kO_242, 10, .inr (.inr (.inr (.inr fb_272)))))] := hD
          have hK : va_K (dC, dI) vwCl [(kO_242, .object "java/lang/Object"), (kO_242, .object "java/lang/Object"), (kO_242, .object "java/lang/Object"), (kO_242, .object "java/lang/Object")] s := hK
          refine W.widen (k := 6) (n := 15) (Nat.le_of_ble_eq_true rfl) (Nat.le_of_ble_eq_true rfl) ?_
          have hPc := hP.sub (ws' := [(lt, .inr (4, [.int hm_271, .ref g1_241, .int 4])), (g1_241, .inl (kO_242, 10, .inr (.inr (.inr (.inr fb_272)))))]) [1, 2] rfl
          have hDc := hD.sub (ws' := [(lt, .inr (4, [.int hm_271, .ref g1_241, .int 4])), (g1_241, .inl (kO_242, 10, .inr (.inr (.inr (.inr fb_272)))))]) [1, 2] (by decide) rfl
          have hKc := hK.sub (tys' := [(kO_242, .object "java/lang/Object")]) [0] rfl
          have hFc := va_free (wc := [(lt, .inr (4, [.int hm_271, .ref g1_241, .int 4])), (g1_241, .inl (kO_242, 10, .inr (.inr (.inr (.inr fb_272)))))]) hD hS hA [1, 2] rfl
          refine va_callFi (va_runF (hK.1 4 _ rfl).2 (As := [.ref r_276]) (rest := []) ⟨hx, hb, hml, hown, hts⟩ (c_AL_addn l dC dI d tc ad lt hm_271 r_276 g1_241 4 kO_242 fb_272 H.size ner_276_lt hx_279 ner_276_g1_241 (by unfold vp_in; decide) (by decide)) (va_cwF 1 hts gX9_feed_Jx4a65c_add_9ea2d_f72Jx4a65c rfl rfl rfl (Ft.fw hF (RJx4a65c, ⟨"java/util/List", "add", "(Ljava/lang/Object;)Z"⟩, yJx4a65c_add_9ea2d) (by decide +kernel)) (by decide +kernel) ⟨Nat.le_of_ble_eq_true rfl, Nat.le_of_ble_eq_true rfl⟩) ⟨PE_blind, va_recv hK hP (ci := 4) (q0 := 1) rfl rfl, PE_pre hPc hKc hDc hF hZ hS hFc hEr_276⟩ rfl rfl hl.1 rfl (lv_room (Nat.le_of_ble_eq_true rfl)) dX9_feed_63 ⟨Nat.le_of_ble_eq_true rfl, Nat.le_of_ble_eq_true rfl⟩) hS (fun q _ h => hFc q h) hFc (fun r_280 u t H1 locs ht hvm hw hB hz1 hk1 hS => ?_)
          obtain ⟨hm_281, fb_282, hP1, hK1, hD1⟩ := hB
          rw [ht] at hP1
          have hK1 := va_K.moved hvm.symm hK1
          obtain ⟨hP, hD⟩ := va_join (wr := [(mx, .inr (14, [.ref lc, .ref lr, .ref kn, .ref lt, .ref ml, .ref mm, .ref lp, .ref lb, .ref mq, .int 1, .int 10, .int 0, .int 0]))]) (w1 := [(lt, .inr (4, [.int hm_281, .ref g1_241, .int (4 + 1)])), (g1_241, .inl (kO_242, 10, .inr (.inr (.inr (.inr fb_282)))))]) hP hD [1, 2] [0] rfl rfl (by decide) (by decide) hk1 hFc hP1 hD1
          have hK := hK.app hK1
          generalize H1 = H at hP hS ⊢
          have hP : va_P (dC, dI) vwCl [(mx, .inr (14, [.ref lc, .ref lr, .ref kn, .ref lt, .ref ml, .ref mm, .ref lp, .ref lb, .ref mq, .int 1, .int 10, .int 0, .int 0])), (lt, .inr (4, [.int hm_281, .ref g1_241, .int (4 + 1)])), (g1_241, .inl (kO_242, 10, .inr (.inr (.inr (.inr fb_282)))))] H := hP
          have hD : va_D A [(mx, .inr (14, [.ref lc, .ref lr, .ref kn, .ref lt, .ref ml, .ref mm, .ref lp, .ref lb, .ref mq, .int 1, .int 10, .int 0, .int 0])), (lt, .inr (4, [.int hm_281, .ref g1_241, .int (4 + 1)])), (g1_241, .inl (kO_242, 10, .inr (.inr (.inr (.inr fb_282)))))] := hD
          have hK : va_K (dC, dI) vwCl [(kO_242, .object "java/lang/Object"), (kO_242, .object "java/lang/Object"), (kO_242, .object "java/lang/Object"), (kO_242, .object "java/lang/Object"), (kO_242, .object "java/lang/Object")] s := hK
          refine W.widen (k := 6) (n := 15) (Nat.le_of_ble_eq_true rfl) (Nat.le_of_ble_eq_true rfl) ?_
          obtain rfl := hw
          have ez_283 : (4 + 1 : Int32) = 5 := by decide
          rw [ez_283] at hP hD
          have hP : va_P (dC, dI) vwCl [(mx, .inr (14, [.ref lc, .ref lr, .ref kn, .ref lt, .ref ml, .ref mm, .ref lp, .ref lb, .ref mq, .int 1, .int 10, .int 0, .int 0])), (lt, .inr (4, [.int hm_281, .ref g1_241, .int 5])), (g1_241, .inl (kO_242, 10, .inr (.inr (.inr (.inr fb_282)))))] H := hP
          have hD : va_D A [(mx, .inr (14, [.ref lc, .ref lr, .ref kn, .ref lt, .ref ml, .ref mm, .ref lp, .ref lb, .ref mq, .int 1, .int 10, .int 0, .int 0])), (lt, .inr (4, [.int hm_281, .ref g1_241, .int 5])), (g1_241, .inl (kO_242, 10, .inr (.inr (.inr (.inr fb_282)))))] := hD
          refine lv_pop hx hb dX9_feed_68 rfl ?_
          refine lv_iinc (v := 1) (lv' := [(4, .int 1), (0, .ref mx), (1, .long c1), (3, .int 7)]) hx hb dX9_feed_69 hl (k := 0) rfl (by decide) (by decide) rfl (fun ls hl => ?_)
          refine lv_goto (tgt := 39) hx hb dX9_feed_72 (by decide) ?_
          refine lv_iload hx hb dX9_feed_39 (lv_at hl 0 rfl) ?_
          refine lv_if_lt (tgt := 75) hx hb dX9_feed_41 (by decide) (fun c_284 => absurd c_284 (by decide)) (fun _ => ?_)
          refine lv_aload_n hx hb dX9_feed_44 rfl (lv_at hl 1 rfl) ?_
          refine va_get (D := (dC, dI)) (ci := 14) (v := .ref lt) (C := RX9) (T := TX9) (N := 13) hx hb hts (fun _ h9 => List.mem_cons_of_mem _ (List.mem_append_left _ (List.mem_append_left _ (List.mem_append_left _ (List.mem_append_right _ (h9)))))) hown hK hP 0 rfl rfl 3 (by decide) (hts (.fieldLink RX9 24 "ExamHallsModel" "tape" "Ljava/util/List;") (List.mem_of_getElem? (i := 1) rfl)) (fun _ h9 => h9) rfl dX9_feed_45 ?_
          refine lv_lload_n hx hb dX9_feed_48 rfl (lv_at hl 2 rfl) ?_
          refine lv_bipush (v := 8) hx hb dX9_feed_49 (by decide) ?_
          refine lv_iload hx hb dX9_feed_51 (lv_at hl 0 rfl) ?_
          refine lv_imul hx hb dX9_feed_53 ?_
          refine lv_topi (fun f_285 ef_285 => ?_)
          obtain rfl : f_285 = 8 := ef_285.trans (by decide)
          refine lv_lshr hx hb dX9_feed_54 rfl ?_
          refine lv_ldc2 (v := 255) hx hb hown (hts (.constantLong RX9 76 (255)) (List.mem_of_getElem? (i := 2) rfl)) dX9_feed_55 ?_
          refine lv_land hx hb dX9_feed_58 ?_
          refine lv_l2i hx hb dX9_feed_59 rfl ?_
          have hPc := hP.sub (ws' := []) [] rfl
          have hDc := hD.sub (ws' := []) [] (by decide) rfl
          have hKc := hK.sub (tys' := []) [] rfl
          have hFc := va_free (wc := []) hD hS hA [] rfl
          refine va_callr (va_runS (As := [.int (((c1 >>> ((8 : Int32).toInt64 &&& 63)) &&& 255).toInt32)]) (rest := [.ref lt]) ⟨hx, hb, hml, hown, hts⟩ (c_valueOf l dC dI d tc ad (((c1 >>> ((8 : Int32).toInt64 &&& 63)) &&& 255).toInt32) H.size) (va_cwS 1 hts gX9_feed_J6_valueOf_2dffe rfl rfl rfl (by decide +kernel) ⟨Nat.le_of_ble_eq_true rfl, Nat.le_of_ble_eq_true rfl⟩) ⟨PZ_blind, PZ_pre hPc hKc hDc hF hZ hS hFc⟩ rfl rfl hl.1 rfl (lv_room (Nat.le_of_ble_eq_true rfl)) dX9_feed_60 ⟨Nat.le_of_ble_eq_true rfl, Nat.le_of_ble_eq_true rfl⟩) hS (fun q _ h => hFc q h) hFc (fun u r_286 t H1 locs ht hvm hw hB hz1 hk1 hS => ?_)
          obtain ⟨hP1, hK1, hD1, hx_287, hx_288, hx_289⟩ := hB
          rw [ht] at hP1
          have hK1 := va_K.moved hvm.symm hK1
          rw [ht] at hx_287 hx_289
          have hEr_286 := any_moved hvm.symm hx_287
          have ner_286_lt : r_286 ≠ lt := by
            rcases hx_288 with h9 | ⟨k9, hk9, e9⟩
            · intro e9; have h8 := (hP 1 _ rfl).lt; rw [← e9] at h8; exact absurd h9 (Nat.not_le.mpr h8)
            · intro e8; obtain ⟨_, _, _, _, h7⟩ := hZ.2.2.2.2.2.1 k9 hk9; exact h7 (by rw [← e9, e8]; exact hD.2 1 _ rfl)
          have ner_286_g1_241 : r_286 ≠ g1_241 := by
            rcases hx_288 with h9 | ⟨k9, hk9, e9⟩
            · intro e9; have h8 := (hP 2 _ rfl).lt; rw [← e9] at h8; exact absurd h9 (Nat.not_le.mpr h8)
            · intro e8; obtain ⟨_, _, _, _, h7⟩ := hZ.2.2.2.2.2.1 k9 hk9; exact h7 (by rw [← e9, e8]; exact hD.2 2 _ rfl)
          obtain ⟨hP, hD⟩ := va_join (wr := [(mx, .inr (14, [.ref lc, .ref lr, .ref kn, .ref lt, .ref ml, .ref mm, .ref lp, .ref lb, .ref mq, .int 1, .int 10, .int 0, .int 0])), (lt, .inr (4, [.int hm_281, .ref g1_241, .int 5])), (g1_241, .inl (kO_242, 10, .inr (.inr (.inr (.inr fb_282)))))]) (w1 := []) hP hD [] [0, 1, 2] rfl rfl (by decide) (by decide) hk1 hFc hP1 hD1
          have hK := hK.app hK1
          generalize H1 = H at hP hS hEr_286 hx_289 ⊢
          have hP : va_P (dC, dI) vwCl [(mx, .inr (14, [.ref lc, .ref lr, .ref kn, .ref lt, .ref ml, .ref mm, .ref lp, .ref lb, .ref mq, .int 1, .int 10, .int 0, .int 0])), (lt, .inr (4, [.int hm_281, .ref g1_241, .int 5])), (g1_241, .inl (kO_242, 10, .inr (.inr (.inr (.inr fb_282)))))] H := hP
          have hD : va_D A [(mx, .inr (14, [.ref lc, .ref lr, .ref kn, .ref lt, .ref ml, .ref mm, .ref lp, .ref lb, .ref mq, .int 1, .int 10, .int 0, .int 0])), (lt, .inr (4, [.int hm_281, .ref g1_241, .int 5])), (g1_241, .inl (kO_242, 10, .inr (.inr (.inr (.inr fb_282)))))] := hD
          have hK : va_K (dC, dI) vwCl [(kO_242, .object "java/lang/Object"), (kO_242, .object "java/lang/Object"), (kO_242, .object "java/lang/Object"), (kO_242, .object "java/lang/Object"), (kO_242, .object "java/lang/Object")] s := hK
          refine W.widen (k := 7) (n := 16) (Nat.le_of_ble_eq_true rfl) (Nat.le_of_ble_eq_true rfl) ?_
          have hPc := hP.sub (ws' := [(lt, .inr (4, [.int hm_281, .ref g1_241, .int 5])), (g1_241, .inl (kO_242, 10, .inr (.inr (.inr (.inr fb_282)))))]) [1, 2] rfl
          have hDc := hD.sub (ws' := [(lt, .inr (4, [.int hm_281, .ref g1_241, .int 5])), (g1_241, .inl (kO_242, 10, .inr (.inr (.inr (.inr fb_282)))))]) [1, 2] (by decide) rfl
          have hKc := hK.sub (tys' := [(kO_242, .object "java/lang/Object")]) [0] rfl
          have hFc := va_free (wc := [(lt, .inr (4, [.int hm_281, .ref g1_241, .int 5])), (g1_241, .inl (kO_242, 10, .inr (.inr (.inr (.inr fb_282)))))]) hD hS hA [1, 2] rfl
          refine va_callFi (va_runF (hK.1 4 _ rfl).2 (As := [.ref r_286]) (rest := []) ⟨hx, hb, hml, hown, hts⟩ (c_AL_addn l dC dI d tc ad lt hm_281 r_286 g1_241 5 kO_242 fb_282 H.size ner_286_lt hx_289 ner_286_g1_241 (by unfold vp_in; decide) (by decide)) (va_cwF 1 hts gX9_feed_Jx4a65c_add_9ea2d_f72Jx4a65c rfl rfl rfl (Ft.fw hF (RJx4a65c, ⟨"java/util/List", "add", "(Ljava/lang/Object;)Z"⟩, yJx4a65c_add_9ea2d) (by decide +kernel)) (by decide +kernel) ⟨Nat.le_of_ble_eq_true rfl, Nat.le_of_ble_eq_true rfl⟩) ⟨PE_blind, va_recv hK hP (ci := 4) (q0 := 1) rfl rfl, PE_pre hPc hKc hDc hF hZ hS hFc hEr_286⟩ rfl rfl hl.1 rfl (lv_room (Nat.le_of_ble_eq_true rfl)) dX9_feed_63 ⟨Nat.le_of_ble_eq_true rfl, Nat.le_of_ble_eq_true rfl⟩) hS (fun q _ h => hFc q h) hFc (fun r_290 u t H1 locs ht hvm hw hB hz1 hk1 hS => ?_)
          obtain ⟨hm_291, fb_292, hP1, hK1, hD1⟩ := hB
          rw [ht] at hP1
          have hK1 := va_K.moved hvm.symm hK1
          obtain ⟨hP, hD⟩ := va_join (wr := [(mx, .inr (14, [.ref lc, .ref lr, .ref kn, .ref lt, .ref ml, .ref mm, .ref lp, .ref lb, .ref mq, .int 1, .int 10, .int 0, .int 0]))]) (w1 := [(lt, .inr (4, [.int hm_291, .ref g1_241, .int (5 + 1)])), (g1_241, .inl (kO_242, 10, .inr (.inr (.inr (.inr fb_292)))))]) hP hD [1, 2] [0] rfl rfl (by decide) (by decide) hk1 hFc hP1 hD1
          have hK := hK.app hK1
          generalize H1 = H at hP hS ⊢
          have hP : va_P (dC, dI) vwCl [(mx, .inr (14, [.ref lc, .ref lr, .ref kn, .ref lt, .ref ml, .ref mm, .ref lp, .ref lb, .ref mq, .int 1, .int 10, .int 0, .int 0])), (lt, .inr (4, [.int hm_291, .ref g1_241, .int (5 + 1)])), (g1_241, .inl (kO_242, 10, .inr (.inr (.inr (.inr fb_292)))))] H := hP
          have hD : va_D A [(mx, .inr (14, [.ref lc, .ref lr, .ref kn, .ref lt, .ref ml, .ref mm, .ref lp, .ref lb, .ref mq, .int 1, .int 10, .int 0, .int 0])), (lt, .inr (4, [.int hm_291, .ref g1_241, .int (5 + 1)])), (g1_241, .inl (kO_242, 10, .inr (.inr (.inr (.inr fb_292)))))] := hD
          have hK : va_K (dC, dI) vwCl [(kO_242, .object "java/lang/Object"), (kO_242, .object "java/lang/Object"), (kO_242, .object "java/lang/Object"), (kO_242, .object "java/lang/Object"), (kO_242, .object "java/lang/Object"), (kO_242, .object "java/lang/Object")] s := hK
          refine W.widen (k := 7) (n := 16) (Nat.le_of_ble_eq_true rfl) (Nat.le_of_ble_eq_true rfl) ?_
          obtain rfl := hw
          have ez_293 : (5 + 1 : Int32) = 6 := by decide
          rw [ez_293] at hP hD
          have hP : va_P (dC, dI) vwCl [(mx, .inr (14, [.ref lc, .ref lr, .ref kn, .ref lt, .ref ml, .ref mm, .ref lp, .ref lb, .ref mq, .int 1, .int 10, .int 0, .int 0])), (lt, .inr (4, [.int hm_291, .ref g1_241, .int 6])), (g1_241, .inl (kO_242, 10, .inr (.inr (.inr (.inr fb_292)))))] H := hP
          have hD : va_D A [(mx, .inr (14, [.ref lc, .ref lr, .ref kn, .ref lt, .ref ml, .ref mm, .ref lp, .ref lb, .ref mq, .int 1, .int 10, .int 0, .int 0])), (lt, .inr (4, [.int hm_291, .ref g1_241, .int 6])), (g1_241, .inl (kO_242, 10, .inr (.inr (.inr (.inr fb_292)))))] := hD
          refine lv_pop hx hb dX9_feed_68 rfl ?_
          refine lv_iinc (v := 0) (lv' := [(4, .int 0), (0, .ref mx), (1, .long c1), (3, .int 7)]) hx hb dX9_feed_69 hl (k := 0) rfl (by decide) (by decide) rfl (fun ls hl => ?_)
          refine lv_goto (tgt := 39) hx hb dX9_feed_72 (by decide) ?_
          refine lv_iload hx hb dX9_feed_39 (lv_at hl 0 rfl) ?_
          refine lv_if_lt (tgt := 75) hx hb dX9_feed_41 (by decide) (fun c_294 => absurd c_294 (by decide)) (fun _ => ?_)
          refine lv_aload_n hx hb dX9_feed_44 rfl (lv_at hl 1 rfl) ?_
          refine va_get (D := (dC, dI)) (ci := 14) (v := .ref lt) (C := RX9) (T := TX9) (N := 13) hx hb hts (fun _ h9 => List.mem_cons_of_mem _ (List.mem_append_left _ (List.mem_append_left _ (List.mem_append_left _ (List.mem_append_right _ (h9)))))) hown hK hP 0 rfl rfl 3 (by decide) (hts (.fieldLink RX9 24 "ExamHallsModel" "tape" "Ljava/util/List;") (List.mem_of_getElem? (i := 1) rfl)) (fun _ h9 => h9) rfl dX9_feed_45 ?_
          refine lv_lload_n hx hb dX9_feed_48 rfl (lv_at hl 2 rfl) ?_
          refine lv_bipush (v := 8) hx hb dX9_feed_49 (by decide) ?_
          refine lv_iload hx hb dX9_feed_51 (lv_at hl 0 rfl) ?_
          refine lv_imul hx hb dX9_feed_53 ?_
          refine lv_topi (fun f_295 ef_295 => ?_)
          obtain rfl : f_295 = 0 := ef_295.trans (by decide)
          refine lv_lshr hx hb dX9_feed_54 rfl ?_
          refine lv_ldc2 (v := 255) hx hb hown (hts (.constantLong RX9 76 (255)) (List.mem_of_getElem? (i := 2) rfl)) dX9_feed_55 ?_
          refine lv_land hx hb dX9_feed_58 ?_
          refine lv_l2i hx hb dX9_feed_59 rfl ?_
          have hPc := hP.sub (ws' := []) [] rfl
          have hDc := hD.sub (ws' := []) [] (by decide) rfl
          have hKc := hK.sub (tys' := []) [] rfl
          have hFc := va_free (wc := []) hD hS hA [] rfl
          refine va_callr (va_runS (As := [.int (((c1 >>> ((0 : Int32).toInt64 &&& 63)) &&& 255).toInt32)]) (rest := [.ref lt]) ⟨hx, hb, hml, hown, hts⟩ (c_valueOf l dC dI d tc ad (((c1 >>> ((0 : Int32).toInt64 &&& 63)) &&& 255).toInt32) H.size) (va_cwS 1 hts gX9_feed_J6_valueOf_2dffe rfl rfl rfl (by decide +kernel) ⟨Nat.le_of_ble_eq_true rfl, Nat.le_of_ble_eq_true rfl⟩) ⟨PZ_blind, PZ_pre hPc hKc hDc hF hZ hS hFc⟩ rfl rfl hl.1 rfl (lv_room (Nat.le_of_ble_eq_true rfl)) dX9_feed_60 ⟨Nat.le_of_ble_eq_true rfl, Nat.le_of_ble_eq_true rfl⟩) hS (fun q _ h => hFc q h) hFc (fun u r_296 t H1 locs ht hvm hw hB hz1 hk1 hS => ?_)
          obtain ⟨hP1, hK1, hD1, hx_297, hx_298, hx_299⟩ := hB
          rw [ht] at hP1
          have hK1 := va_K.moved hvm.symm hK1
          rw [ht] at hx_297 hx_299
          have hEr_296 := any_moved hvm.symm hx_297
          have ner_296_lt : r_296 ≠ lt := by
            rcases hx_298 with h9 | ⟨k9, hk9, e9⟩
            · intro e9; have h8 := (hP 1 _ rfl).lt; rw [← e9] at h8; exact absurd h9 (Nat.not_le.mpr h8)
            · intro e8; obtain ⟨_, _, _, _, h7⟩ := hZ.2.2.2.2.2.1 k9 hk9; exact h7 (by rw [← e9, e8]; exact hD.2 1 _ rfl)
          have ner_296_g1_241 : r_296 ≠ g1_241 := by
            rcases hx_298 with h9 | ⟨k9, hk9, e9⟩
            · intro e9; have h8 := (hP 2 _ rfl).lt; rw [← e9] at h8; exact absurd h9 (Nat.not_le.mpr h8)
            · intro e8; obtain ⟨_, _, _, _, h7⟩ := hZ.2.2.2.2.2.1 k9 hk9; exact h7 (by rw [← e9, e8]; exact hD.2 2 _ rfl)
          obtain ⟨hP, hD⟩ := va_join (wr := [(mx, .inr (14, [.ref lc, .ref lr, .ref kn, .ref lt, .ref ml, .ref mm, .ref lp, .ref lb, .ref mq, .int 1, .int 10, .int 0, .int 0])), (lt, .inr (4, [.int hm_291, .ref g1_241, .int 6])), (g1_241, .inl (kO_242, 10, .inr (.inr (.inr (.inr fb_292)))))]) (w1 := []) hP hD [] [0, 1, 2] rfl rfl (by decide) (by decide) hk1 hFc hP1 hD1
          have hK := hK.app hK1
          generalize H1 = H at hP hS hEr_296 hx_299 ⊢
          have hP : va_P (dC, dI) vwCl [(mx, .inr (14, [.ref lc, .ref lr, .ref kn, .ref lt, .ref ml, .ref mm, .ref lp, .ref lb, .ref mq, .int 1, .int 10, .int 0, .int 0])), (lt, .inr (4, [.int hm_291, .ref g1_241, .int 6])), (g1_241, .inl (kO_242, 10, .inr (.inr (.inr (.inr fb_292)))))] H := hP
          have hD : va_D A [(mx, .inr (14, [.ref lc, .ref lr, .ref kn, .ref lt, .ref ml, .ref mm, .ref lp, .ref lb, .ref mq, .int 1, .int 10, .int 0, .int 0])), (lt, .inr (4, [.int hm_291, .ref g1_241, .int 6])), (g1_241, .inl (kO_242, 10, .inr (.inr (.inr (.inr fb_292)))))] := hD
          have hK : va_K (dC, dI) vwCl [(kO_242, .object "java/lang/Object"), (kO_242, .object "java/lang/Object"), (kO_242, .object "java/lang/Object"), (kO_242, .object "java/lang/Object"), (kO_242, .object "java/lang/Object"), (kO_242, .object "java/lang/Object")] s := hK
          refine W.widen (k := 8) (n := 17) (Nat.le_of_ble_eq_true rfl) (Nat.le_of_ble_eq_true rfl) ?_
          have hPc := hP.sub (ws' := [(lt, .inr (4, [.int hm_291, .ref g1_241, .int 6])), (g1_241, .inl (kO_242, 10, .inr (.inr (.inr (.inr fb_292)))))]) [1, 2] rfl
          have hDc := hD.sub (ws' := [(lt, .inr (4, [.int hm_291, .ref g1_241, .int 6])), (g1_241, .inl (kO_242, 10, .inr (.inr (.inr (.inr fb_292)))))]) [1, 2] (by decide) rfl
          have hKc := hK.sub (tys' := [(kO_242, .object "java/lang/Object")]) [0] rfl
          have hFc := va_free (wc := [(lt, .inr (4, [.int hm_291, .ref g1_241, .int 6])), (g1_241, .inl (kO_242, 10, .inr (.inr (.inr (.inr fb_292)))))]) hD hS hA [1, 2] rfl
          refine va_callFi (va_runF (hK.1 4 _ rfl).2 (As := [.ref r_296]) (rest := []) ⟨hx, hb, hml, hown, hts⟩ (c_AL_addn l dC dI d tc ad lt hm_291 r_296 g1_241 6 kO_242 fb_292 H.size ner_296_lt hx_299 ner_296_g1_241 (by unfold vp_in; decide) (by decide)) (va_cwF 1 hts gX9_feed_Jx4a65c_add_9ea2d_f72Jx4a65c rfl rfl rfl (Ft.fw hF (RJx4a65c, ⟨"java/util/List", "add", "(Ljava/lang/Object;)Z"⟩, yJx4a65c_add_9ea2d) (by decide +kernel)) (by decide +kernel) ⟨Nat.le_of_ble_eq_true rfl, Nat.le_of_ble_eq_true rfl⟩) ⟨PE_blind, va_recv hK hP (ci := 4) (q0 := 1) rfl rfl, PE_pre hPc hKc hDc hF hZ hS hFc hEr_296⟩ rfl rfl hl.1 rfl (lv_room (Nat.le_of_ble_eq_true rfl)) dX9_feed_63 ⟨Nat.le_of_ble_eq_true rfl, Nat.le_of_ble_eq_true rfl⟩) hS (fun q _ h => hFc q h) hFc (fun r_300 u t H1 locs ht hvm hw hB hz1 hk1 hS => ?_)
          obtain ⟨hm_301, fb_302, hP1, hK1, hD1⟩ := hB
          rw [ht] at hP1
          have hK1 := va_K.moved hvm.symm hK1
          obtain ⟨hP, hD⟩ := va_join (wr := [(mx, .inr (14, [.ref lc, .ref lr, .ref kn, .ref lt, .ref ml, .ref mm, .ref lp, .ref lb, .ref mq, .int 1, .int 10, .int 0, .int 0]))]) (w1 := [(lt, .inr (4, [.int hm_301, .ref g1_241, .int (6 + 1)])), (g1_241, .inl (kO_242, 10, .inr (.inr (.inr (.inr fb_302)))))]) hP hD [1, 2] [0] rfl rfl (by decide) (by decide) hk1 hFc hP1 hD1
          have hK := hK.app hK1
          generalize H1 = H at hP hS ⊢
          have hP : va_P (dC, dI) vwCl [(mx, .inr (14, [.ref lc, .ref lr, .ref kn, .ref lt, .ref ml, .ref mm, .ref lp, .ref lb, .ref mq, .int 1, .int 10, .int 0, .int 0])), (lt, .inr (4, [.int hm_301, .ref g1_241, .int (6 + 1)])), (g1_241, .inl (kO_242, 10, .inr (.inr (.inr (.inr fb_302)))))] H := hP
          have hD : va_D A [(mx, .inr (14, [.ref lc, .ref lr, .ref kn, .ref lt, .ref ml, .ref mm, .ref lp, .ref lb, .ref mq, .int 1, .int 10, .int 0, .int 0])), (lt, .inr (4, [.int hm_301, .ref g1_241, .int (6 + 1)])), (g1_241, .inl (kO_242, 10, .inr (.inr (.inr (.inr fb_302)))))] := hD
          have hK : va_K (dC, dI) vwCl [(kO_242, .object "java/lang/Object"), (kO_242, .object "java/lang/Object"), (kO_242, .object "java/lang/Object"), (kO_242, .object "java/lang/Object"), (kO_242, .object "java/lang/Object"), (kO_242, .object "java/lang/Object"), (kO_242, .object "java/lang/Object")] s := hK
          refine W.widen (k := 8) (n := 17) (Nat.le_of_ble_eq_true rfl) (Nat.le_of_ble_eq_true rfl) ?_
          obtain rfl := hw
          have ez_303 : (6 + 1 : Int32) = 7 := by decide
          rw [ez_303] at hP hD
          have hP : va_P (dC, dI) vwCl [(mx, .inr (14, [.ref lc, .ref lr, .ref kn, .ref lt, .ref ml, .ref mm, .ref lp, .ref lb, .ref mq, .int 1, .int 10, .int 0, .int 0])), (lt, .inr (4, [.int hm_301, .ref g1_241, .int 7])), (g1_241, .inl (kO_242, 10, .inr (.inr (.inr (.inr fb_302)))))] H := hP
          have hD : va_D A [(mx, .inr (14, [.ref lc, .ref lr, .ref kn, .ref lt, .ref ml, .ref mm, .ref lp, .ref lb, .ref mq, .int 1, .int 10, .int 0, .int 0])), (lt, .inr (4, [.int hm_301, .ref g1_241, .int 7])), (g1_241, .inl (kO_242, 10, .inr (.inr (.inr (.inr fb_302)))))] := hD
          refine lv_pop hx hb dX9_feed_68 rfl ?_
          refine lv_iinc (v := (-1)) (lv' := [(4, .int (-1)), (0, .ref mx), (1, .long c1), (3, .int 7)]) hx hb dX9_feed_69 hl (k := 0) rfl (by decide) (by decide) rfl (fun ls hl => ?_)
          refine lv_goto (tgt := 39) hx hb dX9_feed_72 (by decide) ?_
          refine lv_iload hx hb dX9_feed_39 (lv_at hl 0 rfl) ?_
          refine lv_if_lt (tgt := 75) hx hb dX9_feed_41 (by decide) (fun _ => ?_) (fun c_304 => absurd (by decide) c_304)
          refine lv_aload_n hx hb dX9_feed_75 rfl (lv_at hl 1 rfl) ?_
          refine va_get (D := (dC, dI)) (ci := 14) (v := .ref lt) (C := RX9) (T := TX9) (N := 13) hx hb hts (fun _ h9 => List.mem_cons_of_mem _ (List.mem_append_left _ (List.mem_append_left _ (List.mem_append_left _ (List.mem_append_right _ (h9)))))) hown hK hP 0 rfl rfl 3 (by decide) (hts (.fieldLink RX9 24 "ExamHallsModel" "tape" "Ljava/util/List;") (List.mem_of_getElem? (i := 1) rfl)) (fun _ h9 => h9) rfl dX9_feed_76 ?_
          refine va_csFi (va_runF (hK.1 4 _ rfl).2 (As := []) (rest := []) ⟨hx, hb, hml, hown, hts⟩ (c_AL_size l dC dI lt hm_301 g1_241 7) (va_cwF 0 hts gX9_feed_Jx4a65c_size_8abf5_f56Jx4a65c rfl rfl rfl (Ft.fw hF (RJx4a65c, ⟨"java/util/List", "size", "()I"⟩, yJx4a65c_size_8abf5) (by decide +kernel)) (by decide +kernel) ⟨Nat.le_of_ble_eq_true rfl, Nat.le_of_ble_eq_true rfl⟩) ⟨PS_blind, va_recv hK hP (ci := 4) (q0 := 1) rfl rfl, PS_pre (hP.sub (ws' := [(lt, .inr (4, [.int hm_301, .ref g1_241, .int 7]))]) [1] rfl) (hK.sub (tys' := []) [] rfl) hF⟩ rfl rfl hl.1 rfl (lv_room (Nat.le_of_ble_eq_true rfl)) dX9_feed_79 ⟨Nat.le_of_ble_eq_true rfl, Nat.le_of_ble_eq_true rfl⟩) (fun r_305 hr_305 => ?_)
          subst hr_305
          refine W.widen (k := 9) (n := 18) (Nat.le_of_ble_eq_true rfl) (Nat.le_of_ble_eq_true rfl) ?_
          exact W.iret (v := 7) hx hb hr (fun t ht hW => ⟨⟨_, (), rfl, (by decide), trivial⟩, hS.F ht⟩) hS.2.2 dX9_feed_84
        · have hl : lv_has ls 5 [(4, .int (8 - 1)), (0, .ref mx), (1, .long c1), (3, .int 8)] := hl
          have e9 : (8 : Int32) - 1 = 7 := by decide
          rw [e9] at hl
          refine lv_iload hx hb dX9_feed_39 (lv_at hl 0 rfl) ?_
          refine lv_if_lt (tgt := 75) hx hb dX9_feed_41 (by decide) (fun c_306 => absurd c_306 (by decide)) (fun _ => ?_)
          refine lv_aload_n hx hb dX9_feed_44 rfl (lv_at hl 1 rfl) ?_
          refine va_get (D := (dC, dI)) (ci := 14) (v := .ref lt) (C := RX9) (T := TX9) (N := 13) hx hb hts (fun _ h9 => List.mem_cons_of_mem _ (List.mem_append_left _ (List.mem_append_left _ (List.mem_append_left _ (List.mem_append_right _ (h9)))))) hown hK hP 0 rfl rfl 3 (by decide) (hts (.fieldLink RX9 24 "ExamHallsModel" "tape" "Ljava/util/List;") (List.mem_of_getElem? (i := 1) rfl)) (fun _ h9 => h9) rfl dX9_feed_45 ?_
          refine lv_lload_n hx hb dX9_feed_48 rfl (lv_at hl 2 rfl) ?_
          refine lv_bipush (v := 8) hx hb dX9_feed_49 (by decide) ?_
          refine lv_iload hx hb dX9_feed_51 (lv_at hl 0 rfl) ?_
          refine lv_imul hx hb dX9_feed_53 ?_
          refine lv_topi (fun f_307 ef_307 => ?_)
          obtain rfl : f_307 = 56 := ef_307.trans (by decide)
          refine lv_lshr hx hb dX9_feed_54 rfl ?_
          refine lv_ldc2 (v := 255) hx hb hown (hts (.constantLong RX9 76 (255)) (List.mem_of_getElem? (i := 2) rfl)) dX9_feed_55 ?_
          refine lv_land hx hb dX9_feed_58 ?_
          refine lv_l2i hx hb dX9_feed_59 rfl ?_
          have hPc := hP.sub (ws' := []) [] rfl
          have hDc := hD.sub (ws' := []) [] (by decide) rfl
          have hKc := hK.sub (tys' := []) [] rfl
          have hFc := va_free (wc := []) hD hS hA [] rfl
          refine va_callr (va_runS (As := [.int (((c1 >>> ((56 : Int32).toInt64 &&& 63)) &&& 255).toInt32)]) (rest := [.ref lt]) ⟨hx, hb, hml, hown, hts⟩ (c_valueOf l dC dI d tc ad (((c1 >>> ((56 : Int32).toInt64 &&& 63)) &&& 255).toInt32) s.heap.size) (va_cwS 1 hts gX9_feed_J6_valueOf_2dffe rfl rfl rfl (by decide +kernel) ⟨Nat.le_of_ble_eq_true rfl, Nat.le_of_ble_eq_true rfl⟩) ⟨PZ_blind, PZ_pre hPc hKc hDc hF hZ hS hFc⟩ rfl rfl hl.1 rfl (lv_room (Nat.le_of_ble_eq_true rfl)) dX9_feed_60 ⟨Nat.le_of_ble_eq_true rfl, Nat.le_of_ble_eq_true rfl⟩) hS (fun q _ h => hFc q h) hFc (fun u r_308 t H1 locs ht hvm hw hB hz1 hk1 hS => ?_)
          obtain ⟨hP1, hK1, hD1, hx_309, hx_310, hx_311⟩ := hB
          rw [ht] at hP1
          have hK1 := va_K.moved hvm.symm hK1
          rw [ht] at hx_309 hx_311
          have hEr_308 := any_moved hvm.symm hx_309
          have ner_308_lt : r_308 ≠ lt := by
            rcases hx_310 with h9 | ⟨k9, hk9, e9⟩
            · intro e9; have h8 := (hP 1 _ rfl).lt; rw [← e9] at h8; exact absurd h9 (Nat.not_le.mpr h8)
            · intro e8; obtain ⟨_, _, _, _, h7⟩ := hZ.2.2.2.2.2.1 k9 hk9; exact h7 (by rw [← e9, e8]; exact hD.2 1 _ rfl)
          obtain ⟨hP, hD⟩ := va_join (wr := [(mx, .inr (14, [.ref lc, .ref lr, .ref kn, .ref lt, .ref ml, .ref mm, .ref lp, .ref lb, .ref mq, .int 1, .int 10, .int 0, .int 0])), (lt, .inr (4, [.int 0, .ref d, .int 0]))]) (w1 := []) hP hD [] [0, 1] rfl rfl (by decide) (by decide) hk1 hFc hP1 hD1
          have hK := hK.app hK1
          generalize H1 = H at hP hS hEr_308 hx_311 ⊢
          have hP : va_P (dC, dI) vwCl [(mx, .inr (14, [.ref lc, .ref lr, .ref kn, .ref lt, .ref ml, .ref mm, .ref lp, .ref lb, .ref mq, .int 1, .int 10, .int 0, .int 0])), (lt, .inr (4, [.int 0, .ref d, .int 0]))] H := hP
          have hD : va_D A [(mx, .inr (14, [.ref lc, .ref lr, .ref kn, .ref lt, .ref ml, .ref mm, .ref lp, .ref lb, .ref mq, .int 1, .int 10, .int 0, .int 0])), (lt, .inr (4, [.int 0, .ref d, .int 0]))] := hD
          have hK : va_K (dC, dI) vwCl [] s := hK
          refine W.widen (k := 1) (n := 1) (Nat.le_of_ble_eq_true rfl) (Nat.le_of_ble_eq_true rfl) ?_
          have hPc := hP.sub (ws' := [(lt, .inr (4, [.int 0, .ref d, .int 0]))]) [1] rfl
          have hDc := hD.sub (ws' := [(lt, .inr (4, [.int 0, .ref d, .int 0]))]) [1] (by decide) rfl
          have hKc := hK.sub (tys' := []) [] rfl
          have hFc := va_free (wc := [(lt, .inr (4, [.int 0, .ref d, .int 0]))]) hD hS hA [1] rfl
          refine va_callFi (va_runF (hK.1 4 _ rfl).2 (As := [.ref r_308]) (rest := []) ⟨hx, hb, hml, hown, hts⟩ (c_AL_addf l dC dI d tc ad lt 0 r_308 H.size ner_308_lt hx_311) (va_cwF 1 hts gX9_feed_Jx4a65c_add_9ea2d_f72Jx4a65c rfl rfl rfl (Ft.fw hF (RJx4a65c, ⟨"java/util/List", "add", "(Ljava/lang/Object;)Z"⟩, yJx4a65c_add_9ea2d) (by decide +kernel)) (by decide +kernel) ⟨Nat.le_of_ble_eq_true rfl, Nat.le_of_ble_eq_true rfl⟩) ⟨PE_blind, va_recv hK hP (ci := 4) (q0 := 1) rfl rfl, PE_pre hPc hKc hDc hF hZ hS hFc hEr_308⟩ rfl rfl hl.1 rfl (lv_room (Nat.le_of_ble_eq_true rfl)) dX9_feed_63 ⟨Nat.le_of_ble_eq_true rfl, Nat.le_of_ble_eq_true rfl⟩) hS (fun q _ h => hFc q h) hFc (fun r_312 u t H1 locs ht hvm hw hB hz1 hk1 hS => ?_)
          obtain ⟨hm_313, g1_314, kO_315, fa_316, hP1, hK1, hD1⟩ := hB
          rw [ht] at hP1
          have hK1 := va_K.moved hvm.symm hK1
          obtain ⟨hP, hD⟩ := va_join (wr := [(mx, .inr (14, [.ref lc, .ref lr, .ref kn, .ref lt, .ref ml, .ref mm, .ref lp, .ref lb, .ref mq, .int 1, .int 10, .int 0, .int 0]))]) (w1 := [(lt, .inr (4, [.int hm_313, .ref g1_314, .int 1])), (g1_314, .inl (kO_315, 10, .inr (.inr (.inr (.inr fa_316)))))]) hP hD [1] [0] rfl rfl (by decide) (by decide) hk1 hFc hP1 hD1
          have hK := hK.app hK1
          generalize H1 = H at hP hS ⊢
          have hP : va_P (dC, dI) vwCl [(mx, .inr (14, [.ref lc, .ref lr, .ref kn, .ref lt, .ref ml, .ref mm, .ref lp, .ref lb, .ref mq, .int 1, .int 10, .int 0, .int 0])), (lt, .inr (4, [.int hm_313, .ref g1_314, .int 1])), (g1_314, .inl (kO_315, 10, .inr (.inr (.inr (.inr fa_316)))))] H := hP
          have hD : va_D A [(mx, .inr (14, [.ref lc, .ref lr, .ref kn, .ref lt, .ref ml, .ref mm, .ref lp, .ref lb, .ref mq, .int 1, .int 10, .int 0, .int 0])), (lt, .inr (4, [.int hm_313, .ref g1_314, .int 1])), (g1_314, .inl (kO_315, 10, .inr (.inr (.inr (.inr fa_316)))))] := hD
          have hK : va_K (dC, dI) vwCl [(kO_315, .object "java/lang/Object")] s := hK
          refine W.widen (k := 2) (n := 11) (Nat.le_of_ble_eq_true rfl) (Nat.le_of_ble_eq_true rfl) ?_
          obtain rfl := hw
          refine lv_pop hx hb dX9_feed_68 rfl ?_
          refine lv_iinc (v := 6) (lv' := [(4, .int 6), (0, .ref mx), (1, .long c1), (3, .int 8)]) hx hb dX9_feed_69 hl (k := 0) rfl (by decide) (by decide) rfl (fun ls hl => ?_)
          refine lv_goto (tgt := 39) hx hb dX9_feed_72 (by decide) ?_
          refine lv_iload hx hb dX9_feed_39 (lv_at hl 0 rfl) ?_
          refine lv_if_lt (tgt := 75) hx hb dX9_feed_41 (by decide) (fun c_317 => absurd c_317 (by decide)) (fun _ => ?_)
          refine lv_aload_n hx hb dX9_feed_44 rfl (lv_at hl 1 rfl) ?_
          refine va_get (D := (dC, dI)) (ci := 14) (v := .ref lt) (C := RX9) (T := TX9) (N := 13) hx hb hts (fun _ h9 => List.mem_cons_of_mem _ (List.mem_append_left _ (List.mem_append_left _ (List.mem_append_left _ (List.mem_append_right _ (h9)))))) hown hK hP 0 rfl rfl 3 (by decide) (hts (.fieldLink RX9 24 "ExamHallsModel" "tape" "Ljava/util/List;") (List.mem_of_getElem? (i := 1) rfl)) (fun _ h9 => h9) rfl dX9_feed_45 ?_
          refine lv_lload_n hx hb dX9_feed_48 rfl (lv_at hl 2 rfl) ?_
          refine lv_bipush (v := 8) hx hb dX9_feed_49 (by decide) ?_
          refine lv_iload hx hb dX9_feed_51 (lv_at hl 0 rfl) ?_
          refine lv_imul hx hb dX9_feed_53 ?_
          refine lv_topi (fun f_318 ef_318 => ?_)
          obtain rfl : f_318 = 48 := ef_318.trans (by decide)
          refine lv_lshr hx hb dX9_feed_54 rfl ?_
          refine lv_ldc2 (v := 255) hx hb hown (hts (.constantLong RX9 76 (255)) (List.mem_of_getElem? (i := 2) rfl)) dX9_feed_55 ?_
          refine lv_land hx hb dX9_feed_58 ?_
          refine lv_l2i hx hb dX9_feed_59 rfl ?_
          have hPc := hP.sub (ws' := []) [] rfl
          have hDc := hD.sub (ws' := []) [] (by decide) rfl
          have hKc := hK.sub (tys' := []) [] rfl
          have hFc := va_free (wc := []) hD hS hA [] rfl
          refine va_callr (va_runS (As := [.int (((c1 >>> ((48 : Int32).toInt64 &&& 63)) &&& 255).toInt32)]) (rest := [.ref lt]) ⟨hx, hb, hml, hown, hts⟩ (c_valueOf l dC dI d tc ad (((c1 >>> ((48 : Int32).toInt64 &&& 63)) &&& 255).toInt32) H.size) (va_cwS 1 hts gX9_feed_J6_valueOf_2dffe rfl rfl rfl (by decide +kernel) ⟨Nat.le_of_ble_eq_true rfl, Nat.le_of_ble_eq_true rfl⟩) ⟨PZ_blind, PZ_pre hPc hKc hDc hF hZ hS hFc⟩ rfl rfl hl.1 rfl (lv_room (Nat.le_of_ble_eq_true rfl)) dX9_feed_60 ⟨Nat.le_of_ble_eq_true rfl, Nat.le_of_ble_eq_true rfl⟩) hS (fun q _ h => hFc q h) hFc (fun u r_319 t H1 locs ht hvm hw hB hz1 hk1 hS => ?_)
          obtain ⟨hP1, hK1, hD1, hx_320, hx_321, hx_322⟩ := hB
          rw [ht] at hP1
          have hK1 := va_K.moved hvm.symm hK1
          rw [ht] at hx_320 hx_322
          have hEr_319 := any_moved hvm.symm hx_320
          have ner_319_lt : r_319 ≠ lt := by
            rcases hx_321 with h9 | ⟨k9, hk9, e9⟩
            · intro e9; have h8 := (hP 1 _ rfl).lt; rw [← e9] at h8; exact absurd h9 (Nat.not_le.mpr h8)
            · intro e8; obtain ⟨_, _, _, _, h7⟩ := hZ.2.2.2.2.2.1 k9 hk9; exact h7 (by rw [← e9, e8]; exact hD.2 1 _ rfl)
          have ner_319_g1_314 : r_319 ≠ g1_314 := by
            rcases hx_321 with h9 | ⟨k9, hk9, e9⟩
            · intro e9; have h8 := (hP 2 _ rfl).lt; rw [← e9] at h8; exact absurd h9 (Nat.not_le.mpr h8)
            · intro e8; obtain ⟨_, _, _, _, h7⟩ := hZ.2.2.2.2.2.1 k9 hk9; exact h7 (by rw [← e9, e8]; exact hD.2 2 _ rfl)
          obtain ⟨hP, hD⟩ := va_join (wr := [(mx, .inr (14, [.ref lc, .ref lr, .ref kn, .ref lt, .ref ml, .ref mm, .ref lp, .ref lb, .ref mq, .int 1, .int 10, .int 0, .int 0])), (lt, .inr (4, [.int hm_313, .ref g1_314, .int 1])), (g1_314, .inl (kO_315, 10, .inr (.inr (.inr (.inr fa_316)))))]) (w1 := []) hP hD [] [0, 1, 2] rfl rfl (by decide) (by decide) hk1 hFc hP1 hD1
          have hK := hK.app hK1
          generalize H1 = H at hP hS hEr_319 hx_322 ⊢
          have hP : va_P (dC, dI) vwCl [(mx, .inr (14, [.ref lc, .ref lr, .ref kn, .ref lt, .ref ml, .ref mm, .ref lp, .ref lb, .ref mq, .int 1, .int 10, .int 0, .int 0])), (lt, .inr (4, [.int hm_313, .ref g1_314, .int 1])), (g1_314, .inl (kO_315, 10, .inr (.inr (.inr (.inr fa_316)))))] H := hP
          have hD : va_D A [(mx, .inr (14, [.ref lc, .ref lr, .ref kn, .ref lt, .ref ml, .ref mm, .ref lp, .ref lb, .ref mq, .int 1, .int 10, .int 0, .int 0])), (lt, .inr (4, [.int hm_313, .ref g1_314, .int 1])), (g1_314, .inl (kO_315, 10, .inr (.inr (.inr (.inr fa_316)))))] := hD
          have hK : va_K (dC, dI) vwCl [(kO_315, .object "java/lang/Object")] s := hK
          refine W.widen (k := 3) (n := 12) (Nat.le_of_ble_eq_true rfl) (Nat.le_of_ble_eq_true rfl) ?_
          have hPc := hP.sub (ws' := [(lt, .inr (4, [.int hm_313, .ref g1_314, .int 1])), (g1_314, .inl (kO_315, 10, .inr (.inr (.inr (.inr fa_316)))))]) [1, 2] rfl
          have hDc := hD.sub (ws' := [(lt, .inr (4, [.int hm_313, .ref g1_314, .int 1])), (g1_314, .inl (kO_315, 10, .inr (.inr (.inr (.inr fa_316)))))]) [1, 2] (by decide) rfl
          have hKc := hK.sub (tys' := [(kO_315, .object "java/lang/Object")]) [0] rfl
          have hFc := va_free (wc := [(lt, .inr (4, [.int hm_313, .ref g1_314, .int 1])), (g1_314, .inl (kO_315, 10, .inr (.inr (.inr (.inr fa_316)))))]) hD hS hA [1, 2] rfl
          refine va_callFi (va_runF (hK.1 4 _ rfl).2 (As := [.ref r_319]) (rest := []) ⟨hx, hb, hml, hown, hts⟩ (c_AL_addn l dC dI d tc ad lt hm_313 r_319 g1_314 1 kO_315 fa_316 H.size ner_319_lt hx_322 ner_319_g1_314 (by unfold vp_in; decide) (by decide)) (va_cwF 1 hts gX9_feed_Jx4a65c_add_9ea2d_f72Jx4a65c rfl rfl rfl (Ft.fw hF (RJx4a65c, ⟨"java/util/List", "add", "(Ljava/lang/Object;)Z"⟩, yJx4a65c_add_9ea2d) (by decide +kernel)) (by decide +kernel) ⟨Nat.le_of_ble_eq_true rfl, Nat.le_of_ble_eq_true rfl⟩) ⟨PE_blind, va_recv hK hP (ci := 4) (q0 := 1) rfl rfl, PE_pre hPc hKc hDc hF hZ hS hFc hEr_319⟩ rfl rfl hl.1 rfl (lv_room (Nat.le_of_ble_eq_true rfl)) dX9_feed_63 ⟨Nat.le_of_ble_eq_true rfl, Nat.le_of_ble_eq_true rfl⟩) hS (fun q _ h => hFc q h) hFc (fun r_323 u t H1 locs ht hvm hw hB hz1 hk1 hS => ?_)
          obtain ⟨hm_324, fb_325, hP1, hK1, hD1⟩ := hB
          rw [ht] at hP1
          have hK1 := va_K.moved hvm.symm hK1
          obtain ⟨hP, hD⟩ := va_join (wr := [(mx, .inr (14, [.ref lc, .ref lr, .ref kn, .ref lt, .ref ml, .ref mm, .ref lp, .ref lb, .ref mq, .int 1, .int 10, .int 0, .int 0]))]) (w1 := [(lt, .inr (4, [.int hm_324, .ref g1_314, .int (1 + 1)])), (g1_314, .inl (kO_315, 10, .inr (.inr (.inr (.inr fb_325)))))]) hP hD [1, 2] [0] rfl rfl (by decide) (by decide) hk1 hFc hP1 hD1
          have hK := hK.app hK1
          generalize H1 = H at hP hS ⊢
          have hP : va_P (dC, dI) vwCl [(mx, .inr (14, [.ref lc, .ref lr, .ref kn, .ref lt, .ref ml, .ref mm, .ref lp, .ref lb, .ref mq, .int 1, .int 10, .int 0, .int 0])), (lt, .inr (4, [.int hm_324, .ref g1_314, .int (1 + 1)])), (g1_314, .inl (kO_315, 10, .inr (.inr (.inr (.inr fb_325)))))] H := hP
          have hD : va_D A [(mx, .inr (14, [.ref lc, .ref lr, .ref kn, .ref lt, .ref ml, .ref mm, .ref lp, .ref lb, .ref mq, .int 1, .int 10, .int 0, .int 0])), (lt, .inr (4, [.int hm_324, .ref g1_314, .int (1 + 1)])), (g1_314, .inl (kO_315, 10, .inr (.inr (.inr (.inr fb_325)))))] := hD
          have hK : va_K (dC, dI) vwCl [(kO_315, .object "java/lang/Object"), (kO_315, .object "java/lang/Object")] s := hK
          refine W.widen (k := 3) (n := 12) (Nat.le_of_ble_eq_true rfl) (Nat.le_of_ble_eq_true rfl) ?_
          obtain rfl := hw
          have ez_326 : (1 + 1 : Int32) = 2 := by decide
          rw [ez_326] at hP hD
          have hP : va_P (dC, dI) vwCl [(mx, .inr (14, [.ref lc, .ref lr, .ref kn, .ref lt, .ref ml, .ref mm, .ref lp, .ref lb, .ref mq, .int 1, .int 10, .int 0, .int 0])), (lt, .inr (4, [.int hm_324, .ref g1_314, .int 2])), (g1_314, .inl (kO_315, 10, .inr (.inr (.inr (.inr fb_325)))))] H := hP
          have hD : va_D A [(mx, .inr (14, [.ref lc, .ref lr, .ref kn, .ref lt, .ref ml, .ref mm, .ref lp, .ref lb, .ref mq, .int 1, .int 10, .int 0, .int 0])), (lt, .inr (4, [.int hm_324, .ref g1_314, .int 2])), (g1_314, .inl (kO_315, 10, .inr (.inr (.inr (.inr fb_325)))))] := hD
          refine lv_pop hx hb dX9_feed_68 rfl ?_
          refine lv_iinc (v := 5) (lv' := [(4, .int 5), (0, .ref mx), (1, .long c1), (3, .int 8)]) hx hb dX9_feed_69 hl (k := 0) rfl (by decide) (by decide) rfl (fun ls hl => ?_)
          refine lv_goto (tgt := 39) hx hb dX9_feed_72 (by decide) ?_
          refine lv_iload hx hb dX9_feed_39 (lv_at hl 0 rfl) ?_
          refine lv_if_lt (tgt := 75) hx hb dX9_feed_41 (by decide) (fun c_327 => absurd c_327 (by decide)) (fun _ => ?_)
          refine lv_aload_n hx hb dX9_feed_44 rfl (lv_at hl 1 rfl) ?_
          refine va_get (D := (dC, dI)) (ci := 14) (v := .ref lt) (C := RX9) (T := TX9) (N := 13) hx hb hts (fun _ h9 => List.mem_cons_of_mem _ (List.mem_append_left _ (List.mem_append_left _ (List.mem_append_left _ (List.mem_append_right _ (h9)))))) hown hK hP 0 rfl rfl 3 (by decide) (hts (.fieldLink RX9 24 "ExamHallsModel" "tape" "Ljava/util/List;") (List.mem_of_getElem? (i := 1) rfl)) (fun _ h9 => h9) rfl dX9_feed_45 ?_
          refine lv_lload_n hx hb dX9_feed_48 rfl (lv_at hl 2 rfl) ?_
          refine lv_bipush (v := 8) hx hb dX9_feed_49 (by decide) ?_
          refine lv_iload hx hb dX9_feed_51 (lv_at hl 0 rfl) ?_
          refine lv_imul hx hb dX9_feed_53 ?_
          refine lv_topi (fun f_328 ef_328 => ?_)
          obtain rfl : f_328 = 40 := ef_328.trans (by decide)
          refine lv_lshr hx hb dX9_feed_54 rfl ?_
          refine lv_ldc2 (v := 255) hx hb hown (hts (.constantLong RX9 76 (255)) (List.mem_of_getElem? (i := 2) rfl)) dX9_feed_55 ?_
          refine lv_land hx hb dX9_feed_58 ?_
          refine lv_l2i hx hb dX9_feed_59 rfl ?_
          have hPc := hP.sub (ws' := []) [] rfl
          have hDc := hD.sub (ws' := []) [] (by decide) rfl
          have hKc := hK.sub (tys' := []) [] rfl
          have hFc := va_free (wc := []) hD hS hA [] rfl
          refine va_callr (va_runS (As := [.int (((c1 >>> ((40 : Int32).toInt64 &&& 63)) &&& 255).toInt32)]) (rest := [.ref lt]) ⟨hx, hb, hml, hown, hts⟩ (c_valueOf l dC dI d tc ad (((c1 >>> ((40 : Int32).toInt64 &&& 63)) &&& 255).toInt32) H.size) (va_cwS 1 hts gX9_feed_J6_valueOf_2dffe rfl rfl rfl (by decide +kernel) ⟨Nat.le_of_ble_eq_true rfl, Nat.le_of_ble_eq_true rfl⟩) ⟨PZ_blind, PZ_pre hPc hKc hDc hF hZ hS hFc⟩ rfl rfl hl.1 rfl (lv_room (Nat.le_of_ble_eq_true rfl)) dX9_feed_60 ⟨Nat.le_of_ble_eq_true rfl, Nat.le_of_ble_eq_true rfl⟩) hS (fun q _ h => hFc q h) hFc (fun u r_329 t H1 locs ht hvm hw hB hz1 hk1 hS => ?_)
          obtain ⟨hP1, hK1, hD1, hx_330, hx_331, hx_332⟩ := hB
          rw [ht] at hP1
          have hK1 := va_K.moved hvm.symm hK1
          rw [ht] at hx_330 hx_332
          have hEr_329 := any_moved hvm.symm hx_330
          have ner_329_lt : r_329 ≠ lt := by
            rcases hx_331 with h9 | ⟨k9, hk9, e9⟩
            · intro e9; have h8 := (hP 1 _ rfl).lt; rw [← e9] at h8; exact absurd h9 (Nat.not_le.mpr h8)
            · intro e8; obtain ⟨_, _, _, _, h7⟩ := hZ.2.2.2.2.2.1 k9 hk9; exact h7 (by rw [← e9, e8]; exact hD.2 1 _ rfl)
          have ner_329_g1_314 : r_329 ≠ g1_314 := by
            rcases hx_331 with h9 | ⟨k9, hk9, e9⟩
            · intro e9; have h8 := (hP 2 _ rfl).lt; rw [← e9] at h8; exact absurd h9 (Nat.not_le.mpr h8)
            · intro e8; obtain ⟨_, _, _, _, h7⟩ := hZ.2.2.2.2.2.1 k9 hk9; exact h7 (by rw [← e9, e8]; exact hD.2 2 _ rfl)
          obtain ⟨hP, hD⟩ := va_join (wr := [(mx, .inr (14, [.ref lc, .ref lr, .ref kn, .ref lt, .ref ml, .ref mm, .ref lp, .ref lb, .ref mq, .int 1, .int 10, .int 0, .int 0])), (lt, .inr (4, [.int hm_324, .ref g1_314, .int 2])), (g1_314, .inl (kO_315, 10, .inr (.inr (.inr (.inr fb_325)))))]) (w1 := []) hP hD [] [0, 1, 2] rfl rfl (by decide) (by decide) hk1 hFc hP1 hD1
          have hK := hK.app hK1
          generalize H1 = H at hP hS hEr_329 hx_332 ⊢
          have hP : va_P (dC, dI) vwCl [(mx, .inr (14, [.ref lc, .ref lr, .ref kn, .ref lt, .ref ml, .ref mm, .ref lp, .ref lb, .ref mq, .int 1, .int 10, .int 0, .int 0])), (lt, .inr (4, [.int hm_324, .ref g1_314, .int 2])), (g1_314, .inl (kO_315, 10, .inr (.inr (.inr (.inr fb_325)))))] H := hP
          have hD : va_D A [(mx, .inr (14, [.ref lc, .ref lr, .ref kn, .ref lt, .ref ml, .ref mm, .ref lp, .ref lb, .ref mq, .int 1, .int 10, .int 0, .int 0])), (lt, .inr (4, [.int hm_324, .ref g1_314, .int 2])), (g1_314, .inl (kO_315, 10, .inr (.inr (.inr (.inr fb_325)))))] := hD
          have hK : va_K (dC, dI) vwCl [(kO_315, .object "java/lang/Object"), (kO_315, .object "java/lang/Object")] s := hK
          refine W.widen (k := 4) (n := 13) (Nat.le_of_ble_eq_true rfl) (Nat.le_of_ble_eq_true rfl) ?_
          have hPc := hP.sub (ws' := [(lt, .inr (4, [.int hm_324, .ref g1_314, .int 2])), (g1_314, .inl (kO_315, 10, .inr (.inr (.inr (.inr fb_325)))))]) [1, 2] rfl
          have hDc := hD.sub (ws' := [(lt, .inr (4, [.int hm_324, .ref g1_314, .int 2])), (g1_314, .inl (kO_315, 10, .inr (.inr (.inr (.inr fb_325)))))]) [1, 2] (by decide) rfl
          have hKc := hK.sub (tys' := [(kO_315, .object "java/lang/Object")]) [0] rfl
          have hFc := va_free (wc := [(lt, .inr (4, [.int hm_324, .ref g1_314, .int 2])), (g1_314, .inl (kO_315, 10, .inr (.inr (.inr (.inr fb_325)))))]) hD hS hA [1, 2] rfl
          refine va_callFi (va_runF (hK.1 4 _ rfl).2 (As := [.ref r_329]) (rest := []) ⟨hx, hb, hml, hown, hts⟩ (c_AL_addn l dC dI d tc ad lt hm_324 r_329 g1_314 2 kO_315 fb_325 H.size ner_329_lt hx_332 ner_329_g1_314 (by unfold vp_in; decide) (by decide)) (va_cwF 1 hts gX9_feed_Jx4a65c_add_9ea2d_f72Jx4a65c rfl rfl rfl (Ft.fw hF (RJx4a65c, ⟨"java/util/List", "add", "(Ljava/lang/Object;)Z"⟩, yJx4a65c_add_9ea2d) (by decide +kernel)) (by decide +kernel) ⟨Nat.le_of_ble_eq_true rfl, Nat.le_of_ble_eq_true rfl⟩) ⟨PE_blind, va_recv hK hP (ci := 4) (q0 := 1) rfl rfl, PE_pre hPc hKc hDc hF hZ hS hFc hEr_329⟩ rfl rfl hl.1 rfl (lv_room (Nat.le_of_ble_eq_true rfl)) dX9_feed_63 ⟨Nat.le_of_ble_eq_true rfl, Nat.le_of_ble_eq_true rfl⟩) hS (fun q _ h => hFc q h) hFc (fun r_333 u t H1 locs ht hvm hw hB hz1 hk1 hS => ?_)
          obtain ⟨hm_334, fb_335, hP1, hK1, hD1⟩ := hB
          rw [ht] at hP1
          have hK1 := va_K.moved hvm.symm hK1
          obtain ⟨hP, hD⟩ := va_join (wr := [(mx, .inr (14, [.ref lc, .ref lr, .ref kn, .ref lt, .ref ml, .ref mm, .ref lp, .ref lb, .ref mq, .int 1, .int 10, .int 0, .int 0]))]) (w1 := [(lt, .inr (4, [.int hm_334, .ref g1_314, .int (2 + 1)])), (g1_314, .inl (kO_315, 10, .inr (.inr (.inr (.inr fb_335)))))]) hP hD [1, 2] [0] rfl rfl (by decide) (by decide) hk1 hFc hP1 hD1
          have hK := hK.app hK1
          generalize H1 = H at hP hS ⊢
          have hP : va_P (dC, dI) vwCl [(mx, .inr (14, [.ref lc, .ref lr, .ref kn, .ref lt, .ref ml, .ref mm, .ref lp, .ref lb, .ref mq, .int 1, .int 10, .int 0, .int 0])), (lt, .inr (4, [.int hm_334, .ref g1_314, .int (2 + 1)])), (g1_314, .inl (kO_315, 10, .inr (.inr (.inr (.inr fb_335)))))] H := hP
          have hD : va_D A [(mx, .inr (14, [.ref lc, .ref lr, .ref kn, .ref lt, .ref ml, .ref mm, .ref lp, .ref lb, .ref mq, .int 1, .int 10, .int 0, .int 0])), (lt, .inr (4, [.int hm_334, .ref g1_314, .int (2 + 1)])), (g1_314, .inl (kO_315, 10, .inr (.inr (.inr (.inr fb_335)))))] := hD
          have hK : va_K (dC, dI) vwCl [(kO_315, .object "java/lang/Object"), (kO_315, .object "java/lang/Object"), (kO_315, .object "java/lang/Object")] s := hK
          refine W.widen (k := 4) (n := 13) (Nat.le_of_ble_eq_true rfl) (Nat.le_of_ble_eq_true rfl) ?_
          obtain rfl := hw
          have ez_336 : (2 + 1 : Int32) = 3 := by decide
          rw [ez_336] at hP hD
          have hP : va_P (dC, dI) vwCl [(mx, .inr (14, [.ref lc, .ref lr, .ref kn, .ref lt, .ref ml, .ref mm, .ref lp, .ref lb, .ref mq, .int 1, .int 10, .int 0, .int 0])), (lt, .inr (4, [.int hm_334, .ref g1_314, .int 3])), (g1_314, .inl (kO_315, 10, .inr (.inr (.inr (.inr fb_335)))))] H := hP
          have hD : va_D A [(mx, .inr (14, [.ref lc, .ref lr, .ref kn, .ref lt, .ref ml, .ref mm, .ref lp, .ref lb, .ref mq, .int 1, .int 10, .int 0, .int 0])), (lt, .inr (4, [.int hm_334, .ref g1_314, .int 3])), (g1_314, .inl (kO_315, 10, .inr (.inr (.inr (.inr fb_335)))))] := hD
          refine lv_pop hx hb dX9_feed_68 rfl ?_
          refine lv_iinc (v := 4) (lv' := [(4, .int 4), (0, .ref mx), (1, .long c1), (3, .int 8)]) hx hb dX9_feed_69 hl (k := 0) rfl (by decide) (by decide) rfl (fun ls hl => ?_)
          refine lv_goto (tgt := 39) hx hb dX9_feed_72 (by decide) ?_
          refine lv_iload hx hb dX9_feed_39 (lv_at hl 0 rfl) ?_
          refine lv_if_lt (tgt := 75) hx hb dX9_feed_41 (by decide) (fun c_337 => absurd c_337 (by decide)) (fun _ => ?_)
          refine lv_aload_n hx hb dX9_feed_44 rfl (lv_at hl 1 rfl) ?_
          refine va_get (D := (dC, dI)) (ci := 14) (v := .ref lt) (C := RX9) (T := TX9) (N := 13) hx hb hts (fun _ h9 => List.mem_cons_of_mem _ (List.mem_append_left _ (List.mem_append_left _ (List.mem_append_left _ (List.mem_append_right _ (h9)))))) hown hK hP 0 rfl rfl 3 (by decide) (hts (.fieldLink RX9 24 "ExamHallsModel" "tape" "Ljava/util/List;") (List.mem_of_getElem? (i := 1) rfl)) (fun _ h9 => h9) rfl dX9_feed_45 ?_
          refine lv_lload_n hx hb dX9_feed_48 rfl (lv_at hl 2 rfl) ?_
          refine lv_bipush (v := 8) hx hb dX9_feed_49 (by decide) ?_
          refine lv_iload hx hb dX9_feed_51 (lv_at hl 0 rfl) ?_
          refine lv_imul hx hb dX9_feed_53 ?_
          refine lv_topi (fun f_338 ef_338 => ?_)
          obtain rfl : f_338 = 32 := ef_338.trans (by decide)
          refine lv_lshr hx hb dX9_feed_54 rfl ?_
          refine lv_ldc2 (v := 255) hx hb hown (hts (.constantLong RX9 76 (255)) (List.mem_of_getElem? (i := 2) rfl)) dX9_feed_55 ?_
          refine lv_land hx hb dX9_feed_58 ?_
          refine lv_l2i hx hb dX9_feed_59 rfl ?_
          have hPc := hP.sub (ws' := []) [] rfl
          have hDc := hD.sub (ws' := []) [] (by decide) rfl
          have hKc := hK.sub (tys' := []) [] rfl
          have hFc := va_free (wc := []) hD hS hA [] rfl
          refine va_callr (va_runS (As := [.int (((c1 >>> ((32 : Int32).toInt64 &&& 63)) &&& 255).toInt32)]) (rest := [.ref lt]) ⟨hx, hb, hml, hown, hts⟩ (c_valueOf l dC dI d tc ad (((c1 >>> ((32 : Int32).toInt64 &&& 63)) &&& 255).toInt32) H.size) (va_cwS 1 hts gX9_feed_J6_valueOf_2dffe rfl rfl rfl (by decide +kernel) ⟨Nat.le_of_ble_eq_true rfl, Nat.le_of_ble_eq_true rfl⟩) ⟨PZ_blind, PZ_pre hPc hKc hDc hF hZ hS hFc⟩ rfl rfl hl.1 rfl (lv_room (Nat.le_of_ble_eq_true rfl)) dX9_feed_60 ⟨Nat.le_of_ble_eq_true rfl, Nat.le_of_ble_eq_true rfl⟩) hS (fun q _ h => hFc q h) hFc (fun u r_339 t H1 locs ht hvm hw hB hz1 hk1 hS => ?_)
          obtain ⟨hP1, hK1, hD1, hx_340, hx_341, hx_342⟩ := hB
          rw [ht] at hP1
          have hK1 := va_K.moved hvm.symm hK1
          rw [ht] at hx_340 hx_342
          have hEr_339 := any_moved hvm.symm hx_340
          have ner_339_lt : r_339 ≠ lt := by
            rcases hx_341 with h9 | ⟨k9, hk9, e9⟩
            · intro e9; have h8 := (hP 1 _ rfl).lt; rw [← e9] at h8; exact absurd h9 (Nat.not_le.mpr h8)
            · intro e8; obtain ⟨_, _, _, _, h7⟩ := hZ.2.2.2.2.2.1 k9 hk9; exact h7 (by rw [← e9, e8]; exact hD.2 1 _ rfl)
          have ner_339_g1_314 : r_339 ≠ g1_314 := by
            rcases hx_341 with h9 | ⟨k9, hk9, e9⟩
            · intro e9; have h8 := (hP 2 _ rfl).lt; rw [← e9] at h8; exact absurd h9 (Nat.not_le.mpr h8)
            · intro e8; obtain ⟨_, _, _, _, h7⟩ := hZ.2.2.2.2.2.1 k9 hk9; exact h7 (by rw [← e9, e8]; exact hD.2 2 _ rfl)
          obtain ⟨hP, hD⟩ := va_join (wr := [(mx, .inr (14, [.ref lc, .ref lr, .ref kn, .ref lt, .ref ml, .ref mm, .ref lp, .ref lb, .ref mq, .int 1, .int 10, .int 0, .int 0])), (lt, .inr (4, [.int hm_334, .ref g1_314, .int 3])), (g1_314, .inl (kO_315, 10, .inr (.inr (.inr (.inr fb_335)))))]) (w1 := []) hP hD [] [0, 1, 2] rfl rfl (by decide) (by decide) hk1 hFc hP1 hD1
          have hK := hK.app hK1
          generalize H1 = H at hP hS hEr_339 hx_342 ⊢
          have hP : va_P (dC, dI) vwCl [(mx, .inr (14, [.ref lc, .ref lr, .ref kn, .ref lt, .ref ml, .ref mm, .ref lp, .ref lb, .ref mq, .int 1, .int 10, .int 0, .int 0])), (lt, .inr (4, [.int hm_334, .ref g1_314, .int 3])), (g1_314, .inl (kO_315, 10, .inr (.inr (.inr (.inr fb_335)))))] H := hP
          have hD : va_D A [(mx, .inr (14, [.ref lc, .ref lr, .ref kn, .ref lt, .ref ml, .ref mm, .ref lp, .ref lb, .ref mq, .int 1, .int 10, .int 0, .int 0])), (lt, .inr (4, [.int hm_334, .ref g1_314, .int 3])), (g1_314, .inl (kO_315, 10, .inr (.inr (.inr (.inr fb_335)))))] := hD
          have hK : va_K (dC, dI) vwCl [(kO_315, .object "java/lang/Object"), (kO_315, .object "java/lang/Object"), (kO_315, .object "java/lang/Object")] s := hK
          refine W.widen (k := 5) (n := 14) (Nat.le_of_ble_eq_true rfl) (Nat.le_of_ble_eq_true rfl) ?_
          have hPc := hP.sub (ws' := [(lt, .inr (4, [.int hm_334, .ref g1_314, .int 3])), (g1_314, .inl (kO_315, 10, .inr (.inr (.inr (.inr fb_335)))))]) [1, 2] rfl
          have hDc := hD.sub (ws' := [(lt, .inr (4, [.int hm_334, .ref g1_314, .int 3])), (g1_314, .inl (kO_315, 10, .inr (.inr (.inr (.inr fb_335)))))]) [1, 2] (by decide) rfl
          have hKc := hK.sub (tys' := [(kO_315, .object "java/lang/Object")]) [0] rfl
          have hFc := va_free (wc := [(lt, .inr (4, [.int hm_334, .ref g1_314, .int 3])), (g1_314, .inl (kO_315, 10, .inr (.inr (.inr (.inr fb_335)))))]) hD hS hA [1, 2] rfl
          refine va_callFi (va_runF (hK.1 4 _ rfl).2 (As := [.ref r_339]) (rest := []) ⟨hx, hb, hml, hown, hts⟩ (c_AL_addn l dC dI d tc ad lt hm_334 r_339 g1_314 3 kO_315 fb_335 H.size ner_339_lt hx_342 ner_339_g1_314 (by unfold vp_in; decide) (by decide)) (va_cwF 1 hts gX9_feed_Jx4a65c_add_9ea2d_f72Jx4a65c rfl rfl rfl (Ft.fw hF (RJx4a65c, ⟨"java/util/List", "add", "(Ljava/lang/Object;)Z"⟩, yJx4a65c_add_9ea2d) (by decide +kernel)) (by decide +kernel) ⟨Nat.le_of_ble_eq_true rfl, Nat.le_of_ble_eq_true rfl⟩) ⟨PE_blind, va_recv hK hP (ci := 4) (q0 := 1) rfl rfl, PE_pre hPc hKc hDc hF hZ hS hFc hEr_339⟩ rfl rfl hl.1 rfl (lv_room (Nat.le_of_ble_eq_true rfl)) dX9_feed_63 ⟨Nat.le_of_ble_eq_true rfl, Nat.le_of_ble_eq_true rfl⟩) hS (fun q _ h => hFc q h) hFc (fun r_343 u t H1 locs ht hvm hw hB hz1 hk1 hS => ?_)
          obtain ⟨hm_344, fb_345, hP1, hK1, hD1⟩ := hB
          rw [ht] at hP1
          have hK1 := va_K.moved hvm.symm hK1
          obtain ⟨hP, hD⟩ := va_join (wr := [(mx, .inr (14, [.ref lc, .ref lr, .ref kn, .ref lt, .ref ml, .ref mm, .ref lp, .ref lb, .ref mq, .int 1, .int 10, .int 0, .int 0]))]) (w1 := [(lt, .inr (4, [.int hm_344, .ref g1_314, .int (3 + 1)])), (g1_314, .inl (kO_315, 10, .inr (.inr (.inr (.inr fb_345)))))]) hP hD [1, 2] [0] rfl rfl (by decide) (by decide) hk1 hFc hP1 hD1
          have hK := hK.app hK1
          generalize H1 = H at hP hS ⊢
          have hP : va_P (dC, dI) vwCl [(mx, .inr (14, [.ref lc, .ref lr, .ref kn, .ref lt, .ref ml, .ref mm, .ref lp, .ref lb, .ref mq, .int 1, .int 10, .int 0, .int 0])), (lt, .inr (4, [.int hm_344, .ref g1_314, .int (3 + 1)])), (g1_314, .inl (kO_315, 10, .inr (.inr (.inr (.inr fb_345)))))] H := hP
          have hD : va_D A [(mx, .inr (14, [.ref lc, .ref lr, .ref kn, .ref lt, .ref ml, .ref mm, .ref lp, .ref lb, .ref mq, .int 1, .int 10, .int 0, .int 0])), (lt, .inr (4, [.int hm_344, .ref g1_314, .int (3 + 1)])), (g1_314, .inl (kO_315, 10, .inr (.inr (.inr (.inr fb_345)))))] := hD
          have hK : va_K (dC, dI) vwCl [(kO_315, .object "java/lang/Object"), (kO_315, .object "java/lang/Object"), (kO_315, .object "java/lang/Object"), (kO_315, .object "java/lang/Object")] s := hK
          refine W.widen (k := 5) (n := 14) (Nat.le_of_ble_eq_true rfl) (Nat.le_of_ble_eq_true rfl) ?_
          obtain rfl := hw
          have ez_346 : (3 + 1 : Int32) = 4 := by decide
          rw [ez_346] at hP hD
          have hP : va_P (dC, dI) vwCl [(mx, .inr (14, [.ref lc, .ref lr, .ref kn, .ref lt, .ref ml, .ref mm, .ref lp, .ref lb, .ref mq, .int 1, .int 10, .int 0, .int 0])), (lt, .inr (4, [.int hm_344, .ref g1_314, .int 4])), (g1_314, .inl (kO_315, 10, .inr (.inr (.inr (.inr fb_345)))))] H := hP
          have hD : va_D A [(mx, .inr (14, [.ref lc, .ref lr, .ref kn, .ref lt, .ref ml, .ref mm, .ref lp, .ref lb, .ref mq, .int 1, .int 10, .int 0, .int 0])), (lt, .inr (4, [.int hm_344, .ref g1_314, .int 4])), (g1_314, .inl (kO_315, 10, .inr (.inr (.inr (.inr fb_345)))))] := hD
          refine lv_pop hx hb dX9_feed_68 rfl ?_
          refine lv_iinc (v := 3) (lv' := [(4, .int 3), (0, .ref mx), (1, .long c1), (3, .int 8)]) hx hb dX9_feed_69 hl (k := 0) rfl (by decide) (by decide) rfl (fun ls hl => ?_)
          refine lv_goto (tgt := 39) hx hb dX9_feed_72 (by decide) ?_
          refine lv_iload hx hb dX9_feed_39 (lv_at hl 0 rfl) ?_
          refine lv_if_lt (tgt := 75) hx hb dX9_feed_41 (by decide) (fun c_347 => absurd c_347 (by decide)) (fun _ => ?_)
          refine lv_aload_n hx hb dX9_feed_44 rfl (lv_at hl 1 rfl) ?_
          refine va_get (D := (dC, dI)) (ci := 14) (v := .ref lt) (C := RX9) (T := TX9) (N := 13) hx hb hts (fun _ h9 => List.mem_cons_of_mem _ (List.mem_append_left _ (List.mem_append_left _ (List.mem_append_left _ (List.mem_append_right _ (h9)))))) hown hK hP 0 rfl rfl 3 (by decide) (hts (.fieldLink RX9 24 "ExamHallsModel" "tape" "Ljava/util/List;") (List.mem_of_getElem? (i := 1) rfl)) (fun _ h9 => h9) rfl dX9_feed_45 ?_
          refine lv_lload_n hx hb dX9_feed_48 rfl (lv_at hl 2 rfl) ?_
          refine lv_bipush (v := 8) hx hb dX9_feed_49 (by decide) ?_
          refine lv_iload hx hb dX9_feed_51 (lv_at hl 0 rfl) ?_
          refine lv_imul hx hb dX9_feed_53 ?_
          refine lv_topi (fun f_348 ef_348 => ?_)
          obtain rfl : f_348 = 24 := ef_348.trans (by decide)
          refine lv_lshr hx hb dX9_feed_54 rfl ?_
          refine lv_ldc2 (v := 255) hx hb hown (hts (.constantLong RX9 76 (255)) (List.mem_of_getElem? (i := 2) rfl)) dX9_feed_55 ?_
          refine lv_land hx hb dX9_feed_58 ?_
          refine lv_l2i hx hb dX9_feed_59 rfl ?_
          have hPc := hP.sub (ws' := []) [] rfl
          have hDc := hD.sub (ws' := []) [] (by decide) rfl
          have hKc := hK.sub (tys' := []) [] rfl
          have hFc := va_free (wc := []) hD hS hA [] rfl
          refine va_callr (va_runS (As := [.int (((c1 >>> ((24 : Int32).toInt64 &&& 63)) &&& 255).toInt32)]) (rest := [.ref lt]) ⟨hx, hb, hml, hown, hts⟩ (c_valueOf l dC dI d tc ad (((c1 >>> ((24 : Int32).toInt64 &&& 63)) &&& 255).toInt32) H.size) (va_cwS 1 hts gX9_feed_J6_valueOf_2dffe rfl rfl rfl (by decide +kernel) ⟨Nat.le_of_ble_eq_true rfl, Nat.le_of_ble_eq_true rfl⟩) ⟨PZ_blind, PZ_pre hPc hKc hDc hF hZ hS hFc⟩ rfl rfl hl.1 rfl (lv_room (Nat.le_of_ble_eq_true rfl)) dX9_feed_60 ⟨Nat.le_of_ble_eq_true rfl, Nat.le_of_ble_eq_true rfl⟩) hS (fun q _ h => hFc q h) hFc (fun u r_349 t H1 locs ht hvm hw hB hz1 hk1 hS => ?_)
          obtain ⟨hP1, hK1, hD1, hx_350, hx_351, hx_352⟩ := hB
          rw [ht] at hP1
          have hK1 := va_K.moved hvm.symm hK1
          rw [ht] at hx_350 hx_352
          have hEr_349 := any_moved hvm.symm hx_350
          have ner_349_lt : r_349 ≠ lt := by
            rcases hx_351 with h9 | ⟨k9, hk9, e9⟩
            · intro e9; have h8 := (hP 1 _ rfl).lt; rw [← e9] at h8; exact absurd h9 (Nat.not_le.mpr h8)
            · intro e8; obtain ⟨_, _, _, _, h7⟩ := hZ.2.2.2.2.2.1 k9 hk9; exact h7 (by rw [← e9, e8]; exact hD.2 1 _ rfl)
          have ner_349_g1_314 : r_349 ≠ g1_314 := by
            rcases hx_351 with h9 | ⟨k9, hk9, e9⟩
            · intro e9; have h8 := (hP 2 _ rfl).lt; rw [← e9] at h8; exact absurd h9 (Nat.not_le.mpr h8)
            · intro e8; obtain ⟨_, _, _, _, h7⟩ := hZ.2.2.2.2.2.1 k9 hk9; exact h7 (by rw [← e9, e8]; exact hD.2 2 _ rfl)
          obtain ⟨hP, hD⟩ := va_join (wr := [(mx, .inr (14, [.ref lc, .ref lr, .ref kn, .ref lt, .ref ml, .ref mm, .ref lp, .ref lb, .ref mq, .int 1, .int 10, .int 0, .int 0])), (lt, .inr (4, [.int hm_344, .ref g1_314, .int 4])), (g1_314, .inl (kO_315, 10, .inr (.inr (.inr (.inr fb_345)))))]) (w1 := []) hP hD [] [0, 1, 2] rfl rfl (by decide) (by decide) hk1 hFc hP1 hD1
          have hK := hK.app hK1
          generalize H1 = H at hP hS hEr_349 hx_352 ⊢
          have hP : va_P (dC, dI) vwCl [(mx, .inr (14, [.ref lc, .ref lr, .ref kn, .ref lt, .ref ml, .ref mm, .ref lp, .ref lb, .ref mq, .int 1, .int 10, .int 0, .int 0])), (lt, .inr (4, [.int hm_344, .ref g1_314, .int 4])), (g1_314, .inl (kO_315, 10, .inr (.inr (.inr (.inr fb_345)))))] H := hP
          have hD : va_D A [(mx, .inr (14, [.ref lc, .ref lr, .ref kn, .ref lt, .ref ml, .ref mm, .ref lp, .ref lb, .ref mq, .int 1, .int 10, .int 0, .int 0])), (lt, .inr (4, [.int hm_344, .ref g1_314, .int 4])), (g1_314, .inl (kO_315, 10, .inr (.inr (.inr (.inr fb_345)))))] := hD
          have hK : va_K (dC, dI) vwCl [(kO_315, .object "java/lang/Object"), (kO_315, .object "java/lang/Object"), (kO_315, .object "java/lang/Object"), (kO_315, .object "java/lang/Object")] s := hK
          refine W.widen (k := 6) (n := 15) (Nat.le_of_ble_eq_true rfl) (Nat.le_of_ble_eq_true rfl) ?_
          have hPc := hP.sub (ws' := [(lt, .inr (4, [.int hm_344, .ref g1_314, .int 4])), (g1_314, .inl (kO_315, 10, .inr (.inr (.inr (.inr fb_345)))))]) [1, 2] rfl
          have hDc := hD.sub (ws' := [(lt, .inr (4, [.int hm_344, .ref g1_314, .int 4])), (g1_314, .inl (kO_315, 10, .inr (.inr (.inr (.inr fb_345)))))]) [1, 2] (by decide) rfl
          have hKc := hK.sub (tys' := [(kO_315, .object "java/lang/Object")]) [0] rfl
          have hFc := va_free (wc := [(lt, .inr (4, [.int hm_344, .ref g1_314, .int 4])), (g1_314, .inl (kO_315, 10, .inr (.inr (.inr (.inr fb_345)))))]) hD hS hA [1, 2] rfl
          refine va_callFi (va_runF (hK.1 4 _ rfl).2 (As := [.ref r_349]) (rest := []) ⟨hx, hb, hml, hown, hts⟩ (c_AL_addn l dC dI d tc ad lt hm_344 r_349 g1_314 4 kO_315 fb_345 H.size ner_349_lt hx_352 ner_349_g1_314 (by unfold vp_in; decide) (by decide)) (va_cwF 1 hts gX9_feed_Jx4a65c_add_9ea2d_f72Jx4a65c rfl rfl rfl (Ft.fw hF (RJx4a65c, ⟨"java/util/List", "add", "(Ljava/lang/Object;)Z"⟩, yJx4a65c_add_9ea2d) (by decide +kernel)) (by decide +kernel) ⟨Nat.le_of_ble_eq_true rfl, Nat.le_of_ble_eq_true rfl⟩) ⟨PE_blind, va_recv hK hP (ci := 4) (q0 := 1) rfl rfl, PE_pre hPc hKc hDc hF hZ hS hFc hEr_349⟩ rfl rfl hl.1 rfl (lv_room (Nat.le_of_ble_eq_true rfl)) dX9_feed_63 ⟨Nat.le_of_ble_eq_true rfl, Nat.le_of_ble_eq_true rfl⟩) hS (fun q _ h => hFc q h) hFc (fun r_353 u t H1 locs ht hvm hw hB hz1 hk1 hS => ?_)
          obtain ⟨hm_354, fb_355, hP1, hK1, hD1⟩ := hB
          rw [ht] at hP1
          have hK1 := va_K.moved hvm.symm hK1
          obtain ⟨hP, hD⟩ := va_join (wr := [(mx, .inr (14, [.ref lc, .ref lr, .ref kn, .ref lt, .ref ml, .ref mm, .ref lp, .ref lb, .ref mq, .int 1, .int 10, .int 0, .int 0]))]) (w1 := [(lt, .inr (4, [.int hm_354, .ref g1_314, .int (4 + 1)])), (g1_314, .inl (kO_315, 10, .inr (.inr (.inr (.inr fb_355)))))]) hP hD [1, 2] [0] rfl rfl (by decide) (by decide) hk1 hFc hP1 hD1
          have hK := hK.app hK1
          generalize H1 = H at hP hS ⊢
          have hP : va_P (dC, dI) vwCl [(mx, .inr (14, [.ref lc, .ref lr, .ref kn, .ref lt, .ref ml, .ref mm, .ref lp, .ref lb, .ref mq, .int 1, .int 10, .int 0, .int 0])), (lt, .inr (4, [.int hm_354, .ref g1_314, .int (4 + 1)])), (g1_314, .inl (kO_315, 10, .inr (.inr (.inr (.inr fb_355)))))] H := hP
          have hD : va_D A [(mx, .inr (14, [.ref lc, .ref lr, .ref kn, .ref lt, .ref ml, .ref mm, .ref lp, .ref lb, .ref mq, .int 1, .int 10, .int 0, .int 0])), (lt, .inr (4, [.int hm_354, .ref g1_314, .int (4 + 1)])), (g1_314, .inl (kO_315, 10, .inr (.inr (.inr (.inr fb_355)))))] := hD
          have hK : va_K (dC, dI) vwCl [(kO_315, .object "java/lang/Object"), (kO_315, .object "java/lang/Object"), (kO_315, .object "java/lang/Object"), (kO_315, .object "java/lang/Object"), (kO_315, .object "java/lang/Object")] s := hK
          refine W.widen (k := 6) (n := 15) (Nat.le_of_ble_eq_true rfl) (Nat.le_of_ble_eq_true rfl) ?_
          obtain rfl := hw
          have ez_356 : (4 + 1 : Int32) = 5 := by decide
          rw [ez_356] at hP hD
          have hP : va_P (dC, dI) vwCl [(mx, .inr (14, [.ref lc, .ref lr, .ref kn, .ref lt, .ref ml, .ref mm, .ref lp, .ref lb, .ref mq, .int 1, .int 10, .int 0, .int 0])), (lt, .inr (4, [.int hm_354, .ref g1_314, .int 5])), (g1_314, .inl (kO_315, 10, .inr (.inr (.inr (.inr fb_355)))))] H := hP
          have hD : va_D A [(mx, .inr (14, [.ref lc, .ref lr, .ref kn, .ref lt, .ref ml, .ref mm, .ref lp, .ref lb, .ref mq, .int 1, .int 10, .int 0, .int 0])), (lt, .inr (4, [.int hm_354, .ref g1_314, .int 5])), (g1_314, .inl (kO_315, 10, .inr (.inr (.inr (.inr fb_355)))))] := hD
          refine lv_pop hx hb dX9_feed_68 rfl ?_
          refine lv_iinc (v := 2) (lv' := [(4, .int 2), (0, .ref mx), (1, .long c1), (3, .int 8)]) hx hb dX9_feed_69 hl (k := 0) rfl (by decide) (by decide) rfl (fun ls hl => ?_)
          refine lv_goto (tgt := 39) hx hb dX9_feed_72 (by decide) ?_
          refine lv_iload hx hb dX9_feed_39 (lv_at hl 0 rfl) ?_
          refine lv_if_lt (tgt := 75) hx hb dX9_feed_41 (by decide) (fun c_357 => absurd c_357 (by decide)) (fun _ => ?_)
          refine lv_aload_n hx hb dX9_feed_44 rfl (lv_at hl 1 rfl) ?_
          refine va_get (D := (dC, dI)) (ci := 14) (v := .ref lt) (C := RX9) (T := TX9) (N := 13) hx hb hts (fun _ h9 => List.mem_cons_of_mem _ (List.mem_append_left _ (List.mem_append_left _ (List.mem_append_left _ (List.mem_append_right _ (h9)))))) hown hK hP 0 rfl rfl 3 (by decide) (hts (.fieldLink RX9 24 "ExamHallsModel" "tape" "Ljava/util/List;") (List.mem_of_getElem? (i := 1) rfl)) (fun _ h9 => h9) rfl dX9_feed_45 ?_
          refine lv_lload_n hx hb dX9_feed_48 rfl (lv_at hl 2 rfl) ?_
          refine lv_bipush (v := 8) hx hb dX9_feed_49 (by decide) ?_
          refine lv_iload hx hb dX9_feed_51 (lv_at hl 0 rfl) ?_
          refine lv_imul hx hb dX9_feed_53 ?_
          refine lv_topi (fun f_358 ef_358 => ?_)
          obtain rfl : f_358 = 16 := ef_358.trans (by decide)
          refine lv_lshr hx hb dX9_feed_54 rfl ?_
          refine lv_ldc2 (v := 255) hx hb hown (hts (.constantLong RX9 76 (255)) (List.mem_of_getElem? (i := 2) rfl)) dX9_feed_55 ?_
          refine lv_land hx hb dX9_feed_58 ?_
          refine lv_l2i hx hb dX9_feed_59 rfl ?_
          have hPc := hP.sub (ws' := []) [] rfl
          have hDc := hD.sub (ws' := []) [] (by decide) rfl
          have hKc := hK.sub (tys' := []) [] rfl
          have hFc := va_free (wc := []) hD hS hA [] rfl
          refine va_callr (va_runS (As := [.int (((c1 >>> ((16 : Int32).toInt64 &&& 63)) &&& 255).toInt32)]) (rest := [.ref lt]) ⟨hx, hb, hml, hown, hts⟩ (c_valueOf l dC dI d tc ad (((c1 >>> ((16 : Int32).toInt64 &&& 63)) &&& 255).toInt32) H.size) (va_cwS 1 hts gX9_feed_J6_valueOf_2dffe rfl rfl rfl (by decide +kernel) ⟨Nat.le_of_ble_eq_true rfl, Nat.le_of_ble_eq_true rfl⟩) ⟨PZ_blind, PZ_pre hPc hKc hDc hF hZ hS hFc⟩ rfl rfl hl.1 rfl (lv_room (Nat.le_of_ble_eq_true rfl)) dX9_feed_60 ⟨Nat.le_of_ble_eq_true rfl, Nat.le_of_ble_eq_true rfl⟩) hS (fun q _ h => hFc q h) hFc (fun u r_359 t H1 locs ht hvm hw hB hz1 hk1 hS => ?_)
          obtain ⟨hP1, hK1, hD1, hx_360, hx_361, hx_362⟩ := hB
          rw [ht] at hP1
          have hK1 := va_K.moved hvm.symm hK1
          rw [ht] at hx_360 hx_362
          have hEr_359 := any_moved hvm.symm hx_360
          have ner_359_lt : r_359 ≠ lt := by
            rcases hx_361 with h9 | ⟨k9, hk9, e9⟩
            · intro e9; have h8 := (hP 1 _ rfl).lt; rw [← e9] at h8; exact absurd h9 (Nat.not_le.mpr h8)
            · intro e8; obtain ⟨_, _, _, _, h7⟩ := hZ.2.2.2.2.2.1 k9 hk9; exact h7 (by rw [← e9, e8]; exact hD.2 1 _ rfl)
          have ner_359_g1_314 : r_359 ≠ g1_314 := by
            rcases hx_361 with h9 | ⟨k9, hk9, e9⟩
            · intro e9; have h8 := (hP 2 _ rfl).lt; rw [← e9] at h8; exact absurd h9 (Nat.not_le.mpr h8)
            · intro e8; obtain ⟨_, _, _, _, h7⟩ := hZ.2.2.2.2.2.1 k9 hk9; exact h7 (by rw [← e9, e8]; exact hD.2 2 _ rfl)
          obtain ⟨hP, hD⟩ := va_join (wr := [(mx, .inr (14, [.ref lc, .ref lr, .ref kn, .ref lt, .ref ml, .ref mm, .ref lp, .ref lb, .ref mq, .int 1, .int 10, .int 0, .int 0])), (lt, .inr (4, [.int hm_354, .ref g1_314, .int 5])), (g1_314, .inl (kO_315, 10, .inr (.inr (.inr (.inr fb_355)))))]) (w1 := []) hP hD [] [0, 1, 2] rfl rfl (by decide) (by decide) hk1 hFc hP1 hD1
          have hK := hK.app hK1
          generalize H1 = H at hP hS hEr_359 hx_362 ⊢
          have hP : va_P (dC, dI) vwCl [(mx, .inr (14, [.ref lc, .ref lr, .ref kn, .ref lt, .ref ml, .ref mm, .ref lp, .ref lb, .ref mq, .int 1, .int 10, .int 0, .int 0])), (lt, .inr (4, [.int hm_354, .ref g1_314, .int 5])), (g1_314, .inl (kO_315, 10, .inr (.inr (.inr (.inr fb_355)))))] H := hP
          have hD : va_D A [(mx, .inr (14, [.ref lc, .ref lr, .ref kn, .ref lt, .ref ml, .ref mm, .ref lp, .ref lb, .ref mq, .int 1, .int 10, .int 0, .int 0])), (lt, .inr (4, [.int hm_354, .ref g1_314, .int 5])), (g1_314, .inl (kO_315, 10, .inr (.inr (.inr (.inr fb_355)))))] := hD
          have hK : va_K (dC, dI) vwCl [(kO_315, .object "java/lang/Object"), (kO_315, .object "java/lang/Object"), (kO_315, .object "java/lang/Object"), (kO_315, .object "java/lang/Object"), (kO_315, .object "java/lang/Object")] s := hK
          refine W.widen (k := 7) (n := 16) (Nat.le_of_ble_eq_true rfl) (Nat.le_of_ble_eq_true rfl) ?_
          have hPc := hP.sub (ws' := [(lt, .inr (4, [.int hm_354, .ref g1_314, .int 5])), (g1_314, .inl (kO_315, 10, .inr (.inr (.inr (.inr fb_355)))))]) [1, 2] rfl
          have hDc := hD.sub (ws' := [(lt, .inr (4, [.int hm_354, .ref g1_314, .int 5])), (g1_314, .inl (kO_315, 10, .inr (.inr (.inr (.inr fb_355)))))]) [1, 2] (by decide) rfl
          have hKc := hK.sub (tys' := [(kO_315, .object "java/lang/Object")]) [0] rfl
          have hFc := va_free (wc := [(lt, .inr (4, [.int hm_354, .ref g1_314, .int 5])), (g1_314, .inl (kO_315, 10, .inr (.inr (.inr (.inr fb_355)))))]) hD hS hA [1, 2] rfl
          refine va_callFi (va_runF (hK.1 4 _ rfl).2 (As := [.ref r_359]) (rest := []) ⟨hx, hb, hml, hown, hts⟩ (c_AL_addn l dC dI d tc ad lt hm_354 r_359 g1_314 5 kO_315 fb_355 H.size ner_359_lt hx_362 ner_359_g1_314 (by unfold vp_in; decide) (by decide)) (va_cwF 1 hts gX9_feed_Jx4a65c_add_9ea2d_f72Jx4a65c rfl rfl rfl (Ft.fw hF (RJx4a65c, ⟨"java/util/List", "add", "(Ljava/lang/Object;)Z"⟩, yJx4a65c_add_9ea2d) (by decide +kernel)) (by decide +kernel) ⟨Nat.le_of_ble_eq_true rfl, Nat.le_of_ble_eq_true rfl⟩) ⟨PE_blind, va_recv hK hP (ci := 4) (q0 := 1) rfl rfl, PE_pre hPc hKc hDc hF hZ hS hFc hEr_359⟩ rfl rfl hl.1 rfl (lv_room (Nat.le_of_ble_eq_true rfl)) dX9_feed_63 ⟨Nat.le_of_ble_eq_true rfl, Nat.le_of_ble_eq_true rfl⟩) hS (fun q _ h => hFc q h) hFc (fun r_363 u t H1 locs ht hvm hw hB hz1 hk1 hS => ?_)
          obtain ⟨hm_364, fb_365, hP1, hK1, hD1⟩ := hB
          rw [ht] at hP1
          have hK1 := va_K.moved hvm.symm hK1
          obtain ⟨hP, hD⟩ := va_join (wr := [(mx, .inr (14, [.ref lc, .ref lr, .ref kn, .ref lt, .ref ml, .ref mm, .ref lp, .ref lb, .ref mq, .int 1, .int 10, .int 0, .int 0]))]) (w1 := [(lt, .inr (4, [.int hm_364, .ref g1_314, .int (5 + 1)])), (g1_314, .inl (kO_315, 10, .inr (.inr (.inr (.inr fb_365)))))]) hP hD [1, 2] [0] rfl rfl (by decide) (by decide) hk1 hFc hP1 hD1
          have hK := hK.app hK1
          generalize H1 = H at hP hS ⊢
          have hP : va_P (dC, dI) vwCl [(mx, .inr (14, [.ref lc, .ref lr, .ref kn, .ref lt, .ref ml, .ref mm, .ref lp, .ref lb, .ref mq, .int 1, .int 10, .int 0, .int 0])), (lt, .inr (4, [.int hm_364, .ref g1_314, .int (5 + 1)])), (g1_314, .inl (kO_315, 10, .inr (.inr (.inr (.inr fb_365)))))] H := hP
          have hD : va_D A [(mx, .inr (14, [.ref lc, .ref lr, .ref kn, .ref lt, .ref ml, .ref mm, .ref lp, .ref lb, .ref mq, .int 1, .int 10, .int 0, .int 0])), (lt, .inr (4, [.int hm_364, .ref g1_314, .int (5 + 1)])), (g1_314, .inl (kO_315, 10, .inr (.inr (.inr (.inr fb_365)))))] := hD
          have hK : va_K (dC, dI) vwCl [(kO_315, .object "java/lang/Object"), (kO_315, .object "java/lang/Object"), (kO_315, .object "java/lang/Object"), (kO_315, .object "java/lang/Object"), (kO_315, .object "java/lang/Object"), (kO_315, .object "java/lang/Object")] s := hK
          refine W.widen (k := 7) (n := 16) (Nat.le_of_ble_eq_true rfl) (Nat.le_of_ble_eq_true rfl) ?_
          obtain rfl := hw
          have ez_366 : (5 + 1 : Int32) = 6 := by decide
          rw [ez_366] at hP hD
          have hP : va_P (dC, dI) vwCl [(mx, .inr (14, [.ref lc, .ref lr, .ref kn, .ref lt, .ref ml, .ref mm, .ref lp, .ref lb, .ref mq, .int 1, .int 10, .int 0, .int 0])), (lt, .inr (4, [.int hm_364, .ref g1_314, .int 6])), (g1_314, .inl (kO_315, 10, .inr (.inr (.inr (.inr fb_365)))))] H := hP
          have hD : va_D A [(mx, .inr (14, [.ref lc, .ref lr, .ref kn, .ref lt, .ref ml, .ref mm, .ref lp, .ref lb, .ref mq, .int 1, .int 10, .int 0, .int 0])), (lt, .inr (4, [.int hm_364, .ref g1_314, .int 6])), (g1_314, .inl (kO_315, 10, .inr (.inr (.inr (.inr fb_365)))))] := hD
          refine lv_pop hx hb dX9_feed_68 rfl ?_
          refine lv_iinc (v := 1) (lv' := [(4, .int 1), (0, .ref mx), (1, .long c1), (3, .int 8)]) hx hb dX9_feed_69 hl (k := 0) rfl (by decide) (by decide) rfl (fun ls hl => ?_)
          refine lv_goto (tgt := 39) hx hb dX9_feed_72 (by decide) ?_
          refine lv_iload hx hb dX9_feed_39 (lv_at hl 0 rfl) ?_
          refine lv_if_lt (tgt := 75) hx hb dX9_feed_41 (by decide) (fun c_367 => absurd c_367 (by decide)) (fun _ => ?_)
          refine lv_aload_n hx hb dX9_feed_44 rfl (lv_at hl 1 rfl) ?_
          refine va_get (D := (dC, dI)) (ci := 14) (v := .ref lt) (C := RX9) (T := TX9) (N := 13) hx hb hts (fun _ h9 => List.mem_cons_of_mem _ (List.mem_append_left _ (List.mem_append_left _ (List.mem_append_left _ (List.mem_append_right _ (h9)))))) hown hK hP 0 rfl rfl 3 (by decide) (hts (.fieldLink RX9 24 "ExamHallsModel" "tape" "Ljava/util/List;") (List.mem_of_getElem? (i := 1) rfl)) (fun _ h9 => h9) rfl dX9_feed_45 ?_
          refine lv_lload_n hx hb dX9_feed_48 rfl (lv_at hl 2 rfl) ?_
          refine lv_bipush (v := 8) hx hb dX9_feed_49 (by decide) ?_
          refine lv_iload hx hb dX9_feed_51 (lv_at hl 0 rfl) ?_
          refine lv_imul hx hb dX9_feed_53 ?_
          refine lv_topi (fun f_368 ef_368 => ?_)
          obtain rfl : f_368 = 8 := ef_368.trans (by decide)
          refine lv_lshr hx hb dX9_feed_54 rfl ?_
          refine lv_ldc2 (v := 255) hx hb hown (hts (.constantLong RX9 76 (255)) (List.mem_of_getElem? (i := 2) rfl)) dX9_feed_55 ?_
          refine lv_land hx hb dX9_feed_58 ?_
          refine lv_l2i hx hb dX9_feed_59 rfl ?_
          have hPc := hP.sub (ws' := []) [] rfl
          have hDc := hD.sub (ws' := []) [] (by decide) rfl
          have hKc := hK.sub (tys' := []) [] rfl
          have hFc := va_free (wc := []) hD hS hA [] rfl
          refine va_callr (va_runS (As := [.int (((c1 >>> ((8 : Int32).toInt64 &&& 63)) &&& 255).toInt32)]) (rest := [.ref lt]) ⟨hx, hb, hml, hown, hts⟩ (c_valueOf l dC dI d tc ad (((c1 >>> ((8 : Int32).toInt64 &&& 63)) &&& 255).toInt32) H.size) (va_cwS 1 hts gX9_feed_J6_valueOf_2dffe rfl rfl rfl (by decide +kernel) ⟨Nat.le_of_ble_eq_true rfl, Nat.le_of_ble_eq_true rfl⟩) ⟨PZ_blind, PZ_pre hPc hKc hDc hF hZ hS hFc⟩ rfl rfl hl.1 rfl (lv_room (Nat.le_of_ble_eq_true rfl)) dX9_feed_60 ⟨Nat.le_of_ble_eq_true rfl, Nat.le_of_ble_eq_true rfl⟩) hS (fun q _ h => hFc q h) hFc (fun u r_369 t H1 locs ht hvm hw hB hz1 hk1 hS => ?_)
          obtain ⟨hP1, hK1, hD1, hx_370, hx_371, hx_372⟩ := hB
          rw [ht] at hP1
          have hK1 := va_K.moved hvm.symm hK1
          rw [ht] at hx_370 hx_372
          have hEr_369 := any_moved hvm.symm hx_370
          have ner_369_lt : r_369 ≠ lt := by
            rcases hx_371 with h9 | ⟨k9, hk9, e9⟩
            · intro e9; have h8 := (hP 1 _ rfl).lt; rw [← e9] at h8; exact absurd h9 (Nat.not_le.mpr h8)
            · intro e8; obtain ⟨_, _, _, _, h7⟩ := hZ.2.2.2.2.2.1 k9 hk9; exact h7 (by rw [← e9, e8]; exact hD.2 1 _ rfl)
          have ner_369_g1_314 : r_369 ≠ g1_314 := by
            rcases hx_371 with h9 | ⟨k9, hk9, e9⟩
            · intro e9; have h8 := (hP 2 _ rfl).lt; rw [← e9] at h8; exact absurd h9 (Nat.not_le.mpr h8)
            · intro e8; obtain ⟨_, _, _, _, h7⟩ := hZ.2.2.2.2.2.1 k9 hk9; exact h7 (by rw [← e9, e8]; exact hD.2 2 _ rfl)
          obtain ⟨hP, hD⟩ := va_join (wr := [(mx, .inr (14, [.ref lc, .ref lr, .ref kn, .ref lt, .ref ml, .ref mm, .ref lp, .ref lb, .ref mq, .int 1, .int 10, .int 0, .int 0])), (lt, .inr (4, [.int hm_364, .ref g1_314, .int 6])), (g1_314, .inl (kO_315, 10, .inr (.inr (.inr (.inr fb_365)))))]) (w1 := []) hP hD [] [0, 1, 2] rfl rfl (by decide) (by decide) hk1 hFc hP1 hD1
          have hK := hK.app hK1
          generalize H1 = H at hP hS hEr_369 hx_372 ⊢
          have hP : va_P (dC, dI) vwCl [(mx, .inr (14, [.ref lc, .ref lr, .ref kn, .ref lt, .ref ml, .ref mm, .ref lp, .ref lb, .ref mq, .int 1, .int 10, .int 0, .int 0])), (lt, .inr (4, [.int hm_364, .ref g1_314, .int 6])), (g1_314, .inl (kO_315, 10, .inr (.inr (.inr (.inr fb_365)))))] H := hP
          have hD : va_D A [(mx, .inr (14, [.ref lc, .ref lr, .ref kn, .ref lt, .ref ml, .ref mm, .ref lp, .ref lb, .ref mq, .int 1, .int 10, .int 0, .int 0])), (lt, .inr (4, [.int hm_364, .ref g1_314, .int 6])), (g1_314, .inl (kO_315, 10, .inr (.inr (.inr (.inr fb_365)))))] := hD
          have hK : va_K (dC, dI) vwCl [(kO_315, .object "java/lang/Object"), (kO_315, .object "java/lang/Object"), (kO_315, .object "java/lang/Object"), (kO_315, .object "java/lang/Object"), (kO_315, .object "java/lang/Object"), (kO_315, .object "java/lang/Object")] s := hK
          refine W.widen (k := 8) (n := 17) (Nat.le_of_ble_eq_true rfl) (Nat.le_of_ble_eq_true rfl) ?_
          have hPc := hP.sub (ws' := [(lt, .inr (4, [.int hm_364, .ref g1_314, .int 6])), (g1_314, .inl (kO_315, 10, .inr (.inr (.inr (.inr fb_365)))))]) [1, 2] rfl
          have hDc := hD.sub (ws' := [(lt, .inr (4, [.int hm_364, .ref g1_314, .int 6])), (g1_314, .inl (kO_315, 10, .inr (.inr (.inr (.inr fb_365)))))]) [1, 2] (by decide) rfl
          have hKc := hK.sub (tys' := [(kO_315, .object "java/lang/Object")]) [0] rfl
          have hFc := va_free (wc := [(lt, .inr (4, [.int hm_364, .ref g1_314, .int 6])), (g1_314, .inl (kO_315, 10, .inr (.inr (.inr (.inr fb_365)))))]) hD hS hA [1, 2] rfl
          refine va_callFi (va_runF (hK.1 4 _ rfl).2 (As := [.ref r_369]) (rest := []) ⟨hx, hb, hml, hown, hts⟩ (c_AL_addn l dC dI d tc ad lt hm_364 r_369 g1_314 6 kO_315 fb_365 H.size ner_369_lt hx_372 ner_369_g1_314 (by unfold vp_in; decide) (by decide)) (va_cwF 1 hts gX9_feed_Jx4a65c_add_9ea2d_f72Jx4a65c rfl rfl rfl (Ft.fw hF (RJx4a65c, ⟨"java/util/List", "add", "(Ljava/lang/Object;)Z"⟩, yJx4a65c_add_9ea2d) (by decide +kernel)) (by decide +kernel) ⟨Nat.le_of_ble_eq_true rfl, Nat.le_of_ble_eq_true rfl⟩) ⟨PE_blind, va_recv hK hP (ci := 4) (q0 := 1) rfl rfl, PE_pre hPc hKc hDc hF hZ hS hFc hEr_369⟩ rfl rfl hl.1 rfl (lv_room (Nat.le_of_ble_eq_true rfl)) dX9_feed_63 ⟨Nat.le_of_ble_eq_true rfl, Nat.le_of_ble_eq_true rfl⟩) hS (fun q _ h => hFc q h) hFc (fun r_373 u t H1 locs ht hvm hw hB hz1 hk1 hS => ?_)
          obtain ⟨hm_374, fb_375, hP1, hK1, hD1⟩ := hB
          rw [ht] at hP1
          have hK1 := va_K.moved hvm.symm hK1
          obtain ⟨hP, hD⟩ := va_join (wr := [(mx, .inr (14, [.ref lc, .ref lr, .ref kn, .ref lt, .ref ml, .ref mm, .ref lp, .ref lb, .ref mq, .int 1, .int 10, .int 0, .int 0]))]) (w1 := [(lt, .inr (4, [.int hm_374, .ref g1_314, .int (6 + 1)])), (g1_314, .inl (kO_315, 10, .inr (.inr (.inr (.inr fb_375)))))]) hP hD [1, 2] [0] rfl rfl (by decide) (by decide) hk1 hFc hP1 hD1
          have hK := hK.app hK1
          generalize H1 = H at hP hS ⊢
          have hP : va_P (dC, dI) vwCl [(mx, .inr (14, [.ref lc, .ref lr, .ref kn, .ref lt, .ref ml, .ref mm, .ref lp, .ref lb, .ref mq, .int 1, .int 10, .int 0, .int 0])), (lt, .inr (4, [.int hm_374, .ref g1_314, .int (6 + 1)])), (g1_314, .inl (kO_315, 10, .inr (.inr (.inr (.inr fb_375)))))] H := hP
          have hD : va_D A [(mx, .inr (14, [.ref lc, .ref lr, .ref kn, .ref lt, .ref ml, .ref mm, .ref lp, .ref lb, .ref mq, .int 1, .int 10, .int 0, .int 0])), (lt, .inr (4, [.int hm_374, .ref g1_314, .int (6 + 1)])), (g1_314, .inl (kO_315, 10, .inr (.inr (.inr (.inr fb_375)))))] := hD
          have hK : va_K (dC, dI) vwCl [(kO_315, .object "java/lang/Object"), (kO_315, .object "java/lang/Object"), (kO_315, .object "java/lang/Object"), (kO_315, .object "java/lang/Object"), (kO_315, .object "java/lang/Object"), (kO_315, .object "java/lang/Object"), (kO_315, .object "java/lang/Object")] s := hK
          refine W.widen (k := 8) (n := 17) (Nat.le_of_ble_eq_true rfl) (Nat.le_of_ble_eq_true rfl) ?_
          obtain rfl := hw
          have ez_376 : (6 + 1 : Int32) = 7 := by decide
          rw [ez_376] at hP hD
          have hP : va_P (dC, dI) vwCl [(mx, .inr (14, [.ref lc, .ref lr, .ref kn, .ref lt, .ref ml, .ref mm, .ref lp, .ref lb, .ref mq, .int 1, .int 10, .int 0, .int 0])), (lt, .inr (4, [.int hm_374, .ref g1_314, .int 7])), (g1_314, .inl (kO_315, 10, .inr (.inr (.inr (.inr fb_375)))))] H := hP
          have hD : va_D A [(mx, .inr (14, [.ref lc, .ref lr, .ref kn, .ref lt, .ref ml, .ref mm, .ref lp, .ref lb, .ref mq, .int 1, .int 10, .int 0, .int 0])), (lt, .inr (4, [.int hm_374, .ref g1_314, .int 7])), (g1_314, .inl (kO_315, 10, .inr (.inr (.inr (.inr fb_375)))))] := hD
          refine lv_pop hx hb dX9_feed_68 rfl ?_
          refine lv_iinc (v := 0) (lv' := [(4, .int 0), (0, .ref mx), (1, .long c1), (3, .int 8)]) hx hb dX9_feed_69 hl (k := 0) rfl (by decide) (by decide) rfl (fun ls hl => ?_)
          refine lv_goto (tgt := 39) hx hb dX9_feed_72 (by decide) ?_
          refine lv_iload hx hb dX9_feed_39 (lv_at hl 0 rfl) ?_
          refine lv_if_lt (tgt := 75) hx hb dX9_feed_41 (by decide) (fun c_377 => absurd c_377 (by decide)) (fun _ => ?_)
          refine lv_aload_n hx hb dX9_feed_44 rfl (lv_at hl 1 rfl) ?_
          refine va_get (D := (dC, dI)) (ci := 14) (v := .ref lt) (C := RX9) (T := TX9) (N := 13) hx hb hts (fun _ h9 => List.mem_cons_of_mem _ (List.mem_append_left _ (List.mem_append_left _ (List.mem_append_left _ (List.mem_append_right _ (h9)))))) hown hK hP 0 rfl rfl 3 (by decide) (hts (.fieldLink RX9 24 "ExamHallsModel" "tape" "Ljava/util/List;") (List.mem_of_getElem? (i := 1) rfl)) (fun _ h9 => h9) rfl dX9_feed_45 ?_
          refine lv_lload_n hx hb dX9_feed_48 rfl (lv_at hl 2 rfl) ?_
          refine lv_bipush (v := 8) hx hb dX9_feed_49 (by decide) ?_
          refine lv_iload hx hb dX9_feed_51 (lv_at hl 0 rfl) ?_
          refine lv_imul hx hb dX9_feed_53 ?_
          refine lv_topi (fun f_378 ef_378 => ?_)
          obtain rfl : f_378 = 0 := ef_378.trans (by decide)
          refine lv_lshr hx hb dX9_feed_54 rfl ?_
          refine lv_ldc2 (v := 255) hx hb hown (hts (.constantLong RX9 76 (255)) (List.mem_of_getElem? (i := 2) rfl)) dX9_feed_55 ?_
          refine lv_land hx hb dX9_feed_58 ?_
          refine lv_l2i hx hb dX9_feed_59 rfl ?_
          have hPc := hP.sub (ws' := []) [] rfl
          have hDc := hD.sub (ws' := []) [] (by decide) rfl
          have hKc := hK.sub (tys' := []) [] rfl
          have hFc := va_free (wc := []) hD hS hA [] rfl
          refine va_callr (va_runS (As := [.int (((c1 >>> ((0 : Int32).toInt64 &&& 63)) &&& 255).toInt32)]) (rest := [.ref lt]) ⟨hx, hb, hml, hown, hts⟩ (c_valueOf l dC dI d tc ad (((c1 >>> ((0 : Int32).toInt64 &&& 63)) &&& 255).toInt32) H.size) (va_cwS 1 hts gX9_feed_J6_valueOf_2dffe rfl rfl rfl (by decide +kernel) ⟨Nat.le_of_ble_eq_true rfl, Nat.le_of_ble_eq_true rfl⟩) ⟨PZ_blind, PZ_pre hPc hKc hDc hF hZ hS hFc⟩ rfl rfl hl.1 rfl (lv_room (Nat.le_of_ble_eq_true rfl)) dX9_feed_60 ⟨Nat.le_of_ble_eq_true rfl, Nat.le_of_ble_eq_true rfl⟩) hS (fun q _ h => hFc q h) hFc (fun u r_379 t H1 locs ht hvm hw hB hz1 hk1 hS => ?_)
          obtain ⟨hP1, hK1, hD1, hx_380, hx_381, hx_382⟩ := hB
          rw [ht] at hP1
          have hK1 := va_K.moved hvm.symm hK1
          rw [ht] at hx_380 hx_382
          have hEr_379 := any_moved hvm.symm hx_380
          have ner_379_lt : r_379 ≠ lt := by
            rcases hx_381 with h9 | ⟨k9, hk9, e9⟩
            · intro e9; have h8 := (hP 1 _ rfl).lt; rw [← e9] at h8; exact absurd h9 (Nat.not_le.mpr h8)
            · intro e8; obtain ⟨_, _, _, _, h7⟩ := hZ.2.2.2.2.2.1 k9 hk9; exact h7 (by rw [← e9, e8]; exact hD.2 1 _ rfl)
          have ner_379_g1_314 : r_379 ≠ g1_314 := by
            rcases hx_381 with h9 | ⟨k9, hk9, e9⟩
            · intro e9; have h8 := (hP 2 _ rfl).lt; rw [← e9] at h8; exact absurd h9 (Nat.not_le.mpr h8)
            · intro e8; obtain ⟨_, _, _, _, h7⟩ := hZ.2.2.2.2.2.1 k9 hk9; exact h7 (by rw [← e9, e8]; exact hD.2 2 _ rfl)
          obtain ⟨hP, hD⟩ := va_join (wr := [(mx, .inr (14, [.ref lc, .ref lr, .ref kn, .ref lt, .ref ml, .ref mm, .ref lp, .ref lb, .ref mq, .int 1, .int 10, .int 0, .int 0])), (lt, .inr (4, [.int hm_374, .ref g1_314, .int 7])), (g1_314, .inl (kO_315, 10, .inr (.inr (.inr (.inr fb_375)))))]) (w1 := []) hP hD [] [0, 1, 2] rfl rfl (by decide) (by decide) hk1 hFc hP1 hD1
          have hK := hK.app hK1
          generalize H1 = H at hP hS hEr_379 hx_382 ⊢
          have hP : va_P (dC, dI) vwCl [(mx, .inr (14, [.ref lc, .ref lr, .ref kn, .ref lt, .ref ml, .ref mm, .ref lp, .ref lb, .ref mq, .int 1, .int 10, .int 0, .int 0])), (lt, .inr (4, [.int hm_374, .ref g1_314, .int 7])), (g1_314, .inl (kO_315, 10, .inr (.inr (.inr (.inr fb_375)))))] H := hP
          have hD : va_D A [(mx, .inr (14, [.ref lc, .ref lr, .ref kn, .ref lt, .ref ml, .ref mm, .ref lp, .ref lb, .ref mq, .int 1, .int 10, .int 0, .int 0])), (lt, .inr (4, [.int hm_374, .ref g1_314, .int 7])), (g1_314, .inl (kO_315, 10, .inr (.inr (.inr (.inr fb_375)))))] := hD
          have hK : va_K (dC, dI) vwCl [(kO_315, .object "java/lang/Object"), (kO_315, .object "java/lang/Object"), (kO_315, .object "java/lang/Object"), (kO_315, .object "java/lang/Object"), (kO_315, .object "java/lang/Object"), (kO_315, .object "java/lang/Object"), (kO_315, .object "java/lang/Object")] s := hK
          refine W.widen (k := 9) (n := 18) (Nat.le_of_ble_eq_true rfl) (Nat.le_of_ble_eq_true rfl) ?_
          have hPc := hP.sub (ws' := [(lt, .inr (4, [.int hm_374, .ref g1_314, .int 7])), (g1_314, .inl (kO_315, 10, .inr (.inr (.inr (.inr fb_375)))))]) [1, 2] rfl
          have hDc := hD.sub (ws' := [(lt, .inr (4, [.int hm_374, .ref g1_314, .int 7])), (g1_314, .inl (kO_315, 10, .inr (.inr (.inr (.inr fb_375)))))]) [1, 2] (by decide) rfl
          have hKc := hK.sub (tys' := [(kO_315, .object "java/lang/Object")]) [0] rfl
          have hFc := va_free (wc := [(lt, .inr (4, [.int hm_374, .ref g1_314, .int 7])), (g1_314, .inl (kO_315, 10, .inr (.inr (.inr (.inr fb_375)))))]) hD hS hA [1, 2] rfl
          refine va_callFi (va_runF (hK.1 4 _ rfl).2 (As := [.ref r_379]) (rest := []) ⟨hx, hb, hml, hown, hts⟩ (c_AL_addn l dC dI d tc ad lt hm_374 r_379 g1_314 7 kO_315 fb_375 H.size ner_379_lt hx_382 ner_379_g1_314 (by unfold vp_in; decide) (by decide)) (va_cwF 1 hts gX9_feed_Jx4a65c_add_9ea2d_f72Jx4a65c rfl rfl rfl (Ft.fw hF (RJx4a65c, ⟨"java/util/List", "add", "(Ljava/lang/Object;)Z"⟩, yJx4a65c_add_9ea2d) (by decide +kernel)) (by decide +kernel) ⟨Nat.le_of_ble_eq_true rfl, Nat.le_of_ble_eq_true rfl⟩) ⟨PE_blind, va_recv hK hP (ci := 4) (q0 := 1) rfl rfl, PE_pre hPc hKc hDc hF hZ hS hFc hEr_379⟩ rfl rfl hl.1 rfl (lv_room (Nat.le_of_ble_eq_true rfl)) dX9_feed_63 ⟨Nat.le_of_ble_eq_true rfl, Nat.le_of_ble_eq_true rfl⟩) hS (fun q _ h => hFc q h) hFc (fun r_383 u t H1 locs ht hvm hw hB hz1 hk1 hS => ?_)
          obtain ⟨hm_384, fb_385, hP1, hK1, hD1⟩ := hB
          rw [ht] at hP1
          have hK1 := va_K.moved hvm.symm hK1
          obtain ⟨hP, hD⟩ := va_join (wr := [(mx, .inr (14, [.ref lc, .ref lr, .ref kn, .ref lt, .ref ml, .ref mm, .ref lp, .ref lb, .ref mq, .int 1, .int 10, .int 0, .int 0]))]) (w1 := [(lt, .inr (4, [.int hm_384, .ref g1_314, .int (7 + 1)])), (g1_314, .inl (kO_315, 10, .inr (.inr (.inr (.inr fb_385)))))]) hP hD [1, 2] [0] rfl rfl (by decide) (by decide) hk1 hFc hP1 hD1
          have hK := hK.app hK1
          generalize H1 = H at hP hS ⊢
          have hP : va_P (dC, dI) vwCl [(mx, .inr (14, [.ref lc, .ref lr, .ref kn, .ref lt, .ref ml, .ref mm, .ref lp, .ref lb, .ref mq, .int 1, .int 10, .int 0, .int 0])), (lt, .inr (4, [.int hm_384, .ref g1_314, .int (7 + 1)])), (g1_314, .inl (kO_315, 10, .inr (.inr (.inr (.inr fb_385)))))] H := hP
          have hD : va_D A [(mx, .inr (14, [.ref lc, .ref lr, .ref kn, .ref lt, .ref ml, .ref mm, .ref lp, .ref lb, .ref mq, .int 1, .int 10, .int 0, .int 0])), (lt, .inr (4, [.int hm_384, .ref g1_314, .int (7 + 1)])), (g1_314, .inl (kO_315, 10, .inr (.inr (.inr (.inr fb_385)))))] := hD
          have hK : va_K (dC, dI) vwCl [(kO_315, .object "java/lang/Object"), (kO_315, .object "java/lang/Object"), (kO_315, .object "java/lang/Object"), (kO_315, .object "java/lang/Object"), (kO_315, .object "java/lang/Object"), (kO_315, .object "java/lang/Object"), (kO_315, .object "java/lang/Object"), (kO_315, .object "java/lang/Object")] s := hK
          refine W.widen (k := 9) (n := 18) (Nat.le_of_ble_eq_true rfl) (Nat.le_of_ble_eq_true rfl) ?_
          obtain rfl := hw
          have ez_386 : (7 + 1 : Int32) = 8 := by decide
          rw [ez_386] at hP hD
          have hP : va_P (dC, dI) vwCl [(mx, .inr (14, [.ref lc, .ref lr, .ref kn, .ref lt, .ref ml, .ref mm, .ref lp, .ref lb, .ref mq, .int 1, .int 10, .int 0, .int 0])), (lt, .inr (4, [.int hm_384, .ref g1_314, .int 8])), (g1_314, .inl (kO_315, 10, .inr (.inr (.inr (.inr fb_385)))))] H := hP
          have hD : va_D A [(mx, .inr (14, [.ref lc, .ref lr, .ref kn, .ref lt, .ref ml, .ref mm, .ref lp, .ref lb, .ref mq, .int 1, .int 10, .int 0, .int 0])), (lt, .inr (4, [.int hm_384, .ref g1_314, .int 8])), (g1_314, .inl (kO_315, 10, .inr (.inr (.inr (.inr fb_385)))))] := hD
          refine lv_pop hx hb dX9_feed_68 rfl ?_
          refine lv_iinc (v := (-1)) (lv' := [(4, .int (-1)), (0, .ref mx), (1, .long c1), (3, .int 8)]) hx hb dX9_feed_69 hl (k := 0) rfl (by decide) (by decide) rfl (fun ls hl => ?_)
          refine lv_goto (tgt := 39) hx hb dX9_feed_72 (by decide) ?_
          refine lv_iload hx hb dX9_feed_39 (lv_at hl 0 rfl) ?_
          refine lv_if_lt (tgt := 75) hx hb dX9_feed_41 (by decide) (fun _ => ?_) (fun c_387 => absurd (by decide) c_387)
          refine lv_aload_n hx hb dX9_feed_75 rfl (lv_at hl 1 rfl) ?_
          refine va_get (D := (dC, dI)) (ci := 14) (v := .ref lt) (C := RX9) (T := TX9) (N := 13) hx hb hts (fun _ h9 => List.mem_cons_of_mem _ (List.mem_append_left _ (List.mem_append_left _ (List.mem_append_left _ (List.mem_append_right _ (h9)))))) hown hK hP 0 rfl rfl 3 (by decide) (hts (.fieldLink RX9 24 "ExamHallsModel" "tape" "Ljava/util/List;") (List.mem_of_getElem? (i := 1) rfl)) (fun _ h9 => h9) rfl dX9_feed_76 ?_
          refine va_csFi (va_runF (hK.1 4 _ rfl).2 (As := []) (rest := []) ⟨hx, hb, hml, hown, hts⟩ (c_AL_size l dC dI lt hm_384 g1_314 8) (va_cwF 0 hts gX9_feed_Jx4a65c_size_8abf5_f56Jx4a65c rfl rfl rfl (Ft.fw hF (RJx4a65c, ⟨"java/util/List", "size", "()I"⟩, yJx4a65c_size_8abf5) (by decide +kernel)) (by decide +kernel) ⟨Nat.le_of_ble_eq_true rfl, Nat.le_of_ble_eq_true rfl⟩) ⟨PS_blind, va_recv hK hP (ci := 4) (q0 := 1) rfl rfl, PS_pre (hP.sub (ws' := [(lt, .inr (4, [.int hm_384, .ref g1_314, .int 8]))]) [1] rfl) (hK.sub (tys' := []) [] rfl) hF⟩ rfl rfl hl.1 rfl (lv_room (Nat.le_of_ble_eq_true rfl)) dX9_feed_79 ⟨Nat.le_of_ble_eq_true rfl, Nat.le_of_ble_eq_true rfl⟩) (fun r_388 hr_388 => ?_)
          subst hr_388
          exact W.iret (v := 8) hx hb hr (fun t ht hW => ⟨⟨_, (), rfl, (by decide), trivial⟩, hS.F ht⟩) hS.2.2 dX9_feed_84
      · skip
        refine lv_bipush (v := (-4)) hx hb dX9_feed_31 (by decide) ?_
        refine W.widen (k := 9) (n := 18) (Nat.le_of_ble_eq_true rfl) (Nat.le_of_ble_eq_true rfl) ?_
        exact W.iret (v := (-4)) hx hb hr (fun t ht hW => ⟨⟨_, (), rfl, (by simp only [sp_M_feed, if_neg c_1, if_pos c_2, if_neg c_4]), trivial⟩, hS.F ht⟩) hS.2.2 dX9_feed_33
    · skip
      refine lv_bipush (v := (-2)) hx hb dX9_feed_11 (by decide) ?_
      refine W.widen (k := 9) (n := 18) (Nat.le_of_ble_eq_true rfl) (Nat.le_of_ble_eq_true rfl) ?_
      exact W.iret (v := (-2)) hx hb hr (fun t ht hW => ⟨⟨_, (), rfl, (by simp only [sp_M_feed, if_neg c_1, if_neg c_2]), trivial⟩, hS.F ht⟩) hS.2.2 dX9_feed_13
