set_option maxRecDepth 20000 in
theorem ggX9_isCandidate_Jx4a65c_size_8abf5 : GoodIn wsX9_isCandidate wsJx4a65c_size_8abf5 := goodIn_r _ [20, 21, 40, 41, 42] (by decide +kernel) (by decide +kernel)
set_option maxRecDepth 20000 in
theorem gX9_isCandidate_Jx4a65c_size_8abf5_f56Jx4a65c : GoodIn wsX9_isCandidate (va_wsF RX9 56 RJx4a65c ⟨"java/util/List", "size", "()I"⟩ yJx4a65c_size_8abf5 wsJx4a65c_size_8abf5) := goodIn_app (goodIn_of _ (by decide +kernel)) ggX9_isCandidate_Jx4a65c_size_8abf5
theorem dX9_isCandidate_0 : decode cX9_isCandidate 0 = .ok (.iconst 0, 1) := by decide +kernel
theorem dX9_isCandidate_1 : decode cX9_isCandidate 1 = .ok (.iload_n 1, 1) := by decide +kernel
theorem dX9_isCandidate_2 : decode cX9_isCandidate 2 = .ok (.if_icmp .gt 20, 3) := by decide +kernel
theorem dX9_isCandidate_5 : decode cX9_isCandidate 5 = .ok (.iload_n 1, 1) := by decide +kernel
theorem dX9_isCandidate_6 : decode cX9_isCandidate 6 = .ok (.aload_n 0, 1) := by decide +kernel
theorem dX9_isCandidate_7 : decode cX9_isCandidate 7 = .ok (.getfield 10, 3) := by decide +kernel
theorem dX9_isCandidate_10 : decode cX9_isCandidate 10 = .ok (.invokeinterface 56 1, 5) := by decide +kernel
theorem dX9_isCandidate_15 : decode cX9_isCandidate 15 = .ok (.if_icmp .ge 7, 3) := by decide +kernel
theorem dX9_isCandidate_22 : decode cX9_isCandidate 22 = .ok (.iconst 0, 1) := by decide +kernel
theorem dX9_isCandidate_23 : decode cX9_isCandidate 23 = .ok (.ireturn, 1) := by decide +kernel
set_option maxRecDepth 20000 in
theorem ggX9_isReader_Jx4a65c_size_8abf5 : GoodIn wsX9_isReader wsJx4a65c_size_8abf5 := goodIn_r _ [20, 21, 40, 41, 42] (by decide +kernel) (by decide +kernel)
set_option maxRecDepth 20000 in
theorem gX9_isReader_Jx4a65c_size_8abf5_f56Jx4a65c : GoodIn wsX9_isReader (va_wsF RX9 56 RJx4a65c ⟨"java/util/List", "size", "()I"⟩ yJx4a65c_size_8abf5 wsJx4a65c_size_8abf5) := goodIn_app (goodIn_of _ (by decide +kernel)) ggX9_isReader_Jx4a65c_size_8abf5
theorem dX9_isReader_0 : decode cX9_isReader 0 = .ok (.iconst 0, 1) := by decide +kernel
theorem dX9_isReader_1 : decode cX9_isReader 1 = .ok (.iload_n 1, 1) := by decide +kernel
theorem dX9_isReader_2 : decode cX9_isReader 2 = .ok (.if_icmp .gt 20, 3) := by decide +kernel
theorem dX9_isReader_5 : decode cX9_isReader 5 = .ok (.iload_n 1, 1) := by decide +kernel
theorem dX9_isReader_6 : decode cX9_isReader 6 = .ok (.aload_n 0, 1) := by decide +kernel
theorem dX9_isReader_7 : decode cX9_isReader 7 = .ok (.getfield 16, 3) := by decide +kernel
theorem dX9_isReader_10 : decode cX9_isReader 10 = .ok (.invokeinterface 56 1, 5) := by decide +kernel
theorem dX9_isReader_15 : decode cX9_isReader 15 = .ok (.if_icmp .ge 7, 3) := by decide +kernel
theorem dX9_isReader_22 : decode cX9_isReader 22 = .ok (.iconst 0, 1) := by decide +kernel
theorem dX9_isReader_23 : decode cX9_isReader 23 = .ok (.ireturn, 1) := by decide +kernel
theorem dX9_isProvince_0 : decode cX9_isProvince 0 = .ok (.iconst 0, 1) := by decide +kernel
theorem dX9_isProvince_1 : decode cX9_isProvince 1 = .ok (.iload_n 0, 1) := by decide +kernel
theorem dX9_isProvince_2 : decode cX9_isProvince 2 = .ok (.if_icmp .gt 12, 3) := by decide +kernel
theorem dX9_isProvince_5 : decode cX9_isProvince 5 = .ok (.iload_n 0, 1) := by decide +kernel
theorem dX9_isProvince_6 : decode cX9_isProvince 6 = .ok (.iconst 3, 1) := by decide +kernel
theorem dX9_isProvince_7 : decode cX9_isProvince 7 = .ok (.if_icmp .gt 7, 3) := by decide +kernel
theorem dX9_isProvince_10 : decode cX9_isProvince 10 = .ok (.iconst 1, 1) := by decide +kernel
theorem dX9_isProvince_11 : decode cX9_isProvince 11 = .ok (.goto 4, 3) := by decide +kernel
theorem dX9_isProvince_14 : decode cX9_isProvince 14 = .ok (.iconst 0, 1) := by decide +kernel
theorem dX9_isProvince_15 : decode cX9_isProvince 15 = .ok (.ireturn, 1) := by decide +kernel
theorem dX9_isLeg_0 : decode cX9_isLeg 0 = .ok (.iconst 0, 1) := by decide +kernel
theorem dX9_isLeg_1 : decode cX9_isLeg 1 = .ok (.iload_n 0, 1) := by decide +kernel
theorem dX9_isLeg_2 : decode cX9_isLeg 2 = .ok (.if_icmp .gt 13, 3) := by decide +kernel
theorem dX9_isLeg_5 : decode cX9_isLeg 5 = .ok (.iload_n 0, 1) := by decide +kernel
theorem dX9_isLeg_6 : decode cX9_isLeg 6 = .ok (.bipush 7, 2) := by decide +kernel
theorem dX9_isLeg_8 : decode cX9_isLeg 8 = .ok (.if_icmp .gt 7, 3) := by decide +kernel
theorem dX9_isLeg_11 : decode cX9_isLeg 11 = .ok (.iconst 1, 1) := by decide +kernel
theorem dX9_isLeg_12 : decode cX9_isLeg 12 = .ok (.goto 4, 3) := by decide +kernel
theorem dX9_isLeg_15 : decode cX9_isLeg 15 = .ok (.iconst 0, 1) := by decide +kernel
theorem dX9_isLeg_16 : decode cX9_isLeg 16 = .ok (.ireturn, 1) := by decide +kernel
theorem dX9_letter_0 : decode cX9_letter 0 = .ok (.bipush 97, 2) := by decide +kernel
theorem dX9_letter_2 : decode cX9_letter 2 = .ok (.iload_n 0, 1) := by decide +kernel
theorem dX9_letter_3 : decode cX9_letter 3 = .ok (.if_icmp .gt 13, 3) := by decide +kernel
theorem dX9_letter_6 : decode cX9_letter 6 = .ok (.iload_n 0, 1) := by decide +kernel
theorem dX9_letter_7 : decode cX9_letter 7 = .ok (.bipush 122, 2) := by decide +kernel
theorem dX9_letter_9 : decode cX9_letter 9 = .ok (.if_icmp .gt 7, 3) := by decide +kernel
theorem dX9_letter_12 : decode cX9_letter 12 = .ok (.iconst 1, 1) := by decide +kernel
theorem dX9_letter_13 : decode cX9_letter 13 = .ok (.goto 4, 3) := by decide +kernel
theorem dX9_letter_16 : decode cX9_letter 16 = .ok (.iconst 0, 1) := by decide +kernel
theorem dX9_letter_17 : decode cX9_letter 17 = .ok (.ireturn, 1) := by decide +kernel
set_option maxRecDepth 20000 in
theorem ggX9_essay_X9_isCandidate : GoodIn wsX9_essay wsX9_isCandidate := goodIn_r _ [9, 2, 10, 11, 12, 13, 14, 15, 16, 17, 18, 19, 20, 21, 22, 23, 24, 25, 26, 27, 28, 29, 354, 355, 356, 357, 358, 359, 360, 361, 362, 363, 364, 365, 366, 374, 375, 376, 377, 378, 379, 380, 381] (by decide +kernel) (by decide +kernel)
set_option maxRecDepth 20000 in
theorem gX9_essay_X9_isCandidate : GoodIn wsX9_essay (wsV RX9 105 RX9 yX9_isCandidate wsX9_isCandidate) := goodIn_app (goodIn_of _ (by decide +kernel)) ggX9_essay_X9_isCandidate
theorem dX9_essay_0 : decode cX9_essay 0 = .ok (.aload_n 0, 1) := by decide +kernel
theorem dX9_essay_1 : decode cX9_essay 1 = .ok (.iload_n 1, 1) := by decide +kernel
theorem dX9_essay_2 : decode cX9_essay 2 = .ok (.invokevirtual 105, 3) := by decide +kernel
theorem dX9_essay_5 : decode cX9_essay 5 = .ok (.ifCond .ne 5, 3) := by decide +kernel
theorem dX9_essay_8 : decode cX9_essay 8 = .ok (.iconst (-1), 1) := by decide +kernel
theorem dX9_essay_9 : decode cX9_essay 9 = .ok (.ireturn, 1) := by decide +kernel
set_option maxRecDepth 20000 in
theorem ggX9_essayOf_X9_isCandidate : GoodIn wsX9_essayOf wsX9_isCandidate := goodIn_r _ [8, 1, 9, 10, 11, 12, 13, 14, 15, 16, 17, 18, 19, 20, 21, 22, 23, 24, 25, 26, 27, 28, 52, 53, 54, 55, 56, 57, 58, 59, 60, 61, 62, 63, 64, 72, 73, 74, 75, 76, 77, 78, 79] (by decide +kernel) (by decide +kernel)
set_option maxRecDepth 20000 in
theorem gX9_essayOf_X9_isCandidate : GoodIn wsX9_essayOf (wsV RX9 105 RX9 yX9_isCandidate wsX9_isCandidate) := goodIn_app (goodIn_of _ (by decide +kernel)) ggX9_essayOf_X9_isCandidate
theorem dX9_essayOf_0 : decode cX9_essayOf 0 = .ok (.aload_n 0, 1) := by decide +kernel
theorem dX9_essayOf_1 : decode cX9_essayOf 1 = .ok (.iload_n 1, 1) := by decide +kernel
theorem dX9_essayOf_2 : decode cX9_essayOf 2 = .ok (.invokevirtual 105, 3) := by decide +kernel
theorem dX9_essayOf_5 : decode cX9_essayOf 5 = .ok (.ifCond .eq 22, 3) := by decide +kernel
theorem dX9_essayOf_27 : decode cX9_essayOf 27 = .ok (.aconst_null, 1) := by decide +kernel
theorem dX9_essayOf_28 : decode cX9_essayOf 28 = .ok (.areturn, 1) := by decide +kernel
set_option maxRecDepth 20000 in
theorem ggX9_legs_X9_essayOf : GoodIn wsX9_legs wsX9_essayOf := goodIn_r _ [6, 7, 8, 9, 10, 11, 12, 5, 13, 14, 15, 16, 17, 18, 19, 20, 21, 22, 23, 24, 25, 26, 27, 28, 29, 30, 31, 32, 33, 34, 35, 36, 37, 38, 39, 40, 41, 42, 43, 44, 45, 46, 47, 48, 49, 50, 51, 52, 53, 54, 55, 56, 60, 61, 62, 63, 64, 65, 66, 67, 68, 69, 70, 71, 72, 73, 74, 75, 76, 77, 78, 79, 80, 81, 82, 83, 84, 85, 86, 87] (by decide +kernel) (by decide +kernel)
set_option maxRecDepth 20000 in
theorem gX9_legs_X9_essayOf : GoodIn wsX9_legs (wsV RX9 125 RX9 yX9_essayOf wsX9_essayOf) := goodIn_app (goodIn_of _ (by decide +kernel)) ggX9_legs_X9_essayOf
theorem dX9_legs_0 : decode cX9_legs 0 = .ok (.aload_n 0, 1) := by decide +kernel
theorem dX9_legs_1 : decode cX9_legs 1 = .ok (.iload_n 1, 1) := by decide +kernel
theorem dX9_legs_2 : decode cX9_legs 2 = .ok (.invokevirtual 125, 3) := by decide +kernel
theorem dX9_legs_5 : decode cX9_legs 5 = .ok (.astore_n 3, 1) := by decide +kernel
theorem dX9_legs_6 : decode cX9_legs 6 = .ok (.aload_n 3, 1) := by decide +kernel
theorem dX9_legs_7 : decode cX9_legs 7 = .ok (.ifnull 7, 3) := by decide +kernel
theorem dX9_legs_14 : decode cX9_legs 14 = .ok (.iconst (-1), 1) := by decide +kernel
theorem dX9_legs_15 : decode cX9_legs 15 = .ok (.ireturn, 1) := by decide +kernel
set_option maxRecDepth 20000 in
theorem ggX9_word_X9_essayOf : GoodIn wsX9_word wsX9_essayOf := goodIn_r _ [7, 8, 9, 10, 11, 12, 13, 6, 14, 15, 16, 17, 18, 19, 20, 21, 22, 23, 24, 25, 26, 27, 28, 29, 30, 31, 32, 33, 34, 35, 36, 37, 38, 39, 40, 41, 42, 43, 44, 45, 46, 47, 48, 49, 50, 51, 52, 53, 54, 55, 56, 57, 108, 109, 110, 111, 112, 113, 114, 115, 116, 117, 118, 119, 120, 121, 122, 123, 124, 125, 126, 127, 128, 129, 130, 131, 132, 133, 134, 135] (by decide +kernel) (by decide +kernel)
set_option maxRecDepth 20000 in
theorem gX9_word_X9_essayOf : GoodIn wsX9_word (wsV RX9 125 RX9 yX9_essayOf wsX9_essayOf) := goodIn_app (goodIn_of _ (by decide +kernel)) ggX9_word_X9_essayOf
theorem dX9_word_0 : decode cX9_word 0 = .ok (.aload_n 0, 1) := by decide +kernel
theorem dX9_word_1 : decode cX9_word 1 = .ok (.iload_n 1, 1) := by decide +kernel
theorem dX9_word_2 : decode cX9_word 2 = .ok (.invokevirtual 125, 3) := by decide +kernel
theorem dX9_word_5 : decode cX9_word 5 = .ok (.astore 4, 2) := by decide +kernel
theorem dX9_word_7 : decode cX9_word 7 = .ok (.aload 4, 2) := by decide +kernel
theorem dX9_word_9 : decode cX9_word 9 = .ok (.ifnull 18, 3) := by decide +kernel
theorem dX9_word_27 : decode cX9_word 27 = .ok (.lconst 0, 1) := by decide +kernel
theorem dX9_word_28 : decode cX9_word 28 = .ok (.lreturn, 1) := by decide +kernel
set_option maxRecDepth 20000 in
theorem ggX9_judge_X9_essayOf : GoodIn wsX9_judge wsX9_essayOf := goodIn_r _ [5, 6, 7, 8, 9, 10, 11, 4, 12, 13, 14, 15, 16, 17, 18, 19, 20, 21, 22, 23, 24, 25, 26, 27, 28, 29, 30, 31, 32, 33, 34, 35, 36, 37, 38, 39, 40, 41, 42, 43, 44, 45, 46, 47, 48, 49, 50, 51, 52, 53, 54, 55, 96, 97, 98, 99, 100, 101, 102, 103, 104, 105, 106, 107, 108, 109, 110, 111, 112, 113, 114, 115, 116, 117, 118, 119, 120, 121, 122, 123] (by decide +kernel) (by decide +kernel)
set_option maxRecDepth 20000 in
theorem gX9_judge_X9_essayOf : GoodIn wsX9_judge (wsV RX9 125 RX9 yX9_essayOf wsX9_essayOf) := goodIn_app (goodIn_of _ (by decide +kernel)) ggX9_judge_X9_essayOf
theorem dX9_judge_0 : decode cX9_judge 0 = .ok (.aload_n 0, 1) := by decide +kernel
theorem dX9_judge_1 : decode cX9_judge 1 = .ok (.iload_n 1, 1) := by decide +kernel
theorem dX9_judge_2 : decode cX9_judge 2 = .ok (.invokevirtual 125, 3) := by decide +kernel
theorem dX9_judge_5 : decode cX9_judge 5 = .ok (.astore_n 2, 1) := by decide +kernel
theorem dX9_judge_6 : decode cX9_judge 6 = .ok (.aload_n 2, 1) := by decide +kernel
theorem dX9_judge_7 : decode cX9_judge 7 = .ok (.ifnonnull 7, 3) := by decide +kernel
theorem dX9_judge_10 : decode cX9_judge 10 = .ok (.iconst (-1), 1) := by decide +kernel
theorem dX9_judge_11 : decode cX9_judge 11 = .ok (.goto 8, 3) := by decide +kernel
theorem dX9_judge_19 : decode cX9_judge 19 = .ok (.ireturn, 1) := by decide +kernel
set_option maxRecDepth 20000 in
theorem ggX9_like_X9_essayOf : GoodIn wsX9_like wsX9_essayOf := goodIn_r _ [6, 7, 8, 9, 10, 11, 12, 5, 13, 14, 15, 16, 17, 18, 19, 20, 21, 22, 23, 24, 25, 26, 27, 28, 29, 30, 31, 32, 33, 34, 35, 36, 37, 38, 39, 40, 41, 42, 43, 44, 45, 46, 47, 48, 49, 50, 51, 52, 53, 54, 55, 56, 110, 111, 112, 113, 114, 115, 116, 117, 118, 119, 120, 121, 122, 123, 124, 125, 126, 127, 128, 129, 130, 131, 132, 133, 134, 135, 136, 137] (by decide +kernel) (by decide +kernel)
set_option maxRecDepth 20000 in
theorem gX9_like_X9_essayOf : GoodIn wsX9_like (wsV RX9 125 RX9 yX9_essayOf wsX9_essayOf) := goodIn_app (goodIn_of _ (by decide +kernel)) ggX9_like_X9_essayOf
theorem dX9_like_0 : decode cX9_like 0 = .ok (.aload_n 0, 1) := by decide +kernel
theorem dX9_like_1 : decode cX9_like 1 = .ok (.iload_n 1, 1) := by decide +kernel
theorem dX9_like_2 : decode cX9_like 2 = .ok (.invokevirtual 125, 3) := by decide +kernel
theorem dX9_like_5 : decode cX9_like 5 = .ok (.astore_n 3, 1) := by decide +kernel
theorem dX9_like_6 : decode cX9_like 6 = .ok (.aload_n 0, 1) := by decide +kernel
theorem dX9_like_7 : decode cX9_like 7 = .ok (.iload_n 2, 1) := by decide +kernel
theorem dX9_like_8 : decode cX9_like 8 = .ok (.invokevirtual 125, 3) := by decide +kernel
theorem dX9_like_11 : decode cX9_like 11 = .ok (.astore 4, 2) := by decide +kernel
theorem dX9_like_13 : decode cX9_like 13 = .ok (.aload_n 3, 1) := by decide +kernel
theorem dX9_like_14 : decode cX9_like 14 = .ok (.ifnull 8, 3) := by decide +kernel
theorem dX9_like_22 : decode cX9_like 22 = .ok (.iconst (-1), 1) := by decide +kernel
theorem dX9_like_23 : decode cX9_like 23 = .ok (.ireturn, 1) := by decide +kernel
set_option maxRecDepth 20000 in
theorem ggX9_number_X9_isCandidate : GoodIn wsX9_number wsX9_isCandidate := goodIn_r _ [8, 1, 9, 10, 11, 12, 13, 14, 15, 16, 17, 18, 19, 20, 21, 22, 23, 24, 25, 26, 27, 28, 52, 53, 54, 55, 56, 57, 58, 59, 60, 61, 62, 63, 64, 72, 73, 74, 75, 76, 77, 78, 79] (by decide +kernel) (by decide +kernel)
set_option maxRecDepth 20000 in
theorem gX9_number_X9_isCandidate : GoodIn wsX9_number (wsV RX9 105 RX9 yX9_isCandidate wsX9_isCandidate) := goodIn_app (goodIn_of _ (by decide +kernel)) ggX9_number_X9_isCandidate
theorem dX9_number_0 : decode cX9_number 0 = .ok (.aload_n 0, 1) := by decide +kernel
theorem dX9_number_1 : decode cX9_number 1 = .ok (.iload_n 1, 1) := by decide +kernel
theorem dX9_number_2 : decode cX9_number 2 = .ok (.invokevirtual 105, 3) := by decide +kernel
theorem dX9_number_5 : decode cX9_number 5 = .ok (.ifCond .ne 6, 3) := by decide +kernel
theorem dX9_number_8 : decode cX9_number 8 = .ok (.bipush (-5), 2) := by decide +kernel
theorem dX9_number_10 : decode cX9_number 10 = .ok (.ireturn, 1) := by decide +kernel
set_option maxRecDepth 20000 in
theorem ggX9_sees_X9_isCandidate : GoodIn wsX9_sees wsX9_isCandidate := goodIn_r _ [8, 1, 9, 10, 11, 12, 13, 14, 15, 16, 17, 18, 19, 20, 21, 22, 23, 24, 25, 26, 27, 28, 52, 53, 54, 55, 56, 57, 58, 59, 60, 61, 62, 63, 64, 72, 73, 74, 75, 76, 77, 78, 79] (by decide +kernel) (by decide +kernel)
set_option maxRecDepth 20000 in
theorem gX9_sees_X9_isCandidate : GoodIn wsX9_sees (wsV RX9 105 RX9 yX9_isCandidate wsX9_isCandidate) := goodIn_app (goodIn_of _ (by decide +kernel)) ggX9_sees_X9_isCandidate
theorem dX9_sees_0 : decode cX9_sees 0 = .ok (.iload_n 1, 1) := by decide +kernel
theorem dX9_sees_1 : decode cX9_sees 1 = .ok (.ifCond .lt 37, 3) := by decide +kernel
theorem dX9_sees_4 : decode cX9_sees 4 = .ok (.iload_n 1, 1) := by decide +kernel
theorem dX9_sees_5 : decode cX9_sees 5 = .ok (.bipush 7, 2) := by decide +kernel
theorem dX9_sees_7 : decode cX9_sees 7 = .ok (.if_icmp .gt 31, 3) := by decide +kernel
theorem dX9_sees_10 : decode cX9_sees 10 = .ok (.aload_n 0, 1) := by decide +kernel
theorem dX9_sees_11 : decode cX9_sees 11 = .ok (.iload_n 2, 1) := by decide +kernel
theorem dX9_sees_12 : decode cX9_sees 12 = .ok (.invokevirtual 105, 3) := by decide +kernel
theorem dX9_sees_15 : decode cX9_sees 15 = .ok (.ifCond .eq 23, 3) := by decide +kernel
theorem dX9_sees_38 : decode cX9_sees 38 = .ok (.iconst (-1), 1) := by decide +kernel
theorem dX9_sees_39 : decode cX9_sees 39 = .ok (.ireturn, 1) := by decide +kernel
set_option maxRecDepth 20000 in
theorem ggX9_openedBy_Jx4a65c_size_8abf5 : GoodIn wsX9_openedBy wsJx4a65c_size_8abf5 := goodIn_r _ [21, 22, 73, 74, 75] (by decide +kernel) (by decide +kernel)
set_option maxRecDepth 20000 in
theorem gX9_openedBy_Jx4a65c_size_8abf5_f56Jx4a65c : GoodIn wsX9_openedBy (va_wsF RX9 56 RJx4a65c ⟨"java/util/List", "size", "()I"⟩ yJx4a65c_size_8abf5 wsJx4a65c_size_8abf5) := goodIn_app (goodIn_of _ (by decide +kernel)) ggX9_openedBy_Jx4a65c_size_8abf5
theorem dX9_openedBy_0 : decode cX9_openedBy 0 = .ok (.iconst 0, 1) := by decide +kernel
theorem dX9_openedBy_1 : decode cX9_openedBy 1 = .ok (.istore_n 2, 1) := by decide +kernel
theorem dX9_openedBy_2 : decode cX9_openedBy 2 = .ok (.iconst 0, 1) := by decide +kernel
theorem dX9_openedBy_3 : decode cX9_openedBy 3 = .ok (.istore_n 3, 1) := by decide +kernel
theorem dX9_openedBy_4 : decode cX9_openedBy 4 = .ok (.iload_n 3, 1) := by decide +kernel
theorem dX9_openedBy_5 : decode cX9_openedBy 5 = .ok (.aload_n 0, 1) := by decide +kernel
theorem dX9_openedBy_6 : decode cX9_openedBy 6 = .ok (.getfield 10, 3) := by decide +kernel
theorem dX9_openedBy_9 : decode cX9_openedBy 9 = .ok (.invokeinterface 56 1, 5) := by decide +kernel
theorem dX9_openedBy_14 : decode cX9_openedBy 14 = .ok (.if_icmp .ge 32, 3) := by decide +kernel
theorem dX9_openedBy_46 : decode cX9_openedBy 46 = .ok (.iload_n 2, 1) := by decide +kernel
theorem dX9_openedBy_47 : decode cX9_openedBy 47 = .ok (.ireturn, 1) := by decide +kernel
set_option maxRecDepth 20000 in
theorem ggX9_opens_X9_openedBy : GoodIn wsX9_opens wsX9_openedBy := goodIn_r _ [5, 6, 7, 8, 9, 10, 11, 12, 13, 14, 15, 16, 17, 18, 19, 20, 21, 22, 23, 24, 25, 26, 27, 28, 29, 30, 31, 32, 33, 34, 35, 36, 37, 38, 39, 40, 41, 42, 43, 44, 45, 46, 47, 48, 49, 50, 51, 52, 4, 53, 54, 55, 56, 57, 58, 59, 60, 61, 62, 63, 64, 65, 66, 67, 68, 69, 70, 71, 72, 73, 74, 75, 76, 77, 78, 79, 80, 81, 82, 83, 84, 85, 86] (by decide +kernel) (by decide +kernel)
set_option maxRecDepth 20000 in
theorem gX9_opens_X9_openedBy : GoodIn wsX9_opens (wsV RX9 201 RX9 yX9_openedBy wsX9_openedBy) := goodIn_app (goodIn_of _ (by decide +kernel)) ggX9_opens_X9_openedBy
theorem dX9_opens_0 : decode cX9_opens 0 = .ok (.iload_n 1, 1) := by decide +kernel
theorem dX9_opens_1 : decode cX9_opens 1 = .ok (.ifCond .lt 10, 3) := by decide +kernel
theorem dX9_opens_4 : decode cX9_opens 4 = .ok (.iload_n 1, 1) := by decide +kernel
theorem dX9_opens_5 : decode cX9_opens 5 = .ok (.sipush 255, 3) := by decide +kernel
theorem dX9_opens_8 : decode cX9_opens 8 = .ok (.if_icmp .le 8, 3) := by decide +kernel
theorem dX9_opens_11 : decode cX9_opens 11 = .ok (.bipush (-2), 2) := by decide +kernel
theorem dX9_opens_13 : decode cX9_opens 13 = .ok (.goto 8, 3) := by decide +kernel
theorem dX9_opens_16 : decode cX9_opens 16 = .ok (.aload_n 0, 1) := by decide +kernel
theorem dX9_opens_17 : decode cX9_opens 17 = .ok (.iload_n 1, 1) := by decide +kernel
theorem dX9_opens_18 : decode cX9_opens 18 = .ok (.invokevirtual 201, 3) := by decide +kernel
theorem dX9_opens_21 : decode cX9_opens 21 = .ok (.ireturn, 1) := by decide +kernel
set_option maxRecDepth 20000 in
theorem ggX9_fewest_X9_openedBy : GoodIn wsX9_fewest wsX9_openedBy := goodIn_r _ [5, 6, 7, 8, 9, 10, 11, 12, 13, 14, 15, 16, 17, 18, 19, 20, 21, 22, 23, 24, 25, 26, 27, 28, 29, 30, 31, 32, 33, 34, 35, 36, 37, 38, 39, 40, 41, 42, 43, 44, 45, 46, 47, 48, 49, 50, 51, 52, 4, 53, 54, 55, 56, 57, 58, 66, 67, 68, 69, 70, 71, 72, 73, 74, 75, 76, 77, 78, 79, 80, 81, 82, 83, 84, 85, 86, 87, 88, 89, 90, 91, 92, 93] (by decide +kernel) (by decide +kernel)
set_option maxRecDepth 20000 in
theorem gX9_fewest_X9_openedBy : GoodIn wsX9_fewest (wsV RX9 201 RX9 yX9_openedBy wsX9_openedBy) := goodIn_app (goodIn_of _ (by decide +kernel)) ggX9_fewest_X9_openedBy
theorem dX9_fewest_0 : decode cX9_fewest 0 = .ok (.iconst 0, 1) := by decide +kernel
theorem dX9_fewest_1 : decode cX9_fewest 1 = .ok (.istore_n 1, 1) := by decide +kernel
theorem dX9_fewest_2 : decode cX9_fewest 2 = .ok (.iconst 1, 1) := by decide +kernel
theorem dX9_fewest_3 : decode cX9_fewest 3 = .ok (.istore_n 2, 1) := by decide +kernel
theorem dX9_fewest_4 : decode cX9_fewest 4 = .ok (.iload_n 2, 1) := by decide +kernel
theorem dX9_fewest_5 : decode cX9_fewest 5 = .ok (.sipush 255, 3) := by decide +kernel
theorem dX9_fewest_8 : decode cX9_fewest 8 = .ok (.if_icmp .gt 37, 3) := by decide +kernel
theorem dX9_fewest_11 : decode cX9_fewest 11 = .ok (.aload_n 0, 1) := by decide +kernel
theorem dX9_fewest_12 : decode cX9_fewest 12 = .ok (.iload_n 2, 1) := by decide +kernel
theorem dX9_fewest_13 : decode cX9_fewest 13 = .ok (.invokevirtual 201, 3) := by decide +kernel
theorem dX9_fewest_16 : decode cX9_fewest 16 = .ok (.ifCond .ne 6, 3) := by decide +kernel
theorem dX9_fewest_19 : decode cX9_fewest 19 = .ok (.goto 20, 3) := by decide +kernel
theorem dX9_fewest_39 : decode cX9_fewest 39 = .ok (.iinc 2 1, 3) := by decide +kernel
theorem dX9_fewest_42 : decode cX9_fewest 42 = .ok (.goto (-38), 3) := by decide +kernel
theorem dX9_fewest_45 : decode cX9_fewest 45 = .ok (.iload_n 1, 1) := by decide +kernel
theorem dX9_fewest_46 : decode cX9_fewest 46 = .ok (.ireturn, 1) := by decide +kernel
set_option maxRecDepth 20000 in
theorem ggX9_ofNumber_Jx4a65c_size_8abf5 : GoodIn wsX9_ofNumber wsJx4a65c_size_8abf5 := goodIn_r _ [22, 23, 72, 73, 74] (by decide +kernel) (by decide +kernel)
set_option maxRecDepth 20000 in
theorem gX9_ofNumber_Jx4a65c_size_8abf5_f56Jx4a65c : GoodIn wsX9_ofNumber (va_wsF RX9 56 RJx4a65c ⟨"java/util/List", "size", "()I"⟩ yJx4a65c_size_8abf5 wsJx4a65c_size_8abf5) := goodIn_app (goodIn_of _ (by decide +kernel)) ggX9_ofNumber_Jx4a65c_size_8abf5
theorem dX9_ofNumber_0 : decode cX9_ofNumber 0 = .ok (.iconst 0, 1) := by decide +kernel
theorem dX9_ofNumber_1 : decode cX9_ofNumber 1 = .ok (.istore_n 2, 1) := by decide +kernel
theorem dX9_ofNumber_2 : decode cX9_ofNumber 2 = .ok (.iload_n 2, 1) := by decide +kernel
theorem dX9_ofNumber_3 : decode cX9_ofNumber 3 = .ok (.aload_n 0, 1) := by decide +kernel
theorem dX9_ofNumber_4 : decode cX9_ofNumber 4 = .ok (.getfield 10, 3) := by decide +kernel
theorem dX9_ofNumber_7 : decode cX9_ofNumber 7 = .ok (.invokeinterface 56 1, 5) := by decide +kernel
theorem dX9_ofNumber_12 : decode cX9_ofNumber 12 = .ok (.if_icmp .ge 43, 3) := by decide +kernel
theorem dX9_ofNumber_55 : decode cX9_ofNumber 55 = .ok (.aconst_null, 1) := by decide +kernel
theorem dX9_ofNumber_56 : decode cX9_ofNumber 56 = .ok (.areturn, 1) := by decide +kernel
set_option maxRecDepth 20000 in
theorem ggX9_share_X9_ofNumber : GoodIn wsX9_share wsX9_ofNumber := goodIn_r _ [7, 8, 9, 10, 11, 12, 13, 14, 15, 16, 17, 18, 19, 20, 21, 22, 23, 24, 25, 26, 27, 28, 29, 30, 31, 32, 33, 34, 35, 36, 37, 38, 39, 40, 41, 42, 43, 44, 45, 46, 47, 48, 49, 50, 51, 52, 53, 173, 174, 175, 176, 177, 178, 179, 180, 181, 182, 183, 184, 185, 166, 167, 168, 169, 170, 171, 172, 186, 187, 188, 189, 190, 191, 192, 193] (by decide +kernel) (by decide +kernel)
set_option maxRecDepth 20000 in
theorem gX9_share_X9_ofNumber : GoodIn wsX9_share (wsV RX9 230 RX9 yX9_ofNumber wsX9_ofNumber) := goodIn_app (goodIn_of _ (by decide +kernel)) ggX9_share_X9_ofNumber
theorem dX9_share_0 : decode cX9_share 0 = .ok (.iconst 0, 1) := by decide +kernel
theorem dX9_share_1 : decode cX9_share 1 = .ok (.istore_n 1, 1) := by decide +kernel
theorem dX9_share_2 : decode cX9_share 2 = .ok (.iconst 0, 1) := by decide +kernel
theorem dX9_share_3 : decode cX9_share 3 = .ok (.istore_n 2, 1) := by decide +kernel
theorem dX9_share_4 : decode cX9_share 4 = .ok (.iload_n 2, 1) := by decide +kernel
theorem dX9_share_5 : decode cX9_share 5 = .ok (.bipush 99, 2) := by decide +kernel
theorem dX9_share_7 : decode cX9_share 7 = .ok (.if_icmp .gt 56, 3) := by decide +kernel
theorem dX9_share_10 : decode cX9_share 10 = .ok (.aload_n 0, 1) := by decide +kernel
theorem dX9_share_11 : decode cX9_share 11 = .ok (.iload_n 2, 1) := by decide +kernel
theorem dX9_share_12 : decode cX9_share 12 = .ok (.invokevirtual 230, 3) := by decide +kernel
theorem dX9_share_15 : decode cX9_share 15 = .ok (.astore_n 3, 1) := by decide +kernel
theorem dX9_share_16 : decode cX9_share 16 = .ok (.aload_n 3, 1) := by decide +kernel
theorem dX9_share_17 : decode cX9_share 17 = .ok (.ifnull 40, 3) := by decide +kernel
theorem dX9_share_57 : decode cX9_share 57 = .ok (.iinc 2 1, 3) := by decide +kernel
theorem dX9_share_60 : decode cX9_share 60 = .ok (.goto (-56), 3) := by decide +kernel
theorem dX9_share_63 : decode cX9_share 63 = .ok (.iload_n 1, 1) := by decide +kernel
theorem dX9_share_64 : decode cX9_share 64 = .ok (.ireturn, 1) := by decide +kernel
set_option maxRecDepth 20000 in
theorem ggX9_again_X9_ofNumber : GoodIn wsX9_again wsX9_ofNumber := goodIn_r _ [6, 7, 8, 9, 10, 11, 12, 13, 14, 15, 16, 17, 18, 19, 20, 21, 22, 23, 24, 25, 26, 27, 28, 29, 30, 31, 32, 33, 34, 35, 36, 37, 38, 39, 40, 41, 42, 43, 44, 45, 46, 47, 48, 49, 50, 51, 52, 186, 187, 188, 189, 190, 191, 192, 193, 194, 195, 196, 197, 198, 179, 180, 181, 182, 183, 184, 185, 199, 200, 201, 202, 203, 204, 205, 206] (by decide +kernel) (by decide +kernel)
set_option maxRecDepth 20000 in
theorem gX9_again_X9_ofNumber : GoodIn wsX9_again (wsV RX9 230 RX9 yX9_ofNumber wsX9_ofNumber) := goodIn_app (goodIn_of _ (by decide +kernel)) ggX9_again_X9_ofNumber
theorem dX9_again_0 : decode cX9_again 0 = .ok (.iconst 0, 1) := by decide +kernel
theorem dX9_again_1 : decode cX9_again 1 = .ok (.istore_n 1, 1) := by decide +kernel
theorem dX9_again_2 : decode cX9_again 2 = .ok (.iconst 0, 1) := by decide +kernel
theorem dX9_again_3 : decode cX9_again 3 = .ok (.istore_n 2, 1) := by decide +kernel
theorem dX9_again_4 : decode cX9_again 4 = .ok (.iload_n 2, 1) := by decide +kernel
theorem dX9_again_5 : decode cX9_again 5 = .ok (.bipush 99, 2) := by decide +kernel
theorem dX9_again_7 : decode cX9_again 7 = .ok (.if_icmp .gt 45, 3) := by decide +kernel
theorem dX9_again_10 : decode cX9_again 10 = .ok (.aload_n 0, 1) := by decide +kernel
theorem dX9_again_11 : decode cX9_again 11 = .ok (.iload_n 2, 1) := by decide +kernel
theorem dX9_again_12 : decode cX9_again 12 = .ok (.invokevirtual 230, 3) := by decide +kernel
theorem dX9_again_15 : decode cX9_again 15 = .ok (.astore_n 3, 1) := by decide +kernel
theorem dX9_again_16 : decode cX9_again 16 = .ok (.aload_n 3, 1) := by decide +kernel
theorem dX9_again_17 : decode cX9_again 17 = .ok (.ifnull 29, 3) := by decide +kernel
theorem dX9_again_46 : decode cX9_again 46 = .ok (.iinc 2 1, 3) := by decide +kernel
theorem dX9_again_49 : decode cX9_again 49 = .ok (.goto (-45), 3) := by decide +kernel
theorem dX9_again_52 : decode cX9_again 52 = .ok (.iload_n 1, 1) := by decide +kernel
theorem dX9_again_53 : decode cX9_again 53 = .ok (.ireturn, 1) := by decide +kernel
set_option maxRecDepth 20000 in
theorem ggX9_reading_X9_isCandidate : GoodIn wsX9_reading wsX9_isCandidate := goodIn_r _ [11, 1, 12, 13, 14, 15, 16, 17, 18, 19, 20, 21, 22, 23, 24, 25, 26, 27, 28, 29, 30, 31, 55, 56, 57, 58, 59, 60, 61, 62, 63, 64, 65, 66, 67, 77, 78, 79, 80, 81, 82, 83, 84] (by decide +kernel) (by decide +kernel)
set_option maxRecDepth 20000 in
theorem gX9_reading_X9_isCandidate : GoodIn wsX9_reading (wsV RX9 105 RX9 yX9_isCandidate wsX9_isCandidate) := goodIn_app (goodIn_of _ (by decide +kernel)) ggX9_reading_X9_isCandidate
theorem dX9_reading_0 : decode cX9_reading 0 = .ok (.aload_n 0, 1) := by decide +kernel
theorem dX9_reading_1 : decode cX9_reading 1 = .ok (.iload_n 1, 1) := by decide +kernel
theorem dX9_reading_2 : decode cX9_reading 2 = .ok (.invokevirtual 105, 3) := by decide +kernel
theorem dX9_reading_5 : decode cX9_reading 5 = .ok (.ifCond .ne 5, 3) := by decide +kernel
theorem dX9_reading_8 : decode cX9_reading 8 = .ok (.iconst (-1), 1) := by decide +kernel
theorem dX9_reading_9 : decode cX9_reading 9 = .ok (.ireturn, 1) := by decide +kernel
set_option maxRecDepth 20000 in
theorem ggX9_mark_X9_isCandidate : GoodIn wsX9_mark wsX9_isCandidate := goodIn_r _ [11, 1, 12, 13, 14, 15, 16, 17, 18, 19, 20, 21, 22, 23, 24, 25, 26, 27, 28, 29, 30, 31, 60, 61, 62, 63, 64, 65, 66, 67, 68, 69, 70, 71, 72, 82, 83, 84, 85, 86, 87, 88, 89] (by decide +kernel) (by decide +kernel)
set_option maxRecDepth 20000 in
theorem gX9_mark_X9_isCandidate : GoodIn wsX9_mark (wsV RX9 105 RX9 yX9_isCandidate wsX9_isCandidate) := goodIn_app (goodIn_of _ (by decide +kernel)) ggX9_mark_X9_isCandidate
theorem dX9_mark_0 : decode cX9_mark 0 = .ok (.aload_n 0, 1) := by decide +kernel
theorem dX9_mark_1 : decode cX9_mark 1 = .ok (.iload_n 1, 1) := by decide +kernel
theorem dX9_mark_2 : decode cX9_mark 2 = .ok (.invokevirtual 105, 3) := by decide +kernel
theorem dX9_mark_5 : decode cX9_mark 5 = .ok (.ifCond .eq 11, 3) := by decide +kernel
theorem dX9_mark_16 : decode cX9_mark 16 = .ok (.iconst (-1), 1) := by decide +kernel
theorem dX9_mark_17 : decode cX9_mark 17 = .ok (.ireturn, 1) := by decide +kernel
set_option maxRecDepth 20000 in
theorem ggX9_load_X9_isReader : GoodIn wsX9_load wsX9_isReader := goodIn_r _ [5, 6, 7, 8, 9, 10, 11, 12, 13, 14, 15, 16, 17, 18, 19, 20, 21, 22, 23, 24, 25, 26, 59, 60, 61, 62, 63, 64, 65, 66, 67, 68, 69, 70, 71, 72, 73, 74, 75, 76, 77, 78, 79] (by decide +kernel) (by decide +kernel)
set_option maxRecDepth 20000 in
theorem gX9_load_X9_isReader : GoodIn wsX9_load (wsV RX9 253 RX9 yX9_isReader wsX9_isReader) := goodIn_app (goodIn_of _ (by decide +kernel)) ggX9_load_X9_isReader
theorem dX9_load_0 : decode cX9_load 0 = .ok (.aload_n 0, 1) := by decide +kernel
theorem dX9_load_1 : decode cX9_load 1 = .ok (.iload_n 1, 1) := by decide +kernel
theorem dX9_load_2 : decode cX9_load 2 = .ok (.invokevirtual 253, 3) := by decide +kernel
theorem dX9_load_5 : decode cX9_load 5 = .ok (.ifCond .eq 11, 3) := by decide +kernel
theorem dX9_load_16 : decode cX9_load 16 = .ok (.iconst (-1), 1) := by decide +kernel
theorem dX9_load_17 : decode cX9_load 17 = .ok (.ireturn, 1) := by decide +kernel
set_option maxRecDepth 20000 in
theorem ggX9_shift_X9_isReader : GoodIn wsX9_shift wsX9_isReader := goodIn_r _ [5, 6, 7, 8, 9, 10, 11, 12, 13, 14, 15, 16, 17, 18, 19, 20, 21, 22, 23, 24, 25, 26, 64, 65, 66, 67, 68, 69, 70, 71, 72, 73, 74, 75, 76, 77, 78, 79, 80, 81, 82, 83, 84] (by decide +kernel) (by decide +kernel)
set_option maxRecDepth 20000 in
theorem gX9_shift_X9_isReader : GoodIn wsX9_shift (wsV RX9 253 RX9 yX9_isReader wsX9_isReader) := goodIn_app (goodIn_of _ (by decide +kernel)) ggX9_shift_X9_isReader
theorem dX9_shift_0 : decode cX9_shift 0 = .ok (.aload_n 0, 1) := by decide +kernel
theorem dX9_shift_1 : decode cX9_shift 1 = .ok (.iload_n 1, 1) := by decide +kernel
theorem dX9_shift_2 : decode cX9_shift 2 = .ok (.invokevirtual 253, 3) := by decide +kernel
theorem dX9_shift_5 : decode cX9_shift 5 = .ok (.ifCond .eq 11, 3) := by decide +kernel
theorem dX9_shift_16 : decode cX9_shift 16 = .ok (.sipush (-1000), 3) := by decide +kernel
theorem dX9_shift_19 : decode cX9_shift 19 = .ok (.ireturn, 1) := by decide +kernel
set_option maxRecDepth 20000 in
theorem ggX9_score_X9_isCandidate : GoodIn wsX9_score wsX9_isCandidate := goodIn_r _ [7, 1, 8, 9, 10, 11, 12, 13, 14, 15, 16, 17, 18, 19, 20, 21, 22, 23, 24, 25, 26, 27, 94, 95, 96, 97, 98, 99, 100, 101, 102, 103, 104, 105, 106, 107, 108, 109, 110, 111, 112, 113, 114] (by decide +kernel) (by decide +kernel)
set_option maxRecDepth 20000 in
theorem gX9_score_X9_isCandidate : GoodIn wsX9_score (wsV RX9 105 RX9 yX9_isCandidate wsX9_isCandidate) := goodIn_app (goodIn_of _ (by decide +kernel)) ggX9_score_X9_isCandidate
theorem dX9_score_0 : decode cX9_score 0 = .ok (.aload_n 0, 1) := by decide +kernel
theorem dX9_score_1 : decode cX9_score 1 = .ok (.iload_n 1, 1) := by decide +kernel
theorem dX9_score_2 : decode cX9_score 2 = .ok (.invokevirtual 105, 3) := by decide +kernel
theorem dX9_score_5 : decode cX9_score 5 = .ok (.ifCond .eq 12, 3) := by decide +kernel
theorem dX9_score_17 : decode cX9_score 17 = .ok (.iconst (-1), 1) := by decide +kernel
theorem dX9_score_18 : decode cX9_score 18 = .ok (.ireturn, 1) := by decide +kernel
set_option maxRecDepth 20000 in
theorem ggX9_passes_X9_isCandidate : GoodIn wsX9_passes wsX9_isCandidate := goodIn_r _ [8, 1, 9, 10, 11, 12, 13, 14, 15, 16, 17, 18, 19, 20, 21, 22, 23, 24, 25, 26, 27, 28, 159, 160, 161, 162, 163, 164, 165, 166, 167, 168, 169, 170, 171, 172, 173, 174, 175, 176, 177, 178, 179] (by decide +kernel) (by decide +kernel)
set_option maxRecDepth 20000 in
theorem gX9_passes_X9_isCandidate : GoodIn wsX9_passes (wsV RX9 105 RX9 yX9_isCandidate wsX9_isCandidate) := goodIn_app (goodIn_of _ (by decide +kernel)) ggX9_passes_X9_isCandidate
theorem dX9_passes_0 : decode cX9_passes 0 = .ok (.aload_n 0, 1) := by decide +kernel
theorem dX9_passes_1 : decode cX9_passes 1 = .ok (.iload_n 1, 1) := by decide +kernel
theorem dX9_passes_2 : decode cX9_passes 2 = .ok (.invokevirtual 105, 3) := by decide +kernel
theorem dX9_passes_5 : decode cX9_passes 5 = .ok (.ifCond .ne 5, 3) := by decide +kernel
theorem dX9_passes_8 : decode cX9_passes 8 = .ok (.iconst (-1), 1) := by decide +kernel
theorem dX9_passes_9 : decode cX9_passes 9 = .ok (.ireturn, 1) := by decide +kernel
set_option maxRecDepth 20000 in
theorem ggX9_strike_X9_isCandidate : GoodIn wsX9_strike wsX9_isCandidate := goodIn_r _ [8, 1, 9, 10, 11, 12, 13, 14, 15, 16, 17, 18, 19, 20, 21, 22, 23, 24, 25, 26, 27, 28, 52, 53, 54, 55, 56, 57, 58, 59, 60, 61, 62, 63, 64, 72, 73, 74, 75, 76, 77, 78, 79] (by decide +kernel) (by decide +kernel)
set_option maxRecDepth 20000 in
theorem gX9_strike_X9_isCandidate : GoodIn wsX9_strike (wsV RX9 105 RX9 yX9_isCandidate wsX9_isCandidate) := goodIn_app (goodIn_of _ (by decide +kernel)) ggX9_strike_X9_isCandidate
theorem dX9_strike_0 : decode cX9_strike 0 = .ok (.aload_n 0, 1) := by decide +kernel
theorem dX9_strike_1 : decode cX9_strike 1 = .ok (.iload_n 1, 1) := by decide +kernel
theorem dX9_strike_2 : decode cX9_strike 2 = .ok (.invokevirtual 105, 3) := by decide +kernel
theorem dX9_strike_5 : decode cX9_strike 5 = .ok (.ifCond .ne 5, 3) := by decide +kernel
theorem dX9_strike_8 : decode cX9_strike 8 = .ok (.iconst (-1), 1) := by decide +kernel
theorem dX9_strike_9 : decode cX9_strike 9 = .ok (.ireturn, 1) := by decide +kernel
set_option maxRecDepth 20000 in
theorem ggX9_ifStruck_X9_isCandidate : GoodIn wsX9_ifStruck wsX9_isCandidate := goodIn_r _ [8, 1, 9, 10, 11, 12, 13, 14, 15, 16, 17, 18, 19, 20, 21, 22, 23, 24, 25, 26, 27, 28, 159, 160, 161, 162, 163, 164, 165, 166, 167, 168, 169, 170, 171, 179, 180, 181, 182, 183, 184, 185, 186] (by decide +kernel) (by decide +kernel)
set_option maxRecDepth 20000 in
theorem gX9_ifStruck_X9_isCandidate : GoodIn wsX9_ifStruck (wsV RX9 105 RX9 yX9_isCandidate wsX9_isCandidate) := goodIn_app (goodIn_of _ (by decide +kernel)) ggX9_ifStruck_X9_isCandidate
theorem dX9_ifStruck_0 : decode cX9_ifStruck 0 = .ok (.aload_n 0, 1) := by decide +kernel
theorem dX9_ifStruck_1 : decode cX9_ifStruck 1 = .ok (.iload_n 1, 1) := by decide +kernel
theorem dX9_ifStruck_2 : decode cX9_ifStruck 2 = .ok (.invokevirtual 105, 3) := by decide +kernel
theorem dX9_ifStruck_5 : decode cX9_ifStruck 5 = .ok (.ifCond .ne 5, 3) := by decide +kernel
theorem dX9_ifStruck_8 : decode cX9_ifStruck 8 = .ok (.iconst (-1), 1) := by decide +kernel
theorem dX9_ifStruck_9 : decode cX9_ifStruck 9 = .ok (.ireturn, 1) := by decide +kernel
set_option maxRecDepth 20000 in
theorem ggX9_cell_X9_isCandidate : GoodIn wsX9_cell wsX9_isCandidate := goodIn_r _ [8, 1, 9, 10, 11, 12, 13, 14, 15, 16, 17, 18, 19, 20, 21, 22, 23, 24, 25, 26, 27, 28, 52, 53, 54, 55, 56, 57, 58, 59, 60, 61, 62, 63, 64, 72, 73, 74, 75, 76, 77, 78, 79] (by decide +kernel) (by decide +kernel)
set_option maxRecDepth 20000 in
theorem gX9_cell_X9_isCandidate : GoodIn wsX9_cell (wsV RX9 105 RX9 yX9_isCandidate wsX9_isCandidate) := goodIn_app (goodIn_of _ (by decide +kernel)) ggX9_cell_X9_isCandidate
theorem dX9_cell_0 : decode cX9_cell 0 = .ok (.aload_n 0, 1) := by decide +kernel
theorem dX9_cell_1 : decode cX9_cell 1 = .ok (.iload_n 1, 1) := by decide +kernel
theorem dX9_cell_2 : decode cX9_cell 2 = .ok (.invokevirtual 105, 3) := by decide +kernel
theorem dX9_cell_5 : decode cX9_cell 5 = .ok (.ifCond .ne 6, 3) := by decide +kernel
theorem dX9_cell_8 : decode cX9_cell 8 = .ok (.bipush (-5), 2) := by decide +kernel
theorem dX9_cell_10 : decode cX9_cell 10 = .ok (.ireturn, 1) := by decide +kernel
set_option maxRecDepth 20000 in
theorem ggX9_kin_X9_isCandidate : GoodIn wsX9_kin wsX9_isCandidate := goodIn_r _ [6, 7, 8, 9, 10, 11, 12, 13, 14, 15, 16, 17, 18, 19, 20, 21, 22, 23, 24, 25, 26, 27, 28, 29, 30, 31, 32, 33, 34, 35, 36, 37, 38, 39, 40, 41, 42, 43, 44, 45, 46, 47, 48] (by decide +kernel) (by decide +kernel)
set_option maxRecDepth 20000 in
theorem gX9_kin_X9_isCandidate : GoodIn wsX9_kin (wsV RX9 105 RX9 yX9_isCandidate wsX9_isCandidate) := goodIn_app (goodIn_of _ (by decide +kernel)) ggX9_kin_X9_isCandidate
theorem dX9_kin_0 : decode cX9_kin 0 = .ok (.aload_n 0, 1) := by decide +kernel
theorem dX9_kin_1 : decode cX9_kin 1 = .ok (.iload_n 1, 1) := by decide +kernel
theorem dX9_kin_2 : decode cX9_kin 2 = .ok (.invokevirtual 105, 3) := by decide +kernel
theorem dX9_kin_5 : decode cX9_kin 5 = .ok (.ifCond .eq 11, 3) := by decide +kernel
theorem dX9_kin_16 : decode cX9_kin 16 = .ok (.iconst (-1), 1) := by decide +kernel
theorem dX9_kin_17 : decode cX9_kin 17 = .ok (.ireturn, 1) := by decide +kernel
set_option maxRecDepth 20000 in
theorem ggX9_near_Jx4a65c_size_8abf5 : GoodIn wsX9_near wsJx4a65c_size_8abf5 := goodIn_r _ [21, 22, 75, 76, 77] (by decide +kernel) (by decide +kernel)
set_option maxRecDepth 20000 in
theorem gX9_near_Jx4a65c_size_8abf5_f56Jx4a65c : GoodIn wsX9_near (va_wsF RX9 56 RJx4a65c ⟨"java/util/List", "size", "()I"⟩ yJx4a65c_size_8abf5 wsJx4a65c_size_8abf5) := goodIn_app (goodIn_of _ (by decide +kernel)) ggX9_near_Jx4a65c_size_8abf5
theorem dX9_near_0 : decode cX9_near 0 = .ok (.iconst 0, 1) := by decide +kernel
theorem dX9_near_1 : decode cX9_near 1 = .ok (.istore_n 1, 1) := by decide +kernel
theorem dX9_near_2 : decode cX9_near 2 = .ok (.iconst 0, 1) := by decide +kernel
theorem dX9_near_3 : decode cX9_near 3 = .ok (.istore_n 2, 1) := by decide +kernel
theorem dX9_near_4 : decode cX9_near 4 = .ok (.iload_n 2, 1) := by decide +kernel
theorem dX9_near_5 : decode cX9_near 5 = .ok (.aload_n 0, 1) := by decide +kernel
theorem dX9_near_6 : decode cX9_near 6 = .ok (.getfield 10, 3) := by decide +kernel
theorem dX9_near_9 : decode cX9_near 9 = .ok (.invokeinterface 56 1, 5) := by decide +kernel
theorem dX9_near_14 : decode cX9_near 14 = .ok (.if_icmp .ge 55, 3) := by decide +kernel
theorem dX9_near_69 : decode cX9_near 69 = .ok (.iload_n 1, 1) := by decide +kernel
theorem dX9_near_70 : decode cX9_near 70 = .ok (.ireturn, 1) := by decide +kernel
set_option maxRecDepth 20000 in
theorem ggX9_countMarks_Jx4a65c_size_8abf5 : GoodIn wsX9_countMarks wsJx4a65c_size_8abf5 := goodIn_r _ [24, 25, 76, 77, 78] (by decide +kernel) (by decide +kernel)
set_option maxRecDepth 20000 in
theorem gX9_countMarks_Jx4a65c_size_8abf5_f56Jx4a65c : GoodIn wsX9_countMarks (va_wsF RX9 56 RJx4a65c ⟨"java/util/List", "size", "()I"⟩ yJx4a65c_size_8abf5 wsJx4a65c_size_8abf5) := goodIn_app (goodIn_of _ (by decide +kernel)) ggX9_countMarks_Jx4a65c_size_8abf5
theorem dX9_countMarks_0 : decode cX9_countMarks 0 = .ok (.iconst 0, 1) := by decide +kernel
theorem dX9_countMarks_1 : decode cX9_countMarks 1 = .ok (.istore_n 1, 1) := by decide +kernel
theorem dX9_countMarks_2 : decode cX9_countMarks 2 = .ok (.iconst 0, 1) := by decide +kernel
theorem dX9_countMarks_3 : decode cX9_countMarks 3 = .ok (.istore_n 2, 1) := by decide +kernel
theorem dX9_countMarks_4 : decode cX9_countMarks 4 = .ok (.iload_n 2, 1) := by decide +kernel
theorem dX9_countMarks_5 : decode cX9_countMarks 5 = .ok (.aload_n 0, 1) := by decide +kernel
theorem dX9_countMarks_6 : decode cX9_countMarks 6 = .ok (.getfield 10, 3) := by decide +kernel
theorem dX9_countMarks_9 : decode cX9_countMarks 9 = .ok (.invokeinterface 56 1, 5) := by decide +kernel
theorem dX9_countMarks_14 : decode cX9_countMarks 14 = .ok (.if_icmp .ge 68, 3) := by decide +kernel
theorem dX9_countMarks_82 : decode cX9_countMarks 82 = .ok (.iload_n 1, 1) := by decide +kernel
theorem dX9_countMarks_83 : decode cX9_countMarks 83 = .ok (.ireturn, 1) := by decide +kernel
set_option maxRecDepth 20000 in
theorem ggX9_countCandidates_Jx4a65c_size_8abf5 : GoodIn wsX9_countCandidates wsJx4a65c_size_8abf5 := goodIn_r _ [23, 24, 73, 74, 75] (by decide +kernel) (by decide +kernel)
set_option maxRecDepth 20000 in
theorem gX9_countCandidates_Jx4a65c_size_8abf5_f56Jx4a65c : GoodIn wsX9_countCandidates (va_wsF RX9 56 RJx4a65c ⟨"java/util/List", "size", "()I"⟩ yJx4a65c_size_8abf5 wsJx4a65c_size_8abf5) := goodIn_app (goodIn_of _ (by decide +kernel)) ggX9_countCandidates_Jx4a65c_size_8abf5
theorem dX9_countCandidates_0 : decode cX9_countCandidates 0 = .ok (.iconst 0, 1) := by decide +kernel
theorem dX9_countCandidates_1 : decode cX9_countCandidates 1 = .ok (.istore_n 2, 1) := by decide +kernel
theorem dX9_countCandidates_2 : decode cX9_countCandidates 2 = .ok (.iconst 0, 1) := by decide +kernel
theorem dX9_countCandidates_3 : decode cX9_countCandidates 3 = .ok (.istore_n 3, 1) := by decide +kernel
theorem dX9_countCandidates_4 : decode cX9_countCandidates 4 = .ok (.iload_n 3, 1) := by decide +kernel
theorem dX9_countCandidates_5 : decode cX9_countCandidates 5 = .ok (.aload_n 0, 1) := by decide +kernel
theorem dX9_countCandidates_6 : decode cX9_countCandidates 6 = .ok (.getfield 10, 3) := by decide +kernel
theorem dX9_countCandidates_9 : decode cX9_countCandidates 9 = .ok (.invokeinterface 56 1, 5) := by decide +kernel
theorem dX9_countCandidates_14 : decode cX9_countCandidates 14 = .ok (.if_icmp .ge 50, 3) := by decide +kernel
theorem dX9_countCandidates_64 : decode cX9_countCandidates 64 = .ok (.iload_n 2, 1) := by decide +kernel
theorem dX9_countCandidates_65 : decode cX9_countCandidates 65 = .ok (.ireturn, 1) := by decide +kernel
theorem dJx4a65c_size_8abf5_0 : decode cJx4a65c_size_8abf5 0 = .ok (.aload_n 0, 1) := by decide +kernel
theorem dJx4a65c_size_8abf5_1 : decode cJx4a65c_size_8abf5 1 = .ok (.getfield 48, 3) := by decide +kernel
theorem dJx4a65c_size_8abf5_4 : decode cJx4a65c_size_8abf5 4 = .ok (.ireturn, 1) := by decide +kernel
set_option maxHeartbeats 4000000 in
set_option maxRecDepth 100000 in
theorem c_AL_size (l : Launch) (dC : Nat → ClassId) (dI : Nat → Nat → Nat) (li : Nat) (q1 : Int32) (dd : Nat) (z : Int32) : Met l yJx4a65c_size_8abf5 wsJx4a65c_size_8abf5 ({ frames := 0, cells := 0, slots := 0, locals := 0 }) (va_Pc [.ref li] (PS dC dI [(li, .inr (4, [.int q1, .ref dd, .int z]))] [])) (vp_Si (fun r => r = z)) 0 0 (fun _ => False) := by
  refine Met.ofW (cc := cJx4a65c_size_8abf5) (maxL := 1) (ret := (some .int)) (by decide) rfl ?_
  intro p e s m args below meth c s₁ B hml hv
  obtain ⟨rfl, hP, hK, hF⟩ := hv
  have hx := B.exec
  have hb := B.bytes
  have hr := B.returns
  have hts := atoms_spec (ws := wsJx4a65c_size_8abf5) B.pre
  have hown : s.vm.findClass RJx4a65c = some m.cls := findClass_of_methodNamed B.named
  have hlocks := B.notSynchronized
  have hl := lv_entry ([.ref li]) (n := 1) (Nat.le_of_ble_eq_true rfl)
  rw [lg_entry_eq]
  generalize (lg_sl ([.ref li]) ++ List.replicate (1 - (lg_sl ([.ref li])).length) Slot.unset).toArray = ls at hl ⊢
  have hl : lv_has ls 1 [(0, .ref li)] := hl
  refine lv_aload_n hx hb dJx4a65c_size_8abf5_0 rfl (lv_at hl 0 rfl) ?_
  refine va_get (D := (dC, dI)) (ci := 4) (v := .int z) (C := RJx4a65c) (T := TJx4a65c) (N := 3) hx hb hts (fun _ h9 => List.mem_cons_of_mem _ (List.mem_append_right _ (h9))) hown hK hP 0 rfl rfl 2 (by decide) (hts (.fieldLink RJx4a65c 48 "java/util/ArrayList" "size" "I") (List.mem_of_getElem? (i := 1) rfl)) (fun _ h9 => h9) rfl dJx4a65c_size_8abf5_1 ?_
  exact W.iret (v := z) hx hb hr (fun t ht hW => ⟨_, rfl, rfl, ht⟩) (fun _ h9 => absurd h9 List.not_mem_nil) dJx4a65c_size_8abf5_4

def sp_M_isProvince (c1 : Int32) : Int32 := if c1 < 0 then 0 else if 3 < c1 then 0 else 1
set_option maxHeartbeats 4000000 in
set_option maxRecDepth 100000 in
theorem c_M_isProvince (l : Launch) (dC : Nat → ClassId) (dI : Nat → Nat → Nat) (c1 : Int32) : Met l yX9_isProvince wsX9_isProvince ({ frames := 0, cells := 0, slots := 0, locals := 0 }) (va_Pc [.int c1] (PS dC dI [] [])) (vp_Si (fun r => r = sp_M_isProvince c1)) 0 0 (fun _ => False) := by
  refine Met.ofW (cc := cX9_isProvince) (maxL := 1) (ret := (some .boolean)) (by decide) rfl ?_
  intro p e s m args below meth c s₁ B hml hv
  obtain ⟨rfl, hP, hK, hF⟩ := hv
  have hx := B.exec
  have hb := B.bytes
  have hr := B.returns
  have hts := atoms_spec (ws := wsX9_isProvince) B.pre
  have hown : s.vm.findClass RX9 = some m.cls := findClass_of_methodNamed B.named
  have hlocks := B.notSynchronized
  have hl := lv_entry ([.int c1]) (n := 1) (Nat.le_of_ble_eq_true rfl)
  rw [lg_entry_eq]
  generalize (lg_sl ([.int c1]) ++ List.replicate (1 - (lg_sl ([.int c1])).length) Slot.unset).toArray = ls at hl ⊢
  have hl : lv_has ls 1 [(0, .int c1)] := hl
  refine lv_iconst (v := 0) hx hb dX9_isProvince_0 (by decide) ?_
  refine lv_iload_n hx hb dX9_isProvince_1 rfl (lv_at hl 0 rfl) ?_
  refine lv_icmp_gt (tgt := 14) hx hb dX9_isProvince_2 (by decide) (fun c_1 => ?_) (fun c_1 => ?_)
  · skip
    refine lv_iconst (v := 0) hx hb dX9_isProvince_14 (by decide) ?_
    exact W.zret (v := 0) hx hb hr (by decide) (fun t ht hW => ⟨_, rfl, (by simp only [sp_M_isProvince, if_pos c_1]), ht⟩) (fun _ h9 => absurd h9 List.not_mem_nil) dX9_isProvince_15
  · skip
    refine lv_iload_n hx hb dX9_isProvince_5 rfl (lv_at hl 0 rfl) ?_
    refine lv_iconst (v := 3) hx hb dX9_isProvince_6 (by decide) ?_
    refine lv_icmp_gt (tgt := 14) hx hb dX9_isProvince_7 (by decide) (fun c_2 => ?_) (fun c_2 => ?_)
    · skip
      refine lv_iconst (v := 0) hx hb dX9_isProvince_14 (by decide) ?_
      exact W.zret (v := 0) hx hb hr (by decide) (fun t ht hW => ⟨_, rfl, (by simp only [sp_M_isProvince, if_neg c_1, if_pos c_2]), ht⟩) (fun _ h9 => absurd h9 List.not_mem_nil) dX9_isProvince_15
    · skip
      refine lv_iconst (v := 1) hx hb dX9_isProvince_10 (by decide) ?_
      refine lv_goto (tgt := 15) hx hb dX9_isProvince_11 (by decide) ?_
      exact W.zret (v := 1) hx hb hr (by decide) (fun t ht hW => ⟨_, rfl, (by simp only [sp_M_isProvince, if_neg c_1, if_neg c_2]), ht⟩) (fun _ h9 => absurd h9 List.not_mem_nil) dX9_isProvince_15

def sp_M_isLeg (c1 : Int32) : Int32 := if c1 < 0 then 0 else if 7 < c1 then 0 else 1
set_option maxHeartbeats 4000000 in
set_option maxRecDepth 100000 in
theorem c_M_isLeg (l : Launch) (dC : Nat → ClassId) (dI : Nat → Nat → Nat) (c1 : Int32) : Met l yX9_isLeg wsX9_isLeg ({ frames := 0, cells := 0, slots := 0, locals := 0 }) (va_Pc [.int c1] (PS dC dI [] [])) (vp_Si (fun r => r = sp_M_isLeg c1)) 0 0 (fun _ => False) := by
  refine Met.ofW (cc := cX9_isLeg) (maxL := 1) (ret := (some .boolean)) (by decide) rfl ?_
  intro p e s m args below meth c s₁ B hml hv
  obtain ⟨rfl, hP, hK, hF⟩ := hv
  have hx := B.exec
  have hb := B.bytes
  have hr := B.returns
  have hts := atoms_spec (ws := wsX9_isLeg) B.pre
  have hown : s.vm.findClass RX9 = some m.cls := findClass_of_methodNamed B.named
  have hlocks := B.notSynchronized
  have hl := lv_entry ([.int c1]) (n := 1) (Nat.le_of_ble_eq_true rfl)
  rw [lg_entry_eq]
  generalize (lg_sl ([.int c1]) ++ List.replicate (1 - (lg_sl ([.int c1])).length) Slot.unset).toArray = ls at hl ⊢
  have hl : lv_has ls 1 [(0, .int c1)] := hl
  refine lv_iconst (v := 0) hx hb dX9_isLeg_0 (by decide) ?_
  refine lv_iload_n hx hb dX9_isLeg_1 rfl (lv_at hl 0 rfl) ?_
  refine lv_icmp_gt (tgt := 15) hx hb dX9_isLeg_2 (by decide) (fun c_1 => ?_) (fun c_1 => ?_)
  · skip
    refine lv_iconst (v := 0) hx hb dX9_isLeg_15 (by decide) ?_
    exact W.zret (v := 0) hx hb hr (by decide) (fun t ht hW => ⟨_, rfl, (by simp only [sp_M_isLeg, if_pos c_1]), ht⟩) (fun _ h9 => absurd h9 List.not_mem_nil) dX9_isLeg_16
  · skip
    refine lv_iload_n hx hb dX9_isLeg_5 rfl (lv_at hl 0 rfl) ?_
    refine lv_bipush (v := 7) hx hb dX9_isLeg_6 (by decide) ?_
    refine lv_icmp_gt (tgt := 15) hx hb dX9_isLeg_8 (by decide) (fun c_2 => ?_) (fun c_2 => ?_)
    · skip
      refine lv_iconst (v := 0) hx hb dX9_isLeg_15 (by decide) ?_
      exact W.zret (v := 0) hx hb hr (by decide) (fun t ht hW => ⟨_, rfl, (by simp only [sp_M_isLeg, if_neg c_1, if_pos c_2]), ht⟩) (fun _ h9 => absurd h9 List.not_mem_nil) dX9_isLeg_16
    · skip
      refine lv_iconst (v := 1) hx hb dX9_isLeg_11 (by decide) ?_
      refine lv_goto (tgt := 16) hx hb dX9_isLeg_12 (by decide) ?_
      exact W.zret (v := 1) hx hb hr (by decide) (fun t ht hW => ⟨_, rfl, (by simp only [sp_M_isLeg, if_neg c_1, if_neg c_2]), ht⟩) (fun _ h9 => absurd h9 List.not_mem_nil) dX9_isLeg_16

def sp_M_letter (c1 : Int32) : Int32 := if c1 < 97 then 0 else if 122 < c1 then 0 else 1
set_option maxHeartbeats 4000000 in
set_option maxRecDepth 100000 in
theorem c_M_letter (l : Launch) (dC : Nat → ClassId) (dI : Nat → Nat → Nat) (c1 : Int32) : Met l yX9_letter wsX9_letter ({ frames := 0, cells := 0, slots := 0, locals := 0 }) (va_Pc [.int c1] (PS dC dI [] [])) (vp_Si (fun r => r = sp_M_letter c1)) 0 0 (fun _ => False) := by
  refine Met.ofW (cc := cX9_letter) (maxL := 1) (ret := (some .boolean)) (by decide) rfl ?_
  intro p e s m args below meth c s₁ B hml hv
  obtain ⟨rfl, hP, hK, hF⟩ := hv
  have hx := B.exec
  have hb := B.bytes
  have hr := B.returns
  have hts := atoms_spec (ws := wsX9_letter) B.pre
  have hown : s.vm.findClass RX9 = some m.cls := findClass_of_methodNamed B.named
  have hlocks := B.notSynchronized
  have hl := lv_entry ([.int c1]) (n := 1) (Nat.le_of_ble_eq_true rfl)
  rw [lg_entry_eq]
  generalize (lg_sl ([.int c1]) ++ List.replicate (1 - (lg_sl ([.int c1])).length) Slot.unset).toArray = ls at hl ⊢
  have hl : lv_has ls 1 [(0, .int c1)] := hl
  refine lv_bipush (v := 97) hx hb dX9_letter_0 (by decide) ?_
  refine lv_iload_n hx hb dX9_letter_2 rfl (lv_at hl 0 rfl) ?_
  refine lv_icmp_gt (tgt := 16) hx hb dX9_letter_3 (by decide) (fun c_1 => ?_) (fun c_1 => ?_)
  · skip
    refine lv_iconst (v := 0) hx hb dX9_letter_16 (by decide) ?_
    exact W.zret (v := 0) hx hb hr (by decide) (fun t ht hW => ⟨_, rfl, (by simp only [sp_M_letter, if_pos c_1]), ht⟩) (fun _ h9 => absurd h9 List.not_mem_nil) dX9_letter_17
  · skip
    refine lv_iload_n hx hb dX9_letter_6 rfl (lv_at hl 0 rfl) ?_
    refine lv_bipush (v := 122) hx hb dX9_letter_7 (by decide) ?_
    refine lv_icmp_gt (tgt := 16) hx hb dX9_letter_9 (by decide) (fun c_2 => ?_) (fun c_2 => ?_)
    · skip
      refine lv_iconst (v := 0) hx hb dX9_letter_16 (by decide) ?_
      exact W.zret (v := 0) hx hb hr (by decide) (fun t ht hW => ⟨_, rfl, (by simp only [sp_M_letter, if_neg c_1, if_pos c_2]), ht⟩) (fun _ h9 => absurd h9 List.not_mem_nil) dX9_letter_17
    · skip
      refine lv_iconst (v := 1) hx hb dX9_letter_12 (by decide) ?_
      refine lv_goto (tgt := 17) hx hb dX9_letter_13 (by decide) ?_
      exact W.zret (v := 1) hx hb hr (by decide) (fun t ht hW => ⟨_, rfl, (by simp only [sp_M_letter, if_neg c_1, if_neg c_2]), ht⟩) (fun _ h9 => absurd h9 List.not_mem_nil) dX9_letter_17

theorem vin_isProvince {x : Int32} (h : ¬ sp_M_isProvince x = 0) : vp_in x 4 := by
  unfold sp_M_isProvince at h
  by_cases h1 : x < 0
  · rw [if_pos h1] at h
    exact absurd rfl h
  · by_cases h2 : 3 < x
    · rw [if_neg h1, if_pos h2] at h
      exact absurd rfl h
    · exact vin_lt (by decide) h1 (fun q => h2 (Int32.lt_of_lt_of_le (by decide : (3 : Int32) < nI 4) q))
theorem vin_isLeg {x : Int32} (h : ¬ sp_M_isLeg x = 0) : vp_in x 8 := by
  unfold sp_M_isLeg at h
  by_cases h1 : x < 0
  · rw [if_pos h1] at h
    exact absurd rfl h
  · by_cases h2 : 7 < x
    · rw [if_neg h1, if_pos h2] at h
      exact absurd rfl h
    · exact vin_lt (by decide) h1 (fun q => h2 (Int32.lt_of_lt_of_le (by decide : (7 : Int32) < nI 8) q))

set_option maxHeartbeats 4000000 in
set_option maxRecDepth 100000 in
theorem c_M_isCandidate (l : Launch) (dC : Nat → ClassId) (dI : Nat → Nat → Nat) (mx : Nat) (lc : Nat) (lr : Nat) (kn : Nat) (lt : Nat) (ml : Nat) (mm : Nat) (lp : Nat) (lb : Nat) (mq : Nat) (d : Nat) (c1 : Int32) : Met l yX9_isCandidate wsX9_isCandidate ({ frames := 1, cells := 0, slots := 0, locals := 20 }) (va_Pc [.ref mx, .int c1] (PS dC dI [(mx, .inr (14, [.ref lc, .ref lr, .ref kn, .ref lt, .ref ml, .ref mm, .ref lp, .ref lb, .ref mq, .int 1, .int 10, .int 0, .int 0])), (lc, .inr (4, [.int 0, .ref d, .int 0]))] [])) (vp_Si (fun r => r = 0)) 0 0 (fun _ => False) := by
  refine Met.ofW (cc := cX9_isCandidate) (maxL := 2) (ret := (some .boolean)) (by decide) rfl ?_
  intro p e s m args below meth c s₁ B hml hv
  obtain ⟨rfl, hP, hK, hF⟩ := hv
  have hx := B.exec
  have hb := B.bytes
  have hr := B.returns
  have hts := atoms_spec (ws := wsX9_isCandidate) B.pre
  have hown : s.vm.findClass RX9 = some m.cls := findClass_of_methodNamed B.named
  have hlocks := B.notSynchronized
  have hl := lv_entry ([.ref mx, .int c1]) (n := 2) (Nat.le_of_ble_eq_true rfl)
  rw [lg_entry_eq]
  generalize (lg_sl ([.ref mx, .int c1]) ++ List.replicate (2 - (lg_sl ([.ref mx, .int c1])).length) Slot.unset).toArray = ls at hl ⊢
  have hl : lv_has ls 2 [(0, .ref mx), (1, .int c1)] := hl
  refine lv_iconst (v := 0) hx hb dX9_isCandidate_0 (by decide) ?_
  refine lv_iload_n hx hb dX9_isCandidate_1 rfl (lv_at hl 1 rfl) ?_
  refine lv_icmp_gt (tgt := 22) hx hb dX9_isCandidate_2 (by decide) (fun c_1 => ?_) (fun c_1 => ?_)
  · skip
    refine lv_iconst (v := 0) hx hb dX9_isCandidate_22 (by decide) ?_
    exact W.zret (v := 0) hx hb hr (by decide) (fun t ht hW => ⟨_, rfl, rfl, ht⟩) (fun _ h9 => absurd h9 List.not_mem_nil) dX9_isCandidate_23
  · skip
    refine lv_iload_n hx hb dX9_isCandidate_5 rfl (lv_at hl 1 rfl) ?_
    refine lv_aload_n hx hb dX9_isCandidate_6 rfl (lv_at hl 0 rfl) ?_
    refine va_get (D := (dC, dI)) (ci := 14) (v := .ref lc) (C := RX9) (T := TX9) (N := 13) hx hb hts (fun _ h9 => List.mem_cons_of_mem _ (List.mem_append_left _ (List.mem_append_left _ (List.mem_append_right _ (h9))))) hown hK hP 0 rfl rfl 0 (by decide) (hts (.fieldLink RX9 10 "ExamHallsModel" "candidates" "Ljava/util/List;") (List.mem_of_getElem? (i := 1) rfl)) (fun _ h9 => h9) rfl dX9_isCandidate_7 ?_
    refine va_csFi (va_runF (hK.1 4 _ rfl).2 (As := []) (rest := [.int c1]) ⟨hx, hb, hml, hown, hts⟩ (c_AL_size l dC dI lc 0 d 0) (va_cwF 0 hts gX9_isCandidate_Jx4a65c_size_8abf5_f56Jx4a65c rfl rfl rfl (Ft.fw hF (RJx4a65c, ⟨"java/util/List", "size", "()I"⟩, yJx4a65c_size_8abf5) (by decide +kernel)) (by decide +kernel) ⟨Nat.le_of_ble_eq_true rfl, Nat.le_of_ble_eq_true rfl⟩) ⟨PS_blind, va_recv hK hP (ci := 4) (q0 := 1) rfl rfl, PS_pre (hP.sub (ws' := [(lc, .inr (4, [.int 0, .ref d, .int 0]))]) [1] rfl) hK hF⟩ rfl rfl hl.1 rfl (lv_room (Nat.le_of_ble_eq_true rfl)) dX9_isCandidate_10 ⟨Nat.le_of_ble_eq_true rfl, Nat.le_of_ble_eq_true rfl⟩) (fun r_2 hr_2 => ?_)
    subst hr_2
    refine lv_icmp_ge (tgt := 22) hx hb dX9_isCandidate_15 (by decide) (fun _ => ?_) (fun c_3 => absurd (Int32.not_lt.mp c_1) c_3)
    refine lv_iconst (v := 0) hx hb dX9_isCandidate_22 (by decide) ?_
    exact W.zret (v := 0) hx hb hr (by decide) (fun t ht hW => ⟨_, rfl, rfl, ht⟩) (fun _ h9 => absurd h9 List.not_mem_nil) dX9_isCandidate_23

set_option maxHeartbeats 4000000 in
set_option maxRecDepth 100000 in
theorem c_M_isReader (l : Launch) (dC : Nat → ClassId) (dI : Nat → Nat → Nat) (mx : Nat) (lc : Nat) (lr : Nat) (kn : Nat) (lt : Nat) (ml : Nat) (mm : Nat) (lp : Nat) (lb : Nat) (mq : Nat) (d : Nat) (c1 : Int32) : Met l yX9_isReader wsX9_isReader ({ frames := 1, cells := 0, slots := 0, locals := 20 }) (va_Pc [.ref mx, .int c1] (PS dC dI [(mx, .inr (14, [.ref lc, .ref lr, .ref kn, .ref lt, .ref ml, .ref mm, .ref lp, .ref lb, .ref mq, .int 1, .int 10, .int 0, .int 0])), (lr, .inr (4, [.int 0, .ref d, .int 0]))] [])) (vp_Si (fun r => r = 0)) 0 0 (fun _ => False) := by
  refine Met.ofW (cc := cX9_isReader) (maxL := 2) (ret := (some .boolean)) (by decide) rfl ?_
  intro p e s m args below meth c s₁ B hml hv
  obtain ⟨rfl, hP, hK, hF⟩ := hv
  have hx := B.exec
  have hb := B.bytes
  have hr := B.returns
  have hts := atoms_spec (ws := wsX9_isReader) B.pre
  have hown : s.vm.findClass RX9 = some m.cls := findClass_of_methodNamed B.named
  have hlocks := B.notSynchronized
  have hl := lv_entry ([.ref mx, .int c1]) (n := 2) (Nat.le_of_ble_eq_true rfl)
  rw [lg_entry_eq]
  generalize (lg_sl ([.ref mx, .int c1]) ++ List.replicate (2 - (lg_sl ([.ref mx, .int c1])).length) Slot.unset).toArray = ls at hl ⊢
  have hl : lv_has ls 2 [(0, .ref mx), (1, .int c1)] := hl
  refine lv_iconst (v := 0) hx hb dX9_isReader_0 (by decide) ?_
  refine lv_iload_n hx hb dX9_isReader_1 rfl (lv_at hl 1 rfl) ?_
  refine lv_icmp_gt (tgt := 22) hx hb dX9_isReader_2 (by decide) (fun c_1 => ?_) (fun c_1 => ?_)
  · skip
    refine lv_iconst (v := 0) hx hb dX9_isReader_22 (by decide) ?_
    exact W.zret (v := 0) hx hb hr (by decide) (fun t ht hW => ⟨_, rfl, rfl, ht⟩) (fun _ h9 => absurd h9 List.not_mem_nil) dX9_isReader_23
  · skip
    refine lv_iload_n hx hb dX9_isReader_5 rfl (lv_at hl 1 rfl) ?_
    refine lv_aload_n hx hb dX9_isReader_6 rfl (lv_at hl 0 rfl) ?_
    refine va_get (D := (dC, dI)) (ci := 14) (v := .ref lr) (C := RX9) (T := TX9) (N := 13) hx hb hts (fun _ h9 => List.mem_cons_of_mem _ (List.mem_append_left _ (List.mem_append_left _ (List.mem_append_right _ (h9))))) hown hK hP 0 rfl rfl 1 (by decide) (hts (.fieldLink RX9 16 "ExamHallsModel" "readers" "Ljava/util/List;") (List.mem_of_getElem? (i := 1) rfl)) (fun _ h9 => h9) rfl dX9_isReader_7 ?_
    refine va_csFi (va_runF (hK.1 4 _ rfl).2 (As := []) (rest := [.int c1]) ⟨hx, hb, hml, hown, hts⟩ (c_AL_size l dC dI lr 0 d 0) (va_cwF 0 hts gX9_isReader_Jx4a65c_size_8abf5_f56Jx4a65c rfl rfl rfl (Ft.fw hF (RJx4a65c, ⟨"java/util/List", "size", "()I"⟩, yJx4a65c_size_8abf5) (by decide +kernel)) (by decide +kernel) ⟨Nat.le_of_ble_eq_true rfl, Nat.le_of_ble_eq_true rfl⟩) ⟨PS_blind, va_recv hK hP (ci := 4) (q0 := 1) rfl rfl, PS_pre (hP.sub (ws' := [(lr, .inr (4, [.int 0, .ref d, .int 0]))]) [1] rfl) hK hF⟩ rfl rfl hl.1 rfl (lv_room (Nat.le_of_ble_eq_true rfl)) dX9_isReader_10 ⟨Nat.le_of_ble_eq_true rfl, Nat.le_of_ble_eq_true rfl⟩) (fun r_2 hr_2 => ?_)
    subst hr_2
    refine lv_icmp_ge (tgt := 22) hx hb dX9_isReader_15 (by decide) (fun _ => ?_) (fun c_3 => absurd (Int32.not_lt.mp c_1) c_3)
    refine lv_iconst (v := 0) hx hb dX9_isReader_22 (by decide) ?_
    exact W.zret (v := 0) hx hb hr (by decide) (fun t ht hW => ⟨_, rfl, rfl, ht⟩) (fun _ h9 => absurd h9 List.not_mem_nil) dX9_isReader_23

set_option maxHeartbeats 4000000 in
set_option maxRecDepth 100000 in
theorem c_M_essayOf (l : Launch) (dC : Nat → ClassId) (dI : Nat → Nat → Nat) (mx : Nat) (lc : Nat) (lr : Nat) (kn : Nat) (lt : Nat) (ml : Nat) (mm : Nat) (lp : Nat) (lb : Nat) (mq : Nat) (d : Nat) (c1 : Int32) : Met l yX9_essayOf wsX9_essayOf ({ frames := 2, cells := 0, slots := 0, locals := 41 }) (va_Pc [.ref mx, .int c1] (PS dC dI [(mx, .inr (14, [.ref lc, .ref lr, .ref kn, .ref lt, .ref ml, .ref mm, .ref lp, .ref lb, .ref mq, .int 1, .int 10, .int 0, .int 0])), (lc, .inr (4, [.int 0, .ref d, .int 0]))] [])) (va_Sq (fun r => r = none)) 0 0 (fun _ => False) := by
  refine Met.ofW (cc := cX9_essayOf) (maxL := 2) (ret := (some (.object "java/util/List"))) (by decide) rfl ?_
  intro p e s m args below meth c s₁ B hml hv
  obtain ⟨rfl, hP, hK, hF⟩ := hv
  have hx := B.exec
  have hb := B.bytes
  have hr := B.returns
  have hts := atoms_spec (ws := wsX9_essayOf) B.pre
  have hown : s.vm.findClass RX9 = some m.cls := findClass_of_methodNamed B.named
  have hlocks := B.notSynchronized
  have hl := lv_entry ([.ref mx, .int c1]) (n := 2) (Nat.le_of_ble_eq_true rfl)
  rw [lg_entry_eq]
  generalize (lg_sl ([.ref mx, .int c1]) ++ List.replicate (2 - (lg_sl ([.ref mx, .int c1])).length) Slot.unset).toArray = ls at hl ⊢
  have hl : lv_has ls 2 [(0, .ref mx), (1, .int c1)] := hl
  refine lv_aload_n hx hb dX9_essayOf_0 rfl (lv_at hl 0 rfl) ?_
  refine lv_iload_n hx hb dX9_essayOf_1 rfl (lv_at hl 1 rfl) ?_
  refine vp_callSi (va_Run.run (va_runV (As := [.int c1]) (rest := []) ⟨hx, hb, hml, hown, hts⟩ (c_M_isCandidate l dC dI mx lc lr kn lt ml mm lp lb mq d c1) (cwV 1 hts gX9_essayOf_X9_isCandidate rfl rfl rfl (by decide +kernel) ⟨Nat.le_of_ble_eq_true rfl, Nat.le_of_ble_eq_true rfl⟩) ⟨PS_blind, va_recv hK hP (ci := 14) (q0 := 0) rfl rfl, PS_pre hP hK hF⟩ rfl rfl hl.1 rfl (lv_room (Nat.le_of_ble_eq_true rfl)) dX9_essayOf_2 ⟨Nat.le_of_ble_eq_true rfl, Nat.le_of_ble_eq_true rfl⟩)) (fun r_1 hr_1 => ?_)
  subst hr_1
  refine lv_if_eq (tgt := 27) hx hb dX9_essayOf_5 (by decide) (fun _ => ?_) (fun c_2 => absurd (by decide) c_2)
  refine lv_null hx hb dX9_essayOf_27 ?_
  exact W.aret (v := .null) hx hb hr (Or.inl ⟨_, rfl⟩) (Or.inl rfl) (fun t ht hW => ⟨none, rfl, rfl, ht⟩) (fun _ h9 => absurd h9 List.not_mem_nil) dX9_essayOf_28

set_option maxHeartbeats 4000000 in
set_option maxRecDepth 100000 in
theorem c_M_essay (l : Launch) (dC : Nat → ClassId) (dI : Nat → Nat → Nat) (mx : Nat) (lc : Nat) (lr : Nat) (kn : Nat) (lt : Nat) (ml : Nat) (mm : Nat) (lp : Nat) (lb : Nat) (mq : Nat) (d : Nat) (c1 : Int32) : Met l yX9_essay wsX9_essay ({ frames := 2, cells := 0, slots := 0, locals := 41 }) (va_Pc [.ref mx, .int c1] (PS dC dI [(mx, .inr (14, [.ref lc, .ref lr, .ref kn, .ref lt, .ref ml, .ref mm, .ref lp, .ref lb, .ref mq, .int 1, .int 10, .int 0, .int 0])), (lc, .inr (4, [.int 0, .ref d, .int 0]))] [])) (vp_Si (fun r => r = (-1))) 0 0 (fun _ => False) := by
  refine Met.ofW (cc := cX9_essay) (maxL := 4) (ret := (some .int)) (by decide) rfl ?_
  intro p e s m args below meth c s₁ B hml hv
  obtain ⟨rfl, hP, hK, hF⟩ := hv
  have hx := B.exec
  have hb := B.bytes
  have hr := B.returns
  have hts := atoms_spec (ws := wsX9_essay) B.pre
  have hown : s.vm.findClass RX9 = some m.cls := findClass_of_methodNamed B.named
  have hlocks := B.notSynchronized
  have hl := lv_entry ([.ref mx, .int c1]) (n := 4) (Nat.le_of_ble_eq_true rfl)
  rw [lg_entry_eq]
  generalize (lg_sl ([.ref mx, .int c1]) ++ List.replicate (4 - (lg_sl ([.ref mx, .int c1])).length) Slot.unset).toArray = ls at hl ⊢
  have hl : lv_has ls 4 [(0, .ref mx), (1, .int c1)] := hl
  refine lv_aload_n hx hb dX9_essay_0 rfl (lv_at hl 0 rfl) ?_
  refine lv_iload_n hx hb dX9_essay_1 rfl (lv_at hl 1 rfl) ?_
  refine vp_callSi (va_Run.run (va_runV (As := [.int c1]) (rest := []) ⟨hx, hb, hml, hown, hts⟩ (c_M_isCandidate l dC dI mx lc lr kn lt ml mm lp lb mq d c1) (cwV 1 hts gX9_essay_X9_isCandidate rfl rfl rfl (by decide +kernel) ⟨Nat.le_of_ble_eq_true rfl, Nat.le_of_ble_eq_true rfl⟩) ⟨PS_blind, va_recv hK hP (ci := 14) (q0 := 0) rfl rfl, PS_pre hP hK hF⟩ rfl rfl hl.1 rfl (lv_room (Nat.le_of_ble_eq_true rfl)) dX9_essay_2 ⟨Nat.le_of_ble_eq_true rfl, Nat.le_of_ble_eq_true rfl⟩)) (fun r_1 hr_1 => ?_)
  subst hr_1
  refine lv_if_ne (tgt := 10) hx hb dX9_essay_5 (by decide) (fun c_2 => absurd (by decide) c_2) (fun _ => ?_)
  refine lv_iconst (v := (-1)) hx hb dX9_essay_8 (by decide) ?_
  exact W.iret (v := (-1)) hx hb hr (fun t ht hW => ⟨_, rfl, rfl, ht⟩) (fun _ h9 => absurd h9 List.not_mem_nil) dX9_essay_9

set_option maxHeartbeats 4000000 in
set_option maxRecDepth 100000 in
theorem c_M_legs (l : Launch) (dC : Nat → ClassId) (dI : Nat → Nat → Nat) (mx : Nat) (lc : Nat) (lr : Nat) (kn : Nat) (lt : Nat) (ml : Nat) (mm : Nat) (lp : Nat) (lb : Nat) (mq : Nat) (d : Nat) (c1 : Int32) (c2 : Int32) : Met l yX9_legs wsX9_legs ({ frames := 3, cells := 0, slots := 0, locals := 62 }) (va_Pc [.ref mx, .int c1, .int c2] (PS dC dI [(mx, .inr (14, [.ref lc, .ref lr, .ref kn, .ref lt, .ref ml, .ref mm, .ref lp, .ref lb, .ref mq, .int 1, .int 10, .int 0, .int 0])), (lc, .inr (4, [.int 0, .ref d, .int 0]))] [])) (vp_Si (fun r => r = (-1))) 0 0 (fun _ => False) := by
  refine Met.ofW (cc := cX9_legs) (maxL := 4) (ret := (some .int)) (by decide) rfl ?_
  intro p e s m args below meth c s₁ B hml hv
  obtain ⟨rfl, hP, hK, hF⟩ := hv
  have hx := B.exec
  have hb := B.bytes
  have hr := B.returns
  have hts := atoms_spec (ws := wsX9_legs) B.pre
  have hown : s.vm.findClass RX9 = some m.cls := findClass_of_methodNamed B.named
  have hlocks := B.notSynchronized
  have hl := lv_entry ([.ref mx, .int c1, .int c2]) (n := 4) (Nat.le_of_ble_eq_true rfl)
  rw [lg_entry_eq]
  generalize (lg_sl ([.ref mx, .int c1, .int c2]) ++ List.replicate (4 - (lg_sl ([.ref mx, .int c1, .int c2])).length) Slot.unset).toArray = ls at hl ⊢
  have hl : lv_has ls 4 [(0, .ref mx), (1, .int c1), (2, .int c2)] := hl
  refine lv_aload_n hx hb dX9_legs_0 rfl (lv_at hl 0 rfl) ?_
  refine lv_iload_n hx hb dX9_legs_1 rfl (lv_at hl 1 rfl) ?_
  refine va_csq (va_Run.run (va_runV (As := [.int c1]) (rest := []) ⟨hx, hb, hml, hown, hts⟩ (c_M_essayOf l dC dI mx lc lr kn lt ml mm lp lb mq d c1) (cwV 1 hts gX9_legs_X9_essayOf rfl rfl rfl (by decide +kernel) ⟨Nat.le_of_ble_eq_true rfl, Nat.le_of_ble_eq_true rfl⟩) ⟨PS_blind, va_recv hK hP (ci := 14) (q0 := 0) rfl rfl, PS_pre hP hK hF⟩ rfl rfl hl.1 rfl (lv_room (Nat.le_of_ble_eq_true rfl)) dX9_legs_2 ⟨Nat.le_of_ble_eq_true rfl, Nat.le_of_ble_eq_true rfl⟩)) (fun r_1 hr_1 => ?_)
  subst hr_1
  refine W.eq (g2 := F0 m 5 ls [.null]) rfl ?_
  refine lv_astore_nN (lv' := [(3, .null), (0, .ref mx), (1, .int c1), (2, .int c2)]) hx hb dX9_legs_5 rfl hl (by decide) rfl (fun ls hl => ?_)
  refine lv_aload_nN hx hb dX9_legs_6 rfl (lv_at hl 0 rfl) ?_
  refine lv_ifnullN (tgt := 14) hx hb dX9_legs_7 (by decide) ?_
  refine lv_iconst (v := (-1)) hx hb dX9_legs_14 (by decide) ?_
  exact W.iret (v := (-1)) hx hb hr (fun t ht hW => ⟨_, rfl, rfl, ht⟩) (fun _ h9 => absurd h9 List.not_mem_nil) dX9_legs_15

set_option maxHeartbeats 4000000 in
set_option maxRecDepth 100000 in
theorem c_M_judge (l : Launch) (dC : Nat → ClassId) (dI : Nat → Nat → Nat) (mx : Nat) (lc : Nat) (lr : Nat) (kn : Nat) (lt : Nat) (ml : Nat) (mm : Nat) (lp : Nat) (lb : Nat) (mq : Nat) (d : Nat) (c1 : Int32) : Met l yX9_judge wsX9_judge ({ frames := 3, cells := 0, slots := 0, locals := 62 }) (va_Pc [.ref mx, .int c1] (PS dC dI [(mx, .inr (14, [.ref lc, .ref lr, .ref kn, .ref lt, .ref ml, .ref mm, .ref lp, .ref lb, .ref mq, .int 1, .int 10, .int 0, .int 0])), (lc, .inr (4, [.int 0, .ref d, .int 0]))] [])) (vp_Si (fun r => r = (-1))) 0 0 (fun _ => False) := by
  refine Met.ofW (cc := cX9_judge) (maxL := 3) (ret := (some .int)) (by decide) rfl ?_
  intro p e s m args below meth c s₁ B hml hv
  obtain ⟨rfl, hP, hK, hF⟩ := hv
  have hx := B.exec
  have hb := B.bytes
  have hr := B.returns
  have hts := atoms_spec (ws := wsX9_judge) B.pre
  have hown : s.vm.findClass RX9 = some m.cls := findClass_of_methodNamed B.named
  have hlocks := B.notSynchronized
  have hl := lv_entry ([.ref mx, .int c1]) (n := 3) (Nat.le_of_ble_eq_true rfl)
  rw [lg_entry_eq]
  generalize (lg_sl ([.ref mx, .int c1]) ++ List.replicate (3 - (lg_sl ([.ref mx, .int c1])).length) Slot.unset).toArray = ls at hl ⊢
  have hl : lv_has ls 3 [(0, .ref mx), (1, .int c1)] := hl
  refine lv_aload_n hx hb dX9_judge_0 rfl (lv_at hl 0 rfl) ?_
  refine lv_iload_n hx hb dX9_judge_1 rfl (lv_at hl 1 rfl) ?_
  refine va_csq (va_Run.run (va_runV (As := [.int c1]) (rest := []) ⟨hx, hb, hml, hown, hts⟩ (c_M_essayOf l dC dI mx lc lr kn lt ml mm lp lb mq d c1) (cwV 1 hts gX9_judge_X9_essayOf rfl rfl rfl (by decide +kernel) ⟨Nat.le_of_ble_eq_true rfl, Nat.le_of_ble_eq_true rfl⟩) ⟨PS_blind, va_recv hK hP (ci := 14) (q0 := 0) rfl rfl, PS_pre hP hK hF⟩ rfl rfl hl.1 rfl (lv_room (Nat.le_of_ble_eq_true rfl)) dX9_judge_2 ⟨Nat.le_of_ble_eq_true rfl, Nat.le_of_ble_eq_true rfl⟩)) (fun r_1 hr_1 => ?_)
  subst hr_1
  refine W.eq (g2 := F0 m 5 ls [.null]) rfl ?_
  refine lv_astore_nN (lv' := [(2, .null), (0, .ref mx), (1, .int c1)]) hx hb dX9_judge_5 rfl hl (by decide) rfl (fun ls hl => ?_)
  refine lv_aload_nN hx hb dX9_judge_6 rfl (lv_at hl 0 rfl) ?_
  refine lv_ifnonnullN hx hb dX9_judge_7 ?_
  refine lv_iconst (v := (-1)) hx hb dX9_judge_10 (by decide) ?_
  refine lv_goto (tgt := 19) hx hb dX9_judge_11 (by decide) ?_
  exact W.iret (v := (-1)) hx hb hr (fun t ht hW => ⟨_, rfl, rfl, ht⟩) (fun _ h9 => absurd h9 List.not_mem_nil) dX9_judge_19

set_option maxHeartbeats 4000000 in
set_option maxRecDepth 100000 in
theorem c_M_like (l : Launch) (dC : Nat → ClassId) (dI : Nat → Nat → Nat) (mx : Nat) (lc : Nat) (lr : Nat) (kn : Nat) (lt : Nat) (ml : Nat) (mm : Nat) (lp : Nat) (lb : Nat) (mq : Nat) (d : Nat) (c1 : Int32) (c2 : Int32) : Met l yX9_like wsX9_like ({ frames := 3, cells := 0, slots := 0, locals := 62 }) (va_Pc [.ref mx, .int c1, .int c2] (PS dC dI [(mx, .inr (14, [.ref lc, .ref lr, .ref kn, .ref lt, .ref ml, .ref mm, .ref lp, .ref lb, .ref mq, .int 1, .int 10, .int 0, .int 0])), (lc, .inr (4, [.int 0, .ref d, .int 0]))] [])) (vp_Si (fun r => r = (-1))) 0 0 (fun _ => False) := by
  refine Met.ofW (cc := cX9_like) (maxL := 11) (ret := (some .int)) (by decide) rfl ?_
  intro p e s m args below meth c s₁ B hml hv
  obtain ⟨rfl, hP, hK, hF⟩ := hv
  have hx := B.exec
  have hb := B.bytes
  have hr := B.returns
  have hts := atoms_spec (ws := wsX9_like) B.pre
  have hown : s.vm.findClass RX9 = some m.cls := findClass_of_methodNamed B.named
  have hlocks := B.notSynchronized
  have hl := lv_entry ([.ref mx, .int c1, .int c2]) (n := 11) (Nat.le_of_ble_eq_true rfl)
  rw [lg_entry_eq]
  generalize (lg_sl ([.ref mx, .int c1, .int c2]) ++ List.replicate (11 - (lg_sl ([.ref mx, .int c1, .int c2])).length) Slot.unset).toArray = ls at hl ⊢
  have hl : lv_has ls 11 [(0, .ref mx), (1, .int c1), (2, .int c2)] := hl
  refine lv_aload_n hx hb dX9_like_0 rfl (lv_at hl 0 rfl) ?_
  refine lv_iload_n hx hb dX9_like_1 rfl (lv_at hl 1 rfl) ?_
  refine va_csq (va_Run.run (va_runV (As := [.int c1]) (rest := []) ⟨hx, hb, hml, hown, hts⟩ (c_M_essayOf l dC dI mx lc lr kn lt ml mm lp lb mq d c1) (cwV 1 hts gX9_like_X9_essayOf rfl rfl rfl (by decide +kernel) ⟨Nat.le_of_ble_eq_true rfl, Nat.le_of_ble_eq_true rfl⟩) ⟨PS_blind, va_recv hK hP (ci := 14) (q0 := 0) rfl rfl, PS_pre hP hK hF⟩ rfl rfl hl.1 rfl (lv_room (Nat.le_of_ble_eq_true rfl)) dX9_like_2 ⟨Nat.le_of_ble_eq_true rfl, Nat.le_of_ble_eq_true rfl⟩)) (fun r_1 hr_1 => ?_)
  subst hr_1
  refine W.eq (g2 := F0 m 5 ls [.null]) rfl ?_
  refine lv_astore_nN (lv' := [(3, .null), (0, .ref mx), (1, .int c1), (2, .int c2)]) hx hb dX9_like_5 rfl hl (by decide) rfl (fun ls hl => ?_)
  refine lv_aload_n hx hb dX9_like_6 rfl (lv_at hl 1 rfl) ?_
  refine lv_iload_n hx hb dX9_like_7 rfl (lv_at hl 3 rfl) ?_
  refine va_csq (va_Run.run (va_runV (As := [.int c2]) (rest := []) ⟨hx, hb, hml, hown, hts⟩ (c_M_essayOf l dC dI mx lc lr kn lt ml mm lp lb mq d c2) (cwV 1 hts gX9_like_X9_essayOf rfl rfl rfl (by decide +kernel) ⟨Nat.le_of_ble_eq_true rfl, Nat.le_of_ble_eq_true rfl⟩) ⟨PS_blind, va_recv hK hP (ci := 14) (q0 := 0) rfl rfl, PS_pre hP hK hF⟩ rfl rfl hl.1 rfl (lv_room (Nat.le_of_ble_eq_true rfl)) dX9_like_8 ⟨Nat.le_of_ble_eq_true rfl, Nat.le_of_ble_eq_true rfl⟩)) (fun r_2 hr_2 => ?_)
  subst hr_2
  refine W.eq (g2 := F0 m 11 ls [.null]) rfl ?_
  refine lv_astoreN (lv' := [(4, .null), (3, .null), (0, .ref mx), (1, .int c1), (2, .int c2)]) hx hb dX9_like_11 hl (by decide) rfl (fun ls hl => ?_)
  refine lv_aload_nN hx hb dX9_like_13 rfl (lv_at hl 1 rfl) ?_
  refine lv_ifnullN (tgt := 22) hx hb dX9_like_14 (by decide) ?_
  refine lv_iconst (v := (-1)) hx hb dX9_like_22 (by decide) ?_
  exact W.iret (v := (-1)) hx hb hr (fun t ht hW => ⟨_, rfl, rfl, ht⟩) (fun _ h9 => absurd h9 List.not_mem_nil) dX9_like_23

set_option maxHeartbeats 4000000 in
set_option maxRecDepth 100000 in
theorem c_M_number (l : Launch) (dC : Nat → ClassId) (dI : Nat → Nat → Nat) (mx : Nat) (lc : Nat) (lr : Nat) (kn : Nat) (lt : Nat) (ml : Nat) (mm : Nat) (lp : Nat) (lb : Nat) (mq : Nat) (d : Nat) (c1 : Int32) (c2 : Int32) : Met l yX9_number wsX9_number ({ frames := 2, cells := 0, slots := 0, locals := 41 }) (va_Pc [.ref mx, .int c1, .int c2] (PS dC dI [(mx, .inr (14, [.ref lc, .ref lr, .ref kn, .ref lt, .ref ml, .ref mm, .ref lp, .ref lb, .ref mq, .int 1, .int 10, .int 0, .int 0])), (lc, .inr (4, [.int 0, .ref d, .int 0]))] [])) (vp_Si (fun r => r = (-5))) 0 0 (fun _ => False) := by
  refine Met.ofW (cc := cX9_number) (maxL := 4) (ret := (some .int)) (by decide) rfl ?_
  intro p e s m args below meth c s₁ B hml hv
  obtain ⟨rfl, hP, hK, hF⟩ := hv
  have hx := B.exec
  have hb := B.bytes
  have hr := B.returns
  have hts := atoms_spec (ws := wsX9_number) B.pre
  have hown : s.vm.findClass RX9 = some m.cls := findClass_of_methodNamed B.named
  have hlocks := B.notSynchronized
  have hl := lv_entry ([.ref mx, .int c1, .int c2]) (n := 4) (Nat.le_of_ble_eq_true rfl)
  rw [lg_entry_eq]
  generalize (lg_sl ([.ref mx, .int c1, .int c2]) ++ List.replicate (4 - (lg_sl ([.ref mx, .int c1, .int c2])).length) Slot.unset).toArray = ls at hl ⊢
  have hl : lv_has ls 4 [(0, .ref mx), (1, .int c1), (2, .int c2)] := hl
  refine lv_aload_n hx hb dX9_number_0 rfl (lv_at hl 0 rfl) ?_
  refine lv_iload_n hx hb dX9_number_1 rfl (lv_at hl 1 rfl) ?_
  refine vp_callSi (va_Run.run (va_runV (As := [.int c1]) (rest := []) ⟨hx, hb, hml, hown, hts⟩ (c_M_isCandidate l dC dI mx lc lr kn lt ml mm lp lb mq d c1) (cwV 1 hts gX9_number_X9_isCandidate rfl rfl rfl (by decide +kernel) ⟨Nat.le_of_ble_eq_true rfl, Nat.le_of_ble_eq_true rfl⟩) ⟨PS_blind, va_recv hK hP (ci := 14) (q0 := 0) rfl rfl, PS_pre hP hK hF⟩ rfl rfl hl.1 rfl (lv_room (Nat.le_of_ble_eq_true rfl)) dX9_number_2 ⟨Nat.le_of_ble_eq_true rfl, Nat.le_of_ble_eq_true rfl⟩)) (fun r_1 hr_1 => ?_)
  subst hr_1
  refine lv_if_ne (tgt := 11) hx hb dX9_number_5 (by decide) (fun c_2 => absurd (by decide) c_2) (fun _ => ?_)
  refine lv_bipush (v := (-5)) hx hb dX9_number_8 (by decide) ?_
  exact W.iret (v := (-5)) hx hb hr (fun t ht hW => ⟨_, rfl, rfl, ht⟩) (fun _ h9 => absurd h9 List.not_mem_nil) dX9_number_10

def sp_M_sees (c1 : Int32) : Int32 := if c1 < 0 then (-1) else if 7 < c1 then (-1) else (-1)
set_option maxHeartbeats 4000000 in
set_option maxRecDepth 100000 in
theorem c_M_sees (l : Launch) (dC : Nat → ClassId) (dI : Nat → Nat → Nat) (mx : Nat) (lc : Nat) (lr : Nat) (kn : Nat) (lt : Nat) (ml : Nat) (mm : Nat) (lp : Nat) (lb : Nat) (mq : Nat) (d : Nat) (c1 : Int32) (c2 : Int32) (c3 : Int32) (c4 : Int32) : Met l yX9_sees wsX9_sees ({ frames := 2, cells := 0, slots := 0, locals := 41 }) (va_Pc [.ref mx, .int c1, .int c2, .int c3, .int c4] (PS dC dI [(mx, .inr (14, [.ref lc, .ref lr, .ref kn, .ref lt, .ref ml, .ref mm, .ref lp, .ref lb, .ref mq, .int 1, .int 10, .int 0, .int 0])), (lc, .inr (4, [.int 0, .ref d, .int 0]))] [])) (vp_Si (fun r => r = sp_M_sees c1)) 0 0 (fun _ => False) := by
  refine Met.ofW (cc := cX9_sees) (maxL := 6) (ret := (some .int)) (by decide) rfl ?_
  intro p e s m args below meth c s₁ B hml hv
  obtain ⟨rfl, hP, hK, hF⟩ := hv
  have hx := B.exec
  have hb := B.bytes
  have hr := B.returns
  have hts := atoms_spec (ws := wsX9_sees) B.pre
  have hown : s.vm.findClass RX9 = some m.cls := findClass_of_methodNamed B.named
  have hlocks := B.notSynchronized
  have hl := lv_entry ([.ref mx, .int c1, .int c2, .int c3, .int c4]) (n := 6) (Nat.le_of_ble_eq_true rfl)
  rw [lg_entry_eq]
  generalize (lg_sl ([.ref mx, .int c1, .int c2, .int c3, .int c4]) ++ List.replicate (6 - (lg_sl ([.ref mx, .int c1, .int c2, .int c3, .int c4])).length) Slot.unset).toArray = ls at hl ⊢
  have hl : lv_has ls 6 [(0, .ref mx), (1, .int c1), (2, .int c2), (3, .int c3), (4, .int c4)] := hl
  refine lv_iload_n hx hb dX9_sees_0 rfl (lv_at hl 1 rfl) ?_
  refine lv_if_lt (tgt := 38) hx hb dX9_sees_1 (by decide) (fun c_1 => ?_) (fun c_1 => ?_)
  · skip
    refine lv_iconst (v := (-1)) hx hb dX9_sees_38 (by decide) ?_
    exact W.iret (v := (-1)) hx hb hr (fun t ht hW => ⟨_, rfl, (by simp only [sp_M_sees, if_pos c_1]), ht⟩) (fun _ h9 => absurd h9 List.not_mem_nil) dX9_sees_39
  · skip
    refine lv_iload_n hx hb dX9_sees_4 rfl (lv_at hl 1 rfl) ?_
    refine lv_bipush (v := 7) hx hb dX9_sees_5 (by decide) ?_
    refine lv_icmp_gt (tgt := 38) hx hb dX9_sees_7 (by decide) (fun c_2 => ?_) (fun c_2 => ?_)
    · skip
      refine lv_iconst (v := (-1)) hx hb dX9_sees_38 (by decide) ?_
      exact W.iret (v := (-1)) hx hb hr (fun t ht hW => ⟨_, rfl, (by simp only [sp_M_sees, if_neg c_1, if_pos c_2]), ht⟩) (fun _ h9 => absurd h9 List.not_mem_nil) dX9_sees_39
    · skip
      refine lv_aload_n hx hb dX9_sees_10 rfl (lv_at hl 0 rfl) ?_
      refine lv_iload_n hx hb dX9_sees_11 rfl (lv_at hl 2 rfl) ?_
      refine vp_callSi (va_Run.run (va_runV (As := [.int c2]) (rest := []) ⟨hx, hb, hml, hown, hts⟩ (c_M_isCandidate l dC dI mx lc lr kn lt ml mm lp lb mq d c2) (cwV 1 hts gX9_sees_X9_isCandidate rfl rfl rfl (by decide +kernel) ⟨Nat.le_of_ble_eq_true rfl, Nat.le_of_ble_eq_true rfl⟩) ⟨PS_blind, va_recv hK hP (ci := 14) (q0 := 0) rfl rfl, PS_pre hP hK hF⟩ rfl rfl hl.1 rfl (lv_room (Nat.le_of_ble_eq_true rfl)) dX9_sees_12 ⟨Nat.le_of_ble_eq_true rfl, Nat.le_of_ble_eq_true rfl⟩)) (fun r_3 hr_3 => ?_)
      subst hr_3
      refine lv_if_eq (tgt := 38) hx hb dX9_sees_15 (by decide) (fun _ => ?_) (fun c_4 => absurd (by decide) c_4)
      refine lv_iconst (v := (-1)) hx hb dX9_sees_38 (by decide) ?_
      exact W.iret (v := (-1)) hx hb hr (fun t ht hW => ⟨_, rfl, (by simp only [sp_M_sees, if_neg c_1, if_neg c_2]), ht⟩) (fun _ h9 => absurd h9 List.not_mem_nil) dX9_sees_39

set_option maxHeartbeats 4000000 in
set_option maxRecDepth 100000 in
theorem c_M_reading (l : Launch) (dC : Nat → ClassId) (dI : Nat → Nat → Nat) (mx : Nat) (lc : Nat) (lr : Nat) (kn : Nat) (lt : Nat) (ml : Nat) (mm : Nat) (lp : Nat) (lb : Nat) (mq : Nat) (d : Nat) (c1 : Int32) (c2 : Int32) (c3 : Int32) : Met l yX9_reading wsX9_reading ({ frames := 2, cells := 0, slots := 0, locals := 41 }) (va_Pc [.ref mx, .int c1, .int c2, .int c3] (PS dC dI [(mx, .inr (14, [.ref lc, .ref lr, .ref kn, .ref lt, .ref ml, .ref mm, .ref lp, .ref lb, .ref mq, .int 1, .int 10, .int 0, .int 0])), (lc, .inr (4, [.int 0, .ref d, .int 0]))] [])) (vp_Si (fun r => r = (-1))) 0 0 (fun _ => False) := by
  refine Met.ofW (cc := cX9_reading) (maxL := 5) (ret := (some .int)) (by decide) rfl ?_
  intro p e s m args below meth c s₁ B hml hv
  obtain ⟨rfl, hP, hK, hF⟩ := hv
  have hx := B.exec
  have hb := B.bytes
  have hr := B.returns
  have hts := atoms_spec (ws := wsX9_reading) B.pre
  have hown : s.vm.findClass RX9 = some m.cls := findClass_of_methodNamed B.named
  have hlocks := B.notSynchronized
  have hl := lv_entry ([.ref mx, .int c1, .int c2, .int c3]) (n := 5) (Nat.le_of_ble_eq_true rfl)
  rw [lg_entry_eq]
  generalize (lg_sl ([.ref mx, .int c1, .int c2, .int c3]) ++ List.replicate (5 - (lg_sl ([.ref mx, .int c1, .int c2, .int c3])).length) Slot.unset).toArray = ls at hl ⊢
  have hl : lv_has ls 5 [(0, .ref mx), (1, .int c1), (2, .int c2), (3, .int c3)] := hl
  refine lv_aload_n hx hb dX9_reading_0 rfl (lv_at hl 0 rfl) ?_
  refine lv_iload_n hx hb dX9_reading_1 rfl (lv_at hl 1 rfl) ?_
  refine vp_callSi (va_Run.run (va_runV (As := [.int c1]) (rest := []) ⟨hx, hb, hml, hown, hts⟩ (c_M_isCandidate l dC dI mx lc lr kn lt ml mm lp lb mq d c1) (cwV 1 hts gX9_reading_X9_isCandidate rfl rfl rfl (by decide +kernel) ⟨Nat.le_of_ble_eq_true rfl, Nat.le_of_ble_eq_true rfl⟩) ⟨PS_blind, va_recv hK hP (ci := 14) (q0 := 0) rfl rfl, PS_pre hP hK hF⟩ rfl rfl hl.1 rfl (lv_room (Nat.le_of_ble_eq_true rfl)) dX9_reading_2 ⟨Nat.le_of_ble_eq_true rfl, Nat.le_of_ble_eq_true rfl⟩)) (fun r_1 hr_1 => ?_)
  subst hr_1
  refine lv_if_ne (tgt := 10) hx hb dX9_reading_5 (by decide) (fun c_2 => absurd (by decide) c_2) (fun _ => ?_)
  refine lv_iconst (v := (-1)) hx hb dX9_reading_8 (by decide) ?_
  exact W.iret (v := (-1)) hx hb hr (fun t ht hW => ⟨_, rfl, rfl, ht⟩) (fun _ h9 => absurd h9 List.not_mem_nil) dX9_reading_9

set_option maxHeartbeats 4000000 in
set_option maxRecDepth 100000 in
theorem c_M_score (l : Launch) (dC : Nat → ClassId) (dI : Nat → Nat → Nat) (mx : Nat) (lc : Nat) (lr : Nat) (kn : Nat) (lt : Nat) (ml : Nat) (mm : Nat) (lp : Nat) (lb : Nat) (mq : Nat) (d : Nat) (c1 : Int32) (c2 : Int32) : Met l yX9_score wsX9_score ({ frames := 2, cells := 0, slots := 0, locals := 41 }) (va_Pc [.ref mx, .int c1, .int c2] (PS dC dI [(mx, .inr (14, [.ref lc, .ref lr, .ref kn, .ref lt, .ref ml, .ref mm, .ref lp, .ref lb, .ref mq, .int 1, .int 10, .int 0, .int 0])), (lc, .inr (4, [.int 0, .ref d, .int 0]))] [])) (vp_Si (fun r => r = (-1))) 0 0 (fun _ => False) := by
  refine Met.ofW (cc := cX9_score) (maxL := 3) (ret := (some .int)) (by decide) rfl ?_
  intro p e s m args below meth c s₁ B hml hv
  obtain ⟨rfl, hP, hK, hF⟩ := hv
  have hx := B.exec
  have hb := B.bytes
  have hr := B.returns
  have hts := atoms_spec (ws := wsX9_score) B.pre
  have hown : s.vm.findClass RX9 = some m.cls := findClass_of_methodNamed B.named
  have hlocks := B.notSynchronized
  have hl := lv_entry ([.ref mx, .int c1, .int c2]) (n := 3) (Nat.le_of_ble_eq_true rfl)
  rw [lg_entry_eq]
  generalize (lg_sl ([.ref mx, .int c1, .int c2]) ++ List.replicate (3 - (lg_sl ([.ref mx, .int c1, .int c2])).length) Slot.unset).toArray = ls at hl ⊢
  have hl : lv_has ls 3 [(0, .ref mx), (1, .int c1), (2, .int c2)] := hl
  refine lv_aload_n hx hb dX9_score_0 rfl (lv_at hl 0 rfl) ?_
  refine lv_iload_n hx hb dX9_score_1 rfl (lv_at hl 1 rfl) ?_
  refine vp_callSi (va_Run.run (va_runV (As := [.int c1]) (rest := []) ⟨hx, hb, hml, hown, hts⟩ (c_M_isCandidate l dC dI mx lc lr kn lt ml mm lp lb mq d c1) (cwV 1 hts gX9_score_X9_isCandidate rfl rfl rfl (by decide +kernel) ⟨Nat.le_of_ble_eq_true rfl, Nat.le_of_ble_eq_true rfl⟩) ⟨PS_blind, va_recv hK hP (ci := 14) (q0 := 0) rfl rfl, PS_pre hP hK hF⟩ rfl rfl hl.1 rfl (lv_room (Nat.le_of_ble_eq_true rfl)) dX9_score_2 ⟨Nat.le_of_ble_eq_true rfl, Nat.le_of_ble_eq_true rfl⟩)) (fun r_1 hr_1 => ?_)
  subst hr_1
  refine lv_if_eq (tgt := 17) hx hb dX9_score_5 (by decide) (fun _ => ?_) (fun c_2 => absurd (by decide) c_2)
  refine lv_iconst (v := (-1)) hx hb dX9_score_17 (by decide) ?_
  exact W.iret (v := (-1)) hx hb hr (fun t ht hW => ⟨_, rfl, rfl, ht⟩) (fun _ h9 => absurd h9 List.not_mem_nil) dX9_score_18

set_option maxHeartbeats 4000000 in
set_option maxRecDepth 100000 in
theorem c_M_passes (l : Launch) (dC : Nat → ClassId) (dI : Nat → Nat → Nat) (mx : Nat) (lc : Nat) (lr : Nat) (kn : Nat) (lt : Nat) (ml : Nat) (mm : Nat) (lp : Nat) (lb : Nat) (mq : Nat) (d : Nat) (c1 : Int32) : Met l yX9_passes wsX9_passes ({ frames := 2, cells := 0, slots := 0, locals := 41 }) (va_Pc [.ref mx, .int c1] (PS dC dI [(mx, .inr (14, [.ref lc, .ref lr, .ref kn, .ref lt, .ref ml, .ref mm, .ref lp, .ref lb, .ref mq, .int 1, .int 10, .int 0, .int 0])), (lc, .inr (4, [.int 0, .ref d, .int 0]))] [])) (vp_Si (fun r => r = (-1))) 0 0 (fun _ => False) := by
  refine Met.ofW (cc := cX9_passes) (maxL := 6) (ret := (some .int)) (by decide) rfl ?_
  intro p e s m args below meth c s₁ B hml hv
  obtain ⟨rfl, hP, hK, hF⟩ := hv
  have hx := B.exec
  have hb := B.bytes
  have hr := B.returns
  have hts := atoms_spec (ws := wsX9_passes) B.pre
  have hown : s.vm.findClass RX9 = some m.cls := findClass_of_methodNamed B.named
  have hlocks := B.notSynchronized
  have hl := lv_entry ([.ref mx, .int c1]) (n := 6) (Nat.le_of_ble_eq_true rfl)
  rw [lg_entry_eq]
  generalize (lg_sl ([.ref mx, .int c1]) ++ List.replicate (6 - (lg_sl ([.ref mx, .int c1])).length) Slot.unset).toArray = ls at hl ⊢
  have hl : lv_has ls 6 [(0, .ref mx), (1, .int c1)] := hl
  refine lv_aload_n hx hb dX9_passes_0 rfl (lv_at hl 0 rfl) ?_
  refine lv_iload_n hx hb dX9_passes_1 rfl (lv_at hl 1 rfl) ?_
  refine vp_callSi (va_Run.run (va_runV (As := [.int c1]) (rest := []) ⟨hx, hb, hml, hown, hts⟩ (c_M_isCandidate l dC dI mx lc lr kn lt ml mm lp lb mq d c1) (cwV 1 hts gX9_passes_X9_isCandidate rfl rfl rfl (by decide +kernel) ⟨Nat.le_of_ble_eq_true rfl, Nat.le_of_ble_eq_true rfl⟩) ⟨PS_blind, va_recv hK hP (ci := 14) (q0 := 0) rfl rfl, PS_pre hP hK hF⟩ rfl rfl hl.1 rfl (lv_room (Nat.le_of_ble_eq_true rfl)) dX9_passes_2 ⟨Nat.le_of_ble_eq_true rfl, Nat.le_of_ble_eq_true rfl⟩)) (fun r_1 hr_1 => ?_)
  subst hr_1
  refine lv_if_ne (tgt := 10) hx hb dX9_passes_5 (by decide) (fun c_2 => absurd (by decide) c_2) (fun _ => ?_)
  refine lv_iconst (v := (-1)) hx hb dX9_passes_8 (by decide) ?_
  exact W.iret (v := (-1)) hx hb hr (fun t ht hW => ⟨_, rfl, rfl, ht⟩) (fun _ h9 => absurd h9 List.not_mem_nil) dX9_passes_9

set_option maxHeartbeats 4000000 in
set_option maxRecDepth 100000 in
theorem c_M_strike (l : Launch) (dC : Nat → ClassId) (dI : Nat → Nat → Nat) (mx : Nat) (lc : Nat) (lr : Nat) (kn : Nat) (lt : Nat) (ml : Nat) (mm : Nat) (lp : Nat) (lb : Nat) (mq : Nat) (d : Nat) (c1 : Int32) (c2 : Int32) : Met l yX9_strike wsX9_strike ({ frames := 2, cells := 0, slots := 0, locals := 41 }) (va_Pc [.ref mx, .int c1, .int c2] (PS dC dI [(mx, .inr (14, [.ref lc, .ref lr, .ref kn, .ref lt, .ref ml, .ref mm, .ref lp, .ref lb, .ref mq, .int 1, .int 10, .int 0, .int 0])), (lc, .inr (4, [.int 0, .ref d, .int 0]))] [])) (vp_Si (fun r => r = (-1))) 0 0 (fun _ => False) := by
  refine Met.ofW (cc := cX9_strike) (maxL := 5) (ret := (some .int)) (by decide) rfl ?_
  intro p e s m args below meth c s₁ B hml hv
  obtain ⟨rfl, hP, hK, hF⟩ := hv
  have hx := B.exec
  have hb := B.bytes
  have hr := B.returns
  have hts := atoms_spec (ws := wsX9_strike) B.pre
  have hown : s.vm.findClass RX9 = some m.cls := findClass_of_methodNamed B.named
  have hlocks := B.notSynchronized
  have hl := lv_entry ([.ref mx, .int c1, .int c2]) (n := 5) (Nat.le_of_ble_eq_true rfl)
  rw [lg_entry_eq]
  generalize (lg_sl ([.ref mx, .int c1, .int c2]) ++ List.replicate (5 - (lg_sl ([.ref mx, .int c1, .int c2])).length) Slot.unset).toArray = ls at hl ⊢
  have hl : lv_has ls 5 [(0, .ref mx), (1, .int c1), (2, .int c2)] := hl
  refine lv_aload_n hx hb dX9_strike_0 rfl (lv_at hl 0 rfl) ?_
  refine lv_iload_n hx hb dX9_strike_1 rfl (lv_at hl 1 rfl) ?_
  refine vp_callSi (va_Run.run (va_runV (As := [.int c1]) (rest := []) ⟨hx, hb, hml, hown, hts⟩ (c_M_isCandidate l dC dI mx lc lr kn lt ml mm lp lb mq d c1) (cwV 1 hts gX9_strike_X9_isCandidate rfl rfl rfl (by decide +kernel) ⟨Nat.le_of_ble_eq_true rfl, Nat.le_of_ble_eq_true rfl⟩) ⟨PS_blind, va_recv hK hP (ci := 14) (q0 := 0) rfl rfl, PS_pre hP hK hF⟩ rfl rfl hl.1 rfl (lv_room (Nat.le_of_ble_eq_true rfl)) dX9_strike_2 ⟨Nat.le_of_ble_eq_true rfl, Nat.le_of_ble_eq_true rfl⟩)) (fun r_1 hr_1 => ?_)
  subst hr_1
  refine lv_if_ne (tgt := 10) hx hb dX9_strike_5 (by decide) (fun c_2 => absurd (by decide) c_2) (fun _ => ?_)
  refine lv_iconst (v := (-1)) hx hb dX9_strike_8 (by decide) ?_
  exact W.iret (v := (-1)) hx hb hr (fun t ht hW => ⟨_, rfl, rfl, ht⟩) (fun _ h9 => absurd h9 List.not_mem_nil) dX9_strike_9

set_option maxHeartbeats 4000000 in
set_option maxRecDepth 100000 in
theorem c_M_ifStruck (l : Launch) (dC : Nat → ClassId) (dI : Nat → Nat → Nat) (mx : Nat) (lc : Nat) (lr : Nat) (kn : Nat) (lt : Nat) (ml : Nat) (mm : Nat) (lp : Nat) (lb : Nat) (mq : Nat) (d : Nat) (c1 : Int32) : Met l yX9_ifStruck wsX9_ifStruck ({ frames := 2, cells := 0, slots := 0, locals := 41 }) (va_Pc [.ref mx, .int c1] (PS dC dI [(mx, .inr (14, [.ref lc, .ref lr, .ref kn, .ref lt, .ref ml, .ref mm, .ref lp, .ref lb, .ref mq, .int 1, .int 10, .int 0, .int 0])), (lc, .inr (4, [.int 0, .ref d, .int 0]))] [])) (vp_Si (fun r => r = (-1))) 0 0 (fun _ => False) := by
  refine Met.ofW (cc := cX9_ifStruck) (maxL := 8) (ret := (some .int)) (by decide) rfl ?_
  intro p e s m args below meth c s₁ B hml hv
  obtain ⟨rfl, hP, hK, hF⟩ := hv
  have hx := B.exec
  have hb := B.bytes
  have hr := B.returns
  have hts := atoms_spec (ws := wsX9_ifStruck) B.pre
  have hown : s.vm.findClass RX9 = some m.cls := findClass_of_methodNamed B.named
  have hlocks := B.notSynchronized
  have hl := lv_entry ([.ref mx, .int c1]) (n := 8) (Nat.le_of_ble_eq_true rfl)
  rw [lg_entry_eq]
  generalize (lg_sl ([.ref mx, .int c1]) ++ List.replicate (8 - (lg_sl ([.ref mx, .int c1])).length) Slot.unset).toArray = ls at hl ⊢
  have hl : lv_has ls 8 [(0, .ref mx), (1, .int c1)] := hl
  refine lv_aload_n hx hb dX9_ifStruck_0 rfl (lv_at hl 0 rfl) ?_
  refine lv_iload_n hx hb dX9_ifStruck_1 rfl (lv_at hl 1 rfl) ?_
  refine vp_callSi (va_Run.run (va_runV (As := [.int c1]) (rest := []) ⟨hx, hb, hml, hown, hts⟩ (c_M_isCandidate l dC dI mx lc lr kn lt ml mm lp lb mq d c1) (cwV 1 hts gX9_ifStruck_X9_isCandidate rfl rfl rfl (by decide +kernel) ⟨Nat.le_of_ble_eq_true rfl, Nat.le_of_ble_eq_true rfl⟩) ⟨PS_blind, va_recv hK hP (ci := 14) (q0 := 0) rfl rfl, PS_pre hP hK hF⟩ rfl rfl hl.1 rfl (lv_room (Nat.le_of_ble_eq_true rfl)) dX9_ifStruck_2 ⟨Nat.le_of_ble_eq_true rfl, Nat.le_of_ble_eq_true rfl⟩)) (fun r_1 hr_1 => ?_)
  subst hr_1
  refine lv_if_ne (tgt := 10) hx hb dX9_ifStruck_5 (by decide) (fun c_2 => absurd (by decide) c_2) (fun _ => ?_)
  refine lv_iconst (v := (-1)) hx hb dX9_ifStruck_8 (by decide) ?_
  exact W.iret (v := (-1)) hx hb hr (fun t ht hW => ⟨_, rfl, rfl, ht⟩) (fun _ h9 => absurd h9 List.not_mem_nil) dX9_ifStruck_9

set_option maxHeartbeats 4000000 in
set_option maxRecDepth 100000 in
theorem c_M_cell (l : Launch) (dC : Nat → ClassId) (dI : Nat → Nat → Nat) (mx : Nat) (lc : Nat) (lr : Nat) (kn : Nat) (lt : Nat) (ml : Nat) (mm : Nat) (lp : Nat) (lb : Nat) (mq : Nat) (d : Nat) (c1 : Int32) (c2 : Int32) : Met l yX9_cell wsX9_cell ({ frames := 2, cells := 0, slots := 0, locals := 41 }) (va_Pc [.ref mx, .int c1, .int c2] (PS dC dI [(mx, .inr (14, [.ref lc, .ref lr, .ref kn, .ref lt, .ref ml, .ref mm, .ref lp, .ref lb, .ref mq, .int 1, .int 10, .int 0, .int 0])), (lc, .inr (4, [.int 0, .ref d, .int 0]))] [])) (vp_Si (fun r => r = (-5))) 0 0 (fun _ => False) := by
  refine Met.ofW (cc := cX9_cell) (maxL := 4) (ret := (some .int)) (by decide) rfl ?_
  intro p e s m args below meth c s₁ B hml hv
  obtain ⟨rfl, hP, hK, hF⟩ := hv
  have hx := B.exec
  have hb := B.bytes
  have hr := B.returns
  have hts := atoms_spec (ws := wsX9_cell) B.pre
  have hown : s.vm.findClass RX9 = some m.cls := findClass_of_methodNamed B.named
  have hlocks := B.notSynchronized
  have hl := lv_entry ([.ref mx, .int c1, .int c2]) (n := 4) (Nat.le_of_ble_eq_true rfl)
  rw [lg_entry_eq]
  generalize (lg_sl ([.ref mx, .int c1, .int c2]) ++ List.replicate (4 - (lg_sl ([.ref mx, .int c1, .int c2])).length) Slot.unset).toArray = ls at hl ⊢
  have hl : lv_has ls 4 [(0, .ref mx), (1, .int c1), (2, .int c2)] := hl
  refine lv_aload_n hx hb dX9_cell_0 rfl (lv_at hl 0 rfl) ?_
  refine lv_iload_n hx hb dX9_cell_1 rfl (lv_at hl 1 rfl) ?_
  refine vp_callSi (va_Run.run (va_runV (As := [.int c1]) (rest := []) ⟨hx, hb, hml, hown, hts⟩ (c_M_isCandidate l dC dI mx lc lr kn lt ml mm lp lb mq d c1) (cwV 1 hts gX9_cell_X9_isCandidate rfl rfl rfl (by decide +kernel) ⟨Nat.le_of_ble_eq_true rfl, Nat.le_of_ble_eq_true rfl⟩) ⟨PS_blind, va_recv hK hP (ci := 14) (q0 := 0) rfl rfl, PS_pre hP hK hF⟩ rfl rfl hl.1 rfl (lv_room (Nat.le_of_ble_eq_true rfl)) dX9_cell_2 ⟨Nat.le_of_ble_eq_true rfl, Nat.le_of_ble_eq_true rfl⟩)) (fun r_1 hr_1 => ?_)
  subst hr_1
  refine lv_if_ne (tgt := 11) hx hb dX9_cell_5 (by decide) (fun c_2 => absurd (by decide) c_2) (fun _ => ?_)
  refine lv_bipush (v := (-5)) hx hb dX9_cell_8 (by decide) ?_
  exact W.iret (v := (-5)) hx hb hr (fun t ht hW => ⟨_, rfl, rfl, ht⟩) (fun _ h9 => absurd h9 List.not_mem_nil) dX9_cell_10

set_option maxHeartbeats 4000000 in
set_option maxRecDepth 100000 in
theorem c_M_kin (l : Launch) (dC : Nat → ClassId) (dI : Nat → Nat → Nat) (mx : Nat) (lc : Nat) (lr : Nat) (kn : Nat) (lt : Nat) (ml : Nat) (mm : Nat) (lp : Nat) (lb : Nat) (mq : Nat) (d : Nat) (c1 : Int32) (c2 : Int32) : Met l yX9_kin wsX9_kin ({ frames := 2, cells := 0, slots := 0, locals := 41 }) (va_Pc [.ref mx, .int c1, .int c2] (PS dC dI [(mx, .inr (14, [.ref lc, .ref lr, .ref kn, .ref lt, .ref ml, .ref mm, .ref lp, .ref lb, .ref mq, .int 1, .int 10, .int 0, .int 0])), (lc, .inr (4, [.int 0, .ref d, .int 0]))] [])) (vp_Si (fun r => r = (-1))) 0 0 (fun _ => False) := by
  refine Met.ofW (cc := cX9_kin) (maxL := 3) (ret := (some .int)) (by decide) rfl ?_
  intro p e s m args below meth c s₁ B hml hv
  obtain ⟨rfl, hP, hK, hF⟩ := hv
  have hx := B.exec
  have hb := B.bytes
  have hr := B.returns
  have hts := atoms_spec (ws := wsX9_kin) B.pre
  have hown : s.vm.findClass RX9 = some m.cls := findClass_of_methodNamed B.named
  have hlocks := B.notSynchronized
  have hl := lv_entry ([.ref mx, .int c1, .int c2]) (n := 3) (Nat.le_of_ble_eq_true rfl)
  rw [lg_entry_eq]
  generalize (lg_sl ([.ref mx, .int c1, .int c2]) ++ List.replicate (3 - (lg_sl ([.ref mx, .int c1, .int c2])).length) Slot.unset).toArray = ls at hl ⊢
  have hl : lv_has ls 3 [(0, .ref mx), (1, .int c1), (2, .int c2)] := hl
  refine lv_aload_n hx hb dX9_kin_0 rfl (lv_at hl 0 rfl) ?_
  refine lv_iload_n hx hb dX9_kin_1 rfl (lv_at hl 1 rfl) ?_
  refine vp_callSi (va_Run.run (va_runV (As := [.int c1]) (rest := []) ⟨hx, hb, hml, hown, hts⟩ (c_M_isCandidate l dC dI mx lc lr kn lt ml mm lp lb mq d c1) (cwV 1 hts gX9_kin_X9_isCandidate rfl rfl rfl (by decide +kernel) ⟨Nat.le_of_ble_eq_true rfl, Nat.le_of_ble_eq_true rfl⟩) ⟨PS_blind, va_recv hK hP (ci := 14) (q0 := 0) rfl rfl, PS_pre hP hK hF⟩ rfl rfl hl.1 rfl (lv_room (Nat.le_of_ble_eq_true rfl)) dX9_kin_2 ⟨Nat.le_of_ble_eq_true rfl, Nat.le_of_ble_eq_true rfl⟩)) (fun r_1 hr_1 => ?_)
  subst hr_1
  refine lv_if_eq (tgt := 16) hx hb dX9_kin_5 (by decide) (fun _ => ?_) (fun c_2 => absurd (by decide) c_2)
  refine lv_iconst (v := (-1)) hx hb dX9_kin_16 (by decide) ?_
  exact W.iret (v := (-1)) hx hb hr (fun t ht hW => ⟨_, rfl, rfl, ht⟩) (fun _ h9 => absurd h9 List.not_mem_nil) dX9_kin_17

set_option maxHeartbeats 4000000 in
set_option maxRecDepth 100000 in
theorem c_M_word (l : Launch) (dC : Nat → ClassId) (dI : Nat → Nat → Nat) (mx : Nat) (lc : Nat) (lr : Nat) (kn : Nat) (lt : Nat) (ml : Nat) (mm : Nat) (lp : Nat) (lb : Nat) (mq : Nat) (d : Nat) (c1 : Int32) (c2 : Int32) (c3 : Int32) : Met l yX9_word wsX9_word ({ frames := 3, cells := 0, slots := 0, locals := 62 }) (va_Pc [.ref mx, .int c1, .int c2, .int c3] (PS dC dI [(mx, .inr (14, [.ref lc, .ref lr, .ref kn, .ref lt, .ref ml, .ref mm, .ref lp, .ref lb, .ref mq, .int 1, .int 10, .int 0, .int 0])), (lc, .inr (4, [.int 0, .ref d, .int 0]))] [])) (vp_Sl (fun r => r = 0)) 0 0 (fun _ => False) := by
  refine Met.ofW (cc := cX9_word) (maxL := 6) (ret := (some .long)) (by decide) rfl ?_
  intro p e s m args below meth c s₁ B hml hv
  obtain ⟨rfl, hP, hK, hF⟩ := hv
  have hx := B.exec
  have hb := B.bytes
  have hr := B.returns
  have hts := atoms_spec (ws := wsX9_word) B.pre
  have hown : s.vm.findClass RX9 = some m.cls := findClass_of_methodNamed B.named
  have hlocks := B.notSynchronized
  have hl := lv_entry ([.ref mx, .int c1, .int c2, .int c3]) (n := 6) (Nat.le_of_ble_eq_true rfl)
  rw [lg_entry_eq]
  generalize (lg_sl ([.ref mx, .int c1, .int c2, .int c3]) ++ List.replicate (6 - (lg_sl ([.ref mx, .int c1, .int c2, .int c3])).length) Slot.unset).toArray = ls at hl ⊢
  have hl : lv_has ls 6 [(0, .ref mx), (1, .int c1), (2, .int c2), (3, .int c3)] := hl
  refine lv_aload_n hx hb dX9_word_0 rfl (lv_at hl 0 rfl) ?_
  refine lv_iload_n hx hb dX9_word_1 rfl (lv_at hl 1 rfl) ?_
  refine va_csq (va_Run.run (va_runV (As := [.int c1]) (rest := []) ⟨hx, hb, hml, hown, hts⟩ (c_M_essayOf l dC dI mx lc lr kn lt ml mm lp lb mq d c1) (cwV 1 hts gX9_word_X9_essayOf rfl rfl rfl (by decide +kernel) ⟨Nat.le_of_ble_eq_true rfl, Nat.le_of_ble_eq_true rfl⟩) ⟨PS_blind, va_recv hK hP (ci := 14) (q0 := 0) rfl rfl, PS_pre hP hK hF⟩ rfl rfl hl.1 rfl (lv_room (Nat.le_of_ble_eq_true rfl)) dX9_word_2 ⟨Nat.le_of_ble_eq_true rfl, Nat.le_of_ble_eq_true rfl⟩)) (fun r_1 hr_1 => ?_)
  subst hr_1
  refine W.eq (g2 := F0 m 5 ls [.null]) rfl ?_
  refine lv_astoreN (lv' := [(4, .null), (0, .ref mx), (1, .int c1), (2, .int c2), (3, .int c3)]) hx hb dX9_word_5 hl (by decide) rfl (fun ls hl => ?_)
  refine lv_aloadN hx hb dX9_word_7 (lv_at hl 0 rfl) ?_
  refine lv_ifnullN (tgt := 27) hx hb dX9_word_9 (by decide) ?_
  refine lv_lconst (v := 0) hx hb dX9_word_27 (by decide) ?_
  exact W.lret (v := 0) hx hb hr (fun t ht hW => ⟨_, rfl, rfl, ht⟩) (fun _ h9 => absurd h9 List.not_mem_nil) dX9_word_28

set_option maxHeartbeats 4000000 in
set_option maxRecDepth 100000 in
theorem c_M_mark (l : Launch) (dC : Nat → ClassId) (dI : Nat → Nat → Nat) (mx : Nat) (lc : Nat) (lr : Nat) (kn : Nat) (lt : Nat) (ml : Nat) (mm : Nat) (lp : Nat) (lb : Nat) (mq : Nat) (d : Nat) (c1 : Int32) (c2 : Int32) (c3 : Int32) : Met l yX9_mark wsX9_mark ({ frames := 2, cells := 0, slots := 0, locals := 41 }) (va_Pc [.ref mx, .int c1, .int c2, .int c3] (PS dC dI [(mx, .inr (14, [.ref lc, .ref lr, .ref kn, .ref lt, .ref ml, .ref mm, .ref lp, .ref lb, .ref mq, .int 1, .int 10, .int 0, .int 0])), (lc, .inr (4, [.int 0, .ref d, .int 0]))] [])) (vp_Si (fun r => r = (-1))) 0 0 (fun _ => False) := by
  refine Met.ofW (cc := cX9_mark) (maxL := 8) (ret := (some .int)) (by decide) rfl ?_
  intro p e s m args below meth c s₁ B hml hv
  obtain ⟨rfl, hP, hK, hF⟩ := hv
  have hx := B.exec
  have hb := B.bytes
  have hr := B.returns
  have hts := atoms_spec (ws := wsX9_mark) B.pre
  have hown : s.vm.findClass RX9 = some m.cls := findClass_of_methodNamed B.named
  have hlocks := B.notSynchronized
  have hl := lv_entry ([.ref mx, .int c1, .int c2, .int c3]) (n := 8) (Nat.le_of_ble_eq_true rfl)
  rw [lg_entry_eq]
  generalize (lg_sl ([.ref mx, .int c1, .int c2, .int c3]) ++ List.replicate (8 - (lg_sl ([.ref mx, .int c1, .int c2, .int c3])).length) Slot.unset).toArray = ls at hl ⊢
  have hl : lv_has ls 8 [(0, .ref mx), (1, .int c1), (2, .int c2), (3, .int c3)] := hl
  refine lv_aload_n hx hb dX9_mark_0 rfl (lv_at hl 0 rfl) ?_
  refine lv_iload_n hx hb dX9_mark_1 rfl (lv_at hl 1 rfl) ?_
  refine vp_callSi (va_Run.run (va_runV (As := [.int c1]) (rest := []) ⟨hx, hb, hml, hown, hts⟩ (c_M_isCandidate l dC dI mx lc lr kn lt ml mm lp lb mq d c1) (cwV 1 hts gX9_mark_X9_isCandidate rfl rfl rfl (by decide +kernel) ⟨Nat.le_of_ble_eq_true rfl, Nat.le_of_ble_eq_true rfl⟩) ⟨PS_blind, va_recv hK hP (ci := 14) (q0 := 0) rfl rfl, PS_pre hP hK hF⟩ rfl rfl hl.1 rfl (lv_room (Nat.le_of_ble_eq_true rfl)) dX9_mark_2 ⟨Nat.le_of_ble_eq_true rfl, Nat.le_of_ble_eq_true rfl⟩)) (fun r_1 hr_1 => ?_)
  subst hr_1
  refine lv_if_eq (tgt := 16) hx hb dX9_mark_5 (by decide) (fun _ => ?_) (fun c_2 => absurd (by decide) c_2)
  refine lv_iconst (v := (-1)) hx hb dX9_mark_16 (by decide) ?_
  exact W.iret (v := (-1)) hx hb hr (fun t ht hW => ⟨_, rfl, rfl, ht⟩) (fun _ h9 => absurd h9 List.not_mem_nil) dX9_mark_17

set_option maxHeartbeats 4000000 in
set_option maxRecDepth 100000 in
theorem c_M_load (l : Launch) (dC : Nat → ClassId) (dI : Nat → Nat → Nat) (mx : Nat) (lc : Nat) (lr : Nat) (kn : Nat) (lt : Nat) (ml : Nat) (mm : Nat) (lp : Nat) (lb : Nat) (mq : Nat) (d : Nat) (c1 : Int32) : Met l yX9_load wsX9_load ({ frames := 2, cells := 0, slots := 0, locals := 41 }) (va_Pc [.ref mx, .int c1] (PS dC dI [(mx, .inr (14, [.ref lc, .ref lr, .ref kn, .ref lt, .ref ml, .ref mm, .ref lp, .ref lb, .ref mq, .int 1, .int 10, .int 0, .int 0])), (lr, .inr (4, [.int 0, .ref d, .int 0]))] [])) (vp_Si (fun r => r = (-1))) 0 0 (fun _ => False) := by
  refine Met.ofW (cc := cX9_load) (maxL := 2) (ret := (some .int)) (by decide) rfl ?_
  intro p e s m args below meth c s₁ B hml hv
  obtain ⟨rfl, hP, hK, hF⟩ := hv
  have hx := B.exec
  have hb := B.bytes
  have hr := B.returns
  have hts := atoms_spec (ws := wsX9_load) B.pre
  have hown : s.vm.findClass RX9 = some m.cls := findClass_of_methodNamed B.named
  have hlocks := B.notSynchronized
  have hl := lv_entry ([.ref mx, .int c1]) (n := 2) (Nat.le_of_ble_eq_true rfl)
  rw [lg_entry_eq]
  generalize (lg_sl ([.ref mx, .int c1]) ++ List.replicate (2 - (lg_sl ([.ref mx, .int c1])).length) Slot.unset).toArray = ls at hl ⊢
  have hl : lv_has ls 2 [(0, .ref mx), (1, .int c1)] := hl
  refine lv_aload_n hx hb dX9_load_0 rfl (lv_at hl 0 rfl) ?_
  refine lv_iload_n hx hb dX9_load_1 rfl (lv_at hl 1 rfl) ?_
  refine vp_callSi (va_Run.run (va_runV (As := [.int c1]) (rest := []) ⟨hx, hb, hml, hown, hts⟩ (c_M_isReader l dC dI mx lc lr kn lt ml mm lp lb mq d c1) (cwV 1 hts gX9_load_X9_isReader rfl rfl rfl (by decide +kernel) ⟨Nat.le_of_ble_eq_true rfl, Nat.le_of_ble_eq_true rfl⟩) ⟨PS_blind, va_recv hK hP (ci := 14) (q0 := 0) rfl rfl, PS_pre hP hK hF⟩ rfl rfl hl.1 rfl (lv_room (Nat.le_of_ble_eq_true rfl)) dX9_load_2 ⟨Nat.le_of_ble_eq_true rfl, Nat.le_of_ble_eq_true rfl⟩)) (fun r_1 hr_1 => ?_)
  subst hr_1
  refine lv_if_eq (tgt := 16) hx hb dX9_load_5 (by decide) (fun _ => ?_) (fun c_2 => absurd (by decide) c_2)
  refine lv_iconst (v := (-1)) hx hb dX9_load_16 (by decide) ?_
  exact W.iret (v := (-1)) hx hb hr (fun t ht hW => ⟨_, rfl, rfl, ht⟩) (fun _ h9 => absurd h9 List.not_mem_nil) dX9_load_17

set_option maxHeartbeats 4000000 in
set_option maxRecDepth 100000 in
theorem c_M_shift (l : Launch) (dC : Nat → ClassId) (dI : Nat → Nat → Nat) (mx : Nat) (lc : Nat) (lr : Nat) (kn : Nat) (lt : Nat) (ml : Nat) (mm : Nat) (lp : Nat) (lb : Nat) (mq : Nat) (d : Nat) (c1 : Int32) : Met l yX9_shift wsX9_shift ({ frames := 2, cells := 0, slots := 0, locals := 41 }) (va_Pc [.ref mx, .int c1] (PS dC dI [(mx, .inr (14, [.ref lc, .ref lr, .ref kn, .ref lt, .ref ml, .ref mm, .ref lp, .ref lb, .ref mq, .int 1, .int 10, .int 0, .int 0])), (lr, .inr (4, [.int 0, .ref d, .int 0]))] [])) (vp_Si (fun r => r = (-1000))) 0 0 (fun _ => False) := by
  refine Met.ofW (cc := cX9_shift) (maxL := 2) (ret := (some .int)) (by decide) rfl ?_
  intro p e s m args below meth c s₁ B hml hv
  obtain ⟨rfl, hP, hK, hF⟩ := hv
  have hx := B.exec
  have hb := B.bytes
  have hr := B.returns
  have hts := atoms_spec (ws := wsX9_shift) B.pre
  have hown : s.vm.findClass RX9 = some m.cls := findClass_of_methodNamed B.named
  have hlocks := B.notSynchronized
  have hl := lv_entry ([.ref mx, .int c1]) (n := 2) (Nat.le_of_ble_eq_true rfl)
  rw [lg_entry_eq]
  generalize (lg_sl ([.ref mx, .int c1]) ++ List.replicate (2 - (lg_sl ([.ref mx, .int c1])).length) Slot.unset).toArray = ls at hl ⊢
  have hl : lv_has ls 2 [(0, .ref mx), (1, .int c1)] := hl
  refine lv_aload_n hx hb dX9_shift_0 rfl (lv_at hl 0 rfl) ?_
  refine lv_iload_n hx hb dX9_shift_1 rfl (lv_at hl 1 rfl) ?_
  refine vp_callSi (va_Run.run (va_runV (As := [.int c1]) (rest := []) ⟨hx, hb, hml, hown, hts⟩ (c_M_isReader l dC dI mx lc lr kn lt ml mm lp lb mq d c1) (cwV 1 hts gX9_shift_X9_isReader rfl rfl rfl (by decide +kernel) ⟨Nat.le_of_ble_eq_true rfl, Nat.le_of_ble_eq_true rfl⟩) ⟨PS_blind, va_recv hK hP (ci := 14) (q0 := 0) rfl rfl, PS_pre hP hK hF⟩ rfl rfl hl.1 rfl (lv_room (Nat.le_of_ble_eq_true rfl)) dX9_shift_2 ⟨Nat.le_of_ble_eq_true rfl, Nat.le_of_ble_eq_true rfl⟩)) (fun r_1 hr_1 => ?_)
  subst hr_1
  refine lv_if_eq (tgt := 16) hx hb dX9_shift_5 (by decide) (fun _ => ?_) (fun c_2 => absurd (by decide) c_2)
  refine lv_sipush (v := (-1000)) hx hb dX9_shift_16 (by decide) ?_
  exact W.iret (v := (-1000)) hx hb hr (fun t ht hW => ⟨_, rfl, rfl, ht⟩) (fun _ h9 => absurd h9 List.not_mem_nil) dX9_shift_19

set_option maxHeartbeats 4000000 in
set_option maxRecDepth 100000 in
theorem c_M_openedBy (l : Launch) (dC : Nat → ClassId) (dI : Nat → Nat → Nat) (mx : Nat) (lc : Nat) (lr : Nat) (kn : Nat) (lt : Nat) (ml : Nat) (mm : Nat) (lp : Nat) (lb : Nat) (mq : Nat) (d : Nat) (c1 : Int32) : Met l yX9_openedBy wsX9_openedBy ({ frames := 1, cells := 0, slots := 0, locals := 20 }) (va_Pc [.ref mx, .int c1] (PS dC dI [(mx, .inr (14, [.ref lc, .ref lr, .ref kn, .ref lt, .ref ml, .ref mm, .ref lp, .ref lb, .ref mq, .int 1, .int 10, .int 0, .int 0])), (lc, .inr (4, [.int 0, .ref d, .int 0]))] [])) (vp_Si (fun r => r = 0)) 0 0 (fun _ => False) := by
  refine Met.ofW (cc := cX9_openedBy) (maxL := 4) (ret := (some .int)) (by decide) rfl ?_
  intro p e s m args below meth c s₁ B hml hv
  obtain ⟨rfl, hP, hK, hF⟩ := hv
  have hx := B.exec
  have hb := B.bytes
  have hr := B.returns
  have hts := atoms_spec (ws := wsX9_openedBy) B.pre
  have hown : s.vm.findClass RX9 = some m.cls := findClass_of_methodNamed B.named
  have hlocks := B.notSynchronized
  have hl := lv_entry ([.ref mx, .int c1]) (n := 4) (Nat.le_of_ble_eq_true rfl)
  rw [lg_entry_eq]
  generalize (lg_sl ([.ref mx, .int c1]) ++ List.replicate (4 - (lg_sl ([.ref mx, .int c1])).length) Slot.unset).toArray = ls at hl ⊢
  have hl : lv_has ls 4 [(0, .ref mx), (1, .int c1)] := hl
  refine lv_iconst (v := 0) hx hb dX9_openedBy_0 (by decide) ?_
  refine lv_istore_n (lv' := [(2, .int 0), (0, .ref mx), (1, .int c1)]) hx hb dX9_openedBy_1 rfl hl (by decide) rfl (fun ls hl => ?_)
  refine lv_iconst (v := 0) hx hb dX9_openedBy_2 (by decide) ?_
  refine lv_istore_n (lv' := [(3, .int 0), (2, .int 0), (0, .ref mx), (1, .int c1)]) hx hb dX9_openedBy_3 rfl hl (by decide) rfl (fun ls hl => ?_)
  refine lv_iload_n hx hb dX9_openedBy_4 rfl (lv_at hl 0 rfl) ?_
  refine lv_aload_n hx hb dX9_openedBy_5 rfl (lv_at hl 2 rfl) ?_
  refine va_get (D := (dC, dI)) (ci := 14) (v := .ref lc) (C := RX9) (T := TX9) (N := 13) hx hb hts (fun _ h9 => List.mem_cons_of_mem _ (List.mem_append_left _ (List.mem_append_left _ (List.mem_append_left _ (List.mem_append_right _ (h9)))))) hown hK hP 0 rfl rfl 0 (by decide) (hts (.fieldLink RX9 10 "ExamHallsModel" "candidates" "Ljava/util/List;") (List.mem_of_getElem? (i := 1) rfl)) (fun _ h9 => h9) rfl dX9_openedBy_6 ?_
  refine va_csFi (va_runF (hK.1 4 _ rfl).2 (As := []) (rest := [.int 0]) ⟨hx, hb, hml, hown, hts⟩ (c_AL_size l dC dI lc 0 d 0) (va_cwF 0 hts gX9_openedBy_Jx4a65c_size_8abf5_f56Jx4a65c rfl rfl rfl (Ft.fw hF (RJx4a65c, ⟨"java/util/List", "size", "()I"⟩, yJx4a65c_size_8abf5) (by decide +kernel)) (by decide +kernel) ⟨Nat.le_of_ble_eq_true rfl, Nat.le_of_ble_eq_true rfl⟩) ⟨PS_blind, va_recv hK hP (ci := 4) (q0 := 1) rfl rfl, PS_pre (hP.sub (ws' := [(lc, .inr (4, [.int 0, .ref d, .int 0]))]) [1] rfl) hK hF⟩ rfl rfl hl.1 rfl (lv_room (Nat.le_of_ble_eq_true rfl)) dX9_openedBy_9 ⟨Nat.le_of_ble_eq_true rfl, Nat.le_of_ble_eq_true rfl⟩) (fun r_1 hr_1 => ?_)
  subst hr_1
  refine lv_icmp_ge (tgt := 46) hx hb dX9_openedBy_14 (by decide) (fun _ => ?_) (fun c_2 => absurd (by decide) c_2)
  refine lv_iload_n hx hb dX9_openedBy_46 rfl (lv_at hl 1 rfl) ?_
  exact W.iret (v := 0) hx hb hr (fun t ht hW => ⟨_, rfl, rfl, ht⟩) (fun _ h9 => absurd h9 List.not_mem_nil) dX9_openedBy_47

def sp_M_opens (c1 : Int32) : Int32 := if c1 < 0 then (-2) else if c1 ≤ 255 then 0 else (-2)
set_option maxHeartbeats 4000000 in
set_option maxRecDepth 100000 in
theorem c_M_opens (l : Launch) (dC : Nat → ClassId) (dI : Nat → Nat → Nat) (mx : Nat) (lc : Nat) (lr : Nat) (kn : Nat) (lt : Nat) (ml : Nat) (mm : Nat) (lp : Nat) (lb : Nat) (mq : Nat) (d : Nat) (c1 : Int32) : Met l yX9_opens wsX9_opens ({ frames := 2, cells := 0, slots := 0, locals := 43 }) (va_Pc [.ref mx, .int c1] (PS dC dI [(mx, .inr (14, [.ref lc, .ref lr, .ref kn, .ref lt, .ref ml, .ref mm, .ref lp, .ref lb, .ref mq, .int 1, .int 10, .int 0, .int 0])), (lc, .inr (4, [.int 0, .ref d, .int 0]))] [])) (vp_Si (fun r => r = sp_M_opens c1)) 0 0 (fun _ => False) := by
  refine Met.ofW (cc := cX9_opens) (maxL := 2) (ret := (some .int)) (by decide) rfl ?_
  intro p e s m args below meth c s₁ B hml hv
  obtain ⟨rfl, hP, hK, hF⟩ := hv
  have hx := B.exec
  have hb := B.bytes
  have hr := B.returns
  have hts := atoms_spec (ws := wsX9_opens) B.pre
  have hown : s.vm.findClass RX9 = some m.cls := findClass_of_methodNamed B.named
  have hlocks := B.notSynchronized
  have hl := lv_entry ([.ref mx, .int c1]) (n := 2) (Nat.le_of_ble_eq_true rfl)
  rw [lg_entry_eq]
  generalize (lg_sl ([.ref mx, .int c1]) ++ List.replicate (2 - (lg_sl ([.ref mx, .int c1])).length) Slot.unset).toArray = ls at hl ⊢
  have hl : lv_has ls 2 [(0, .ref mx), (1, .int c1)] := hl
  refine lv_iload_n hx hb dX9_opens_0 rfl (lv_at hl 1 rfl) ?_
  refine lv_if_lt (tgt := 11) hx hb dX9_opens_1 (by decide) (fun c_1 => ?_) (fun c_1 => ?_)
  · skip
    refine lv_bipush (v := (-2)) hx hb dX9_opens_11 (by decide) ?_
    refine lv_goto (tgt := 21) hx hb dX9_opens_13 (by decide) ?_
    exact W.iret (v := (-2)) hx hb hr (fun t ht hW => ⟨_, rfl, (by simp only [sp_M_opens, if_pos c_1]), ht⟩) (fun _ h9 => absurd h9 List.not_mem_nil) dX9_opens_21
  · skip
    refine lv_iload_n hx hb dX9_opens_4 rfl (lv_at hl 1 rfl) ?_
    refine lv_sipush (v := 255) hx hb dX9_opens_5 (by decide) ?_
    refine lv_icmp_le (tgt := 16) hx hb dX9_opens_8 (by decide) (fun c_2 => ?_) (fun c_2 => ?_)
    · skip
      refine lv_aload_n hx hb dX9_opens_16 rfl (lv_at hl 0 rfl) ?_
      refine lv_iload_n hx hb dX9_opens_17 rfl (lv_at hl 1 rfl) ?_
      refine vp_callSi (va_Run.run (va_runV (As := [.int c1]) (rest := []) ⟨hx, hb, hml, hown, hts⟩ (c_M_openedBy l dC dI mx lc lr kn lt ml mm lp lb mq d c1) (cwV 1 hts gX9_opens_X9_openedBy rfl rfl rfl (by decide +kernel) ⟨Nat.le_of_ble_eq_true rfl, Nat.le_of_ble_eq_true rfl⟩) ⟨PS_blind, va_recv hK hP (ci := 14) (q0 := 0) rfl rfl, PS_pre hP hK hF⟩ rfl rfl hl.1 rfl (lv_room (Nat.le_of_ble_eq_true rfl)) dX9_opens_18 ⟨Nat.le_of_ble_eq_true rfl, Nat.le_of_ble_eq_true rfl⟩)) (fun r_3 hr_3 => ?_)
      subst hr_3
      exact W.iret (v := 0) hx hb hr (fun t ht hW => ⟨_, rfl, (by simp only [sp_M_opens, if_neg c_1, if_pos c_2]), ht⟩) (fun _ h9 => absurd h9 List.not_mem_nil) dX9_opens_21
    · skip
      refine lv_bipush (v := (-2)) hx hb dX9_opens_11 (by decide) ?_
      refine lv_goto (tgt := 21) hx hb dX9_opens_13 (by decide) ?_
      exact W.iret (v := (-2)) hx hb hr (fun t ht hW => ⟨_, rfl, (by simp only [sp_M_opens, if_neg c_1, if_neg c_2]), ht⟩) (fun _ h9 => absurd h9 List.not_mem_nil) dX9_opens_21

set_option maxHeartbeats 4000000 in
set_option maxRecDepth 100000 in
theorem c_M_ofNumber (l : Launch) (dC : Nat → ClassId) (dI : Nat → Nat → Nat) (mx : Nat) (lc : Nat) (lr : Nat) (kn : Nat) (lt : Nat) (ml : Nat) (mm : Nat) (lp : Nat) (lb : Nat) (mq : Nat) (d : Nat) (c1 : Int32) : Met l yX9_ofNumber wsX9_ofNumber ({ frames := 1, cells := 0, slots := 0, locals := 20 }) (va_Pc [.ref mx, .int c1] (PS dC dI [(mx, .inr (14, [.ref lc, .ref lr, .ref kn, .ref lt, .ref ml, .ref mm, .ref lp, .ref lb, .ref mq, .int 1, .int 10, .int 0, .int 0])), (lc, .inr (4, [.int 0, .ref d, .int 0]))] [])) (va_Sq (fun r => r = none)) 0 0 (fun _ => False) := by
  refine Met.ofW (cc := cX9_ofNumber) (maxL := 3) (ret := (some (.object "ExamHallsModel$Candidate"))) (by decide) rfl ?_
  intro p e s m args below meth c s₁ B hml hv
  obtain ⟨rfl, hP, hK, hF⟩ := hv
  have hx := B.exec
  have hb := B.bytes
  have hr := B.returns
  have hts := atoms_spec (ws := wsX9_ofNumber) B.pre
  have hown : s.vm.findClass RX9 = some m.cls := findClass_of_methodNamed B.named
  have hlocks := B.notSynchronized
  have hl := lv_entry ([.ref mx, .int c1]) (n := 3) (Nat.le_of_ble_eq_true rfl)
  rw [lg_entry_eq]
  generalize (lg_sl ([.ref mx, .int c1]) ++ List.replicate (3 - (lg_sl ([.ref mx, .int c1])).length) Slot.unset).toArray = ls at hl ⊢
  have hl : lv_has ls 3 [(0, .ref mx), (1, .int c1)] := hl
  refine lv_iconst (v := 0) hx hb dX9_ofNumber_0 (by decide) ?_
  refine lv_istore_n (lv' := [(2, .int 0), (0, .ref mx), (1, .int c1)]) hx hb dX9_ofNumber_1 rfl hl (by decide) rfl (fun ls hl => ?_)
  refine lv_iload_n hx hb dX9_ofNumber_2 rfl (lv_at hl 0 rfl) ?_
  refine lv_aload_n hx hb dX9_ofNumber_3 rfl (lv_at hl 1 rfl) ?_
  refine va_get (D := (dC, dI)) (ci := 14) (v := .ref lc) (C := RX9) (T := TX9) (N := 13) hx hb hts (fun _ h9 => List.mem_cons_of_mem _ (List.mem_append_left _ (List.mem_append_left _ (List.mem_append_left _ (List.mem_append_right _ (h9)))))) hown hK hP 0 rfl rfl 0 (by decide) (hts (.fieldLink RX9 10 "ExamHallsModel" "candidates" "Ljava/util/List;") (List.mem_of_getElem? (i := 1) rfl)) (fun _ h9 => h9) rfl dX9_ofNumber_4 ?_
  refine va_csFi (va_runF (hK.1 4 _ rfl).2 (As := []) (rest := [.int 0]) ⟨hx, hb, hml, hown, hts⟩ (c_AL_size l dC dI lc 0 d 0) (va_cwF 0 hts gX9_ofNumber_Jx4a65c_size_8abf5_f56Jx4a65c rfl rfl rfl (Ft.fw hF (RJx4a65c, ⟨"java/util/List", "size", "()I"⟩, yJx4a65c_size_8abf5) (by decide +kernel)) (by decide +kernel) ⟨Nat.le_of_ble_eq_true rfl, Nat.le_of_ble_eq_true rfl⟩) ⟨PS_blind, va_recv hK hP (ci := 4) (q0 := 1) rfl rfl, PS_pre (hP.sub (ws' := [(lc, .inr (4, [.int 0, .ref d, .int 0]))]) [1] rfl) hK hF⟩ rfl rfl hl.1 rfl (lv_room (Nat.le_of_ble_eq_true rfl)) dX9_ofNumber_7 ⟨Nat.le_of_ble_eq_true rfl, Nat.le_of_ble_eq_true rfl⟩) (fun r_1 hr_1 => ?_)
  subst hr_1
  refine lv_icmp_ge (tgt := 55) hx hb dX9_ofNumber_12 (by decide) (fun _ => ?_) (fun c_2 => absurd (by decide) c_2)
  refine lv_null hx hb dX9_ofNumber_55 ?_
  exact W.aret (v := .null) hx hb hr (Or.inl ⟨_, rfl⟩) (Or.inl rfl) (fun t ht hW => ⟨none, rfl, rfl, ht⟩) (fun _ h9 => absurd h9 List.not_mem_nil) dX9_ofNumber_56

set_option maxHeartbeats 4000000 in
set_option maxRecDepth 100000 in
theorem c_M_near (l : Launch) (dC : Nat → ClassId) (dI : Nat → Nat → Nat) (mx : Nat) (lc : Nat) (lr : Nat) (kn : Nat) (lt : Nat) (ml : Nat) (mm : Nat) (lp : Nat) (lb : Nat) (mq : Nat) (d : Nat) : Met l yX9_near wsX9_near ({ frames := 1, cells := 0, slots := 0, locals := 20 }) (va_Pc [.ref mx] (PS dC dI [(mx, .inr (14, [.ref lc, .ref lr, .ref kn, .ref lt, .ref ml, .ref mm, .ref lp, .ref lb, .ref mq, .int 1, .int 10, .int 0, .int 0])), (lc, .inr (4, [.int 0, .ref d, .int 0]))] [])) (vp_Si (fun r => r = 0)) 0 0 (fun _ => False) := by
  refine Met.ofW (cc := cX9_near) (maxL := 4) (ret := (some .int)) (by decide) rfl ?_
  intro p e s m args below meth c s₁ B hml hv
  obtain ⟨rfl, hP, hK, hF⟩ := hv
  have hx := B.exec
  have hb := B.bytes
  have hr := B.returns
  have hts := atoms_spec (ws := wsX9_near) B.pre
  have hown : s.vm.findClass RX9 = some m.cls := findClass_of_methodNamed B.named
  have hlocks := B.notSynchronized
  have hl := lv_entry ([.ref mx]) (n := 4) (Nat.le_of_ble_eq_true rfl)
  rw [lg_entry_eq]
  generalize (lg_sl ([.ref mx]) ++ List.replicate (4 - (lg_sl ([.ref mx])).length) Slot.unset).toArray = ls at hl ⊢
  have hl : lv_has ls 4 [(0, .ref mx)] := hl
  refine lv_iconst (v := 0) hx hb dX9_near_0 (by decide) ?_
  refine lv_istore_n (lv' := [(1, .int 0), (0, .ref mx)]) hx hb dX9_near_1 rfl hl (by decide) rfl (fun ls hl => ?_)
  refine lv_iconst (v := 0) hx hb dX9_near_2 (by decide) ?_
  refine lv_istore_n (lv' := [(2, .int 0), (1, .int 0), (0, .ref mx)]) hx hb dX9_near_3 rfl hl (by decide) rfl (fun ls hl => ?_)
  refine lv_iload_n hx hb dX9_near_4 rfl (lv_at hl 0 rfl) ?_
  refine lv_aload_n hx hb dX9_near_5 rfl (lv_at hl 2 rfl) ?_
  refine va_get (D := (dC, dI)) (ci := 14) (v := .ref lc) (C := RX9) (T := TX9) (N := 13) hx hb hts (fun _ h9 => List.mem_cons_of_mem _ (List.mem_append_left _ (List.mem_append_left _ (List.mem_append_left _ (List.mem_append_right _ (h9)))))) hown hK hP 0 rfl rfl 0 (by decide) (hts (.fieldLink RX9 10 "ExamHallsModel" "candidates" "Ljava/util/List;") (List.mem_of_getElem? (i := 1) rfl)) (fun _ h9 => h9) rfl dX9_near_6 ?_
  refine va_csFi (va_runF (hK.1 4 _ rfl).2 (As := []) (rest := [.int 0]) ⟨hx, hb, hml, hown, hts⟩ (c_AL_size l dC dI lc 0 d 0) (va_cwF 0 hts gX9_near_Jx4a65c_size_8abf5_f56Jx4a65c rfl rfl rfl (Ft.fw hF (RJx4a65c, ⟨"java/util/List", "size", "()I"⟩, yJx4a65c_size_8abf5) (by decide +kernel)) (by decide +kernel) ⟨Nat.le_of_ble_eq_true rfl, Nat.le_of_ble_eq_true rfl⟩) ⟨PS_blind, va_recv hK hP (ci := 4) (q0 := 1) rfl rfl, PS_pre (hP.sub (ws' := [(lc, .inr (4, [.int 0, .ref d, .int 0]))]) [1] rfl) hK hF⟩ rfl rfl hl.1 rfl (lv_room (Nat.le_of_ble_eq_true rfl)) dX9_near_9 ⟨Nat.le_of_ble_eq_true rfl, Nat.le_of_ble_eq_true rfl⟩) (fun r_1 hr_1 => ?_)
  subst hr_1
  refine lv_icmp_ge (tgt := 69) hx hb dX9_near_14 (by decide) (fun _ => ?_) (fun c_2 => absurd (by decide) c_2)
  refine lv_iload_n hx hb dX9_near_69 rfl (lv_at hl 1 rfl) ?_
  exact W.iret (v := 0) hx hb hr (fun t ht hW => ⟨_, rfl, rfl, ht⟩) (fun _ h9 => absurd h9 List.not_mem_nil) dX9_near_70

set_option maxHeartbeats 4000000 in
set_option maxRecDepth 100000 in
theorem c_M_countCandidates (l : Launch) (dC : Nat → ClassId) (dI : Nat → Nat → Nat) (mx : Nat) (lc : Nat) (lr : Nat) (kn : Nat) (lt : Nat) (ml : Nat) (mm : Nat) (lp : Nat) (lb : Nat) (mq : Nat) (d : Nat) (c1 : Int32) : Met l yX9_countCandidates wsX9_countCandidates ({ frames := 1, cells := 0, slots := 0, locals := 20 }) (va_Pc [.ref mx, .int c1] (PS dC dI [(mx, .inr (14, [.ref lc, .ref lr, .ref kn, .ref lt, .ref ml, .ref mm, .ref lp, .ref lb, .ref mq, .int 1, .int 10, .int 0, .int 0])), (lc, .inr (4, [.int 0, .ref d, .int 0]))] [])) (vp_Si (fun r => r = 0)) 0 0 (fun _ => False) := by
  refine Met.ofW (cc := cX9_countCandidates) (maxL := 5) (ret := (some .int)) (by decide) rfl ?_
  intro p e s m args below meth c s₁ B hml hv
  obtain ⟨rfl, hP, hK, hF⟩ := hv
  have hx := B.exec
  have hb := B.bytes
  have hr := B.returns
  have hts := atoms_spec (ws := wsX9_countCandidates) B.pre
  have hown : s.vm.findClass RX9 = some m.cls := findClass_of_methodNamed B.named
  have hlocks := B.notSynchronized
  have hl := lv_entry ([.ref mx, .int c1]) (n := 5) (Nat.le_of_ble_eq_true rfl)
  rw [lg_entry_eq]
  generalize (lg_sl ([.ref mx, .int c1]) ++ List.replicate (5 - (lg_sl ([.ref mx, .int c1])).length) Slot.unset).toArray = ls at hl ⊢
  have hl : lv_has ls 5 [(0, .ref mx), (1, .int c1)] := hl
  refine lv_iconst (v := 0) hx hb dX9_countCandidates_0 (by decide) ?_
  refine lv_istore_n (lv' := [(2, .int 0), (0, .ref mx), (1, .int c1)]) hx hb dX9_countCandidates_1 rfl hl (by decide) rfl (fun ls hl => ?_)
  refine lv_iconst (v := 0) hx hb dX9_countCandidates_2 (by decide) ?_
  refine lv_istore_n (lv' := [(3, .int 0), (2, .int 0), (0, .ref mx), (1, .int c1)]) hx hb dX9_countCandidates_3 rfl hl (by decide) rfl (fun ls hl => ?_)
  refine lv_iload_n hx hb dX9_countCandidates_4 rfl (lv_at hl 0 rfl) ?_
  refine lv_aload_n hx hb dX9_countCandidates_5 rfl (lv_at hl 2 rfl) ?_
  refine va_get (D := (dC, dI)) (ci := 14) (v := .ref lc) (C := RX9) (T := TX9) (N := 13) hx hb hts (fun _ h9 => List.mem_cons_of_mem _ (List.mem_append_left _ (List.mem_append_left _ (List.mem_append_left _ (List.mem_append_right _ (h9)))))) hown hK hP 0 rfl rfl 0 (by decide) (hts (.fieldLink RX9 10 "ExamHallsModel" "candidates" "Ljava/util/List;") (List.mem_of_getElem? (i := 1) rfl)) (fun _ h9 => h9) rfl dX9_countCandidates_6 ?_
  refine va_csFi (va_runF (hK.1 4 _ rfl).2 (As := []) (rest := [.int 0]) ⟨hx, hb, hml, hown, hts⟩ (c_AL_size l dC dI lc 0 d 0) (va_cwF 0 hts gX9_countCandidates_Jx4a65c_size_8abf5_f56Jx4a65c rfl rfl rfl (Ft.fw hF (RJx4a65c, ⟨"java/util/List", "size", "()I"⟩, yJx4a65c_size_8abf5) (by decide +kernel)) (by decide +kernel) ⟨Nat.le_of_ble_eq_true rfl, Nat.le_of_ble_eq_true rfl⟩) ⟨PS_blind, va_recv hK hP (ci := 4) (q0 := 1) rfl rfl, PS_pre (hP.sub (ws' := [(lc, .inr (4, [.int 0, .ref d, .int 0]))]) [1] rfl) hK hF⟩ rfl rfl hl.1 rfl (lv_room (Nat.le_of_ble_eq_true rfl)) dX9_countCandidates_9 ⟨Nat.le_of_ble_eq_true rfl, Nat.le_of_ble_eq_true rfl⟩) (fun r_1 hr_1 => ?_)
  subst hr_1
  refine lv_icmp_ge (tgt := 64) hx hb dX9_countCandidates_14 (by decide) (fun _ => ?_) (fun c_2 => absurd (by decide) c_2)
  refine lv_iload_n hx hb dX9_countCandidates_64 rfl (lv_at hl 1 rfl) ?_
  exact W.iret (v := 0) hx hb hr (fun t ht hW => ⟨_, rfl, rfl, ht⟩) (fun _ h9 => absurd h9 List.not_mem_nil) dX9_countCandidates_65

set_option maxHeartbeats 4000000 in
set_option maxRecDepth 100000 in
theorem c_M_countMarks (l : Launch) (dC : Nat → ClassId) (dI : Nat → Nat → Nat) (mx : Nat) (lc : Nat) (lr : Nat) (kn : Nat) (lt : Nat) (ml : Nat) (mm : Nat) (lp : Nat) (lb : Nat) (mq : Nat) (d : Nat) : Met l yX9_countMarks wsX9_countMarks ({ frames := 1, cells := 0, slots := 0, locals := 20 }) (va_Pc [.ref mx] (PS dC dI [(mx, .inr (14, [.ref lc, .ref lr, .ref kn, .ref lt, .ref ml, .ref mm, .ref lp, .ref lb, .ref mq, .int 1, .int 10, .int 0, .int 0])), (lc, .inr (4, [.int 0, .ref d, .int 0]))] [])) (vp_Si (fun r => r = 0)) 0 0 (fun _ => False) := by
  refine Met.ofW (cc := cX9_countMarks) (maxL := 5) (ret := (some .int)) (by decide) rfl ?_
  intro p e s m args below meth c s₁ B hml hv
  obtain ⟨rfl, hP, hK, hF⟩ := hv
  have hx := B.exec
  have hb := B.bytes
  have hr := B.returns
  have hts := atoms_spec (ws := wsX9_countMarks) B.pre
  have hown : s.vm.findClass RX9 = some m.cls := findClass_of_methodNamed B.named
  have hlocks := B.notSynchronized
  have hl := lv_entry ([.ref mx]) (n := 5) (Nat.le_of_ble_eq_true rfl)
  rw [lg_entry_eq]
  generalize (lg_sl ([.ref mx]) ++ List.replicate (5 - (lg_sl ([.ref mx])).length) Slot.unset).toArray = ls at hl ⊢
  have hl : lv_has ls 5 [(0, .ref mx)] := hl
  refine lv_iconst (v := 0) hx hb dX9_countMarks_0 (by decide) ?_
  refine lv_istore_n (lv' := [(1, .int 0), (0, .ref mx)]) hx hb dX9_countMarks_1 rfl hl (by decide) rfl (fun ls hl => ?_)
  refine lv_iconst (v := 0) hx hb dX9_countMarks_2 (by decide) ?_
  refine lv_istore_n (lv' := [(2, .int 0), (1, .int 0), (0, .ref mx)]) hx hb dX9_countMarks_3 rfl hl (by decide) rfl (fun ls hl => ?_)
  refine lv_iload_n hx hb dX9_countMarks_4 rfl (lv_at hl 0 rfl) ?_
  refine lv_aload_n hx hb dX9_countMarks_5 rfl (lv_at hl 2 rfl) ?_
  refine va_get (D := (dC, dI)) (ci := 14) (v := .ref lc) (C := RX9) (T := TX9) (N := 13) hx hb hts (fun _ h9 => List.mem_cons_of_mem _ (List.mem_append_left _ (List.mem_append_left _ (List.mem_append_left _ (List.mem_append_left _ (List.mem_append_right _ (h9))))))) hown hK hP 0 rfl rfl 0 (by decide) (hts (.fieldLink RX9 10 "ExamHallsModel" "candidates" "Ljava/util/List;") (List.mem_of_getElem? (i := 1) rfl)) (fun _ h9 => h9) rfl dX9_countMarks_6 ?_
  refine va_csFi (va_runF (hK.1 4 _ rfl).2 (As := []) (rest := [.int 0]) ⟨hx, hb, hml, hown, hts⟩ (c_AL_size l dC dI lc 0 d 0) (va_cwF 0 hts gX9_countMarks_Jx4a65c_size_8abf5_f56Jx4a65c rfl rfl rfl (Ft.fw hF (RJx4a65c, ⟨"java/util/List", "size", "()I"⟩, yJx4a65c_size_8abf5) (by decide +kernel)) (by decide +kernel) ⟨Nat.le_of_ble_eq_true rfl, Nat.le_of_ble_eq_true rfl⟩) ⟨PS_blind, va_recv hK hP (ci := 4) (q0 := 1) rfl rfl, PS_pre (hP.sub (ws' := [(lc, .inr (4, [.int 0, .ref d, .int 0]))]) [1] rfl) hK hF⟩ rfl rfl hl.1 rfl (lv_room (Nat.le_of_ble_eq_true rfl)) dX9_countMarks_9 ⟨Nat.le_of_ble_eq_true rfl, Nat.le_of_ble_eq_true rfl⟩) (fun r_1 hr_1 => ?_)
  subst hr_1
  refine lv_icmp_ge (tgt := 82) hx hb dX9_countMarks_14 (by decide) (fun _ => ?_) (fun c_2 => absurd (by decide) c_2)
  refine lv_iload_n hx hb dX9_countMarks_82 rfl (lv_at hl 1 rfl) ?_
  exact W.iret (v := 0) hx hb hr (fun t ht hW => ⟨_, rfl, rfl, ht⟩) (fun _ h9 => absurd h9 List.not_mem_nil) dX9_countMarks_83

set_option maxHeartbeats 4000000 in
set_option maxRecDepth 100000 in
theorem c_M_share (l : Launch) (dC : Nat → ClassId) (dI : Nat → Nat → Nat) (mx : Nat) (lc : Nat) (lr : Nat) (kn : Nat) (lt : Nat) (ml : Nat) (mm : Nat) (lp : Nat) (lb : Nat) (mq : Nat) (d : Nat) : Met l yX9_share wsX9_share ({ frames := 2, cells := 0, slots := 0, locals := 42 }) (va_Pc [.ref mx] (PS dC dI [(mx, .inr (14, [.ref lc, .ref lr, .ref kn, .ref lt, .ref ml, .ref mm, .ref lp, .ref lb, .ref mq, .int 1, .int 10, .int 0, .int 0])), (lc, .inr (4, [.int 0, .ref d, .int 0]))] [])) (vp_Si (fun r => r = 0)) 0 0 (fun _ => False) := by
  refine Met.ofW (cc := cX9_share) (maxL := 4) (ret := (some .int)) (by decide) rfl ?_
  intro p e s m args below meth c s₁ B hml hv
  obtain ⟨rfl, hP, hK, hF⟩ := hv
  have hx := B.exec
  have hb := B.bytes
  have hr := B.returns
  have hts := atoms_spec (ws := wsX9_share) B.pre
  have hown : s.vm.findClass RX9 = some m.cls := findClass_of_methodNamed B.named
  have hlocks := B.notSynchronized
  have hl := lv_entry ([.ref mx]) (n := 4) (Nat.le_of_ble_eq_true rfl)
  rw [lg_entry_eq]
  generalize (lg_sl ([.ref mx]) ++ List.replicate (4 - (lg_sl ([.ref mx])).length) Slot.unset).toArray = ls at hl ⊢
  have hl : lv_has ls 4 [(0, .ref mx)] := hl
  refine lv_iconst (v := 0) hx hb dX9_share_0 (by decide) ?_
  refine lv_istore_n (lv' := [(1, .int 0), (0, .ref mx)]) hx hb dX9_share_1 rfl hl (by decide) rfl (fun ls hl => ?_)
  refine lv_iconst (v := 0) hx hb dX9_share_2 (by decide) ?_
  refine lv_istore_n (lv' := [(2, .int 0), (1, .int 0), (0, .ref mx)]) hx hb dX9_share_3 rfl hl (by decide) rfl (fun ls hl => ?_)
  obtain ⟨n_1, en⟩ : ∃ n_1 : Int32, n_1 = 0 := ⟨_, rfl⟩
  replace hl : lv_has ls 4 [(2, .int n_1), (1, .int 0), (0, .ref mx)] := by rw [en]; exact hl
  obtain ⟨i, hi, ei⟩ : ∃ i : Nat, i ≤ 100 ∧ n_1 = nI i := ⟨0, by omega, en⟩
  obtain ⟨k, hk⟩ : ∃ k : Nat, 100 - i < k := ⟨101, by omega⟩
  clear en
  induction k generalizing n_1 i ls with
  | zero => exact absurd hk (by omega)
  | succ k ih =>
    refine lv_iload_n hx hb dX9_share_4 rfl (lv_at hl 0 rfl) ?_
    refine lv_bipush (v := 99) hx hb dX9_share_5 (by decide) ?_
    refine lv_icmp_gt (tgt := 63) hx hb dX9_share_7 (by decide) (fun c_2 => ?_) (fun c_2 => ?_)
    · skip
      refine lv_iload_n hx hb dX9_share_63 rfl (lv_at hl 1 rfl) ?_
      exact W.iret (v := 0) hx hb hr (fun t ht hW => ⟨_, rfl, rfl, ht⟩) (fun _ h9 => absurd h9 List.not_mem_nil) dX9_share_64
    · skip
      refine lv_aload_n hx hb dX9_share_10 rfl (lv_at hl 2 rfl) ?_
      refine lv_iload_n hx hb dX9_share_11 rfl (lv_at hl 0 rfl) ?_
      refine va_csq (va_Run.run (va_runV (As := [.int n_1]) (rest := []) ⟨hx, hb, hml, hown, hts⟩ (c_M_ofNumber l dC dI mx lc lr kn lt ml mm lp lb mq d n_1) (cwV 1 hts gX9_share_X9_ofNumber rfl rfl rfl (by decide +kernel) ⟨Nat.le_of_ble_eq_true rfl, Nat.le_of_ble_eq_true rfl⟩) ⟨PS_blind, va_recv hK hP (ci := 14) (q0 := 0) rfl rfl, PS_pre hP hK hF⟩ rfl rfl hl.1 rfl (lv_room (Nat.le_of_ble_eq_true rfl)) dX9_share_12 ⟨Nat.le_of_ble_eq_true rfl, Nat.le_of_ble_eq_true rfl⟩)) (fun r_3 hr_3 => ?_)
      subst hr_3
      refine W.eq (g2 := F0 m 15 ls [.null]) rfl ?_
      refine lv_astore_nN (lv' := [(3, .null), (2, .int n_1), (1, .int 0), (0, .ref mx)]) hx hb dX9_share_15 rfl hl (by decide) rfl (fun ls hl => ?_)
      refine lv_aload_nN hx hb dX9_share_16 rfl (lv_at hl 0 rfl) ?_
      refine lv_ifnullN (tgt := 57) hx hb dX9_share_17 (by decide) ?_
      refine lv_iinc (v := n_1 + 1) (lv' := [(2, .int (n_1 + 1)), (3, .null), (1, .int 0), (0, .ref mx)]) hx hb dX9_share_57 hl (k := 1) rfl rfl (by decide) rfl (fun ls hl => ?_)
      refine lv_goto (tgt := 4) hx hb dX9_share_60 (by decide) ?_
      have hlt := (i_lt2 (N := 99) hi (by decide) ei (show ¬ nI 99 < n_1 from c_2))
      exact ih ls (n_1 + 1) (lv_sub hl [0, 2, 3] rfl) (i + 1) hlt (by rw [ei]; exact nI_1 i) (by omega)

set_option maxHeartbeats 4000000 in
set_option maxRecDepth 100000 in
theorem c_M_again (l : Launch) (dC : Nat → ClassId) (dI : Nat → Nat → Nat) (mx : Nat) (lc : Nat) (lr : Nat) (kn : Nat) (lt : Nat) (ml : Nat) (mm : Nat) (lp : Nat) (lb : Nat) (mq : Nat) (d : Nat) : Met l yX9_again wsX9_again ({ frames := 2, cells := 0, slots := 0, locals := 42 }) (va_Pc [.ref mx] (PS dC dI [(mx, .inr (14, [.ref lc, .ref lr, .ref kn, .ref lt, .ref ml, .ref mm, .ref lp, .ref lb, .ref mq, .int 1, .int 10, .int 0, .int 0])), (lc, .inr (4, [.int 0, .ref d, .int 0]))] [])) (vp_Si (fun r => r = 0)) 0 0 (fun _ => False) := by
  refine Met.ofW (cc := cX9_again) (maxL := 4) (ret := (some .int)) (by decide) rfl ?_
  intro p e s m args below meth c s₁ B hml hv
  obtain ⟨rfl, hP, hK, hF⟩ := hv
  have hx := B.exec
  have hb := B.bytes
  have hr := B.returns
  have hts := atoms_spec (ws := wsX9_again) B.pre
  have hown : s.vm.findClass RX9 = some m.cls := findClass_of_methodNamed B.named
  have hlocks := B.notSynchronized
  have hl := lv_entry ([.ref mx]) (n := 4) (Nat.le_of_ble_eq_true rfl)
  rw [lg_entry_eq]
  generalize (lg_sl ([.ref mx]) ++ List.replicate (4 - (lg_sl ([.ref mx])).length) Slot.unset).toArray = ls at hl ⊢
  have hl : lv_has ls 4 [(0, .ref mx)] := hl
  refine lv_iconst (v := 0) hx hb dX9_again_0 (by decide) ?_
  refine lv_istore_n (lv' := [(1, .int 0), (0, .ref mx)]) hx hb dX9_again_1 rfl hl (by decide) rfl (fun ls hl => ?_)
  refine lv_iconst (v := 0) hx hb dX9_again_2 (by decide) ?_
  refine lv_istore_n (lv' := [(2, .int 0), (1, .int 0), (0, .ref mx)]) hx hb dX9_again_3 rfl hl (by decide) rfl (fun ls hl => ?_)
  obtain ⟨n_1, en⟩ : ∃ n_1 : Int32, n_1 = 0 := ⟨_, rfl⟩
  replace hl : lv_has ls 4 [(2, .int n_1), (1, .int 0), (0, .ref mx)] := by rw [en]; exact hl
  obtain ⟨i, hi, ei⟩ : ∃ i : Nat, i ≤ 100 ∧ n_1 = nI i := ⟨0, by omega, en⟩
  obtain ⟨k, hk⟩ : ∃ k : Nat, 100 - i < k := ⟨101, by omega⟩
  clear en
  induction k generalizing n_1 i ls with
  | zero => exact absurd hk (by omega)
  | succ k ih =>
    refine lv_iload_n hx hb dX9_again_4 rfl (lv_at hl 0 rfl) ?_
    refine lv_bipush (v := 99) hx hb dX9_again_5 (by decide) ?_
    refine lv_icmp_gt (tgt := 52) hx hb dX9_again_7 (by decide) (fun c_2 => ?_) (fun c_2 => ?_)
    · skip
      refine lv_iload_n hx hb dX9_again_52 rfl (lv_at hl 1 rfl) ?_
      exact W.iret (v := 0) hx hb hr (fun t ht hW => ⟨_, rfl, rfl, ht⟩) (fun _ h9 => absurd h9 List.not_mem_nil) dX9_again_53
    · skip
      refine lv_aload_n hx hb dX9_again_10 rfl (lv_at hl 2 rfl) ?_
      refine lv_iload_n hx hb dX9_again_11 rfl (lv_at hl 0 rfl) ?_
      refine va_csq (va_Run.run (va_runV (As := [.int n_1]) (rest := []) ⟨hx, hb, hml, hown, hts⟩ (c_M_ofNumber l dC dI mx lc lr kn lt ml mm lp lb mq d n_1) (cwV 1 hts gX9_again_X9_ofNumber rfl rfl rfl (by decide +kernel) ⟨Nat.le_of_ble_eq_true rfl, Nat.le_of_ble_eq_true rfl⟩) ⟨PS_blind, va_recv hK hP (ci := 14) (q0 := 0) rfl rfl, PS_pre hP hK hF⟩ rfl rfl hl.1 rfl (lv_room (Nat.le_of_ble_eq_true rfl)) dX9_again_12 ⟨Nat.le_of_ble_eq_true rfl, Nat.le_of_ble_eq_true rfl⟩)) (fun r_3 hr_3 => ?_)
      subst hr_3
      refine W.eq (g2 := F0 m 15 ls [.null]) rfl ?_
      refine lv_astore_nN (lv' := [(3, .null), (2, .int n_1), (1, .int 0), (0, .ref mx)]) hx hb dX9_again_15 rfl hl (by decide) rfl (fun ls hl => ?_)
      refine lv_aload_nN hx hb dX9_again_16 rfl (lv_at hl 0 rfl) ?_
      refine lv_ifnullN (tgt := 46) hx hb dX9_again_17 (by decide) ?_
      refine lv_iinc (v := n_1 + 1) (lv' := [(2, .int (n_1 + 1)), (3, .null), (1, .int 0), (0, .ref mx)]) hx hb dX9_again_46 hl (k := 1) rfl rfl (by decide) rfl (fun ls hl => ?_)
      refine lv_goto (tgt := 4) hx hb dX9_again_49 (by decide) ?_
      have hlt := (i_lt2 (N := 99) hi (by decide) ei (show ¬ nI 99 < n_1 from c_2))
      exact ih ls (n_1 + 1) (lv_sub hl [0, 2, 3] rfl) (i + 1) hlt (by rw [ei]; exact nI_1 i) (by omega)

set_option maxHeartbeats 4000000 in
set_option maxRecDepth 100000 in
theorem c_M_fewest (l : Launch) (dC : Nat → ClassId) (dI : Nat → Nat → Nat) (mx : Nat) (lc : Nat) (lr : Nat) (kn : Nat) (lt : Nat) (ml : Nat) (mm : Nat) (lp : Nat) (lb : Nat) (mq : Nat) (d : Nat) : Met l yX9_fewest wsX9_fewest ({ frames := 2, cells := 0, slots := 0, locals := 43 }) (va_Pc [.ref mx] (PS dC dI [(mx, .inr (14, [.ref lc, .ref lr, .ref kn, .ref lt, .ref ml, .ref mm, .ref lp, .ref lb, .ref mq, .int 1, .int 10, .int 0, .int 0])), (lc, .inr (4, [.int 0, .ref d, .int 0]))] [])) (vp_Si (fun r => r = 0)) 0 0 (fun _ => False) := by
  refine Met.ofW (cc := cX9_fewest) (maxL := 3) (ret := (some .int)) (by decide) rfl ?_
  intro p e s m args below meth c s₁ B hml hv
  obtain ⟨rfl, hP, hK, hF⟩ := hv
  have hx := B.exec
  have hb := B.bytes
  have hr := B.returns
  have hts := atoms_spec (ws := wsX9_fewest) B.pre
  have hown : s.vm.findClass RX9 = some m.cls := findClass_of_methodNamed B.named
  have hlocks := B.notSynchronized
  have hl := lv_entry ([.ref mx]) (n := 3) (Nat.le_of_ble_eq_true rfl)
  rw [lg_entry_eq]
  generalize (lg_sl ([.ref mx]) ++ List.replicate (3 - (lg_sl ([.ref mx])).length) Slot.unset).toArray = ls at hl ⊢
  have hl : lv_has ls 3 [(0, .ref mx)] := hl
  refine lv_iconst (v := 0) hx hb dX9_fewest_0 (by decide) ?_
  refine lv_istore_n (lv' := [(1, .int 0), (0, .ref mx)]) hx hb dX9_fewest_1 rfl hl (by decide) rfl (fun ls hl => ?_)
  refine lv_iconst (v := 1) hx hb dX9_fewest_2 (by decide) ?_
  refine lv_istore_n (lv' := [(2, .int 1), (1, .int 0), (0, .ref mx)]) hx hb dX9_fewest_3 rfl hl (by decide) rfl (fun ls hl => ?_)
  obtain ⟨n_1, en⟩ : ∃ n_1 : Int32, n_1 = 1 := ⟨_, rfl⟩
  replace hl : lv_has ls 3 [(2, .int n_1), (1, .int 0), (0, .ref mx)] := by rw [en]; exact hl
  obtain ⟨i, hi, ei⟩ : ∃ i : Nat, i ≤ 256 ∧ n_1 = nI i := ⟨1, by omega, en⟩
  obtain ⟨k, hk⟩ : ∃ k : Nat, 256 - i < k := ⟨257, by omega⟩
  clear en
  induction k generalizing n_1 i ls with
  | zero => exact absurd hk (by omega)
  | succ k ih =>
    refine lv_iload_n hx hb dX9_fewest_4 rfl (lv_at hl 0 rfl) ?_
    refine lv_sipush (v := 255) hx hb dX9_fewest_5 (by decide) ?_
    refine lv_icmp_gt (tgt := 45) hx hb dX9_fewest_8 (by decide) (fun c_2 => ?_) (fun c_2 => ?_)
    · skip
      refine lv_iload_n hx hb dX9_fewest_45 rfl (lv_at hl 1 rfl) ?_
      exact W.iret (v := 0) hx hb hr (fun t ht hW => ⟨_, rfl, rfl, ht⟩) (fun _ h9 => absurd h9 List.not_mem_nil) dX9_fewest_46
    · skip
      refine lv_aload_n hx hb dX9_fewest_11 rfl (lv_at hl 2 rfl) ?_
      refine lv_iload_n hx hb dX9_fewest_12 rfl (lv_at hl 0 rfl) ?_
      refine vp_callSi (va_Run.run (va_runV (As := [.int n_1]) (rest := []) ⟨hx, hb, hml, hown, hts⟩ (c_M_openedBy l dC dI mx lc lr kn lt ml mm lp lb mq d n_1) (cwV 1 hts gX9_fewest_X9_openedBy rfl rfl rfl (by decide +kernel) ⟨Nat.le_of_ble_eq_true rfl, Nat.le_of_ble_eq_true rfl⟩) ⟨PS_blind, va_recv hK hP (ci := 14) (q0 := 0) rfl rfl, PS_pre hP hK hF⟩ rfl rfl hl.1 rfl (lv_room (Nat.le_of_ble_eq_true rfl)) dX9_fewest_13 ⟨Nat.le_of_ble_eq_true rfl, Nat.le_of_ble_eq_true rfl⟩)) (fun r_3 hr_3 => ?_)
      subst hr_3
      refine lv_if_ne (tgt := 22) hx hb dX9_fewest_16 (by decide) (fun c_4 => absurd (by decide) c_4) (fun _ => ?_)
      refine lv_goto (tgt := 39) hx hb dX9_fewest_19 (by decide) ?_
      refine lv_iinc (v := n_1 + 1) (lv' := [(2, .int (n_1 + 1)), (1, .int 0), (0, .ref mx)]) hx hb dX9_fewest_39 hl (k := 0) rfl rfl (by decide) rfl (fun ls hl => ?_)
      refine lv_goto (tgt := 4) hx hb dX9_fewest_42 (by decide) ?_
      have hlt := (i_lt2 (N := 255) hi (by decide) ei (show ¬ nI 255 < n_1 from c_2))
      exact ih ls (n_1 + 1) (lv_sub hl [0, 1, 2] rfl) (i + 1) hlt (by rw [ei]; exact nI_1 i) (by omega)
