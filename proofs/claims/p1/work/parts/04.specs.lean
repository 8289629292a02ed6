set_option maxRecDepth 20000 in
theorem ggX5_essay_X5_find : GoodIn wsX5_essay wsX5_find := goodIn_r _ [9, 10, 11, 59, 60, 61, 62, 63, 64, 65, 66, 67, 68, 69, 70, 71, 72] (by decide +kernel) (by decide +kernel)
set_option maxRecDepth 20000 in
theorem gX5_essay_X5_find : GoodIn wsX5_essay (wsV RX5 86 RX5 yX5_find wsX5_find) := goodIn_app (goodIn_of _ (by decide +kernel)) ggX5_essay_X5_find
theorem dX5_essay_0 : decode cX5_essay 0 = .ok (.aload_n 0, 1) := by decide +kernel
theorem dX5_essay_1 : decode cX5_essay 1 = .ok (.iload_n 1, 1) := by decide +kernel
theorem dX5_essay_2 : decode cX5_essay 2 = .ok (.invokevirtual 86, 3) := by decide +kernel
theorem dX5_essay_5 : decode cX5_essay 5 = .ok (.astore_n 2, 1) := by decide +kernel
theorem dX5_essay_6 : decode cX5_essay 6 = .ok (.aload_n 2, 1) := by decide +kernel
theorem dX5_essay_7 : decode cX5_essay 7 = .ok (.ifnonnull 5, 3) := by decide +kernel
theorem dX5_essay_10 : decode cX5_essay 10 = .ok (.iconst (-1), 1) := by decide +kernel
theorem dX5_essay_11 : decode cX5_essay 11 = .ok (.ireturn, 1) := by decide +kernel
set_option maxRecDepth 20000 in
theorem ggX5_legs_X5_textOf : GoodIn wsX5_legs wsX5_textOf := goodIn_r _ [5, 6, 7, 8, 4, 9, 10, 11, 28, 29, 30, 31, 32, 33, 34, 35, 36, 37, 38, 39, 40, 41, 42, 43, 44, 45, 46, 47, 48, 49, 50, 51] (by decide +kernel) (by decide +kernel)
set_option maxRecDepth 20000 in
theorem gX5_legs_X5_textOf : GoodIn wsX5_legs (wsV RX5 111 RX5 yX5_textOf wsX5_textOf) := goodIn_app (goodIn_of _ (by decide +kernel)) ggX5_legs_X5_textOf
theorem dX5_legs_0 : decode cX5_legs 0 = .ok (.aload_n 0, 1) := by decide +kernel
theorem dX5_legs_1 : decode cX5_legs 1 = .ok (.iload_n 1, 1) := by decide +kernel
theorem dX5_legs_2 : decode cX5_legs 2 = .ok (.invokevirtual 111, 3) := by decide +kernel
theorem dX5_legs_5 : decode cX5_legs 5 = .ok (.astore_n 3, 1) := by decide +kernel
theorem dX5_legs_6 : decode cX5_legs 6 = .ok (.aload_n 3, 1) := by decide +kernel
theorem dX5_legs_7 : decode cX5_legs 7 = .ok (.ifnull 7, 3) := by decide +kernel
theorem dX5_legs_14 : decode cX5_legs 14 = .ok (.iconst (-1), 1) := by decide +kernel
theorem dX5_legs_15 : decode cX5_legs 15 = .ok (.ireturn, 1) := by decide +kernel
set_option maxRecDepth 20000 in
theorem ggX5_word_X5_textOf : GoodIn wsX5_word wsX5_textOf := goodIn_r _ [5, 6, 7, 8, 4, 9, 10, 11, 23, 24, 25, 26, 27, 28, 29, 30, 31, 32, 33, 34, 35, 36, 37, 38, 39, 40, 41, 42, 43, 44, 45, 46] (by decide +kernel) (by decide +kernel)
set_option maxRecDepth 20000 in
theorem gX5_word_X5_textOf : GoodIn wsX5_word (wsV RX5 111 RX5 yX5_textOf wsX5_textOf) := goodIn_app (goodIn_of _ (by decide +kernel)) ggX5_word_X5_textOf
theorem dX5_word_0 : decode cX5_word 0 = .ok (.aload_n 0, 1) := by decide +kernel
theorem dX5_word_1 : decode cX5_word 1 = .ok (.iload_n 1, 1) := by decide +kernel
theorem dX5_word_2 : decode cX5_word 2 = .ok (.invokevirtual 111, 3) := by decide +kernel
theorem dX5_word_5 : decode cX5_word 5 = .ok (.astore 4, 2) := by decide +kernel
theorem dX5_word_7 : decode cX5_word 7 = .ok (.aload 4, 2) := by decide +kernel
theorem dX5_word_9 : decode cX5_word 9 = .ok (.ifnonnull 7, 3) := by decide +kernel
theorem dX5_word_12 : decode cX5_word 12 = .ok (.lconst 0, 1) := by decide +kernel
theorem dX5_word_13 : decode cX5_word 13 = .ok (.goto 10, 3) := by decide +kernel
theorem dX5_word_23 : decode cX5_word 23 = .ok (.lreturn, 1) := by decide +kernel
set_option maxRecDepth 20000 in
theorem ggX5_judge_X5_textOf : GoodIn wsX5_judge wsX5_textOf := goodIn_r _ [6, 7, 8, 9, 5, 10, 11, 12, 68, 69, 70, 71, 72, 73, 74, 75, 76, 77, 54, 55, 56, 57, 58, 59, 60, 61, 62, 63, 64, 65, 66, 67] (by decide +kernel) (by decide +kernel)
set_option maxRecDepth 20000 in
theorem gX5_judge_X5_textOf : GoodIn wsX5_judge (wsV RX5 111 RX5 yX5_textOf wsX5_textOf) := goodIn_app (goodIn_of _ (by decide +kernel)) ggX5_judge_X5_textOf
theorem dX5_judge_0 : decode cX5_judge 0 = .ok (.aload_n 0, 1) := by decide +kernel
theorem dX5_judge_1 : decode cX5_judge 1 = .ok (.iload_n 1, 1) := by decide +kernel
theorem dX5_judge_2 : decode cX5_judge 2 = .ok (.invokevirtual 111, 3) := by decide +kernel
theorem dX5_judge_5 : decode cX5_judge 5 = .ok (.astore_n 2, 1) := by decide +kernel
theorem dX5_judge_6 : decode cX5_judge 6 = .ok (.aload_n 2, 1) := by decide +kernel
theorem dX5_judge_7 : decode cX5_judge 7 = .ok (.ifnonnull 7, 3) := by decide +kernel
theorem dX5_judge_10 : decode cX5_judge 10 = .ok (.iconst (-1), 1) := by decide +kernel
theorem dX5_judge_11 : decode cX5_judge 11 = .ok (.goto 11, 3) := by decide +kernel
theorem dX5_judge_22 : decode cX5_judge 22 = .ok (.ireturn, 1) := by decide +kernel
set_option maxRecDepth 20000 in
theorem ggX5_like_X5_textOf : GoodIn wsX5_like wsX5_textOf := goodIn_r _ [5, 6, 7, 8, 4, 9, 10, 11, 45, 46, 47, 48, 49, 50, 51, 52, 53, 54, 55, 56, 57, 58, 59, 60, 61, 62, 63, 64, 65, 66, 67, 68] (by decide +kernel) (by decide +kernel)
set_option maxRecDepth 20000 in
theorem gX5_like_X5_textOf : GoodIn wsX5_like (wsV RX5 111 RX5 yX5_textOf wsX5_textOf) := goodIn_app (goodIn_of _ (by decide +kernel)) ggX5_like_X5_textOf
theorem dX5_like_0 : decode cX5_like 0 = .ok (.aload_n 0, 1) := by decide +kernel
theorem dX5_like_1 : decode cX5_like 1 = .ok (.iload_n 1, 1) := by decide +kernel
theorem dX5_like_2 : decode cX5_like 2 = .ok (.invokevirtual 111, 3) := by decide +kernel
theorem dX5_like_5 : decode cX5_like 5 = .ok (.astore_n 3, 1) := by decide +kernel
theorem dX5_like_6 : decode cX5_like 6 = .ok (.aload_n 0, 1) := by decide +kernel
theorem dX5_like_7 : decode cX5_like 7 = .ok (.iload_n 2, 1) := by decide +kernel
theorem dX5_like_8 : decode cX5_like 8 = .ok (.invokevirtual 111, 3) := by decide +kernel
theorem dX5_like_11 : decode cX5_like 11 = .ok (.astore 4, 2) := by decide +kernel
theorem dX5_like_13 : decode cX5_like 13 = .ok (.aload_n 3, 1) := by decide +kernel
theorem dX5_like_14 : decode cX5_like 14 = .ok (.ifnull 8, 3) := by decide +kernel
theorem dX5_like_22 : decode cX5_like 22 = .ok (.iconst (-1), 1) := by decide +kernel
theorem dX5_like_23 : decode cX5_like 23 = .ok (.ireturn, 1) := by decide +kernel
set_option maxRecDepth 20000 in
theorem ggX5_number_X5_find : GoodIn wsX5_number wsX5_find := goodIn_r _ [5, 6, 7, 25, 26, 27, 28, 29, 30, 31, 32, 33, 34, 35, 36, 37, 38] (by decide +kernel) (by decide +kernel)
set_option maxRecDepth 20000 in
theorem gX5_number_X5_find : GoodIn wsX5_number (wsV RX5 86 RX5 yX5_find wsX5_find) := goodIn_app (goodIn_of _ (by decide +kernel)) ggX5_number_X5_find
theorem dX5_number_0 : decode cX5_number 0 = .ok (.aload_n 0, 1) := by decide +kernel
theorem dX5_number_1 : decode cX5_number 1 = .ok (.iload_n 1, 1) := by decide +kernel
theorem dX5_number_2 : decode cX5_number 2 = .ok (.invokevirtual 86, 3) := by decide +kernel
theorem dX5_number_5 : decode cX5_number 5 = .ok (.astore_n 3, 1) := by decide +kernel
theorem dX5_number_6 : decode cX5_number 6 = .ok (.aload_n 3, 1) := by decide +kernel
theorem dX5_number_7 : decode cX5_number 7 = .ok (.ifnonnull 6, 3) := by decide +kernel
theorem dX5_number_10 : decode cX5_number 10 = .ok (.bipush (-5), 2) := by decide +kernel
theorem dX5_number_12 : decode cX5_number 12 = .ok (.ireturn, 1) := by decide +kernel
set_option maxRecDepth 20000 in
theorem ggX5_sees_X5_find : GoodIn wsX5_sees wsX5_find := goodIn_r _ [5, 6, 7, 16, 17, 18, 19, 20, 21, 22, 23, 24, 25, 26, 27, 28, 29] (by decide +kernel) (by decide +kernel)
set_option maxRecDepth 20000 in
theorem gX5_sees_X5_find : GoodIn wsX5_sees (wsV RX5 86 RX5 yX5_find wsX5_find) := goodIn_app (goodIn_of _ (by decide +kernel)) ggX5_sees_X5_find
theorem dX5_sees_0 : decode cX5_sees 0 = .ok (.aload_n 0, 1) := by decide +kernel
theorem dX5_sees_1 : decode cX5_sees 1 = .ok (.iload_n 2, 1) := by decide +kernel
theorem dX5_sees_2 : decode cX5_sees 2 = .ok (.invokevirtual 86, 3) := by decide +kernel
theorem dX5_sees_5 : decode cX5_sees 5 = .ok (.astore 5, 2) := by decide +kernel
theorem dX5_sees_7 : decode cX5_sees 7 = .ok (.aload 5, 2) := by decide +kernel
theorem dX5_sees_9 : decode cX5_sees 9 = .ok (.ifnull 13, 3) := by decide +kernel
theorem dX5_sees_22 : decode cX5_sees 22 = .ok (.iconst (-1), 1) := by decide +kernel
theorem dX5_sees_23 : decode cX5_sees 23 = .ok (.ireturn, 1) := by decide +kernel
set_option maxRecDepth 20000 in
theorem ggX5_opens_X5_isWithin : GoodIn wsX5_opens wsX5_isWithin := goodIn_r _ [4] (by decide +kernel) (by decide +kernel)
set_option maxRecDepth 20000 in
theorem gX5_opens_X5_isWithin : GoodIn wsX5_opens (va_wsS RX5 68 yX5_isWithin wsX5_isWithin) := goodIn_app (goodIn_of _ (by decide +kernel)) ggX5_opens_X5_isWithin
set_option maxRecDepth 20000 in
theorem ggX5_opens_X5_openedBy : GoodIn wsX5_opens wsX5_openedBy := goodIn_r _ [8, 9, 10, 11, 12, 3, 13, 14, 15, 16, 17, 18, 19, 20, 21, 22, 23, 24, 25, 26, 27, 28, 29, 30, 31, 32, 33, 34, 35, 36, 37, 38, 39, 40, 41, 42, 43] (by decide +kernel) (by decide +kernel)
set_option maxRecDepth 20000 in
theorem gX5_opens_X5_openedBy : GoodIn wsX5_opens (wsV RX5 176 RX5 yX5_openedBy wsX5_openedBy) := goodIn_app (goodIn_of _ (by decide +kernel)) ggX5_opens_X5_openedBy
theorem dX5_opens_0 : decode cX5_opens 0 = .ok (.iload_n 1, 1) := by decide +kernel
theorem dX5_opens_1 : decode cX5_opens 1 = .ok (.iconst 0, 1) := by decide +kernel
theorem dX5_opens_2 : decode cX5_opens 2 = .ok (.sipush 255, 3) := by decide +kernel
theorem dX5_opens_5 : decode cX5_opens 5 = .ok (.invokestatic 68, 3) := by decide +kernel
theorem dX5_opens_8 : decode cX5_opens 8 = .ok (.ifCond .ne 6, 3) := by decide +kernel
theorem dX5_opens_11 : decode cX5_opens 11 = .ok (.bipush (-2), 2) := by decide +kernel
theorem dX5_opens_13 : decode cX5_opens 13 = .ok (.ireturn, 1) := by decide +kernel
theorem dX5_opens_14 : decode cX5_opens 14 = .ok (.aload_n 0, 1) := by decide +kernel
theorem dX5_opens_15 : decode cX5_opens 15 = .ok (.iload_n 1, 1) := by decide +kernel
theorem dX5_opens_16 : decode cX5_opens 16 = .ok (.invokevirtual 176, 3) := by decide +kernel
theorem dX5_opens_19 : decode cX5_opens 19 = .ok (.ireturn, 1) := by decide +kernel
set_option maxRecDepth 20000 in
theorem ggX5_reading_X5_find : GoodIn wsX5_reading wsX5_find := goodIn_r _ [5, 6, 7, 25, 26, 27, 28, 29, 30, 31, 32, 33, 34, 35, 36, 37, 38] (by decide +kernel) (by decide +kernel)
set_option maxRecDepth 20000 in
theorem gX5_reading_X5_find : GoodIn wsX5_reading (wsV RX5 86 RX5 yX5_find wsX5_find) := goodIn_app (goodIn_of _ (by decide +kernel)) ggX5_reading_X5_find
theorem dX5_reading_0 : decode cX5_reading 0 = .ok (.aload_n 0, 1) := by decide +kernel
theorem dX5_reading_1 : decode cX5_reading 1 = .ok (.iload_n 1, 1) := by decide +kernel
theorem dX5_reading_2 : decode cX5_reading 2 = .ok (.invokevirtual 86, 3) := by decide +kernel
theorem dX5_reading_5 : decode cX5_reading 5 = .ok (.astore 4, 2) := by decide +kernel
theorem dX5_reading_7 : decode cX5_reading 7 = .ok (.aload 4, 2) := by decide +kernel
theorem dX5_reading_9 : decode cX5_reading 9 = .ok (.ifnull 12, 3) := by decide +kernel
theorem dX5_reading_21 : decode cX5_reading 21 = .ok (.iconst (-1), 1) := by decide +kernel
theorem dX5_reading_22 : decode cX5_reading 22 = .ok (.ireturn, 1) := by decide +kernel
set_option maxRecDepth 20000 in
theorem ggX5_mark_X5_find : GoodIn wsX5_mark wsX5_find := goodIn_r _ [5, 6, 7, 38, 39, 40, 41, 42, 43, 44, 45, 46, 47, 48, 49, 50, 51] (by decide +kernel) (by decide +kernel)
set_option maxRecDepth 20000 in
theorem gX5_mark_X5_find : GoodIn wsX5_mark (wsV RX5 86 RX5 yX5_find wsX5_find) := goodIn_app (goodIn_of _ (by decide +kernel)) ggX5_mark_X5_find
theorem dX5_mark_0 : decode cX5_mark 0 = .ok (.aload_n 0, 1) := by decide +kernel
theorem dX5_mark_1 : decode cX5_mark 1 = .ok (.iload_n 1, 1) := by decide +kernel
theorem dX5_mark_2 : decode cX5_mark 2 = .ok (.invokevirtual 86, 3) := by decide +kernel
theorem dX5_mark_5 : decode cX5_mark 5 = .ok (.astore 4, 2) := by decide +kernel
theorem dX5_mark_7 : decode cX5_mark 7 = .ok (.aload 4, 2) := by decide +kernel
theorem dX5_mark_9 : decode cX5_mark 9 = .ok (.ifnull 11, 3) := by decide +kernel
theorem dX5_mark_20 : decode cX5_mark 20 = .ok (.iconst (-1), 1) := by decide +kernel
theorem dX5_mark_21 : decode cX5_mark 21 = .ok (.ireturn, 1) := by decide +kernel
set_option maxRecDepth 20000 in
theorem ggX5_load_X5_findReader : GoodIn wsX5_load wsX5_findReader := goodIn_r _ [5, 6, 7, 11, 12, 13, 14, 15, 16, 17, 18, 19, 20, 21, 22, 23, 24] (by decide +kernel) (by decide +kernel)
set_option maxRecDepth 20000 in
theorem gX5_load_X5_findReader : GoodIn wsX5_load (wsV RX5 208 RX5 yX5_findReader wsX5_findReader) := goodIn_app (goodIn_of _ (by decide +kernel)) ggX5_load_X5_findReader
theorem dX5_load_0 : decode cX5_load 0 = .ok (.aload_n 0, 1) := by decide +kernel
theorem dX5_load_1 : decode cX5_load 1 = .ok (.iload_n 1, 1) := by decide +kernel
theorem dX5_load_2 : decode cX5_load 2 = .ok (.invokevirtual 208, 3) := by decide +kernel
theorem dX5_load_5 : decode cX5_load 5 = .ok (.astore_n 2, 1) := by decide +kernel
theorem dX5_load_6 : decode cX5_load 6 = .ok (.aload_n 2, 1) := by decide +kernel
theorem dX5_load_7 : decode cX5_load 7 = .ok (.ifnonnull 7, 3) := by decide +kernel
theorem dX5_load_10 : decode cX5_load 10 = .ok (.iconst (-1), 1) := by decide +kernel
theorem dX5_load_11 : decode cX5_load 11 = .ok (.goto 7, 3) := by decide +kernel
theorem dX5_load_18 : decode cX5_load 18 = .ok (.ireturn, 1) := by decide +kernel
set_option maxRecDepth 20000 in
theorem ggX5_shift_X5_findReader : GoodIn wsX5_shift wsX5_findReader := goodIn_r _ [5, 6, 7, 36, 37, 38, 39, 40, 41, 42, 43, 44, 45, 46, 47, 48, 49] (by decide +kernel) (by decide +kernel)
set_option maxRecDepth 20000 in
theorem gX5_shift_X5_findReader : GoodIn wsX5_shift (wsV RX5 208 RX5 yX5_findReader wsX5_findReader) := goodIn_app (goodIn_of _ (by decide +kernel)) ggX5_shift_X5_findReader
theorem dX5_shift_0 : decode cX5_shift 0 = .ok (.aload_n 0, 1) := by decide +kernel
theorem dX5_shift_1 : decode cX5_shift 1 = .ok (.iload_n 1, 1) := by decide +kernel
theorem dX5_shift_2 : decode cX5_shift 2 = .ok (.invokevirtual 208, 3) := by decide +kernel
theorem dX5_shift_5 : decode cX5_shift 5 = .ok (.ifnonnull 9, 3) := by decide +kernel
theorem dX5_shift_8 : decode cX5_shift 8 = .ok (.sipush (-1000), 3) := by decide +kernel
theorem dX5_shift_11 : decode cX5_shift 11 = .ok (.goto 8, 3) := by decide +kernel
theorem dX5_shift_19 : decode cX5_shift 19 = .ok (.ireturn, 1) := by decide +kernel
set_option maxRecDepth 20000 in
theorem ggX5_score_X5_find : GoodIn wsX5_score wsX5_find := goodIn_r _ [5, 6, 7, 77, 78, 79, 80, 81, 82, 83, 84, 85, 86, 87, 88, 89, 90] (by decide +kernel) (by decide +kernel)
set_option maxRecDepth 20000 in
theorem gX5_score_X5_find : GoodIn wsX5_score (wsV RX5 86 RX5 yX5_find wsX5_find) := goodIn_app (goodIn_of _ (by decide +kernel)) ggX5_score_X5_find
theorem dX5_score_0 : decode cX5_score 0 = .ok (.aload_n 0, 1) := by decide +kernel
theorem dX5_score_1 : decode cX5_score 1 = .ok (.iload_n 1, 1) := by decide +kernel
theorem dX5_score_2 : decode cX5_score 2 = .ok (.invokevirtual 86, 3) := by decide +kernel
theorem dX5_score_5 : decode cX5_score 5 = .ok (.astore_n 3, 1) := by decide +kernel
theorem dX5_score_6 : decode cX5_score 6 = .ok (.aload_n 3, 1) := by decide +kernel
theorem dX5_score_7 : decode cX5_score 7 = .ok (.ifnull 12, 3) := by decide +kernel
theorem dX5_score_19 : decode cX5_score 19 = .ok (.iconst (-1), 1) := by decide +kernel
theorem dX5_score_20 : decode cX5_score 20 = .ok (.ireturn, 1) := by decide +kernel
set_option maxRecDepth 20000 in
theorem ggX5_passes_X5_find : GoodIn wsX5_passes wsX5_find := goodIn_r _ [6, 7, 8, 138, 139, 140, 141, 142, 143, 144, 145, 146, 147, 148, 149, 150, 151] (by decide +kernel) (by decide +kernel)
set_option maxRecDepth 20000 in
theorem gX5_passes_X5_find : GoodIn wsX5_passes (wsV RX5 86 RX5 yX5_find wsX5_find) := goodIn_app (goodIn_of _ (by decide +kernel)) ggX5_passes_X5_find
theorem dX5_passes_0 : decode cX5_passes 0 = .ok (.aload_n 0, 1) := by decide +kernel
theorem dX5_passes_1 : decode cX5_passes 1 = .ok (.iload_n 1, 1) := by decide +kernel
theorem dX5_passes_2 : decode cX5_passes 2 = .ok (.invokevirtual 86, 3) := by decide +kernel
theorem dX5_passes_5 : decode cX5_passes 5 = .ok (.ifnonnull 5, 3) := by decide +kernel
theorem dX5_passes_8 : decode cX5_passes 8 = .ok (.iconst (-1), 1) := by decide +kernel
theorem dX5_passes_9 : decode cX5_passes 9 = .ok (.ireturn, 1) := by decide +kernel
set_option maxRecDepth 20000 in
theorem ggX5_passed_X5_isWithin : GoodIn wsX5_passed wsX5_isWithin := goodIn_r _ [6] (by decide +kernel) (by decide +kernel)
set_option maxRecDepth 20000 in
theorem gX5_passed_X5_isWithin : GoodIn wsX5_passed (va_wsS RX5 68 yX5_isWithin wsX5_isWithin) := goodIn_app (goodIn_of _ (by decide +kernel)) ggX5_passed_X5_isWithin
set_option maxRecDepth 20000 in
theorem ggX5_passed_X5_settle : GoodIn wsX5_passed wsX5_settle := goodIn_r _ [10, 1, 11, 12, 2, 13, 14, 15, 5, 16, 17, 18, 19, 20, 21, 22, 23, 24, 25, 26, 27, 28, 29, 30, 31, 32, 33, 34, 35, 36, 37, 38, 39, 40, 41, 42, 43, 44, 45, 46, 47, 48, 49, 50, 51, 52, 53, 54, 55, 56, 57, 58, 59, 60, 61, 62, 63, 64, 65, 66, 4, 6, 67, 68, 69, 70, 71, 72, 73, 74, 75, 76, 77, 78, 79, 80, 81, 82, 83, 84, 85, 86, 87, 88, 89, 90, 91, 92, 93, 94, 95, 96, 97, 98, 99, 100, 101, 102, 103, 104, 105, 106, 107, 108, 109, 110, 111, 112, 113, 114, 115, 116, 117, 118, 119, 120, 121, 122, 123, 124, 125, 126, 127, 3, 128, 129, 130, 131, 132, 133, 134, 135, 136, 137, 138, 139, 140, 141, 142, 143, 144, 145, 146, 147, 148, 149, 150, 151, 152, 153, 154, 155, 156, 157, 158, 159, 160, 161, 162, 163, 164, 165, 166, 167, 168] (by decide +kernel) (by decide +kernel)
set_option maxRecDepth 20000 in
theorem gX5_passed_X5_settle : GoodIn wsX5_passed (wsV RX5 231 RX5 yX5_settle wsX5_settle) := goodIn_app (goodIn_of _ (by decide +kernel)) ggX5_passed_X5_settle
theorem dX5_passed_0 : decode cX5_passed 0 = .ok (.iload_n 1, 1) := by decide +kernel
theorem dX5_passed_1 : decode cX5_passed 1 = .ok (.iconst 0, 1) := by decide +kernel
theorem dX5_passed_2 : decode cX5_passed 2 = .ok (.iconst 3, 1) := by decide +kernel
theorem dX5_passed_3 : decode cX5_passed 3 = .ok (.invokestatic 68, 3) := by decide +kernel
theorem dX5_passed_6 : decode cX5_passed 6 = .ok (.ifCond .ne 5, 3) := by decide +kernel
theorem dX5_passed_9 : decode cX5_passed 9 = .ok (.iconst (-1), 1) := by decide +kernel
theorem dX5_passed_10 : decode cX5_passed 10 = .ok (.ireturn, 1) := by decide +kernel
theorem dX5_passed_11 : decode cX5_passed 11 = .ok (.aload_n 0, 1) := by decide +kernel
theorem dX5_passed_12 : decode cX5_passed 12 = .ok (.iconst (-1), 1) := by decide +kernel
theorem dX5_passed_13 : decode cX5_passed 13 = .ok (.invokevirtual 231, 3) := by decide +kernel
theorem dX5_passed_16 : decode cX5_passed 16 = .ok (.iconst 0, 1) := by decide +kernel
theorem dX5_passed_17 : decode cX5_passed 17 = .ok (.istore_n 2, 1) := by decide +kernel
theorem dX5_passed_18 : decode cX5_passed 18 = .ok (.iconst 0, 1) := by decide +kernel
theorem dX5_passed_19 : decode cX5_passed 19 = .ok (.istore_n 3, 1) := by decide +kernel
theorem dX5_passed_20 : decode cX5_passed 20 = .ok (.iload_n 3, 1) := by decide +kernel
theorem dX5_passed_21 : decode cX5_passed 21 = .ok (.aload_n 0, 1) := by decide +kernel
theorem dX5_passed_22 : decode cX5_passed 22 = .ok (.getfield 15, 3) := by decide +kernel
theorem dX5_passed_25 : decode cX5_passed 25 = .ok (.if_icmp .ge 42, 3) := by decide +kernel
theorem dX5_passed_67 : decode cX5_passed 67 = .ok (.iload_n 2, 1) := by decide +kernel
theorem dX5_passed_68 : decode cX5_passed 68 = .ok (.ireturn, 1) := by decide +kernel
set_option maxRecDepth 20000 in
theorem ggX5_strike_X5_find : GoodIn wsX5_strike wsX5_find := goodIn_r _ [5, 6, 7, 21, 22, 23, 24, 25, 26, 27, 28, 29, 30, 31, 32, 33, 34] (by decide +kernel) (by decide +kernel)
set_option maxRecDepth 20000 in
theorem gX5_strike_X5_find : GoodIn wsX5_strike (wsV RX5 86 RX5 yX5_find wsX5_find) := goodIn_app (goodIn_of _ (by decide +kernel)) ggX5_strike_X5_find
theorem dX5_strike_0 : decode cX5_strike 0 = .ok (.aload_n 0, 1) := by decide +kernel
theorem dX5_strike_1 : decode cX5_strike 1 = .ok (.iload_n 1, 1) := by decide +kernel
theorem dX5_strike_2 : decode cX5_strike 2 = .ok (.invokevirtual 86, 3) := by decide +kernel
theorem dX5_strike_5 : decode cX5_strike 5 = .ok (.astore_n 3, 1) := by decide +kernel
theorem dX5_strike_6 : decode cX5_strike 6 = .ok (.aload_n 3, 1) := by decide +kernel
theorem dX5_strike_7 : decode cX5_strike 7 = .ok (.ifnonnull 5, 3) := by decide +kernel
theorem dX5_strike_10 : decode cX5_strike 10 = .ok (.iconst (-1), 1) := by decide +kernel
theorem dX5_strike_11 : decode cX5_strike 11 = .ok (.ireturn, 1) := by decide +kernel
set_option maxRecDepth 20000 in
theorem ggX5_ifStruck_X5_find : GoodIn wsX5_ifStruck wsX5_find := goodIn_r _ [8, 1, 9, 135, 136, 137, 138, 139, 140, 141, 142, 143, 144, 145, 146, 147, 148] (by decide +kernel) (by decide +kernel)
set_option maxRecDepth 20000 in
theorem gX5_ifStruck_X5_find : GoodIn wsX5_ifStruck (wsV RX5 86 RX5 yX5_find wsX5_find) := goodIn_app (goodIn_of _ (by decide +kernel)) ggX5_ifStruck_X5_find
theorem dX5_ifStruck_0 : decode cX5_ifStruck 0 = .ok (.aload_n 0, 1) := by decide +kernel
theorem dX5_ifStruck_1 : decode cX5_ifStruck 1 = .ok (.iload_n 1, 1) := by decide +kernel
theorem dX5_ifStruck_2 : decode cX5_ifStruck 2 = .ok (.invokevirtual 86, 3) := by decide +kernel
theorem dX5_ifStruck_5 : decode cX5_ifStruck 5 = .ok (.ifnonnull 5, 3) := by decide +kernel
theorem dX5_ifStruck_8 : decode cX5_ifStruck 8 = .ok (.iconst (-1), 1) := by decide +kernel
theorem dX5_ifStruck_9 : decode cX5_ifStruck 9 = .ok (.ireturn, 1) := by decide +kernel
set_option maxRecDepth 20000 in
theorem ggX5_cell_X5_find : GoodIn wsX5_cell wsX5_find := goodIn_r _ [5, 6, 7, 25, 26, 27, 28, 29, 30, 31, 32, 33, 34, 35, 36, 37, 38] (by decide +kernel) (by decide +kernel)
set_option maxRecDepth 20000 in
theorem gX5_cell_X5_find : GoodIn wsX5_cell (wsV RX5 86 RX5 yX5_find wsX5_find) := goodIn_app (goodIn_of _ (by decide +kernel)) ggX5_cell_X5_find
theorem dX5_cell_0 : decode cX5_cell 0 = .ok (.aload_n 0, 1) := by decide +kernel
theorem dX5_cell_1 : decode cX5_cell 1 = .ok (.iload_n 1, 1) := by decide +kernel
theorem dX5_cell_2 : decode cX5_cell 2 = .ok (.invokevirtual 86, 3) := by decide +kernel
theorem dX5_cell_5 : decode cX5_cell 5 = .ok (.astore_n 3, 1) := by decide +kernel
theorem dX5_cell_6 : decode cX5_cell 6 = .ok (.aload_n 3, 1) := by decide +kernel
theorem dX5_cell_7 : decode cX5_cell 7 = .ok (.ifnonnull 6, 3) := by decide +kernel
theorem dX5_cell_10 : decode cX5_cell 10 = .ok (.bipush (-5), 2) := by decide +kernel
theorem dX5_cell_12 : decode cX5_cell 12 = .ok (.ireturn, 1) := by decide +kernel
set_option maxRecDepth 20000 in
theorem ggX5_kin_X5_find : GoodIn wsX5_kin wsX5_find := goodIn_r _ [5, 6, 7, 16, 17, 18, 19, 20, 21, 22, 23, 24, 25, 26, 27, 28, 29] (by decide +kernel) (by decide +kernel)
set_option maxRecDepth 20000 in
theorem gX5_kin_X5_find : GoodIn wsX5_kin (wsV RX5 86 RX5 yX5_find wsX5_find) := goodIn_app (goodIn_of _ (by decide +kernel)) ggX5_kin_X5_find
theorem dX5_kin_0 : decode cX5_kin 0 = .ok (.aload_n 0, 1) := by decide +kernel
theorem dX5_kin_1 : decode cX5_kin 1 = .ok (.iload_n 1, 1) := by decide +kernel
theorem dX5_kin_2 : decode cX5_kin 2 = .ok (.invokevirtual 86, 3) := by decide +kernel
theorem dX5_kin_5 : decode cX5_kin 5 = .ok (.astore_n 3, 1) := by decide +kernel
theorem dX5_kin_6 : decode cX5_kin 6 = .ok (.aload_n 0, 1) := by decide +kernel
theorem dX5_kin_7 : decode cX5_kin 7 = .ok (.iload_n 2, 1) := by decide +kernel
theorem dX5_kin_8 : decode cX5_kin 8 = .ok (.invokevirtual 86, 3) := by decide +kernel
theorem dX5_kin_11 : decode cX5_kin 11 = .ok (.astore 4, 2) := by decide +kernel
theorem dX5_kin_13 : decode cX5_kin 13 = .ok (.aload_n 3, 1) := by decide +kernel
theorem dX5_kin_14 : decode cX5_kin 14 = .ok (.ifnull 8, 3) := by decide +kernel
theorem dX5_kin_22 : decode cX5_kin 22 = .ok (.iconst (-1), 1) := by decide +kernel
theorem dX5_kin_23 : decode cX5_kin 23 = .ok (.ireturn, 1) := by decide +kernel
theorem dX5_near_0 : decode cX5_near 0 = .ok (.iconst 0, 1) := by decide +kernel
theorem dX5_near_1 : decode cX5_near 1 = .ok (.istore_n 1, 1) := by decide +kernel
theorem dX5_near_2 : decode cX5_near 2 = .ok (.iconst 0, 1) := by decide +kernel
theorem dX5_near_3 : decode cX5_near 3 = .ok (.istore_n 2, 1) := by decide +kernel
theorem dX5_near_4 : decode cX5_near 4 = .ok (.iload_n 2, 1) := by decide +kernel
theorem dX5_near_5 : decode cX5_near 5 = .ok (.aload_n 0, 1) := by decide +kernel
theorem dX5_near_6 : decode cX5_near 6 = .ok (.getfield 15, 3) := by decide +kernel
theorem dX5_near_9 : decode cX5_near 9 = .ok (.if_icmp .ge 47, 3) := by decide +kernel
theorem dX5_near_56 : decode cX5_near 56 = .ok (.iload_n 1, 1) := by decide +kernel
theorem dX5_near_57 : decode cX5_near 57 = .ok (.ireturn, 1) := by decide +kernel
theorem dX5_isWithin_0 : decode cX5_isWithin 0 = .ok (.iload_n 0, 1) := by decide +kernel
theorem dX5_isWithin_1 : decode cX5_isWithin 1 = .ok (.iload_n 1, 1) := by decide +kernel
theorem dX5_isWithin_2 : decode cX5_isWithin 2 = .ok (.if_icmp .lt 12, 3) := by decide +kernel
theorem dX5_isWithin_5 : decode cX5_isWithin 5 = .ok (.iload_n 0, 1) := by decide +kernel
theorem dX5_isWithin_6 : decode cX5_isWithin 6 = .ok (.iload_n 2, 1) := by decide +kernel
theorem dX5_isWithin_7 : decode cX5_isWithin 7 = .ok (.if_icmp .gt 7, 3) := by decide +kernel
theorem dX5_isWithin_10 : decode cX5_isWithin 10 = .ok (.iconst 1, 1) := by decide +kernel
theorem dX5_isWithin_11 : decode cX5_isWithin 11 = .ok (.goto 4, 3) := by decide +kernel
theorem dX5_isWithin_14 : decode cX5_isWithin 14 = .ok (.iconst 0, 1) := by decide +kernel
theorem dX5_isWithin_15 : decode cX5_isWithin 15 = .ok (.ireturn, 1) := by decide +kernel
theorem dX5_isLetter_0 : decode cX5_isLetter 0 = .ok (.iload_n 0, 1) := by decide +kernel
theorem dX5_isLetter_1 : decode cX5_isLetter 1 = .ok (.bipush 97, 2) := by decide +kernel
theorem dX5_isLetter_3 : decode cX5_isLetter 3 = .ok (.if_icmp .lt 13, 3) := by decide +kernel
theorem dX5_isLetter_6 : decode cX5_isLetter 6 = .ok (.iload_n 0, 1) := by decide +kernel
theorem dX5_isLetter_7 : decode cX5_isLetter 7 = .ok (.bipush 122, 2) := by decide +kernel
theorem dX5_isLetter_9 : decode cX5_isLetter 9 = .ok (.if_icmp .gt 7, 3) := by decide +kernel
theorem dX5_isLetter_12 : decode cX5_isLetter 12 = .ok (.iconst 1, 1) := by decide +kernel
theorem dX5_isLetter_13 : decode cX5_isLetter 13 = .ok (.goto 4, 3) := by decide +kernel
theorem dX5_isLetter_16 : decode cX5_isLetter 16 = .ok (.iconst 0, 1) := by decide +kernel
theorem dX5_isLetter_17 : decode cX5_isLetter 17 = .ok (.ireturn, 1) := by decide +kernel
theorem dX5_find_0 : decode cX5_find 0 = .ok (.iload_n 1, 1) := by decide +kernel
theorem dX5_find_1 : decode cX5_find 1 = .ok (.ifCond .lt 20, 3) := by decide +kernel
theorem dX5_find_4 : decode cX5_find 4 = .ok (.iload_n 1, 1) := by decide +kernel
theorem dX5_find_5 : decode cX5_find 5 = .ok (.aload_n 0, 1) := by decide +kernel
theorem dX5_find_6 : decode cX5_find 6 = .ok (.getfield 15, 3) := by decide +kernel
theorem dX5_find_9 : decode cX5_find 9 = .ok (.if_icmp .ge 12, 3) := by decide +kernel
theorem dX5_find_21 : decode cX5_find 21 = .ok (.aconst_null, 1) := by decide +kernel
theorem dX5_find_22 : decode cX5_find 22 = .ok (.areturn, 1) := by decide +kernel
theorem dX5_findReader_0 : decode cX5_findReader 0 = .ok (.iload_n 1, 1) := by decide +kernel
theorem dX5_findReader_1 : decode cX5_findReader 1 = .ok (.ifCond .lt 20, 3) := by decide +kernel
theorem dX5_findReader_4 : decode cX5_findReader 4 = .ok (.iload_n 1, 1) := by decide +kernel
theorem dX5_findReader_5 : decode cX5_findReader 5 = .ok (.aload_n 0, 1) := by decide +kernel
theorem dX5_findReader_6 : decode cX5_findReader 6 = .ok (.getfield 25, 3) := by decide +kernel
theorem dX5_findReader_9 : decode cX5_findReader 9 = .ok (.if_icmp .ge 12, 3) := by decide +kernel
theorem dX5_findReader_21 : decode cX5_findReader 21 = .ok (.aconst_null, 1) := by decide +kernel
theorem dX5_findReader_22 : decode cX5_findReader 22 = .ok (.areturn, 1) := by decide +kernel
set_option maxRecDepth 20000 in
theorem ggX5_textOf_X5_find : GoodIn wsX5_textOf wsX5_find := goodIn_r _ [5, 6, 7, 18, 19, 20, 21, 22, 23, 24, 25, 26, 27, 28, 29, 30, 31] (by decide +kernel) (by decide +kernel)
set_option maxRecDepth 20000 in
theorem gX5_textOf_X5_find : GoodIn wsX5_textOf (wsV RX5 86 RX5 yX5_find wsX5_find) := goodIn_app (goodIn_of _ (by decide +kernel)) ggX5_textOf_X5_find
theorem dX5_textOf_0 : decode cX5_textOf 0 = .ok (.aload_n 0, 1) := by decide +kernel
theorem dX5_textOf_1 : decode cX5_textOf 1 = .ok (.iload_n 1, 1) := by decide +kernel
theorem dX5_textOf_2 : decode cX5_textOf 2 = .ok (.invokevirtual 86, 3) := by decide +kernel
theorem dX5_textOf_5 : decode cX5_textOf 5 = .ok (.astore_n 2, 1) := by decide +kernel
theorem dX5_textOf_6 : decode cX5_textOf 6 = .ok (.aload_n 2, 1) := by decide +kernel
theorem dX5_textOf_7 : decode cX5_textOf 7 = .ok (.ifnonnull 7, 3) := by decide +kernel
theorem dX5_textOf_10 : decode cX5_textOf 10 = .ok (.aconst_null, 1) := by decide +kernel
theorem dX5_textOf_11 : decode cX5_textOf 11 = .ok (.goto 7, 3) := by decide +kernel
theorem dX5_textOf_18 : decode cX5_textOf 18 = .ok (.areturn, 1) := by decide +kernel
theorem dX5_bearerOf_0 : decode cX5_bearerOf 0 = .ok (.iconst 0, 1) := by decide +kernel
theorem dX5_bearerOf_1 : decode cX5_bearerOf 1 = .ok (.istore_n 2, 1) := by decide +kernel
theorem dX5_bearerOf_2 : decode cX5_bearerOf 2 = .ok (.iload_n 2, 1) := by decide +kernel
theorem dX5_bearerOf_3 : decode cX5_bearerOf 3 = .ok (.aload_n 0, 1) := by decide +kernel
theorem dX5_bearerOf_4 : decode cX5_bearerOf 4 = .ok (.getfield 15, 3) := by decide +kernel
theorem dX5_bearerOf_7 : decode cX5_bearerOf 7 = .ok (.if_icmp .ge 29, 3) := by decide +kernel
theorem dX5_bearerOf_36 : decode cX5_bearerOf 36 = .ok (.iconst (-1), 1) := by decide +kernel
theorem dX5_bearerOf_37 : decode cX5_bearerOf 37 = .ok (.ireturn, 1) := by decide +kernel
theorem dX5_openedBy_0 : decode cX5_openedBy 0 = .ok (.iconst 0, 1) := by decide +kernel
theorem dX5_openedBy_1 : decode cX5_openedBy 1 = .ok (.istore_n 2, 1) := by decide +kernel
theorem dX5_openedBy_2 : decode cX5_openedBy 2 = .ok (.iconst 0, 1) := by decide +kernel
theorem dX5_openedBy_3 : decode cX5_openedBy 3 = .ok (.istore_n 3, 1) := by decide +kernel
theorem dX5_openedBy_4 : decode cX5_openedBy 4 = .ok (.iload_n 3, 1) := by decide +kernel
theorem dX5_openedBy_5 : decode cX5_openedBy 5 = .ok (.aload_n 0, 1) := by decide +kernel
theorem dX5_openedBy_6 : decode cX5_openedBy 6 = .ok (.getfield 15, 3) := by decide +kernel
theorem dX5_openedBy_9 : decode cX5_openedBy 9 = .ok (.if_icmp .ge 33, 3) := by decide +kernel
theorem dX5_openedBy_42 : decode cX5_openedBy 42 = .ok (.iload_n 2, 1) := by decide +kernel
theorem dX5_openedBy_43 : decode cX5_openedBy 43 = .ok (.ireturn, 1) := by decide +kernel
theorem dX5_settleShifts_0 : decode cX5_settleShifts 0 = .ok (.iconst 0, 1) := by decide +kernel
theorem dX5_settleShifts_1 : decode cX5_settleShifts 1 = .ok (.istore_n 1, 1) := by decide +kernel
theorem dX5_settleShifts_2 : decode cX5_settleShifts 2 = .ok (.iload_n 1, 1) := by decide +kernel
theorem dX5_settleShifts_3 : decode cX5_settleShifts 3 = .ok (.aload_n 0, 1) := by decide +kernel
theorem dX5_settleShifts_4 : decode cX5_settleShifts 4 = .ok (.getfield 25, 3) := by decide +kernel
theorem dX5_settleShifts_7 : decode cX5_settleShifts 7 = .ok (.if_icmp .ge 20, 3) := by decide +kernel
theorem dX5_settleShifts_27 : decode cX5_settleShifts 27 = .ok (.return_, 1) := by decide +kernel
set_option maxRecDepth 20000 in
theorem ggX5_settle_X5_settleShifts : GoodIn wsX5_settle wsX5_settleShifts := goodIn_r _ [9, 10, 11, 12, 13, 14, 8, 15, 1, 16, 17, 18, 19, 20, 21, 22, 23, 24, 25, 26, 27, 28, 29, 30, 31, 32, 33, 34, 35, 36, 37, 38, 130, 131, 132, 133, 134, 135, 136, 137, 138, 139, 140, 141, 142, 143, 144, 145, 146, 147, 148, 149, 150, 151, 152, 153] (by decide +kernel) (by decide +kernel)
set_option maxRecDepth 20000 in
theorem gX5_settle_X5_settleShifts : GoodIn wsX5_settle (wsV RX5 224 RX5 yX5_settleShifts wsX5_settleShifts) := goodIn_app (goodIn_of _ (by decide +kernel)) ggX5_settle_X5_settleShifts
theorem dX5_settle_0 : decode cX5_settle 0 = .ok (.aload_n 0, 1) := by decide +kernel
theorem dX5_settle_1 : decode cX5_settle 1 = .ok (.invokevirtual 224, 3) := by decide +kernel
theorem dX5_settle_4 : decode cX5_settle 4 = .ok (.iconst 0, 1) := by decide +kernel
theorem dX5_settle_5 : decode cX5_settle 5 = .ok (.istore_n 2, 1) := by decide +kernel
theorem dX5_settle_6 : decode cX5_settle 6 = .ok (.iload_n 2, 1) := by decide +kernel
theorem dX5_settle_7 : decode cX5_settle 7 = .ok (.aload_n 0, 1) := by decide +kernel
theorem dX5_settle_8 : decode cX5_settle 8 = .ok (.getfield 15, 3) := by decide +kernel
theorem dX5_settle_11 : decode cX5_settle 11 = .ok (.if_icmp .ge 51, 3) := by decide +kernel
theorem dX5_settle_62 : decode cX5_settle 62 = .ok (.iconst 0, 1) := by decide +kernel
theorem dX5_settle_63 : decode cX5_settle 63 = .ok (.istore_n 2, 1) := by decide +kernel
theorem dX5_settle_64 : decode cX5_settle 64 = .ok (.iload_n 2, 1) := by decide +kernel
theorem dX5_settle_65 : decode cX5_settle 65 = .ok (.aload_n 0, 1) := by decide +kernel
theorem dX5_settle_66 : decode cX5_settle 66 = .ok (.getfield 15, 3) := by decide +kernel
theorem dX5_settle_69 : decode cX5_settle 69 = .ok (.if_icmp .ge 38, 3) := by decide +kernel
theorem dX5_settle_107 : decode cX5_settle 107 = .ok (.return_, 1) := by decide +kernel
theorem dX5_essayCount_0 : decode cX5_essayCount 0 = .ok (.iconst 0, 1) := by decide +kernel
theorem dX5_essayCount_1 : decode cX5_essayCount 1 = .ok (.istore_n 1, 1) := by decide +kernel
theorem dX5_essayCount_2 : decode cX5_essayCount 2 = .ok (.iconst 0, 1) := by decide +kernel
theorem dX5_essayCount_3 : decode cX5_essayCount 3 = .ok (.istore_n 2, 1) := by decide +kernel
theorem dX5_essayCount_4 : decode cX5_essayCount 4 = .ok (.iload_n 2, 1) := by decide +kernel
theorem dX5_essayCount_5 : decode cX5_essayCount 5 = .ok (.aload_n 0, 1) := by decide +kernel
theorem dX5_essayCount_6 : decode cX5_essayCount 6 = .ok (.getfield 15, 3) := by decide +kernel
theorem dX5_essayCount_9 : decode cX5_essayCount 9 = .ok (.if_icmp .ge 25, 3) := by decide +kernel
theorem dX5_essayCount_34 : decode cX5_essayCount 34 = .ok (.iload_n 1, 1) := by decide +kernel
theorem dX5_essayCount_35 : decode cX5_essayCount 35 = .ok (.ireturn, 1) := by decide +kernel
theorem dX5_struckCount_0 : decode cX5_struckCount 0 = .ok (.iconst 0, 1) := by decide +kernel
theorem dX5_struckCount_1 : decode cX5_struckCount 1 = .ok (.istore_n 1, 1) := by decide +kernel
theorem dX5_struckCount_2 : decode cX5_struckCount 2 = .ok (.iconst 0, 1) := by decide +kernel
theorem dX5_struckCount_3 : decode cX5_struckCount 3 = .ok (.istore_n 2, 1) := by decide +kernel
theorem dX5_struckCount_4 : decode cX5_struckCount 4 = .ok (.iload_n 2, 1) := by decide +kernel
theorem dX5_struckCount_5 : decode cX5_struckCount 5 = .ok (.aload_n 0, 1) := by decide +kernel
theorem dX5_struckCount_6 : decode cX5_struckCount 6 = .ok (.getfield 15, 3) := by decide +kernel
theorem dX5_struckCount_9 : decode cX5_struckCount 9 = .ok (.if_icmp .ge 34, 3) := by decide +kernel
theorem dX5_struckCount_43 : decode cX5_struckCount 43 = .ok (.iload_n 1, 1) := by decide +kernel
theorem dX5_struckCount_44 : decode cX5_struckCount 44 = .ok (.ireturn, 1) := by decide +kernel
theorem dX5_markCount_0 : decode cX5_markCount 0 = .ok (.iconst 0, 1) := by decide +kernel
theorem dX5_markCount_1 : decode cX5_markCount 1 = .ok (.istore_n 1, 1) := by decide +kernel
theorem dX5_markCount_2 : decode cX5_markCount 2 = .ok (.iconst 0, 1) := by decide +kernel
theorem dX5_markCount_3 : decode cX5_markCount 3 = .ok (.istore_n 2, 1) := by decide +kernel
theorem dX5_markCount_4 : decode cX5_markCount 4 = .ok (.iload_n 2, 1) := by decide +kernel
theorem dX5_markCount_5 : decode cX5_markCount 5 = .ok (.aload_n 0, 1) := by decide +kernel
theorem dX5_markCount_6 : decode cX5_markCount 6 = .ok (.getfield 15, 3) := by decide +kernel
theorem dX5_markCount_9 : decode cX5_markCount 9 = .ok (.if_icmp .ge 30, 3) := by decide +kernel
theorem dX5_markCount_39 : decode cX5_markCount 39 = .ok (.iload_n 1, 1) := by decide +kernel
theorem dX5_markCount_40 : decode cX5_markCount 40 = .ok (.ireturn, 1) := by decide +kernel
theorem dX5_passingCount_0 : decode cX5_passingCount 0 = .ok (.iconst 0, 1) := by decide +kernel
theorem dX5_passingCount_1 : decode cX5_passingCount 1 = .ok (.istore_n 1, 1) := by decide +kernel
theorem dX5_passingCount_2 : decode cX5_passingCount 2 = .ok (.iconst 0, 1) := by decide +kernel
theorem dX5_passingCount_3 : decode cX5_passingCount 3 = .ok (.istore_n 2, 1) := by decide +kernel
theorem dX5_passingCount_4 : decode cX5_passingCount 4 = .ok (.iload_n 2, 1) := by decide +kernel
theorem dX5_passingCount_5 : decode cX5_passingCount 5 = .ok (.aload_n 0, 1) := by decide +kernel
theorem dX5_passingCount_6 : decode cX5_passingCount 6 = .ok (.getfield 15, 3) := by decide +kernel
theorem dX5_passingCount_9 : decode cX5_passingCount 9 = .ok (.if_icmp .ge 26, 3) := by decide +kernel
theorem dX5_passingCount_35 : decode cX5_passingCount 35 = .ok (.iload_n 1, 1) := by decide +kernel
theorem dX5_passingCount_36 : decode cX5_passingCount 36 = .ok (.ireturn, 1) := by decide +kernel
def sp_X_isWithin (n : Int32) (lo : Int32) (hi : Int32) : Int32 := if n < lo then 0 else if hi < n then 0 else 1
set_option maxHeartbeats 4000000 in
set_option maxRecDepth 100000 in
theorem c_X_isWithin (l : Launch) (dC : Nat → ClassId) (dI : Nat → Nat → Nat) (n : Int32) (lo : Int32) (hi : Int32) : Met l yX5_isWithin wsX5_isWithin ({ frames := 0, cells := 0, slots := 0, locals := 0 }) (va_Pc [.int n, .int lo, .int hi] (PS dC dI [] [])) (vp_Si (fun r => r = sp_X_isWithin n lo hi)) 0 0 (fun _ => False) := by
  refine Met.ofW (cc := cX5_isWithin) (maxL := 3) (ret := (some .boolean)) (by decide) rfl ?_
  intro p e s m args below meth c s₁ B hml hv
  obtain ⟨rfl, hP, hK, hF⟩ := hv
  have hx := B.exec
  have hb := B.bytes
  have hr := B.returns
  have hts := atoms_spec (ws := wsX5_isWithin) B.pre
  have hown : s.vm.findClass RX5 = some m.cls := findClass_of_methodNamed B.named
  have hlocks := B.notSynchronized
  have hl := lv_entry ([.int n, .int lo, .int hi]) (n := 3) (Nat.le_of_ble_eq_true rfl)
  rw [lg_entry_eq]
  generalize (lg_sl ([.int n, .int lo, .int hi]) ++ List.replicate (3 - (lg_sl ([.int n, .int lo, .int hi])).length) Slot.unset).toArray = ls at hl ⊢
  have hl : lv_has ls 3 [(0, .int n), (1, .int lo), (2, .int hi)] := hl
  refine lv_iload_n hx hb dX5_isWithin_0 rfl (lv_at hl 0 rfl) ?_
  refine lv_iload_n hx hb dX5_isWithin_1 rfl (lv_at hl 1 rfl) ?_
  refine lv_icmp_lt (tgt := 14) hx hb dX5_isWithin_2 (by decide) (fun c_1 => ?_) (fun c_1 => ?_)
  · skip
    refine lv_iconst (v := 0) hx hb dX5_isWithin_14 (by decide) ?_
    exact W.zret (v := 0) hx hb hr (by decide) (fun t ht hW => ⟨_, rfl, (by simp only [sp_X_isWithin, if_pos c_1]), ht⟩) (fun _ h9 => absurd h9 List.not_mem_nil) dX5_isWithin_15
  · skip
    refine lv_iload_n hx hb dX5_isWithin_5 rfl (lv_at hl 0 rfl) ?_
    refine lv_iload_n hx hb dX5_isWithin_6 rfl (lv_at hl 2 rfl) ?_
    refine lv_icmp_gt (tgt := 14) hx hb dX5_isWithin_7 (by decide) (fun c_2 => ?_) (fun c_2 => ?_)
    · skip
      refine lv_iconst (v := 0) hx hb dX5_isWithin_14 (by decide) ?_
      exact W.zret (v := 0) hx hb hr (by decide) (fun t ht hW => ⟨_, rfl, (by simp only [sp_X_isWithin, if_neg c_1, if_pos c_2]), ht⟩) (fun _ h9 => absurd h9 List.not_mem_nil) dX5_isWithin_15
    · skip
      refine lv_iconst (v := 1) hx hb dX5_isWithin_10 (by decide) ?_
      refine lv_goto (tgt := 15) hx hb dX5_isWithin_11 (by decide) ?_
      exact W.zret (v := 1) hx hb hr (by decide) (fun t ht hW => ⟨_, rfl, (by simp only [sp_X_isWithin, if_neg c_1, if_neg c_2]), ht⟩) (fun _ h9 => absurd h9 List.not_mem_nil) dX5_isWithin_15

theorem wb {x lo hi : Int32} (h : ¬ sp_X_isWithin x lo hi = 0) : ¬ x < lo ∧ ¬ hi < x := by
  unfold sp_X_isWithin at h
  by_cases h1 : x < lo
  · rw [if_pos h1] at h
    exact absurd rfl h
  · by_cases h2 : hi < x
    · rw [if_neg h1, if_pos h2] at h
      exact absurd rfl h
    · exact ⟨h1, h2⟩
theorem vin_w {x hi : Int32} {N : Nat} (hN : N < 2 ^ 31) (hh : hi < nI N) (h : ¬ sp_X_isWithin x 0 hi = 0) : vp_in x N :=
  vin_lt hN (wb h).1 (fun q => (wb h).2 (Int32.lt_of_lt_of_le hh q))

def sp_X_isLetter (b : Int32) : Int32 := if b < 97 then 0 else if 122 < b then 0 else 1
set_option maxHeartbeats 4000000 in
set_option maxRecDepth 100000 in
theorem c_X_isLetter (l : Launch) (dC : Nat → ClassId) (dI : Nat → Nat → Nat) (b : Int32) : Met l yX5_isLetter wsX5_isLetter ({ frames := 0, cells := 0, slots := 0, locals := 0 }) (va_Pc [.int b] (PS dC dI [] [])) (vp_Si (fun r => r = sp_X_isLetter b)) 0 0 (fun _ => False) := by
  refine Met.ofW (cc := cX5_isLetter) (maxL := 1) (ret := (some .boolean)) (by decide) rfl ?_
  intro p e s m args below meth c s₁ B hml hv
  obtain ⟨rfl, hP, hK, hF⟩ := hv
  have hx := B.exec
  have hb := B.bytes
  have hr := B.returns
  have hts := atoms_spec (ws := wsX5_isLetter) B.pre
  have hown : s.vm.findClass RX5 = some m.cls := findClass_of_methodNamed B.named
  have hlocks := B.notSynchronized
  have hl := lv_entry ([.int b]) (n := 1) (Nat.le_of_ble_eq_true rfl)
  rw [lg_entry_eq]
  generalize (lg_sl ([.int b]) ++ List.replicate (1 - (lg_sl ([.int b])).length) Slot.unset).toArray = ls at hl ⊢
  have hl : lv_has ls 1 [(0, .int b)] := hl
  refine lv_iload_n hx hb dX5_isLetter_0 rfl (lv_at hl 0 rfl) ?_
  refine lv_bipush (v := 97) hx hb dX5_isLetter_1 (by decide) ?_
  refine lv_icmp_lt (tgt := 16) hx hb dX5_isLetter_3 (by decide) (fun c_1 => ?_) (fun c_1 => ?_)
  · skip
    refine lv_iconst (v := 0) hx hb dX5_isLetter_16 (by decide) ?_
    exact W.zret (v := 0) hx hb hr (by decide) (fun t ht hW => ⟨_, rfl, (by simp only [sp_X_isLetter, if_pos c_1]), ht⟩) (fun _ h9 => absurd h9 List.not_mem_nil) dX5_isLetter_17
  · skip
    refine lv_iload_n hx hb dX5_isLetter_6 rfl (lv_at hl 0 rfl) ?_
    refine lv_bipush (v := 122) hx hb dX5_isLetter_7 (by decide) ?_
    refine lv_icmp_gt (tgt := 16) hx hb dX5_isLetter_9 (by decide) (fun c_2 => ?_) (fun c_2 => ?_)
    · skip
      refine lv_iconst (v := 0) hx hb dX5_isLetter_16 (by decide) ?_
      exact W.zret (v := 0) hx hb hr (by decide) (fun t ht hW => ⟨_, rfl, (by simp only [sp_X_isLetter, if_neg c_1, if_pos c_2]), ht⟩) (fun _ h9 => absurd h9 List.not_mem_nil) dX5_isLetter_17
    · skip
      refine lv_iconst (v := 1) hx hb dX5_isLetter_12 (by decide) ?_
      refine lv_goto (tgt := 17) hx hb dX5_isLetter_13 (by decide) ?_
      exact W.zret (v := 1) hx hb hr (by decide) (fun t ht hW => ⟨_, rfl, (by simp only [sp_X_isLetter, if_neg c_1, if_neg c_2]), ht⟩) (fun _ h9 => absurd h9 List.not_mem_nil) dX5_isLetter_17

set_option maxHeartbeats 4000000 in
set_option maxRecDepth 100000 in
theorem c_X_find (l : Launch) (dC : Nat → ClassId) (dI : Nat → Nat → Nat) (x : Nat) (cd : Nat) (rd : Nat) (tp : Nat) (fo : Nat) (qu : Nat) (sh : Nat) (vs : Nat) (pa : Nat) (pb : Nat) (c0 : Int32) : Met l yX5_find wsX5_find ({ frames := 0, cells := 0, slots := 0, locals := 0 }) (va_Pc [.ref x, .int c0] (PS dC dI [(x, .inr (10, [.ref cd, .int 0, .ref rd, .int 0, .ref tp, .ref fo, .int 10, .ref qu, .int 0, .int 0, .ref sh, .ref vs, .ref pa, .ref pb]))] [])) (va_Sq (fun r => r = none)) 0 0 (fun _ => False) := by
  refine Met.ofW (cc := cX5_find) (maxL := 2) (ret := (some (.object "ExamHalls$Candidate"))) (by decide) rfl ?_
  intro p e s m args below meth c s₁ B hml hv
  obtain ⟨rfl, hP, hK, hF⟩ := hv
  have hx := B.exec
  have hb := B.bytes
  have hr := B.returns
  have hts := atoms_spec (ws := wsX5_find) B.pre
  have hown : s.vm.findClass RX5 = some m.cls := findClass_of_methodNamed B.named
  have hlocks := B.notSynchronized
  have hl := lv_entry ([.ref x, .int c0]) (n := 2) (Nat.le_of_ble_eq_true rfl)
  rw [lg_entry_eq]
  generalize (lg_sl ([.ref x, .int c0]) ++ List.replicate (2 - (lg_sl ([.ref x, .int c0])).length) Slot.unset).toArray = ls at hl ⊢
  have hl : lv_has ls 2 [(0, .ref x), (1, .int c0)] := hl
  refine lv_iload_n hx hb dX5_find_0 rfl (lv_at hl 1 rfl) ?_
  refine lv_if_lt (tgt := 21) hx hb dX5_find_1 (by decide) (fun c_1 => ?_) (fun c_1 => ?_)
  · skip
    refine lv_null hx hb dX5_find_21 ?_
    exact W.aret (v := .null) hx hb hr (Or.inl ⟨_, rfl⟩) (Or.inl rfl) (fun t ht hW => ⟨none, rfl, rfl, ht⟩) (fun _ h9 => absurd h9 List.not_mem_nil) dX5_find_22
  · skip
    refine lv_iload_n hx hb dX5_find_4 rfl (lv_at hl 1 rfl) ?_
    refine lv_aload_n hx hb dX5_find_5 rfl (lv_at hl 0 rfl) ?_
    refine va_get (D := (dC, dI)) (ci := 10) (v := .int 0) (C := RX5) (T := TX5) (N := 14) hx hb hts (fun _ h9 => List.mem_cons_of_mem _ (List.mem_append_right _ (h9))) hown hK hP 0 rfl rfl 1 (by decide) (hts (.fieldLink RX5 15 "ExamHalls" "candidateCount" "I") (List.mem_of_getElem? (i := 1) rfl)) (fun _ h9 => h9) rfl dX5_find_6 ?_
    refine lv_icmp_ge (tgt := 21) hx hb dX5_find_9 (by decide) (fun _ => ?_) (fun c_2 => absurd (Int32.not_lt.mp c_1) c_2)
    refine lv_null hx hb dX5_find_21 ?_
    exact W.aret (v := .null) hx hb hr (Or.inl ⟨_, rfl⟩) (Or.inl rfl) (fun t ht hW => ⟨none, rfl, rfl, ht⟩) (fun _ h9 => absurd h9 List.not_mem_nil) dX5_find_22

set_option maxHeartbeats 4000000 in
set_option maxRecDepth 100000 in
theorem c_X_findReader (l : Launch) (dC : Nat → ClassId) (dI : Nat → Nat → Nat) (x : Nat) (cd : Nat) (rd : Nat) (tp : Nat) (fo : Nat) (qu : Nat) (sh : Nat) (vs : Nat) (pa : Nat) (pb : Nat) (c0 : Int32) : Met l yX5_findReader wsX5_findReader ({ frames := 0, cells := 0, slots := 0, locals := 0 }) (va_Pc [.ref x, .int c0] (PS dC dI [(x, .inr (10, [.ref cd, .int 0, .ref rd, .int 0, .ref tp, .ref fo, .int 10, .ref qu, .int 0, .int 0, .ref sh, .ref vs, .ref pa, .ref pb]))] [])) (va_Sq (fun r => r = none)) 0 0 (fun _ => False) := by
  refine Met.ofW (cc := cX5_findReader) (maxL := 2) (ret := (some (.object "ExamHalls$Reader"))) (by decide) rfl ?_
  intro p e s m args below meth c s₁ B hml hv
  obtain ⟨rfl, hP, hK, hF⟩ := hv
  have hx := B.exec
  have hb := B.bytes
  have hr := B.returns
  have hts := atoms_spec (ws := wsX5_findReader) B.pre
  have hown : s.vm.findClass RX5 = some m.cls := findClass_of_methodNamed B.named
  have hlocks := B.notSynchronized
  have hl := lv_entry ([.ref x, .int c0]) (n := 2) (Nat.le_of_ble_eq_true rfl)
  rw [lg_entry_eq]
  generalize (lg_sl ([.ref x, .int c0]) ++ List.replicate (2 - (lg_sl ([.ref x, .int c0])).length) Slot.unset).toArray = ls at hl ⊢
  have hl : lv_has ls 2 [(0, .ref x), (1, .int c0)] := hl
  refine lv_iload_n hx hb dX5_findReader_0 rfl (lv_at hl 1 rfl) ?_
  refine lv_if_lt (tgt := 21) hx hb dX5_findReader_1 (by decide) (fun c_1 => ?_) (fun c_1 => ?_)
  · skip
    refine lv_null hx hb dX5_findReader_21 ?_
    exact W.aret (v := .null) hx hb hr (Or.inl ⟨_, rfl⟩) (Or.inl rfl) (fun t ht hW => ⟨none, rfl, rfl, ht⟩) (fun _ h9 => absurd h9 List.not_mem_nil) dX5_findReader_22
  · skip
    refine lv_iload_n hx hb dX5_findReader_4 rfl (lv_at hl 1 rfl) ?_
    refine lv_aload_n hx hb dX5_findReader_5 rfl (lv_at hl 0 rfl) ?_
    refine va_get (D := (dC, dI)) (ci := 10) (v := .int 0) (C := RX5) (T := TX5) (N := 14) hx hb hts (fun _ h9 => List.mem_cons_of_mem _ (List.mem_append_right _ (h9))) hown hK hP 0 rfl rfl 3 (by decide) (hts (.fieldLink RX5 25 "ExamHalls" "readerCount" "I") (List.mem_of_getElem? (i := 1) rfl)) (fun _ h9 => h9) rfl dX5_findReader_6 ?_
    refine lv_icmp_ge (tgt := 21) hx hb dX5_findReader_9 (by decide) (fun _ => ?_) (fun c_2 => absurd (Int32.not_lt.mp c_1) c_2)
    refine lv_null hx hb dX5_findReader_21 ?_
    exact W.aret (v := .null) hx hb hr (Or.inl ⟨_, rfl⟩) (Or.inl rfl) (fun t ht hW => ⟨none, rfl, rfl, ht⟩) (fun _ h9 => absurd h9 List.not_mem_nil) dX5_findReader_22

set_option maxHeartbeats 4000000 in
set_option maxRecDepth 100000 in
theorem c_X_textOf (l : Launch) (dC : Nat → ClassId) (dI : Nat → Nat → Nat) (x : Nat) (cd : Nat) (rd : Nat) (tp : Nat) (fo : Nat) (qu : Nat) (sh : Nat) (vs : Nat) (pa : Nat) (pb : Nat) (c0 : Int32) : Met l yX5_textOf wsX5_textOf ({ frames := 1, cells := 0, slots := 0, locals := 21 }) (va_Pc [.ref x, .int c0] (PS dC dI [(x, .inr (10, [.ref cd, .int 0, .ref rd, .int 0, .ref tp, .ref fo, .int 10, .ref qu, .int 0, .int 0, .ref sh, .ref vs, .ref pa, .ref pb]))] [])) (va_Sq (fun r => r = none)) 0 0 (fun _ => False) := by
  refine Met.ofW (cc := cX5_textOf) (maxL := 3) (ret := (some (.object "ExamHalls$Essay"))) (by decide) rfl ?_
  intro p e s m args below meth c s₁ B hml hv
  obtain ⟨rfl, hP, hK, hF⟩ := hv
  have hx := B.exec
  have hb := B.bytes
  have hr := B.returns
  have hts := atoms_spec (ws := wsX5_textOf) B.pre
  have hown : s.vm.findClass RX5 = some m.cls := findClass_of_methodNamed B.named
  have hlocks := B.notSynchronized
  have hl := lv_entry ([.ref x, .int c0]) (n := 3) (Nat.le_of_ble_eq_true rfl)
  rw [lg_entry_eq]
  generalize (lg_sl ([.ref x, .int c0]) ++ List.replicate (3 - (lg_sl ([.ref x, .int c0])).length) Slot.unset).toArray = ls at hl ⊢
  have hl : lv_has ls 3 [(0, .ref x), (1, .int c0)] := hl
  refine lv_aload_n hx hb dX5_textOf_0 rfl (lv_at hl 0 rfl) ?_
  refine lv_iload_n hx hb dX5_textOf_1 rfl (lv_at hl 1 rfl) ?_
  refine va_csq (va_Run.run (va_runV (As := [.int c0]) (rest := []) ⟨hx, hb, hml, hown, hts⟩ (c_X_find l dC dI x cd rd tp fo qu sh vs pa pb c0) (cwV 1 hts gX5_textOf_X5_find rfl rfl rfl (by decide +kernel) ⟨Nat.le_of_ble_eq_true rfl, Nat.le_of_ble_eq_true rfl⟩) ⟨PS_blind, va_recv hK hP (ci := 10) (q0 := 0) rfl rfl, PS_pre hP hK hF⟩ rfl rfl hl.1 rfl (lv_room (Nat.le_of_ble_eq_true rfl)) dX5_textOf_2 ⟨Nat.le_of_ble_eq_true rfl, Nat.le_of_ble_eq_true rfl⟩)) (fun r_1 hr_1 => ?_)
  subst hr_1
  refine W.eq (g2 := F0 m 5 ls [.null]) rfl ?_
  refine lv_astore_nN (lv' := [(2, .null), (0, .ref x), (1, .int c0)]) hx hb dX5_textOf_5 rfl hl (by decide) rfl (fun ls hl => ?_)
  refine lv_aload_nN hx hb dX5_textOf_6 rfl (lv_at hl 0 rfl) ?_
  refine lv_ifnonnullN hx hb dX5_textOf_7 ?_
  refine lv_null hx hb dX5_textOf_10 ?_
  refine lv_goto (tgt := 18) hx hb dX5_textOf_11 (by decide) ?_
  exact W.aret (v := .null) hx hb hr (Or.inl ⟨_, rfl⟩) (Or.inl rfl) (fun t ht hW => ⟨none, rfl, rfl, ht⟩) (fun _ h9 => absurd h9 List.not_mem_nil) dX5_textOf_18

set_option maxHeartbeats 4000000 in
set_option maxRecDepth 100000 in
theorem c_X_bearerOf (l : Launch) (dC : Nat → ClassId) (dI : Nat → Nat → Nat) (x : Nat) (cd : Nat) (rd : Nat) (tp : Nat) (fo : Nat) (qu : Nat) (sh : Nat) (vs : Nat) (pa : Nat) (pb : Nat) (c0 : Int32) : Met l yX5_bearerOf wsX5_bearerOf ({ frames := 0, cells := 0, slots := 0, locals := 0 }) (va_Pc [.ref x, .int c0] (PS dC dI [(x, .inr (10, [.ref cd, .int 0, .ref rd, .int 0, .ref tp, .ref fo, .int 10, .ref qu, .int 0, .int 0, .ref sh, .ref vs, .ref pa, .ref pb]))] [])) (vp_Si (fun r => r = (-1))) 0 0 (fun _ => False) := by
  refine Met.ofW (cc := cX5_bearerOf) (maxL := 4) (ret := (some .int)) (by decide) rfl ?_
  intro p e s m args below meth c s₁ B hml hv
  obtain ⟨rfl, hP, hK, hF⟩ := hv
  have hx := B.exec
  have hb := B.bytes
  have hr := B.returns
  have hts := atoms_spec (ws := wsX5_bearerOf) B.pre
  have hown : s.vm.findClass RX5 = some m.cls := findClass_of_methodNamed B.named
  have hlocks := B.notSynchronized
  have hl := lv_entry ([.ref x, .int c0]) (n := 4) (Nat.le_of_ble_eq_true rfl)
  rw [lg_entry_eq]
  generalize (lg_sl ([.ref x, .int c0]) ++ List.replicate (4 - (lg_sl ([.ref x, .int c0])).length) Slot.unset).toArray = ls at hl ⊢
  have hl : lv_has ls 4 [(0, .ref x), (1, .int c0)] := hl
  refine lv_iconst (v := 0) hx hb dX5_bearerOf_0 (by decide) ?_
  refine lv_istore_n (lv' := [(2, .int 0), (0, .ref x), (1, .int c0)]) hx hb dX5_bearerOf_1 rfl hl (by decide) rfl (fun ls hl => ?_)
  refine lv_iload_n hx hb dX5_bearerOf_2 rfl (lv_at hl 0 rfl) ?_
  refine lv_aload_n hx hb dX5_bearerOf_3 rfl (lv_at hl 1 rfl) ?_
  refine va_get (D := (dC, dI)) (ci := 10) (v := .int 0) (C := RX5) (T := TX5) (N := 14) hx hb hts (fun _ h9 => List.mem_cons_of_mem _ (List.mem_append_left _ (List.mem_append_right _ (h9)))) hown hK hP 0 rfl rfl 1 (by decide) (hts (.fieldLink RX5 15 "ExamHalls" "candidateCount" "I") (List.mem_of_getElem? (i := 1) rfl)) (fun _ h9 => h9) rfl dX5_bearerOf_4 ?_
  refine lv_icmp_ge (tgt := 36) hx hb dX5_bearerOf_7 (by decide) (fun _ => ?_) (fun c_1 => absurd (by decide) c_1)
  refine lv_iconst (v := (-1)) hx hb dX5_bearerOf_36 (by decide) ?_
  exact W.iret (v := (-1)) hx hb hr (fun t ht hW => ⟨_, rfl, rfl, ht⟩) (fun _ h9 => absurd h9 List.not_mem_nil) dX5_bearerOf_37

set_option maxHeartbeats 4000000 in
set_option maxRecDepth 100000 in
theorem c_X_openedBy (l : Launch) (dC : Nat → ClassId) (dI : Nat → Nat → Nat) (x : Nat) (cd : Nat) (rd : Nat) (tp : Nat) (fo : Nat) (qu : Nat) (sh : Nat) (vs : Nat) (pa : Nat) (pb : Nat) (c0 : Int32) : Met l yX5_openedBy wsX5_openedBy ({ frames := 0, cells := 0, slots := 0, locals := 0 }) (va_Pc [.ref x, .int c0] (PS dC dI [(x, .inr (10, [.ref cd, .int 0, .ref rd, .int 0, .ref tp, .ref fo, .int 10, .ref qu, .int 0, .int 0, .ref sh, .ref vs, .ref pa, .ref pb]))] [])) (vp_Si (fun r => r = 0)) 0 0 (fun _ => False) := by
  refine Met.ofW (cc := cX5_openedBy) (maxL := 5) (ret := (some .int)) (by decide) rfl ?_
  intro p e s m args below meth c s₁ B hml hv
  obtain ⟨rfl, hP, hK, hF⟩ := hv
  have hx := B.exec
  have hb := B.bytes
  have hr := B.returns
  have hts := atoms_spec (ws := wsX5_openedBy) B.pre
  have hown : s.vm.findClass RX5 = some m.cls := findClass_of_methodNamed B.named
  have hlocks := B.notSynchronized
  have hl := lv_entry ([.ref x, .int c0]) (n := 5) (Nat.le_of_ble_eq_true rfl)
  rw [lg_entry_eq]
  generalize (lg_sl ([.ref x, .int c0]) ++ List.replicate (5 - (lg_sl ([.ref x, .int c0])).length) Slot.unset).toArray = ls at hl ⊢
  have hl : lv_has ls 5 [(0, .ref x), (1, .int c0)] := hl
  refine lv_iconst (v := 0) hx hb dX5_openedBy_0 (by decide) ?_
  refine lv_istore_n (lv' := [(2, .int 0), (0, .ref x), (1, .int c0)]) hx hb dX5_openedBy_1 rfl hl (by decide) rfl (fun ls hl => ?_)
  refine lv_iconst (v := 0) hx hb dX5_openedBy_2 (by decide) ?_
  refine lv_istore_n (lv' := [(3, .int 0), (2, .int 0), (0, .ref x), (1, .int c0)]) hx hb dX5_openedBy_3 rfl hl (by decide) rfl (fun ls hl => ?_)
  refine lv_iload_n hx hb dX5_openedBy_4 rfl (lv_at hl 0 rfl) ?_
  refine lv_aload_n hx hb dX5_openedBy_5 rfl (lv_at hl 2 rfl) ?_
  refine va_get (D := (dC, dI)) (ci := 10) (v := .int 0) (C := RX5) (T := TX5) (N := 14) hx hb hts (fun _ h9 => List.mem_cons_of_mem _ (List.mem_append_left _ (List.mem_append_right _ (h9)))) hown hK hP 0 rfl rfl 1 (by decide) (hts (.fieldLink RX5 15 "ExamHalls" "candidateCount" "I") (List.mem_of_getElem? (i := 1) rfl)) (fun _ h9 => h9) rfl dX5_openedBy_6 ?_
  refine lv_icmp_ge (tgt := 42) hx hb dX5_openedBy_9 (by decide) (fun _ => ?_) (fun c_1 => absurd (by decide) c_1)
  refine lv_iload_n hx hb dX5_openedBy_42 rfl (lv_at hl 1 rfl) ?_
  exact W.iret (v := 0) hx hb hr (fun t ht hW => ⟨_, rfl, rfl, ht⟩) (fun _ h9 => absurd h9 List.not_mem_nil) dX5_openedBy_43

def sp_X_opens (c1 : Int32) : Int32 := if (sp_X_isWithin c1 0 255) = 0 then (-2) else 0
set_option maxHeartbeats 4000000 in
set_option maxRecDepth 100000 in
theorem c_X_opens (l : Launch) (dC : Nat → ClassId) (dI : Nat → Nat → Nat) (x : Nat) (cd : Nat) (rd : Nat) (tp : Nat) (fo : Nat) (qu : Nat) (sh : Nat) (vs : Nat) (pa : Nat) (pb : Nat) (c1 : Int32) : Met l yX5_opens wsX5_opens ({ frames := 1, cells := 0, slots := 0, locals := 24 }) (va_Pc [.ref x, .int c1] (PS dC dI [(x, .inr (10, [.ref cd, .int 0, .ref rd, .int 0, .ref tp, .ref fo, .int 10, .ref qu, .int 0, .int 0, .ref sh, .ref vs, .ref pa, .ref pb]))] [])) (vp_Si (fun r => r = sp_X_opens c1)) 0 0 (fun _ => False) := by
  refine Met.ofW (cc := cX5_opens) (maxL := 2) (ret := (some .int)) (by decide) rfl ?_
  intro p e s m args below meth c s₁ B hml hv
  obtain ⟨rfl, hP, hK, hF⟩ := hv
  have hx := B.exec
  have hb := B.bytes
  have hr := B.returns
  have hts := atoms_spec (ws := wsX5_opens) B.pre
  have hown : s.vm.findClass RX5 = some m.cls := findClass_of_methodNamed B.named
  have hlocks := B.notSynchronized
  have hl := lv_entry ([.ref x, .int c1]) (n := 2) (Nat.le_of_ble_eq_true rfl)
  rw [lg_entry_eq]
  generalize (lg_sl ([.ref x, .int c1]) ++ List.replicate (2 - (lg_sl ([.ref x, .int c1])).length) Slot.unset).toArray = ls at hl ⊢
  have hl : lv_has ls 2 [(0, .ref x), (1, .int c1)] := hl
  refine lv_iload_n hx hb dX5_opens_0 rfl (lv_at hl 1 rfl) ?_
  refine lv_iconst (v := 0) hx hb dX5_opens_1 (by decide) ?_
  refine lv_sipush (v := 255) hx hb dX5_opens_2 (by decide) ?_
  refine vp_callSi (va_Run.run (va_runS (As := [.int c1, .int 0, .int 255]) (rest := []) ⟨hx, hb, hml, hown, hts⟩ (c_X_isWithin l dC dI c1 0 255) (va_cwS 3 hts gX5_opens_X5_isWithin rfl rfl rfl (by decide +kernel) ⟨Nat.le_of_ble_eq_true rfl, Nat.le_of_ble_eq_true rfl⟩) ⟨PS_blind, PS_pre (hP.sub (ws' := []) [] rfl) hK hF⟩ rfl rfl hl.1 rfl (lv_room (Nat.le_of_ble_eq_true rfl)) dX5_opens_5 ⟨Nat.le_of_ble_eq_true rfl, Nat.le_of_ble_eq_true rfl⟩)) (fun r_1 hr_1 => ?_)
  subst hr_1
  refine lv_if_ne (tgt := 14) hx hb dX5_opens_8 (by decide) (fun c_2 => ?_) (fun c_2 => ?_)
  · skip
    refine lv_aload_n hx hb dX5_opens_14 rfl (lv_at hl 0 rfl) ?_
    refine lv_iload_n hx hb dX5_opens_15 rfl (lv_at hl 1 rfl) ?_
    refine vp_callSi (va_Run.run (va_runV (As := [.int c1]) (rest := []) ⟨hx, hb, hml, hown, hts⟩ (c_X_openedBy l dC dI x cd rd tp fo qu sh vs pa pb c1) (cwV 1 hts gX5_opens_X5_openedBy rfl rfl rfl (by decide +kernel) ⟨Nat.le_of_ble_eq_true rfl, Nat.le_of_ble_eq_true rfl⟩) ⟨PS_blind, va_recv hK hP (ci := 10) (q0 := 0) rfl rfl, PS_pre hP hK hF⟩ rfl rfl hl.1 rfl (lv_room (Nat.le_of_ble_eq_true rfl)) dX5_opens_16 ⟨Nat.le_of_ble_eq_true rfl, Nat.le_of_ble_eq_true rfl⟩)) (fun r_3 hr_3 => ?_)
    subst hr_3
    exact W.iret (v := 0) hx hb hr (fun t ht hW => ⟨_, rfl, (by simp only [sp_X_opens, if_neg c_2]), ht⟩) (fun _ h9 => absurd h9 List.not_mem_nil) dX5_opens_19
  · skip
    refine lv_bipush (v := (-2)) hx hb dX5_opens_11 (by decide) ?_
    exact W.iret (v := (-2)) hx hb hr (fun t ht hW => ⟨_, rfl, (by simp only [sp_X_opens, if_pos c_2]), ht⟩) (fun _ h9 => absurd h9 List.not_mem_nil) dX5_opens_13

set_option maxHeartbeats 4000000 in
set_option maxRecDepth 100000 in
theorem c_X_essay (l : Launch) (dC : Nat → ClassId) (dI : Nat → Nat → Nat) (x : Nat) (cd : Nat) (rd : Nat) (tp : Nat) (fo : Nat) (qu : Nat) (sh : Nat) (vs : Nat) (pa : Nat) (pb : Nat) (c1 : Int32) : Met l yX5_essay wsX5_essay ({ frames := 1, cells := 0, slots := 0, locals := 21 }) (va_Pc [.ref x, .int c1] (PS dC dI [(x, .inr (10, [.ref cd, .int 0, .ref rd, .int 0, .ref tp, .ref fo, .int 10, .ref qu, .int 0, .int 0, .ref sh, .ref vs, .ref pa, .ref pb]))] [])) (vp_Si (fun r => r = (-1))) 0 0 (fun _ => False) := by
  refine Met.ofW (cc := cX5_essay) (maxL := 5) (ret := (some .int)) (by decide) rfl ?_
  intro p e s m args below meth c s₁ B hml hv
  obtain ⟨rfl, hP, hK, hF⟩ := hv
  have hx := B.exec
  have hb := B.bytes
  have hr := B.returns
  have hts := atoms_spec (ws := wsX5_essay) B.pre
  have hown : s.vm.findClass RX5 = some m.cls := findClass_of_methodNamed B.named
  have hlocks := B.notSynchronized
  have hl := lv_entry ([.ref x, .int c1]) (n := 5) (Nat.le_of_ble_eq_true rfl)
  rw [lg_entry_eq]
  generalize (lg_sl ([.ref x, .int c1]) ++ List.replicate (5 - (lg_sl ([.ref x, .int c1])).length) Slot.unset).toArray = ls at hl ⊢
  have hl : lv_has ls 5 [(0, .ref x), (1, .int c1)] := hl
  refine lv_aload_n hx hb dX5_essay_0 rfl (lv_at hl 0 rfl) ?_
  refine lv_iload_n hx hb dX5_essay_1 rfl (lv_at hl 1 rfl) ?_
  refine va_csq (va_Run.run (va_runV (As := [.int c1]) (rest := []) ⟨hx, hb, hml, hown, hts⟩ (c_X_find l dC dI x cd rd tp fo qu sh vs pa pb c1) (cwV 1 hts gX5_essay_X5_find rfl rfl rfl (by decide +kernel) ⟨Nat.le_of_ble_eq_true rfl, Nat.le_of_ble_eq_true rfl⟩) ⟨PS_blind, va_recv hK hP (ci := 10) (q0 := 0) rfl rfl, PS_pre hP hK hF⟩ rfl rfl hl.1 rfl (lv_room (Nat.le_of_ble_eq_true rfl)) dX5_essay_2 ⟨Nat.le_of_ble_eq_true rfl, Nat.le_of_ble_eq_true rfl⟩)) (fun r_1 hr_1 => ?_)
  subst hr_1
  refine W.eq (g2 := F0 m 5 ls [.null]) rfl ?_
  refine lv_astore_nN (lv' := [(2, .null), (0, .ref x), (1, .int c1)]) hx hb dX5_essay_5 rfl hl (by decide) rfl (fun ls hl => ?_)
  refine lv_aload_nN hx hb dX5_essay_6 rfl (lv_at hl 0 rfl) ?_
  refine lv_ifnonnullN hx hb dX5_essay_7 ?_
  refine lv_iconst (v := (-1)) hx hb dX5_essay_10 (by decide) ?_
  exact W.iret (v := (-1)) hx hb hr (fun t ht hW => ⟨_, rfl, rfl, ht⟩) (fun _ h9 => absurd h9 List.not_mem_nil) dX5_essay_11

set_option maxHeartbeats 4000000 in
set_option maxRecDepth 100000 in
theorem c_X_legs (l : Launch) (dC : Nat → ClassId) (dI : Nat → Nat → Nat) (x : Nat) (cd : Nat) (rd : Nat) (tp : Nat) (fo : Nat) (qu : Nat) (sh : Nat) (vs : Nat) (pa : Nat) (pb : Nat) (c1 : Int32) (c2 : Int32) : Met l yX5_legs wsX5_legs ({ frames := 2, cells := 0, slots := 0, locals := 43 }) (va_Pc [.ref x, .int c1, .int c2] (PS dC dI [(x, .inr (10, [.ref cd, .int 0, .ref rd, .int 0, .ref tp, .ref fo, .int 10, .ref qu, .int 0, .int 0, .ref sh, .ref vs, .ref pa, .ref pb]))] [])) (vp_Si (fun r => r = (-1))) 0 0 (fun _ => False) := by
  refine Met.ofW (cc := cX5_legs) (maxL := 4) (ret := (some .int)) (by decide) rfl ?_
  intro p e s m args below meth c s₁ B hml hv
  obtain ⟨rfl, hP, hK, hF⟩ := hv
  have hx := B.exec
  have hb := B.bytes
  have hr := B.returns
  have hts := atoms_spec (ws := wsX5_legs) B.pre
  have hown : s.vm.findClass RX5 = some m.cls := findClass_of_methodNamed B.named
  have hlocks := B.notSynchronized
  have hl := lv_entry ([.ref x, .int c1, .int c2]) (n := 4) (Nat.le_of_ble_eq_true rfl)
  rw [lg_entry_eq]
  generalize (lg_sl ([.ref x, .int c1, .int c2]) ++ List.replicate (4 - (lg_sl ([.ref x, .int c1, .int c2])).length) Slot.unset).toArray = ls at hl ⊢
  have hl : lv_has ls 4 [(0, .ref x), (1, .int c1), (2, .int c2)] := hl
  refine lv_aload_n hx hb dX5_legs_0 rfl (lv_at hl 0 rfl) ?_
  refine lv_iload_n hx hb dX5_legs_1 rfl (lv_at hl 1 rfl) ?_
  refine va_csq (va_Run.run (va_runV (As := [.int c1]) (rest := []) ⟨hx, hb, hml, hown, hts⟩ (c_X_textOf l dC dI x cd rd tp fo qu sh vs pa pb c1) (cwV 1 hts gX5_legs_X5_textOf rfl rfl rfl (by decide +kernel) ⟨Nat.le_of_ble_eq_true rfl, Nat.le_of_ble_eq_true rfl⟩) ⟨PS_blind, va_recv hK hP (ci := 10) (q0 := 0) rfl rfl, PS_pre hP hK hF⟩ rfl rfl hl.1 rfl (lv_room (Nat.le_of_ble_eq_true rfl)) dX5_legs_2 ⟨Nat.le_of_ble_eq_true rfl, Nat.le_of_ble_eq_true rfl⟩)) (fun r_1 hr_1 => ?_)
  subst hr_1
  refine W.eq (g2 := F0 m 5 ls [.null]) rfl ?_
  refine lv_astore_nN (lv' := [(3, .null), (0, .ref x), (1, .int c1), (2, .int c2)]) hx hb dX5_legs_5 rfl hl (by decide) rfl (fun ls hl => ?_)
  refine lv_aload_nN hx hb dX5_legs_6 rfl (lv_at hl 0 rfl) ?_
  refine lv_ifnullN (tgt := 14) hx hb dX5_legs_7 (by decide) ?_
  refine lv_iconst (v := (-1)) hx hb dX5_legs_14 (by decide) ?_
  exact W.iret (v := (-1)) hx hb hr (fun t ht hW => ⟨_, rfl, rfl, ht⟩) (fun _ h9 => absurd h9 List.not_mem_nil) dX5_legs_15

set_option maxHeartbeats 4000000 in
set_option maxRecDepth 100000 in
theorem c_X_word (l : Launch) (dC : Nat → ClassId) (dI : Nat → Nat → Nat) (x : Nat) (cd : Nat) (rd : Nat) (tp : Nat) (fo : Nat) (qu : Nat) (sh : Nat) (vs : Nat) (pa : Nat) (pb : Nat) (c1 : Int32) (c2 : Int32) (c3 : Int32) : Met l yX5_word wsX5_word ({ frames := 2, cells := 0, slots := 0, locals := 43 }) (va_Pc [.ref x, .int c1, .int c2, .int c3] (PS dC dI [(x, .inr (10, [.ref cd, .int 0, .ref rd, .int 0, .ref tp, .ref fo, .int 10, .ref qu, .int 0, .int 0, .ref sh, .ref vs, .ref pa, .ref pb]))] [])) (vp_Sl (fun r => r = 0)) 0 0 (fun _ => False) := by
  refine Met.ofW (cc := cX5_word) (maxL := 5) (ret := (some .long)) (by decide) rfl ?_
  intro p e s m args below meth c s₁ B hml hv
  obtain ⟨rfl, hP, hK, hF⟩ := hv
  have hx := B.exec
  have hb := B.bytes
  have hr := B.returns
  have hts := atoms_spec (ws := wsX5_word) B.pre
  have hown : s.vm.findClass RX5 = some m.cls := findClass_of_methodNamed B.named
  have hlocks := B.notSynchronized
  have hl := lv_entry ([.ref x, .int c1, .int c2, .int c3]) (n := 5) (Nat.le_of_ble_eq_true rfl)
  rw [lg_entry_eq]
  generalize (lg_sl ([.ref x, .int c1, .int c2, .int c3]) ++ List.replicate (5 - (lg_sl ([.ref x, .int c1, .int c2, .int c3])).length) Slot.unset).toArray = ls at hl ⊢
  have hl : lv_has ls 5 [(0, .ref x), (1, .int c1), (2, .int c2), (3, .int c3)] := hl
  refine lv_aload_n hx hb dX5_word_0 rfl (lv_at hl 0 rfl) ?_
  refine lv_iload_n hx hb dX5_word_1 rfl (lv_at hl 1 rfl) ?_
  refine va_csq (va_Run.run (va_runV (As := [.int c1]) (rest := []) ⟨hx, hb, hml, hown, hts⟩ (c_X_textOf l dC dI x cd rd tp fo qu sh vs pa pb c1) (cwV 1 hts gX5_word_X5_textOf rfl rfl rfl (by decide +kernel) ⟨Nat.le_of_ble_eq_true rfl, Nat.le_of_ble_eq_true rfl⟩) ⟨PS_blind, va_recv hK hP (ci := 10) (q0 := 0) rfl rfl, PS_pre hP hK hF⟩ rfl rfl hl.1 rfl (lv_room (Nat.le_of_ble_eq_true rfl)) dX5_word_2 ⟨Nat.le_of_ble_eq_true rfl, Nat.le_of_ble_eq_true rfl⟩)) (fun r_1 hr_1 => ?_)
  subst hr_1
  refine W.eq (g2 := F0 m 5 ls [.null]) rfl ?_
  refine lv_astoreN (lv' := [(4, .null), (0, .ref x), (1, .int c1), (2, .int c2), (3, .int c3)]) hx hb dX5_word_5 hl (by decide) rfl (fun ls hl => ?_)
  refine lv_aloadN hx hb dX5_word_7 (lv_at hl 0 rfl) ?_
  refine lv_ifnonnullN hx hb dX5_word_9 ?_
  refine lv_lconst (v := 0) hx hb dX5_word_12 (by decide) ?_
  refine lv_goto (tgt := 23) hx hb dX5_word_13 (by decide) ?_
  exact W.lret (v := 0) hx hb hr (fun t ht hW => ⟨_, rfl, rfl, ht⟩) (fun _ h9 => absurd h9 List.not_mem_nil) dX5_word_23

set_option maxHeartbeats 4000000 in
set_option maxRecDepth 100000 in
theorem c_X_judge (l : Launch) (dC : Nat → ClassId) (dI : Nat → Nat → Nat) (x : Nat) (cd : Nat) (rd : Nat) (tp : Nat) (fo : Nat) (qu : Nat) (sh : Nat) (vs : Nat) (pa : Nat) (pb : Nat) (c1 : Int32) : Met l yX5_judge wsX5_judge ({ frames := 2, cells := 0, slots := 0, locals := 43 }) (va_Pc [.ref x, .int c1] (PS dC dI [(x, .inr (10, [.ref cd, .int 0, .ref rd, .int 0, .ref tp, .ref fo, .int 10, .ref qu, .int 0, .int 0, .ref sh, .ref vs, .ref pa, .ref pb]))] [])) (vp_Si (fun r => r = (-1))) 0 0 (fun _ => False) := by
  refine Met.ofW (cc := cX5_judge) (maxL := 3) (ret := (some .int)) (by decide) rfl ?_
  intro p e s m args below meth c s₁ B hml hv
  obtain ⟨rfl, hP, hK, hF⟩ := hv
  have hx := B.exec
  have hb := B.bytes
  have hr := B.returns
  have hts := atoms_spec (ws := wsX5_judge) B.pre
  have hown : s.vm.findClass RX5 = some m.cls := findClass_of_methodNamed B.named
  have hlocks := B.notSynchronized
  have hl := lv_entry ([.ref x, .int c1]) (n := 3) (Nat.le_of_ble_eq_true rfl)
  rw [lg_entry_eq]
  generalize (lg_sl ([.ref x, .int c1]) ++ List.replicate (3 - (lg_sl ([.ref x, .int c1])).length) Slot.unset).toArray = ls at hl ⊢
  have hl : lv_has ls 3 [(0, .ref x), (1, .int c1)] := hl
  refine lv_aload_n hx hb dX5_judge_0 rfl (lv_at hl 0 rfl) ?_
  refine lv_iload_n hx hb dX5_judge_1 rfl (lv_at hl 1 rfl) ?_
  refine va_csq (va_Run.run (va_runV (As := [.int c1]) (rest := []) ⟨hx, hb, hml, hown, hts⟩ (c_X_textOf l dC dI x cd rd tp fo qu sh vs pa pb c1) (cwV 1 hts gX5_judge_X5_textOf rfl rfl rfl (by decide +kernel) ⟨Nat.le_of_ble_eq_true rfl, Nat.le_of_ble_eq_true rfl⟩) ⟨PS_blind, va_recv hK hP (ci := 10) (q0 := 0) rfl rfl, PS_pre hP hK hF⟩ rfl rfl hl.1 rfl (lv_room (Nat.le_of_ble_eq_true rfl)) dX5_judge_2 ⟨Nat.le_of_ble_eq_true rfl, Nat.le_of_ble_eq_true rfl⟩)) (fun r_1 hr_1 => ?_)
  subst hr_1
  refine W.eq (g2 := F0 m 5 ls [.null]) rfl ?_
  refine lv_astore_nN (lv' := [(2, .null), (0, .ref x), (1, .int c1)]) hx hb dX5_judge_5 rfl hl (by decide) rfl (fun ls hl => ?_)
  refine lv_aload_nN hx hb dX5_judge_6 rfl (lv_at hl 0 rfl) ?_
  refine lv_ifnonnullN hx hb dX5_judge_7 ?_
  refine lv_iconst (v := (-1)) hx hb dX5_judge_10 (by decide) ?_
  refine lv_goto (tgt := 22) hx hb dX5_judge_11 (by decide) ?_
  exact W.iret (v := (-1)) hx hb hr (fun t ht hW => ⟨_, rfl, rfl, ht⟩) (fun _ h9 => absurd h9 List.not_mem_nil) dX5_judge_22

set_option maxHeartbeats 4000000 in
set_option maxRecDepth 100000 in
theorem c_X_like (l : Launch) (dC : Nat → ClassId) (dI : Nat → Nat → Nat) (x : Nat) (cd : Nat) (rd : Nat) (tp : Nat) (fo : Nat) (qu : Nat) (sh : Nat) (vs : Nat) (pa : Nat) (pb : Nat) (c1 : Int32) (c2 : Int32) : Met l yX5_like wsX5_like ({ frames := 2, cells := 0, slots := 0, locals := 43 }) (va_Pc [.ref x, .int c1, .int c2] (PS dC dI [(x, .inr (10, [.ref cd, .int 0, .ref rd, .int 0, .ref tp, .ref fo, .int 10, .ref qu, .int 0, .int 0, .ref sh, .ref vs, .ref pa, .ref pb]))] [])) (vp_Si (fun r => r = (-1))) 0 0 (fun _ => False) := by
  refine Met.ofW (cc := cX5_like) (maxL := 9) (ret := (some .int)) (by decide) rfl ?_
  intro p e s m args below meth c s₁ B hml hv
  obtain ⟨rfl, hP, hK, hF⟩ := hv
  have hx := B.exec
  have hb := B.bytes
  have hr := B.returns
  have hts := atoms_spec (ws := wsX5_like) B.pre
  have hown : s.vm.findClass RX5 = some m.cls := findClass_of_methodNamed B.named
  have hlocks := B.notSynchronized
  have hl := lv_entry ([.ref x, .int c1, .int c2]) (n := 9) (Nat.le_of_ble_eq_true rfl)
  rw [lg_entry_eq]
  generalize (lg_sl ([.ref x, .int c1, .int c2]) ++ List.replicate (9 - (lg_sl ([.ref x, .int c1, .int c2])).length) Slot.unset).toArray = ls at hl ⊢
  have hl : lv_has ls 9 [(0, .ref x), (1, .int c1), (2, .int c2)] := hl
  refine lv_aload_n hx hb dX5_like_0 rfl (lv_at hl 0 rfl) ?_
  refine lv_iload_n hx hb dX5_like_1 rfl (lv_at hl 1 rfl) ?_
  refine va_csq (va_Run.run (va_runV (As := [.int c1]) (rest := []) ⟨hx, hb, hml, hown, hts⟩ (c_X_textOf l dC dI x cd rd tp fo qu sh vs pa pb c1) (cwV 1 hts gX5_like_X5_textOf rfl rfl rfl (by decide +kernel) ⟨Nat.le_of_ble_eq_true rfl, Nat.le_of_ble_eq_true rfl⟩) ⟨PS_blind, va_recv hK hP (ci := 10) (q0 := 0) rfl rfl, PS_pre hP hK hF⟩ rfl rfl hl.1 rfl (lv_room (Nat.le_of_ble_eq_true rfl)) dX5_like_2 ⟨Nat.le_of_ble_eq_true rfl, Nat.le_of_ble_eq_true rfl⟩)) (fun r_1 hr_1 => ?_)
  subst hr_1
  refine W.eq (g2 := F0 m 5 ls [.null]) rfl ?_
  refine lv_astore_nN (lv' := [(3, .null), (0, .ref x), (1, .int c1), (2, .int c2)]) hx hb dX5_like_5 rfl hl (by decide) rfl (fun ls hl => ?_)
  refine lv_aload_n hx hb dX5_like_6 rfl (lv_at hl 1 rfl) ?_
  refine lv_iload_n hx hb dX5_like_7 rfl (lv_at hl 3 rfl) ?_
  refine va_csq (va_Run.run (va_runV (As := [.int c2]) (rest := []) ⟨hx, hb, hml, hown, hts⟩ (c_X_textOf l dC dI x cd rd tp fo qu sh vs pa pb c2) (cwV 1 hts gX5_like_X5_textOf rfl rfl rfl (by decide +kernel) ⟨Nat.le_of_ble_eq_true rfl, Nat.le_of_ble_eq_true rfl⟩) ⟨PS_blind, va_recv hK hP (ci := 10) (q0 := 0) rfl rfl, PS_pre hP hK hF⟩ rfl rfl hl.1 rfl (lv_room (Nat.le_of_ble_eq_true rfl)) dX5_like_8 ⟨Nat.le_of_ble_eq_true rfl, Nat.le_of_ble_eq_true rfl⟩)) (fun r_2 hr_2 => ?_)
  subst hr_2
  refine W.eq (g2 := F0 m 11 ls [.null]) rfl ?_
  refine lv_astoreN (lv' := [(4, .null), (3, .null), (0, .ref x), (1, .int c1), (2, .int c2)]) hx hb dX5_like_11 hl (by decide) rfl (fun ls hl => ?_)
  refine lv_aload_nN hx hb dX5_like_13 rfl (lv_at hl 1 rfl) ?_
  refine lv_ifnullN (tgt := 22) hx hb dX5_like_14 (by decide) ?_
  refine lv_iconst (v := (-1)) hx hb dX5_like_22 (by decide) ?_
  exact W.iret (v := (-1)) hx hb hr (fun t ht hW => ⟨_, rfl, rfl, ht⟩) (fun _ h9 => absurd h9 List.not_mem_nil) dX5_like_23

set_option maxHeartbeats 4000000 in
set_option maxRecDepth 100000 in
theorem c_X_number (l : Launch) (dC : Nat → ClassId) (dI : Nat → Nat → Nat) (x : Nat) (cd : Nat) (rd : Nat) (tp : Nat) (fo : Nat) (qu : Nat) (sh : Nat) (vs : Nat) (pa : Nat) (pb : Nat) (c1 : Int32) (c2 : Int32) : Met l yX5_number wsX5_number ({ frames := 1, cells := 0, slots := 0, locals := 21 }) (va_Pc [.ref x, .int c1, .int c2] (PS dC dI [(x, .inr (10, [.ref cd, .int 0, .ref rd, .int 0, .ref tp, .ref fo, .int 10, .ref qu, .int 0, .int 0, .ref sh, .ref vs, .ref pa, .ref pb]))] [])) (vp_Si (fun r => r = (-5))) 0 0 (fun _ => False) := by
  refine Met.ofW (cc := cX5_number) (maxL := 6) (ret := (some .int)) (by decide) rfl ?_
  intro p e s m args below meth c s₁ B hml hv
  obtain ⟨rfl, hP, hK, hF⟩ := hv
  have hx := B.exec
  have hb := B.bytes
  have hr := B.returns
  have hts := atoms_spec (ws := wsX5_number) B.pre
  have hown : s.vm.findClass RX5 = some m.cls := findClass_of_methodNamed B.named
  have hlocks := B.notSynchronized
  have hl := lv_entry ([.ref x, .int c1, .int c2]) (n := 6) (Nat.le_of_ble_eq_true rfl)
  rw [lg_entry_eq]
  generalize (lg_sl ([.ref x, .int c1, .int c2]) ++ List.replicate (6 - (lg_sl ([.ref x, .int c1, .int c2])).length) Slot.unset).toArray = ls at hl ⊢
  have hl : lv_has ls 6 [(0, .ref x), (1, .int c1), (2, .int c2)] := hl
  refine lv_aload_n hx hb dX5_number_0 rfl (lv_at hl 0 rfl) ?_
  refine lv_iload_n hx hb dX5_number_1 rfl (lv_at hl 1 rfl) ?_
  refine va_csq (va_Run.run (va_runV (As := [.int c1]) (rest := []) ⟨hx, hb, hml, hown, hts⟩ (c_X_find l dC dI x cd rd tp fo qu sh vs pa pb c1) (cwV 1 hts gX5_number_X5_find rfl rfl rfl (by decide +kernel) ⟨Nat.le_of_ble_eq_true rfl, Nat.le_of_ble_eq_true rfl⟩) ⟨PS_blind, va_recv hK hP (ci := 10) (q0 := 0) rfl rfl, PS_pre hP hK hF⟩ rfl rfl hl.1 rfl (lv_room (Nat.le_of_ble_eq_true rfl)) dX5_number_2 ⟨Nat.le_of_ble_eq_true rfl, Nat.le_of_ble_eq_true rfl⟩)) (fun r_1 hr_1 => ?_)
  subst hr_1
  refine W.eq (g2 := F0 m 5 ls [.null]) rfl ?_
  refine lv_astore_nN (lv' := [(3, .null), (0, .ref x), (1, .int c1), (2, .int c2)]) hx hb dX5_number_5 rfl hl (by decide) rfl (fun ls hl => ?_)
  refine lv_aload_nN hx hb dX5_number_6 rfl (lv_at hl 0 rfl) ?_
  refine lv_ifnonnullN hx hb dX5_number_7 ?_
  refine lv_bipush (v := (-5)) hx hb dX5_number_10 (by decide) ?_
  exact W.iret (v := (-5)) hx hb hr (fun t ht hW => ⟨_, rfl, rfl, ht⟩) (fun _ h9 => absurd h9 List.not_mem_nil) dX5_number_12

set_option maxHeartbeats 4000000 in
set_option maxRecDepth 100000 in
theorem c_X_sees (l : Launch) (dC : Nat → ClassId) (dI : Nat → Nat → Nat) (x : Nat) (cd : Nat) (rd : Nat) (tp : Nat) (fo : Nat) (qu : Nat) (sh : Nat) (vs : Nat) (pa : Nat) (pb : Nat) (c1 : Int32) (c2 : Int32) (c3 : Int32) (c4 : Int32) : Met l yX5_sees wsX5_sees ({ frames := 1, cells := 0, slots := 0, locals := 21 }) (va_Pc [.ref x, .int c1, .int c2, .int c3, .int c4] (PS dC dI [(x, .inr (10, [.ref cd, .int 0, .ref rd, .int 0, .ref tp, .ref fo, .int 10, .ref qu, .int 0, .int 0, .ref sh, .ref vs, .ref pa, .ref pb]))] [])) (vp_Si (fun r => r = (-1))) 0 0 (fun _ => False) := by
  refine Met.ofW (cc := cX5_sees) (maxL := 6) (ret := (some .int)) (by decide) rfl ?_
  intro p e s m args below meth c s₁ B hml hv
  obtain ⟨rfl, hP, hK, hF⟩ := hv
  have hx := B.exec
  have hb := B.bytes
  have hr := B.returns
  have hts := atoms_spec (ws := wsX5_sees) B.pre
  have hown : s.vm.findClass RX5 = some m.cls := findClass_of_methodNamed B.named
  have hlocks := B.notSynchronized
  have hl := lv_entry ([.ref x, .int c1, .int c2, .int c3, .int c4]) (n := 6) (Nat.le_of_ble_eq_true rfl)
  rw [lg_entry_eq]
  generalize (lg_sl ([.ref x, .int c1, .int c2, .int c3, .int c4]) ++ List.replicate (6 - (lg_sl ([.ref x, .int c1, .int c2, .int c3, .int c4])).length) Slot.unset).toArray = ls at hl ⊢
  have hl : lv_has ls 6 [(0, .ref x), (1, .int c1), (2, .int c2), (3, .int c3), (4, .int c4)] := hl
  refine lv_aload_n hx hb dX5_sees_0 rfl (lv_at hl 0 rfl) ?_
  refine lv_iload_n hx hb dX5_sees_1 rfl (lv_at hl 2 rfl) ?_
  refine va_csq (va_Run.run (va_runV (As := [.int c2]) (rest := []) ⟨hx, hb, hml, hown, hts⟩ (c_X_find l dC dI x cd rd tp fo qu sh vs pa pb c2) (cwV 1 hts gX5_sees_X5_find rfl rfl rfl (by decide +kernel) ⟨Nat.le_of_ble_eq_true rfl, Nat.le_of_ble_eq_true rfl⟩) ⟨PS_blind, va_recv hK hP (ci := 10) (q0 := 0) rfl rfl, PS_pre hP hK hF⟩ rfl rfl hl.1 rfl (lv_room (Nat.le_of_ble_eq_true rfl)) dX5_sees_2 ⟨Nat.le_of_ble_eq_true rfl, Nat.le_of_ble_eq_true rfl⟩)) (fun r_1 hr_1 => ?_)
  subst hr_1
  refine W.eq (g2 := F0 m 5 ls [.null]) rfl ?_
  refine lv_astoreN (lv' := [(5, .null), (0, .ref x), (1, .int c1), (2, .int c2), (3, .int c3), (4, .int c4)]) hx hb dX5_sees_5 hl (by decide) rfl (fun ls hl => ?_)
  refine lv_aloadN hx hb dX5_sees_7 (lv_at hl 0 rfl) ?_
  refine lv_ifnullN (tgt := 22) hx hb dX5_sees_9 (by decide) ?_
  refine lv_iconst (v := (-1)) hx hb dX5_sees_22 (by decide) ?_
  exact W.iret (v := (-1)) hx hb hr (fun t ht hW => ⟨_, rfl, rfl, ht⟩) (fun _ h9 => absurd h9 List.not_mem_nil) dX5_sees_23

set_option maxHeartbeats 4000000 in
set_option maxRecDepth 100000 in
theorem c_X_reading (l : Launch) (dC : Nat → ClassId) (dI : Nat → Nat → Nat) (x : Nat) (cd : Nat) (rd : Nat) (tp : Nat) (fo : Nat) (qu : Nat) (sh : Nat) (vs : Nat) (pa : Nat) (pb : Nat) (c1 : Int32) (c2 : Int32) (c3 : Int32) : Met l yX5_reading wsX5_reading ({ frames := 1, cells := 0, slots := 0, locals := 21 }) (va_Pc [.ref x, .int c1, .int c2, .int c3] (PS dC dI [(x, .inr (10, [.ref cd, .int 0, .ref rd, .int 0, .ref tp, .ref fo, .int 10, .ref qu, .int 0, .int 0, .ref sh, .ref vs, .ref pa, .ref pb]))] [])) (vp_Si (fun r => r = (-1))) 0 0 (fun _ => False) := by
  refine Met.ofW (cc := cX5_reading) (maxL := 5) (ret := (some .int)) (by decide) rfl ?_
  intro p e s m args below meth c s₁ B hml hv
  obtain ⟨rfl, hP, hK, hF⟩ := hv
  have hx := B.exec
  have hb := B.bytes
  have hr := B.returns
  have hts := atoms_spec (ws := wsX5_reading) B.pre
  have hown : s.vm.findClass RX5 = some m.cls := findClass_of_methodNamed B.named
  have hlocks := B.notSynchronized
  have hl := lv_entry ([.ref x, .int c1, .int c2, .int c3]) (n := 5) (Nat.le_of_ble_eq_true rfl)
  rw [lg_entry_eq]
  generalize (lg_sl ([.ref x, .int c1, .int c2, .int c3]) ++ List.replicate (5 - (lg_sl ([.ref x, .int c1, .int c2, .int c3])).length) Slot.unset).toArray = ls at hl ⊢
  have hl : lv_has ls 5 [(0, .ref x), (1, .int c1), (2, .int c2), (3, .int c3)] := hl
  refine lv_aload_n hx hb dX5_reading_0 rfl (lv_at hl 0 rfl) ?_
  refine lv_iload_n hx hb dX5_reading_1 rfl (lv_at hl 1 rfl) ?_
  refine va_csq (va_Run.run (va_runV (As := [.int c1]) (rest := []) ⟨hx, hb, hml, hown, hts⟩ (c_X_find l dC dI x cd rd tp fo qu sh vs pa pb c1) (cwV 1 hts gX5_reading_X5_find rfl rfl rfl (by decide +kernel) ⟨Nat.le_of_ble_eq_true rfl, Nat.le_of_ble_eq_true rfl⟩) ⟨PS_blind, va_recv hK hP (ci := 10) (q0 := 0) rfl rfl, PS_pre hP hK hF⟩ rfl rfl hl.1 rfl (lv_room (Nat.le_of_ble_eq_true rfl)) dX5_reading_2 ⟨Nat.le_of_ble_eq_true rfl, Nat.le_of_ble_eq_true rfl⟩)) (fun r_1 hr_1 => ?_)
  subst hr_1
  refine W.eq (g2 := F0 m 5 ls [.null]) rfl ?_
  refine lv_astoreN (lv' := [(4, .null), (0, .ref x), (1, .int c1), (2, .int c2), (3, .int c3)]) hx hb dX5_reading_5 hl (by decide) rfl (fun ls hl => ?_)
  refine lv_aloadN hx hb dX5_reading_7 (lv_at hl 0 rfl) ?_
  refine lv_ifnullN (tgt := 21) hx hb dX5_reading_9 (by decide) ?_
  refine lv_iconst (v := (-1)) hx hb dX5_reading_21 (by decide) ?_
  exact W.iret (v := (-1)) hx hb hr (fun t ht hW => ⟨_, rfl, rfl, ht⟩) (fun _ h9 => absurd h9 List.not_mem_nil) dX5_reading_22

set_option maxHeartbeats 4000000 in
set_option maxRecDepth 100000 in
theorem c_X_mark (l : Launch) (dC : Nat → ClassId) (dI : Nat → Nat → Nat) (x : Nat) (cd : Nat) (rd : Nat) (tp : Nat) (fo : Nat) (qu : Nat) (sh : Nat) (vs : Nat) (pa : Nat) (pb : Nat) (c1 : Int32) (c2 : Int32) (c3 : Int32) : Met l yX5_mark wsX5_mark ({ frames := 1, cells := 0, slots := 0, locals := 21 }) (va_Pc [.ref x, .int c1, .int c2, .int c3] (PS dC dI [(x, .inr (10, [.ref cd, .int 0, .ref rd, .int 0, .ref tp, .ref fo, .int 10, .ref qu, .int 0, .int 0, .ref sh, .ref vs, .ref pa, .ref pb]))] [])) (vp_Si (fun r => r = (-1))) 0 0 (fun _ => False) := by
  refine Met.ofW (cc := cX5_mark) (maxL := 7) (ret := (some .int)) (by decide) rfl ?_
  intro p e s m args below meth c s₁ B hml hv
  obtain ⟨rfl, hP, hK, hF⟩ := hv
  have hx := B.exec
  have hb := B.bytes
  have hr := B.returns
  have hts := atoms_spec (ws := wsX5_mark) B.pre
  have hown : s.vm.findClass RX5 = some m.cls := findClass_of_methodNamed B.named
  have hlocks := B.notSynchronized
  have hl := lv_entry ([.ref x, .int c1, .int c2, .int c3]) (n := 7) (Nat.le_of_ble_eq_true rfl)
  rw [lg_entry_eq]
  generalize (lg_sl ([.ref x, .int c1, .int c2, .int c3]) ++ List.replicate (7 - (lg_sl ([.ref x, .int c1, .int c2, .int c3])).length) Slot.unset).toArray = ls at hl ⊢
  have hl : lv_has ls 7 [(0, .ref x), (1, .int c1), (2, .int c2), (3, .int c3)] := hl
  refine lv_aload_n hx hb dX5_mark_0 rfl (lv_at hl 0 rfl) ?_
  refine lv_iload_n hx hb dX5_mark_1 rfl (lv_at hl 1 rfl) ?_
  refine va_csq (va_Run.run (va_runV (As := [.int c1]) (rest := []) ⟨hx, hb, hml, hown, hts⟩ (c_X_find l dC dI x cd rd tp fo qu sh vs pa pb c1) (cwV 1 hts gX5_mark_X5_find rfl rfl rfl (by decide +kernel) ⟨Nat.le_of_ble_eq_true rfl, Nat.le_of_ble_eq_true rfl⟩) ⟨PS_blind, va_recv hK hP (ci := 10) (q0 := 0) rfl rfl, PS_pre hP hK hF⟩ rfl rfl hl.1 rfl (lv_room (Nat.le_of_ble_eq_true rfl)) dX5_mark_2 ⟨Nat.le_of_ble_eq_true rfl, Nat.le_of_ble_eq_true rfl⟩)) (fun r_1 hr_1 => ?_)
  subst hr_1
  refine W.eq (g2 := F0 m 5 ls [.null]) rfl ?_
  refine lv_astoreN (lv' := [(4, .null), (0, .ref x), (1, .int c1), (2, .int c2), (3, .int c3)]) hx hb dX5_mark_5 hl (by decide) rfl (fun ls hl => ?_)
  refine lv_aloadN hx hb dX5_mark_7 (lv_at hl 0 rfl) ?_
  refine lv_ifnullN (tgt := 20) hx hb dX5_mark_9 (by decide) ?_
  refine lv_iconst (v := (-1)) hx hb dX5_mark_20 (by decide) ?_
  exact W.iret (v := (-1)) hx hb hr (fun t ht hW => ⟨_, rfl, rfl, ht⟩) (fun _ h9 => absurd h9 List.not_mem_nil) dX5_mark_21

set_option maxHeartbeats 4000000 in
set_option maxRecDepth 100000 in
theorem c_X_load (l : Launch) (dC : Nat → ClassId) (dI : Nat → Nat → Nat) (x : Nat) (cd : Nat) (rd : Nat) (tp : Nat) (fo : Nat) (qu : Nat) (sh : Nat) (vs : Nat) (pa : Nat) (pb : Nat) (c1 : Int32) : Met l yX5_load wsX5_load ({ frames := 1, cells := 0, slots := 0, locals := 21 }) (va_Pc [.ref x, .int c1] (PS dC dI [(x, .inr (10, [.ref cd, .int 0, .ref rd, .int 0, .ref tp, .ref fo, .int 10, .ref qu, .int 0, .int 0, .ref sh, .ref vs, .ref pa, .ref pb]))] [])) (vp_Si (fun r => r = (-1))) 0 0 (fun _ => False) := by
  refine Met.ofW (cc := cX5_load) (maxL := 3) (ret := (some .int)) (by decide) rfl ?_
  intro p e s m args below meth c s₁ B hml hv
  obtain ⟨rfl, hP, hK, hF⟩ := hv
  have hx := B.exec
  have hb := B.bytes
  have hr := B.returns
  have hts := atoms_spec (ws := wsX5_load) B.pre
  have hown : s.vm.findClass RX5 = some m.cls := findClass_of_methodNamed B.named
  have hlocks := B.notSynchronized
  have hl := lv_entry ([.ref x, .int c1]) (n := 3) (Nat.le_of_ble_eq_true rfl)
  rw [lg_entry_eq]
  generalize (lg_sl ([.ref x, .int c1]) ++ List.replicate (3 - (lg_sl ([.ref x, .int c1])).length) Slot.unset).toArray = ls at hl ⊢
  have hl : lv_has ls 3 [(0, .ref x), (1, .int c1)] := hl
  refine lv_aload_n hx hb dX5_load_0 rfl (lv_at hl 0 rfl) ?_
  refine lv_iload_n hx hb dX5_load_1 rfl (lv_at hl 1 rfl) ?_
  refine va_csq (va_Run.run (va_runV (As := [.int c1]) (rest := []) ⟨hx, hb, hml, hown, hts⟩ (c_X_findReader l dC dI x cd rd tp fo qu sh vs pa pb c1) (cwV 1 hts gX5_load_X5_findReader rfl rfl rfl (by decide +kernel) ⟨Nat.le_of_ble_eq_true rfl, Nat.le_of_ble_eq_true rfl⟩) ⟨PS_blind, va_recv hK hP (ci := 10) (q0 := 0) rfl rfl, PS_pre hP hK hF⟩ rfl rfl hl.1 rfl (lv_room (Nat.le_of_ble_eq_true rfl)) dX5_load_2 ⟨Nat.le_of_ble_eq_true rfl, Nat.le_of_ble_eq_true rfl⟩)) (fun r_1 hr_1 => ?_)
  subst hr_1
  refine W.eq (g2 := F0 m 5 ls [.null]) rfl ?_
  refine lv_astore_nN (lv' := [(2, .null), (0, .ref x), (1, .int c1)]) hx hb dX5_load_5 rfl hl (by decide) rfl (fun ls hl => ?_)
  refine lv_aload_nN hx hb dX5_load_6 rfl (lv_at hl 0 rfl) ?_
  refine lv_ifnonnullN hx hb dX5_load_7 ?_
  refine lv_iconst (v := (-1)) hx hb dX5_load_10 (by decide) ?_
  refine lv_goto (tgt := 18) hx hb dX5_load_11 (by decide) ?_
  exact W.iret (v := (-1)) hx hb hr (fun t ht hW => ⟨_, rfl, rfl, ht⟩) (fun _ h9 => absurd h9 List.not_mem_nil) dX5_load_18

set_option maxHeartbeats 4000000 in
set_option maxRecDepth 100000 in
theorem c_X_shift (l : Launch) (dC : Nat → ClassId) (dI : Nat → Nat → Nat) (x : Nat) (cd : Nat) (rd : Nat) (tp : Nat) (fo : Nat) (qu : Nat) (sh : Nat) (vs : Nat) (pa : Nat) (pb : Nat) (c1 : Int32) : Met l yX5_shift wsX5_shift ({ frames := 1, cells := 0, slots := 0, locals := 21 }) (va_Pc [.ref x, .int c1] (PS dC dI [(x, .inr (10, [.ref cd, .int 0, .ref rd, .int 0, .ref tp, .ref fo, .int 10, .ref qu, .int 0, .int 0, .ref sh, .ref vs, .ref pa, .ref pb]))] [])) (vp_Si (fun r => r = (-1000))) 0 0 (fun _ => False) := by
  refine Met.ofW (cc := cX5_shift) (maxL := 2) (ret := (some .int)) (by decide) rfl ?_
  intro p e s m args below meth c s₁ B hml hv
  obtain ⟨rfl, hP, hK, hF⟩ := hv
  have hx := B.exec
  have hb := B.bytes
  have hr := B.returns
  have hts := atoms_spec (ws := wsX5_shift) B.pre
  have hown : s.vm.findClass RX5 = some m.cls := findClass_of_methodNamed B.named
  have hlocks := B.notSynchronized
  have hl := lv_entry ([.ref x, .int c1]) (n := 2) (Nat.le_of_ble_eq_true rfl)
  rw [lg_entry_eq]
  generalize (lg_sl ([.ref x, .int c1]) ++ List.replicate (2 - (lg_sl ([.ref x, .int c1])).length) Slot.unset).toArray = ls at hl ⊢
  have hl : lv_has ls 2 [(0, .ref x), (1, .int c1)] := hl
  refine lv_aload_n hx hb dX5_shift_0 rfl (lv_at hl 0 rfl) ?_
  refine lv_iload_n hx hb dX5_shift_1 rfl (lv_at hl 1 rfl) ?_
  refine va_csq (va_Run.run (va_runV (As := [.int c1]) (rest := []) ⟨hx, hb, hml, hown, hts⟩ (c_X_findReader l dC dI x cd rd tp fo qu sh vs pa pb c1) (cwV 1 hts gX5_shift_X5_findReader rfl rfl rfl (by decide +kernel) ⟨Nat.le_of_ble_eq_true rfl, Nat.le_of_ble_eq_true rfl⟩) ⟨PS_blind, va_recv hK hP (ci := 10) (q0 := 0) rfl rfl, PS_pre hP hK hF⟩ rfl rfl hl.1 rfl (lv_room (Nat.le_of_ble_eq_true rfl)) dX5_shift_2 ⟨Nat.le_of_ble_eq_true rfl, Nat.le_of_ble_eq_true rfl⟩)) (fun r_1 hr_1 => ?_)
  subst hr_1
  refine W.eq (g2 := F0 m 5 ls [.null]) rfl ?_
  refine lv_ifnonnullN hx hb dX5_shift_5 ?_
  refine lv_sipush (v := (-1000)) hx hb dX5_shift_8 (by decide) ?_
  refine lv_goto (tgt := 19) hx hb dX5_shift_11 (by decide) ?_
  exact W.iret (v := (-1000)) hx hb hr (fun t ht hW => ⟨_, rfl, rfl, ht⟩) (fun _ h9 => absurd h9 List.not_mem_nil) dX5_shift_19

set_option maxHeartbeats 4000000 in
set_option maxRecDepth 100000 in
theorem c_X_score (l : Launch) (dC : Nat → ClassId) (dI : Nat → Nat → Nat) (x : Nat) (cd : Nat) (rd : Nat) (tp : Nat) (fo : Nat) (qu : Nat) (sh : Nat) (vs : Nat) (pa : Nat) (pb : Nat) (c1 : Int32) (c2 : Int32) : Met l yX5_score wsX5_score ({ frames := 1, cells := 0, slots := 0, locals := 21 }) (va_Pc [.ref x, .int c1, .int c2] (PS dC dI [(x, .inr (10, [.ref cd, .int 0, .ref rd, .int 0, .ref tp, .ref fo, .int 10, .ref qu, .int 0, .int 0, .ref sh, .ref vs, .ref pa, .ref pb]))] [])) (vp_Si (fun r => r = (-1))) 0 0 (fun _ => False) := by
  refine Met.ofW (cc := cX5_score) (maxL := 4) (ret := (some .int)) (by decide) rfl ?_
  intro p e s m args below meth c s₁ B hml hv
  obtain ⟨rfl, hP, hK, hF⟩ := hv
  have hx := B.exec
  have hb := B.bytes
  have hr := B.returns
  have hts := atoms_spec (ws := wsX5_score) B.pre
  have hown : s.vm.findClass RX5 = some m.cls := findClass_of_methodNamed B.named
  have hlocks := B.notSynchronized
  have hl := lv_entry ([.ref x, .int c1, .int c2]) (n := 4) (Nat.le_of_ble_eq_true rfl)
  rw [lg_entry_eq]
  generalize (lg_sl ([.ref x, .int c1, .int c2]) ++ List.replicate (4 - (lg_sl ([.ref x, .int c1, .int c2])).length) Slot.unset).toArray = ls at hl ⊢
  have hl : lv_has ls 4 [(0, .ref x), (1, .int c1), (2, .int c2)] := hl
  refine lv_aload_n hx hb dX5_score_0 rfl (lv_at hl 0 rfl) ?_
  refine lv_iload_n hx hb dX5_score_1 rfl (lv_at hl 1 rfl) ?_
  refine va_csq (va_Run.run (va_runV (As := [.int c1]) (rest := []) ⟨hx, hb, hml, hown, hts⟩ (c_X_find l dC dI x cd rd tp fo qu sh vs pa pb c1) (cwV 1 hts gX5_score_X5_find rfl rfl rfl (by decide +kernel) ⟨Nat.le_of_ble_eq_true rfl, Nat.le_of_ble_eq_true rfl⟩) ⟨PS_blind, va_recv hK hP (ci := 10) (q0 := 0) rfl rfl, PS_pre hP hK hF⟩ rfl rfl hl.1 rfl (lv_room (Nat.le_of_ble_eq_true rfl)) dX5_score_2 ⟨Nat.le_of_ble_eq_true rfl, Nat.le_of_ble_eq_true rfl⟩)) (fun r_1 hr_1 => ?_)
  subst hr_1
  refine W.eq (g2 := F0 m 5 ls [.null]) rfl ?_
  refine lv_astore_nN (lv' := [(3, .null), (0, .ref x), (1, .int c1), (2, .int c2)]) hx hb dX5_score_5 rfl hl (by decide) rfl (fun ls hl => ?_)
  refine lv_aload_nN hx hb dX5_score_6 rfl (lv_at hl 0 rfl) ?_
  refine lv_ifnullN (tgt := 19) hx hb dX5_score_7 (by decide) ?_
  refine lv_iconst (v := (-1)) hx hb dX5_score_19 (by decide) ?_
  exact W.iret (v := (-1)) hx hb hr (fun t ht hW => ⟨_, rfl, rfl, ht⟩) (fun _ h9 => absurd h9 List.not_mem_nil) dX5_score_20

set_option maxHeartbeats 4000000 in
set_option maxRecDepth 100000 in
theorem c_X_settleShifts (l : Launch) (dC : Nat → ClassId) (dI : Nat → Nat → Nat) (x : Nat) (cd : Nat) (rd : Nat) (tp : Nat) (fo : Nat) (qu : Nat) (sh : Nat) (vs : Nat) (pa : Nat) (pb : Nat) : Met l yX5_settleShifts wsX5_settleShifts ({ frames := 0, cells := 0, slots := 0, locals := 0 }) (va_Pc [.ref x] (PS dC dI [(x, .inr (10, [.ref cd, .int 0, .ref rd, .int 0, .ref tp, .ref fo, .int 10, .ref qu, .int 0, .int 0, .ref sh, .ref vs, .ref pa, .ref pb]))] [])) (va_Sv (fun _ => True)) 0 0 (fun _ => False) := by
  refine Met.ofW (cc := cX5_settleShifts) (maxL := 2) (ret := none) (by decide) rfl ?_
  intro p e s m args below meth c s₁ B hml hv
  obtain ⟨rfl, hP, hK, hF⟩ := hv
  have hx := B.exec
  have hb := B.bytes
  have hr := B.returns
  have hts := atoms_spec (ws := wsX5_settleShifts) B.pre
  have hown : s.vm.findClass RX5 = some m.cls := findClass_of_methodNamed B.named
  have hlocks := B.notSynchronized
  have hl := lv_entry ([.ref x]) (n := 2) (Nat.le_of_ble_eq_true rfl)
  rw [lg_entry_eq]
  generalize (lg_sl ([.ref x]) ++ List.replicate (2 - (lg_sl ([.ref x])).length) Slot.unset).toArray = ls at hl ⊢
  have hl : lv_has ls 2 [(0, .ref x)] := hl
  refine lv_iconst (v := 0) hx hb dX5_settleShifts_0 (by decide) ?_
  refine lv_istore_n (lv' := [(1, .int 0), (0, .ref x)]) hx hb dX5_settleShifts_1 rfl hl (by decide) rfl (fun ls hl => ?_)
  refine lv_iload_n hx hb dX5_settleShifts_2 rfl (lv_at hl 0 rfl) ?_
  refine lv_aload_n hx hb dX5_settleShifts_3 rfl (lv_at hl 1 rfl) ?_
  refine va_get (D := (dC, dI)) (ci := 10) (v := .int 0) (C := RX5) (T := TX5) (N := 14) hx hb hts (fun _ h9 => List.mem_cons_of_mem _ (List.mem_append_left _ (List.mem_append_right _ (h9)))) hown hK hP 0 rfl rfl 3 (by decide) (hts (.fieldLink RX5 25 "ExamHalls" "readerCount" "I") (List.mem_of_getElem? (i := 1) rfl)) (fun _ h9 => h9) rfl dX5_settleShifts_4 ?_
  refine lv_icmp_ge (tgt := 27) hx hb dX5_settleShifts_7 (by decide) (fun _ => ?_) (fun c_1 => absurd (by decide) c_1)
  exact W.vret hx hb hr (fun t ht hW => ⟨rfl, trivial, ht⟩) (fun _ h9 => absurd h9 List.not_mem_nil) dX5_settleShifts_27

set_option maxHeartbeats 4000000 in
set_option maxRecDepth 100000 in
theorem c_X_settle (l : Launch) (dC : Nat → ClassId) (dI : Nat → Nat → Nat) (x : Nat) (cd : Nat) (rd : Nat) (tp : Nat) (fo : Nat) (qu : Nat) (sh : Nat) (vs : Nat) (pa : Nat) (pb : Nat) (c1 : Int32) : Met l yX5_settle wsX5_settle ({ frames := 1, cells := 0, slots := 0, locals := 21 }) (va_Pc [.ref x, .int c1] (PS dC dI [(x, .inr (10, [.ref cd, .int 0, .ref rd, .int 0, .ref tp, .ref fo, .int 10, .ref qu, .int 0, .int 0, .ref sh, .ref vs, .ref pa, .ref pb]))] [])) (va_Sv (fun _ => True)) 0 0 (fun _ => False) := by
  refine Met.ofW (cc := cX5_settle) (maxL := 4) (ret := none) (by decide) rfl ?_
  intro p e s m args below meth c s₁ B hml hv
  obtain ⟨rfl, hP, hK, hF⟩ := hv
  have hx := B.exec
  have hb := B.bytes
  have hr := B.returns
  have hts := atoms_spec (ws := wsX5_settle) B.pre
  have hown : s.vm.findClass RX5 = some m.cls := findClass_of_methodNamed B.named
  have hlocks := B.notSynchronized
  have hl := lv_entry ([.ref x, .int c1]) (n := 4) (Nat.le_of_ble_eq_true rfl)
  rw [lg_entry_eq]
  generalize (lg_sl ([.ref x, .int c1]) ++ List.replicate (4 - (lg_sl ([.ref x, .int c1])).length) Slot.unset).toArray = ls at hl ⊢
  have hl : lv_has ls 4 [(0, .ref x), (1, .int c1)] := hl
  refine lv_aload_n hx hb dX5_settle_0 rfl (lv_at hl 0 rfl) ?_
  refine va_csv (va_Run.run (va_runV (As := []) (rest := []) ⟨hx, hb, hml, hown, hts⟩ (c_X_settleShifts l dC dI x cd rd tp fo qu sh vs pa pb) (cwV 0 hts gX5_settle_X5_settleShifts rfl rfl rfl (by decide +kernel) ⟨Nat.le_of_ble_eq_true rfl, Nat.le_of_ble_eq_true rfl⟩) ⟨PS_blind, va_recv hK hP (ci := 10) (q0 := 0) rfl rfl, PS_pre hP hK hF⟩ rfl rfl hl.1 rfl (lv_room (Nat.le_of_ble_eq_true rfl)) dX5_settle_1 ⟨Nat.le_of_ble_eq_true rfl, Nat.le_of_ble_eq_true rfl⟩)) (fun _ => ?_)
  refine lv_iconst (v := 0) hx hb dX5_settle_4 (by decide) ?_
  refine lv_istore_n (lv' := [(2, .int 0), (0, .ref x), (1, .int c1)]) hx hb dX5_settle_5 rfl hl (by decide) rfl (fun ls hl => ?_)
  refine lv_iload_n hx hb dX5_settle_6 rfl (lv_at hl 0 rfl) ?_
  refine lv_aload_n hx hb dX5_settle_7 rfl (lv_at hl 1 rfl) ?_
  refine va_get (D := (dC, dI)) (ci := 10) (v := .int 0) (C := RX5) (T := TX5) (N := 14) hx hb hts (fun _ h9 => List.mem_cons_of_mem _ (List.mem_append_left _ (List.mem_append_left _ (List.mem_append_left _ (List.mem_append_right _ (h9)))))) hown hK hP 0 rfl rfl 1 (by decide) (hts (.fieldLink RX5 15 "ExamHalls" "candidateCount" "I") (List.mem_of_getElem? (i := 1) rfl)) (fun _ h9 => h9) rfl dX5_settle_8 ?_
  refine lv_icmp_ge (tgt := 62) hx hb dX5_settle_11 (by decide) (fun _ => ?_) (fun c_2 => absurd (by decide) c_2)
  refine lv_iconst (v := 0) hx hb dX5_settle_62 (by decide) ?_
  refine lv_istore_n (lv' := [(2, .int 0), (0, .ref x), (1, .int c1)]) hx hb dX5_settle_63 rfl hl (by decide) rfl (fun ls hl => ?_)
  refine lv_iload_n hx hb dX5_settle_64 rfl (lv_at hl 0 rfl) ?_
  refine lv_aload_n hx hb dX5_settle_65 rfl (lv_at hl 1 rfl) ?_
  refine va_get (D := (dC, dI)) (ci := 10) (v := .int 0) (C := RX5) (T := TX5) (N := 14) hx hb hts (fun _ h9 => List.mem_cons_of_mem _ (List.mem_append_left _ (List.mem_append_left _ (List.mem_append_left _ (List.mem_append_right _ (h9)))))) hown hK hP 0 rfl rfl 1 (by decide) (hts (.fieldLink RX5 15 "ExamHalls" "candidateCount" "I") (List.mem_of_getElem? (i := 1) rfl)) (fun _ h9 => h9) rfl dX5_settle_66 ?_
  refine lv_icmp_ge (tgt := 107) hx hb dX5_settle_69 (by decide) (fun _ => ?_) (fun c_3 => absurd (by decide) c_3)
  exact W.vret hx hb hr (fun t ht hW => ⟨rfl, trivial, ht⟩) (fun _ h9 => absurd h9 List.not_mem_nil) dX5_settle_107

set_option maxHeartbeats 4000000 in
set_option maxRecDepth 100000 in
theorem c_X_passes (l : Launch) (dC : Nat → ClassId) (dI : Nat → Nat → Nat) (x : Nat) (cd : Nat) (rd : Nat) (tp : Nat) (fo : Nat) (qu : Nat) (sh : Nat) (vs : Nat) (pa : Nat) (pb : Nat) (c1 : Int32) : Met l yX5_passes wsX5_passes ({ frames := 1, cells := 0, slots := 0, locals := 21 }) (va_Pc [.ref x, .int c1] (PS dC dI [(x, .inr (10, [.ref cd, .int 0, .ref rd, .int 0, .ref tp, .ref fo, .int 10, .ref qu, .int 0, .int 0, .ref sh, .ref vs, .ref pa, .ref pb]))] [])) (vp_Si (fun r => r = (-1))) 0 0 (fun _ => False) := by
  refine Met.ofW (cc := cX5_passes) (maxL := 2) (ret := (some .int)) (by decide) rfl ?_
  intro p e s m args below meth c s₁ B hml hv
  obtain ⟨rfl, hP, hK, hF⟩ := hv
  have hx := B.exec
  have hb := B.bytes
  have hr := B.returns
  have hts := atoms_spec (ws := wsX5_passes) B.pre
  have hown : s.vm.findClass RX5 = some m.cls := findClass_of_methodNamed B.named
  have hlocks := B.notSynchronized
  have hl := lv_entry ([.ref x, .int c1]) (n := 2) (Nat.le_of_ble_eq_true rfl)
  rw [lg_entry_eq]
  generalize (lg_sl ([.ref x, .int c1]) ++ List.replicate (2 - (lg_sl ([.ref x, .int c1])).length) Slot.unset).toArray = ls at hl ⊢
  have hl : lv_has ls 2 [(0, .ref x), (1, .int c1)] := hl
  refine lv_aload_n hx hb dX5_passes_0 rfl (lv_at hl 0 rfl) ?_
  refine lv_iload_n hx hb dX5_passes_1 rfl (lv_at hl 1 rfl) ?_
  refine va_csq (va_Run.run (va_runV (As := [.int c1]) (rest := []) ⟨hx, hb, hml, hown, hts⟩ (c_X_find l dC dI x cd rd tp fo qu sh vs pa pb c1) (cwV 1 hts gX5_passes_X5_find rfl rfl rfl (by decide +kernel) ⟨Nat.le_of_ble_eq_true rfl, Nat.le_of_ble_eq_true rfl⟩) ⟨PS_blind, va_recv hK hP (ci := 10) (q0 := 0) rfl rfl, PS_pre hP hK hF⟩ rfl rfl hl.1 rfl (lv_room (Nat.le_of_ble_eq_true rfl)) dX5_passes_2 ⟨Nat.le_of_ble_eq_true rfl, Nat.le_of_ble_eq_true rfl⟩)) (fun r_1 hr_1 => ?_)
  subst hr_1
  refine W.eq (g2 := F0 m 5 ls [.null]) rfl ?_
  refine lv_ifnonnullN hx hb dX5_passes_5 ?_
  refine lv_iconst (v := (-1)) hx hb dX5_passes_8 (by decide) ?_
  exact W.iret (v := (-1)) hx hb hr (fun t ht hW => ⟨_, rfl, rfl, ht⟩) (fun _ h9 => absurd h9 List.not_mem_nil) dX5_passes_9

def sp_X_passed (c1 : Int32) : Int32 := if (sp_X_isWithin c1 0 3) = 0 then (-1) else 0
set_option maxHeartbeats 4000000 in
set_option maxRecDepth 100000 in
theorem c_X_passed (l : Launch) (dC : Nat → ClassId) (dI : Nat → Nat → Nat) (x : Nat) (cd : Nat) (rd : Nat) (tp : Nat) (fo : Nat) (qu : Nat) (sh : Nat) (vs : Nat) (pa : Nat) (pb : Nat) (c1 : Int32) : Met l yX5_passed wsX5_passed ({ frames := 2, cells := 0, slots := 0, locals := 44 }) (va_Pc [.ref x, .int c1] (PS dC dI [(x, .inr (10, [.ref cd, .int 0, .ref rd, .int 0, .ref tp, .ref fo, .int 10, .ref qu, .int 0, .int 0, .ref sh, .ref vs, .ref pa, .ref pb]))] [])) (vp_Si (fun r => r = sp_X_passed c1)) 0 0 (fun _ => False) := by
  refine Met.ofW (cc := cX5_passed) (maxL := 5) (ret := (some .int)) (by decide) rfl ?_
  intro p e s m args below meth c s₁ B hml hv
  obtain ⟨rfl, hP, hK, hF⟩ := hv
  have hx := B.exec
  have hb := B.bytes
  have hr := B.returns
  have hts := atoms_spec (ws := wsX5_passed) B.pre
  have hown : s.vm.findClass RX5 = some m.cls := findClass_of_methodNamed B.named
  have hlocks := B.notSynchronized
  have hl := lv_entry ([.ref x, .int c1]) (n := 5) (Nat.le_of_ble_eq_true rfl)
  rw [lg_entry_eq]
  generalize (lg_sl ([.ref x, .int c1]) ++ List.replicate (5 - (lg_sl ([.ref x, .int c1])).length) Slot.unset).toArray = ls at hl ⊢
  have hl : lv_has ls 5 [(0, .ref x), (1, .int c1)] := hl
  refine lv_iload_n hx hb dX5_passed_0 rfl (lv_at hl 1 rfl) ?_
  refine lv_iconst (v := 0) hx hb dX5_passed_1 (by decide) ?_
  refine lv_iconst (v := 3) hx hb dX5_passed_2 (by decide) ?_
  refine vp_callSi (va_Run.run (va_runS (As := [.int c1, .int 0, .int 3]) (rest := []) ⟨hx, hb, hml, hown, hts⟩ (c_X_isWithin l dC dI c1 0 3) (va_cwS 3 hts gX5_passed_X5_isWithin rfl rfl rfl (by decide +kernel) ⟨Nat.le_of_ble_eq_true rfl, Nat.le_of_ble_eq_true rfl⟩) ⟨PS_blind, PS_pre (hP.sub (ws' := []) [] rfl) hK hF⟩ rfl rfl hl.1 rfl (lv_room (Nat.le_of_ble_eq_true rfl)) dX5_passed_3 ⟨Nat.le_of_ble_eq_true rfl, Nat.le_of_ble_eq_true rfl⟩)) (fun r_1 hr_1 => ?_)
  subst hr_1
  refine lv_if_ne (tgt := 11) hx hb dX5_passed_6 (by decide) (fun c_2 => ?_) (fun c_2 => ?_)
  · skip
    refine lv_aload_n hx hb dX5_passed_11 rfl (lv_at hl 0 rfl) ?_
    refine lv_iconst (v := (-1)) hx hb dX5_passed_12 (by decide) ?_
    refine va_csv (va_Run.run (va_runV (As := [.int (-1)]) (rest := []) ⟨hx, hb, hml, hown, hts⟩ (c_X_settle l dC dI x cd rd tp fo qu sh vs pa pb (-1)) (cwV 1 hts gX5_passed_X5_settle rfl rfl rfl (by decide +kernel) ⟨Nat.le_of_ble_eq_true rfl, Nat.le_of_ble_eq_true rfl⟩) ⟨PS_blind, va_recv hK hP (ci := 10) (q0 := 0) rfl rfl, PS_pre hP hK hF⟩ rfl rfl hl.1 rfl (lv_room (Nat.le_of_ble_eq_true rfl)) dX5_passed_13 ⟨Nat.le_of_ble_eq_true rfl, Nat.le_of_ble_eq_true rfl⟩)) (fun _ => ?_)
    refine lv_iconst (v := 0) hx hb dX5_passed_16 (by decide) ?_
    refine lv_istore_n (lv' := [(2, .int 0), (0, .ref x), (1, .int c1)]) hx hb dX5_passed_17 rfl hl (by decide) rfl (fun ls hl => ?_)
    refine lv_iconst (v := 0) hx hb dX5_passed_18 (by decide) ?_
    refine lv_istore_n (lv' := [(3, .int 0), (2, .int 0), (0, .ref x), (1, .int c1)]) hx hb dX5_passed_19 rfl hl (by decide) rfl (fun ls hl => ?_)
    refine lv_iload_n hx hb dX5_passed_20 rfl (lv_at hl 0 rfl) ?_
    refine lv_aload_n hx hb dX5_passed_21 rfl (lv_at hl 2 rfl) ?_
    refine va_get (D := (dC, dI)) (ci := 10) (v := .int 0) (C := RX5) (T := TX5) (N := 14) hx hb hts (fun _ h9 => List.mem_cons_of_mem _ (List.mem_append_left _ (List.mem_append_left _ (List.mem_append_left _ (List.mem_append_right _ (h9)))))) hown hK hP 0 rfl rfl 1 (by decide) (hts (.fieldLink RX5 15 "ExamHalls" "candidateCount" "I") (List.mem_of_getElem? (i := 1) rfl)) (fun _ h9 => h9) rfl dX5_passed_22 ?_
    refine lv_icmp_ge (tgt := 67) hx hb dX5_passed_25 (by decide) (fun _ => ?_) (fun c_4 => absurd (by decide) c_4)
    refine lv_iload_n hx hb dX5_passed_67 rfl (lv_at hl 1 rfl) ?_
    exact W.iret (v := 0) hx hb hr (fun t ht hW => ⟨_, rfl, (by simp only [sp_X_passed, if_neg c_2]), ht⟩) (fun _ h9 => absurd h9 List.not_mem_nil) dX5_passed_68
  · skip
    refine lv_iconst (v := (-1)) hx hb dX5_passed_9 (by decide) ?_
    exact W.iret (v := (-1)) hx hb hr (fun t ht hW => ⟨_, rfl, (by simp only [sp_X_passed, if_pos c_2]), ht⟩) (fun _ h9 => absurd h9 List.not_mem_nil) dX5_passed_10

set_option maxHeartbeats 4000000 in
set_option maxRecDepth 100000 in
theorem c_X_strike (l : Launch) (dC : Nat → ClassId) (dI : Nat → Nat → Nat) (x : Nat) (cd : Nat) (rd : Nat) (tp : Nat) (fo : Nat) (qu : Nat) (sh : Nat) (vs : Nat) (pa : Nat) (pb : Nat) (c1 : Int32) (c2 : Int32) : Met l yX5_strike wsX5_strike ({ frames := 1, cells := 0, slots := 0, locals := 21 }) (va_Pc [.ref x, .int c1, .int c2] (PS dC dI [(x, .inr (10, [.ref cd, .int 0, .ref rd, .int 0, .ref tp, .ref fo, .int 10, .ref qu, .int 0, .int 0, .ref sh, .ref vs, .ref pa, .ref pb]))] [])) (vp_Si (fun r => r = (-1))) 0 0 (fun _ => False) := by
  refine Met.ofW (cc := cX5_strike) (maxL := 5) (ret := (some .int)) (by decide) rfl ?_
  intro p e s m args below meth c s₁ B hml hv
  obtain ⟨rfl, hP, hK, hF⟩ := hv
  have hx := B.exec
  have hb := B.bytes
  have hr := B.returns
  have hts := atoms_spec (ws := wsX5_strike) B.pre
  have hown : s.vm.findClass RX5 = some m.cls := findClass_of_methodNamed B.named
  have hlocks := B.notSynchronized
  have hl := lv_entry ([.ref x, .int c1, .int c2]) (n := 5) (Nat.le_of_ble_eq_true rfl)
  rw [lg_entry_eq]
  generalize (lg_sl ([.ref x, .int c1, .int c2]) ++ List.replicate (5 - (lg_sl ([.ref x, .int c1, .int c2])).length) Slot.unset).toArray = ls at hl ⊢
  have hl : lv_has ls 5 [(0, .ref x), (1, .int c1), (2, .int c2)] := hl
  refine lv_aload_n hx hb dX5_strike_0 rfl (lv_at hl 0 rfl) ?_
  refine lv_iload_n hx hb dX5_strike_1 rfl (lv_at hl 1 rfl) ?_
  refine va_csq (va_Run.run (va_runV (As := [.int c1]) (rest := []) ⟨hx, hb, hml, hown, hts⟩ (c_X_find l dC dI x cd rd tp fo qu sh vs pa pb c1) (cwV 1 hts gX5_strike_X5_find rfl rfl rfl (by decide +kernel) ⟨Nat.le_of_ble_eq_true rfl, Nat.le_of_ble_eq_true rfl⟩) ⟨PS_blind, va_recv hK hP (ci := 10) (q0 := 0) rfl rfl, PS_pre hP hK hF⟩ rfl rfl hl.1 rfl (lv_room (Nat.le_of_ble_eq_true rfl)) dX5_strike_2 ⟨Nat.le_of_ble_eq_true rfl, Nat.le_of_ble_eq_true rfl⟩)) (fun r_1 hr_1 => ?_)
  subst hr_1
  refine W.eq (g2 := F0 m 5 ls [.null]) rfl ?_
  refine lv_astore_nN (lv' := [(3, .null), (0, .ref x), (1, .int c1), (2, .int c2)]) hx hb dX5_strike_5 rfl hl (by decide) rfl (fun ls hl => ?_)
  refine lv_aload_nN hx hb dX5_strike_6 rfl (lv_at hl 0 rfl) ?_
  refine lv_ifnonnullN hx hb dX5_strike_7 ?_
  refine lv_iconst (v := (-1)) hx hb dX5_strike_10 (by decide) ?_
  exact W.iret (v := (-1)) hx hb hr (fun t ht hW => ⟨_, rfl, rfl, ht⟩) (fun _ h9 => absurd h9 List.not_mem_nil) dX5_strike_11

set_option maxHeartbeats 4000000 in
set_option maxRecDepth 100000 in
theorem c_X_ifStruck (l : Launch) (dC : Nat → ClassId) (dI : Nat → Nat → Nat) (x : Nat) (cd : Nat) (rd : Nat) (tp : Nat) (fo : Nat) (qu : Nat) (sh : Nat) (vs : Nat) (pa : Nat) (pb : Nat) (c1 : Int32) : Met l yX5_ifStruck wsX5_ifStruck ({ frames := 1, cells := 0, slots := 0, locals := 21 }) (va_Pc [.ref x, .int c1] (PS dC dI [(x, .inr (10, [.ref cd, .int 0, .ref rd, .int 0, .ref tp, .ref fo, .int 10, .ref qu, .int 0, .int 0, .ref sh, .ref vs, .ref pa, .ref pb]))] [])) (vp_Si (fun r => r = (-1))) 0 0 (fun _ => False) := by
  refine Met.ofW (cc := cX5_ifStruck) (maxL := 4) (ret := (some .int)) (by decide) rfl ?_
  intro p e s m args below meth c s₁ B hml hv
  obtain ⟨rfl, hP, hK, hF⟩ := hv
  have hx := B.exec
  have hb := B.bytes
  have hr := B.returns
  have hts := atoms_spec (ws := wsX5_ifStruck) B.pre
  have hown : s.vm.findClass RX5 = some m.cls := findClass_of_methodNamed B.named
  have hlocks := B.notSynchronized
  have hl := lv_entry ([.ref x, .int c1]) (n := 4) (Nat.le_of_ble_eq_true rfl)
  rw [lg_entry_eq]
  generalize (lg_sl ([.ref x, .int c1]) ++ List.replicate (4 - (lg_sl ([.ref x, .int c1])).length) Slot.unset).toArray = ls at hl ⊢
  have hl : lv_has ls 4 [(0, .ref x), (1, .int c1)] := hl
  refine lv_aload_n hx hb dX5_ifStruck_0 rfl (lv_at hl 0 rfl) ?_
  refine lv_iload_n hx hb dX5_ifStruck_1 rfl (lv_at hl 1 rfl) ?_
  refine va_csq (va_Run.run (va_runV (As := [.int c1]) (rest := []) ⟨hx, hb, hml, hown, hts⟩ (c_X_find l dC dI x cd rd tp fo qu sh vs pa pb c1) (cwV 1 hts gX5_ifStruck_X5_find rfl rfl rfl (by decide +kernel) ⟨Nat.le_of_ble_eq_true rfl, Nat.le_of_ble_eq_true rfl⟩) ⟨PS_blind, va_recv hK hP (ci := 10) (q0 := 0) rfl rfl, PS_pre hP hK hF⟩ rfl rfl hl.1 rfl (lv_room (Nat.le_of_ble_eq_true rfl)) dX5_ifStruck_2 ⟨Nat.le_of_ble_eq_true rfl, Nat.le_of_ble_eq_true rfl⟩)) (fun r_1 hr_1 => ?_)
  subst hr_1
  refine W.eq (g2 := F0 m 5 ls [.null]) rfl ?_
  refine lv_ifnonnullN hx hb dX5_ifStruck_5 ?_
  refine lv_iconst (v := (-1)) hx hb dX5_ifStruck_8 (by decide) ?_
  exact W.iret (v := (-1)) hx hb hr (fun t ht hW => ⟨_, rfl, rfl, ht⟩) (fun _ h9 => absurd h9 List.not_mem_nil) dX5_ifStruck_9

set_option maxHeartbeats 4000000 in
set_option maxRecDepth 100000 in
theorem c_X_cell (l : Launch) (dC : Nat → ClassId) (dI : Nat → Nat → Nat) (x : Nat) (cd : Nat) (rd : Nat) (tp : Nat) (fo : Nat) (qu : Nat) (sh : Nat) (vs : Nat) (pa : Nat) (pb : Nat) (c1 : Int32) (c2 : Int32) : Met l yX5_cell wsX5_cell ({ frames := 1, cells := 0, slots := 0, locals := 21 }) (va_Pc [.ref x, .int c1, .int c2] (PS dC dI [(x, .inr (10, [.ref cd, .int 0, .ref rd, .int 0, .ref tp, .ref fo, .int 10, .ref qu, .int 0, .int 0, .ref sh, .ref vs, .ref pa, .ref pb]))] [])) (vp_Si (fun r => r = (-5))) 0 0 (fun _ => False) := by
  refine Met.ofW (cc := cX5_cell) (maxL := 5) (ret := (some .int)) (by decide) rfl ?_
  intro p e s m args below meth c s₁ B hml hv
  obtain ⟨rfl, hP, hK, hF⟩ := hv
  have hx := B.exec
  have hb := B.bytes
  have hr := B.returns
  have hts := atoms_spec (ws := wsX5_cell) B.pre
  have hown : s.vm.findClass RX5 = some m.cls := findClass_of_methodNamed B.named
  have hlocks := B.notSynchronized
  have hl := lv_entry ([.ref x, .int c1, .int c2]) (n := 5) (Nat.le_of_ble_eq_true rfl)
  rw [lg_entry_eq]
  generalize (lg_sl ([.ref x, .int c1, .int c2]) ++ List.replicate (5 - (lg_sl ([.ref x, .int c1, .int c2])).length) Slot.unset).toArray = ls at hl ⊢
  have hl : lv_has ls 5 [(0, .ref x), (1, .int c1), (2, .int c2)] := hl
  refine lv_aload_n hx hb dX5_cell_0 rfl (lv_at hl 0 rfl) ?_
  refine lv_iload_n hx hb dX5_cell_1 rfl (lv_at hl 1 rfl) ?_
  refine va_csq (va_Run.run (va_runV (As := [.int c1]) (rest := []) ⟨hx, hb, hml, hown, hts⟩ (c_X_find l dC dI x cd rd tp fo qu sh vs pa pb c1) (cwV 1 hts gX5_cell_X5_find rfl rfl rfl (by decide +kernel) ⟨Nat.le_of_ble_eq_true rfl, Nat.le_of_ble_eq_true rfl⟩) ⟨PS_blind, va_recv hK hP (ci := 10) (q0 := 0) rfl rfl, PS_pre hP hK hF⟩ rfl rfl hl.1 rfl (lv_room (Nat.le_of_ble_eq_true rfl)) dX5_cell_2 ⟨Nat.le_of_ble_eq_true rfl, Nat.le_of_ble_eq_true rfl⟩)) (fun r_1 hr_1 => ?_)
  subst hr_1
  refine W.eq (g2 := F0 m 5 ls [.null]) rfl ?_
  refine lv_astore_nN (lv' := [(3, .null), (0, .ref x), (1, .int c1), (2, .int c2)]) hx hb dX5_cell_5 rfl hl (by decide) rfl (fun ls hl => ?_)
  refine lv_aload_nN hx hb dX5_cell_6 rfl (lv_at hl 0 rfl) ?_
  refine lv_ifnonnullN hx hb dX5_cell_7 ?_
  refine lv_bipush (v := (-5)) hx hb dX5_cell_10 (by decide) ?_
  exact W.iret (v := (-5)) hx hb hr (fun t ht hW => ⟨_, rfl, rfl, ht⟩) (fun _ h9 => absurd h9 List.not_mem_nil) dX5_cell_12

set_option maxHeartbeats 4000000 in
set_option maxRecDepth 100000 in
theorem c_X_kin (l : Launch) (dC : Nat → ClassId) (dI : Nat → Nat → Nat) (x : Nat) (cd : Nat) (rd : Nat) (tp : Nat) (fo : Nat) (qu : Nat) (sh : Nat) (vs : Nat) (pa : Nat) (pb : Nat) (c1 : Int32) (c2 : Int32) : Met l yX5_kin wsX5_kin ({ frames := 1, cells := 0, slots := 0, locals := 21 }) (va_Pc [.ref x, .int c1, .int c2] (PS dC dI [(x, .inr (10, [.ref cd, .int 0, .ref rd, .int 0, .ref tp, .ref fo, .int 10, .ref qu, .int 0, .int 0, .ref sh, .ref vs, .ref pa, .ref pb]))] [])) (vp_Si (fun r => r = (-1))) 0 0 (fun _ => False) := by
  refine Met.ofW (cc := cX5_kin) (maxL := 5) (ret := (some .int)) (by decide) rfl ?_
  intro p e s m args below meth c s₁ B hml hv
  obtain ⟨rfl, hP, hK, hF⟩ := hv
  have hx := B.exec
  have hb := B.bytes
  have hr := B.returns
  have hts := atoms_spec (ws := wsX5_kin) B.pre
  have hown : s.vm.findClass RX5 = some m.cls := findClass_of_methodNamed B.named
  have hlocks := B.notSynchronized
  have hl := lv_entry ([.ref x, .int c1, .int c2]) (n := 5) (Nat.le_of_ble_eq_true rfl)
  rw [lg_entry_eq]
  generalize (lg_sl ([.ref x, .int c1, .int c2]) ++ List.replicate (5 - (lg_sl ([.ref x, .int c1, .int c2])).length) Slot.unset).toArray = ls at hl ⊢
  have hl : lv_has ls 5 [(0, .ref x), (1, .int c1), (2, .int c2)] := hl
  refine lv_aload_n hx hb dX5_kin_0 rfl (lv_at hl 0 rfl) ?_
  refine lv_iload_n hx hb dX5_kin_1 rfl (lv_at hl 1 rfl) ?_
  refine va_csq (va_Run.run (va_runV (As := [.int c1]) (rest := []) ⟨hx, hb, hml, hown, hts⟩ (c_X_find l dC dI x cd rd tp fo qu sh vs pa pb c1) (cwV 1 hts gX5_kin_X5_find rfl rfl rfl (by decide +kernel) ⟨Nat.le_of_ble_eq_true rfl, Nat.le_of_ble_eq_true rfl⟩) ⟨PS_blind, va_recv hK hP (ci := 10) (q0 := 0) rfl rfl, PS_pre hP hK hF⟩ rfl rfl hl.1 rfl (lv_room (Nat.le_of_ble_eq_true rfl)) dX5_kin_2 ⟨Nat.le_of_ble_eq_true rfl, Nat.le_of_ble_eq_true rfl⟩)) (fun r_1 hr_1 => ?_)
  subst hr_1
  refine W.eq (g2 := F0 m 5 ls [.null]) rfl ?_
  refine lv_astore_nN (lv' := [(3, .null), (0, .ref x), (1, .int c1), (2, .int c2)]) hx hb dX5_kin_5 rfl hl (by decide) rfl (fun ls hl => ?_)
  refine lv_aload_n hx hb dX5_kin_6 rfl (lv_at hl 1 rfl) ?_
  refine lv_iload_n hx hb dX5_kin_7 rfl (lv_at hl 3 rfl) ?_
  refine va_csq (va_Run.run (va_runV (As := [.int c2]) (rest := []) ⟨hx, hb, hml, hown, hts⟩ (c_X_find l dC dI x cd rd tp fo qu sh vs pa pb c2) (cwV 1 hts gX5_kin_X5_find rfl rfl rfl (by decide +kernel) ⟨Nat.le_of_ble_eq_true rfl, Nat.le_of_ble_eq_true rfl⟩) ⟨PS_blind, va_recv hK hP (ci := 10) (q0 := 0) rfl rfl, PS_pre hP hK hF⟩ rfl rfl hl.1 rfl (lv_room (Nat.le_of_ble_eq_true rfl)) dX5_kin_8 ⟨Nat.le_of_ble_eq_true rfl, Nat.le_of_ble_eq_true rfl⟩)) (fun r_2 hr_2 => ?_)
  subst hr_2
  refine W.eq (g2 := F0 m 11 ls [.null]) rfl ?_
  refine lv_astoreN (lv' := [(4, .null), (3, .null), (0, .ref x), (1, .int c1), (2, .int c2)]) hx hb dX5_kin_11 hl (by decide) rfl (fun ls hl => ?_)
  refine lv_aload_nN hx hb dX5_kin_13 rfl (lv_at hl 1 rfl) ?_
  refine lv_ifnullN (tgt := 22) hx hb dX5_kin_14 (by decide) ?_
  refine lv_iconst (v := (-1)) hx hb dX5_kin_22 (by decide) ?_
  exact W.iret (v := (-1)) hx hb hr (fun t ht hW => ⟨_, rfl, rfl, ht⟩) (fun _ h9 => absurd h9 List.not_mem_nil) dX5_kin_23

set_option maxHeartbeats 4000000 in
set_option maxRecDepth 100000 in
theorem c_X_near (l : Launch) (dC : Nat → ClassId) (dI : Nat → Nat → Nat) (x : Nat) (cd : Nat) (rd : Nat) (tp : Nat) (fo : Nat) (qu : Nat) (sh : Nat) (vs : Nat) (pa : Nat) (pb : Nat) : Met l yX5_near wsX5_near ({ frames := 0, cells := 0, slots := 0, locals := 0 }) (va_Pc [.ref x] (PS dC dI [(x, .inr (10, [.ref cd, .int 0, .ref rd, .int 0, .ref tp, .ref fo, .int 10, .ref qu, .int 0, .int 0, .ref sh, .ref vs, .ref pa, .ref pb]))] [])) (vp_Si (fun r => r = 0)) 0 0 (fun _ => False) := by
  refine Met.ofW (cc := cX5_near) (maxL := 4) (ret := (some .int)) (by decide) rfl ?_
  intro p e s m args below meth c s₁ B hml hv
  obtain ⟨rfl, hP, hK, hF⟩ := hv
  have hx := B.exec
  have hb := B.bytes
  have hr := B.returns
  have hts := atoms_spec (ws := wsX5_near) B.pre
  have hown : s.vm.findClass RX5 = some m.cls := findClass_of_methodNamed B.named
  have hlocks := B.notSynchronized
  have hl := lv_entry ([.ref x]) (n := 4) (Nat.le_of_ble_eq_true rfl)
  rw [lg_entry_eq]
  generalize (lg_sl ([.ref x]) ++ List.replicate (4 - (lg_sl ([.ref x])).length) Slot.unset).toArray = ls at hl ⊢
  have hl : lv_has ls 4 [(0, .ref x)] := hl
  refine lv_iconst (v := 0) hx hb dX5_near_0 (by decide) ?_
  refine lv_istore_n (lv' := [(1, .int 0), (0, .ref x)]) hx hb dX5_near_1 rfl hl (by decide) rfl (fun ls hl => ?_)
  refine lv_iconst (v := 0) hx hb dX5_near_2 (by decide) ?_
  refine lv_istore_n (lv' := [(2, .int 0), (1, .int 0), (0, .ref x)]) hx hb dX5_near_3 rfl hl (by decide) rfl (fun ls hl => ?_)
  refine lv_iload_n hx hb dX5_near_4 rfl (lv_at hl 0 rfl) ?_
  refine lv_aload_n hx hb dX5_near_5 rfl (lv_at hl 2 rfl) ?_
  refine va_get (D := (dC, dI)) (ci := 10) (v := .int 0) (C := RX5) (T := TX5) (N := 14) hx hb hts (fun _ h9 => List.mem_cons_of_mem _ (List.mem_append_left _ (List.mem_append_right _ (h9)))) hown hK hP 0 rfl rfl 1 (by decide) (hts (.fieldLink RX5 15 "ExamHalls" "candidateCount" "I") (List.mem_of_getElem? (i := 1) rfl)) (fun _ h9 => h9) rfl dX5_near_6 ?_
  refine lv_icmp_ge (tgt := 56) hx hb dX5_near_9 (by decide) (fun _ => ?_) (fun c_1 => absurd (by decide) c_1)
  refine lv_iload_n hx hb dX5_near_56 rfl (lv_at hl 1 rfl) ?_
  exact W.iret (v := 0) hx hb hr (fun t ht hW => ⟨_, rfl, rfl, ht⟩) (fun _ h9 => absurd h9 List.not_mem_nil) dX5_near_57

set_option maxHeartbeats 4000000 in
set_option maxRecDepth 100000 in
theorem c_X_essayCount (l : Launch) (dC : Nat → ClassId) (dI : Nat → Nat → Nat) (x : Nat) (cd : Nat) (rd : Nat) (tp : Nat) (fo : Nat) (qu : Nat) (sh : Nat) (vs : Nat) (pa : Nat) (pb : Nat) : Met l yX5_essayCount wsX5_essayCount ({ frames := 0, cells := 0, slots := 0, locals := 0 }) (va_Pc [.ref x] (PS dC dI [(x, .inr (10, [.ref cd, .int 0, .ref rd, .int 0, .ref tp, .ref fo, .int 10, .ref qu, .int 0, .int 0, .ref sh, .ref vs, .ref pa, .ref pb]))] [])) (vp_Si (fun r => r = 0)) 0 0 (fun _ => False) := by
  refine Met.ofW (cc := cX5_essayCount) (maxL := 3) (ret := (some .int)) (by decide) rfl ?_
  intro p e s m args below meth c s₁ B hml hv
  obtain ⟨rfl, hP, hK, hF⟩ := hv
  have hx := B.exec
  have hb := B.bytes
  have hr := B.returns
  have hts := atoms_spec (ws := wsX5_essayCount) B.pre
  have hown : s.vm.findClass RX5 = some m.cls := findClass_of_methodNamed B.named
  have hlocks := B.notSynchronized
  have hl := lv_entry ([.ref x]) (n := 3) (Nat.le_of_ble_eq_true rfl)
  rw [lg_entry_eq]
  generalize (lg_sl ([.ref x]) ++ List.replicate (3 - (lg_sl ([.ref x])).length) Slot.unset).toArray = ls at hl ⊢
  have hl : lv_has ls 3 [(0, .ref x)] := hl
  refine lv_iconst (v := 0) hx hb dX5_essayCount_0 (by decide) ?_
  refine lv_istore_n (lv' := [(1, .int 0), (0, .ref x)]) hx hb dX5_essayCount_1 rfl hl (by decide) rfl (fun ls hl => ?_)
  refine lv_iconst (v := 0) hx hb dX5_essayCount_2 (by decide) ?_
  refine lv_istore_n (lv' := [(2, .int 0), (1, .int 0), (0, .ref x)]) hx hb dX5_essayCount_3 rfl hl (by decide) rfl (fun ls hl => ?_)
  refine lv_iload_n hx hb dX5_essayCount_4 rfl (lv_at hl 0 rfl) ?_
  refine lv_aload_n hx hb dX5_essayCount_5 rfl (lv_at hl 2 rfl) ?_
  refine va_get (D := (dC, dI)) (ci := 10) (v := .int 0) (C := RX5) (T := TX5) (N := 14) hx hb hts (fun _ h9 => List.mem_cons_of_mem _ (List.mem_append_left _ (List.mem_append_right _ (h9)))) hown hK hP 0 rfl rfl 1 (by decide) (hts (.fieldLink RX5 15 "ExamHalls" "candidateCount" "I") (List.mem_of_getElem? (i := 1) rfl)) (fun _ h9 => h9) rfl dX5_essayCount_6 ?_
  refine lv_icmp_ge (tgt := 34) hx hb dX5_essayCount_9 (by decide) (fun _ => ?_) (fun c_1 => absurd (by decide) c_1)
  refine lv_iload_n hx hb dX5_essayCount_34 rfl (lv_at hl 1 rfl) ?_
  exact W.iret (v := 0) hx hb hr (fun t ht hW => ⟨_, rfl, rfl, ht⟩) (fun _ h9 => absurd h9 List.not_mem_nil) dX5_essayCount_35

set_option maxHeartbeats 4000000 in
set_option maxRecDepth 100000 in
theorem c_X_struckCount (l : Launch) (dC : Nat → ClassId) (dI : Nat → Nat → Nat) (x : Nat) (cd : Nat) (rd : Nat) (tp : Nat) (fo : Nat) (qu : Nat) (sh : Nat) (vs : Nat) (pa : Nat) (pb : Nat) : Met l yX5_struckCount wsX5_struckCount ({ frames := 0, cells := 0, slots := 0, locals := 0 }) (va_Pc [.ref x] (PS dC dI [(x, .inr (10, [.ref cd, .int 0, .ref rd, .int 0, .ref tp, .ref fo, .int 10, .ref qu, .int 0, .int 0, .ref sh, .ref vs, .ref pa, .ref pb]))] [])) (vp_Si (fun r => r = 0)) 0 0 (fun _ => False) := by
  refine Met.ofW (cc := cX5_struckCount) (maxL := 4) (ret := (some .int)) (by decide) rfl ?_
  intro p e s m args below meth c s₁ B hml hv
  obtain ⟨rfl, hP, hK, hF⟩ := hv
  have hx := B.exec
  have hb := B.bytes
  have hr := B.returns
  have hts := atoms_spec (ws := wsX5_struckCount) B.pre
  have hown : s.vm.findClass RX5 = some m.cls := findClass_of_methodNamed B.named
  have hlocks := B.notSynchronized
  have hl := lv_entry ([.ref x]) (n := 4) (Nat.le_of_ble_eq_true rfl)
  rw [lg_entry_eq]
  generalize (lg_sl ([.ref x]) ++ List.replicate (4 - (lg_sl ([.ref x])).length) Slot.unset).toArray = ls at hl ⊢
  have hl : lv_has ls 4 [(0, .ref x)] := hl
  refine lv_iconst (v := 0) hx hb dX5_struckCount_0 (by decide) ?_
  refine lv_istore_n (lv' := [(1, .int 0), (0, .ref x)]) hx hb dX5_struckCount_1 rfl hl (by decide) rfl (fun ls hl => ?_)
  refine lv_iconst (v := 0) hx hb dX5_struckCount_2 (by decide) ?_
  refine lv_istore_n (lv' := [(2, .int 0), (1, .int 0), (0, .ref x)]) hx hb dX5_struckCount_3 rfl hl (by decide) rfl (fun ls hl => ?_)
  refine lv_iload_n hx hb dX5_struckCount_4 rfl (lv_at hl 0 rfl) ?_
  refine lv_aload_n hx hb dX5_struckCount_5 rfl (lv_at hl 2 rfl) ?_
  refine va_get (D := (dC, dI)) (ci := 10) (v := .int 0) (C := RX5) (T := TX5) (N := 14) hx hb hts (fun _ h9 => List.mem_cons_of_mem _ (List.mem_append_left _ (List.mem_append_right _ (h9)))) hown hK hP 0 rfl rfl 1 (by decide) (hts (.fieldLink RX5 15 "ExamHalls" "candidateCount" "I") (List.mem_of_getElem? (i := 1) rfl)) (fun _ h9 => h9) rfl dX5_struckCount_6 ?_
  refine lv_icmp_ge (tgt := 43) hx hb dX5_struckCount_9 (by decide) (fun _ => ?_) (fun c_1 => absurd (by decide) c_1)
  refine lv_iload_n hx hb dX5_struckCount_43 rfl (lv_at hl 1 rfl) ?_
  exact W.iret (v := 0) hx hb hr (fun t ht hW => ⟨_, rfl, rfl, ht⟩) (fun _ h9 => absurd h9 List.not_mem_nil) dX5_struckCount_44

set_option maxHeartbeats 4000000 in
set_option maxRecDepth 100000 in
theorem c_X_markCount (l : Launch) (dC : Nat → ClassId) (dI : Nat → Nat → Nat) (x : Nat) (cd : Nat) (rd : Nat) (tp : Nat) (fo : Nat) (qu : Nat) (sh : Nat) (vs : Nat) (pa : Nat) (pb : Nat) : Met l yX5_markCount wsX5_markCount ({ frames := 0, cells := 0, slots := 0, locals := 0 }) (va_Pc [.ref x] (PS dC dI [(x, .inr (10, [.ref cd, .int 0, .ref rd, .int 0, .ref tp, .ref fo, .int 10, .ref qu, .int 0, .int 0, .ref sh, .ref vs, .ref pa, .ref pb]))] [])) (vp_Si (fun r => r = 0)) 0 0 (fun _ => False) := by
  refine Met.ofW (cc := cX5_markCount) (maxL := 4) (ret := (some .int)) (by decide) rfl ?_
  intro p e s m args below meth c s₁ B hml hv
  obtain ⟨rfl, hP, hK, hF⟩ := hv
  have hx := B.exec
  have hb := B.bytes
  have hr := B.returns
  have hts := atoms_spec (ws := wsX5_markCount) B.pre
  have hown : s.vm.findClass RX5 = some m.cls := findClass_of_methodNamed B.named
  have hlocks := B.notSynchronized
  have hl := lv_entry ([.ref x]) (n := 4) (Nat.le_of_ble_eq_true rfl)
  rw [lg_entry_eq]
  generalize (lg_sl ([.ref x]) ++ List.replicate (4 - (lg_sl ([.ref x])).length) Slot.unset).toArray = ls at hl ⊢
  have hl : lv_has ls 4 [(0, .ref x)] := hl
  refine lv_iconst (v := 0) hx hb dX5_markCount_0 (by decide) ?_
  refine lv_istore_n (lv' := [(1, .int 0), (0, .ref x)]) hx hb dX5_markCount_1 rfl hl (by decide) rfl (fun ls hl => ?_)
  refine lv_iconst (v := 0) hx hb dX5_markCount_2 (by decide) ?_
  refine lv_istore_n (lv' := [(2, .int 0), (1, .int 0), (0, .ref x)]) hx hb dX5_markCount_3 rfl hl (by decide) rfl (fun ls hl => ?_)
  refine lv_iload_n hx hb dX5_markCount_4 rfl (lv_at hl 0 rfl) ?_
  refine lv_aload_n hx hb dX5_markCount_5 rfl (lv_at hl 2 rfl) ?_
  refine va_get (D := (dC, dI)) (ci := 10) (v := .int 0) (C := RX5) (T := TX5) (N := 14) hx hb hts (fun _ h9 => List.mem_cons_of_mem _ (List.mem_append_left _ (List.mem_append_right _ (h9)))) hown hK hP 0 rfl rfl 1 (by decide) (hts (.fieldLink RX5 15 "ExamHalls" "candidateCount" "I") (List.mem_of_getElem? (i := 1) rfl)) (fun _ h9 => h9) rfl dX5_markCount_6 ?_
  refine lv_icmp_ge (tgt := 39) hx hb dX5_markCount_9 (by decide) (fun _ => ?_) (fun c_1 => absurd (by decide) c_1)
  refine lv_iload_n hx hb dX5_markCount_39 rfl (lv_at hl 1 rfl) ?_
  exact W.iret (v := 0) hx hb hr (fun t ht hW => ⟨_, rfl, rfl, ht⟩) (fun _ h9 => absurd h9 List.not_mem_nil) dX5_markCount_40

set_option maxHeartbeats 4000000 in
set_option maxRecDepth 100000 in
theorem c_X_passingCount (l : Launch) (dC : Nat → ClassId) (dI : Nat → Nat → Nat) (x : Nat) (cd : Nat) (rd : Nat) (tp : Nat) (fo : Nat) (qu : Nat) (sh : Nat) (vs : Nat) (pa : Nat) (pb : Nat) : Met l yX5_passingCount wsX5_passingCount ({ frames := 0, cells := 0, slots := 0, locals := 0 }) (va_Pc [.ref x] (PS dC dI [(x, .inr (10, [.ref cd, .int 0, .ref rd, .int 0, .ref tp, .ref fo, .int 10, .ref qu, .int 0, .int 0, .ref sh, .ref vs, .ref pa, .ref pb]))] [])) (vp_Si (fun r => r = 0)) 0 0 (fun _ => False) := by
  refine Met.ofW (cc := cX5_passingCount) (maxL := 3) (ret := (some .int)) (by decide) rfl ?_
  intro p e s m args below meth c s₁ B hml hv
  obtain ⟨rfl, hP, hK, hF⟩ := hv
  have hx := B.exec
  have hb := B.bytes
  have hr := B.returns
  have hts := atoms_spec (ws := wsX5_passingCount) B.pre
  have hown : s.vm.findClass RX5 = some m.cls := findClass_of_methodNamed B.named
  have hlocks := B.notSynchronized
  have hl := lv_entry ([.ref x]) (n := 3) (Nat.le_of_ble_eq_true rfl)
  rw [lg_entry_eq]
  generalize (lg_sl ([.ref x]) ++ List.replicate (3 - (lg_sl ([.ref x])).length) Slot.unset).toArray = ls at hl ⊢
  have hl : lv_has ls 3 [(0, .ref x)] := hl
  refine lv_iconst (v := 0) hx hb dX5_passingCount_0 (by decide) ?_
  refine lv_istore_n (lv' := [(1, .int 0), (0, .ref x)]) hx hb dX5_passingCount_1 rfl hl (by decide) rfl (fun ls hl => ?_)
  refine lv_iconst (v := 0) hx hb dX5_passingCount_2 (by decide) ?_
  refine lv_istore_n (lv' := [(2, .int 0), (1, .int 0), (0, .ref x)]) hx hb dX5_passingCount_3 rfl hl (by decide) rfl (fun ls hl => ?_)
  refine lv_iload_n hx hb dX5_passingCount_4 rfl (lv_at hl 0 rfl) ?_
  refine lv_aload_n hx hb dX5_passingCount_5 rfl (lv_at hl 2 rfl) ?_
  refine va_get (D := (dC, dI)) (ci := 10) (v := .int 0) (C := RX5) (T := TX5) (N := 14) hx hb hts (fun _ h9 => List.mem_cons_of_mem _ (List.mem_append_right _ (h9))) hown hK hP 0 rfl rfl 1 (by decide) (hts (.fieldLink RX5 15 "ExamHalls" "candidateCount" "I") (List.mem_of_getElem? (i := 1) rfl)) (fun _ h9 => h9) rfl dX5_passingCount_6 ?_
  refine lv_icmp_ge (tgt := 35) hx hb dX5_passingCount_9 (by decide) (fun _ => ?_) (fun c_1 => absurd (by decide) c_1)
  refine lv_iload_n hx hb dX5_passingCount_35 rfl (lv_at hl 1 rfl) ?_
  exact W.iret (v := 0) hx hb hr (fun t ht hW => ⟨_, rfl, rfl, ht⟩) (fun _ h9 => absurd h9 List.not_mem_nil) dX5_passingCount_36
