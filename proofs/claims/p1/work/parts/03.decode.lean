set_option maxRecDepth 20000 in
theorem ggX5_init_X4_init : GoodIn wsX5_init wsX4_init := goodIn_r _ [29, 30, 2, 3, 31, 32, 33, 60, 61] (by decide +kernel) (by decide +kernel)
set_option maxRecDepth 20000 in
theorem gX5_init_X4_init_n30 : GoodIn wsX5_init (wsX4_init) := ggX5_init_X4_init
set_option maxRecDepth 20000 in
theorem ggX5_init_X2_init : GoodIn wsX5_init wsX2_init := goodIn_r _ [35, 36, 2, 3, 37, 19, 38, 39, 40, 41, 42, 43, 44, 45, 62, 63, 64, 65, 66, 67, 68, 69] (by decide +kernel) (by decide +kernel)
set_option maxRecDepth 20000 in
theorem gX5_init_X2_init_n37 : GoodIn wsX5_init (wsX2_init) := ggX5_init_X2_init
set_option maxRecDepth 20000 in
theorem ggX5_candidate_X5_isWithin : GoodIn wsX5_candidate wsX5_isWithin := goodIn_r _ [9] (by decide +kernel) (by decide +kernel)
set_option maxRecDepth 20000 in
theorem gX5_candidate_X5_isWithin : GoodIn wsX5_candidate (va_wsS RX5 68 yX5_isWithin wsX5_isWithin) := goodIn_app (goodIn_of _ (by decide +kernel)) ggX5_candidate_X5_isWithin
set_option maxRecDepth 20000 in
theorem ggX5_candidate_X0_init : GoodIn wsX5_candidate wsX0_init := goodIn_r _ [11, 12, 13, 14, 15, 16, 17, 18, 19, 20, 21, 22, 23, 24, 25, 40, 41, 42, 43, 44, 45, 46, 47, 48, 49] (by decide +kernel) (by decide +kernel)
set_option maxRecDepth 20000 in
theorem gX5_candidate_X0_init_n72 : GoodIn wsX5_candidate (wsX0_init) := ggX5_candidate_X0_init
set_option maxRecDepth 20000 in
theorem ggX5_essay_X5_find : GoodIn wsX5_essay wsX5_find := goodIn_r _ [9, 10, 11, 59, 60, 61, 62, 63, 64, 65, 66, 67, 68, 69, 70, 71, 72] (by decide +kernel) (by decide +kernel)
set_option maxRecDepth 20000 in
theorem gX5_essay_X5_find : GoodIn wsX5_essay (wsV RX5 86 RX5 yX5_find wsX5_find) := goodIn_app (goodIn_of _ (by decide +kernel)) ggX5_essay_X5_find
set_option maxRecDepth 20000 in
theorem ggX5_legs_X5_textOf : GoodIn wsX5_legs wsX5_textOf := goodIn_r _ [5, 6, 7, 8, 4, 9, 10, 11, 28, 29, 30, 31, 32, 33, 34, 35, 36, 37, 38, 39, 40, 41, 42, 43, 44, 45, 46, 47, 48, 49, 50, 51] (by decide +kernel) (by decide +kernel)
set_option maxRecDepth 20000 in
theorem gX5_legs_X5_textOf : GoodIn wsX5_legs (wsV RX5 111 RX5 yX5_textOf wsX5_textOf) := goodIn_app (goodIn_of _ (by decide +kernel)) ggX5_legs_X5_textOf
set_option maxRecDepth 20000 in
theorem ggX5_word_X5_textOf : GoodIn wsX5_word wsX5_textOf := goodIn_r _ [5, 6, 7, 8, 4, 9, 10, 11, 23, 24, 25, 26, 27, 28, 29, 30, 31, 32, 33, 34, 35, 36, 37, 38, 39, 40, 41, 42, 43, 44, 45, 46] (by decide +kernel) (by decide +kernel)
set_option maxRecDepth 20000 in
theorem gX5_word_X5_textOf : GoodIn wsX5_word (wsV RX5 111 RX5 yX5_textOf wsX5_textOf) := goodIn_app (goodIn_of _ (by decide +kernel)) ggX5_word_X5_textOf
set_option maxRecDepth 20000 in
theorem ggX5_form_X5_isWithin : GoodIn wsX5_form wsX5_isWithin := goodIn_r _ [5] (by decide +kernel) (by decide +kernel)
set_option maxRecDepth 20000 in
theorem gX5_form_X5_isWithin : GoodIn wsX5_form (va_wsS RX5 68 yX5_isWithin wsX5_isWithin) := goodIn_app (goodIn_of _ (by decide +kernel)) ggX5_form_X5_isWithin
set_option maxRecDepth 20000 in
theorem ggX5_measure_X5_isWithin : GoodIn wsX5_measure wsX5_isWithin := goodIn_r _ [5] (by decide +kernel) (by decide +kernel)
set_option maxRecDepth 20000 in
theorem gX5_measure_X5_isWithin : GoodIn wsX5_measure (va_wsS RX5 68 yX5_isWithin wsX5_isWithin) := goodIn_app (goodIn_of _ (by decide +kernel)) ggX5_measure_X5_isWithin
set_option maxRecDepth 20000 in
theorem ggX5_measure_X2_setMeasure : GoodIn wsX5_measure wsX2_setMeasure := goodIn_r _ [9, 10, 11, 26, 27, 28, 29, 30, 31, 32, 33] (by decide +kernel) (by decide +kernel)
set_option maxRecDepth 20000 in
theorem gX5_measure_X2_setMeasure_n130 : GoodIn wsX5_measure (wsX2_setMeasure) := ggX5_measure_X2_setMeasure
set_option maxRecDepth 20000 in
theorem ggX5_parallel_X5_isWithin : GoodIn wsX5_parallel wsX5_isWithin := goodIn_r _ [5] (by decide +kernel) (by decide +kernel)
set_option maxRecDepth 20000 in
theorem gX5_parallel_X5_isWithin : GoodIn wsX5_parallel (va_wsS RX5 68 yX5_isWithin wsX5_isWithin) := goodIn_app (goodIn_of _ (by decide +kernel)) ggX5_parallel_X5_isWithin
set_option maxRecDepth 20000 in
theorem ggX5_parallel_X2_addParallel : GoodIn wsX5_parallel wsX2_addParallel := goodIn_r _ [9, 10, 11, 12, 27, 28, 29, 30, 31, 32, 33, 34] (by decide +kernel) (by decide +kernel)
set_option maxRecDepth 20000 in
theorem gX5_parallel_X2_addParallel_n137 : GoodIn wsX5_parallel (wsX2_addParallel) := ggX5_parallel_X2_addParallel
set_option maxRecDepth 20000 in
theorem ggX5_judge_X5_textOf : GoodIn wsX5_judge wsX5_textOf := goodIn_r _ [6, 7, 8, 9, 5, 10, 11, 12, 68, 69, 70, 71, 72, 73, 74, 75, 76, 77, 54, 55, 56, 57, 58, 59, 60, 61, 62, 63, 64, 65, 66, 67] (by decide +kernel) (by decide +kernel)
set_option maxRecDepth 20000 in
theorem gX5_judge_X5_textOf : GoodIn wsX5_judge (wsV RX5 111 RX5 yX5_textOf wsX5_textOf) := goodIn_app (goodIn_of _ (by decide +kernel)) ggX5_judge_X5_textOf
set_option maxRecDepth 20000 in
theorem ggX5_like_X5_textOf : GoodIn wsX5_like wsX5_textOf := goodIn_r _ [5, 6, 7, 8, 4, 9, 10, 11, 45, 46, 47, 48, 49, 50, 51, 52, 53, 54, 55, 56, 57, 58, 59, 60, 61, 62, 63, 64, 65, 66, 67, 68] (by decide +kernel) (by decide +kernel)
set_option maxRecDepth 20000 in
theorem gX5_like_X5_textOf : GoodIn wsX5_like (wsV RX5 111 RX5 yX5_textOf wsX5_textOf) := goodIn_app (goodIn_of _ (by decide +kernel)) ggX5_like_X5_textOf
set_option maxRecDepth 20000 in
theorem ggX5_number_X5_find : GoodIn wsX5_number wsX5_find := goodIn_r _ [5, 6, 7, 25, 26, 27, 28, 29, 30, 31, 32, 33, 34, 35, 36, 37, 38] (by decide +kernel) (by decide +kernel)
set_option maxRecDepth 20000 in
theorem gX5_number_X5_find : GoodIn wsX5_number (wsV RX5 86 RX5 yX5_find wsX5_find) := goodIn_app (goodIn_of _ (by decide +kernel)) ggX5_number_X5_find
set_option maxRecDepth 20000 in
theorem ggX5_sees_X5_find : GoodIn wsX5_sees wsX5_find := goodIn_r _ [5, 6, 7, 16, 17, 18, 19, 20, 21, 22, 23, 24, 25, 26, 27, 28, 29] (by decide +kernel) (by decide +kernel)
set_option maxRecDepth 20000 in
theorem gX5_sees_X5_find : GoodIn wsX5_sees (wsV RX5 86 RX5 yX5_find wsX5_find) := goodIn_app (goodIn_of _ (by decide +kernel)) ggX5_sees_X5_find
set_option maxRecDepth 20000 in
theorem ggX5_opens_X5_isWithin : GoodIn wsX5_opens wsX5_isWithin := goodIn_r _ [4] (by decide +kernel) (by decide +kernel)
set_option maxRecDepth 20000 in
theorem gX5_opens_X5_isWithin : GoodIn wsX5_opens (va_wsS RX5 68 yX5_isWithin wsX5_isWithin) := goodIn_app (goodIn_of _ (by decide +kernel)) ggX5_opens_X5_isWithin
set_option maxRecDepth 20000 in
theorem ggX5_opens_X5_openedBy : GoodIn wsX5_opens wsX5_openedBy := goodIn_r _ [8, 9, 10, 11, 12, 3, 13, 14, 15, 16, 17, 18, 19, 20, 21, 22, 23, 24, 25, 26, 27, 28, 29, 30, 31, 32, 33, 34, 35, 36, 37, 38, 39, 40, 41, 42, 43] (by decide +kernel) (by decide +kernel)
set_option maxRecDepth 20000 in
theorem gX5_opens_X5_openedBy : GoodIn wsX5_opens (wsV RX5 176 RX5 yX5_openedBy wsX5_openedBy) := goodIn_app (goodIn_of _ (by decide +kernel)) ggX5_opens_X5_openedBy
set_option maxRecDepth 20000 in
theorem ggX5_reader_X5_isWithin : GoodIn wsX5_reader wsX5_isWithin := goodIn_r _ [9] (by decide +kernel) (by decide +kernel)
set_option maxRecDepth 20000 in
theorem gX5_reader_X5_isWithin : GoodIn wsX5_reader (va_wsS RX5 68 yX5_isWithin wsX5_isWithin) := goodIn_app (goodIn_of _ (by decide +kernel)) ggX5_reader_X5_isWithin
set_option maxRecDepth 20000 in
theorem ggX5_reader_X3_init : GoodIn wsX5_reader wsX3_init := goodIn_r _ [11, 12, 13, 14, 15, 16, 17, 32, 33, 34] (by decide +kernel) (by decide +kernel)
set_option maxRecDepth 20000 in
theorem gX5_reader_X3_init_n184 : GoodIn wsX5_reader (wsX3_init) := ggX5_reader_X3_init
set_option maxRecDepth 20000 in
theorem ggX5_apart_X5_isWithin : GoodIn wsX5_apart wsX5_isWithin := goodIn_r _ [5] (by decide +kernel) (by decide +kernel)
set_option maxRecDepth 20000 in
theorem gX5_apart_X5_isWithin : GoodIn wsX5_apart (va_wsS RX5 68 yX5_isWithin wsX5_isWithin) := goodIn_app (goodIn_of _ (by decide +kernel)) ggX5_apart_X5_isWithin
set_option maxRecDepth 20000 in
theorem ggX5_reading_X5_find : GoodIn wsX5_reading wsX5_find := goodIn_r _ [5, 6, 7, 25, 26, 27, 28, 29, 30, 31, 32, 33, 34, 35, 36, 37, 38] (by decide +kernel) (by decide +kernel)
set_option maxRecDepth 20000 in
theorem gX5_reading_X5_find : GoodIn wsX5_reading (wsV RX5 86 RX5 yX5_find wsX5_find) := goodIn_app (goodIn_of _ (by decide +kernel)) ggX5_reading_X5_find
set_option maxRecDepth 20000 in
theorem ggX5_mark_X5_find : GoodIn wsX5_mark wsX5_find := goodIn_r _ [5, 6, 7, 38, 39, 40, 41, 42, 43, 44, 45, 46, 47, 48, 49, 50, 51] (by decide +kernel) (by decide +kernel)
set_option maxRecDepth 20000 in
theorem gX5_mark_X5_find : GoodIn wsX5_mark (wsV RX5 86 RX5 yX5_find wsX5_find) := goodIn_app (goodIn_of _ (by decide +kernel)) ggX5_mark_X5_find
set_option maxRecDepth 20000 in
theorem ggX5_load_X5_findReader : GoodIn wsX5_load wsX5_findReader := goodIn_r _ [5, 6, 7, 11, 12, 13, 14, 15, 16, 17, 18, 19, 20, 21, 22, 23, 24] (by decide +kernel) (by decide +kernel)
set_option maxRecDepth 20000 in
theorem gX5_load_X5_findReader : GoodIn wsX5_load (wsV RX5 208 RX5 yX5_findReader wsX5_findReader) := goodIn_app (goodIn_of _ (by decide +kernel)) ggX5_load_X5_findReader
set_option maxRecDepth 20000 in
theorem ggX5_shift_X5_findReader : GoodIn wsX5_shift wsX5_findReader := goodIn_r _ [5, 6, 7, 36, 37, 38, 39, 40, 41, 42, 43, 44, 45, 46, 47, 48, 49] (by decide +kernel) (by decide +kernel)
set_option maxRecDepth 20000 in
theorem gX5_shift_X5_findReader : GoodIn wsX5_shift (wsV RX5 208 RX5 yX5_findReader wsX5_findReader) := goodIn_app (goodIn_of _ (by decide +kernel)) ggX5_shift_X5_findReader
set_option maxRecDepth 20000 in
theorem ggX5_score_X5_find : GoodIn wsX5_score wsX5_find := goodIn_r _ [5, 6, 7, 77, 78, 79, 80, 81, 82, 83, 84, 85, 86, 87, 88, 89, 90] (by decide +kernel) (by decide +kernel)
set_option maxRecDepth 20000 in
theorem gX5_score_X5_find : GoodIn wsX5_score (wsV RX5 86 RX5 yX5_find wsX5_find) := goodIn_app (goodIn_of _ (by decide +kernel)) ggX5_score_X5_find
set_option maxRecDepth 20000 in
theorem ggX5_quota_X5_isWithin : GoodIn wsX5_quota wsX5_isWithin := goodIn_r _ [5] (by decide +kernel) (by decide +kernel)
set_option maxRecDepth 20000 in
theorem gX5_quota_X5_isWithin : GoodIn wsX5_quota (va_wsS RX5 68 yX5_isWithin wsX5_isWithin) := goodIn_app (goodIn_of _ (by decide +kernel)) ggX5_quota_X5_isWithin
set_option maxRecDepth 20000 in
theorem ggX5_rule_X5_isWithin : GoodIn wsX5_rule wsX5_isWithin := goodIn_r _ [6] (by decide +kernel) (by decide +kernel)
set_option maxRecDepth 20000 in
theorem gX5_rule_X5_isWithin : GoodIn wsX5_rule (va_wsS RX5 68 yX5_isWithin wsX5_isWithin) := goodIn_app (goodIn_of _ (by decide +kernel)) ggX5_rule_X5_isWithin
set_option maxRecDepth 20000 in
theorem ggX5_passes_X5_find : GoodIn wsX5_passes wsX5_find := goodIn_r _ [6, 7, 8, 138, 139, 140, 141, 142, 143, 144, 145, 146, 147, 148, 149, 150, 151] (by decide +kernel) (by decide +kernel)
set_option maxRecDepth 20000 in
theorem gX5_passes_X5_find : GoodIn wsX5_passes (wsV RX5 86 RX5 yX5_find wsX5_find) := goodIn_app (goodIn_of _ (by decide +kernel)) ggX5_passes_X5_find
set_option maxRecDepth 20000 in
theorem ggX5_passed_X5_isWithin : GoodIn wsX5_passed wsX5_isWithin := goodIn_r _ [6] (by decide +kernel) (by decide +kernel)
set_option maxRecDepth 20000 in
theorem gX5_passed_X5_isWithin : GoodIn wsX5_passed (va_wsS RX5 68 yX5_isWithin wsX5_isWithin) := goodIn_app (goodIn_of _ (by decide +kernel)) ggX5_passed_X5_isWithin
set_option maxRecDepth 20000 in
theorem ggX5_passed_X5_settle : GoodIn wsX5_passed wsX5_settle := goodIn_r _ [10, 1, 11, 12, 2, 13, 14, 15, 5, 16, 17, 18, 19, 20, 21, 22, 23, 24, 25, 26, 27, 28, 29, 30, 31, 32, 33, 34, 35, 36, 37, 38, 39, 40, 41, 42, 43, 44, 45, 46, 47, 48, 49, 50, 51, 52, 53, 54, 55, 56, 57, 58, 59, 60, 61, 62, 63, 64, 65, 66, 4, 6, 67, 68, 69, 70, 71, 72, 73, 74, 75, 76, 77, 78, 79, 80, 81, 82, 83, 84, 85, 86, 87, 88, 89, 90, 91, 92, 93, 94, 95, 96, 97, 98, 99, 100, 101, 102, 103, 104, 105, 106, 107, 108, 109, 110, 111, 112, 113, 114, 115, 116, 117, 118, 119, 120, 121, 122, 123, 124, 125, 126, 127, 3, 128, 129, 130, 131, 132, 133, 134, 135, 136, 137, 138, 139, 140, 141, 142, 143, 144, 145, 146, 147, 148, 149, 150, 151, 152, 153, 154, 155, 156, 157, 158, 159, 160, 161, 162, 163, 164, 165, 166, 167, 168] (by decide +kernel) (by decide +kernel)
set_option maxRecDepth 20000 in
theorem gX5_passed_X5_settle : GoodIn wsX5_passed (wsV RX5 231 RX5 yX5_settle wsX5_settle) := goodIn_app (goodIn_of _ (by decide +kernel)) ggX5_passed_X5_settle
set_option maxRecDepth 20000 in
theorem ggX5_strike_X5_find : GoodIn wsX5_strike wsX5_find := goodIn_r _ [5, 6, 7, 21, 22, 23, 24, 25, 26, 27, 28, 29, 30, 31, 32, 33, 34] (by decide +kernel) (by decide +kernel)
set_option maxRecDepth 20000 in
theorem gX5_strike_X5_find : GoodIn wsX5_strike (wsV RX5 86 RX5 yX5_find wsX5_find) := goodIn_app (goodIn_of _ (by decide +kernel)) ggX5_strike_X5_find
set_option maxRecDepth 20000 in
theorem ggX5_ifStruck_X5_find : GoodIn wsX5_ifStruck wsX5_find := goodIn_r _ [8, 1, 9, 135, 136, 137, 138, 139, 140, 141, 142, 143, 144, 145, 146, 147, 148] (by decide +kernel) (by decide +kernel)
set_option maxRecDepth 20000 in
theorem gX5_ifStruck_X5_find : GoodIn wsX5_ifStruck (wsV RX5 86 RX5 yX5_find wsX5_find) := goodIn_app (goodIn_of _ (by decide +kernel)) ggX5_ifStruck_X5_find
set_option maxRecDepth 20000 in
theorem ggX5_cell_X5_find : GoodIn wsX5_cell wsX5_find := goodIn_r _ [5, 6, 7, 25, 26, 27, 28, 29, 30, 31, 32, 33, 34, 35, 36, 37, 38] (by decide +kernel) (by decide +kernel)
set_option maxRecDepth 20000 in
theorem gX5_cell_X5_find : GoodIn wsX5_cell (wsV RX5 86 RX5 yX5_find wsX5_find) := goodIn_app (goodIn_of _ (by decide +kernel)) ggX5_cell_X5_find
set_option maxRecDepth 20000 in
theorem ggX5_kin_X5_find : GoodIn wsX5_kin wsX5_find := goodIn_r _ [5, 6, 7, 16, 17, 18, 19, 20, 21, 22, 23, 24, 25, 26, 27, 28, 29] (by decide +kernel) (by decide +kernel)
set_option maxRecDepth 20000 in
theorem gX5_kin_X5_find : GoodIn wsX5_kin (wsV RX5 86 RX5 yX5_find wsX5_find) := goodIn_app (goodIn_of _ (by decide +kernel)) ggX5_kin_X5_find
set_option maxRecDepth 20000 in
theorem ggX5_textOf_X5_find : GoodIn wsX5_textOf wsX5_find := goodIn_r _ [5, 6, 7, 18, 19, 20, 21, 22, 23, 24, 25, 26, 27, 28, 29, 30, 31] (by decide +kernel) (by decide +kernel)
set_option maxRecDepth 20000 in
theorem gX5_textOf_X5_find : GoodIn wsX5_textOf (wsV RX5 86 RX5 yX5_find wsX5_find) := goodIn_app (goodIn_of _ (by decide +kernel)) ggX5_textOf_X5_find
set_option maxRecDepth 20000 in
theorem ggX5_settle_X5_settleShifts : GoodIn wsX5_settle wsX5_settleShifts := goodIn_r _ [9, 10, 11, 12, 13, 14, 8, 15, 1, 16, 17, 18, 19, 20, 21, 22, 23, 24, 25, 26, 27, 28, 29, 30, 31, 32, 33, 34, 35, 36, 37, 38, 130, 131, 132, 133, 134, 135, 136, 137, 138, 139, 140, 141, 142, 143, 144, 145, 146, 147, 148, 149, 150, 151, 152, 153] (by decide +kernel) (by decide +kernel)
set_option maxRecDepth 20000 in
theorem gX5_settle_X5_settleShifts : GoodIn wsX5_settle (wsV RX5 224 RX5 yX5_settleShifts wsX5_settleShifts) := goodIn_app (goodIn_of _ (by decide +kernel)) ggX5_settle_X5_settleShifts
theorem dX0_init_0 : decode cX0_init 0 = .ok (.aload_n 0, 1) := by decide +kernel
theorem dX0_init_1 : decode cX0_init 1 = .ok (.invokespecial 3, 3) := by decide +kernel
theorem dX0_init_4 : decode cX0_init 4 = .ok (.aload_n 0, 1) := by decide +kernel
theorem dX0_init_5 : decode cX0_init 5 = .ok (.aconst_null, 1) := by decide +kernel
theorem dX0_init_6 : decode cX0_init 6 = .ok (.putfield 9, 3) := by decide +kernel
theorem dX0_init_9 : decode cX0_init 9 = .ok (.aload_n 0, 1) := by decide +kernel
theorem dX0_init_10 : decode cX0_init 10 = .ok (.iconst (-1), 1) := by decide +kernel
theorem dX0_init_11 : decode cX0_init 11 = .ok (.putfield 15, 3) := by decide +kernel
theorem dX0_init_14 : decode cX0_init 14 = .ok (.aload_n 0, 1) := by decide +kernel
theorem dX0_init_15 : decode cX0_init 15 = .ok (.iconst (-1), 1) := by decide +kernel
theorem dX0_init_16 : decode cX0_init 16 = .ok (.putfield 19, 3) := by decide +kernel
theorem dX0_init_19 : decode cX0_init 19 = .ok (.aload_n 0, 1) := by decide +kernel
theorem dX0_init_20 : decode cX0_init 20 = .ok (.iconst 0, 1) := by decide +kernel
theorem dX0_init_21 : decode cX0_init 21 = .ok (.putfield 22, 3) := by decide +kernel
theorem dX0_init_24 : decode cX0_init 24 = .ok (.aload_n 0, 1) := by decide +kernel
theorem dX0_init_25 : decode cX0_init 25 = .ok (.iconst 0, 1) := by decide +kernel
theorem dX0_init_26 : decode cX0_init 26 = .ok (.putfield 26, 3) := by decide +kernel
theorem dX0_init_29 : decode cX0_init 29 = .ok (.aload_n 0, 1) := by decide +kernel
theorem dX0_init_30 : decode cX0_init 30 = .ok (.bipush 8, 2) := by decide +kernel
theorem dX0_init_32 : decode cX0_init 32 = .ok (.newarray .int, 2) := by decide +kernel
theorem dX0_init_34 : decode cX0_init 34 = .ok (.putfield 29, 3) := by decide +kernel
theorem dX0_init_37 : decode cX0_init 37 = .ok (.aload_n 0, 1) := by decide +kernel
theorem dX0_init_38 : decode cX0_init 38 = .ok (.iconst 3, 1) := by decide +kernel
theorem dX0_init_39 : decode cX0_init 39 = .ok (.newarray .int, 2) := by decide +kernel
theorem dX0_init_41 : decode cX0_init 41 = .ok (.putfield 33, 3) := by decide +kernel
theorem dX0_init_44 : decode cX0_init 44 = .ok (.aload_n 0, 1) := by decide +kernel
theorem dX0_init_45 : decode cX0_init 45 = .ok (.iconst 3, 1) := by decide +kernel
theorem dX0_init_46 : decode cX0_init 46 = .ok (.newarray .int, 2) := by decide +kernel
theorem dX0_init_48 : decode cX0_init 48 = .ok (.putfield 36, 3) := by decide +kernel
theorem dX0_init_51 : decode cX0_init 51 = .ok (.aload_n 0, 1) := by decide +kernel
theorem dX0_init_52 : decode cX0_init 52 = .ok (.iconst 0, 1) := by decide +kernel
theorem dX0_init_53 : decode cX0_init 53 = .ok (.putfield 39, 3) := by decide +kernel
theorem dX0_init_56 : decode cX0_init 56 = .ok (.aload_n 0, 1) := by decide +kernel
theorem dX0_init_57 : decode cX0_init 57 = .ok (.iload_n 1, 1) := by decide +kernel
theorem dX0_init_58 : decode cX0_init 58 = .ok (.putfield 42, 3) := by decide +kernel
theorem dX0_init_61 : decode cX0_init 61 = .ok (.return_, 1) := by decide +kernel
theorem dX2_init_0 : decode cX2_init 0 = .ok (.aload_n 0, 1) := by decide +kernel
theorem dX2_init_1 : decode cX2_init 1 = .ok (.invokespecial 3, 3) := by decide +kernel
theorem dX2_init_4 : decode cX2_init 4 = .ok (.aload_n 0, 1) := by decide +kernel
theorem dX2_init_5 : decode cX2_init 5 = .ok (.iconst 1, 1) := by decide +kernel
theorem dX2_init_6 : decode cX2_init 6 = .ok (.putfield 9, 3) := by decide +kernel
theorem dX2_init_9 : decode cX2_init 9 = .ok (.aload_n 0, 1) := by decide +kernel
theorem dX2_init_10 : decode cX2_init 10 = .ok (.bipush 8, 2) := by decide +kernel
theorem dX2_init_12 : decode cX2_init 12 = .ok (.newarray .int, 2) := by decide +kernel
theorem dX2_init_14 : decode cX2_init 14 = .ok (.putfield 15, 3) := by decide +kernel
theorem dX2_init_17 : decode cX2_init 17 = .ok (.aload_n 0, 1) := by decide +kernel
theorem dX2_init_18 : decode cX2_init 18 = .ok (.bipush 8, 2) := by decide +kernel
theorem dX2_init_20 : decode cX2_init 20 = .ok (.newarray .int, 2) := by decide +kernel
theorem dX2_init_22 : decode cX2_init 22 = .ok (.putfield 19, 3) := by decide +kernel
theorem dX2_init_25 : decode cX2_init 25 = .ok (.aload_n 0, 1) := by decide +kernel
theorem dX2_init_26 : decode cX2_init 26 = .ok (.bipush 6, 2) := by decide +kernel
theorem dX2_init_28 : decode cX2_init 28 = .ok (.newarray .int, 2) := by decide +kernel
theorem dX2_init_30 : decode cX2_init 30 = .ok (.putfield 22, 3) := by decide +kernel
theorem dX2_init_33 : decode cX2_init 33 = .ok (.aload_n 0, 1) := by decide +kernel
theorem dX2_init_34 : decode cX2_init 34 = .ok (.bipush 6, 2) := by decide +kernel
theorem dX2_init_36 : decode cX2_init 36 = .ok (.newarray .int, 2) := by decide +kernel
theorem dX2_init_38 : decode cX2_init 38 = .ok (.putfield 25, 3) := by decide +kernel
theorem dX2_init_41 : decode cX2_init 41 = .ok (.aload_n 0, 1) := by decide +kernel
theorem dX2_init_42 : decode cX2_init 42 = .ok (.iconst 0, 1) := by decide +kernel
theorem dX2_init_43 : decode cX2_init 43 = .ok (.putfield 28, 3) := by decide +kernel
theorem dX2_init_46 : decode cX2_init 46 = .ok (.aload_n 0, 1) := by decide +kernel
theorem dX2_init_47 : decode cX2_init 47 = .ok (.bipush 8, 2) := by decide +kernel
theorem dX2_init_49 : decode cX2_init 49 = .ok (.newarray .long, 2) := by decide +kernel
theorem dX2_init_51 : decode cX2_init 51 = .ok (.putfield 31, 3) := by decide +kernel
theorem dX2_init_54 : decode cX2_init 54 = .ok (.aload_n 0, 1) := by decide +kernel
theorem dX2_init_55 : decode cX2_init 55 = .ok (.iconst 0, 1) := by decide +kernel
theorem dX2_init_56 : decode cX2_init 56 = .ok (.putfield 35, 3) := by decide +kernel
theorem dX2_init_59 : decode cX2_init 59 = .ok (.iconst 0, 1) := by decide +kernel
theorem dX2_init_60 : decode cX2_init 60 = .ok (.istore_n 1, 1) := by decide +kernel
theorem dX2_init_61 : decode cX2_init 61 = .ok (.iload_n 1, 1) := by decide +kernel
theorem dX2_init_62 : decode cX2_init 62 = .ok (.bipush 8, 2) := by decide +kernel
theorem dX2_init_64 : decode cX2_init 64 = .ok (.if_icmp .ge 24, 3) := by decide +kernel
theorem dX2_init_67 : decode cX2_init 67 = .ok (.aload_n 0, 1) := by decide +kernel
theorem dX2_init_68 : decode cX2_init 68 = .ok (.getfield 15, 3) := by decide +kernel
theorem dX2_init_71 : decode cX2_init 71 = .ok (.iload_n 1, 1) := by decide +kernel
theorem dX2_init_72 : decode cX2_init 72 = .ok (.iconst 1, 1) := by decide +kernel
theorem dX2_init_73 : decode cX2_init 73 = .ok (.iastore, 1) := by decide +kernel
theorem dX2_init_74 : decode cX2_init 74 = .ok (.aload_n 0, 1) := by decide +kernel
theorem dX2_init_75 : decode cX2_init 75 = .ok (.getfield 19, 3) := by decide +kernel
theorem dX2_init_78 : decode cX2_init 78 = .ok (.iload_n 1, 1) := by decide +kernel
theorem dX2_init_79 : decode cX2_init 79 = .ok (.bipush 12, 2) := by decide +kernel
theorem dX2_init_81 : decode cX2_init 81 = .ok (.iastore, 1) := by decide +kernel
theorem dX2_init_82 : decode cX2_init 82 = .ok (.iinc 1 1, 3) := by decide +kernel
theorem dX2_init_85 : decode cX2_init 85 = .ok (.goto (-24), 3) := by decide +kernel
theorem dX2_init_88 : decode cX2_init 88 = .ok (.return_, 1) := by decide +kernel
theorem dX2_setMeasure_0 : decode cX2_setMeasure 0 = .ok (.iload_n 1, 1) := by decide +kernel
theorem dX2_setMeasure_1 : decode cX2_setMeasure 1 = .ok (.ifCond .lt 23, 3) := by decide +kernel
theorem dX2_setMeasure_4 : decode cX2_setMeasure 4 = .ok (.iload_n 1, 1) := by decide +kernel
theorem dX2_setMeasure_5 : decode cX2_setMeasure 5 = .ok (.bipush 8, 2) := by decide +kernel
theorem dX2_setMeasure_7 : decode cX2_setMeasure 7 = .ok (.if_icmp .ge 17, 3) := by decide +kernel
theorem dX2_setMeasure_10 : decode cX2_setMeasure 10 = .ok (.aload_n 0, 1) := by decide +kernel
theorem dX2_setMeasure_11 : decode cX2_setMeasure 11 = .ok (.getfield 15, 3) := by decide +kernel
theorem dX2_setMeasure_14 : decode cX2_setMeasure 14 = .ok (.iload_n 1, 1) := by decide +kernel
theorem dX2_setMeasure_15 : decode cX2_setMeasure 15 = .ok (.iload_n 2, 1) := by decide +kernel
theorem dX2_setMeasure_16 : decode cX2_setMeasure 16 = .ok (.iastore, 1) := by decide +kernel
theorem dX2_setMeasure_17 : decode cX2_setMeasure 17 = .ok (.aload_n 0, 1) := by decide +kernel
theorem dX2_setMeasure_18 : decode cX2_setMeasure 18 = .ok (.getfield 19, 3) := by decide +kernel
theorem dX2_setMeasure_21 : decode cX2_setMeasure 21 = .ok (.iload_n 1, 1) := by decide +kernel
theorem dX2_setMeasure_22 : decode cX2_setMeasure 22 = .ok (.iload_n 3, 1) := by decide +kernel
theorem dX2_setMeasure_23 : decode cX2_setMeasure 23 = .ok (.iastore, 1) := by decide +kernel
theorem dX2_setMeasure_24 : decode cX2_setMeasure 24 = .ok (.return_, 1) := by decide +kernel
theorem dX2_addParallel_0 : decode cX2_addParallel 0 = .ok (.aload_n 0, 1) := by decide +kernel
theorem dX2_addParallel_1 : decode cX2_addParallel 1 = .ok (.getfield 28, 3) := by decide +kernel
theorem dX2_addParallel_4 : decode cX2_addParallel 4 = .ok (.ifCond .lt 42, 3) := by decide +kernel
theorem dX2_addParallel_7 : decode cX2_addParallel 7 = .ok (.aload_n 0, 1) := by decide +kernel
theorem dX2_addParallel_8 : decode cX2_addParallel 8 = .ok (.getfield 28, 3) := by decide +kernel
theorem dX2_addParallel_11 : decode cX2_addParallel 11 = .ok (.bipush 6, 2) := by decide +kernel
theorem dX2_addParallel_13 : decode cX2_addParallel 13 = .ok (.if_icmp .ge 33, 3) := by decide +kernel
theorem dX2_addParallel_16 : decode cX2_addParallel 16 = .ok (.aload_n 0, 1) := by decide +kernel
theorem dX2_addParallel_17 : decode cX2_addParallel 17 = .ok (.getfield 22, 3) := by decide +kernel
theorem dX2_addParallel_20 : decode cX2_addParallel 20 = .ok (.aload_n 0, 1) := by decide +kernel
theorem dX2_addParallel_21 : decode cX2_addParallel 21 = .ok (.getfield 28, 3) := by decide +kernel
theorem dX2_addParallel_24 : decode cX2_addParallel 24 = .ok (.iload_n 1, 1) := by decide +kernel
theorem dX2_addParallel_25 : decode cX2_addParallel 25 = .ok (.iastore, 1) := by decide +kernel
theorem dX2_addParallel_26 : decode cX2_addParallel 26 = .ok (.aload_n 0, 1) := by decide +kernel
theorem dX2_addParallel_27 : decode cX2_addParallel 27 = .ok (.getfield 25, 3) := by decide +kernel
theorem dX2_addParallel_30 : decode cX2_addParallel 30 = .ok (.aload_n 0, 1) := by decide +kernel
theorem dX2_addParallel_31 : decode cX2_addParallel 31 = .ok (.getfield 28, 3) := by decide +kernel
theorem dX2_addParallel_34 : decode cX2_addParallel 34 = .ok (.iload_n 2, 1) := by decide +kernel
theorem dX2_addParallel_35 : decode cX2_addParallel 35 = .ok (.iastore, 1) := by decide +kernel
theorem dX2_addParallel_36 : decode cX2_addParallel 36 = .ok (.aload_n 0, 1) := by decide +kernel
theorem dX2_addParallel_37 : decode cX2_addParallel 37 = .ok (.dup, 1) := by decide +kernel
theorem dX2_addParallel_38 : decode cX2_addParallel 38 = .ok (.getfield 28, 3) := by decide +kernel
theorem dX2_addParallel_41 : decode cX2_addParallel 41 = .ok (.iconst 1, 1) := by decide +kernel
theorem dX2_addParallel_42 : decode cX2_addParallel 42 = .ok (.iadd, 1) := by decide +kernel
theorem dX2_addParallel_43 : decode cX2_addParallel 43 = .ok (.putfield 28, 3) := by decide +kernel
theorem dX2_addParallel_46 : decode cX2_addParallel 46 = .ok (.return_, 1) := by decide +kernel
theorem dX2_addBarred_0 : decode cX2_addBarred 0 = .ok (.aload_n 0, 1) := by decide +kernel
theorem dX2_addBarred_1 : decode cX2_addBarred 1 = .ok (.getfield 35, 3) := by decide +kernel
theorem dX2_addBarred_4 : decode cX2_addBarred 4 = .ok (.ifCond .lt 32, 3) := by decide +kernel
theorem dX2_addBarred_7 : decode cX2_addBarred 7 = .ok (.aload_n 0, 1) := by decide +kernel
theorem dX2_addBarred_8 : decode cX2_addBarred 8 = .ok (.getfield 35, 3) := by decide +kernel
theorem dX2_addBarred_11 : decode cX2_addBarred 11 = .ok (.bipush 8, 2) := by decide +kernel
theorem dX2_addBarred_13 : decode cX2_addBarred 13 = .ok (.if_icmp .ge 23, 3) := by decide +kernel
theorem dX2_addBarred_16 : decode cX2_addBarred 16 = .ok (.aload_n 0, 1) := by decide +kernel
theorem dX2_addBarred_17 : decode cX2_addBarred 17 = .ok (.getfield 31, 3) := by decide +kernel
theorem dX2_addBarred_20 : decode cX2_addBarred 20 = .ok (.aload_n 0, 1) := by decide +kernel
theorem dX2_addBarred_21 : decode cX2_addBarred 21 = .ok (.getfield 35, 3) := by decide +kernel
theorem dX2_addBarred_24 : decode cX2_addBarred 24 = .ok (.lload_n 1, 1) := by decide +kernel
theorem dX2_addBarred_25 : decode cX2_addBarred 25 = .ok (.lastore, 1) := by decide +kernel
theorem dX2_addBarred_26 : decode cX2_addBarred 26 = .ok (.aload_n 0, 1) := by decide +kernel
theorem dX2_addBarred_27 : decode cX2_addBarred 27 = .ok (.dup, 1) := by decide +kernel
theorem dX2_addBarred_28 : decode cX2_addBarred 28 = .ok (.getfield 35, 3) := by decide +kernel
theorem dX2_addBarred_31 : decode cX2_addBarred 31 = .ok (.iconst 1, 1) := by decide +kernel
theorem dX2_addBarred_32 : decode cX2_addBarred 32 = .ok (.iadd, 1) := by decide +kernel
theorem dX2_addBarred_33 : decode cX2_addBarred 33 = .ok (.putfield 35, 3) := by decide +kernel
theorem dX2_addBarred_36 : decode cX2_addBarred 36 = .ok (.return_, 1) := by decide +kernel
theorem dX2_isBarred_0 : decode cX2_isBarred 0 = .ok (.iconst 0, 1) := by decide +kernel
theorem dX2_isBarred_1 : decode cX2_isBarred 1 = .ok (.istore_n 3, 1) := by decide +kernel
theorem dX2_isBarred_2 : decode cX2_isBarred 2 = .ok (.iload_n 3, 1) := by decide +kernel
theorem dX2_isBarred_3 : decode cX2_isBarred 3 = .ok (.aload_n 0, 1) := by decide +kernel
theorem dX2_isBarred_4 : decode cX2_isBarred 4 = .ok (.getfield 35, 3) := by decide +kernel
theorem dX2_isBarred_7 : decode cX2_isBarred 7 = .ok (.if_icmp .ge 22, 3) := by decide +kernel
theorem dX2_isBarred_29 : decode cX2_isBarred 29 = .ok (.iconst 0, 1) := by decide +kernel
theorem dX2_isBarred_30 : decode cX2_isBarred 30 = .ok (.ireturn, 1) := by decide +kernel
theorem dX3_init_0 : decode cX3_init 0 = .ok (.aload_n 0, 1) := by decide +kernel
theorem dX3_init_1 : decode cX3_init 1 = .ok (.invokespecial 1, 3) := by decide +kernel
theorem dX3_init_4 : decode cX3_init 4 = .ok (.aload_n 0, 1) := by decide +kernel
theorem dX3_init_5 : decode cX3_init 5 = .ok (.iconst 0, 1) := by decide +kernel
theorem dX3_init_6 : decode cX3_init 6 = .ok (.putfield 7, 3) := by decide +kernel
theorem dX3_init_9 : decode cX3_init 9 = .ok (.aload_n 0, 1) := by decide +kernel
theorem dX3_init_10 : decode cX3_init 10 = .ok (.iload_n 1, 1) := by decide +kernel
theorem dX3_init_11 : decode cX3_init 11 = .ok (.putfield 13, 3) := by decide +kernel
theorem dX3_init_14 : decode cX3_init 14 = .ok (.aload_n 0, 1) := by decide +kernel
theorem dX3_init_15 : decode cX3_init 15 = .ok (.iload_n 2, 1) := by decide +kernel
theorem dX3_init_16 : decode cX3_init 16 = .ok (.putfield 16, 3) := by decide +kernel
theorem dX3_init_19 : decode cX3_init 19 = .ok (.return_, 1) := by decide +kernel
theorem dX4_init_0 : decode cX4_init 0 = .ok (.aload_n 0, 1) := by decide +kernel
theorem dX4_init_1 : decode cX4_init 1 = .ok (.invokespecial 3, 3) := by decide +kernel
theorem dX4_init_4 : decode cX4_init 4 = .ok (.aload_n 0, 1) := by decide +kernel
theorem dX4_init_5 : decode cX4_init 5 = .ok (.sipush 250, 3) := by decide +kernel
theorem dX4_init_8 : decode cX4_init 8 = .ok (.newarray .byte, 2) := by decide +kernel
theorem dX4_init_10 : decode cX4_init 10 = .ok (.putfield 9, 3) := by decide +kernel
theorem dX4_init_13 : decode cX4_init 13 = .ok (.aload_n 0, 1) := by decide +kernel
theorem dX4_init_14 : decode cX4_init 14 = .ok (.iconst 0, 1) := by decide +kernel
theorem dX4_init_15 : decode cX4_init 15 = .ok (.putfield 15, 3) := by decide +kernel
theorem dX4_init_18 : decode cX4_init 18 = .ok (.return_, 1) := by decide +kernel
theorem dX5_init_0 : decode cX5_init 0 = .ok (.aload_n 0, 1) := by decide +kernel
theorem dX5_init_1 : decode cX5_init 1 = .ok (.invokespecial 1, 3) := by decide +kernel
theorem dX5_init_4 : decode cX5_init 4 = .ok (.aload_n 0, 1) := by decide +kernel
theorem dX5_init_5 : decode cX5_init 5 = .ok (.bipush 24, 2) := by decide +kernel
theorem dX5_init_7 : decode cX5_init 7 = .ok (.anewarray 9, 3) := by decide +kernel
theorem dX5_init_10 : decode cX5_init 10 = .ok (.putfield 11, 3) := by decide +kernel
theorem dX5_init_13 : decode cX5_init 13 = .ok (.aload_n 0, 1) := by decide +kernel
theorem dX5_init_14 : decode cX5_init 14 = .ok (.iconst 0, 1) := by decide +kernel
theorem dX5_init_15 : decode cX5_init 15 = .ok (.putfield 15, 3) := by decide +kernel
theorem dX5_init_18 : decode cX5_init 18 = .ok (.aload_n 0, 1) := by decide +kernel
theorem dX5_init_19 : decode cX5_init 19 = .ok (.bipush 6, 2) := by decide +kernel
theorem dX5_init_21 : decode cX5_init 21 = .ok (.anewarray 19, 3) := by decide +kernel
theorem dX5_init_24 : decode cX5_init 24 = .ok (.putfield 21, 3) := by decide +kernel
theorem dX5_init_27 : decode cX5_init 27 = .ok (.aload_n 0, 1) := by decide +kernel
theorem dX5_init_28 : decode cX5_init 28 = .ok (.iconst 0, 1) := by decide +kernel
theorem dX5_init_29 : decode cX5_init 29 = .ok (.putfield 25, 3) := by decide +kernel
theorem dX5_init_32 : decode cX5_init 32 = .ok (.aload_n 0, 1) := by decide +kernel
theorem dX5_init_33 : decode cX5_init 33 = .ok (.new 28, 3) := by decide +kernel
theorem dX5_init_36 : decode cX5_init 36 = .ok (.dup, 1) := by decide +kernel
theorem dX5_init_37 : decode cX5_init 37 = .ok (.invokespecial 30, 3) := by decide +kernel
theorem dX5_init_40 : decode cX5_init 40 = .ok (.putfield 31, 3) := by decide +kernel
theorem dX5_init_43 : decode cX5_init 43 = .ok (.aload_n 0, 1) := by decide +kernel
theorem dX5_init_44 : decode cX5_init 44 = .ok (.new 35, 3) := by decide +kernel
theorem dX5_init_47 : decode cX5_init 47 = .ok (.dup, 1) := by decide +kernel
theorem dX5_init_48 : decode cX5_init 48 = .ok (.invokespecial 37, 3) := by decide +kernel
theorem dX5_init_51 : decode cX5_init 51 = .ok (.putfield 38, 3) := by decide +kernel
theorem dX5_init_54 : decode cX5_init 54 = .ok (.aload_n 0, 1) := by decide +kernel
theorem dX5_init_55 : decode cX5_init 55 = .ok (.bipush 10, 2) := by decide +kernel
theorem dX5_init_57 : decode cX5_init 57 = .ok (.putfield 42, 3) := by decide +kernel
theorem dX5_init_60 : decode cX5_init 60 = .ok (.aload_n 0, 1) := by decide +kernel
theorem dX5_init_61 : decode cX5_init 61 = .ok (.iconst 4, 1) := by decide +kernel
theorem dX5_init_62 : decode cX5_init 62 = .ok (.newarray .int, 2) := by decide +kernel
theorem dX5_init_64 : decode cX5_init 64 = .ok (.putfield 45, 3) := by decide +kernel
theorem dX5_init_67 : decode cX5_init 67 = .ok (.aload_n 0, 1) := by decide +kernel
theorem dX5_init_68 : decode cX5_init 68 = .ok (.iconst 0, 1) := by decide +kernel
theorem dX5_init_69 : decode cX5_init 69 = .ok (.putfield 49, 3) := by decide +kernel
theorem dX5_init_72 : decode cX5_init 72 = .ok (.aload_n 0, 1) := by decide +kernel
theorem dX5_init_73 : decode cX5_init 73 = .ok (.iconst 0, 1) := by decide +kernel
theorem dX5_init_74 : decode cX5_init 74 = .ok (.putfield 52, 3) := by decide +kernel
theorem dX5_init_77 : decode cX5_init 77 = .ok (.aload_n 0, 1) := by decide +kernel
theorem dX5_init_78 : decode cX5_init 78 = .ok (.bipush 6, 2) := by decide +kernel
theorem dX5_init_80 : decode cX5_init 80 = .ok (.newarray .int, 2) := by decide +kernel
theorem dX5_init_82 : decode cX5_init 82 = .ok (.putfield 55, 3) := by decide +kernel
theorem dX5_init_85 : decode cX5_init 85 = .ok (.aload_n 0, 1) := by decide +kernel
theorem dX5_init_86 : decode cX5_init 86 = .ok (.bipush 24, 2) := by decide +kernel
theorem dX5_init_88 : decode cX5_init 88 = .ok (.newarray .int, 2) := by decide +kernel
theorem dX5_init_90 : decode cX5_init 90 = .ok (.putfield 58, 3) := by decide +kernel
theorem dX5_init_93 : decode cX5_init 93 = .ok (.aload_n 0, 1) := by decide +kernel
theorem dX5_init_94 : decode cX5_init 94 = .ok (.bipush 24, 2) := by decide +kernel
theorem dX5_init_96 : decode cX5_init 96 = .ok (.newarray .boolean, 2) := by decide +kernel
theorem dX5_init_98 : decode cX5_init 98 = .ok (.putfield 61, 3) := by decide +kernel
theorem dX5_init_101 : decode cX5_init 101 = .ok (.aload_n 0, 1) := by decide +kernel
theorem dX5_init_102 : decode cX5_init 102 = .ok (.bipush 24, 2) := by decide +kernel
theorem dX5_init_104 : decode cX5_init 104 = .ok (.newarray .boolean, 2) := by decide +kernel
theorem dX5_init_106 : decode cX5_init 106 = .ok (.putfield 65, 3) := by decide +kernel
theorem dX5_init_109 : decode cX5_init 109 = .ok (.return_, 1) := by decide +kernel
theorem dX5_candidate_0 : decode cX5_candidate 0 = .ok (.iload_n 1, 1) := by decide +kernel
theorem dX5_candidate_1 : decode cX5_candidate 1 = .ok (.iconst 0, 1) := by decide +kernel
theorem dX5_candidate_2 : decode cX5_candidate 2 = .ok (.iconst 3, 1) := by decide +kernel
theorem dX5_candidate_3 : decode cX5_candidate 3 = .ok (.invokestatic 68, 3) := by decide +kernel
theorem dX5_candidate_6 : decode cX5_candidate 6 = .ok (.ifCond .ne 5, 3) := by decide +kernel
theorem dX5_candidate_9 : decode cX5_candidate 9 = .ok (.iconst (-1), 1) := by decide +kernel
theorem dX5_candidate_10 : decode cX5_candidate 10 = .ok (.ireturn, 1) := by decide +kernel
theorem dX5_candidate_11 : decode cX5_candidate 11 = .ok (.aload_n 0, 1) := by decide +kernel
theorem dX5_candidate_12 : decode cX5_candidate 12 = .ok (.getfield 15, 3) := by decide +kernel
theorem dX5_candidate_15 : decode cX5_candidate 15 = .ok (.ifCond .lt 15, 3) := by decide +kernel
theorem dX5_candidate_18 : decode cX5_candidate 18 = .ok (.aload_n 0, 1) := by decide +kernel
theorem dX5_candidate_19 : decode cX5_candidate 19 = .ok (.getfield 15, 3) := by decide +kernel
theorem dX5_candidate_22 : decode cX5_candidate 22 = .ok (.aload_n 0, 1) := by decide +kernel
theorem dX5_candidate_23 : decode cX5_candidate 23 = .ok (.getfield 11, 3) := by decide +kernel
theorem dX5_candidate_26 : decode cX5_candidate 26 = .ok (.arraylength, 1) := by decide +kernel
theorem dX5_candidate_27 : decode cX5_candidate 27 = .ok (.if_icmp .lt 6, 3) := by decide +kernel
theorem dX5_candidate_33 : decode cX5_candidate 33 = .ok (.aload_n 0, 1) := by decide +kernel
theorem dX5_candidate_34 : decode cX5_candidate 34 = .ok (.getfield 11, 3) := by decide +kernel
theorem dX5_candidate_37 : decode cX5_candidate 37 = .ok (.aload_n 0, 1) := by decide +kernel
theorem dX5_candidate_38 : decode cX5_candidate 38 = .ok (.getfield 15, 3) := by decide +kernel
theorem dX5_candidate_41 : decode cX5_candidate 41 = .ok (.new 9, 3) := by decide +kernel
theorem dX5_candidate_44 : decode cX5_candidate 44 = .ok (.dup, 1) := by decide +kernel
theorem dX5_candidate_45 : decode cX5_candidate 45 = .ok (.iload_n 1, 1) := by decide +kernel
theorem dX5_candidate_46 : decode cX5_candidate 46 = .ok (.invokespecial 72, 3) := by decide +kernel
theorem dX5_candidate_49 : decode cX5_candidate 49 = .ok (.aastore, 1) := by decide +kernel
theorem dX5_candidate_50 : decode cX5_candidate 50 = .ok (.aload_n 0, 1) := by decide +kernel
theorem dX5_candidate_51 : decode cX5_candidate 51 = .ok (.dup, 1) := by decide +kernel
theorem dX5_candidate_52 : decode cX5_candidate 52 = .ok (.getfield 15, 3) := by decide +kernel
theorem dX5_candidate_55 : decode cX5_candidate 55 = .ok (.iconst 1, 1) := by decide +kernel
theorem dX5_candidate_56 : decode cX5_candidate 56 = .ok (.iadd, 1) := by decide +kernel
theorem dX5_candidate_57 : decode cX5_candidate 57 = .ok (.putfield 15, 3) := by decide +kernel
theorem dX5_candidate_60 : decode cX5_candidate 60 = .ok (.aload_n 0, 1) := by decide +kernel
theorem dX5_candidate_61 : decode cX5_candidate 61 = .ok (.getfield 15, 3) := by decide +kernel
theorem dX5_candidate_64 : decode cX5_candidate 64 = .ok (.iconst 1, 1) := by decide +kernel
theorem dX5_candidate_65 : decode cX5_candidate 65 = .ok (.isub, 1) := by decide +kernel
theorem dX5_candidate_66 : decode cX5_candidate 66 = .ok (.ireturn, 1) := by decide +kernel
theorem dX5_essay_0 : decode cX5_essay 0 = .ok (.aload_n 0, 1) := by decide +kernel
theorem dX5_essay_1 : decode cX5_essay 1 = .ok (.iload_n 1, 1) := by decide +kernel
theorem dX5_essay_2 : decode cX5_essay 2 = .ok (.invokevirtual 86, 3) := by decide +kernel
theorem dX5_essay_5 : decode cX5_essay 5 = .ok (.astore_n 2, 1) := by decide +kernel
theorem dX5_essay_6 : decode cX5_essay 6 = .ok (.aload_n 2, 1) := by decide +kernel
theorem dX5_essay_7 : decode cX5_essay 7 = .ok (.ifnonnull 5, 3) := by decide +kernel
theorem dX5_essay_10 : decode cX5_essay 10 = .ok (.iconst (-1), 1) := by decide +kernel
theorem dX5_essay_11 : decode cX5_essay 11 = .ok (.ireturn, 1) := by decide +kernel
theorem dX5_legs_0 : decode cX5_legs 0 = .ok (.aload_n 0, 1) := by decide +kernel
theorem dX5_legs_1 : decode cX5_legs 1 = .ok (.iload_n 1, 1) := by decide +kernel
theorem dX5_legs_2 : decode cX5_legs 2 = .ok (.invokevirtual 111, 3) := by decide +kernel
theorem dX5_legs_5 : decode cX5_legs 5 = .ok (.astore_n 3, 1) := by decide +kernel
theorem dX5_legs_6 : decode cX5_legs 6 = .ok (.aload_n 3, 1) := by decide +kernel
theorem dX5_legs_7 : decode cX5_legs 7 = .ok (.ifnull 7, 3) := by decide +kernel
theorem dX5_legs_14 : decode cX5_legs 14 = .ok (.iconst (-1), 1) := by decide +kernel
theorem dX5_legs_15 : decode cX5_legs 15 = .ok (.ireturn, 1) := by decide +kernel
theorem dX5_word_0 : decode cX5_word 0 = .ok (.aload_n 0, 1) := by decide +kernel
theorem dX5_word_1 : decode cX5_word 1 = .ok (.iload_n 1, 1) := by decide +kernel
theorem dX5_word_2 : decode cX5_word 2 = .ok (.invokevirtual 111, 3) := by decide +kernel
theorem dX5_word_5 : decode cX5_word 5 = .ok (.astore 4, 2) := by decide +kernel
theorem dX5_word_7 : decode cX5_word 7 = .ok (.aload 4, 2) := by decide +kernel
theorem dX5_word_9 : decode cX5_word 9 = .ok (.ifnonnull 7, 3) := by decide +kernel
theorem dX5_word_12 : decode cX5_word 12 = .ok (.lconst 0, 1) := by decide +kernel
theorem dX5_word_13 : decode cX5_word 13 = .ok (.goto 10, 3) := by decide +kernel
theorem dX5_word_23 : decode cX5_word 23 = .ok (.lreturn, 1) := by decide +kernel
theorem dX5_form_0 : decode cX5_form 0 = .ok (.iload_n 1, 1) := by decide +kernel
theorem dX5_form_1 : decode cX5_form 1 = .ok (.iconst 1, 1) := by decide +kernel
theorem dX5_form_2 : decode cX5_form 2 = .ok (.bipush 8, 2) := by decide +kernel
theorem dX5_form_4 : decode cX5_form 4 = .ok (.invokestatic 68, 3) := by decide +kernel
theorem dX5_form_7 : decode cX5_form 7 = .ok (.ifCond .ne 6, 3) := by decide +kernel
theorem dX5_form_10 : decode cX5_form 10 = .ok (.bipush (-2), 2) := by decide +kernel
theorem dX5_form_12 : decode cX5_form 12 = .ok (.ireturn, 1) := by decide +kernel
theorem dX5_form_13 : decode cX5_form 13 = .ok (.aload_n 0, 1) := by decide +kernel
theorem dX5_form_14 : decode cX5_form 14 = .ok (.getfield 38, 3) := by decide +kernel
theorem dX5_form_17 : decode cX5_form 17 = .ok (.getfield 129, 3) := by decide +kernel
theorem dX5_form_20 : decode cX5_form 20 = .ok (.istore_n 2, 1) := by decide +kernel
theorem dX5_form_21 : decode cX5_form 21 = .ok (.aload_n 0, 1) := by decide +kernel
theorem dX5_form_22 : decode cX5_form 22 = .ok (.getfield 38, 3) := by decide +kernel
theorem dX5_form_25 : decode cX5_form 25 = .ok (.iload_n 1, 1) := by decide +kernel
theorem dX5_form_26 : decode cX5_form 26 = .ok (.putfield 129, 3) := by decide +kernel
theorem dX5_form_29 : decode cX5_form 29 = .ok (.iload_n 2, 1) := by decide +kernel
theorem dX5_form_30 : decode cX5_form 30 = .ok (.ireturn, 1) := by decide +kernel
theorem dX5_measure_0 : decode cX5_measure 0 = .ok (.iload_n 1, 1) := by decide +kernel
theorem dX5_measure_1 : decode cX5_measure 1 = .ok (.iconst 0, 1) := by decide +kernel
theorem dX5_measure_2 : decode cX5_measure 2 = .ok (.bipush 7, 2) := by decide +kernel
theorem dX5_measure_4 : decode cX5_measure 4 = .ok (.invokestatic 68, 3) := by decide +kernel
theorem dX5_measure_7 : decode cX5_measure 7 = .ok (.ifCond .ne 5, 3) := by decide +kernel
theorem dX5_measure_10 : decode cX5_measure 10 = .ok (.iconst (-1), 1) := by decide +kernel
theorem dX5_measure_11 : decode cX5_measure 11 = .ok (.ireturn, 1) := by decide +kernel
theorem dX5_measure_12 : decode cX5_measure 12 = .ok (.iload_n 2, 1) := by decide +kernel
theorem dX5_measure_13 : decode cX5_measure 13 = .ok (.iconst 1, 1) := by decide +kernel
theorem dX5_measure_14 : decode cX5_measure 14 = .ok (.bipush 12, 2) := by decide +kernel
theorem dX5_measure_16 : decode cX5_measure 16 = .ok (.invokestatic 68, 3) := by decide +kernel
theorem dX5_measure_19 : decode cX5_measure 19 = .ok (.ifCond .eq 13, 3) := by decide +kernel
theorem dX5_measure_22 : decode cX5_measure 22 = .ok (.iload_n 3, 1) := by decide +kernel
theorem dX5_measure_23 : decode cX5_measure 23 = .ok (.iload_n 2, 1) := by decide +kernel
theorem dX5_measure_24 : decode cX5_measure 24 = .ok (.bipush 12, 2) := by decide +kernel
theorem dX5_measure_26 : decode cX5_measure 26 = .ok (.invokestatic 68, 3) := by decide +kernel
theorem dX5_measure_29 : decode cX5_measure 29 = .ok (.ifCond .ne 6, 3) := by decide +kernel
theorem dX5_measure_32 : decode cX5_measure 32 = .ok (.bipush (-2), 2) := by decide +kernel
theorem dX5_measure_34 : decode cX5_measure 34 = .ok (.ireturn, 1) := by decide +kernel
theorem dX5_measure_35 : decode cX5_measure 35 = .ok (.aload_n 0, 1) := by decide +kernel
theorem dX5_measure_36 : decode cX5_measure 36 = .ok (.getfield 38, 3) := by decide +kernel
theorem dX5_measure_39 : decode cX5_measure 39 = .ok (.iload_n 1, 1) := by decide +kernel
theorem dX5_measure_40 : decode cX5_measure 40 = .ok (.iload_n 2, 1) := by decide +kernel
theorem dX5_measure_41 : decode cX5_measure 41 = .ok (.iload_n 3, 1) := by decide +kernel
theorem dX5_measure_42 : decode cX5_measure 42 = .ok (.invokevirtual 130, 3) := by decide +kernel
theorem dX5_measure_45 : decode cX5_measure 45 = .ok (.iconst 0, 1) := by decide +kernel
theorem dX5_measure_46 : decode cX5_measure 46 = .ok (.ireturn, 1) := by decide +kernel
theorem dX5_parallel_0 : decode cX5_parallel 0 = .ok (.iload_n 1, 1) := by decide +kernel
theorem dX5_parallel_1 : decode cX5_parallel 1 = .ok (.iconst 0, 1) := by decide +kernel
theorem dX5_parallel_2 : decode cX5_parallel 2 = .ok (.bipush 7, 2) := by decide +kernel
theorem dX5_parallel_4 : decode cX5_parallel 4 = .ok (.invokestatic 68, 3) := by decide +kernel
theorem dX5_parallel_7 : decode cX5_parallel 7 = .ok (.ifCond .eq 13, 3) := by decide +kernel
theorem dX5_parallel_10 : decode cX5_parallel 10 = .ok (.iload_n 2, 1) := by decide +kernel
theorem dX5_parallel_11 : decode cX5_parallel 11 = .ok (.iconst 0, 1) := by decide +kernel
theorem dX5_parallel_12 : decode cX5_parallel 12 = .ok (.bipush 7, 2) := by decide +kernel
theorem dX5_parallel_14 : decode cX5_parallel 14 = .ok (.invokestatic 68, 3) := by decide +kernel
theorem dX5_parallel_17 : decode cX5_parallel 17 = .ok (.ifCond .ne 5, 3) := by decide +kernel
theorem dX5_parallel_20 : decode cX5_parallel 20 = .ok (.iconst (-1), 1) := by decide +kernel
theorem dX5_parallel_21 : decode cX5_parallel 21 = .ok (.ireturn, 1) := by decide +kernel
theorem dX5_parallel_22 : decode cX5_parallel 22 = .ok (.iload_n 1, 1) := by decide +kernel
theorem dX5_parallel_23 : decode cX5_parallel 23 = .ok (.iload_n 2, 1) := by decide +kernel
theorem dX5_parallel_24 : decode cX5_parallel 24 = .ok (.if_icmp .ne 6, 3) := by decide +kernel
theorem dX5_parallel_27 : decode cX5_parallel 27 = .ok (.bipush (-2), 2) := by decide +kernel
theorem dX5_parallel_29 : decode cX5_parallel 29 = .ok (.ireturn, 1) := by decide +kernel
theorem dX5_parallel_30 : decode cX5_parallel 30 = .ok (.aload_n 0, 1) := by decide +kernel
theorem dX5_parallel_31 : decode cX5_parallel 31 = .ok (.getfield 38, 3) := by decide +kernel
theorem dX5_parallel_34 : decode cX5_parallel 34 = .ok (.getfield 134, 3) := by decide +kernel
theorem dX5_parallel_37 : decode cX5_parallel 37 = .ok (.bipush 6, 2) := by decide +kernel
theorem dX5_parallel_39 : decode cX5_parallel 39 = .ok (.if_icmp .lt 6, 3) := by decide +kernel
theorem dX5_parallel_45 : decode cX5_parallel 45 = .ok (.aload_n 0, 1) := by decide +kernel
theorem dX5_parallel_46 : decode cX5_parallel 46 = .ok (.getfield 38, 3) := by decide +kernel
theorem dX5_parallel_49 : decode cX5_parallel 49 = .ok (.iload_n 1, 1) := by decide +kernel
theorem dX5_parallel_50 : decode cX5_parallel 50 = .ok (.iload_n 2, 1) := by decide +kernel
theorem dX5_parallel_51 : decode cX5_parallel 51 = .ok (.invokevirtual 137, 3) := by decide +kernel
theorem dX5_parallel_54 : decode cX5_parallel 54 = .ok (.aload_n 0, 1) := by decide +kernel
theorem dX5_parallel_55 : decode cX5_parallel 55 = .ok (.getfield 38, 3) := by decide +kernel
theorem dX5_parallel_58 : decode cX5_parallel 58 = .ok (.getfield 134, 3) := by decide +kernel
theorem dX5_parallel_61 : decode cX5_parallel 61 = .ok (.iconst 1, 1) := by decide +kernel
theorem dX5_parallel_62 : decode cX5_parallel 62 = .ok (.isub, 1) := by decide +kernel
theorem dX5_parallel_63 : decode cX5_parallel 63 = .ok (.ireturn, 1) := by decide +kernel
theorem dX5_judge_0 : decode cX5_judge 0 = .ok (.aload_n 0, 1) := by decide +kernel
theorem dX5_judge_1 : decode cX5_judge 1 = .ok (.iload_n 1, 1) := by decide +kernel
theorem dX5_judge_2 : decode cX5_judge 2 = .ok (.invokevirtual 111, 3) := by decide +kernel
theorem dX5_judge_5 : decode cX5_judge 5 = .ok (.astore_n 2, 1) := by decide +kernel
theorem dX5_judge_6 : decode cX5_judge 6 = .ok (.aload_n 2, 1) := by decide +kernel
theorem dX5_judge_7 : decode cX5_judge 7 = .ok (.ifnonnull 7, 3) := by decide +kernel
theorem dX5_judge_10 : decode cX5_judge 10 = .ok (.iconst (-1), 1) := by decide +kernel
theorem dX5_judge_11 : decode cX5_judge 11 = .ok (.goto 11, 3) := by decide +kernel
theorem dX5_judge_22 : decode cX5_judge 22 = .ok (.ireturn, 1) := by decide +kernel
theorem dX5_like_0 : decode cX5_like 0 = .ok (.aload_n 0, 1) := by decide +kernel
theorem dX5_like_1 : decode cX5_like 1 = .ok (.iload_n 1, 1) := by decide +kernel
theorem dX5_like_2 : decode cX5_like 2 = .ok (.invokevirtual 111, 3) := by decide +kernel
theorem dX5_like_5 : decode cX5_like 5 = .ok (.astore_n 3, 1) := by decide +kernel
theorem dX5_like_6 : decode cX5_like 6 = .ok (.aload_n 0, 1) := by decide +kernel
theorem dX5_like_7 : decode cX5_like 7 = .ok (.iload_n 2, 1) := by decide +kernel
theorem dX5_like_8 : decode cX5_like 8 = .ok (.invokevirtual 111, 3) := by decide +kernel
theorem dX5_like_11 : decode cX5_like 11 = .ok (.astore 4, 2) := by decide +kernel
theorem dX5_like_13 : decode cX5_like 13 = .ok (.aload_n 3, 1) := by decide +kernel
theorem dX5_like_14 : decode cX5_like 14 = .ok (.ifnull 8, 3) := by decide +kernel
theorem dX5_like_22 : decode cX5_like 22 = .ok (.iconst (-1), 1) := by decide +kernel
theorem dX5_like_23 : decode cX5_like 23 = .ok (.ireturn, 1) := by decide +kernel
theorem dX5_number_0 : decode cX5_number 0 = .ok (.aload_n 0, 1) := by decide +kernel
theorem dX5_number_1 : decode cX5_number 1 = .ok (.iload_n 1, 1) := by decide +kernel
theorem dX5_number_2 : decode cX5_number 2 = .ok (.invokevirtual 86, 3) := by decide +kernel
theorem dX5_number_5 : decode cX5_number 5 = .ok (.astore_n 3, 1) := by decide +kernel
theorem dX5_number_6 : decode cX5_number 6 = .ok (.aload_n 3, 1) := by decide +kernel
theorem dX5_number_7 : decode cX5_number 7 = .ok (.ifnonnull 6, 3) := by decide +kernel
theorem dX5_number_10 : decode cX5_number 10 = .ok (.bipush (-5), 2) := by decide +kernel
theorem dX5_number_12 : decode cX5_number 12 = .ok (.ireturn, 1) := by decide +kernel
theorem dX5_sees_0 : decode cX5_sees 0 = .ok (.aload_n 0, 1) := by decide +kernel
theorem dX5_sees_1 : decode cX5_sees 1 = .ok (.iload_n 2, 1) := by decide +kernel
theorem dX5_sees_2 : decode cX5_sees 2 = .ok (.invokevirtual 86, 3) := by decide +kernel
theorem dX5_sees_5 : decode cX5_sees 5 = .ok (.astore 5, 2) := by decide +kernel
theorem dX5_sees_7 : decode cX5_sees 7 = .ok (.aload 5, 2) := by decide +kernel
theorem dX5_sees_9 : decode cX5_sees 9 = .ok (.ifnull 13, 3) := by decide +kernel
theorem dX5_sees_22 : decode cX5_sees 22 = .ok (.iconst (-1), 1) := by decide +kernel
theorem dX5_sees_23 : decode cX5_sees 23 = .ok (.ireturn, 1) := by decide +kernel
theorem dX5_opens_0 : decode cX5_opens 0 = .ok (.iload_n 1, 1) := by decide +kernel
theorem dX5_opens_1 : decode cX5_opens 1 = .ok (.iconst 0, 1) := by decide +kernel
theorem dX5_opens_2 : decode cX5_opens 2 = .ok (.sipush 255, 3) := by decide +kernel
theorem dX5_opens_5 : decode cX5_opens 5 = .ok (.invokestatic 68, 3) := by decide +kernel
theorem dX5_opens_8 : decode cX5_opens 8 = .ok (.ifCond .ne 6, 3) := by decide +kernel
theorem dX5_opens_11 : decode cX5_opens 11 = .ok (.bipush (-2), 2) := by decide +kernel
theorem dX5_opens_13 : decode cX5_opens 13 = .ok (.ireturn, 1) := by decide +kernel
theorem dX5_opens_14 : decode cX5_opens 14 = .ok (.aload_n 0, 1) := by decide +kernel
theorem dX5_opens_15 : decode cX5_opens 15 = .ok (.iload_n 1, 1) := by decide +kernel
theorem dX5_opens_16 : decode cX5_opens 16 = .ok (.invokevirtual 176, 3) := by decide +kernel
theorem dX5_opens_19 : decode cX5_opens 19 = .ok (.ireturn, 1) := by decide +kernel
theorem dX5_reader_0 : decode cX5_reader 0 = .ok (.iload_n 1, 1) := by decide +kernel
theorem dX5_reader_1 : decode cX5_reader 1 = .ok (.iconst 0, 1) := by decide +kernel
theorem dX5_reader_2 : decode cX5_reader 2 = .ok (.iconst 3, 1) := by decide +kernel
theorem dX5_reader_3 : decode cX5_reader 3 = .ok (.invokestatic 68, 3) := by decide +kernel
theorem dX5_reader_6 : decode cX5_reader 6 = .ok (.ifCond .eq 12, 3) := by decide +kernel
theorem dX5_reader_9 : decode cX5_reader 9 = .ok (.iload_n 2, 1) := by decide +kernel
theorem dX5_reader_10 : decode cX5_reader 10 = .ok (.iconst 0, 1) := by decide +kernel
theorem dX5_reader_11 : decode cX5_reader 11 = .ok (.iconst 3, 1) := by decide +kernel
theorem dX5_reader_12 : decode cX5_reader 12 = .ok (.invokestatic 68, 3) := by decide +kernel
theorem dX5_reader_15 : decode cX5_reader 15 = .ok (.ifCond .ne 5, 3) := by decide +kernel
theorem dX5_reader_18 : decode cX5_reader 18 = .ok (.iconst (-1), 1) := by decide +kernel
theorem dX5_reader_19 : decode cX5_reader 19 = .ok (.ireturn, 1) := by decide +kernel
theorem dX5_reader_20 : decode cX5_reader 20 = .ok (.aload_n 0, 1) := by decide +kernel
theorem dX5_reader_21 : decode cX5_reader 21 = .ok (.getfield 25, 3) := by decide +kernel
theorem dX5_reader_24 : decode cX5_reader 24 = .ok (.ifCond .lt 15, 3) := by decide +kernel
theorem dX5_reader_27 : decode cX5_reader 27 = .ok (.aload_n 0, 1) := by decide +kernel
theorem dX5_reader_28 : decode cX5_reader 28 = .ok (.getfield 25, 3) := by decide +kernel
theorem dX5_reader_31 : decode cX5_reader 31 = .ok (.aload_n 0, 1) := by decide +kernel
theorem dX5_reader_32 : decode cX5_reader 32 = .ok (.getfield 21, 3) := by decide +kernel
theorem dX5_reader_35 : decode cX5_reader 35 = .ok (.arraylength, 1) := by decide +kernel
theorem dX5_reader_36 : decode cX5_reader 36 = .ok (.if_icmp .lt 6, 3) := by decide +kernel
theorem dX5_reader_42 : decode cX5_reader 42 = .ok (.aload_n 0, 1) := by decide +kernel
theorem dX5_reader_43 : decode cX5_reader 43 = .ok (.getfield 21, 3) := by decide +kernel
theorem dX5_reader_46 : decode cX5_reader 46 = .ok (.aload_n 0, 1) := by decide +kernel
theorem dX5_reader_47 : decode cX5_reader 47 = .ok (.getfield 25, 3) := by decide +kernel
theorem dX5_reader_50 : decode cX5_reader 50 = .ok (.new 19, 3) := by decide +kernel
theorem dX5_reader_53 : decode cX5_reader 53 = .ok (.dup, 1) := by decide +kernel
theorem dX5_reader_54 : decode cX5_reader 54 = .ok (.iload_n 1, 1) := by decide +kernel
theorem dX5_reader_55 : decode cX5_reader 55 = .ok (.iload_n 2, 1) := by decide +kernel
theorem dX5_reader_56 : decode cX5_reader 56 = .ok (.invokespecial 184, 3) := by decide +kernel
theorem dX5_reader_59 : decode cX5_reader 59 = .ok (.aastore, 1) := by decide +kernel
theorem dX5_reader_60 : decode cX5_reader 60 = .ok (.aload_n 0, 1) := by decide +kernel
theorem dX5_reader_61 : decode cX5_reader 61 = .ok (.dup, 1) := by decide +kernel
theorem dX5_reader_62 : decode cX5_reader 62 = .ok (.getfield 25, 3) := by decide +kernel
theorem dX5_reader_65 : decode cX5_reader 65 = .ok (.iconst 1, 1) := by decide +kernel
theorem dX5_reader_66 : decode cX5_reader 66 = .ok (.iadd, 1) := by decide +kernel
theorem dX5_reader_67 : decode cX5_reader 67 = .ok (.putfield 25, 3) := by decide +kernel
theorem dX5_reader_70 : decode cX5_reader 70 = .ok (.aload_n 0, 1) := by decide +kernel
theorem dX5_reader_71 : decode cX5_reader 71 = .ok (.getfield 25, 3) := by decide +kernel
theorem dX5_reader_74 : decode cX5_reader 74 = .ok (.iconst 1, 1) := by decide +kernel
theorem dX5_reader_75 : decode cX5_reader 75 = .ok (.isub, 1) := by decide +kernel
theorem dX5_reader_76 : decode cX5_reader 76 = .ok (.ireturn, 1) := by decide +kernel
theorem dX5_apart_0 : decode cX5_apart 0 = .ok (.iload_n 1, 1) := by decide +kernel
theorem dX5_apart_1 : decode cX5_apart 1 = .ok (.iconst 0, 1) := by decide +kernel
theorem dX5_apart_2 : decode cX5_apart 2 = .ok (.bipush 99, 2) := by decide +kernel
theorem dX5_apart_4 : decode cX5_apart 4 = .ok (.invokestatic 68, 3) := by decide +kernel
theorem dX5_apart_7 : decode cX5_apart 7 = .ok (.ifCond .ne 6, 3) := by decide +kernel
theorem dX5_apart_10 : decode cX5_apart 10 = .ok (.bipush (-2), 2) := by decide +kernel
theorem dX5_apart_12 : decode cX5_apart 12 = .ok (.ireturn, 1) := by decide +kernel
theorem dX5_apart_13 : decode cX5_apart 13 = .ok (.aload_n 0, 1) := by decide +kernel
theorem dX5_apart_14 : decode cX5_apart 14 = .ok (.getfield 42, 3) := by decide +kernel
theorem dX5_apart_17 : decode cX5_apart 17 = .ok (.istore_n 2, 1) := by decide +kernel
theorem dX5_apart_18 : decode cX5_apart 18 = .ok (.aload_n 0, 1) := by decide +kernel
theorem dX5_apart_19 : decode cX5_apart 19 = .ok (.iload_n 1, 1) := by decide +kernel
theorem dX5_apart_20 : decode cX5_apart 20 = .ok (.putfield 42, 3) := by decide +kernel
theorem dX5_apart_23 : decode cX5_apart 23 = .ok (.iload_n 2, 1) := by decide +kernel
theorem dX5_apart_24 : decode cX5_apart 24 = .ok (.ireturn, 1) := by decide +kernel
theorem dX5_reading_0 : decode cX5_reading 0 = .ok (.aload_n 0, 1) := by decide +kernel
theorem dX5_reading_1 : decode cX5_reading 1 = .ok (.iload_n 1, 1) := by decide +kernel
theorem dX5_reading_2 : decode cX5_reading 2 = .ok (.invokevirtual 86, 3) := by decide +kernel
theorem dX5_reading_5 : decode cX5_reading 5 = .ok (.astore 4, 2) := by decide +kernel
theorem dX5_reading_7 : decode cX5_reading 7 = .ok (.aload 4, 2) := by decide +kernel
theorem dX5_reading_9 : decode cX5_reading 9 = .ok (.ifnull 12, 3) := by decide +kernel
theorem dX5_reading_21 : decode cX5_reading 21 = .ok (.iconst (-1), 1) := by decide +kernel
theorem dX5_reading_22 : decode cX5_reading 22 = .ok (.ireturn, 1) := by decide +kernel
theorem dX5_mark_0 : decode cX5_mark 0 = .ok (.aload_n 0, 1) := by decide +kernel
theorem dX5_mark_1 : decode cX5_mark 1 = .ok (.iload_n 1, 1) := by decide +kernel
theorem dX5_mark_2 : decode cX5_mark 2 = .ok (.invokevirtual 86, 3) := by decide +kernel
theorem dX5_mark_5 : decode cX5_mark 5 = .ok (.astore 4, 2) := by decide +kernel
theorem dX5_mark_7 : decode cX5_mark 7 = .ok (.aload 4, 2) := by decide +kernel
theorem dX5_mark_9 : decode cX5_mark 9 = .ok (.ifnull 11, 3) := by decide +kernel
theorem dX5_mark_20 : decode cX5_mark 20 = .ok (.iconst (-1), 1) := by decide +kernel
theorem dX5_mark_21 : decode cX5_mark 21 = .ok (.ireturn, 1) := by decide +kernel
theorem dX5_load_0 : decode cX5_load 0 = .ok (.aload_n 0, 1) := by decide +kernel
theorem dX5_load_1 : decode cX5_load 1 = .ok (.iload_n 1, 1) := by decide +kernel
theorem dX5_load_2 : decode cX5_load 2 = .ok (.invokevirtual 208, 3) := by decide +kernel
theorem dX5_load_5 : decode cX5_load 5 = .ok (.astore_n 2, 1) := by decide +kernel
theorem dX5_load_6 : decode cX5_load 6 = .ok (.aload_n 2, 1) := by decide +kernel
theorem dX5_load_7 : decode cX5_load 7 = .ok (.ifnonnull 7, 3) := by decide +kernel
theorem dX5_load_10 : decode cX5_load 10 = .ok (.iconst (-1), 1) := by decide +kernel
theorem dX5_load_11 : decode cX5_load 11 = .ok (.goto 7, 3) := by decide +kernel
theorem dX5_load_18 : decode cX5_load 18 = .ok (.ireturn, 1) := by decide +kernel
theorem dX5_shift_0 : decode cX5_shift 0 = .ok (.aload_n 0, 1) := by decide +kernel
theorem dX5_shift_1 : decode cX5_shift 1 = .ok (.iload_n 1, 1) := by decide +kernel
theorem dX5_shift_2 : decode cX5_shift 2 = .ok (.invokevirtual 208, 3) := by decide +kernel
theorem dX5_shift_5 : decode cX5_shift 5 = .ok (.ifnonnull 9, 3) := by decide +kernel
theorem dX5_shift_8 : decode cX5_shift 8 = .ok (.sipush (-1000), 3) := by decide +kernel
theorem dX5_shift_11 : decode cX5_shift 11 = .ok (.goto 8, 3) := by decide +kernel
theorem dX5_shift_19 : decode cX5_shift 19 = .ok (.ireturn, 1) := by decide +kernel
theorem dX5_score_0 : decode cX5_score 0 = .ok (.aload_n 0, 1) := by decide +kernel
theorem dX5_score_1 : decode cX5_score 1 = .ok (.iload_n 1, 1) := by decide +kernel
theorem dX5_score_2 : decode cX5_score 2 = .ok (.invokevirtual 86, 3) := by decide +kernel
theorem dX5_score_5 : decode cX5_score 5 = .ok (.astore_n 3, 1) := by decide +kernel
theorem dX5_score_6 : decode cX5_score 6 = .ok (.aload_n 3, 1) := by decide +kernel
theorem dX5_score_7 : decode cX5_score 7 = .ok (.ifnull 12, 3) := by decide +kernel
theorem dX5_score_19 : decode cX5_score 19 = .ok (.iconst (-1), 1) := by decide +kernel
theorem dX5_score_20 : decode cX5_score 20 = .ok (.ireturn, 1) := by decide +kernel
theorem dX5_quota_0 : decode cX5_quota 0 = .ok (.iload_n 1, 1) := by decide +kernel
theorem dX5_quota_1 : decode cX5_quota 1 = .ok (.iconst 0, 1) := by decide +kernel
theorem dX5_quota_2 : decode cX5_quota 2 = .ok (.iconst 3, 1) := by decide +kernel
theorem dX5_quota_3 : decode cX5_quota 3 = .ok (.invokestatic 68, 3) := by decide +kernel
theorem dX5_quota_6 : decode cX5_quota 6 = .ok (.ifCond .ne 5, 3) := by decide +kernel
theorem dX5_quota_9 : decode cX5_quota 9 = .ok (.iconst (-1), 1) := by decide +kernel
theorem dX5_quota_10 : decode cX5_quota 10 = .ok (.ireturn, 1) := by decide +kernel
theorem dX5_quota_11 : decode cX5_quota 11 = .ok (.iload_n 2, 1) := by decide +kernel
theorem dX5_quota_12 : decode cX5_quota 12 = .ok (.iconst 0, 1) := by decide +kernel
theorem dX5_quota_13 : decode cX5_quota 13 = .ok (.bipush 24, 2) := by decide +kernel
theorem dX5_quota_15 : decode cX5_quota 15 = .ok (.invokestatic 68, 3) := by decide +kernel
theorem dX5_quota_18 : decode cX5_quota 18 = .ok (.ifCond .ne 6, 3) := by decide +kernel
theorem dX5_quota_21 : decode cX5_quota 21 = .ok (.bipush (-2), 2) := by decide +kernel
theorem dX5_quota_23 : decode cX5_quota 23 = .ok (.ireturn, 1) := by decide +kernel
theorem dX5_quota_24 : decode cX5_quota 24 = .ok (.aload_n 0, 1) := by decide +kernel
theorem dX5_quota_25 : decode cX5_quota 25 = .ok (.getfield 45, 3) := by decide +kernel
theorem dX5_quota_28 : decode cX5_quota 28 = .ok (.iload_n 1, 1) := by decide +kernel
theorem dX5_quota_29 : decode cX5_quota 29 = .ok (.iaload, 1) := by decide +kernel
theorem dX5_quota_30 : decode cX5_quota 30 = .ok (.istore_n 3, 1) := by decide +kernel
theorem dX5_quota_31 : decode cX5_quota 31 = .ok (.aload_n 0, 1) := by decide +kernel
theorem dX5_quota_32 : decode cX5_quota 32 = .ok (.getfield 45, 3) := by decide +kernel
theorem dX5_quota_35 : decode cX5_quota 35 = .ok (.iload_n 1, 1) := by decide +kernel
theorem dX5_quota_36 : decode cX5_quota 36 = .ok (.iload_n 2, 1) := by decide +kernel
theorem dX5_quota_37 : decode cX5_quota 37 = .ok (.iastore, 1) := by decide +kernel
theorem dX5_quota_38 : decode cX5_quota 38 = .ok (.iload_n 3, 1) := by decide +kernel
theorem dX5_quota_39 : decode cX5_quota 39 = .ok (.ireturn, 1) := by decide +kernel
theorem dX5_rule_0 : decode cX5_rule 0 = .ok (.iload_n 1, 1) := by decide +kernel
theorem dX5_rule_1 : decode cX5_rule 1 = .ok (.iconst 0, 1) := by decide +kernel
theorem dX5_rule_2 : decode cX5_rule 2 = .ok (.iconst 2, 1) := by decide +kernel
theorem dX5_rule_3 : decode cX5_rule 3 = .ok (.invokestatic 68, 3) := by decide +kernel
theorem dX5_rule_6 : decode cX5_rule 6 = .ok (.ifCond .eq 12, 3) := by decide +kernel
theorem dX5_rule_9 : decode cX5_rule 9 = .ok (.iload_n 2, 1) := by decide +kernel
theorem dX5_rule_10 : decode cX5_rule 10 = .ok (.iconst 0, 1) := by decide +kernel
theorem dX5_rule_11 : decode cX5_rule 11 = .ok (.iconst 1, 1) := by decide +kernel
theorem dX5_rule_12 : decode cX5_rule 12 = .ok (.invokestatic 68, 3) := by decide +kernel
theorem dX5_rule_15 : decode cX5_rule 15 = .ok (.ifCond .ne 6, 3) := by decide +kernel
theorem dX5_rule_18 : decode cX5_rule 18 = .ok (.bipush (-2), 2) := by decide +kernel
theorem dX5_rule_20 : decode cX5_rule 20 = .ok (.ireturn, 1) := by decide +kernel
theorem dX5_rule_21 : decode cX5_rule 21 = .ok (.aload_n 0, 1) := by decide +kernel
theorem dX5_rule_22 : decode cX5_rule 22 = .ok (.iload_n 1, 1) := by decide +kernel
theorem dX5_rule_23 : decode cX5_rule 23 = .ok (.putfield 49, 3) := by decide +kernel
theorem dX5_rule_26 : decode cX5_rule 26 = .ok (.aload_n 0, 1) := by decide +kernel
theorem dX5_rule_27 : decode cX5_rule 27 = .ok (.iload_n 2, 1) := by decide +kernel
theorem dX5_rule_28 : decode cX5_rule 28 = .ok (.putfield 52, 3) := by decide +kernel
theorem dX5_rule_31 : decode cX5_rule 31 = .ok (.iconst 0, 1) := by decide +kernel
theorem dX5_rule_32 : decode cX5_rule 32 = .ok (.ireturn, 1) := by decide +kernel
theorem dX5_passes_0 : decode cX5_passes 0 = .ok (.aload_n 0, 1) := by decide +kernel
theorem dX5_passes_1 : decode cX5_passes 1 = .ok (.iload_n 1, 1) := by decide +kernel
theorem dX5_passes_2 : decode cX5_passes 2 = .ok (.invokevirtual 86, 3) := by decide +kernel
theorem dX5_passes_5 : decode cX5_passes 5 = .ok (.ifnonnull 5, 3) := by decide +kernel
theorem dX5_passes_8 : decode cX5_passes 8 = .ok (.iconst (-1), 1) := by decide +kernel
theorem dX5_passes_9 : decode cX5_passes 9 = .ok (.ireturn, 1) := by decide +kernel
theorem dX5_passed_0 : decode cX5_passed 0 = .ok (.iload_n 1, 1) := by decide +kernel
theorem dX5_passed_1 : decode cX5_passed 1 = .ok (.iconst 0, 1) := by decide +kernel
theorem dX5_passed_2 : decode cX5_passed 2 = .ok (.iconst 3, 1) := by decide +kernel
theorem dX5_passed_3 : decode cX5_passed 3 = .ok (.invokestatic 68, 3) := by decide +kernel
theorem dX5_passed_6 : decode cX5_passed 6 = .ok (.ifCond .ne 5, 3) := by decide +kernel
theorem dX5_passed_9 : decode cX5_passed 9 = .ok (.iconst (-1), 1) := by decide +kernel
theorem dX5_passed_10 : decode cX5_passed 10 = .ok (.ireturn, 1) := by decide +kernel
theorem dX5_passed_11 : decode cX5_passed 11 = .ok (.aload_n 0, 1) := by decide +kernel
theorem dX5_passed_12 : decode cX5_passed 12 = .ok (.iconst (-1), 1) := by decide +kernel
theorem dX5_passed_13 : decode cX5_passed 13 = .ok (.invokevirtual 231, 3) := by decide +kernel
theorem dX5_passed_16 : decode cX5_passed 16 = .ok (.iconst 0, 1) := by decide +kernel
theorem dX5_passed_17 : decode cX5_passed 17 = .ok (.istore_n 2, 1) := by decide +kernel
theorem dX5_passed_18 : decode cX5_passed 18 = .ok (.iconst 0, 1) := by decide +kernel
theorem dX5_passed_19 : decode cX5_passed 19 = .ok (.istore_n 3, 1) := by decide +kernel
theorem dX5_passed_20 : decode cX5_passed 20 = .ok (.iload_n 3, 1) := by decide +kernel
theorem dX5_passed_21 : decode cX5_passed 21 = .ok (.aload_n 0, 1) := by decide +kernel
theorem dX5_passed_22 : decode cX5_passed 22 = .ok (.getfield 15, 3) := by decide +kernel
theorem dX5_passed_25 : decode cX5_passed 25 = .ok (.if_icmp .ge 42, 3) := by decide +kernel
theorem dX5_passed_67 : decode cX5_passed 67 = .ok (.iload_n 2, 1) := by decide +kernel
theorem dX5_passed_68 : decode cX5_passed 68 = .ok (.ireturn, 1) := by decide +kernel
theorem dX5_strike_0 : decode cX5_strike 0 = .ok (.aload_n 0, 1) := by decide +kernel
theorem dX5_strike_1 : decode cX5_strike 1 = .ok (.iload_n 1, 1) := by decide +kernel
theorem dX5_strike_2 : decode cX5_strike 2 = .ok (.invokevirtual 86, 3) := by decide +kernel
theorem dX5_strike_5 : decode cX5_strike 5 = .ok (.astore_n 3, 1) := by decide +kernel
theorem dX5_strike_6 : decode cX5_strike 6 = .ok (.aload_n 3, 1) := by decide +kernel
theorem dX5_strike_7 : decode cX5_strike 7 = .ok (.ifnonnull 5, 3) := by decide +kernel
theorem dX5_strike_10 : decode cX5_strike 10 = .ok (.iconst (-1), 1) := by decide +kernel
theorem dX5_strike_11 : decode cX5_strike 11 = .ok (.ireturn, 1) := by decide +kernel
theorem dX5_ifStruck_0 : decode cX5_ifStruck 0 = .ok (.aload_n 0, 1) := by decide +kernel
theorem dX5_ifStruck_1 : decode cX5_ifStruck 1 = .ok (.iload_n 1, 1) := by decide +kernel
theorem dX5_ifStruck_2 : decode cX5_ifStruck 2 = .ok (.invokevirtual 86, 3) := by decide +kernel
theorem dX5_ifStruck_5 : decode cX5_ifStruck 5 = .ok (.ifnonnull 5, 3) := by decide +kernel
theorem dX5_ifStruck_8 : decode cX5_ifStruck 8 = .ok (.iconst (-1), 1) := by decide +kernel
theorem dX5_ifStruck_9 : decode cX5_ifStruck 9 = .ok (.ireturn, 1) := by decide +kernel
theorem dX5_cell_0 : decode cX5_cell 0 = .ok (.aload_n 0, 1) := by decide +kernel
theorem dX5_cell_1 : decode cX5_cell 1 = .ok (.iload_n 1, 1) := by decide +kernel
theorem dX5_cell_2 : decode cX5_cell 2 = .ok (.invokevirtual 86, 3) := by decide +kernel
theorem dX5_cell_5 : decode cX5_cell 5 = .ok (.astore_n 3, 1) := by decide +kernel
theorem dX5_cell_6 : decode cX5_cell 6 = .ok (.aload_n 3, 1) := by decide +kernel
theorem dX5_cell_7 : decode cX5_cell 7 = .ok (.ifnonnull 6, 3) := by decide +kernel
theorem dX5_cell_10 : decode cX5_cell 10 = .ok (.bipush (-5), 2) := by decide +kernel
theorem dX5_cell_12 : decode cX5_cell 12 = .ok (.ireturn, 1) := by decide +kernel
theorem dX5_kin_0 : decode cX5_kin 0 = .ok (.aload_n 0, 1) := by decide +kernel
theorem dX5_kin_1 : decode cX5_kin 1 = .ok (.iload_n 1, 1) := by decide +kernel
theorem dX5_kin_2 : decode cX5_kin 2 = .ok (.invokevirtual 86, 3) := by decide +kernel
theorem dX5_kin_5 : decode cX5_kin 5 = .ok (.astore_n 3, 1) := by decide +kernel
theorem dX5_kin_6 : decode cX5_kin 6 = .ok (.aload_n 0, 1) := by decide +kernel
theorem dX5_kin_7 : decode cX5_kin 7 = .ok (.iload_n 2, 1) := by decide +kernel
theorem dX5_kin_8 : decode cX5_kin 8 = .ok (.invokevirtual 86, 3) := by decide +kernel
theorem dX5_kin_11 : decode cX5_kin 11 = .ok (.astore 4, 2) := by decide +kernel
theorem dX5_kin_13 : decode cX5_kin 13 = .ok (.aload_n 3, 1) := by decide +kernel
theorem dX5_kin_14 : decode cX5_kin 14 = .ok (.ifnull 8, 3) := by decide +kernel
theorem dX5_kin_22 : decode cX5_kin 22 = .ok (.iconst (-1), 1) := by decide +kernel
theorem dX5_kin_23 : decode cX5_kin 23 = .ok (.ireturn, 1) := by decide +kernel
theorem dX5_near_0 : decode cX5_near 0 = .ok (.iconst 0, 1) := by decide +kernel
theorem dX5_near_1 : decode cX5_near 1 = .ok (.istore_n 1, 1) := by decide +kernel
theorem dX5_near_2 : decode cX5_near 2 = .ok (.iconst 0, 1) := by decide +kernel
theorem dX5_near_3 : decode cX5_near 3 = .ok (.istore_n 2, 1) := by decide +kernel
theorem dX5_near_4 : decode cX5_near 4 = .ok (.iload_n 2, 1) := by decide +kernel
theorem dX5_near_5 : decode cX5_near 5 = .ok (.aload_n 0, 1) := by decide +kernel
theorem dX5_near_6 : decode cX5_near 6 = .ok (.getfield 15, 3) := by decide +kernel
theorem dX5_near_9 : decode cX5_near 9 = .ok (.if_icmp .ge 47, 3) := by decide +kernel
theorem dX5_near_56 : decode cX5_near 56 = .ok (.iload_n 1, 1) := by decide +kernel
theorem dX5_near_57 : decode cX5_near 57 = .ok (.ireturn, 1) := by decide +kernel
theorem dX5_isWithin_0 : decode cX5_isWithin 0 = .ok (.iload_n 0, 1) := by decide +kernel
theorem dX5_isWithin_1 : decode cX5_isWithin 1 = .ok (.iload_n 1, 1) := by decide +kernel
theorem dX5_isWithin_2 : decode cX5_isWithin 2 = .ok (.if_icmp .lt 12, 3) := by decide +kernel
theorem dX5_isWithin_5 : decode cX5_isWithin 5 = .ok (.iload_n 0, 1) := by decide +kernel
theorem dX5_isWithin_6 : decode cX5_isWithin 6 = .ok (.iload_n 2, 1) := by decide +kernel
theorem dX5_isWithin_7 : decode cX5_isWithin 7 = .ok (.if_icmp .gt 7, 3) := by decide +kernel
theorem dX5_isWithin_10 : decode cX5_isWithin 10 = .ok (.iconst 1, 1) := by decide +kernel
theorem dX5_isWithin_11 : decode cX5_isWithin 11 = .ok (.goto 4, 3) := by decide +kernel
theorem dX5_isWithin_14 : decode cX5_isWithin 14 = .ok (.iconst 0, 1) := by decide +kernel
theorem dX5_isWithin_15 : decode cX5_isWithin 15 = .ok (.ireturn, 1) := by decide +kernel
theorem dX5_isLetter_0 : decode cX5_isLetter 0 = .ok (.iload_n 0, 1) := by decide +kernel
theorem dX5_isLetter_1 : decode cX5_isLetter 1 = .ok (.bipush 97, 2) := by decide +kernel
theorem dX5_isLetter_3 : decode cX5_isLetter 3 = .ok (.if_icmp .lt 13, 3) := by decide +kernel
theorem dX5_isLetter_6 : decode cX5_isLetter 6 = .ok (.iload_n 0, 1) := by decide +kernel
theorem dX5_isLetter_7 : decode cX5_isLetter 7 = .ok (.bipush 122, 2) := by decide +kernel
theorem dX5_isLetter_9 : decode cX5_isLetter 9 = .ok (.if_icmp .gt 7, 3) := by decide +kernel
theorem dX5_isLetter_12 : decode cX5_isLetter 12 = .ok (.iconst 1, 1) := by decide +kernel
theorem dX5_isLetter_13 : decode cX5_isLetter 13 = .ok (.goto 4, 3) := by decide +kernel
theorem dX5_isLetter_16 : decode cX5_isLetter 16 = .ok (.iconst 0, 1) := by decide +kernel
theorem dX5_isLetter_17 : decode cX5_isLetter 17 = .ok (.ireturn, 1) := by decide +kernel
theorem dX5_find_0 : decode cX5_find 0 = .ok (.iload_n 1, 1) := by decide +kernel
theorem dX5_find_1 : decode cX5_find 1 = .ok (.ifCond .lt 20, 3) := by decide +kernel
theorem dX5_find_4 : decode cX5_find 4 = .ok (.iload_n 1, 1) := by decide +kernel
theorem dX5_find_5 : decode cX5_find 5 = .ok (.aload_n 0, 1) := by decide +kernel
theorem dX5_find_6 : decode cX5_find 6 = .ok (.getfield 15, 3) := by decide +kernel
theorem dX5_find_9 : decode cX5_find 9 = .ok (.if_icmp .ge 12, 3) := by decide +kernel
theorem dX5_find_21 : decode cX5_find 21 = .ok (.aconst_null, 1) := by decide +kernel
theorem dX5_find_22 : decode cX5_find 22 = .ok (.areturn, 1) := by decide +kernel
theorem dX5_findReader_0 : decode cX5_findReader 0 = .ok (.iload_n 1, 1) := by decide +kernel
theorem dX5_findReader_1 : decode cX5_findReader 1 = .ok (.ifCond .lt 20, 3) := by decide +kernel
theorem dX5_findReader_4 : decode cX5_findReader 4 = .ok (.iload_n 1, 1) := by decide +kernel
theorem dX5_findReader_5 : decode cX5_findReader 5 = .ok (.aload_n 0, 1) := by decide +kernel
theorem dX5_findReader_6 : decode cX5_findReader 6 = .ok (.getfield 25, 3) := by decide +kernel
theorem dX5_findReader_9 : decode cX5_findReader 9 = .ok (.if_icmp .ge 12, 3) := by decide +kernel
theorem dX5_findReader_21 : decode cX5_findReader 21 = .ok (.aconst_null, 1) := by decide +kernel
theorem dX5_findReader_22 : decode cX5_findReader 22 = .ok (.areturn, 1) := by decide +kernel
theorem dX5_textOf_0 : decode cX5_textOf 0 = .ok (.aload_n 0, 1) := by decide +kernel
theorem dX5_textOf_1 : decode cX5_textOf 1 = .ok (.iload_n 1, 1) := by decide +kernel
theorem dX5_textOf_2 : decode cX5_textOf 2 = .ok (.invokevirtual 86, 3) := by decide +kernel
theorem dX5_textOf_5 : decode cX5_textOf 5 = .ok (.astore_n 2, 1) := by decide +kernel
theorem dX5_textOf_6 : decode cX5_textOf 6 = .ok (.aload_n 2, 1) := by decide +kernel
theorem dX5_textOf_7 : decode cX5_textOf 7 = .ok (.ifnonnull 7, 3) := by decide +kernel
theorem dX5_textOf_10 : decode cX5_textOf 10 = .ok (.aconst_null, 1) := by decide +kernel
theorem dX5_textOf_11 : decode cX5_textOf 11 = .ok (.goto 7, 3) := by decide +kernel
theorem dX5_textOf_18 : decode cX5_textOf 18 = .ok (.areturn, 1) := by decide +kernel
theorem dX5_bearerOf_0 : decode cX5_bearerOf 0 = .ok (.iconst 0, 1) := by decide +kernel
theorem dX5_bearerOf_1 : decode cX5_bearerOf 1 = .ok (.istore_n 2, 1) := by decide +kernel
theorem dX5_bearerOf_2 : decode cX5_bearerOf 2 = .ok (.iload_n 2, 1) := by decide +kernel
theorem dX5_bearerOf_3 : decode cX5_bearerOf 3 = .ok (.aload_n 0, 1) := by decide +kernel
theorem dX5_bearerOf_4 : decode cX5_bearerOf 4 = .ok (.getfield 15, 3) := by decide +kernel
theorem dX5_bearerOf_7 : decode cX5_bearerOf 7 = .ok (.if_icmp .ge 29, 3) := by decide +kernel
theorem dX5_bearerOf_36 : decode cX5_bearerOf 36 = .ok (.iconst (-1), 1) := by decide +kernel
theorem dX5_bearerOf_37 : decode cX5_bearerOf 37 = .ok (.ireturn, 1) := by decide +kernel
theorem dX5_openedBy_0 : decode cX5_openedBy 0 = .ok (.iconst 0, 1) := by decide +kernel
theorem dX5_openedBy_1 : decode cX5_openedBy 1 = .ok (.istore_n 2, 1) := by decide +kernel
theorem dX5_openedBy_2 : decode cX5_openedBy 2 = .ok (.iconst 0, 1) := by decide +kernel
theorem dX5_openedBy_3 : decode cX5_openedBy 3 = .ok (.istore_n 3, 1) := by decide +kernel
theorem dX5_openedBy_4 : decode cX5_openedBy 4 = .ok (.iload_n 3, 1) := by decide +kernel
theorem dX5_openedBy_5 : decode cX5_openedBy 5 = .ok (.aload_n 0, 1) := by decide +kernel
theorem dX5_openedBy_6 : decode cX5_openedBy 6 = .ok (.getfield 15, 3) := by decide +kernel
theorem dX5_openedBy_9 : decode cX5_openedBy 9 = .ok (.if_icmp .ge 33, 3) := by decide +kernel
theorem dX5_openedBy_42 : decode cX5_openedBy 42 = .ok (.iload_n 2, 1) := by decide +kernel
theorem dX5_openedBy_43 : decode cX5_openedBy 43 = .ok (.ireturn, 1) := by decide +kernel
theorem dX5_settleShifts_0 : decode cX5_settleShifts 0 = .ok (.iconst 0, 1) := by decide +kernel
theorem dX5_settleShifts_1 : decode cX5_settleShifts 1 = .ok (.istore_n 1, 1) := by decide +kernel
theorem dX5_settleShifts_2 : decode cX5_settleShifts 2 = .ok (.iload_n 1, 1) := by decide +kernel
theorem dX5_settleShifts_3 : decode cX5_settleShifts 3 = .ok (.aload_n 0, 1) := by decide +kernel
theorem dX5_settleShifts_4 : decode cX5_settleShifts 4 = .ok (.getfield 25, 3) := by decide +kernel
theorem dX5_settleShifts_7 : decode cX5_settleShifts 7 = .ok (.if_icmp .ge 20, 3) := by decide +kernel
theorem dX5_settleShifts_27 : decode cX5_settleShifts 27 = .ok (.return_, 1) := by decide +kernel
theorem dX5_settle_0 : decode cX5_settle 0 = .ok (.aload_n 0, 1) := by decide +kernel
theorem dX5_settle_1 : decode cX5_settle 1 = .ok (.invokevirtual 224, 3) := by decide +kernel
theorem dX5_settle_4 : decode cX5_settle 4 = .ok (.iconst 0, 1) := by decide +kernel
theorem dX5_settle_5 : decode cX5_settle 5 = .ok (.istore_n 2, 1) := by decide +kernel
theorem dX5_settle_6 : decode cX5_settle 6 = .ok (.iload_n 2, 1) := by decide +kernel
theorem dX5_settle_7 : decode cX5_settle 7 = .ok (.aload_n 0, 1) := by decide +kernel
theorem dX5_settle_8 : decode cX5_settle 8 = .ok (.getfield 15, 3) := by decide +kernel
theorem dX5_settle_11 : decode cX5_settle 11 = .ok (.if_icmp .ge 51, 3) := by decide +kernel
theorem dX5_settle_62 : decode cX5_settle 62 = .ok (.iconst 0, 1) := by decide +kernel
theorem dX5_settle_63 : decode cX5_settle 63 = .ok (.istore_n 2, 1) := by decide +kernel
theorem dX5_settle_64 : decode cX5_settle 64 = .ok (.iload_n 2, 1) := by decide +kernel
theorem dX5_settle_65 : decode cX5_settle 65 = .ok (.aload_n 0, 1) := by decide +kernel
theorem dX5_settle_66 : decode cX5_settle 66 = .ok (.getfield 15, 3) := by decide +kernel
theorem dX5_settle_69 : decode cX5_settle 69 = .ok (.if_icmp .ge 38, 3) := by decide +kernel
theorem dX5_settle_107 : decode cX5_settle 107 = .ok (.return_, 1) := by decide +kernel
theorem dX5_essayCount_0 : decode cX5_essayCount 0 = .ok (.iconst 0, 1) := by decide +kernel
theorem dX5_essayCount_1 : decode cX5_essayCount 1 = .ok (.istore_n 1, 1) := by decide +kernel
theorem dX5_essayCount_2 : decode cX5_essayCount 2 = .ok (.iconst 0, 1) := by decide +kernel
theorem dX5_essayCount_3 : decode cX5_essayCount 3 = .ok (.istore_n 2, 1) := by decide +kernel
theorem dX5_essayCount_4 : decode cX5_essayCount 4 = .ok (.iload_n 2, 1) := by decide +kernel
theorem dX5_essayCount_5 : decode cX5_essayCount 5 = .ok (.aload_n 0, 1) := by decide +kernel
theorem dX5_essayCount_6 : decode cX5_essayCount 6 = .ok (.getfield 15, 3) := by decide +kernel
theorem dX5_essayCount_9 : decode cX5_essayCount 9 = .ok (.if_icmp .ge 25, 3) := by decide +kernel
theorem dX5_essayCount_34 : decode cX5_essayCount 34 = .ok (.iload_n 1, 1) := by decide +kernel
theorem dX5_essayCount_35 : decode cX5_essayCount 35 = .ok (.ireturn, 1) := by decide +kernel
theorem dX5_struckCount_0 : decode cX5_struckCount 0 = .ok (.iconst 0, 1) := by decide +kernel
theorem dX5_struckCount_1 : decode cX5_struckCount 1 = .ok (.istore_n 1, 1) := by decide +kernel
theorem dX5_struckCount_2 : decode cX5_struckCount 2 = .ok (.iconst 0, 1) := by decide +kernel
theorem dX5_struckCount_3 : decode cX5_struckCount 3 = .ok (.istore_n 2, 1) := by decide +kernel
theorem dX5_struckCount_4 : decode cX5_struckCount 4 = .ok (.iload_n 2, 1) := by decide +kernel
theorem dX5_struckCount_5 : decode cX5_struckCount 5 = .ok (.aload_n 0, 1) := by decide +kernel
theorem dX5_struckCount_6 : decode cX5_struckCount 6 = .ok (.getfield 15, 3) := by decide +kernel
theorem dX5_struckCount_9 : decode cX5_struckCount 9 = .ok (.if_icmp .ge 34, 3) := by decide +kernel
theorem dX5_struckCount_43 : decode cX5_struckCount 43 = .ok (.iload_n 1, 1) := by decide +kernel
theorem dX5_struckCount_44 : decode cX5_struckCount 44 = .ok (.ireturn, 1) := by decide +kernel
theorem dX5_markCount_0 : decode cX5_markCount 0 = .ok (.iconst 0, 1) := by decide +kernel
theorem dX5_markCount_1 : decode cX5_markCount 1 = .ok (.istore_n 1, 1) := by decide +kernel
theorem dX5_markCount_2 : decode cX5_markCount 2 = .ok (.iconst 0, 1) := by decide +kernel
theorem dX5_markCount_3 : decode cX5_markCount 3 = .ok (.istore_n 2, 1) := by decide +kernel
theorem dX5_markCount_4 : decode cX5_markCount 4 = .ok (.iload_n 2, 1) := by decide +kernel
theorem dX5_markCount_5 : decode cX5_markCount 5 = .ok (.aload_n 0, 1) := by decide +kernel
theorem dX5_markCount_6 : decode cX5_markCount 6 = .ok (.getfield 15, 3) := by decide +kernel
theorem dX5_markCount_9 : decode cX5_markCount 9 = .ok (.if_icmp .ge 30, 3) := by decide +kernel
theorem dX5_markCount_39 : decode cX5_markCount 39 = .ok (.iload_n 1, 1) := by decide +kernel
theorem dX5_markCount_40 : decode cX5_markCount 40 = .ok (.ireturn, 1) := by decide +kernel
theorem dX5_passingCount_0 : decode cX5_passingCount 0 = .ok (.iconst 0, 1) := by decide +kernel
theorem dX5_passingCount_1 : decode cX5_passingCount 1 = .ok (.istore_n 1, 1) := by decide +kernel
theorem dX5_passingCount_2 : decode cX5_passingCount 2 = .ok (.iconst 0, 1) := by decide +kernel
theorem dX5_passingCount_3 : decode cX5_passingCount 3 = .ok (.istore_n 2, 1) := by decide +kernel
theorem dX5_passingCount_4 : decode cX5_passingCount 4 = .ok (.iload_n 2, 1) := by decide +kernel
theorem dX5_passingCount_5 : decode cX5_passingCount 5 = .ok (.aload_n 0, 1) := by decide +kernel
theorem dX5_passingCount_6 : decode cX5_passingCount 6 = .ok (.getfield 15, 3) := by decide +kernel
theorem dX5_passingCount_9 : decode cX5_passingCount 9 = .ok (.if_icmp .ge 26, 3) := by decide +kernel
theorem dX5_passingCount_35 : decode cX5_passingCount 35 = .ok (.iload_n 1, 1) := by decide +kernel
theorem dX5_passingCount_36 : decode cX5_passingCount 36 = .ok (.ireturn, 1) := by decide +kernel
