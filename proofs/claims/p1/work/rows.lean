section
theorem goodIn_r {big : List Cond} (ws : List Cond) (ps : List Nat) (hp : ws = ps.filterMap (fun i => big[i]?)) (h : ws.all goodWord = true) : GoodIn big ws := by
  intro w hw
  have h1 := List.all_eq_true.mp h w hw
  rw [hp] at hw
  obtain ⟨i, -, hi⟩ := List.mem_filterMap.mp hw
  have hm : w ∈ big := by first | exact List.mem_of_getElem? hi | exact List.getElem?_mem hi
  exact ⟨hm, good_of_word h1⟩
theorem goodIn_app {big a b : List Cond} (ha : GoodIn big a) (hb : GoodIn big b) : GoodIn big (a ++ b) := fun w h => (List.mem_append.mp h).elim (ha w) (hb w)
theorem goodIn_ca {big a b : List Cond} {c : Cond} (ha : GoodIn big (c :: a)) (hb : GoodIn big b) : GoodIn big (c :: (a ++ b)) := fun w h => (List.mem_cons.mp h).elim (fun e => ha w (List.mem_cons.mpr (Or.inl e))) (fun h => (List.mem_append.mp h).elim (fun h => ha w (List.mem_cons.mpr (Or.inr h))) (hb w))
theorem goodIn_sub {big ws : List Cond} (hm : ∀ w ∈ ws, w ∈ big) (h : ws.all goodWord = true) : GoodIn big ws := fun w hw => ⟨hm w hw, good_of_word (List.all_eq_true.mp h w hw)⟩
def RX0 : String := "ExamHalls$Candidate"
def TX0 : u_T := fun k => match k with
  | 0 => ("ExamHalls$Candidate", "province", "I", true)
  | 1 => ("ExamHalls$Candidate", "text", "LExamHalls$Essay;", false)
  | 2 => ("ExamHalls$Candidate", "number", "I", false)
  | 3 => ("ExamHalls$Candidate", "place", "I", false)
  | 4 => ("ExamHalls$Candidate", "struck", "Z", false)
  | 5 => ("ExamHalls$Candidate", "kinBits", "I", false)
  | 6 => ("ExamHalls$Candidate", "seenBits", "[I", true)
  | 7 => ("ExamHalls$Candidate", "readBy", "[I", true)
  | 8 => ("ExamHalls$Candidate", "marks", "[I", true)
  | _ => ("ExamHalls$Candidate", "readingCount", "I", false)
def tyX0 : Nat → FieldType := fun k => match k with
  | 0 => .int
  | 1 => .object "ExamHalls$Essay"
  | 2 => .int
  | 3 => .int
  | 4 => .boolean
  | 5 => .int
  | 6 => .array .int
  | 7 => .array .int
  | 8 => .array .int
  | _ => .int
abbrev wsX00 : List Cond := u_ws RX0 TX0 10
theorem nmX0 : ∀ a, a < 10 → ∀ b, b < 10 → a ≠ b → (TX0 a).2.1 ≠ (TX0 b).2.1 := by decide +kernel
theorem tyX0_ok : ∀ k, k < 10 → parseFieldDescriptor (TX0 k).2.2.1 = some (tyX0 k) := by decide +kernel
abbrev cX0_init : ByteArray := prog_2_method_1_code
def yX0_init : MethodName := ⟨RX0, "<init>", "(I)V"⟩
abbrev cX0_isKinOf : ByteArray := prog_2_method_2_code
def yX0_isKinOf : MethodName := ⟨RX0, "isKinOf", "(I)Z"⟩
abbrev cX0_addKin : ByteArray := prog_2_method_3_code
def yX0_addKin : MethodName := ⟨RX0, "addKin", "(I)V"⟩
abbrev cX0_show : ByteArray := prog_2_method_4_code
def yX0_show : MethodName := ⟨RX0, "show", "(III)Z"⟩
abbrev cX0_isOpenedBy : ByteArray := prog_2_method_5_code
def yX0_isOpenedBy : MethodName := ⟨RX0, "isOpenedBy", "(I)Z"⟩
abbrev cX0_hasReading : ByteArray := prog_2_method_6_code
def yX0_hasReading : MethodName := ⟨RX0, "hasReading", "(I)Z"⟩
abbrev cX0_readerAt : ByteArray := prog_2_method_7_code
def yX0_readerAt : MethodName := ⟨RX0, "readerAt", "(I)I"⟩
abbrev cX0_markAt : ByteArray := prog_2_method_8_code
def yX0_markAt : MethodName := ⟨RX0, "markAt", "(I)I"⟩
abbrev cX0_isMarked : ByteArray := prog_2_method_9_code
def yX0_isMarked : MethodName := ⟨RX0, "isMarked", "(I)Z"⟩
abbrev cX0_addReading : ByteArray := prog_2_method_10_code
def yX0_addReading : MethodName := ⟨RX0, "addReading", "(I)V"⟩
abbrev cX0_setMark : ByteArray := prog_2_method_11_code
def yX0_setMark : MethodName := ⟨RX0, "setMark", "(II)V"⟩
abbrev cX0_readingOf : ByteArray := prog_2_method_12_code
def yX0_readingOf : MethodName := ⟨RX0, "readingOf", "(I)I"⟩
abbrev cX0_markedCount : ByteArray := prog_2_method_13_code
def yX0_markedCount : MethodName := ⟨RX0, "markedCount", "()I"⟩
abbrev cX0_difference : ByteArray := prog_2_method_14_code
def yX0_difference : MethodName := ⟨RX0, "difference", "(II)I"⟩
abbrev cX0_wantsThird : ByteArray := prog_2_method_15_code
def yX0_wantsThird : MethodName := ⟨RX0, "wantsThird", "(I)Z"⟩
abbrev cX0_countingReadings : ByteArray := prog_2_method_16_code
def yX0_countingReadings : MethodName := ⟨RX0, "countingReadings", "(I)I"⟩
abbrev cX0_nearestTwo : ByteArray := prog_2_method_17_code
def yX0_nearestTwo : MethodName := ⟨RX0, "nearestTwo", "()I"⟩
def RX1 : String := "ExamHalls$Essay"
def TX1 : u_T := fun k => match k with
  | 0 => ("ExamHalls$Essay", "words", "[J", true)
  | 1 => ("ExamHalls$Essay", "lengths", "[I", true)
  | _ => ("ExamHalls$Essay", "legCount", "I", false)
abbrev wsX10 : List Cond := u_ws RX1 TX1 3
abbrev cX1_init : ByteArray := prog_3_method_1_code
def yX1_init : MethodName := ⟨RX1, "<init>", "()V"⟩
abbrev cX1_readFrom : ByteArray := prog_3_method_2_code
def yX1_readFrom : MethodName := ⟨RX1, "readFrom", "(LExamHalls$Tape;)V"⟩
abbrev cX1_openLeg : ByteArray := prog_3_method_3_code
def yX1_openLeg : MethodName := ⟨RX1, "openLeg", "()V"⟩
abbrev cX1_addWord : ByteArray := prog_3_method_4_code
def yX1_addWord : MethodName := ⟨RX1, "addWord", "(J)V"⟩
abbrev cX1_hasLeg : ByteArray := prog_3_method_5_code
def yX1_hasLeg : MethodName := ⟨RX1, "hasLeg", "(I)Z"⟩
abbrev cX1_wordsOf : ByteArray := prog_3_method_6_code
def yX1_wordsOf : MethodName := ⟨RX1, "wordsOf", "(I)I"⟩
abbrev cX1_wordAt : ByteArray := prog_3_method_7_code
def yX1_wordAt : MethodName := ⟨RX1, "wordAt", "(II)J"⟩
abbrev cX1_wordCount : ByteArray := prog_3_method_8_code
def yX1_wordCount : MethodName := ⟨RX1, "wordCount", "()I"⟩
abbrev cX1_longestShared : ByteArray := prog_3_method_9_code
def yX1_longestShared : MethodName := ⟨RX1, "longestShared", "(IILExamHalls$Essay;)I"⟩
abbrev cX1_sharedFrom : ByteArray := prog_3_method_10_code
def yX1_sharedFrom : MethodName := ⟨RX1, "sharedFrom", "(IILExamHalls$Essay;II)I"⟩
def RX2 : String := "ExamHalls$Form"
def TX2 : u_T := fun k => match k with
  | 0 => ("ExamHalls$Form", "legCount", "I", false)
  | 1 => ("ExamHalls$Form", "least", "[I", true)
  | 2 => ("ExamHalls$Form", "most", "[I", true)
  | 3 => ("ExamHalls$Form", "oneSides", "[I", true)
  | 4 => ("ExamHalls$Form", "otherSides", "[I", true)
  | 5 => ("ExamHalls$Form", "parallelCount", "I", false)
  | 6 => ("ExamHalls$Form", "barred", "[J", true)
  | _ => ("ExamHalls$Form", "barredCount", "I", false)
def tyX2 : Nat → FieldType := fun k => match k with
  | 0 => .int
  | 1 => .array .int
  | 2 => .array .int
  | 3 => .array .int
  | 4 => .array .int
  | 5 => .int
  | 6 => .array .long
  | _ => .int
abbrev wsX20 : List Cond := u_ws RX2 TX2 8
theorem nmX2 : ∀ a, a < 8 → ∀ b, b < 8 → a ≠ b → (TX2 a).2.1 ≠ (TX2 b).2.1 := by decide +kernel
theorem tyX2_ok : ∀ k, k < 8 → parseFieldDescriptor (TX2 k).2.2.1 = some (tyX2 k) := by decide +kernel
abbrev cX2_init : ByteArray := prog_4_method_1_code
def yX2_init : MethodName := ⟨RX2, "<init>", "()V"⟩
abbrev cX2_setMeasure : ByteArray := prog_4_method_2_code
def yX2_setMeasure : MethodName := ⟨RX2, "setMeasure", "(III)V"⟩
abbrev cX2_addParallel : ByteArray := prog_4_method_3_code
def yX2_addParallel : MethodName := ⟨RX2, "addParallel", "(II)V"⟩
abbrev cX2_addBarred : ByteArray := prog_4_method_4_code
def yX2_addBarred : MethodName := ⟨RX2, "addBarred", "(J)V"⟩
abbrev cX2_isBarred : ByteArray := prog_4_method_5_code
def yX2_isBarred : MethodName := ⟨RX2, "isBarred", "(J)Z"⟩
abbrev cX2_judgementOf : ByteArray := prog_4_method_6_code
def yX2_judgementOf : MethodName := ⟨RX2, "judgementOf", "(LExamHalls$Essay;)I"⟩
abbrev cX2_isKept : ByteArray := prog_4_method_7_code
def yX2_isKept : MethodName := ⟨RX2, "isKept", "(LExamHalls$Essay;II)Z"⟩
abbrev cX2_hasBarred : ByteArray := prog_4_method_8_code
def yX2_hasBarred : MethodName := ⟨RX2, "hasBarred", "(LExamHalls$Essay;I)Z"⟩
def RX3 : String := "ExamHalls$Reader"
def TX3 : u_T := fun k => match k with
  | 0 => ("ExamHalls$Reader", "province", "I", true)
  | 1 => ("ExamHalls$Reader", "room", "I", true)
  | _ => ("ExamHalls$Reader", "readings", "I", false)
def tyX3 : Nat → FieldType := fun k => match k with
  | 0 => .int
  | 1 => .int
  | _ => .int
abbrev wsX30 : List Cond := u_ws RX3 TX3 3
theorem nmX3 : ∀ a, a < 3 → ∀ b, b < 3 → a ≠ b → (TX3 a).2.1 ≠ (TX3 b).2.1 := by decide +kernel
theorem tyX3_ok : ∀ k, k < 3 → parseFieldDescriptor (TX3 k).2.2.1 = some (tyX3 k) := by decide +kernel
abbrev cX3_init : ByteArray := prog_5_method_1_code
def yX3_init : MethodName := ⟨RX3, "<init>", "(II)V"⟩
def RX4 : String := "ExamHalls$Tape"
def TX4 : u_T := fun k => match k with
  | 0 => ("ExamHalls$Tape", "bytes", "[B", true)
  | _ => ("ExamHalls$Tape", "size", "I", false)
def tyX4 : Nat → FieldType := fun k => match k with
  | 0 => .array .byte
  | _ => .int
abbrev wsX40 : List Cond := u_ws RX4 TX4 2
theorem nmX4 : ∀ a, a < 2 → ∀ b, b < 2 → a ≠ b → (TX4 a).2.1 ≠ (TX4 b).2.1 := by decide +kernel
theorem tyX4_ok : ∀ k, k < 2 → parseFieldDescriptor (TX4 k).2.2.1 = some (tyX4 k) := by decide +kernel
abbrev cX4_init : ByteArray := prog_6_method_1_code
def yX4_init : MethodName := ⟨RX4, "<init>", "()V"⟩
abbrev cX4_hasRoomFor : ByteArray := prog_6_method_2_code
def yX4_hasRoomFor : MethodName := ⟨RX4, "hasRoomFor", "(I)Z"⟩
abbrev cX4_append : ByteArray := prog_6_method_3_code
def yX4_append : MethodName := ⟨RX4, "append", "(JI)V"⟩
abbrev cX4_empty : ByteArray := prog_6_method_4_code
def yX4_empty : MethodName := ⟨RX4, "empty", "()V"⟩
abbrev cX4_byteAt : ByteArray := prog_6_method_5_code
def yX4_byteAt : MethodName := ⟨RX4, "byteAt", "(I)I"⟩
abbrev cX4_findFault : ByteArray := prog_6_method_6_code
def yX4_findFault : MethodName := ⟨RX4, "findFault", "()I"⟩
def RX5 : String := "ExamHalls"
def TX5 : u_T := fun k => match k with
  | 0 => ("ExamHalls", "candidates", "[LExamHalls$Candidate;", true)
  | 1 => ("ExamHalls", "candidateCount", "I", false)
  | 2 => ("ExamHalls", "readers", "[LExamHalls$Reader;", true)
  | 3 => ("ExamHalls", "readerCount", "I", false)
  | 4 => ("ExamHalls", "tape", "LExamHalls$Tape;", true)
  | 5 => ("ExamHalls", "form", "LExamHalls$Form;", true)
  | 6 => ("ExamHalls", "apart", "I", false)
  | 7 => ("ExamHalls", "quotas", "[I", true)
  | 8 => ("ExamHalls", "ties", "I", false)
  | 9 => ("ExamHalls", "way", "I", false)
  | 10 => ("ExamHalls", "shifts", "[I", true)
  | 11 => ("ExamHalls", "values", "[I", true)
  | 12 => ("ExamHalls", "passing", "[Z", true)
  | _ => ("ExamHalls", "passedBefore", "[Z", true)
def tyX5 : Nat → FieldType := fun k => match k with
  | 0 => .array (.object "ExamHalls$Candidate")
  | 1 => .int
  | 2 => .array (.object "ExamHalls$Reader")
  | 3 => .int
  | 4 => .object "ExamHalls$Tape"
  | 5 => .object "ExamHalls$Form"
  | 6 => .int
  | 7 => .array .int
  | 8 => .int
  | 9 => .int
  | 10 => .array .int
  | 11 => .array .int
  | 12 => .array .boolean
  | _ => .array .boolean
abbrev wsX50 : List Cond := u_ws RX5 TX5 14
theorem nmX5 : ∀ a, a < 14 → ∀ b, b < 14 → a ≠ b → (TX5 a).2.1 ≠ (TX5 b).2.1 := by decide +kernel
theorem tyX5_ok : ∀ k, k < 14 → parseFieldDescriptor (TX5 k).2.2.1 = some (tyX5 k) := by decide +kernel
abbrev cX5_init : ByteArray := prog_1_method_1_code
def yX5_init : MethodName := ⟨RX5, "<init>", "()V"⟩
abbrev cX5_candidate : ByteArray := prog_1_method_2_code
def yX5_candidate : MethodName := ⟨RX5, "candidate", "(I)I"⟩
abbrev cX5_feed : ByteArray := prog_1_method_3_code
def yX5_feed : MethodName := ⟨RX5, "feed", "(JI)I"⟩
abbrev cX5_essay : ByteArray := prog_1_method_4_code
def yX5_essay : MethodName := ⟨RX5, "essay", "(I)I"⟩
abbrev cX5_legs : ByteArray := prog_1_method_5_code
def yX5_legs : MethodName := ⟨RX5, "legs", "(II)I"⟩
abbrev cX5_word : ByteArray := prog_1_method_6_code
def yX5_word : MethodName := ⟨RX5, "word", "(III)J"⟩
abbrev cX5_form : ByteArray := prog_1_method_7_code
def yX5_form : MethodName := ⟨RX5, "form", "(I)I"⟩
abbrev cX5_measure : ByteArray := prog_1_method_8_code
def yX5_measure : MethodName := ⟨RX5, "measure", "(III)I"⟩
abbrev cX5_parallel : ByteArray := prog_1_method_9_code
def yX5_parallel : MethodName := ⟨RX5, "parallel", "(II)I"⟩
abbrev cX5_bar : ByteArray := prog_1_method_10_code
def yX5_bar : MethodName := ⟨RX5, "bar", "(J)I"⟩
abbrev cX5_judge : ByteArray := prog_1_method_11_code
def yX5_judge : MethodName := ⟨RX5, "judge", "(I)I"⟩
abbrev cX5_like : ByteArray := prog_1_method_12_code
def yX5_like : MethodName := ⟨RX5, "like", "(II)I"⟩
abbrev cX5_number : ByteArray := prog_1_method_13_code
def yX5_number : MethodName := ⟨RX5, "number", "(II)I"⟩
abbrev cX5_sees : ByteArray := prog_1_method_14_code
def yX5_sees : MethodName := ⟨RX5, "sees", "(IIII)I"⟩
abbrev cX5_opens : ByteArray := prog_1_method_15_code
def yX5_opens : MethodName := ⟨RX5, "opens", "(I)I"⟩
abbrev cX5_fewest : ByteArray := prog_1_method_16_code
def yX5_fewest : MethodName := ⟨RX5, "fewest", "()I"⟩
abbrev cX5_reader : ByteArray := prog_1_method_17_code
def yX5_reader : MethodName := ⟨RX5, "reader", "(II)I"⟩
abbrev cX5_share : ByteArray := prog_1_method_18_code
def yX5_share : MethodName := ⟨RX5, "share", "()I"⟩
abbrev cX5_again : ByteArray := prog_1_method_19_code
def yX5_again : MethodName := ⟨RX5, "again", "()I"⟩
abbrev cX5_apart : ByteArray := prog_1_method_20_code
def yX5_apart : MethodName := ⟨RX5, "apart", "(I)I"⟩
abbrev cX5_reading : ByteArray := prog_1_method_21_code
def yX5_reading : MethodName := ⟨RX5, "reading", "(III)I"⟩
abbrev cX5_mark : ByteArray := prog_1_method_22_code
def yX5_mark : MethodName := ⟨RX5, "mark", "(III)I"⟩
abbrev cX5_load : ByteArray := prog_1_method_23_code
def yX5_load : MethodName := ⟨RX5, "load", "(I)I"⟩
abbrev cX5_shift : ByteArray := prog_1_method_24_code
def yX5_shift : MethodName := ⟨RX5, "shift", "(I)I"⟩
abbrev cX5_score : ByteArray := prog_1_method_25_code
def yX5_score : MethodName := ⟨RX5, "score", "(II)I"⟩
abbrev cX5_quota : ByteArray := prog_1_method_26_code
def yX5_quota : MethodName := ⟨RX5, "quota", "(II)I"⟩
abbrev cX5_rule : ByteArray := prog_1_method_27_code
def yX5_rule : MethodName := ⟨RX5, "rule", "(II)I"⟩
abbrev cX5_passes : ByteArray := prog_1_method_28_code
def yX5_passes : MethodName := ⟨RX5, "passes", "(I)I"⟩
abbrev cX5_passed : ByteArray := prog_1_method_29_code
def yX5_passed : MethodName := ⟨RX5, "passed", "(I)I"⟩
abbrev cX5_strike : ByteArray := prog_1_method_30_code
def yX5_strike : MethodName := ⟨RX5, "strike", "(II)I"⟩
abbrev cX5_ifStruck : ByteArray := prog_1_method_31_code
def yX5_ifStruck : MethodName := ⟨RX5, "ifStruck", "(I)I"⟩
abbrev cX5_cell : ByteArray := prog_1_method_32_code
def yX5_cell : MethodName := ⟨RX5, "cell", "(II)I"⟩
abbrev cX5_kin : ByteArray := prog_1_method_33_code
def yX5_kin : MethodName := ⟨RX5, "kin", "(II)I"⟩
abbrev cX5_near : ByteArray := prog_1_method_34_code
def yX5_near : MethodName := ⟨RX5, "near", "()I"⟩
abbrev cX5_count : ByteArray := prog_1_method_35_code
def yX5_count : MethodName := ⟨RX5, "count", "(I)I"⟩
abbrev cX5_isWithin : ByteArray := prog_1_method_36_code
def yX5_isWithin : MethodName := ⟨RX5, "isWithin", "(III)Z"⟩
abbrev cX5_isLetter : ByteArray := prog_1_method_37_code
def yX5_isLetter : MethodName := ⟨RX5, "isLetter", "(I)Z"⟩
abbrev cX5_isWord : ByteArray := prog_1_method_38_code
def yX5_isWord : MethodName := ⟨RX5, "isWord", "(J)Z"⟩
abbrev cX5_letterCount : ByteArray := prog_1_method_39_code
def yX5_letterCount : MethodName := ⟨RX5, "letterCount", "(J)I"⟩
abbrev cX5_find : ByteArray := prog_1_method_40_code
def yX5_find : MethodName := ⟨RX5, "find", "(I)LExamHalls$Candidate;"⟩
abbrev cX5_findReader : ByteArray := prog_1_method_41_code
def yX5_findReader : MethodName := ⟨RX5, "findReader", "(I)LExamHalls$Reader;"⟩
abbrev cX5_textOf : ByteArray := prog_1_method_42_code
def yX5_textOf : MethodName := ⟨RX5, "textOf", "(I)LExamHalls$Essay;"⟩
abbrev cX5_bearerOf : ByteArray := prog_1_method_43_code
def yX5_bearerOf : MethodName := ⟨RX5, "bearerOf", "(I)I"⟩
abbrev cX5_isTaken : ByteArray := prog_1_method_44_code
def yX5_isTaken : MethodName := ⟨RX5, "isTaken", "(II)Z"⟩
abbrev cX5_isInThird : ByteArray := prog_1_method_45_code
def yX5_isInThird : MethodName := ⟨RX5, "isInThird", "(IIIII)Z"⟩
abbrev cX5_openedBy : ByteArray := prog_1_method_46_code
def yX5_openedBy : MethodName := ⟨RX5, "openedBy", "(I)I"⟩
abbrev cX5_areNearKin : ByteArray := prog_1_method_47_code
def yX5_areNearKin : MethodName := ⟨RX5, "areNearKin", "(LExamHalls$Candidate;LExamHalls$Candidate;I)Z"⟩
abbrev cX5_mayRead : ByteArray := prog_1_method_48_code
def yX5_mayRead : MethodName := ⟨RX5, "mayRead", "(LExamHalls$Reader;LExamHalls$Candidate;)Z"⟩
abbrev cX5_readerFor : ByteArray := prog_1_method_49_code
def yX5_readerFor : MethodName := ⟨RX5, "readerFor", "(LExamHalls$Candidate;)I"⟩
abbrev cX5_giveReading : ByteArray := prog_1_method_50_code
def yX5_giveReading : MethodName := ⟨RX5, "giveReading", "(LExamHalls$Candidate;)Z"⟩
abbrev cX5_shiftOf : ByteArray := prog_1_method_51_code
def yX5_shiftOf : MethodName := ⟨RX5, "shiftOf", "(I)I"⟩
abbrev cX5_scoreOf : ByteArray := prog_1_method_52_code
def yX5_scoreOf : MethodName := ⟨RX5, "scoreOf", "(LExamHalls$Candidate;I)I"⟩
abbrev cX5_settleShifts : ByteArray := prog_1_method_53_code
def yX5_settleShifts : MethodName := ⟨RX5, "settleShifts", "()V"⟩
abbrev cX5_scaledMark : ByteArray := prog_1_method_54_code
def yX5_scaledMark : MethodName := ⟨RX5, "scaledMark", "(LExamHalls$Candidate;I)I"⟩
abbrev cX5_settle : ByteArray := prog_1_method_55_code
def yX5_settle : MethodName := ⟨RX5, "settle", "(I)V"⟩
abbrev cX5_isFit : ByteArray := prog_1_method_56_code
def yX5_isFit : MethodName := ⟨RX5, "isFit", "(LExamHalls$Candidate;)Z"⟩
abbrev cX5_hasRoom : ByteArray := prog_1_method_57_code
def yX5_hasRoom : MethodName := ⟨RX5, "hasRoom", "(I)Z"⟩
abbrev cX5_rankOf : ByteArray := prog_1_method_58_code
def yX5_rankOf : MethodName := ⟨RX5, "rankOf", "(I)I"⟩
abbrev cX5_essayCount : ByteArray := prog_1_method_59_code
def yX5_essayCount : MethodName := ⟨RX5, "essayCount", "()I"⟩
abbrev cX5_struckCount : ByteArray := prog_1_method_60_code
def yX5_struckCount : MethodName := ⟨RX5, "struckCount", "()I"⟩
abbrev cX5_markCount : ByteArray := prog_1_method_61_code
def yX5_markCount : MethodName := ⟨RX5, "markCount", "()I"⟩
abbrev cX5_passingCount : ByteArray := prog_1_method_62_code
def yX5_passingCount : MethodName := ⟨RX5, "passingCount", "()I"⟩
def RX6 : String := "ExamHallsModel$Candidate"
def TX6 : u_T := fun k => match k with
  | 0 => ("ExamHallsModel$Candidate", "province", "I", false)
  | 1 => ("ExamHallsModel$Candidate", "essay", "Ljava/util/List;", false)
  | 2 => ("ExamHallsModel$Candidate", "number", "I", false)
  | 3 => ("ExamHallsModel$Candidate", "cell", "I", false)
  | 4 => ("ExamHallsModel$Candidate", "struck", "Z", false)
  | 5 => ("ExamHallsModel$Candidate", "seen", "[[[Z", false)
  | _ => ("ExamHallsModel$Candidate", "readings", "Ljava/util/List;", false)
abbrev wsX60 : List Cond := u_ws RX6 TX6 7
abbrev cX6_init : ByteArray := prog_9_method_1_code
def yX6_init : MethodName := ⟨RX6, "<init>", "()V"⟩
def RX7 : String := "ExamHallsModel$Reader"
def TX7 : u_T := fun k => match k with
  | 0 => ("ExamHallsModel$Reader", "province", "I", false)
  | _ => ("ExamHallsModel$Reader", "room", "I", false)
abbrev wsX70 : List Cond := u_ws RX7 TX7 2
abbrev cX7_init : ByteArray := prog_10_method_1_code
def yX7_init : MethodName := ⟨RX7, "<init>", "()V"⟩
def RX8 : String := "ExamHallsModel$Reading"
def TX8 : u_T := fun k => match k with
  | 0 => ("ExamHallsModel$Reading", "reader", "I", false)
  | _ => ("ExamHallsModel$Reading", "mark", "I", false)
abbrev wsX80 : List Cond := u_ws RX8 TX8 2
abbrev cX8_init : ByteArray := prog_11_method_1_code
def yX8_init : MethodName := ⟨RX8, "<init>", "()V"⟩
def RX9 : String := "ExamHallsModel"
def TX9 : u_T := fun k => match k with
  | 0 => ("ExamHallsModel", "candidates", "Ljava/util/List;", true)
  | 1 => ("ExamHallsModel", "readers", "Ljava/util/List;", true)
  | 2 => ("ExamHallsModel", "kin", "[[Z", true)
  | 3 => ("ExamHallsModel", "tape", "Ljava/util/List;", true)
  | 4 => ("ExamHallsModel", "least", "[I", true)
  | 5 => ("ExamHallsModel", "most", "[I", true)
  | 6 => ("ExamHallsModel", "parallels", "Ljava/util/List;", true)
  | 7 => ("ExamHallsModel", "barred", "Ljava/util/List;", true)
  | 8 => ("ExamHallsModel", "quotas", "[I", true)
  | 9 => ("ExamHallsModel", "formLegs", "I", false)
  | 10 => ("ExamHallsModel", "apart", "I", false)
  | 11 => ("ExamHallsModel", "ties", "I", false)
  | _ => ("ExamHallsModel", "way", "I", false)
abbrev wsX90 : List Cond := u_ws RX9 TX9 13
abbrev cX9_init : ByteArray := prog_8_method_1_code
def yX9_init : MethodName := ⟨RX9, "<init>", "()V"⟩
abbrev cX9_isCandidate : ByteArray := prog_8_method_2_code
def yX9_isCandidate : MethodName := ⟨RX9, "isCandidate", "(I)Z"⟩
abbrev cX9_isReader : ByteArray := prog_8_method_3_code
def yX9_isReader : MethodName := ⟨RX9, "isReader", "(I)Z"⟩
abbrev cX9_isProvince : ByteArray := prog_8_method_4_code
def yX9_isProvince : MethodName := ⟨RX9, "isProvince", "(I)Z"⟩
abbrev cX9_isLeg : ByteArray := prog_8_method_5_code
def yX9_isLeg : MethodName := ⟨RX9, "isLeg", "(I)Z"⟩
abbrev cX9_letter : ByteArray := prog_8_method_6_code
def yX9_letter : MethodName := ⟨RX9, "letter", "(I)Z"⟩
abbrev cX9_candidate : ByteArray := prog_8_method_7_code
def yX9_candidate : MethodName := ⟨RX9, "candidate", "(I)I"⟩
abbrev cX9_feed : ByteArray := prog_8_method_8_code
def yX9_feed : MethodName := ⟨RX9, "feed", "(JI)I"⟩
abbrev cX9_faultOfTape : ByteArray := prog_8_method_9_code
def yX9_faultOfTape : MethodName := ⟨RX9, "faultOfTape", "()I"⟩
abbrev cX9_legsOfTape : ByteArray := prog_8_method_10_code
def yX9_legsOfTape : MethodName := ⟨RX9, "legsOfTape", "()Ljava/util/List;"⟩
abbrev cX9_countWords : ByteArray := prog_8_method_11_code
def yX9_countWords : MethodName := ⟨RX9, "countWords", "(Ljava/util/List;)I"⟩
abbrev cX9_essay : ByteArray := prog_8_method_12_code
def yX9_essay : MethodName := ⟨RX9, "essay", "(I)I"⟩
abbrev cX9_essayOf : ByteArray := prog_8_method_13_code
def yX9_essayOf : MethodName := ⟨RX9, "essayOf", "(I)Ljava/util/List;"⟩
abbrev cX9_legs : ByteArray := prog_8_method_14_code
def yX9_legs : MethodName := ⟨RX9, "legs", "(II)I"⟩
abbrev cX9_asNumber : ByteArray := prog_8_method_15_code
def yX9_asNumber : MethodName := ⟨RX9, "asNumber", "(Ljava/lang/String;)J"⟩
abbrev cX9_asWord : ByteArray := prog_8_method_16_code
def yX9_asWord : MethodName := ⟨RX9, "asWord", "(J)Ljava/lang/String;"⟩
abbrev cX9_word : ByteArray := prog_8_method_17_code
def yX9_word : MethodName := ⟨RX9, "word", "(III)J"⟩
abbrev cX9_form : ByteArray := prog_8_method_18_code
def yX9_form : MethodName := ⟨RX9, "form", "(I)I"⟩
abbrev cX9_measure : ByteArray := prog_8_method_19_code
def yX9_measure : MethodName := ⟨RX9, "measure", "(III)I"⟩
abbrev cX9_parallel : ByteArray := prog_8_method_20_code
def yX9_parallel : MethodName := ⟨RX9, "parallel", "(II)I"⟩
abbrev cX9_bar : ByteArray := prog_8_method_21_code
def yX9_bar : MethodName := ⟨RX9, "bar", "(J)I"⟩
abbrev cX9_kept : ByteArray := prog_8_method_22_code
def yX9_kept : MethodName := ⟨RX9, "kept", "(Ljava/util/List;[I)Z"⟩
abbrev cX9_judgement : ByteArray := prog_8_method_23_code
def yX9_judgement : MethodName := ⟨RX9, "judgement", "(Ljava/util/List;)I"⟩
abbrev cX9_judge : ByteArray := prog_8_method_24_code
def yX9_judge : MethodName := ⟨RX9, "judge", "(I)I"⟩
abbrev cX9_isBarred : ByteArray := prog_8_method_25_code
def yX9_isBarred : MethodName := ⟨RX9, "isBarred", "(Ljava/lang/String;)Z"⟩
abbrev cX9_isRow : ByteArray := prog_8_method_26_code
def yX9_isRow : MethodName := ⟨RX9, "isRow", "(Ljava/util/List;ILjava/util/List;)Z"⟩
abbrev cX9_stands : ByteArray := prog_8_method_27_code
def yX9_stands : MethodName := ⟨RX9, "stands", "(Ljava/util/List;Ljava/util/List;)Z"⟩
abbrev cX9_aThirdHas : ByteArray := prog_8_method_28_code
def yX9_aThirdHas : MethodName := ⟨RX9, "aThirdHas", "(IILjava/util/List;)Z"⟩
abbrev cX9_like : ByteArray := prog_8_method_29_code
def yX9_like : MethodName := ⟨RX9, "like", "(II)I"⟩
abbrev cX9_number : ByteArray := prog_8_method_30_code
def yX9_number : MethodName := ⟨RX9, "number", "(II)I"⟩
abbrev cX9_sees : ByteArray := prog_8_method_31_code
def yX9_sees : MethodName := ⟨RX9, "sees", "(IIII)I"⟩
abbrev cX9_joined : ByteArray := prog_8_method_32_code
def yX9_joined : MethodName := ⟨RX9, "joined", "(LExamHallsModel$Candidate;III)Z"⟩
abbrev cX9_open : ByteArray := prog_8_method_33_code
def yX9_open : MethodName := ⟨RX9, "open", "(LExamHallsModel$Candidate;I)Z"⟩
abbrev cX9_openedBy : ByteArray := prog_8_method_34_code
def yX9_openedBy : MethodName := ⟨RX9, "openedBy", "(I)I"⟩
abbrev cX9_opens : ByteArray := prog_8_method_35_code
def yX9_opens : MethodName := ⟨RX9, "opens", "(I)I"⟩
abbrev cX9_fewest : ByteArray := prog_8_method_36_code
def yX9_fewest : MethodName := ⟨RX9, "fewest", "()I"⟩
abbrev cX9_reader : ByteArray := prog_8_method_37_code
def yX9_reader : MethodName := ⟨RX9, "reader", "(II)I"⟩
abbrev cX9_loadOf : ByteArray := prog_8_method_38_code
def yX9_loadOf : MethodName := ⟨RX9, "loadOf", "(I)I"⟩
abbrev cX9_may : ByteArray := prog_8_method_39_code
def yX9_may : MethodName := ⟨RX9, "may", "(LExamHallsModel$Candidate;I)Z"⟩
abbrev cX9_give : ByteArray := prog_8_method_40_code
def yX9_give : MethodName := ⟨RX9, "give", "(LExamHallsModel$Candidate;)Z"⟩
abbrev cX9_ofNumber : ByteArray := prog_8_method_41_code
def yX9_ofNumber : MethodName := ⟨RX9, "ofNumber", "(I)LExamHallsModel$Candidate;"⟩
abbrev cX9_share : ByteArray := prog_8_method_42_code
def yX9_share : MethodName := ⟨RX9, "share", "()I"⟩
abbrev cX9_areApart : ByteArray := prog_8_method_43_code
def yX9_areApart : MethodName := ⟨RX9, "areApart", "(II)Z"⟩
abbrev cX9_wantsThird : ByteArray := prog_8_method_44_code
def yX9_wantsThird : MethodName := ⟨RX9, "wantsThird", "(LExamHallsModel$Candidate;)Z"⟩
abbrev cX9_again : ByteArray := prog_8_method_45_code
def yX9_again : MethodName := ⟨RX9, "again", "()I"⟩
abbrev cX9_apart : ByteArray := prog_8_method_46_code
def yX9_apart : MethodName := ⟨RX9, "apart", "(I)I"⟩
abbrev cX9_reading : ByteArray := prog_8_method_47_code
def yX9_reading : MethodName := ⟨RX9, "reading", "(III)I"⟩
abbrev cX9_mark : ByteArray := prog_8_method_48_code
def yX9_mark : MethodName := ⟨RX9, "mark", "(III)I"⟩
abbrev cX9_load : ByteArray := prog_8_method_49_code
def yX9_load : MethodName := ⟨RX9, "load", "(I)I"⟩
abbrev cX9_shiftOf : ByteArray := prog_8_method_50_code
def yX9_shiftOf : MethodName := ⟨RX9, "shiftOf", "(I)I"⟩
abbrev cX9_shift : ByteArray := prog_8_method_51_code
def yX9_shift : MethodName := ⟨RX9, "shift", "(I)I"⟩
abbrev cX9_two : ByteArray := prog_8_method_52_code
def yX9_two : MethodName := ⟨RX9, "two", "(LExamHallsModel$Candidate;)[LExamHallsModel$Reading;"⟩
abbrev cX9_nearer : ByteArray := prog_8_method_53_code
def yX9_nearer : MethodName := ⟨RX9, "nearer", "(LExamHallsModel$Reading;LExamHallsModel$Reading;[LExamHallsModel$Reading;)Z"⟩
abbrev cX9_scaledMark : ByteArray := prog_8_method_54_code
def yX9_scaledMark : MethodName := ⟨RX9, "scaledMark", "(LExamHallsModel$Reading;)I"⟩
abbrev cX9_scoreOf : ByteArray := prog_8_method_55_code
def yX9_scoreOf : MethodName := ⟨RX9, "scoreOf", "(LExamHallsModel$Candidate;I)I"⟩
abbrev cX9_score : ByteArray := prog_8_method_56_code
def yX9_score : MethodName := ⟨RX9, "score", "(II)I"⟩
abbrev cX9_quota : ByteArray := prog_8_method_57_code
def yX9_quota : MethodName := ⟨RX9, "quota", "(II)I"⟩
abbrev cX9_rule : ByteArray := prog_8_method_58_code
def yX9_rule : MethodName := ⟨RX9, "rule", "(II)I"⟩
abbrev cX9_fit : ByteArray := prog_8_method_59_code
def yX9_fit : MethodName := ⟨RX9, "fit", "(LExamHallsModel$Candidate;)Z"⟩
abbrev cX9_ahead : ByteArray := prog_8_method_60_code
def yX9_ahead : MethodName := ⟨RX9, "ahead", "(LExamHallsModel$Candidate;)[I"⟩
abbrev cX9_passing : ByteArray := prog_8_method_61_code
def yX9_passing : MethodName := ⟨RX9, "passing", "(LExamHallsModel$Candidate;)Z"⟩
abbrev cX9_allPassing : ByteArray := prog_8_method_62_code
def yX9_allPassing : MethodName := ⟨RX9, "allPassing", "()[Z"⟩
abbrev cX9_passes : ByteArray := prog_8_method_63_code
def yX9_passes : MethodName := ⟨RX9, "passes", "(I)I"⟩
abbrev cX9_passed : ByteArray := prog_8_method_64_code
def yX9_passed : MethodName := ⟨RX9, "passed", "(I)I"⟩
abbrev cX9_strike : ByteArray := prog_8_method_65_code
def yX9_strike : MethodName := ⟨RX9, "strike", "(II)I"⟩
abbrev cX9_ifStruck : ByteArray := prog_8_method_66_code
def yX9_ifStruck : MethodName := ⟨RX9, "ifStruck", "(I)I"⟩
abbrev cX9_cell : ByteArray := prog_8_method_67_code
def yX9_cell : MethodName := ⟨RX9, "cell", "(II)I"⟩
abbrev cX9_kin : ByteArray := prog_8_method_68_code
def yX9_kin : MethodName := ⟨RX9, "kin", "(II)I"⟩
abbrev cX9_areNear : ByteArray := prog_8_method_69_code
def yX9_areNear : MethodName := ⟨RX9, "areNear", "(II)Z"⟩
abbrev cX9_near : ByteArray := prog_8_method_70_code
def yX9_near : MethodName := ⟨RX9, "near", "()I"⟩
abbrev cX9_countMarks : ByteArray := prog_8_method_71_code
def yX9_countMarks : MethodName := ⟨RX9, "countMarks", "()I"⟩
abbrev cX9_countCandidates : ByteArray := prog_8_method_72_code
def yX9_countCandidates : MethodName := ⟨RX9, "countCandidates", "(Z)I"⟩
abbrev cX9_countPassing : ByteArray := prog_8_method_73_code
def yX9_countPassing : MethodName := ⟨RX9, "countPassing", "()I"⟩
abbrev cX9_count : ByteArray := prog_8_method_74_code
def yX9_count : MethodName := ⟨RX9, "count", "(I)I"⟩
def RJ5 : String := "java/lang/AbstractStringBuilder"
abbrev cJ5_init_d00df : ByteArray := prog_13_method_2_code
def yJ5_init_d00df : MethodName := ⟨RJ5, "<init>", "(I)V"⟩
abbrev cJ5_length_8abf5 : ByteArray := prog_13_method_6_code
def yJ5_length_8abf5 : MethodName := ⟨RJ5, "length", "()I"⟩
abbrev cJ5_ensureCapacityInternal_d00df : ByteArray := prog_13_method_9_code
def yJ5_ensureCapacityInternal_d00df : MethodName := ⟨RJ5, "ensureCapacityInternal", "(I)V"⟩
abbrev cJ5_newCapacity_0f7a4 : ByteArray := prog_13_method_10_code
def yJ5_newCapacity_0f7a4 : MethodName := ⟨RJ5, "newCapacity", "(I)I"⟩
abbrev cJ5_inflate_da8c8 : ByteArray := prog_13_method_11_code
def yJ5_inflate_da8c8 : MethodName := ⟨RJ5, "inflate", "()V"⟩
abbrev cJ5_append_3fe6f : ByteArray := prog_13_method_31_code
def yJ5_append_3fe6f : MethodName := ⟨RJ5, "append", "(C)Ljava/lang/AbstractStringBuilder;"⟩
abbrev cJ5_shift_df160 : ByteArray := prog_13_method_43_code
def yJ5_shift_df160 : MethodName := ⟨RJ5, "shift", "(II)V"⟩
abbrev cJ5_insert_00e82 : ByteArray := prog_13_method_51_code
def yJ5_insert_00e82 : MethodName := ⟨RJ5, "insert", "(IC)Ljava/lang/AbstractStringBuilder;"⟩
abbrev cJ5_getValue_6d5f1 : ByteArray := prog_13_method_64_code
def yJ5_getValue_6d5f1 : MethodName := ⟨RJ5, "getValue", "()[B"⟩
abbrev cJ5_isLatin1_aae02 : ByteArray := prog_13_method_68_code
def yJ5_isLatin1_aae02 : MethodName := ⟨RJ5, "isLatin1", "()Z"⟩
def RJ6 : String := "java/lang/Integer"
def TJ6 : u_T := fun k => match k with
  | _ => ("java/lang/Integer", "value", "I", true)
abbrev wsJ60 : List Cond := u_ws RJ6 TJ6 1
abbrev cJ6_valueOf_2dffe : ByteArray := prog_20_method_22_code
def yJ6_valueOf_2dffe : MethodName := ⟨RJ6, "valueOf", "(I)Ljava/lang/Integer;"⟩
abbrev cJ6_init_d00df : ByteArray := prog_20_method_23_code
def yJ6_init_d00df : MethodName := ⟨RJ6, "<init>", "(I)V"⟩
abbrev cJ6_intValue_8abf5 : ByteArray := prog_20_method_27_code
def yJ6_intValue_8abf5 : MethodName := ⟨RJ6, "intValue", "()I"⟩
abbrev cJ6_bitCount_0f7a4 : ByteArray := prog_20_method_49_code
def yJ6_bitCount_0f7a4 : MethodName := ⟨RJ6, "bitCount", "(I)I"⟩
def RJ9 : String := "java/lang/Math"
abbrev cJ9_floorDiv_7cf53 : ByteArray := prog_23_method_47_code
def yJ9_floorDiv_7cf53 : MethodName := ⟨RJ9, "floorDiv", "(II)I"⟩
def RJxd2413 : String := "java/lang/Number"
abbrev cJxd2413_init_da8c8 : ByteArray := prog_24_method_1_code
def yJxd2413_init_da8c8 : MethodName := ⟨RJxd2413, "<init>", "()V"⟩
def RJ0 : String := "java/lang/String"
def TJ0 : u_T := fun k => match k with
  | 0 => ("java/lang/String", "value", "[B", true)
  | 1 => ("java/lang/String", "coder", "B", true)
  | 2 => ("java/lang/String", "hash", "I", false)
  | _ => ("java/lang/String", "hashIsZero", "Z", false)
abbrev wsJ00 : List Cond := u_ws RJ0 TJ0 4
abbrev cJ0_init_81219 : ByteArray := prog_26_method_53_code
def yJ0_init_81219 : MethodName := ⟨RJ0, "<init>", "(Ljava/lang/StringBuilder;)V"⟩
abbrev cJ0_length_8abf5 : ByteArray := prog_26_method_54_code
def yJ0_length_8abf5 : MethodName := ⟨RJ0, "length", "()I"⟩
abbrev cJ0_charAt_5068e : ByteArray := prog_26_method_56_code
def yJ0_charAt_5068e : MethodName := ⟨RJ0, "charAt", "(I)C"⟩
abbrev cJ0_equals_9ea2d : ByteArray := prog_26_method_66_code
def yJ0_equals_9ea2d : MethodName := ⟨RJ0, "equals", "(Ljava/lang/Object;)Z"⟩
abbrev cJ0_init_db425 : ByteArray := prog_26_method_150_code
def yJ0_init_db425 : MethodName := ⟨RJ0, "<init>", "(Ljava/lang/AbstractStringBuilder;Ljava/lang/Void;)V"⟩
abbrev cJ0_coder_7d493 : ByteArray := prog_26_method_152_code
def yJ0_coder_7d493 : MethodName := ⟨RJ0, "coder", "()B"⟩
abbrev cJ0_isLatin1_aae02 : ByteArray := prog_26_method_154_code
def yJ0_isLatin1_aae02 : MethodName := ⟨RJ0, "isLatin1", "()Z"⟩
abbrev cJ0_checkIndex_df160 : ByteArray := prog_26_method_155_code
def yJ0_checkIndex_df160 : MethodName := ⟨RJ0, "checkIndex", "(II)V"⟩
abbrev cJ0_checkOffset_df160 : ByteArray := prog_26_method_156_code
def yJ0_checkOffset_df160 : MethodName := ⟨RJ0, "checkOffset", "(II)V"⟩
abbrev cJ0_checkBoundsOffCount_cabcc : ByteArray := prog_26_method_157_code
def yJ0_checkBoundsOffCount_cabcc : MethodName := ⟨RJ0, "checkBoundsOffCount", "(III)I"⟩
def RJ4 : String := "java/lang/StringBuilder"
def TJ4 : u_T := fun k => match k with
  | 0 => ("java/lang/AbstractStringBuilder", "value", "[B", false)
  | 1 => ("java/lang/AbstractStringBuilder", "coder", "B", false)
  | 2 => ("java/lang/AbstractStringBuilder", "maybeLatin1", "Z", false)
  | _ => ("java/lang/AbstractStringBuilder", "count", "I", false)
abbrev wsJ40 : List Cond := u_ws RJ4 TJ4 4
abbrev cJ4_init_da8c8 : ByteArray := prog_27_method_1_code
def yJ4_init_da8c8 : MethodName := ⟨RJ4, "<init>", "()V"⟩
abbrev cJ4_append_cf468 : ByteArray := prog_27_method_14_code
def yJ4_append_cf468 : MethodName := ⟨RJ4, "append", "(C)Ljava/lang/StringBuilder;"⟩
abbrev cJ4_insert_a3ee8 : ByteArray := prog_27_method_30_code
def yJ4_insert_a3ee8 : MethodName := ⟨RJ4, "insert", "(IC)Ljava/lang/StringBuilder;"⟩
abbrev cJ4_toString_0e30d : ByteArray := prog_27_method_42_code
def yJ4_toString_0e30d : MethodName := ⟨RJ4, "toString", "()Ljava/lang/String;"⟩
abbrev cJ4_length_8abf5 : ByteArray := prog_27_method_93_code
def yJ4_length_8abf5 : MethodName := ⟨RJ4, "length", "()I"⟩
def RJ1 : String := "java/lang/StringLatin1"
abbrev cJ1_charAt_3b067 : ByteArray := prog_28_method_2_code
def yJ1_charAt_3b067 : MethodName := ⟨RJ1, "charAt", "([BI)C"⟩
abbrev cJ1_canEncode_fc78d : ByteArray := prog_28_method_3_code
def yJ1_canEncode_fc78d : MethodName := ⟨RJ1, "canEncode", "(C)Z"⟩
abbrev cJ1_equals_b5fdf : ByteArray := prog_28_method_13_code
def yJ1_equals_b5fdf : MethodName := ⟨RJ1, "equals", "([B[B)Z"⟩
abbrev cJ1_inflate_0e8fd : ByteArray := prog_28_method_50_code
def yJ1_inflate_0e8fd : MethodName := ⟨RJ1, "inflate", "([BI[BII)V"⟩
def RJ2 : String := "java/lang/StringUTF16"
abbrev cJ2_newBytesFor_77867 : ByteArray := prog_29_method_2_code
def yJ2_newBytesFor_77867 : MethodName := ⟨RJ2, "newBytesFor", "(I)[B"⟩
abbrev cJ2_newBytesLength_0f7a4 : ByteArray := prog_29_method_3_code
def yJ2_newBytesLength_0f7a4 : MethodName := ⟨RJ2, "newBytesLength", "(I)I"⟩
abbrev cJ2_putChar_b72d1 : ByteArray := prog_29_method_4_code
def yJ2_putChar_b72d1 : MethodName := ⟨RJ2, "putChar", "([BII)V"⟩
abbrev cJ2_getChar_3b067 : ByteArray := prog_29_method_5_code
def yJ2_getChar_3b067 : MethodName := ⟨RJ2, "getChar", "([BI)C"⟩
abbrev cJ2_length_9d52b : ByteArray := prog_29_method_6_code
def yJ2_length_9d52b : MethodName := ⟨RJ2, "length", "([B)I"⟩
abbrev cJ2_coderFromArrayLen_85cad : ByteArray := prog_29_method_15_code
def yJ2_coderFromArrayLen_85cad : MethodName := ⟨RJ2, "coderFromArrayLen", "([BI)B"⟩
abbrev cJ2_compress_39247 : ByteArray := prog_29_method_17_code
def yJ2_compress_39247 : MethodName := ⟨RJ2, "compress", "([BII)[B"⟩
abbrev cJ2_compress_5af95 : ByteArray := prog_29_method_22_code
def yJ2_compress_5af95 : MethodName := ⟨RJ2, "compress", "([BI[BII)I"⟩
abbrev cJ2_putCharSB_b72d1 : ByteArray := prog_29_method_71_code
def yJ2_putCharSB_b72d1 : MethodName := ⟨RJ2, "putCharSB", "([BII)V"⟩
abbrev cJ2_charAt_3b067 : ByteArray := prog_29_method_83_code
def yJ2_charAt_3b067 : MethodName := ⟨RJ2, "charAt", "([BI)C"⟩
abbrev cJ2_inflate_0e8fd : ByteArray := prog_29_method_86_code
def yJ2_inflate_0e8fd : MethodName := ⟨RJ2, "inflate", "([BI[BII)V"⟩
abbrev cJ2_checkIndex_2214a : ByteArray := prog_29_method_91_code
def yJ2_checkIndex_2214a : MethodName := ⟨RJ2, "checkIndex", "(I[B)V"⟩
abbrev cJ2_checkBoundsOffCount_d044e : ByteArray := prog_29_method_94_code
def yJ2_checkBoundsOffCount_d044e : MethodName := ⟨RJ2, "checkBoundsOffCount", "(II[B)V"⟩
def RJxa1e45 : String := "java/util/AbstractCollection"
abbrev cJxa1e45_init_da8c8 : ByteArray := prog_34_method_1_code
def yJxa1e45_init_da8c8 : MethodName := ⟨RJxa1e45, "<init>", "()V"⟩
def RJxc12de : String := "java/util/AbstractList"
abbrev cJxc12de_init_da8c8 : ByteArray := prog_35_method_1_code
def yJxc12de_init_da8c8 : MethodName := ⟨RJxc12de, "<init>", "()V"⟩
abbrev cJxc12de_add_9ea2d : ByteArray := prog_35_method_2_code
def yJxc12de_add_9ea2d : MethodName := ⟨RJxc12de, "add", "(Ljava/lang/Object;)Z"⟩
abbrev cJxc12de_clear_da8c8 : ByteArray := prog_35_method_9_code
def yJxc12de_clear_da8c8 : MethodName := ⟨RJxc12de, "clear", "()V"⟩
def RJxc9f04 : String := "java/util/ArrayList$SubList"
def TJxc9f04 : u_T := fun k => match k with
  | 0 => ("java/util/AbstractList", "modCount", "I", false)
  | 1 => ("java/util/ArrayList$SubList", "root", "Ljava/util/ArrayList;", true)
  | 2 => ("java/util/ArrayList$SubList", "parent", "Ljava/util/ArrayList$SubList;", true)
  | 3 => ("java/util/ArrayList$SubList", "offset", "I", true)
  | _ => ("java/util/ArrayList$SubList", "size", "I", false)
abbrev wsJxc9f040 : List Cond := u_ws RJxc9f04 TJxc9f04 5
abbrev cJxc9f04_init_1a8f5 : ByteArray := prog_41_method_1_code
def yJxc9f04_init_1a8f5 : MethodName := ⟨RJxc9f04, "<init>", "(Ljava/util/ArrayList;II)V"⟩
abbrev cJxc9f04_init_541cf : ByteArray := prog_41_method_2_code
def yJxc9f04_init_541cf : MethodName := ⟨RJxc9f04, "<init>", "(Ljava/util/ArrayList$SubList;II)V"⟩
abbrev cJxc9f04_get_915e3 : ByteArray := prog_41_method_4_code
def yJxc9f04_get_915e3 : MethodName := ⟨RJxc9f04, "get", "(I)Ljava/lang/Object;"⟩
abbrev cJxc9f04_size_8abf5 : ByteArray := prog_41_method_5_code
def yJxc9f04_size_8abf5 : MethodName := ⟨RJxc9f04, "size", "()I"⟩
abbrev cJxc9f04_add_7a177 : ByteArray := prog_41_method_6_code
def yJxc9f04_add_7a177 : MethodName := ⟨RJxc9f04, "add", "(ILjava/lang/Object;)V"⟩
abbrev cJxc9f04_removeRange_df160 : ByteArray := prog_41_method_8_code
def yJxc9f04_removeRange_df160 : MethodName := ⟨RJxc9f04, "removeRange", "(II)V"⟩
abbrev cJxc9f04_subList_8a2a7 : ByteArray := prog_41_method_25_code
def yJxc9f04_subList_8a2a7 : MethodName := ⟨RJxc9f04, "subList", "(II)Ljava/util/List;"⟩
abbrev cJxc9f04_rangeCheckForAdd_d00df : ByteArray := prog_41_method_26_code
def yJxc9f04_rangeCheckForAdd_d00df : MethodName := ⟨RJxc9f04, "rangeCheckForAdd", "(I)V"⟩
abbrev cJxc9f04_checkForComodification_da8c8 : ByteArray := prog_41_method_28_code
def yJxc9f04_checkForComodification_da8c8 : MethodName := ⟨RJxc9f04, "checkForComodification", "()V"⟩
abbrev cJxc9f04_updateSizeAndModCount_d00df : ByteArray := prog_41_method_29_code
def yJxc9f04_updateSizeAndModCount_d00df : MethodName := ⟨RJxc9f04, "updateSizeAndModCount", "(I)V"⟩
def RJx4a65c : String := "java/util/ArrayList"
def TJx4a65c : u_T := fun k => match k with
  | 0 => ("java/util/AbstractList", "modCount", "I", false)
  | 1 => ("java/util/ArrayList", "elementData", "[Ljava/lang/Object;", false)
  | _ => ("java/util/ArrayList", "size", "I", false)
abbrev wsJx4a65c0 : List Cond := u_ws RJx4a65c TJx4a65c 3
abbrev cJx4a65c_init_da8c8 : ByteArray := prog_38_method_2_code
def yJx4a65c_init_da8c8 : MethodName := ⟨RJx4a65c, "<init>", "()V"⟩
abbrev cJx4a65c_grow_92f84 : ByteArray := prog_38_method_6_code
def yJx4a65c_grow_92f84 : MethodName := ⟨RJx4a65c, "grow", "(I)[Ljava/lang/Object;"⟩
abbrev cJx4a65c_grow_d5877 : ByteArray := prog_38_method_7_code
def yJx4a65c_grow_d5877 : MethodName := ⟨RJx4a65c, "grow", "()[Ljava/lang/Object;"⟩
abbrev cJx4a65c_size_8abf5 : ByteArray := prog_38_method_8_code
def yJx4a65c_size_8abf5 : MethodName := ⟨RJx4a65c, "size", "()I"⟩
abbrev cJx4a65c_elementData_915e3 : ByteArray := prog_38_method_18_code
def yJx4a65c_elementData_915e3 : MethodName := ⟨RJx4a65c, "elementData", "(I)Ljava/lang/Object;"⟩
abbrev cJx4a65c_get_915e3 : ByteArray := prog_38_method_20_code
def yJx4a65c_get_915e3 : MethodName := ⟨RJx4a65c, "get", "(I)Ljava/lang/Object;"⟩
abbrev cJx4a65c_add_72be8 : ByteArray := prog_38_method_24_code
def yJx4a65c_add_72be8 : MethodName := ⟨RJx4a65c, "add", "(Ljava/lang/Object;[Ljava/lang/Object;I)V"⟩
abbrev cJx4a65c_add_9ea2d : ByteArray := prog_38_method_25_code
def yJx4a65c_add_9ea2d : MethodName := ⟨RJx4a65c, "add", "(Ljava/lang/Object;)Z"⟩
abbrev cJx4a65c_add_7a177 : ByteArray := prog_38_method_26_code
def yJx4a65c_add_7a177 : MethodName := ⟨RJx4a65c, "add", "(ILjava/lang/Object;)V"⟩
abbrev cJx4a65c_clear_da8c8 : ByteArray := prog_38_method_40_code
def yJx4a65c_clear_da8c8 : MethodName := ⟨RJx4a65c, "clear", "()V"⟩
abbrev cJx4a65c_removeRange_df160 : ByteArray := prog_38_method_43_code
def yJx4a65c_removeRange_df160 : MethodName := ⟨RJx4a65c, "removeRange", "(II)V"⟩
abbrev cJx4a65c_shiftTailOverGap_ec627 : ByteArray := prog_38_method_44_code
def yJx4a65c_shiftTailOverGap_ec627 : MethodName := ⟨RJx4a65c, "shiftTailOverGap", "([Ljava/lang/Object;II)V"⟩
abbrev cJx4a65c_rangeCheckForAdd_d00df : ByteArray := prog_38_method_45_code
def yJx4a65c_rangeCheckForAdd_d00df : MethodName := ⟨RJx4a65c, "rangeCheckForAdd", "(I)V"⟩
abbrev cJx4a65c_subList_8a2a7 : ByteArray := prog_38_method_56_code
def yJx4a65c_subList_8a2a7 : MethodName := ⟨RJx4a65c, "subList", "(II)Ljava/util/List;"⟩
def RJ7 : String := "java/util/Arrays"
abbrev cJ7_copyOf_1904c : ByteArray := prog_43_method_119_code
def yJ7_copyOf_1904c : MethodName := ⟨RJ7, "copyOf", "([Ljava/lang/Object;I)[Ljava/lang/Object;"⟩
abbrev cJ7_copyOf_6403c : ByteArray := prog_43_method_120_code
def yJ7_copyOf_6403c : MethodName := ⟨RJ7, "copyOf", "([Ljava/lang/Object;ILjava/lang/Class;)[Ljava/lang/Object;"⟩
abbrev cJ7_copyOf_9075b : ByteArray := prog_43_method_121_code
def yJ7_copyOf_9075b : MethodName := ⟨RJ7, "copyOf", "([BI)[B"⟩
abbrev cJ7_checkLength_df160 : ByteArray := prog_43_method_131_code
def yJ7_checkLength_df160 : MethodName := ⟨RJ7, "checkLength", "(II)V"⟩
abbrev cJ7_copyOfRange_39247 : ByteArray := prog_43_method_132_code
def yJ7_copyOfRange_39247 : MethodName := ⟨RJ7, "copyOfRange", "([BII)[B"⟩
abbrev cJ7_copyOfRangeByte_39247 : ByteArray := prog_43_method_133_code
def yJ7_copyOfRangeByte_39247 : MethodName := ⟨RJ7, "copyOfRangeByte", "([BII)[B"⟩
def RJ15 : String := "java/util/Objects"
abbrev cJ15_checkIndex_7cf53 : ByteArray := prog_50_method_17_code
def yJ15_checkIndex_7cf53 : MethodName := ⟨RJ15, "checkIndex", "(II)I"⟩
def RJ8 : String := "jdk/internal/util/ArraysSupport"
abbrev cJ8_newLength_cabcc : ByteArray := prog_53_method_27_code
def yJ8_newLength_cabcc : MethodName := ⟨RJ8, "newLength", "(III)I"⟩
abbrev cJ8_hugeLength_7cf53 : ByteArray := prog_53_method_28_code
def yJ8_hugeLength_7cf53 : MethodName := ⟨RJ8, "hugeLength", "(II)I"⟩
def RJ3 : String := "jdk/internal/util/Preconditions"
abbrev cJ3_checkIndex_8e157 : ByteArray := prog_54_method_11_code
def yJ3_checkIndex_8e157 : MethodName := ⟨RJ3, "checkIndex", "(IILjava/util/function/BiFunction;)I"⟩
abbrev cJ3_checkFromToIndex_8c36e : ByteArray := prog_54_method_12_code
def yJ3_checkFromToIndex_8c36e : MethodName := ⟨RJ3, "checkFromToIndex", "(IIILjava/util/function/BiFunction;)I"⟩
abbrev cJ3_checkFromIndexSize_8c36e : ByteArray := prog_54_method_13_code
def yJ3_checkFromIndexSize_8c36e : MethodName := ⟨RJ3, "checkFromIndexSize", "(IIILjava/util/function/BiFunction;)I"⟩
def RL : String := "ExamHallsLaw"
def wsX0_init : List Cond := .code yX0_init cX0_init 2 none :: ([.methodLink RX0 3 objectInit, .instanceMethod objectInit, .code objectInit ⟨#[0xb1]⟩ 1 none, .fieldLink RX0 9 "ExamHalls$Candidate" "text" "LExamHalls$Essay;", .fieldLink RX0 15 "ExamHalls$Candidate" "number" "I", .fieldLink RX0 19 "ExamHalls$Candidate" "place" "I", .fieldLink RX0 22 "ExamHalls$Candidate" "struck" "Z", .fieldLink RX0 26 "ExamHalls$Candidate" "kinBits" "I", .arrayClass .int, .fieldLink RX0 29 "ExamHalls$Candidate" "seenBits" "[I", .fieldLink RX0 33 "ExamHalls$Candidate" "readBy" "[I", .fieldLink RX0 36 "ExamHalls$Candidate" "marks" "[I", .fieldLink RX0 39 "ExamHalls$Candidate" "readingCount" "I", .fieldLink RX0 42 "ExamHalls$Candidate" "province" "I"] ++ wsX00)
def wsX5_isLetter : List Cond := .code yX5_isLetter cX5_isLetter 1 (some .boolean) :: ([])
def wsX2_init : List Cond := .code yX2_init cX2_init 2 none :: ([.methodLink RX2 3 objectInit, .instanceMethod objectInit, .code objectInit ⟨#[0xb1]⟩ 1 none, .fieldLink RX2 9 "ExamHalls$Form" "legCount" "I", .arrayClass .int, .fieldLink RX2 15 "ExamHalls$Form" "least" "[I", .fieldLink RX2 19 "ExamHalls$Form" "most" "[I", .fieldLink RX2 22 "ExamHalls$Form" "oneSides" "[I", .fieldLink RX2 25 "ExamHalls$Form" "otherSides" "[I", .fieldLink RX2 28 "ExamHalls$Form" "parallelCount" "I", .arrayClass .long, .fieldLink RX2 31 "ExamHalls$Form" "barred" "[J", .fieldLink RX2 35 "ExamHalls$Form" "barredCount" "I"] ++ wsX20)
def wsX2_setMeasure : List Cond := .code yX2_setMeasure cX2_setMeasure 4 none :: ([.fieldLink RX2 15 "ExamHalls$Form" "least" "[I", .fieldLink RX2 19 "ExamHalls$Form" "most" "[I"] ++ wsX20)
def wsX2_addParallel : List Cond := .code yX2_addParallel cX2_addParallel 3 none :: ([.fieldLink RX2 28 "ExamHalls$Form" "parallelCount" "I", .fieldLink RX2 22 "ExamHalls$Form" "oneSides" "[I", .fieldLink RX2 25 "ExamHalls$Form" "otherSides" "[I"] ++ wsX20)
def wsX2_addBarred : List Cond := .code yX2_addBarred cX2_addBarred 3 none :: ([.fieldLink RX2 35 "ExamHalls$Form" "barredCount" "I", .fieldLink RX2 31 "ExamHalls$Form" "barred" "[J"] ++ wsX20)
def wsX2_isBarred : List Cond := .code yX2_isBarred cX2_isBarred 4 (some .boolean) :: ([.fieldLink RX2 35 "ExamHalls$Form" "barredCount" "I", .fieldLink RX2 31 "ExamHalls$Form" "barred" "[J"] ++ wsX20)
def wsX5_isWithin : List Cond := .code yX5_isWithin cX5_isWithin 3 (some .boolean) :: ([])
def wsX3_init : List Cond := .code yX3_init cX3_init 3 none :: ([.methodLink RX3 1 objectInit, .instanceMethod objectInit, .code objectInit ⟨#[0xb1]⟩ 1 none, .fieldLink RX3 7 "ExamHalls$Reader" "readings" "I", .fieldLink RX3 13 "ExamHalls$Reader" "province" "I", .fieldLink RX3 16 "ExamHalls$Reader" "room" "I"] ++ wsX30)
def wsX4_init : List Cond := .code yX4_init cX4_init 1 none :: ([.methodLink RX4 3 objectInit, .instanceMethod objectInit, .code objectInit ⟨#[0xb1]⟩ 1 none, .arrayClass .byte, .fieldLink RX4 9 "ExamHalls$Tape" "bytes" "[B", .fieldLink RX4 15 "ExamHalls$Tape" "size" "I"] ++ wsX40)
def wsX5_init_r1 : List Cond := [Cond.methodLink RX5 1 objectInit, Cond.instanceMethod objectInit, Cond.code objectInit ⟨#[0xb1]⟩ 1 none, Cond.classLink RX5 9 RX0, Cond.fieldLink RX5 11 "ExamHalls" "candidates" "[LExamHalls$Candidate;", Cond.fieldLink RX5 15 "ExamHalls" "candidateCount" "I", Cond.classLink RX5 19 RX3, Cond.fieldLink RX5 21 "ExamHalls" "readers" "[LExamHalls$Reader;", Cond.fieldLink RX5 25 "ExamHalls" "readerCount" "I", Cond.classLink RX5 28 RX4, Cond.instantiable RX4 2, Cond.initialized RX4, Cond.fieldLink RX5 31 "ExamHalls" "tape" "LExamHalls$Tape;", Cond.classLink RX5 35 RX2, Cond.instantiable RX2 8, Cond.initialized RX2, Cond.fieldLink RX5 38 "ExamHalls" "form" "LExamHalls$Form;", Cond.fieldLink RX5 42 "ExamHalls" "apart" "I", Cond.arrayClass .int, Cond.fieldLink RX5 45 "ExamHalls" "quotas" "[I", Cond.fieldLink RX5 49 "ExamHalls" "ties" "I", Cond.fieldLink RX5 52 "ExamHalls" "way" "I", Cond.fieldLink RX5 55 "ExamHalls" "shifts" "[I", Cond.fieldLink RX5 58 "ExamHalls" "values" "[I"]
def wsX5_init_r2 : List Cond := [Cond.arrayClass .boolean, Cond.fieldLink RX5 61 "ExamHalls" "passing" "[Z", Cond.fieldLink RX5 65 "ExamHalls" "passedBefore" "[Z", Cond.instanceMethod yX4_init, Cond.code yX4_init cX4_init 1 none, Cond.methodLink RX4 3 objectInit, Cond.arrayClass .byte, Cond.fieldLink RX4 9 "ExamHalls$Tape" "bytes" "[B", Cond.fieldLink RX4 15 "ExamHalls$Tape" "size" "I", Cond.instanceMethod yX2_init, Cond.code yX2_init cX2_init 2 none, Cond.methodLink RX2 3 objectInit, Cond.fieldLink RX2 9 "ExamHalls$Form" "legCount" "I", Cond.fieldLink RX2 15 "ExamHalls$Form" "least" "[I", Cond.fieldLink RX2 19 "ExamHalls$Form" "most" "[I", Cond.fieldLink RX2 22 "ExamHalls$Form" "oneSides" "[I", Cond.fieldLink RX2 25 "ExamHalls$Form" "otherSides" "[I", Cond.fieldLink RX2 28 "ExamHalls$Form" "parallelCount" "I", Cond.arrayClass .long, Cond.fieldLink RX2 31 "ExamHalls$Form" "barred" "[J", Cond.fieldLink RX2 35 "ExamHalls$Form" "barredCount" "I"]
def wsX5_init : List Cond := .code yX5_init cX5_init 1 none :: ((wsX5_init_r1 ++ wsX5_init_r2) ++ wsX50 ++ wsX40 ++ wsX20)
def wsX5_candidate_r1 : List Cond := [Cond.fieldLink RX5 15 "ExamHalls" "candidateCount" "I", Cond.fieldLink RX5 11 "ExamHalls" "candidates" "[LExamHalls$Candidate;", Cond.classLink RX5 9 RX0, Cond.instantiable RX0 10, Cond.initialized RX0, Cond.methodLink RX5 68 yX5_isWithin, Cond.static yX5_isWithin, Cond.initialized RX5, Cond.code yX5_isWithin cX5_isWithin 3 (some .boolean), Cond.instanceMethod yX0_init, Cond.code yX0_init cX0_init 2 none, Cond.methodLink RX0 3 objectInit, Cond.instanceMethod objectInit, Cond.code objectInit ⟨#[0xb1]⟩ 1 none, Cond.fieldLink RX0 9 "ExamHalls$Candidate" "text" "LExamHalls$Essay;", Cond.fieldLink RX0 15 "ExamHalls$Candidate" "number" "I", Cond.fieldLink RX0 19 "ExamHalls$Candidate" "place" "I", Cond.fieldLink RX0 22 "ExamHalls$Candidate" "struck" "Z", Cond.fieldLink RX0 26 "ExamHalls$Candidate" "kinBits" "I", Cond.arrayClass .int, Cond.fieldLink RX0 29 "ExamHalls$Candidate" "seenBits" "[I", Cond.fieldLink RX0 33 "ExamHalls$Candidate" "readBy" "[I", Cond.fieldLink RX0 36 "ExamHalls$Candidate" "marks" "[I", Cond.fieldLink RX0 39 "ExamHalls$Candidate" "readingCount" "I"]
def wsX5_candidate_r2 : List Cond := [Cond.fieldLink RX0 42 "ExamHalls$Candidate" "province" "I"]
def wsX5_candidate : List Cond := .code yX5_candidate cX5_candidate 2 (some .int) :: ((wsX5_candidate_r1 ++ wsX5_candidate_r2) ++ wsX50 ++ wsX00)
def wsX5_find : List Cond := .code yX5_find cX5_find 2 (some (.object "ExamHalls$Candidate")) :: ([.fieldLink RX5 15 "ExamHalls" "candidateCount" "I", .fieldLink RX5 11 "ExamHalls" "candidates" "[LExamHalls$Candidate;"] ++ wsX50)
def wsX5_essay_r1 : List Cond := [Cond.fieldLink RX5 31 "ExamHalls" "tape" "LExamHalls$Tape;", Cond.classLink RX5 101 RX1, Cond.instantiable RX1 3, Cond.initialized RX1, Cond.methodLink RX5 86 yX5_find, Cond.instanceMethod yX5_find, Cond.selects RX5 yX5_find yX5_find, Cond.initialized RX5, Cond.code yX5_find cX5_find 2 (some (.object "ExamHalls$Candidate")), Cond.fieldLink RX5 15 "ExamHalls" "candidateCount" "I", Cond.fieldLink RX5 11 "ExamHalls" "candidates" "[LExamHalls$Candidate;", Cond.instanceMethod yX4_findFault, Cond.initialized RX4, Cond.selects RX4 yX4_findFault yX4_findFault, Cond.code yX4_findFault cX4_findFault 6 (some .int), Cond.fieldLink RX4 15 "ExamHalls$Tape" "size" "I", Cond.methodLink RX4 19 yX4_byteAt, Cond.instanceMethod yX4_byteAt, Cond.selects RX4 yX4_byteAt yX4_byteAt, Cond.code yX4_byteAt cX4_byteAt 2 (some .int), Cond.fieldLink RX4 9 "ExamHalls$Tape" "bytes" "[B", Cond.static yX5_isLetter, Cond.code yX5_isLetter cX5_isLetter 1 (some .boolean), Cond.instanceMethod yX4_empty]
def wsX5_essay_r2 : List Cond := [Cond.selects RX4 yX4_empty yX4_empty, Cond.code yX4_empty cX4_empty 1 none, Cond.instanceMethod yX1_init, Cond.code yX1_init cX1_init 1 none, Cond.methodLink RX1 3 objectInit, Cond.instanceMethod objectInit, Cond.code objectInit ⟨#[0xb1]⟩ 1 none, Cond.arrayClass .long, Cond.fieldLink RX1 9 "ExamHalls$Essay" "words" "[J", Cond.arrayClass .int, Cond.fieldLink RX1 15 "ExamHalls$Essay" "lengths" "[I", Cond.fieldLink RX1 19 "ExamHalls$Essay" "legCount" "I", Cond.instanceMethod yX1_readFrom, Cond.selects RX1 yX1_readFrom yX1_readFrom, Cond.code yX1_readFrom cX1_readFrom 6 none, Cond.methodLink RX1 23 yX1_openLeg, Cond.instanceMethod yX1_openLeg, Cond.selects RX1 yX1_openLeg yX1_openLeg, Cond.code yX1_openLeg cX1_openLeg 1 none, Cond.methodLink RX1 39 yX1_addWord, Cond.instanceMethod yX1_addWord, Cond.selects RX1 yX1_addWord yX1_addWord, Cond.code yX1_addWord cX1_addWord 4 none, Cond.methodLink RX1 43 yX1_hasLeg]
def wsX5_essay_r3 : List Cond := [Cond.instanceMethod yX1_hasLeg, Cond.selects RX1 yX1_hasLeg yX1_hasLeg, Cond.code yX1_hasLeg cX1_hasLeg 2 (some .boolean), Cond.instanceMethod yX1_wordCount, Cond.selects RX1 yX1_wordCount yX1_wordCount, Cond.code yX1_wordCount cX1_wordCount 3 (some .int), Cond.methodLink RX1 46 yX1_wordsOf, Cond.instanceMethod yX1_wordsOf, Cond.selects RX1 yX1_wordsOf yX1_wordsOf, Cond.code yX1_wordsOf cX1_wordsOf 2 (some .int)]
def wsX5_essay : List Cond := .code yX5_essay cX5_essay 5 (some .int) :: ((wsX5_essay_r1 ++ (wsX5_essay_r2 ++ wsX5_essay_r3)) ++ wsX50 ++ wsX00 ++ wsX10 ++ wsX40)
def wsX5_textOf : List Cond := .code yX5_textOf cX5_textOf 3 (some (.object "ExamHalls$Essay")) :: ([.methodLink RX5 86 yX5_find, .instanceMethod yX5_find, .selects RX5 yX5_find yX5_find, .initialized RX5, .code yX5_find cX5_find 2 (some (.object "ExamHalls$Candidate")), .fieldLink RX5 15 "ExamHalls" "candidateCount" "I", .fieldLink RX5 11 "ExamHalls" "candidates" "[LExamHalls$Candidate;"] ++ wsX00 ++ wsX50)
def wsX5_legs : List Cond := .code yX5_legs cX5_legs 4 (some .int) :: ([.methodLink RX5 111 yX5_textOf, .instanceMethod yX5_textOf, .selects RX5 yX5_textOf yX5_textOf, .initialized RX5, .code yX5_textOf cX5_textOf 3 (some (.object "ExamHalls$Essay")), .methodLink RX5 86 yX5_find, .instanceMethod yX5_find, .selects RX5 yX5_find yX5_find, .code yX5_find cX5_find 2 (some (.object "ExamHalls$Candidate")), .fieldLink RX5 15 "ExamHalls" "candidateCount" "I", .fieldLink RX5 11 "ExamHalls" "candidates" "[LExamHalls$Candidate;", .instanceMethod yX1_wordCount, .initialized RX1, .selects RX1 yX1_wordCount yX1_wordCount, .code yX1_wordCount cX1_wordCount 3 (some .int), .fieldLink RX1 19 "ExamHalls$Essay" "legCount" "I", .methodLink RX1 46 yX1_wordsOf, .instanceMethod yX1_wordsOf, .selects RX1 yX1_wordsOf yX1_wordsOf, .code yX1_wordsOf cX1_wordsOf 2 (some .int), .fieldLink RX1 15 "ExamHalls$Essay" "lengths" "[I", .instanceMethod yX1_hasLeg, .selects RX1 yX1_hasLeg yX1_hasLeg, .code yX1_hasLeg cX1_hasLeg 2 (some .boolean)] ++ wsX10 ++ wsX00 ++ wsX50)
def wsX5_word : List Cond := .code yX5_word cX5_word 5 (some .long) :: ([.methodLink RX5 111 yX5_textOf, .instanceMethod yX5_textOf, .selects RX5 yX5_textOf yX5_textOf, .initialized RX5, .code yX5_textOf cX5_textOf 3 (some (.object "ExamHalls$Essay")), .methodLink RX5 86 yX5_find, .instanceMethod yX5_find, .selects RX5 yX5_find yX5_find, .code yX5_find cX5_find 2 (some (.object "ExamHalls$Candidate")), .fieldLink RX5 15 "ExamHalls" "candidateCount" "I", .fieldLink RX5 11 "ExamHalls" "candidates" "[LExamHalls$Candidate;", .instanceMethod yX1_wordAt, .initialized RX1, .selects RX1 yX1_wordAt yX1_wordAt, .code yX1_wordAt cX1_wordAt 3 (some .long), .fieldLink RX1 9 "ExamHalls$Essay" "words" "[J", .methodLink RX1 46 yX1_wordsOf, .instanceMethod yX1_wordsOf, .selects RX1 yX1_wordsOf yX1_wordsOf, .code yX1_wordsOf cX1_wordsOf 2 (some .int), .fieldLink RX1 19 "ExamHalls$Essay" "legCount" "I", .fieldLink RX1 15 "ExamHalls$Essay" "lengths" "[I"] ++ wsX00 ++ wsX50 ++ wsX10)
def wsX5_form : List Cond := .code yX5_form cX5_form 3 (some .int) :: ([.fieldLink RX5 38 "ExamHalls" "form" "LExamHalls$Form;", .methodLink RX5 68 yX5_isWithin, .static yX5_isWithin, .initialized RX5, .code yX5_isWithin cX5_isWithin 3 (some .boolean)] ++ wsX50 ++ wsX20)
def wsX5_measure : List Cond := .code yX5_measure cX5_measure 4 (some .int) :: ([.fieldLink RX5 38 "ExamHalls" "form" "LExamHalls$Form;", .methodLink RX5 68 yX5_isWithin, .static yX5_isWithin, .initialized RX5, .code yX5_isWithin cX5_isWithin 3 (some .boolean), .instanceMethod yX2_setMeasure, .initialized RX2, .selects RX2 yX2_setMeasure yX2_setMeasure, .code yX2_setMeasure cX2_setMeasure 4 none, .fieldLink RX2 15 "ExamHalls$Form" "least" "[I", .fieldLink RX2 19 "ExamHalls$Form" "most" "[I"] ++ wsX50 ++ wsX20)
def wsX5_parallel : List Cond := .code yX5_parallel cX5_parallel 3 (some .int) :: ([.fieldLink RX5 38 "ExamHalls" "form" "LExamHalls$Form;", .methodLink RX5 68 yX5_isWithin, .static yX5_isWithin, .initialized RX5, .code yX5_isWithin cX5_isWithin 3 (some .boolean), .instanceMethod yX2_addParallel, .initialized RX2, .selects RX2 yX2_addParallel yX2_addParallel, .code yX2_addParallel cX2_addParallel 3 none, .fieldLink RX2 28 "ExamHalls$Form" "parallelCount" "I", .fieldLink RX2 22 "ExamHalls$Form" "oneSides" "[I", .fieldLink RX2 25 "ExamHalls$Form" "otherSides" "[I"] ++ wsX50 ++ wsX20)
def wsX5_judge_r1 : List Cond := [Cond.fieldLink RX5 38 "ExamHalls" "form" "LExamHalls$Form;", Cond.methodLink RX5 111 yX5_textOf, Cond.instanceMethod yX5_textOf, Cond.selects RX5 yX5_textOf yX5_textOf, Cond.initialized RX5, Cond.code yX5_textOf cX5_textOf 3 (some (.object "ExamHalls$Essay")), Cond.methodLink RX5 86 yX5_find, Cond.instanceMethod yX5_find, Cond.selects RX5 yX5_find yX5_find, Cond.code yX5_find cX5_find 2 (some (.object "ExamHalls$Candidate")), Cond.fieldLink RX5 15 "ExamHalls" "candidateCount" "I", Cond.fieldLink RX5 11 "ExamHalls" "candidates" "[LExamHalls$Candidate;", Cond.instanceMethod yX2_judgementOf, Cond.initialized RX2, Cond.selects RX2 yX2_judgementOf yX2_judgementOf, Cond.code yX2_judgementOf cX2_judgementOf 3 (some .int), Cond.fieldLink RX2 9 "ExamHalls$Form" "legCount" "I", Cond.fieldLink RX2 15 "ExamHalls$Form" "least" "[I", Cond.fieldLink RX2 19 "ExamHalls$Form" "most" "[I", Cond.fieldLink RX2 28 "ExamHalls$Form" "parallelCount" "I", Cond.fieldLink RX2 22 "ExamHalls$Form" "oneSides" "[I", Cond.fieldLink RX2 25 "ExamHalls$Form" "otherSides" "[I", Cond.instanceMethod yX1_wordsOf, Cond.initialized RX1]
def wsX5_judge_r2 : List Cond := [Cond.selects RX1 yX1_wordsOf yX1_wordsOf, Cond.code yX1_wordsOf cX1_wordsOf 2 (some .int), Cond.fieldLink RX1 19 "ExamHalls$Essay" "legCount" "I", Cond.fieldLink RX1 15 "ExamHalls$Essay" "lengths" "[I", Cond.static yX5_isWithin, Cond.code yX5_isWithin cX5_isWithin 3 (some .boolean), Cond.methodLink RX2 49 yX2_isKept, Cond.static yX2_isKept, Cond.code yX2_isKept cX2_isKept 4 (some .boolean), Cond.instanceMethod yX1_hasLeg, Cond.selects RX1 yX1_hasLeg yX1_hasLeg, Cond.code yX1_hasLeg cX1_hasLeg 2 (some .boolean), Cond.instanceMethod yX1_wordAt, Cond.selects RX1 yX1_wordAt yX1_wordAt, Cond.code yX1_wordAt cX1_wordAt 3 (some .long), Cond.fieldLink RX1 9 "ExamHalls$Essay" "words" "[J", Cond.methodLink RX1 46 yX1_wordsOf, Cond.static yX5_letterCount, Cond.code yX5_letterCount cX5_letterCount 3 (some .int), Cond.methodLink RX2 53 yX2_hasBarred, Cond.instanceMethod yX2_hasBarred, Cond.selects RX2 yX2_hasBarred yX2_hasBarred, Cond.code yX2_hasBarred cX2_hasBarred 4 (some .boolean), Cond.methodLink RX2 69 yX2_isBarred]
def wsX5_judge_r3 : List Cond := [Cond.instanceMethod yX2_isBarred, Cond.selects RX2 yX2_isBarred yX2_isBarred, Cond.code yX2_isBarred cX2_isBarred 4 (some .boolean), Cond.fieldLink RX2 35 "ExamHalls$Form" "barredCount" "I", Cond.fieldLink RX2 31 "ExamHalls$Form" "barred" "[J"]
def wsX5_judge : List Cond := .code yX5_judge cX5_judge 3 (some .int) :: ((wsX5_judge_r1 ++ (wsX5_judge_r2 ++ wsX5_judge_r3)) ++ wsX50 ++ wsX00 ++ wsX10 ++ wsX20)
def wsX5_like_r1 : List Cond := [Cond.methodLink RX5 111 yX5_textOf, Cond.instanceMethod yX5_textOf, Cond.selects RX5 yX5_textOf yX5_textOf, Cond.initialized RX5, Cond.code yX5_textOf cX5_textOf 3 (some (.object "ExamHalls$Essay")), Cond.methodLink RX5 86 yX5_find, Cond.instanceMethod yX5_find, Cond.selects RX5 yX5_find yX5_find, Cond.code yX5_find cX5_find 2 (some (.object "ExamHalls$Candidate")), Cond.fieldLink RX5 15 "ExamHalls" "candidateCount" "I", Cond.fieldLink RX5 11 "ExamHalls" "candidates" "[LExamHalls$Candidate;", Cond.instanceMethod yX1_wordsOf, Cond.initialized RX1, Cond.selects RX1 yX1_wordsOf yX1_wordsOf, Cond.code yX1_wordsOf cX1_wordsOf 2 (some .int), Cond.fieldLink RX1 19 "ExamHalls$Essay" "legCount" "I", Cond.fieldLink RX1 15 "ExamHalls$Essay" "lengths" "[I", Cond.instanceMethod yX1_longestShared, Cond.selects RX1 yX1_longestShared yX1_longestShared, Cond.code yX1_longestShared cX1_longestShared 7 (some .int), Cond.methodLink RX1 53 Lib.Math.max.name, Cond.static Lib.Math.max.name, Cond.initialized "java/lang/Math", Cond.code Lib.Math.max.name Lib.Math.max.code 2 (some .int)]
def wsX5_like_r2 : List Cond := [Cond.methodLink RX1 46 yX1_wordsOf, Cond.methodLink RX1 49 yX1_sharedFrom, Cond.instanceMethod yX1_sharedFrom, Cond.selects RX1 yX1_sharedFrom yX1_sharedFrom, Cond.code yX1_sharedFrom cX1_sharedFrom 8 (some .int), Cond.methodLink RX1 59 Lib.Math.min.name, Cond.static Lib.Math.min.name, Cond.code Lib.Math.min.name Lib.Math.min.code 2 (some .int), Cond.methodLink RX1 62 yX1_wordAt, Cond.instanceMethod yX1_wordAt, Cond.selects RX1 yX1_wordAt yX1_wordAt, Cond.code yX1_wordAt cX1_wordAt 3 (some .long), Cond.fieldLink RX1 9 "ExamHalls$Essay" "words" "[J", Cond.methodLink RX5 163 yX5_isInThird, Cond.instanceMethod yX5_isInThird, Cond.selects RX5 yX5_isInThird yX5_isInThird, Cond.code yX5_isInThird cX5_isInThird 9 (some .boolean)]
def wsX5_like : List Cond := .code yX5_like cX5_like 9 (some .int) :: ((wsX5_like_r1 ++ wsX5_like_r2) ++ wsX10 ++ wsX00 ++ wsX50)
def wsX5_bearerOf : List Cond := .code yX5_bearerOf cX5_bearerOf 4 (some .int) :: ([.fieldLink RX5 15 "ExamHalls" "candidateCount" "I", .methodLink RX5 86 yX5_find, .instanceMethod yX5_find, .selects RX5 yX5_find yX5_find, .initialized RX5, .code yX5_find cX5_find 2 (some (.object "ExamHalls$Candidate")), .fieldLink RX5 11 "ExamHalls" "candidates" "[LExamHalls$Candidate;"] ++ wsX50 ++ wsX00)
def wsX5_number : List Cond := .code yX5_number cX5_number 6 (some .int) :: ([.methodLink RX5 86 yX5_find, .instanceMethod yX5_find, .selects RX5 yX5_find yX5_find, .initialized RX5, .code yX5_find cX5_find 2 (some (.object "ExamHalls$Candidate")), .fieldLink RX5 15 "ExamHalls" "candidateCount" "I", .fieldLink RX5 11 "ExamHalls" "candidates" "[LExamHalls$Candidate;", .methodLink RX5 68 yX5_isWithin, .static yX5_isWithin, .code yX5_isWithin cX5_isWithin 3 (some .boolean), .methodLink RX5 167 yX5_bearerOf, .instanceMethod yX5_bearerOf, .selects RX5 yX5_bearerOf yX5_bearerOf, .code yX5_bearerOf cX5_bearerOf 4 (some .int)] ++ wsX00 ++ wsX50)
def wsX5_sees : List Cond := .code yX5_sees cX5_sees 6 (some .int) :: ([.methodLink RX5 86 yX5_find, .instanceMethod yX5_find, .selects RX5 yX5_find yX5_find, .initialized RX5, .code yX5_find cX5_find 2 (some (.object "ExamHalls$Candidate")), .fieldLink RX5 15 "ExamHalls" "candidateCount" "I", .fieldLink RX5 11 "ExamHalls" "candidates" "[LExamHalls$Candidate;", .methodLink RX5 68 yX5_isWithin, .static yX5_isWithin, .code yX5_isWithin cX5_isWithin 3 (some .boolean), .instanceMethod yX0_show, .initialized RX0, .selects RX0 yX0_show yX0_show, .code yX0_show cX0_show 5 (some .boolean), .fieldLink RX0 29 "ExamHalls$Candidate" "seenBits" "[I"] ++ wsX50 ++ wsX00)
def wsX5_openedBy : List Cond := .code yX5_openedBy cX5_openedBy 5 (some .int) :: ([.fieldLink RX5 15 "ExamHalls" "candidateCount" "I", .methodLink RX5 86 yX5_find, .instanceMethod yX5_find, .selects RX5 yX5_find yX5_find, .initialized RX5, .code yX5_find cX5_find 2 (some (.object "ExamHalls$Candidate")), .fieldLink RX5 11 "ExamHalls" "candidates" "[LExamHalls$Candidate;", .instanceMethod yX0_isOpenedBy, .initialized RX0, .selects RX0 yX0_isOpenedBy yX0_isOpenedBy, .code yX0_isOpenedBy cX0_isOpenedBy 6 (some .boolean), .fieldLink RX0 29 "ExamHalls$Candidate" "seenBits" "[I"] ++ wsX50 ++ wsX00)
def wsX5_opens : List Cond := .code yX5_opens cX5_opens 2 (some .int) :: ([.methodLink RX5 68 yX5_isWithin, .static yX5_isWithin, .initialized RX5, .code yX5_isWithin cX5_isWithin 3 (some .boolean), .methodLink RX5 176 yX5_openedBy, .instanceMethod yX5_openedBy, .selects RX5 yX5_openedBy yX5_openedBy, .code yX5_openedBy cX5_openedBy 5 (some .int), .fieldLink RX5 15 "ExamHalls" "candidateCount" "I", .methodLink RX5 86 yX5_find, .instanceMethod yX5_find, .selects RX5 yX5_find yX5_find, .code yX5_find cX5_find 2 (some (.object "ExamHalls$Candidate")), .fieldLink RX5 11 "ExamHalls" "candidates" "[LExamHalls$Candidate;", .instanceMethod yX0_isOpenedBy, .initialized RX0, .selects RX0 yX0_isOpenedBy yX0_isOpenedBy, .code yX0_isOpenedBy cX0_isOpenedBy 6 (some .boolean), .fieldLink RX0 29 "ExamHalls$Candidate" "seenBits" "[I"] ++ wsX50 ++ wsX00)
def wsX5_reader : List Cond := .code yX5_reader cX5_reader 3 (some .int) :: ([.fieldLink RX5 25 "ExamHalls" "readerCount" "I", .fieldLink RX5 21 "ExamHalls" "readers" "[LExamHalls$Reader;", .classLink RX5 19 RX3, .instantiable RX3 3, .initialized RX3, .methodLink RX5 68 yX5_isWithin, .static yX5_isWithin, .initialized RX5, .code yX5_isWithin cX5_isWithin 3 (some .boolean), .instanceMethod yX3_init, .code yX3_init cX3_init 3 none, .methodLink RX3 1 objectInit, .instanceMethod objectInit, .code objectInit ⟨#[0xb1]⟩ 1 none, .fieldLink RX3 7 "ExamHalls$Reader" "readings" "I", .fieldLink RX3 13 "ExamHalls$Reader" "province" "I", .fieldLink RX3 16 "ExamHalls$Reader" "room" "I"] ++ wsX50 ++ wsX30)
def wsX5_findReader : List Cond := .code yX5_findReader cX5_findReader 2 (some (.object "ExamHalls$Reader")) :: ([.fieldLink RX5 25 "ExamHalls" "readerCount" "I", .fieldLink RX5 21 "ExamHalls" "readers" "[LExamHalls$Reader;"] ++ wsX50)
def wsX5_apart : List Cond := .code yX5_apart cX5_apart 3 (some .int) :: ([.fieldLink RX5 42 "ExamHalls" "apart" "I", .methodLink RX5 68 yX5_isWithin, .static yX5_isWithin, .initialized RX5, .code yX5_isWithin cX5_isWithin 3 (some .boolean)] ++ wsX50)
def wsX5_reading : List Cond := .code yX5_reading cX5_reading 5 (some .int) :: ([.methodLink RX5 86 yX5_find, .instanceMethod yX5_find, .selects RX5 yX5_find yX5_find, .initialized RX5, .code yX5_find cX5_find 2 (some (.object "ExamHalls$Candidate")), .fieldLink RX5 15 "ExamHalls" "candidateCount" "I", .fieldLink RX5 11 "ExamHalls" "candidates" "[LExamHalls$Candidate;", .instanceMethod yX0_hasReading, .initialized RX0, .selects RX0 yX0_hasReading yX0_hasReading, .code yX0_hasReading cX0_hasReading 2 (some .boolean), .fieldLink RX0 39 "ExamHalls$Candidate" "readingCount" "I", .instanceMethod yX0_readerAt, .selects RX0 yX0_readerAt yX0_readerAt, .code yX0_readerAt cX0_readerAt 2 (some .int), .fieldLink RX0 33 "ExamHalls$Candidate" "readBy" "[I", .instanceMethod yX0_isMarked, .selects RX0 yX0_isMarked yX0_isMarked, .code yX0_isMarked cX0_isMarked 2 (some .boolean), .methodLink RX0 45 yX0_markAt, .instanceMethod yX0_markAt, .selects RX0 yX0_markAt yX0_markAt, .code yX0_markAt cX0_markAt 2 (some .int), .fieldLink RX0 36 "ExamHalls$Candidate" "marks" "[I"] ++ wsX50 ++ wsX00)
def wsX5_mark_r1 : List Cond := [Cond.methodLink RX5 86 yX5_find, Cond.instanceMethod yX5_find, Cond.selects RX5 yX5_find yX5_find, Cond.initialized RX5, Cond.code yX5_find cX5_find 2 (some (.object "ExamHalls$Candidate")), Cond.fieldLink RX5 15 "ExamHalls" "candidateCount" "I", Cond.fieldLink RX5 11 "ExamHalls" "candidates" "[LExamHalls$Candidate;", Cond.methodLink RX5 208 yX5_findReader, Cond.instanceMethod yX5_findReader, Cond.selects RX5 yX5_findReader yX5_findReader, Cond.code yX5_findReader cX5_findReader 2 (some (.object "ExamHalls$Reader")), Cond.fieldLink RX5 25 "ExamHalls" "readerCount" "I", Cond.fieldLink RX5 21 "ExamHalls" "readers" "[LExamHalls$Reader;", Cond.methodLink RX5 68 yX5_isWithin, Cond.static yX5_isWithin, Cond.code yX5_isWithin cX5_isWithin 3 (some .boolean), Cond.instanceMethod yX0_readingOf, Cond.initialized RX0, Cond.selects RX0 yX0_readingOf yX0_readingOf, Cond.code yX0_readingOf cX0_readingOf 3 (some .int), Cond.fieldLink RX0 39 "ExamHalls$Candidate" "readingCount" "I", Cond.fieldLink RX0 33 "ExamHalls$Candidate" "readBy" "[I", Cond.instanceMethod yX0_isMarked, Cond.selects RX0 yX0_isMarked yX0_isMarked]
def wsX5_mark_r2 : List Cond := [Cond.code yX0_isMarked cX0_isMarked 2 (some .boolean), Cond.methodLink RX0 45 yX0_markAt, Cond.instanceMethod yX0_markAt, Cond.selects RX0 yX0_markAt yX0_markAt, Cond.code yX0_markAt cX0_markAt 2 (some .int), Cond.fieldLink RX0 36 "ExamHalls$Candidate" "marks" "[I", Cond.instanceMethod yX0_setMark, Cond.selects RX0 yX0_setMark yX0_setMark, Cond.code yX0_setMark cX0_setMark 3 none, Cond.methodLink RX0 49 yX0_hasReading, Cond.instanceMethod yX0_hasReading, Cond.selects RX0 yX0_hasReading yX0_hasReading, Cond.code yX0_hasReading cX0_hasReading 2 (some .boolean)]
def wsX5_mark : List Cond := .code yX5_mark cX5_mark 7 (some .int) :: ((wsX5_mark_r1 ++ wsX5_mark_r2) ++ wsX50 ++ wsX00)
def wsX5_load : List Cond := .code yX5_load cX5_load 3 (some .int) :: ([.methodLink RX5 208 yX5_findReader, .instanceMethod yX5_findReader, .selects RX5 yX5_findReader yX5_findReader, .initialized RX5, .code yX5_findReader cX5_findReader 2 (some (.object "ExamHalls$Reader")), .fieldLink RX5 25 "ExamHalls" "readerCount" "I", .fieldLink RX5 21 "ExamHalls" "readers" "[LExamHalls$Reader;"] ++ wsX30 ++ wsX50)
def wsX5_shift_r1 : List Cond := [Cond.methodLink RX5 208 yX5_findReader, Cond.instanceMethod yX5_findReader, Cond.selects RX5 yX5_findReader yX5_findReader, Cond.initialized RX5, Cond.code yX5_findReader cX5_findReader 2 (some (.object "ExamHalls$Reader")), Cond.fieldLink RX5 25 "ExamHalls" "readerCount" "I", Cond.fieldLink RX5 21 "ExamHalls" "readers" "[LExamHalls$Reader;", Cond.methodLink RX5 221 yX5_shiftOf, Cond.instanceMethod yX5_shiftOf, Cond.selects RX5 yX5_shiftOf yX5_shiftOf, Cond.code yX5_shiftOf cX5_shiftOf 8 (some .int), Cond.fieldLink RX5 15 "ExamHalls" "candidateCount" "I", Cond.methodLink RX5 86 yX5_find, Cond.instanceMethod yX5_find, Cond.selects RX5 yX5_find yX5_find, Cond.code yX5_find cX5_find 2 (some (.object "ExamHalls$Candidate")), Cond.fieldLink RX5 11 "ExamHalls" "candidates" "[LExamHalls$Candidate;", Cond.instanceMethod yX0_readingOf, Cond.initialized RX0, Cond.selects RX0 yX0_readingOf yX0_readingOf, Cond.code yX0_readingOf cX0_readingOf 3 (some .int), Cond.fieldLink RX0 39 "ExamHalls$Candidate" "readingCount" "I", Cond.fieldLink RX0 33 "ExamHalls$Candidate" "readBy" "[I", Cond.instanceMethod yX0_isMarked]
def wsX5_shift_r2 : List Cond := [Cond.selects RX0 yX0_isMarked yX0_isMarked, Cond.code yX0_isMarked cX0_isMarked 2 (some .boolean), Cond.methodLink RX0 45 yX0_markAt, Cond.instanceMethod yX0_markAt, Cond.selects RX0 yX0_markAt yX0_markAt, Cond.code yX0_markAt cX0_markAt 2 (some .int), Cond.fieldLink RX0 36 "ExamHalls$Candidate" "marks" "[I", Cond.methodLink RX5 301 yJ9_floorDiv_7cf53, Cond.static yJ9_floorDiv_7cf53, Cond.initialized RJ9, Cond.code yJ9_floorDiv_7cf53 cJ9_floorDiv_7cf53 3 (some .int)]
def wsX5_shift : List Cond := .code yX5_shift cX5_shift 2 (some .int) :: ((wsX5_shift_r1 ++ wsX5_shift_r2) ++ wsX50 ++ wsX00)
def wsX5_settleShifts_r1 : List Cond := [Cond.fieldLink RX5 25 "ExamHalls" "readerCount" "I", Cond.fieldLink RX5 55 "ExamHalls" "shifts" "[I", Cond.methodLink RX5 221 yX5_shiftOf, Cond.instanceMethod yX5_shiftOf, Cond.selects RX5 yX5_shiftOf yX5_shiftOf, Cond.initialized RX5, Cond.code yX5_shiftOf cX5_shiftOf 8 (some .int), Cond.fieldLink RX5 15 "ExamHalls" "candidateCount" "I", Cond.methodLink RX5 86 yX5_find, Cond.instanceMethod yX5_find, Cond.selects RX5 yX5_find yX5_find, Cond.code yX5_find cX5_find 2 (some (.object "ExamHalls$Candidate")), Cond.fieldLink RX5 11 "ExamHalls" "candidates" "[LExamHalls$Candidate;", Cond.instanceMethod yX0_readingOf, Cond.initialized RX0, Cond.selects RX0 yX0_readingOf yX0_readingOf, Cond.code yX0_readingOf cX0_readingOf 3 (some .int), Cond.fieldLink RX0 39 "ExamHalls$Candidate" "readingCount" "I", Cond.fieldLink RX0 33 "ExamHalls$Candidate" "readBy" "[I", Cond.instanceMethod yX0_isMarked, Cond.selects RX0 yX0_isMarked yX0_isMarked, Cond.code yX0_isMarked cX0_isMarked 2 (some .boolean), Cond.methodLink RX0 45 yX0_markAt, Cond.instanceMethod yX0_markAt]
def wsX5_settleShifts_r2 : List Cond := [Cond.selects RX0 yX0_markAt yX0_markAt, Cond.code yX0_markAt cX0_markAt 2 (some .int), Cond.fieldLink RX0 36 "ExamHalls$Candidate" "marks" "[I", Cond.methodLink RX5 301 yJ9_floorDiv_7cf53, Cond.static yJ9_floorDiv_7cf53, Cond.initialized RJ9, Cond.code yJ9_floorDiv_7cf53 cJ9_floorDiv_7cf53 3 (some .int)]
def wsX5_settleShifts : List Cond := .code yX5_settleShifts cX5_settleShifts 2 none :: ((wsX5_settleShifts_r1 ++ wsX5_settleShifts_r2) ++ wsX50 ++ wsX00)
def wsX5_score_r1 : List Cond := [Cond.methodLink RX5 86 yX5_find, Cond.instanceMethod yX5_find, Cond.selects RX5 yX5_find yX5_find, Cond.initialized RX5, Cond.code yX5_find cX5_find 2 (some (.object "ExamHalls$Candidate")), Cond.fieldLink RX5 15 "ExamHalls" "candidateCount" "I", Cond.fieldLink RX5 11 "ExamHalls" "candidates" "[LExamHalls$Candidate;", Cond.methodLink RX5 68 yX5_isWithin, Cond.static yX5_isWithin, Cond.code yX5_isWithin cX5_isWithin 3 (some .boolean), Cond.methodLink RX5 224 yX5_settleShifts, Cond.instanceMethod yX5_settleShifts, Cond.selects RX5 yX5_settleShifts yX5_settleShifts, Cond.code yX5_settleShifts cX5_settleShifts 2 none, Cond.fieldLink RX5 25 "ExamHalls" "readerCount" "I", Cond.fieldLink RX5 55 "ExamHalls" "shifts" "[I", Cond.methodLink RX5 221 yX5_shiftOf, Cond.instanceMethod yX5_shiftOf, Cond.selects RX5 yX5_shiftOf yX5_shiftOf, Cond.code yX5_shiftOf cX5_shiftOf 8 (some .int), Cond.instanceMethod yX0_readingOf, Cond.initialized RX0, Cond.selects RX0 yX0_readingOf yX0_readingOf, Cond.code yX0_readingOf cX0_readingOf 3 (some .int)]
def wsX5_score_r2 : List Cond := [Cond.fieldLink RX0 39 "ExamHalls$Candidate" "readingCount" "I", Cond.fieldLink RX0 33 "ExamHalls$Candidate" "readBy" "[I", Cond.instanceMethod yX0_isMarked, Cond.selects RX0 yX0_isMarked yX0_isMarked, Cond.code yX0_isMarked cX0_isMarked 2 (some .boolean), Cond.methodLink RX0 45 yX0_markAt, Cond.instanceMethod yX0_markAt, Cond.selects RX0 yX0_markAt yX0_markAt, Cond.code yX0_markAt cX0_markAt 2 (some .int), Cond.fieldLink RX0 36 "ExamHalls$Candidate" "marks" "[I", Cond.methodLink RX5 301 yJ9_floorDiv_7cf53, Cond.static yJ9_floorDiv_7cf53, Cond.initialized RJ9, Cond.code yJ9_floorDiv_7cf53 cJ9_floorDiv_7cf53 3 (some .int), Cond.methodLink RX5 227 yX5_scoreOf, Cond.instanceMethod yX5_scoreOf, Cond.selects RX5 yX5_scoreOf yX5_scoreOf, Cond.code yX5_scoreOf cX5_scoreOf 6 (some .int), Cond.fieldLink RX5 42 "ExamHalls" "apart" "I", Cond.instanceMethod yX0_countingReadings, Cond.selects RX0 yX0_countingReadings yX0_countingReadings, Cond.code yX0_countingReadings cX0_countingReadings 2 (some .int), Cond.methodLink RX0 61 yX0_markedCount, Cond.instanceMethod yX0_markedCount]
def wsX5_score_r3 : List Cond := [Cond.selects RX0 yX0_markedCount yX0_markedCount, Cond.code yX0_markedCount cX0_markedCount 3 (some .int), Cond.methodLink RX0 53 yX0_isMarked, Cond.methodLink RX0 69 yX0_nearestTwo, Cond.instanceMethod yX0_nearestTwo, Cond.selects RX0 yX0_nearestTwo yX0_nearestTwo, Cond.code yX0_nearestTwo cX0_nearestTwo 8 (some .int), Cond.methodLink RX0 65 yX0_difference, Cond.instanceMethod yX0_difference, Cond.selects RX0 yX0_difference yX0_difference, Cond.code yX0_difference cX0_difference 3 (some .int), Cond.methodLink RX0 56 Lib.Math.abs.name, Cond.static Lib.Math.abs.name, Cond.initialized "java/lang/Math", Cond.code Lib.Math.abs.name Lib.Math.abs.code 1 (some .int), Cond.methodLink RX5 308 yX5_scaledMark, Cond.instanceMethod yX5_scaledMark, Cond.selects RX5 yX5_scaledMark yX5_scaledMark, Cond.code yX5_scaledMark cX5_scaledMark 5 (some .int), Cond.methodLink RX5 311 Lib.Math.min.name, Cond.static Lib.Math.min.name, Cond.code Lib.Math.min.name Lib.Math.min.code 2 (some .int), Cond.methodLink RX5 314 Lib.Math.max.name, Cond.static Lib.Math.max.name]
def wsX5_score_r4 : List Cond := [Cond.code Lib.Math.max.name Lib.Math.max.code 2 (some .int), Cond.instanceMethod yX0_readerAt, Cond.selects RX0 yX0_readerAt yX0_readerAt, Cond.code yX0_readerAt cX0_readerAt 2 (some .int)]
def wsX5_score : List Cond := .code yX5_score cX5_score 4 (some .int) :: ((wsX5_score_r1 ++ (wsX5_score_r2 ++ (wsX5_score_r3 ++ wsX5_score_r4))) ++ wsX50 ++ wsX00)
def wsX5_quota : List Cond := .code yX5_quota cX5_quota 4 (some .int) :: ([.fieldLink RX5 45 "ExamHalls" "quotas" "[I", .methodLink RX5 68 yX5_isWithin, .static yX5_isWithin, .initialized RX5, .code yX5_isWithin cX5_isWithin 3 (some .boolean)] ++ wsX50)
def wsX5_rule : List Cond := .code yX5_rule cX5_rule 3 (some .int) :: ([.fieldLink RX5 49 "ExamHalls" "ties" "I", .fieldLink RX5 52 "ExamHalls" "way" "I", .methodLink RX5 68 yX5_isWithin, .static yX5_isWithin, .initialized RX5, .code yX5_isWithin cX5_isWithin 3 (some .boolean)] ++ wsX50)
def wsX5_settle_r1 : List Cond := [Cond.fieldLink RX5 15 "ExamHalls" "candidateCount" "I", Cond.fieldLink RX5 58 "ExamHalls" "values" "[I", Cond.fieldLink RX5 52 "ExamHalls" "way" "I", Cond.fieldLink RX5 61 "ExamHalls" "passing" "[Z", Cond.methodLink RX5 224 yX5_settleShifts, Cond.instanceMethod yX5_settleShifts, Cond.selects RX5 yX5_settleShifts yX5_settleShifts, Cond.initialized RX5, Cond.code yX5_settleShifts cX5_settleShifts 2 none, Cond.fieldLink RX5 25 "ExamHalls" "readerCount" "I", Cond.fieldLink RX5 55 "ExamHalls" "shifts" "[I", Cond.methodLink RX5 221 yX5_shiftOf, Cond.instanceMethod yX5_shiftOf, Cond.selects RX5 yX5_shiftOf yX5_shiftOf, Cond.code yX5_shiftOf cX5_shiftOf 8 (some .int), Cond.methodLink RX5 86 yX5_find, Cond.instanceMethod yX5_find, Cond.selects RX5 yX5_find yX5_find, Cond.code yX5_find cX5_find 2 (some (.object "ExamHalls$Candidate")), Cond.fieldLink RX5 11 "ExamHalls" "candidates" "[LExamHalls$Candidate;", Cond.instanceMethod yX0_readingOf, Cond.initialized RX0, Cond.selects RX0 yX0_readingOf yX0_readingOf, Cond.code yX0_readingOf cX0_readingOf 3 (some .int)]
def wsX5_settle_r2 : List Cond := [Cond.fieldLink RX0 39 "ExamHalls$Candidate" "readingCount" "I", Cond.fieldLink RX0 33 "ExamHalls$Candidate" "readBy" "[I", Cond.instanceMethod yX0_isMarked, Cond.selects RX0 yX0_isMarked yX0_isMarked, Cond.code yX0_isMarked cX0_isMarked 2 (some .boolean), Cond.methodLink RX0 45 yX0_markAt, Cond.instanceMethod yX0_markAt, Cond.selects RX0 yX0_markAt yX0_markAt, Cond.code yX0_markAt cX0_markAt 2 (some .int), Cond.fieldLink RX0 36 "ExamHalls$Candidate" "marks" "[I", Cond.methodLink RX5 301 yJ9_floorDiv_7cf53, Cond.static yJ9_floorDiv_7cf53, Cond.initialized RJ9, Cond.code yJ9_floorDiv_7cf53 cJ9_floorDiv_7cf53 3 (some .int), Cond.methodLink RX5 317 yX5_isFit, Cond.instanceMethod yX5_isFit, Cond.selects RX5 yX5_isFit yX5_isFit, Cond.code yX5_isFit cX5_isFit 2 (some .boolean), Cond.fieldLink RX5 38 "ExamHalls" "form" "LExamHalls$Form;", Cond.instanceMethod yX2_judgementOf, Cond.initialized RX2, Cond.selects RX2 yX2_judgementOf yX2_judgementOf, Cond.code yX2_judgementOf cX2_judgementOf 3 (some .int), Cond.fieldLink RX2 9 "ExamHalls$Form" "legCount" "I"]
def wsX5_settle_r3 : List Cond := [Cond.fieldLink RX2 15 "ExamHalls$Form" "least" "[I", Cond.fieldLink RX2 19 "ExamHalls$Form" "most" "[I", Cond.fieldLink RX2 28 "ExamHalls$Form" "parallelCount" "I", Cond.fieldLink RX2 22 "ExamHalls$Form" "oneSides" "[I", Cond.fieldLink RX2 25 "ExamHalls$Form" "otherSides" "[I", Cond.instanceMethod yX1_wordsOf, Cond.initialized RX1, Cond.selects RX1 yX1_wordsOf yX1_wordsOf, Cond.code yX1_wordsOf cX1_wordsOf 2 (some .int), Cond.fieldLink RX1 19 "ExamHalls$Essay" "legCount" "I", Cond.fieldLink RX1 15 "ExamHalls$Essay" "lengths" "[I", Cond.static yX5_isWithin, Cond.code yX5_isWithin cX5_isWithin 3 (some .boolean), Cond.methodLink RX2 49 yX2_isKept, Cond.static yX2_isKept, Cond.code yX2_isKept cX2_isKept 4 (some .boolean), Cond.instanceMethod yX1_hasLeg, Cond.selects RX1 yX1_hasLeg yX1_hasLeg, Cond.code yX1_hasLeg cX1_hasLeg 2 (some .boolean), Cond.instanceMethod yX1_wordAt, Cond.selects RX1 yX1_wordAt yX1_wordAt, Cond.code yX1_wordAt cX1_wordAt 3 (some .long), Cond.fieldLink RX1 9 "ExamHalls$Essay" "words" "[J", Cond.methodLink RX1 46 yX1_wordsOf]
def wsX5_settle_r4 : List Cond := [Cond.static yX5_letterCount, Cond.code yX5_letterCount cX5_letterCount 3 (some .int), Cond.methodLink RX2 53 yX2_hasBarred, Cond.instanceMethod yX2_hasBarred, Cond.selects RX2 yX2_hasBarred yX2_hasBarred, Cond.code yX2_hasBarred cX2_hasBarred 4 (some .boolean), Cond.methodLink RX2 69 yX2_isBarred, Cond.instanceMethod yX2_isBarred, Cond.selects RX2 yX2_isBarred yX2_isBarred, Cond.code yX2_isBarred cX2_isBarred 4 (some .boolean), Cond.fieldLink RX2 35 "ExamHalls$Form" "barredCount" "I", Cond.fieldLink RX2 31 "ExamHalls$Form" "barred" "[J", Cond.methodLink RX5 227 yX5_scoreOf, Cond.instanceMethod yX5_scoreOf, Cond.selects RX5 yX5_scoreOf yX5_scoreOf, Cond.code yX5_scoreOf cX5_scoreOf 6 (some .int), Cond.fieldLink RX5 42 "ExamHalls" "apart" "I", Cond.instanceMethod yX0_countingReadings, Cond.selects RX0 yX0_countingReadings yX0_countingReadings, Cond.code yX0_countingReadings cX0_countingReadings 2 (some .int), Cond.methodLink RX0 61 yX0_markedCount, Cond.instanceMethod yX0_markedCount, Cond.selects RX0 yX0_markedCount yX0_markedCount, Cond.code yX0_markedCount cX0_markedCount 3 (some .int)]
def wsX5_settle_r5 : List Cond := [Cond.methodLink RX0 53 yX0_isMarked, Cond.methodLink RX0 69 yX0_nearestTwo, Cond.instanceMethod yX0_nearestTwo, Cond.selects RX0 yX0_nearestTwo yX0_nearestTwo, Cond.code yX0_nearestTwo cX0_nearestTwo 8 (some .int), Cond.methodLink RX0 65 yX0_difference, Cond.instanceMethod yX0_difference, Cond.selects RX0 yX0_difference yX0_difference, Cond.code yX0_difference cX0_difference 3 (some .int), Cond.methodLink RX0 56 Lib.Math.abs.name, Cond.static Lib.Math.abs.name, Cond.initialized "java/lang/Math", Cond.code Lib.Math.abs.name Lib.Math.abs.code 1 (some .int), Cond.methodLink RX5 308 yX5_scaledMark, Cond.instanceMethod yX5_scaledMark, Cond.selects RX5 yX5_scaledMark yX5_scaledMark, Cond.code yX5_scaledMark cX5_scaledMark 5 (some .int), Cond.methodLink RX5 311 Lib.Math.min.name, Cond.static Lib.Math.min.name, Cond.code Lib.Math.min.name Lib.Math.min.code 2 (some .int), Cond.methodLink RX5 314 Lib.Math.max.name, Cond.static Lib.Math.max.name, Cond.code Lib.Math.max.name Lib.Math.max.code 2 (some .int), Cond.instanceMethod yX0_readerAt]
def wsX5_settle_r6 : List Cond := [Cond.selects RX0 yX0_readerAt yX0_readerAt, Cond.code yX0_readerAt cX0_readerAt 2 (some .int), Cond.methodLink RX5 68 yX5_isWithin, Cond.methodLink RX5 320 yX5_hasRoom, Cond.instanceMethod yX5_hasRoom, Cond.selects RX5 yX5_hasRoom yX5_hasRoom, Cond.code yX5_hasRoom cX5_hasRoom 8 (some .boolean), Cond.fieldLink RX5 45 "ExamHalls" "quotas" "[I", Cond.fieldLink RX5 49 "ExamHalls" "ties" "I"]
def wsX5_settle : List Cond := .code yX5_settle cX5_settle 4 none :: ((wsX5_settle_r1 ++ (wsX5_settle_r2 ++ (wsX5_settle_r3 ++ (wsX5_settle_r4 ++ (wsX5_settle_r5 ++ wsX5_settle_r6))))) ++ wsX50 ++ wsX00 ++ wsX10 ++ wsX20)
def wsX5_passes_r1 : List Cond := [Cond.fieldLink RX5 61 "ExamHalls" "passing" "[Z", Cond.methodLink RX5 86 yX5_find, Cond.instanceMethod yX5_find, Cond.selects RX5 yX5_find yX5_find, Cond.initialized RX5, Cond.code yX5_find cX5_find 2 (some (.object "ExamHalls$Candidate")), Cond.fieldLink RX5 15 "ExamHalls" "candidateCount" "I", Cond.fieldLink RX5 11 "ExamHalls" "candidates" "[LExamHalls$Candidate;", Cond.methodLink RX5 231 yX5_settle, Cond.instanceMethod yX5_settle, Cond.selects RX5 yX5_settle yX5_settle, Cond.code yX5_settle cX5_settle 4 none, Cond.fieldLink RX5 58 "ExamHalls" "values" "[I", Cond.fieldLink RX5 52 "ExamHalls" "way" "I", Cond.methodLink RX5 224 yX5_settleShifts, Cond.instanceMethod yX5_settleShifts, Cond.selects RX5 yX5_settleShifts yX5_settleShifts, Cond.code yX5_settleShifts cX5_settleShifts 2 none, Cond.fieldLink RX5 25 "ExamHalls" "readerCount" "I", Cond.fieldLink RX5 55 "ExamHalls" "shifts" "[I", Cond.methodLink RX5 221 yX5_shiftOf, Cond.instanceMethod yX5_shiftOf, Cond.selects RX5 yX5_shiftOf yX5_shiftOf, Cond.code yX5_shiftOf cX5_shiftOf 8 (some .int)]
def wsX5_passes_r2 : List Cond := [Cond.instanceMethod yX0_readingOf, Cond.initialized RX0, Cond.selects RX0 yX0_readingOf yX0_readingOf, Cond.code yX0_readingOf cX0_readingOf 3 (some .int), Cond.fieldLink RX0 39 "ExamHalls$Candidate" "readingCount" "I", Cond.fieldLink RX0 33 "ExamHalls$Candidate" "readBy" "[I", Cond.instanceMethod yX0_isMarked, Cond.selects RX0 yX0_isMarked yX0_isMarked, Cond.code yX0_isMarked cX0_isMarked 2 (some .boolean), Cond.methodLink RX0 45 yX0_markAt, Cond.instanceMethod yX0_markAt, Cond.selects RX0 yX0_markAt yX0_markAt, Cond.code yX0_markAt cX0_markAt 2 (some .int), Cond.fieldLink RX0 36 "ExamHalls$Candidate" "marks" "[I", Cond.methodLink RX5 301 yJ9_floorDiv_7cf53, Cond.static yJ9_floorDiv_7cf53, Cond.initialized RJ9, Cond.code yJ9_floorDiv_7cf53 cJ9_floorDiv_7cf53 3 (some .int), Cond.methodLink RX5 317 yX5_isFit, Cond.instanceMethod yX5_isFit, Cond.selects RX5 yX5_isFit yX5_isFit, Cond.code yX5_isFit cX5_isFit 2 (some .boolean), Cond.fieldLink RX5 38 "ExamHalls" "form" "LExamHalls$Form;", Cond.instanceMethod yX2_judgementOf]
def wsX5_passes_r3 : List Cond := [Cond.initialized RX2, Cond.selects RX2 yX2_judgementOf yX2_judgementOf, Cond.code yX2_judgementOf cX2_judgementOf 3 (some .int), Cond.fieldLink RX2 9 "ExamHalls$Form" "legCount" "I", Cond.fieldLink RX2 15 "ExamHalls$Form" "least" "[I", Cond.fieldLink RX2 19 "ExamHalls$Form" "most" "[I", Cond.fieldLink RX2 28 "ExamHalls$Form" "parallelCount" "I", Cond.fieldLink RX2 22 "ExamHalls$Form" "oneSides" "[I", Cond.fieldLink RX2 25 "ExamHalls$Form" "otherSides" "[I", Cond.instanceMethod yX1_wordsOf, Cond.initialized RX1, Cond.selects RX1 yX1_wordsOf yX1_wordsOf, Cond.code yX1_wordsOf cX1_wordsOf 2 (some .int), Cond.fieldLink RX1 19 "ExamHalls$Essay" "legCount" "I", Cond.fieldLink RX1 15 "ExamHalls$Essay" "lengths" "[I", Cond.static yX5_isWithin, Cond.code yX5_isWithin cX5_isWithin 3 (some .boolean), Cond.methodLink RX2 49 yX2_isKept, Cond.static yX2_isKept, Cond.code yX2_isKept cX2_isKept 4 (some .boolean), Cond.instanceMethod yX1_hasLeg, Cond.selects RX1 yX1_hasLeg yX1_hasLeg, Cond.code yX1_hasLeg cX1_hasLeg 2 (some .boolean), Cond.instanceMethod yX1_wordAt]
def wsX5_passes_r4 : List Cond := [Cond.selects RX1 yX1_wordAt yX1_wordAt, Cond.code yX1_wordAt cX1_wordAt 3 (some .long), Cond.fieldLink RX1 9 "ExamHalls$Essay" "words" "[J", Cond.methodLink RX1 46 yX1_wordsOf, Cond.static yX5_letterCount, Cond.code yX5_letterCount cX5_letterCount 3 (some .int), Cond.methodLink RX2 53 yX2_hasBarred, Cond.instanceMethod yX2_hasBarred, Cond.selects RX2 yX2_hasBarred yX2_hasBarred, Cond.code yX2_hasBarred cX2_hasBarred 4 (some .boolean), Cond.methodLink RX2 69 yX2_isBarred, Cond.instanceMethod yX2_isBarred, Cond.selects RX2 yX2_isBarred yX2_isBarred, Cond.code yX2_isBarred cX2_isBarred 4 (some .boolean), Cond.fieldLink RX2 35 "ExamHalls$Form" "barredCount" "I", Cond.fieldLink RX2 31 "ExamHalls$Form" "barred" "[J", Cond.methodLink RX5 227 yX5_scoreOf, Cond.instanceMethod yX5_scoreOf, Cond.selects RX5 yX5_scoreOf yX5_scoreOf, Cond.code yX5_scoreOf cX5_scoreOf 6 (some .int), Cond.fieldLink RX5 42 "ExamHalls" "apart" "I", Cond.instanceMethod yX0_countingReadings, Cond.selects RX0 yX0_countingReadings yX0_countingReadings, Cond.code yX0_countingReadings cX0_countingReadings 2 (some .int)]
def wsX5_passes_r5 : List Cond := [Cond.methodLink RX0 61 yX0_markedCount, Cond.instanceMethod yX0_markedCount, Cond.selects RX0 yX0_markedCount yX0_markedCount, Cond.code yX0_markedCount cX0_markedCount 3 (some .int), Cond.methodLink RX0 53 yX0_isMarked, Cond.methodLink RX0 69 yX0_nearestTwo, Cond.instanceMethod yX0_nearestTwo, Cond.selects RX0 yX0_nearestTwo yX0_nearestTwo, Cond.code yX0_nearestTwo cX0_nearestTwo 8 (some .int), Cond.methodLink RX0 65 yX0_difference, Cond.instanceMethod yX0_difference, Cond.selects RX0 yX0_difference yX0_difference, Cond.code yX0_difference cX0_difference 3 (some .int), Cond.methodLink RX0 56 Lib.Math.abs.name, Cond.static Lib.Math.abs.name, Cond.initialized "java/lang/Math", Cond.code Lib.Math.abs.name Lib.Math.abs.code 1 (some .int), Cond.methodLink RX5 308 yX5_scaledMark, Cond.instanceMethod yX5_scaledMark, Cond.selects RX5 yX5_scaledMark yX5_scaledMark, Cond.code yX5_scaledMark cX5_scaledMark 5 (some .int), Cond.methodLink RX5 311 Lib.Math.min.name, Cond.static Lib.Math.min.name, Cond.code Lib.Math.min.name Lib.Math.min.code 2 (some .int)]
def wsX5_passes_r6 : List Cond := [Cond.methodLink RX5 314 Lib.Math.max.name, Cond.static Lib.Math.max.name, Cond.code Lib.Math.max.name Lib.Math.max.code 2 (some .int), Cond.instanceMethod yX0_readerAt, Cond.selects RX0 yX0_readerAt yX0_readerAt, Cond.code yX0_readerAt cX0_readerAt 2 (some .int), Cond.methodLink RX5 68 yX5_isWithin, Cond.methodLink RX5 320 yX5_hasRoom, Cond.instanceMethod yX5_hasRoom, Cond.selects RX5 yX5_hasRoom yX5_hasRoom, Cond.code yX5_hasRoom cX5_hasRoom 8 (some .boolean), Cond.fieldLink RX5 45 "ExamHalls" "quotas" "[I", Cond.fieldLink RX5 49 "ExamHalls" "ties" "I", Cond.methodLink RX5 234 yX5_rankOf, Cond.instanceMethod yX5_rankOf, Cond.selects RX5 yX5_rankOf yX5_rankOf, Cond.code yX5_rankOf cX5_rankOf 4 (some .int)]
def wsX5_passes : List Cond := .code yX5_passes cX5_passes 2 (some .int) :: ((wsX5_passes_r1 ++ (wsX5_passes_r2 ++ (wsX5_passes_r3 ++ (wsX5_passes_r4 ++ (wsX5_passes_r5 ++ wsX5_passes_r6))))) ++ wsX50 ++ wsX00 ++ wsX10 ++ wsX20)
def wsX5_passed_r1 : List Cond := [Cond.fieldLink RX5 15 "ExamHalls" "candidateCount" "I", Cond.fieldLink RX5 61 "ExamHalls" "passing" "[Z", Cond.methodLink RX5 68 yX5_isWithin, Cond.static yX5_isWithin, Cond.initialized RX5, Cond.code yX5_isWithin cX5_isWithin 3 (some .boolean), Cond.methodLink RX5 231 yX5_settle, Cond.instanceMethod yX5_settle, Cond.selects RX5 yX5_settle yX5_settle, Cond.code yX5_settle cX5_settle 4 none, Cond.fieldLink RX5 58 "ExamHalls" "values" "[I", Cond.fieldLink RX5 52 "ExamHalls" "way" "I", Cond.methodLink RX5 224 yX5_settleShifts, Cond.instanceMethod yX5_settleShifts, Cond.selects RX5 yX5_settleShifts yX5_settleShifts, Cond.code yX5_settleShifts cX5_settleShifts 2 none, Cond.fieldLink RX5 25 "ExamHalls" "readerCount" "I", Cond.fieldLink RX5 55 "ExamHalls" "shifts" "[I", Cond.methodLink RX5 221 yX5_shiftOf, Cond.instanceMethod yX5_shiftOf, Cond.selects RX5 yX5_shiftOf yX5_shiftOf, Cond.code yX5_shiftOf cX5_shiftOf 8 (some .int), Cond.methodLink RX5 86 yX5_find, Cond.instanceMethod yX5_find]
def wsX5_passed_r2 : List Cond := [Cond.selects RX5 yX5_find yX5_find, Cond.code yX5_find cX5_find 2 (some (.object "ExamHalls$Candidate")), Cond.fieldLink RX5 11 "ExamHalls" "candidates" "[LExamHalls$Candidate;", Cond.instanceMethod yX0_readingOf, Cond.initialized RX0, Cond.selects RX0 yX0_readingOf yX0_readingOf, Cond.code yX0_readingOf cX0_readingOf 3 (some .int), Cond.fieldLink RX0 39 "ExamHalls$Candidate" "readingCount" "I", Cond.fieldLink RX0 33 "ExamHalls$Candidate" "readBy" "[I", Cond.instanceMethod yX0_isMarked, Cond.selects RX0 yX0_isMarked yX0_isMarked, Cond.code yX0_isMarked cX0_isMarked 2 (some .boolean), Cond.methodLink RX0 45 yX0_markAt, Cond.instanceMethod yX0_markAt, Cond.selects RX0 yX0_markAt yX0_markAt, Cond.code yX0_markAt cX0_markAt 2 (some .int), Cond.fieldLink RX0 36 "ExamHalls$Candidate" "marks" "[I", Cond.methodLink RX5 301 yJ9_floorDiv_7cf53, Cond.static yJ9_floorDiv_7cf53, Cond.initialized RJ9, Cond.code yJ9_floorDiv_7cf53 cJ9_floorDiv_7cf53 3 (some .int), Cond.methodLink RX5 317 yX5_isFit, Cond.instanceMethod yX5_isFit, Cond.selects RX5 yX5_isFit yX5_isFit]
def wsX5_passed_r3 : List Cond := [Cond.code yX5_isFit cX5_isFit 2 (some .boolean), Cond.fieldLink RX5 38 "ExamHalls" "form" "LExamHalls$Form;", Cond.instanceMethod yX2_judgementOf, Cond.initialized RX2, Cond.selects RX2 yX2_judgementOf yX2_judgementOf, Cond.code yX2_judgementOf cX2_judgementOf 3 (some .int), Cond.fieldLink RX2 9 "ExamHalls$Form" "legCount" "I", Cond.fieldLink RX2 15 "ExamHalls$Form" "least" "[I", Cond.fieldLink RX2 19 "ExamHalls$Form" "most" "[I", Cond.fieldLink RX2 28 "ExamHalls$Form" "parallelCount" "I", Cond.fieldLink RX2 22 "ExamHalls$Form" "oneSides" "[I", Cond.fieldLink RX2 25 "ExamHalls$Form" "otherSides" "[I", Cond.instanceMethod yX1_wordsOf, Cond.initialized RX1, Cond.selects RX1 yX1_wordsOf yX1_wordsOf, Cond.code yX1_wordsOf cX1_wordsOf 2 (some .int), Cond.fieldLink RX1 19 "ExamHalls$Essay" "legCount" "I", Cond.fieldLink RX1 15 "ExamHalls$Essay" "lengths" "[I", Cond.methodLink RX2 49 yX2_isKept, Cond.static yX2_isKept, Cond.code yX2_isKept cX2_isKept 4 (some .boolean), Cond.instanceMethod yX1_hasLeg, Cond.selects RX1 yX1_hasLeg yX1_hasLeg, Cond.code yX1_hasLeg cX1_hasLeg 2 (some .boolean)]
def wsX5_passed_r4 : List Cond := [Cond.instanceMethod yX1_wordAt, Cond.selects RX1 yX1_wordAt yX1_wordAt, Cond.code yX1_wordAt cX1_wordAt 3 (some .long), Cond.fieldLink RX1 9 "ExamHalls$Essay" "words" "[J", Cond.methodLink RX1 46 yX1_wordsOf, Cond.static yX5_letterCount, Cond.code yX5_letterCount cX5_letterCount 3 (some .int), Cond.methodLink RX2 53 yX2_hasBarred, Cond.instanceMethod yX2_hasBarred, Cond.selects RX2 yX2_hasBarred yX2_hasBarred, Cond.code yX2_hasBarred cX2_hasBarred 4 (some .boolean), Cond.methodLink RX2 69 yX2_isBarred, Cond.instanceMethod yX2_isBarred, Cond.selects RX2 yX2_isBarred yX2_isBarred, Cond.code yX2_isBarred cX2_isBarred 4 (some .boolean), Cond.fieldLink RX2 35 "ExamHalls$Form" "barredCount" "I", Cond.fieldLink RX2 31 "ExamHalls$Form" "barred" "[J", Cond.methodLink RX5 227 yX5_scoreOf, Cond.instanceMethod yX5_scoreOf, Cond.selects RX5 yX5_scoreOf yX5_scoreOf, Cond.code yX5_scoreOf cX5_scoreOf 6 (some .int), Cond.fieldLink RX5 42 "ExamHalls" "apart" "I", Cond.instanceMethod yX0_countingReadings, Cond.selects RX0 yX0_countingReadings yX0_countingReadings]
def wsX5_passed_r5 : List Cond := [Cond.code yX0_countingReadings cX0_countingReadings 2 (some .int), Cond.methodLink RX0 61 yX0_markedCount, Cond.instanceMethod yX0_markedCount, Cond.selects RX0 yX0_markedCount yX0_markedCount, Cond.code yX0_markedCount cX0_markedCount 3 (some .int), Cond.methodLink RX0 53 yX0_isMarked, Cond.methodLink RX0 69 yX0_nearestTwo, Cond.instanceMethod yX0_nearestTwo, Cond.selects RX0 yX0_nearestTwo yX0_nearestTwo, Cond.code yX0_nearestTwo cX0_nearestTwo 8 (some .int), Cond.methodLink RX0 65 yX0_difference, Cond.instanceMethod yX0_difference, Cond.selects RX0 yX0_difference yX0_difference, Cond.code yX0_difference cX0_difference 3 (some .int), Cond.methodLink RX0 56 Lib.Math.abs.name, Cond.static Lib.Math.abs.name, Cond.initialized "java/lang/Math", Cond.code Lib.Math.abs.name Lib.Math.abs.code 1 (some .int), Cond.methodLink RX5 308 yX5_scaledMark, Cond.instanceMethod yX5_scaledMark, Cond.selects RX5 yX5_scaledMark yX5_scaledMark, Cond.code yX5_scaledMark cX5_scaledMark 5 (some .int), Cond.methodLink RX5 311 Lib.Math.min.name, Cond.static Lib.Math.min.name]
def wsX5_passed_r6 : List Cond := [Cond.code Lib.Math.min.name Lib.Math.min.code 2 (some .int), Cond.methodLink RX5 314 Lib.Math.max.name, Cond.static Lib.Math.max.name, Cond.code Lib.Math.max.name Lib.Math.max.code 2 (some .int), Cond.instanceMethod yX0_readerAt, Cond.selects RX0 yX0_readerAt yX0_readerAt, Cond.code yX0_readerAt cX0_readerAt 2 (some .int), Cond.methodLink RX5 320 yX5_hasRoom, Cond.instanceMethod yX5_hasRoom, Cond.selects RX5 yX5_hasRoom yX5_hasRoom, Cond.code yX5_hasRoom cX5_hasRoom 8 (some .boolean), Cond.fieldLink RX5 45 "ExamHalls" "quotas" "[I", Cond.fieldLink RX5 49 "ExamHalls" "ties" "I"]
def wsX5_passed : List Cond := .code yX5_passed cX5_passed 5 (some .int) :: ((wsX5_passed_r1 ++ (wsX5_passed_r2 ++ (wsX5_passed_r3 ++ (wsX5_passed_r4 ++ (wsX5_passed_r5 ++ wsX5_passed_r6))))) ++ wsX50 ++ wsX00 ++ wsX10 ++ wsX20)
def wsX5_strike : List Cond := .code yX5_strike cX5_strike 5 (some .int) :: ([.methodLink RX5 86 yX5_find, .instanceMethod yX5_find, .selects RX5 yX5_find yX5_find, .initialized RX5, .code yX5_find cX5_find 2 (some (.object "ExamHalls$Candidate")), .fieldLink RX5 15 "ExamHalls" "candidateCount" "I", .fieldLink RX5 11 "ExamHalls" "candidates" "[LExamHalls$Candidate;", .methodLink RX5 68 yX5_isWithin, .static yX5_isWithin, .code yX5_isWithin cX5_isWithin 3 (some .boolean)] ++ wsX00 ++ wsX50)
def wsX5_ifStruck_r1 : List Cond := [Cond.fieldLink RX5 15 "ExamHalls" "candidateCount" "I", Cond.fieldLink RX5 65 "ExamHalls" "passedBefore" "[Z", Cond.fieldLink RX5 61 "ExamHalls" "passing" "[Z", Cond.methodLink RX5 86 yX5_find, Cond.instanceMethod yX5_find, Cond.selects RX5 yX5_find yX5_find, Cond.initialized RX5, Cond.code yX5_find cX5_find 2 (some (.object "ExamHalls$Candidate")), Cond.fieldLink RX5 11 "ExamHalls" "candidates" "[LExamHalls$Candidate;", Cond.methodLink RX5 231 yX5_settle, Cond.instanceMethod yX5_settle, Cond.selects RX5 yX5_settle yX5_settle, Cond.code yX5_settle cX5_settle 4 none, Cond.fieldLink RX5 58 "ExamHalls" "values" "[I", Cond.fieldLink RX5 52 "ExamHalls" "way" "I", Cond.methodLink RX5 224 yX5_settleShifts, Cond.instanceMethod yX5_settleShifts, Cond.selects RX5 yX5_settleShifts yX5_settleShifts, Cond.code yX5_settleShifts cX5_settleShifts 2 none, Cond.fieldLink RX5 25 "ExamHalls" "readerCount" "I", Cond.fieldLink RX5 55 "ExamHalls" "shifts" "[I", Cond.methodLink RX5 221 yX5_shiftOf, Cond.instanceMethod yX5_shiftOf, Cond.selects RX5 yX5_shiftOf yX5_shiftOf]
def wsX5_ifStruck_r2 : List Cond := [Cond.code yX5_shiftOf cX5_shiftOf 8 (some .int), Cond.instanceMethod yX0_readingOf, Cond.initialized RX0, Cond.selects RX0 yX0_readingOf yX0_readingOf, Cond.code yX0_readingOf cX0_readingOf 3 (some .int), Cond.fieldLink RX0 39 "ExamHalls$Candidate" "readingCount" "I", Cond.fieldLink RX0 33 "ExamHalls$Candidate" "readBy" "[I", Cond.instanceMethod yX0_isMarked, Cond.selects RX0 yX0_isMarked yX0_isMarked, Cond.code yX0_isMarked cX0_isMarked 2 (some .boolean), Cond.methodLink RX0 45 yX0_markAt, Cond.instanceMethod yX0_markAt, Cond.selects RX0 yX0_markAt yX0_markAt, Cond.code yX0_markAt cX0_markAt 2 (some .int), Cond.fieldLink RX0 36 "ExamHalls$Candidate" "marks" "[I", Cond.methodLink RX5 301 yJ9_floorDiv_7cf53, Cond.static yJ9_floorDiv_7cf53, Cond.initialized RJ9, Cond.code yJ9_floorDiv_7cf53 cJ9_floorDiv_7cf53 3 (some .int), Cond.methodLink RX5 317 yX5_isFit, Cond.instanceMethod yX5_isFit, Cond.selects RX5 yX5_isFit yX5_isFit, Cond.code yX5_isFit cX5_isFit 2 (some .boolean), Cond.fieldLink RX5 38 "ExamHalls" "form" "LExamHalls$Form;"]
def wsX5_ifStruck_r3 : List Cond := [Cond.instanceMethod yX2_judgementOf, Cond.initialized RX2, Cond.selects RX2 yX2_judgementOf yX2_judgementOf, Cond.code yX2_judgementOf cX2_judgementOf 3 (some .int), Cond.fieldLink RX2 9 "ExamHalls$Form" "legCount" "I", Cond.fieldLink RX2 15 "ExamHalls$Form" "least" "[I", Cond.fieldLink RX2 19 "ExamHalls$Form" "most" "[I", Cond.fieldLink RX2 28 "ExamHalls$Form" "parallelCount" "I", Cond.fieldLink RX2 22 "ExamHalls$Form" "oneSides" "[I", Cond.fieldLink RX2 25 "ExamHalls$Form" "otherSides" "[I", Cond.instanceMethod yX1_wordsOf, Cond.initialized RX1, Cond.selects RX1 yX1_wordsOf yX1_wordsOf, Cond.code yX1_wordsOf cX1_wordsOf 2 (some .int), Cond.fieldLink RX1 19 "ExamHalls$Essay" "legCount" "I", Cond.fieldLink RX1 15 "ExamHalls$Essay" "lengths" "[I", Cond.static yX5_isWithin, Cond.code yX5_isWithin cX5_isWithin 3 (some .boolean), Cond.methodLink RX2 49 yX2_isKept, Cond.static yX2_isKept, Cond.code yX2_isKept cX2_isKept 4 (some .boolean), Cond.instanceMethod yX1_hasLeg, Cond.selects RX1 yX1_hasLeg yX1_hasLeg, Cond.code yX1_hasLeg cX1_hasLeg 2 (some .boolean)]
def wsX5_ifStruck_r4 : List Cond := [Cond.instanceMethod yX1_wordAt, Cond.selects RX1 yX1_wordAt yX1_wordAt, Cond.code yX1_wordAt cX1_wordAt 3 (some .long), Cond.fieldLink RX1 9 "ExamHalls$Essay" "words" "[J", Cond.methodLink RX1 46 yX1_wordsOf, Cond.static yX5_letterCount, Cond.code yX5_letterCount cX5_letterCount 3 (some .int), Cond.methodLink RX2 53 yX2_hasBarred, Cond.instanceMethod yX2_hasBarred, Cond.selects RX2 yX2_hasBarred yX2_hasBarred, Cond.code yX2_hasBarred cX2_hasBarred 4 (some .boolean), Cond.methodLink RX2 69 yX2_isBarred, Cond.instanceMethod yX2_isBarred, Cond.selects RX2 yX2_isBarred yX2_isBarred, Cond.code yX2_isBarred cX2_isBarred 4 (some .boolean), Cond.fieldLink RX2 35 "ExamHalls$Form" "barredCount" "I", Cond.fieldLink RX2 31 "ExamHalls$Form" "barred" "[J", Cond.methodLink RX5 227 yX5_scoreOf, Cond.instanceMethod yX5_scoreOf, Cond.selects RX5 yX5_scoreOf yX5_scoreOf, Cond.code yX5_scoreOf cX5_scoreOf 6 (some .int), Cond.fieldLink RX5 42 "ExamHalls" "apart" "I", Cond.instanceMethod yX0_countingReadings, Cond.selects RX0 yX0_countingReadings yX0_countingReadings]
def wsX5_ifStruck_r5 : List Cond := [Cond.code yX0_countingReadings cX0_countingReadings 2 (some .int), Cond.methodLink RX0 61 yX0_markedCount, Cond.instanceMethod yX0_markedCount, Cond.selects RX0 yX0_markedCount yX0_markedCount, Cond.code yX0_markedCount cX0_markedCount 3 (some .int), Cond.methodLink RX0 53 yX0_isMarked, Cond.methodLink RX0 69 yX0_nearestTwo, Cond.instanceMethod yX0_nearestTwo, Cond.selects RX0 yX0_nearestTwo yX0_nearestTwo, Cond.code yX0_nearestTwo cX0_nearestTwo 8 (some .int), Cond.methodLink RX0 65 yX0_difference, Cond.instanceMethod yX0_difference, Cond.selects RX0 yX0_difference yX0_difference, Cond.code yX0_difference cX0_difference 3 (some .int), Cond.methodLink RX0 56 Lib.Math.abs.name, Cond.static Lib.Math.abs.name, Cond.initialized "java/lang/Math", Cond.code Lib.Math.abs.name Lib.Math.abs.code 1 (some .int), Cond.methodLink RX5 308 yX5_scaledMark, Cond.instanceMethod yX5_scaledMark, Cond.selects RX5 yX5_scaledMark yX5_scaledMark, Cond.code yX5_scaledMark cX5_scaledMark 5 (some .int), Cond.methodLink RX5 311 Lib.Math.min.name, Cond.static Lib.Math.min.name]
def wsX5_ifStruck_r6 : List Cond := [Cond.code Lib.Math.min.name Lib.Math.min.code 2 (some .int), Cond.methodLink RX5 314 Lib.Math.max.name, Cond.static Lib.Math.max.name, Cond.code Lib.Math.max.name Lib.Math.max.code 2 (some .int), Cond.instanceMethod yX0_readerAt, Cond.selects RX0 yX0_readerAt yX0_readerAt, Cond.code yX0_readerAt cX0_readerAt 2 (some .int), Cond.methodLink RX5 68 yX5_isWithin, Cond.methodLink RX5 320 yX5_hasRoom, Cond.instanceMethod yX5_hasRoom, Cond.selects RX5 yX5_hasRoom yX5_hasRoom, Cond.code yX5_hasRoom cX5_hasRoom 8 (some .boolean), Cond.fieldLink RX5 45 "ExamHalls" "quotas" "[I", Cond.fieldLink RX5 49 "ExamHalls" "ties" "I"]
def wsX5_ifStruck : List Cond := .code yX5_ifStruck cX5_ifStruck 4 (some .int) :: ((wsX5_ifStruck_r1 ++ (wsX5_ifStruck_r2 ++ (wsX5_ifStruck_r3 ++ (wsX5_ifStruck_r4 ++ (wsX5_ifStruck_r5 ++ wsX5_ifStruck_r6))))) ++ wsX50 ++ wsX00 ++ wsX10 ++ wsX20)
def wsX5_cell : List Cond := .code yX5_cell cX5_cell 5 (some .int) :: ([.methodLink RX5 86 yX5_find, .instanceMethod yX5_find, .selects RX5 yX5_find yX5_find, .initialized RX5, .code yX5_find cX5_find 2 (some (.object "ExamHalls$Candidate")), .fieldLink RX5 15 "ExamHalls" "candidateCount" "I", .fieldLink RX5 11 "ExamHalls" "candidates" "[LExamHalls$Candidate;", .methodLink RX5 68 yX5_isWithin, .static yX5_isWithin, .code yX5_isWithin cX5_isWithin 3 (some .boolean), .methodLink RX5 244 yX5_isTaken, .instanceMethod yX5_isTaken, .selects RX5 yX5_isTaken yX5_isTaken, .code yX5_isTaken cX5_isTaken 5 (some .boolean)] ++ wsX00 ++ wsX50)
def wsX5_kin : List Cond := .code yX5_kin cX5_kin 5 (some .int) :: ([.methodLink RX5 86 yX5_find, .instanceMethod yX5_find, .selects RX5 yX5_find yX5_find, .initialized RX5, .code yX5_find cX5_find 2 (some (.object "ExamHalls$Candidate")), .fieldLink RX5 15 "ExamHalls" "candidateCount" "I", .fieldLink RX5 11 "ExamHalls" "candidates" "[LExamHalls$Candidate;", .instanceMethod yX0_isKinOf, .initialized RX0, .selects RX0 yX0_isKinOf yX0_isKinOf, .code yX0_isKinOf cX0_isKinOf 2 (some .boolean), .fieldLink RX0 26 "ExamHalls$Candidate" "kinBits" "I", .instanceMethod yX0_addKin, .selects RX0 yX0_addKin yX0_addKin, .code yX0_addKin cX0_addKin 2 none] ++ wsX50 ++ wsX00)
def wsX5_near : List Cond := .code yX5_near cX5_near 4 (some .int) :: ([.fieldLink RX5 15 "ExamHalls" "candidateCount" "I", .methodLink RX5 86 yX5_find, .instanceMethod yX5_find, .selects RX5 yX5_find yX5_find, .initialized RX5, .code yX5_find cX5_find 2 (some (.object "ExamHalls$Candidate")), .fieldLink RX5 11 "ExamHalls" "candidates" "[LExamHalls$Candidate;", .methodLink RX5 257 yX5_areNearKin, .static yX5_areNearKin, .code yX5_areNearKin cX5_areNearKin 5 (some .boolean), .methodLink RX5 281 Lib.Math.abs.name, .static Lib.Math.abs.name, .initialized "java/lang/Math", .code Lib.Math.abs.name Lib.Math.abs.code 1 (some .int), .instanceMethod yX0_isKinOf, .initialized RX0, .selects RX0 yX0_isKinOf yX0_isKinOf, .code yX0_isKinOf cX0_isKinOf 2 (some .boolean), .fieldLink RX0 26 "ExamHalls$Candidate" "kinBits" "I"] ++ wsX50 ++ wsX00)
def wsX5_essayCount : List Cond := .code yX5_essayCount cX5_essayCount 3 (some .int) :: ([.fieldLink RX5 15 "ExamHalls" "candidateCount" "I", .methodLink RX5 111 yX5_textOf, .instanceMethod yX5_textOf, .selects RX5 yX5_textOf yX5_textOf, .initialized RX5, .code yX5_textOf cX5_textOf 3 (some (.object "ExamHalls$Essay")), .methodLink RX5 86 yX5_find, .instanceMethod yX5_find, .selects RX5 yX5_find yX5_find, .code yX5_find cX5_find 2 (some (.object "ExamHalls$Candidate")), .fieldLink RX5 11 "ExamHalls" "candidates" "[LExamHalls$Candidate;"] ++ wsX50 ++ wsX00)
def wsX5_struckCount : List Cond := .code yX5_struckCount cX5_struckCount 4 (some .int) :: ([.fieldLink RX5 15 "ExamHalls" "candidateCount" "I", .methodLink RX5 86 yX5_find, .instanceMethod yX5_find, .selects RX5 yX5_find yX5_find, .initialized RX5, .code yX5_find cX5_find 2 (some (.object "ExamHalls$Candidate")), .fieldLink RX5 11 "ExamHalls" "candidates" "[LExamHalls$Candidate;"] ++ wsX50 ++ wsX00)
def wsX5_markCount : List Cond := .code yX5_markCount cX5_markCount 4 (some .int) :: ([.fieldLink RX5 15 "ExamHalls" "candidateCount" "I", .methodLink RX5 86 yX5_find, .instanceMethod yX5_find, .selects RX5 yX5_find yX5_find, .initialized RX5, .code yX5_find cX5_find 2 (some (.object "ExamHalls$Candidate")), .fieldLink RX5 11 "ExamHalls" "candidates" "[LExamHalls$Candidate;", .instanceMethod yX0_markedCount, .initialized RX0, .selects RX0 yX0_markedCount yX0_markedCount, .code yX0_markedCount cX0_markedCount 3 (some .int), .fieldLink RX0 39 "ExamHalls$Candidate" "readingCount" "I", .methodLink RX0 53 yX0_isMarked, .instanceMethod yX0_isMarked, .selects RX0 yX0_isMarked yX0_isMarked, .code yX0_isMarked cX0_isMarked 2 (some .boolean), .methodLink RX0 45 yX0_markAt, .instanceMethod yX0_markAt, .selects RX0 yX0_markAt yX0_markAt, .code yX0_markAt cX0_markAt 2 (some .int), .fieldLink RX0 36 "ExamHalls$Candidate" "marks" "[I"] ++ wsX50 ++ wsX00)
def wsX5_passingCount : List Cond := .code yX5_passingCount cX5_passingCount 3 (some .int) :: ([.fieldLink RX5 15 "ExamHalls" "candidateCount" "I", .fieldLink RX5 61 "ExamHalls" "passing" "[Z"] ++ wsX50)
abbrev vwCl : List vw_C := [(RJ0, TJ0, 4), (RJ4, TJ4, 4), (RJ6, TJ6, 1), (RJxc9f04, TJxc9f04, 5), (RJx4a65c, TJx4a65c, 3), (RX0, TX0, 10), (RX1, TX1, 3), (RX2, TX2, 8), (RX3, TX3, 3), (RX4, TX4, 2), (RX5, TX5, 14), (RX6, TX6, 7), (RX7, TX7, 2), (RX8, TX8, 2), (RX9, TX9, 13)]
end
section
/-! new T[n][m] and new T[n][m][k], of which only this is said: the row is there, what was there stays -/
section MNA
variable {p : Program} {l : Launch} {e : Env} {R : Room} {s : State} {m : MethodId} {args : Array Value} {below : List Frame} {meth : Method} {c : Code}
def mk_M (p : Program) (l : Launch) (e : Env) (R : Room) (s : State) (m : MethodId) (args : Array Value) (below : List Frame) (meth : Method) (c : Code) (f : JFrame) (V : Vm) (comp : ClassId) (cs : List Int32) (kc ns : Nat) : Prop :=
  ∀ (T : State) (locs : List Loc) (cells slots : Nat), Stand p l e R s m args below meth c T locs cells slots → T.vm = V → cells + kc ≤ R.cells → slots + ns ≤ R.slots →
  ∀ (E : CtlPost) (d : Bool) (acts : List Action) (Q : Addr → Pre),
    (∀ (a : Addr) (T' : State) (locs' : List Loc) (d' : Bool) (acts' : List Action), Stand p l e R s m args below meth c T' locs' (cells + kc) (slots + ns) → T'.vm = V → T.heap.size ≤ a → T.heap.size ≤ T'.heap.size → (∀ q, q < T.heap.size → T'.heap[q]? = T.heap[q]?) → (∀ x ∈ locs', x ∈ locs ∨ T.heap.size ≤ x.base) → Q a d' acts' (T'.setTop f)) →
    wp (multianewarray.make comp cs) Q E e d acts (T.setTop f)
theorem mk_new {f : JFrame} {T : State} {locs : List Loc} {cells slots : Nat} (X : Stand p l e R s m args below meth c T locs cells slots) {ca comp : ClassId} {k : Class} {type : FieldType} {len : Nat} {init : Value} (hk : T.vm.classes[ca]? = some k) (hkind : k.kind = .array comp type)
    (hl : len ≤ 1000) (hfit : fits type init = true) (hdef : init.isDefault = true) (hcb : componentBytes type ≤ 8) (hc : cells + 1 ≤ R.cells) (hs : slots + len ≤ R.slots) {E : CtlPost} {d : Bool} {acts : List Action} {Q : Addr → Pre}
    (hq : Q T.heap.size d acts ((T.pushCell { cls := ca, slots := Array.replicate len init, vm := .none }).setTop f)) : wp (Jvm.newArray ca len init) Q E e d acts (T.setTop f) := by
  have hfits : ∀ i v, (Array.replicate len init)[i]? = some v → (T.setTop f).fitsSlot ca .none i v = true := by
    intro i v hv
    simp only [Array.getElem?_replicate] at hv
    split at hv
    · cases hv
      simp [State.fitsSlot, State.slotType?, hk, hkind, hfit]
    · cases hv
  have hda : allocActs (Array.replicate len init) (T.setTop f).heap.size acts = acts := by
    have hall : ((Array.replicate len init).all (·.isDefault)) = true := by
      rw [Array.all_replicate]
      split <;> simp [hdef]
    unfold allocActs
    rw [if_pos hall]
  have hl1 : ¬ len > e.platform.arrayLengthLimit := by rw [Launch.admits_arrayLengthLimit X.admits]; omega
  have hb1 : len * componentBytes type ≤ 8000 := Nat.mul_le_mul hl hcb
  have hh1 : ¬ len * componentBytes type > e.platform.maxHeapBytes := by rw [Launch.admits_maxHeapBytes X.admits]; omega
  obtain ⟨r1, r2⟩ := X.roomAbove hc hs
  simp only [Jvm.newArray, Jvm.arrayFits, wp_bind', W.ask, W.ite, hl1, if_false, wp_pure', W.theClass, State.vm_setTop, hk, hkind, hh1, W.alloc, W.stop, Option.some.injEq, exists_eq_left', Array.size_replicate, hda]
  rw [if_neg (by omega)]
  refine ⟨by show T.heap.size < _; omega, by show T.slotsUsed + len ≤ _; omega, hfits, ?_⟩
  rw [State.pushCell_setTop]
  exact hq
theorem mk_one {f : JFrame} {V : Vm} {comp cc : ClassId} {kc : Class} {type : FieldType} {k : Int32} (hkc : V.classes[comp]? = some kc) (hkind : kc.kind = .array cc type) (hm : ¬ k < 0) (hl : k.toNatClampNeg ≤ 1000)
    (hdf : fits type (defaultValue type) = true) (hdd : (defaultValue type).isDefault = true) (hcb : componentBytes type ≤ 8) : mk_M p l e R s m args below meth c f V comp [k] 1 k.toNatClampNeg := by
  intro T locs cells slots X hV hc hs E d acts Q hq
  subst hV
  rw [multianewarray.make]
  simp only [wp_bind', W.ite, hm, if_false, wp_pure', W.theClass, State.vm_setTop, hkc, hkind, Option.some.injEq, exists_eq_left']
  refine mk_new X hkc hkind hl hdf hdd hcb hc hs (hq _ _ _ _ _ ?_ rfl (Nat.le_refl _) ?_ ?_ (fun x hx => Or.inl hx))
  · have h := X.pushed ({ cls := comp, slots := Array.replicate k.toNatClampNeg (defaultValue type), vm := .none } : Cell)
    simpa using h
  · show T.heap.size ≤ (T.heap.push _).size
    rw [Array.size_push]
    omega
  · intro q hq'
    exact State.heap_pushCell_of_lt _ _ hq'
theorem mk_step {f : JFrame} {V : Vm} {ca comp : ClassId} {k : Class} {t0 : FieldType} {n r0 : Int32} {rs : List Int32} {kc ns : Nat} (hk : V.classes[ca]? = some k) (hkind : k.kind = .array comp t0) (href : t0.isReference = true) (hcb : componentBytes t0 ≤ 8)
    (hn : ¬ n < 0) (hl : n.toNatClampNeg ≤ 1000) (hfind : ((r0 :: rs).find? (· < 0)) = none) (hM : mk_M p l e R s m args below meth c f V comp (r0 :: rs) kc ns) :
    mk_M p l e R s m args below meth c f V ca (n :: r0 :: rs) (1 + n.toNatClampNeg * kc) (n.toNatClampNeg + n.toNatClampNeg * ns) := by
  intro T locs cells slots X hV hc hs E d acts Q hq
  have hkT : T.vm.classes[ca]? = some k := by rw [hV]; exact hk
  have hrf : ∀ v : Value, (v = .null ∨ ∃ a, v = .ref a) → fits t0 v = true := by
    intro v hv
    rcases hv with rfl | ⟨a, rfl⟩ <;> cases t0 <;> simp [FieldType.isReference] at href <;> rfl
  rw [multianewarray.make]
  simp only [wp_bind', W.ite, hn, if_false, wp_pure', W.theClass, State.vm_setTop, hkT, hkind, Option.some.injEq, exists_eq_left']
  refine mk_new X hkT hkind hl (hrf _ (Or.inl rfl)) rfl hcb (by omega) (by omega) ?_
  simp only [hfind]
  rw [ite_self, wp_bind', Std.Legacy.Range.forIn_eq_forIn_range']
  have hsz : ([:n.toNatClampNeg] : Std.Legacy.Range).size = n.toNatClampNeg := by simp [Std.Legacy.Range.size]
  rw [hsz]
  show wp (forIn (List.range' 0 n.toNatClampNeg 1) PUnit.unit _) _ E e d acts _
  refine wp_forIn_inv (fun rest s' => ∃ i, i ≤ n.toNatClampNeg ∧ rest = List.range' i (n.toNatClampNeg - i) ∧ ∃ (T' : State) (locs' : List Loc), s' = T'.setTop f ∧ Stand p l e R s m args below meth c T' locs' (cells + 1 + i * kc) (slots + n.toNatClampNeg + i * ns) ∧ T'.vm = V ∧ T.heap.size < T'.heap.size ∧ (∀ q, q < T.heap.size → T'.heap[q]? = T.heap[q]?) ∧ (∃ oc : Cell, T'.heap[T.heap.size]? = some oc ∧ oc.cls = ca ∧ oc.vm = .none ∧ oc.slots.size = n.toNatClampNeg) ∧ (∀ x ∈ locs', x ∈ locs ∨ T.heap.size ≤ x.base)) _ _ ?_ ?_ ?_
  · refine ⟨0, Nat.zero_le _, rfl, _, locs, rfl, ?_, hV, ?_, fun q hq' => State.heap_pushCell_of_lt _ _ hq', ⟨_, State.heap_pushCell_size _ _, rfl, rfl, by simp⟩, fun x hx => Or.inl hx⟩
    · have h := X.pushed ({ cls := ca, slots := Array.replicate n.toNatClampNeg .null, vm := .none } : Cell)
      simpa using h
    · show T.heap.size < (T.heap.push _).size
      rw [Array.size_push]
      omega
  · rintro x rest s' d' acts' Q' ⟨i, hi, hls, T', locs', rfl, X', hV', hlt', hold, ⟨oc, ho, o1, o2, o3⟩, hlo⟩ hnext
    have hlt : i < n.toNatClampNeg := by
      rcases Nat.lt_or_ge i n.toNatClampNeg with h | h
      · exact h
      · rw [show n.toNatClampNeg - i = 0 from by omega] at hls
        simp at hls
    obtain ⟨rfl, hrest⟩ : x = i ∧ rest = List.range' (i + 1) (n.toNatClampNeg - (i + 1)) := by
      rw [show n.toNatClampNeg - i = (n.toNatClampNeg - (i + 1)) + 1 from by omega, List.range'_succ] at hls
      exact ⟨(List.cons.inj hls).1, (List.cons.inj hls).2⟩
    have hmk : x * kc + kc ≤ n.toNatClampNeg * kc := by
      have := Nat.mul_le_mul_right kc (show x + 1 ≤ n.toNatClampNeg from hlt)
      rw [Nat.succ_mul] at this
      exact this
    have hms : x * ns + ns ≤ n.toNatClampNeg * ns := by
      have := Nat.mul_le_mul_right ns (show x + 1 ≤ n.toNatClampNeg from hlt)
      rw [Nat.succ_mul] at this
      exact this
    simp only [wp_bind']
    refine hM T' locs' _ _ X' hV' (by omega) (by omega) E d' acts' _ (fun a T2 locs2 d2 acts2 X2 hV2 ha hz2 hold2 hlo2 => ?_)
    have ho2 : T2.heap[T.heap.size]? = some oc := (hold2 _ hlt').trans ho
    simp only [wp_bind', W.writeLoc, wp_pure']
    refine ⟨oc, ho2, by rw [o2]; simp, by rw [o3]; exact hlt, ?_, hnext _ _ _ ⟨x + 1, hlt, hrest, T2.setCell T.heap.size (oc.setSlot x (.ref a)), locs2 ++ [⟨T.heap.size, x⟩], ?_, ?_, hV2, ?_, ?_, ?_, ?_⟩⟩
    · rw [o1, o2]
      have hk2 : T2.vm.classes[ca]? = some k := by rw [hV2]; exact hk
      simp [State.fitsSlot, State.slotType?, hk2, hkind, hrf _ (Or.inr ⟨a, rfl⟩)]
    · rw [State.setCell_setTop]
    · have h := X2.stored ho2 x (.ref a)
      have e1 : cells + 1 + (x + 1) * kc = cells + 1 + x * kc + kc := by rw [Nat.succ_mul]; omega
      have e2 : slots + n.toNatClampNeg + (x + 1) * ns = slots + n.toNatClampNeg + x * ns + ns := by rw [Nat.succ_mul]; omega
      rw [e1, e2]
      exact h
    · show T.heap.size < (T2.setCell _ _).heap.size
      simp [State.setCell]
      omega
    · intro q hq'
      rw [State.heap_setCell_other (Nat.ne_of_gt hq'), hold2 q (by omega)]
      exact hold q hq'
    · exact ⟨_, State.heap_setCell_self ho2, by simp [Cell.setSlot, o1], by simp [Cell.setSlot, o2], by simp [Cell.setSlot, o3]⟩
    · intro y hy
      rcases List.mem_append.mp hy with h | h
      · rcases hlo2 y h with h | h
        · exact hlo y h
        · exact Or.inr (by omega)
      · rw [List.mem_singleton.mp h]
        exact Or.inr (Nat.le_refl _)
  · rintro s' d' acts' ⟨i, hi, hls, T', locs', rfl, X', hV', hlt', hold, -, hlo⟩
    have hiN : i = n.toNatClampNeg := by
      rcases Nat.lt_or_ge i n.toNatClampNeg with h | h
      · rw [show n.toNatClampNeg - i = (n.toNatClampNeg - (i + 1)) + 1 from by omega, List.range'_succ] at hls
        cases hls
      · omega
    subst hiN
    simp only [wp_pure']
    refine hq _ T' locs' d' acts' ?_ hV' (Nat.le_refl _) (by omega) hold hlo
    rw [show cells + (1 + n.toNatClampNeg * kc) = cells + 1 + n.toNatClampNeg * kc by omega, show slots + (n.toNatClampNeg + n.toNatClampNeg * ns) = slots + n.toNatClampNeg + n.toNatClampNeg * ns by omega]
    exact X'
end MNA
section MNB
variable {p : Program} {l : Launch} {e : Env} {R : Room} {s : State} {m : MethodId} {args : Array Value} {below : List Frame} {meth : Method} {c : Code} {H : Heap} {locs : List Loc} {cells slots : Nat} {Q : State → Prop}
/-- one instruction, when the end isn't known yet -/
theorem mk_instr {tb : Tables} [Ours tb] {T : State} {f : JFrame} (h : At T f.method c below)
    (hw : match decode c.code f.pc with
      | .ok (i, len) => wpRun (tb.exec i)
          (fun _ s₁ _ => ∀ acts, ∃ t, Steps tb e below (afterInstr e len (.ok () s₁ acts)).1 t ∧ Q t)
          (fun x s₁ _ => ∀ acts, ∃ t, Steps tb e below (afterInstr e len (.ctl x s₁ acts)).1 t ∧ Q t) e (T.setTop f)
      | .error _ => False) : ∃ t, Steps tb e below (T.setTop f) t ∧ Q t := by
  rcases hd : decode c.code f.pc with x | ⟨i, len⟩
  · rw [hd] at hw
    exact hw.elim
  · rw [hd] at hw
    have hw := (wpRun_iff_run _ _ _ _ _).mp hw
    have key : ∃ t, Steps tb e below (stepThread tb e (T.setTop f)).1 t ∧ Q t := by
      rw [stepThread_java (State.frames_setTop' f h.top) h.plain h.code hd]
      cases hr : (tb.exec i).run e (T.setTop f) with
      | ok a s₁ acts =>
        rw [hr] at hw
        exact hw acts
      | ctl x s₁ acts =>
        rw [hr] at hw
        cases x <;> first | exact hw acts | exact hw.elim
    obtain ⟨t, h1, h2⟩ := key
    exact ⟨t, Steps.head ⟨h.running, by rw [State.curStatus?_setTop]; exact h.runnable, by rw [State.alone_setTop]; exact h.alone⟩ (h.within f) h1, h2⟩
variable {cc : ByteArray} {pc : Nat} {ls : Array Slot} {rest : List Value} {D : va_G} {cl : List vw_C} {A : Nat → Prop} {ws : va_W} {H0 : Heap}
theorem mk_W2 {nm own : String} {index : Nat} {cA : ClassId} {n1 n2 : Int32} {kc ns : Nat} (hexec : p.tables.exec = Jvm.exec) (hb : c.code = cc) (hown : s.vm.findClass own = some m.cls) (hclink : (Cond.classLink own index nm).before args s = true) (hcA : s.vm.findClass nm = some cA)
    (hM : ∀ (f : JFrame) (V : Vm), s.vm.Alike V → mk_M p l e R s m args below meth c f V cA [n1, n2] kc ns) (hdg : decode cc pc = .ok (.multianewarray index 2, 4)) (hcells : cells + kc ≤ R.cells) (hslots : slots + ns ≤ R.slots)
    (hP : va_P D cl ws H) (hS : va_S A H0 H locs) (hA : ∀ q, H0.size ≤ q → A q)
    (kk : ∀ (q : Nat) (H1 : Heap) (locs1 : List Loc), va_P D cl ws H1 → va_S A H0 H1 locs1 → W p l e R s m args below meth c H1 locs1 (cells + kc) (slots + ns) Q (F0 m (pc + 4) ls (.ref q :: rest))) : W p l e R s m args below meth c H locs cells slots Q (F0 m pc ls (.int n2 :: .int n1 :: rest)) := by
  intro T hT X
  subst hb
  have hpl : e.platform.magicAccessors = ({} : Platform).magicAccessors := by rw [X.admits.platform]
  obtain ⟨c0, hfc0, hcl⟩ := Cond.classLink_spec hown hclink e.platform hpl
  cases hcA.symm.trans hfc0
  obtain ⟨hg₁, hwarm₁, hready₁⟩ := State.classEntry (e := e) X.warmed hcl
  generalize T.vm.noted m.cls index (.cls cA) = vm₁ at hg₁ hwarm₁ hready₁
  have X₁ := X.noted hwarm₁
  have key : ∀ (a : Addr) (T' : State) (locs' : List Loc), Stand p l e R s m args below meth c T' locs' (cells + kc) (slots + ns) → T.heap.size ≤ T'.heap.size → (∀ q, q < T.heap.size → T'.heap[q]? = T.heap[q]?) → (∀ x ∈ locs', x ∈ locs ∨ T.heap.size ≤ x.base) → ∃ t, Steps p.tables e below (T'.setTop (F0 m (pc + 4) ls (.ref a :: rest))) t ∧ Q t := by
    intro a T' locs' X' hz hold hlo
    rw [hT] at hz hold hlo
    have hP' : va_P D cl ws T'.heap := hP.kept (fun k q hq => hold q.1 (hP k q hq).lt)
    have hS' : va_S A H0 T'.heap locs' := ⟨Nat.le_trans hS.1 hz, fun q h1 h2 => (hold q (Nat.lt_of_lt_of_le h1 hS.1)).trans (hS.2.1 q h1 h2), fun x hx => by
      rcases hlo x hx with h | h
      · exact hS.2.2 x h
      · exact hA _ (Nat.le_trans hS.1 h)⟩
    exact kk a T'.heap locs' hP' hS' T' rfl X'
  refine mk_instr (f := F0 m pc ls (.int n2 :: .int n1 :: rest)) (by simpa using X.here) ?_
  simp [jvm, wpRun, exec, X.here.top, hexec, hdg]
  simp only [multianewarray.sem, wp_bind', W.resolveClassAt_links (State.method?_setTop (F0 m pc ls (.int n2 :: .int n1 :: rest)) X.here.top) hg₁]
  rw [W.popN, if_neg (by decide)]
  refine ⟨F0 m pc ls (.int n2 :: .int n1 :: rest), State.topJava?_setTop' (s := T.setVm vm₁) _ X.here.top, [.int n1, .int n2], rest, rfl, rfl, ?_⟩
  simp only [List.mapM_cons, List.mapM_nil, wp_bind', wp_pure']
  have eS : ((T.setTop (F0 m pc ls (.int n2 :: .int n1 :: rest))).setVm vm₁).setTop (F0 m pc ls rest) = (T.setVm vm₁).setTop (F0 m pc ls rest) := by
    show ((T.setVm vm₁).setTop (F0 m pc ls (.int n2 :: .int n1 :: rest))).setTop _ = _
    rw [State.setTop_setTop]
  rw [eS]
  refine hM (F0 m pc ls rest) vm₁ hwarm₁.alike (T.setVm vm₁) locs cells slots X₁ rfl hcells hslots _ _ _ _ (fun a T' locs' d' acts' X' hV' ha hz hold hlo => ?_)
  simp only [wp_bind', W.mark, W.pushRef, State.topJava?_setTop' _ X'.here.top, Option.some.injEq, exists_eq_left', State.setTop_setTop]
  intro acts
  simp [jvm, X'.here.top]
  exact key a T' locs' X' hz hold hlo
theorem mk_W3 {nm own : String} {index : Nat} {cA : ClassId} {n1 n2 n3 : Int32} {kc ns : Nat} (hexec : p.tables.exec = Jvm.exec) (hb : c.code = cc) (hown : s.vm.findClass own = some m.cls) (hclink : (Cond.classLink own index nm).before args s = true) (hcA : s.vm.findClass nm = some cA)
    (hM : ∀ (f : JFrame) (V : Vm), s.vm.Alike V → mk_M p l e R s m args below meth c f V cA [n1, n2, n3] kc ns) (hdg : decode cc pc = .ok (.multianewarray index 3, 4)) (hcells : cells + kc ≤ R.cells) (hslots : slots + ns ≤ R.slots)
    (hP : va_P D cl ws H) (hS : va_S A H0 H locs) (hA : ∀ q, H0.size ≤ q → A q)
    (kk : ∀ (q : Nat) (H1 : Heap) (locs1 : List Loc), va_P D cl ws H1 → va_S A H0 H1 locs1 → W p l e R s m args below meth c H1 locs1 (cells + kc) (slots + ns) Q (F0 m (pc + 4) ls (.ref q :: rest))) : W p l e R s m args below meth c H locs cells slots Q (F0 m pc ls (.int n3 :: .int n2 :: .int n1 :: rest)) := by
  intro T hT X
  subst hb
  have hpl : e.platform.magicAccessors = ({} : Platform).magicAccessors := by rw [X.admits.platform]
  obtain ⟨c0, hfc0, hcl⟩ := Cond.classLink_spec hown hclink e.platform hpl
  cases hcA.symm.trans hfc0
  obtain ⟨hg₁, hwarm₁, hready₁⟩ := State.classEntry (e := e) X.warmed hcl
  generalize T.vm.noted m.cls index (.cls cA) = vm₁ at hg₁ hwarm₁ hready₁
  have X₁ := X.noted hwarm₁
  have key : ∀ (a : Addr) (T' : State) (locs' : List Loc), Stand p l e R s m args below meth c T' locs' (cells + kc) (slots + ns) → T.heap.size ≤ T'.heap.size → (∀ q, q < T.heap.size → T'.heap[q]? = T.heap[q]?) → (∀ x ∈ locs', x ∈ locs ∨ T.heap.size ≤ x.base) → ∃ t, Steps p.tables e below (T'.setTop (F0 m (pc + 4) ls (.ref a :: rest))) t ∧ Q t := by
    intro a T' locs' X' hz hold hlo
    rw [hT] at hz hold hlo
    have hP' : va_P D cl ws T'.heap := hP.kept (fun k q hq => hold q.1 (hP k q hq).lt)
    have hS' : va_S A H0 T'.heap locs' := ⟨Nat.le_trans hS.1 hz, fun q h1 h2 => (hold q (Nat.lt_of_lt_of_le h1 hS.1)).trans (hS.2.1 q h1 h2), fun x hx => by
      rcases hlo x hx with h | h
      · exact hS.2.2 x h
      · exact hA _ (Nat.le_trans hS.1 h)⟩
    exact kk a T'.heap locs' hP' hS' T' rfl X'
  refine mk_instr (f := F0 m pc ls (.int n3 :: .int n2 :: .int n1 :: rest)) (by simpa using X.here) ?_
  simp [jvm, wpRun, exec, X.here.top, hexec, hdg]
  simp only [multianewarray.sem, wp_bind', W.resolveClassAt_links (State.method?_setTop (F0 m pc ls (.int n3 :: .int n2 :: .int n1 :: rest)) X.here.top) hg₁]
  rw [W.popN, if_neg (by decide)]
  refine ⟨F0 m pc ls (.int n3 :: .int n2 :: .int n1 :: rest), State.topJava?_setTop' (s := T.setVm vm₁) _ X.here.top, [.int n1, .int n2, .int n3], rest, rfl, rfl, ?_⟩
  simp only [List.mapM_cons, List.mapM_nil, wp_bind', wp_pure']
  have eS : ((T.setTop (F0 m pc ls (.int n3 :: .int n2 :: .int n1 :: rest))).setVm vm₁).setTop (F0 m pc ls rest) = (T.setVm vm₁).setTop (F0 m pc ls rest) := by
    show ((T.setVm vm₁).setTop (F0 m pc ls (.int n3 :: .int n2 :: .int n1 :: rest))).setTop _ = _
    rw [State.setTop_setTop]
  rw [eS]
  refine hM (F0 m pc ls rest) vm₁ hwarm₁.alike (T.setVm vm₁) locs cells slots X₁ rfl hcells hslots _ _ _ _ (fun a T' locs' d' acts' X' hV' ha hz hold hlo => ?_)
  simp only [wp_bind', W.mark, W.pushRef, State.topJava?_setTop' _ X'.here.top, Option.some.injEq, exists_eq_left', State.setTop_setTop]
  intro acts
  simp [jvm, X'.here.top]
  exact key a T' locs' X' hz hold hlo
end MNB
end
section
set_option maxRecDepth 20000 in
theorem ggX5_init_X4_init : GoodIn wsX5_init wsX4_init := goodIn_r _ [29, 30, 2, 3, 31, 32, 33, 60, 61] (by decide +kernel) (by decide +kernel)
set_option maxRecDepth 20000 in
theorem gX5_init_X4_init_n30 : GoodIn wsX5_init (wsX4_init) := ggX5_init_X4_init
set_option maxRecDepth 20000 in
theorem ggX5_init_X2_init : GoodIn wsX5_init wsX2_init := goodIn_r _ [35, 36, 2, 3, 37, 19, 38, 39, 40, 41, 42, 43, 44, 45, 62, 63, 64, 65, 66, 67, 68, 69] (by decide +kernel) (by decide +kernel)
set_option maxRecDepth 20000 in
theorem gX5_init_X2_init_n37 : GoodIn wsX5_init (wsX2_init) := ggX5_init_X2_init
set_option maxRecDepth 20000 in
theorem ggX5_candidate_X5_isWithin : GoodIn wsX5_candidate wsX5_isWithin := goodIn_r _ [9] (by decide +kernel) (by decide +kernel)
set_option maxRecDepth 20000 in
theorem gX5_candidate_X5_isWithin : GoodIn wsX5_candidate (va_wsS RX5 68 yX5_isWithin wsX5_isWithin) := goodIn_app (goodIn_of _ (by decide +kernel)) ggX5_candidate_X5_isWithin
set_option maxRecDepth 20000 in
theorem ggX5_candidate_X0_init : GoodIn wsX5_candidate wsX0_init := goodIn_r _ [11, 12, 13, 14, 15, 16, 17, 18, 19, 20, 21, 22, 23, 24, 25, 40, 41, 42, 43, 44, 45, 46, 47, 48, 49] (by decide +kernel) (by decide +kernel)
set_option maxRecDepth 20000 in
theorem gX5_candidate_X0_init_n72 : GoodIn wsX5_candidate (wsX0_init) := ggX5_candidate_X0_init
set_option maxRecDepth 20000 in
theorem ggX5_essay_X5_find : GoodIn wsX5_essay wsX5_find := goodIn_r _ [9, 10, 11, 59, 60, 61, 62, 63, 64, 65, 66, 67, 68, 69, 70, 71, 72] (by decide +kernel) (by decide +kernel)
set_option maxRecDepth 20000 in
theorem gX5_essay_X5_find : GoodIn wsX5_essay (wsV RX5 86 RX5 yX5_find wsX5_find) := goodIn_app (goodIn_of _ (by decide +kernel)) ggX5_essay_X5_find
set_option maxRecDepth 20000 in
theorem ggX5_legs_X5_textOf : GoodIn wsX5_legs wsX5_textOf := goodIn_r _ [5, 6, 7, 8, 4, 9, 10, 11, 28, 29, 30, 31, 32, 33, 34, 35, 36, 37, 38, 39, 40, 41, 42, 43, 44, 45, 46, 47, 48, 49, 50, 51] (by decide +kernel) (by decide +kernel)
set_option maxRecDepth 20000 in
theorem gX5_legs_X5_textOf : GoodIn wsX5_legs (wsV RX5 111 RX5 yX5_textOf wsX5_textOf) := goodIn_app (goodIn_of _ (by decide +kernel)) ggX5_legs_X5_textOf
set_option maxRecDepth 20000 in
theorem ggX5_word_X5_textOf : GoodIn wsX5_word wsX5_textOf := goodIn_r _ [5, 6, 7, 8, 4, 9, 10, 11, 23, 24, 25, 26, 27, 28, 29, 30, 31, 32, 33, 34, 35, 36, 37, 38, 39, 40, 41, 42, 43, 44, 45, 46] (by decide +kernel) (by decide +kernel)
set_option maxRecDepth 20000 in
theorem gX5_word_X5_textOf : GoodIn wsX5_word (wsV RX5 111 RX5 yX5_textOf wsX5_textOf) := goodIn_app (goodIn_of _ (by decide +kernel)) ggX5_word_X5_textOf
set_option maxRecDepth 20000 in
theorem ggX5_form_X5_isWithin : GoodIn wsX5_form wsX5_isWithin := goodIn_r _ [5] (by decide +kernel) (by decide +kernel)
set_option maxRecDepth 20000 in
theorem gX5_form_X5_isWithin : GoodIn wsX5_form (va_wsS RX5 68 yX5_isWithin wsX5_isWithin) := goodIn_app (goodIn_of _ (by decide +kernel)) ggX5_form_X5_isWithin
set_option maxRecDepth 20000 in
theorem ggX5_measure_X5_isWithin : GoodIn wsX5_measure wsX5_isWithin := goodIn_r _ [5] (by decide +kernel) (by decide +kernel)
set_option maxRecDepth 20000 in
theorem gX5_measure_X5_isWithin : GoodIn wsX5_measure (va_wsS RX5 68 yX5_isWithin wsX5_isWithin) := goodIn_app (goodIn_of _ (by decide +kernel)) ggX5_measure_X5_isWithin
set_option maxRecDepth 20000 in
theorem ggX5_measure_X2_setMeasure : GoodIn wsX5_measure wsX2_setMeasure := goodIn_r _ [9, 10, 11, 26, 27, 28, 29, 30, 31, 32, 33] (by decide +kernel) (by decide +kernel)
set_option maxRecDepth 20000 in
theorem gX5_measure_X2_setMeasure_n130 : GoodIn wsX5_measure (wsX2_setMeasure) := ggX5_measure_X2_setMeasure
set_option maxRecDepth 20000 in
theorem ggX5_parallel_X5_isWithin : GoodIn wsX5_parallel wsX5_isWithin := goodIn_r _ [5] (by decide +kernel) (by decide +kernel)
set_option maxRecDepth 20000 in
theorem gX5_parallel_X5_isWithin : GoodIn wsX5_parallel (va_wsS RX5 68 yX5_isWithin wsX5_isWithin) := goodIn_app (goodIn_of _ (by decide +kernel)) ggX5_parallel_X5_isWithin
set_option maxRecDepth 20000 in
theorem ggX5_parallel_X2_addParallel : GoodIn wsX5_parallel wsX2_addParallel := goodIn_r _ [9, 10, 11, 12, 27, 28, 29, 30, 31, 32, 33, 34] (by decide +kernel) (by decide +kernel)
set_option maxRecDepth 20000 in
theorem gX5_parallel_X2_addParallel_n137 : GoodIn wsX5_parallel (wsX2_addParallel) := ggX5_parallel_X2_addParallel
set_option maxRecDepth 20000 in
theorem ggX5_judge_X5_textOf : GoodIn wsX5_judge wsX5_textOf := goodIn_r _ [6, 7, 8, 9, 5, 10, 11, 12, 68, 69, 70, 71, 72, 73, 74, 75, 76, 77, 54, 55, 56, 57, 58, 59, 60, 61, 62, 63, 64, 65, 66, 67] (by decide +kernel) (by decide +kernel)
set_option maxRecDepth 20000 in
theorem gX5_judge_X5_textOf : GoodIn wsX5_judge (wsV RX5 111 RX5 yX5_textOf wsX5_textOf) := goodIn_app (goodIn_of _ (by decide +kernel)) ggX5_judge_X5_textOf
set_option maxRecDepth 20000 in
theorem ggX5_like_X5_textOf : GoodIn wsX5_like wsX5_textOf := goodIn_r _ [5, 6, 7, 8, 4, 9, 10, 11, 45, 46, 47, 48, 49, 50, 51, 52, 53, 54, 55, 56, 57, 58, 59, 60, 61, 62, 63, 64, 65, 66, 67, 68] (by decide +kernel) (by decide +kernel)
set_option maxRecDepth 20000 in
theorem gX5_like_X5_textOf : GoodIn wsX5_like (wsV RX5 111 RX5 yX5_textOf wsX5_textOf) := goodIn_app (goodIn_of _ (by decide +kernel)) ggX5_like_X5_textOf
set_option maxRecDepth 20000 in
theorem ggX5_number_X5_find : GoodIn wsX5_number wsX5_find := goodIn_r _ [5, 6, 7, 25, 26, 27, 28, 29, 30, 31, 32, 33, 34, 35, 36, 37, 38] (by decide +kernel) (by decide +kernel)
set_option maxRecDepth 20000 in
theorem gX5_number_X5_find : GoodIn wsX5_number (wsV RX5 86 RX5 yX5_find wsX5_find) := goodIn_app (goodIn_of _ (by decide +kernel)) ggX5_number_X5_find
set_option maxRecDepth 20000 in
theorem ggX5_sees_X5_find : GoodIn wsX5_sees wsX5_find := goodIn_r _ [5, 6, 7, 16, 17, 18, 19, 20, 21, 22, 23, 24, 25, 26, 27, 28, 29] (by decide +kernel) (by decide +kernel)
set_option maxRecDepth 20000 in
theorem gX5_sees_X5_find : GoodIn wsX5_sees (wsV RX5 86 RX5 yX5_find wsX5_find) := goodIn_app (goodIn_of _ (by decide +kernel)) ggX5_sees_X5_find
set_option maxRecDepth 20000 in
theorem ggX5_opens_X5_isWithin : GoodIn wsX5_opens wsX5_isWithin := goodIn_r _ [4] (by decide +kernel) (by decide +kernel)
set_option maxRecDepth 20000 in
theorem gX5_opens_X5_isWithin : GoodIn wsX5_opens (va_wsS RX5 68 yX5_isWithin wsX5_isWithin) := goodIn_app (goodIn_of _ (by decide +kernel)) ggX5_opens_X5_isWithin
set_option maxRecDepth 20000 in
theorem ggX5_opens_X5_openedBy : GoodIn wsX5_opens wsX5_openedBy := goodIn_r _ [8, 9, 10, 11, 12, 3, 13, 14, 15, 16, 17, 18, 19, 20, 21, 22, 23, 24, 25, 26, 27, 28, 29, 30, 31, 32, 33, 34, 35, 36, 37, 38, 39, 40, 41, 42, 43] (by decide +kernel) (by decide +kernel)
set_option maxRecDepth 20000 in
theorem gX5_opens_X5_openedBy : GoodIn wsX5_opens (wsV RX5 176 RX5 yX5_openedBy wsX5_openedBy) := goodIn_app (goodIn_of _ (by decide +kernel)) ggX5_opens_X5_openedBy
set_option maxRecDepth 20000 in
theorem ggX5_reader_X5_isWithin : GoodIn wsX5_reader wsX5_isWithin := goodIn_r _ [9] (by decide +kernel) (by decide +kernel)
set_option maxRecDepth 20000 in
theorem gX5_reader_X5_isWithin : GoodIn wsX5_reader (va_wsS RX5 68 yX5_isWithin wsX5_isWithin) := goodIn_app (goodIn_of _ (by decide +kernel)) ggX5_reader_X5_isWithin
set_option maxRecDepth 20000 in
theorem ggX5_reader_X3_init : GoodIn wsX5_reader wsX3_init := goodIn_r _ [11, 12, 13, 14, 15, 16, 17, 32, 33, 34] (by decide +kernel) (by decide +kernel)
set_option maxRecDepth 20000 in
theorem gX5_reader_X3_init_n184 : GoodIn wsX5_reader (wsX3_init) := ggX5_reader_X3_init
set_option maxRecDepth 20000 in
theorem ggX5_apart_X5_isWithin : GoodIn wsX5_apart wsX5_isWithin := goodIn_r _ [5] (by decide +kernel) (by decide +kernel)
set_option maxRecDepth 20000 in
theorem gX5_apart_X5_isWithin : GoodIn wsX5_apart (va_wsS RX5 68 yX5_isWithin wsX5_isWithin) := goodIn_app (goodIn_of _ (by decide +kernel)) ggX5_apart_X5_isWithin
set_option maxRecDepth 20000 in
theorem ggX5_reading_X5_find : GoodIn wsX5_reading wsX5_find := goodIn_r _ [5, 6, 7, 25, 26, 27, 28, 29, 30, 31, 32, 33, 34, 35, 36, 37, 38] (by decide +kernel) (by decide +kernel)
set_option maxRecDepth 20000 in
theorem gX5_reading_X5_find : GoodIn wsX5_reading (wsV RX5 86 RX5 yX5_find wsX5_find) := goodIn_app (goodIn_of _ (by decide +kernel)) ggX5_reading_X5_find
set_option maxRecDepth 20000 in
theorem ggX5_mark_X5_find : GoodIn wsX5_mark wsX5_find := goodIn_r _ [5, 6, 7, 38, 39, 40, 41, 42, 43, 44, 45, 46, 47, 48, 49, 50, 51] (by decide +kernel) (by decide +kernel)
set_option maxRecDepth 20000 in
theorem gX5_mark_X5_find : GoodIn wsX5_mark (wsV RX5 86 RX5 yX5_find wsX5_find) := goodIn_app (goodIn_of _ (by decide +kernel)) ggX5_mark_X5_find
set_option maxRecDepth 20000 in
theorem ggX5_load_X5_findReader : GoodIn wsX5_load wsX5_findReader := goodIn_r _ [5, 6, 7, 11, 12, 13, 14, 15, 16, 17, 18, 19, 20, 21, 22, 23, 24] (by decide +kernel) (by decide +kernel)
set_option maxRecDepth 20000 in
theorem gX5_load_X5_findReader : GoodIn wsX5_load (wsV RX5 208 RX5 yX5_findReader wsX5_findReader) := goodIn_app (goodIn_of _ (by decide +kernel)) ggX5_load_X5_findReader
set_option maxRecDepth 20000 in
theorem ggX5_shift_X5_findReader : GoodIn wsX5_shift wsX5_findReader := goodIn_r _ [5, 6, 7, 36, 37, 38, 39, 40, 41, 42, 43, 44, 45, 46, 47, 48, 49] (by decide +kernel) (by decide +kernel)
set_option maxRecDepth 20000 in
theorem gX5_shift_X5_findReader : GoodIn wsX5_shift (wsV RX5 208 RX5 yX5_findReader wsX5_findReader) := goodIn_app (goodIn_of _ (by decide +kernel)) ggX5_shift_X5_findReader
set_option maxRecDepth 20000 in
theorem ggX5_score_X5_find : GoodIn wsX5_score wsX5_find := goodIn_r _ [5, 6, 7, 77, 78, 79, 80, 81, 82, 83, 84, 85, 86, 87, 88, 89, 90] (by decide +kernel) (by decide +kernel)
set_option maxRecDepth 20000 in
theorem gX5_score_X5_find : GoodIn wsX5_score (wsV RX5 86 RX5 yX5_find wsX5_find) := goodIn_app (goodIn_of _ (by decide +kernel)) ggX5_score_X5_find
set_option maxRecDepth 20000 in
theorem ggX5_quota_X5_isWithin : GoodIn wsX5_quota wsX5_isWithin := goodIn_r _ [5] (by decide +kernel) (by decide +kernel)
set_option maxRecDepth 20000 in
theorem gX5_quota_X5_isWithin : GoodIn wsX5_quota (va_wsS RX5 68 yX5_isWithin wsX5_isWithin) := goodIn_app (goodIn_of _ (by decide +kernel)) ggX5_quota_X5_isWithin
set_option maxRecDepth 20000 in
theorem ggX5_rule_X5_isWithin : GoodIn wsX5_rule wsX5_isWithin := goodIn_r _ [6] (by decide +kernel) (by decide +kernel)
set_option maxRecDepth 20000 in
theorem gX5_rule_X5_isWithin : GoodIn wsX5_rule (va_wsS RX5 68 yX5_isWithin wsX5_isWithin) := goodIn_app (goodIn_of _ (by decide +kernel)) ggX5_rule_X5_isWithin
set_option maxRecDepth 20000 in
theorem ggX5_passes_X5_find : GoodIn wsX5_passes wsX5_find := goodIn_r _ [6, 7, 8, 138, 139, 140, 141, 142, 143, 144, 145, 146, 147, 148, 149, 150, 151] (by decide +kernel) (by decide +kernel)
set_option maxRecDepth 20000 in
theorem gX5_passes_X5_find : GoodIn wsX5_passes (wsV RX5 86 RX5 yX5_find wsX5_find) := goodIn_app (goodIn_of _ (by decide +kernel)) ggX5_passes_X5_find
set_option maxRecDepth 20000 in
theorem ggX5_passed_X5_isWithin : GoodIn wsX5_passed wsX5_isWithin := goodIn_r _ [6] (by decide +kernel) (by decide +kernel)
set_option maxRecDepth 20000 in
theorem gX5_passed_X5_isWithin : GoodIn wsX5_passed (va_wsS RX5 68 yX5_isWithin wsX5_isWithin) := goodIn_app (goodIn_of _ (by decide +kernel)) ggX5_passed_X5_isWithin
set_option maxRecDepth 20000 in
theorem ggX5_passed_X5_settle : GoodIn wsX5_passed wsX5_settle := goodIn_r _ [10, 1, 11, 12, 2, 13, 14, 15, 5, 16, 17, 18, 19, 20, 21, 22, 23, 24, 25, 26, 27, 28, 29, 30, 31, 32, 33, 34, 35, 36, 37, 38, 39, 40, 41, 42, 43, 44, 45, 46, 47, 48, 49, 50, 51, 52, 53, 54, 55, 56, 57, 58, 59, 60, 61, 62, 63, 64, 65, 66, 4, 6, 67, 68, 69, 70, 71, 72, 73, 74, 75, 76, 77, 78, 79, 80, 81, 82, 83, 84, 85, 86, 87, 88, 89, 90, 91, 92, 93, 94, 95, 96, 97, 98, 99, 100, 101, 102, 103, 104, 105, 106, 107, 108, 109, 110, 111, 112, 113, 114, 115, 116, 117, 118, 119, 120, 121, 122, 123, 124, 125, 126, 127, 3, 128, 129, 130, 131, 132, 133, 134, 135, 136, 137, 138, 139, 140, 141, 142, 143, 144, 145, 146, 147, 148, 149, 150, 151, 152, 153, 154, 155, 156, 157, 158, 159, 160, 161, 162, 163, 164, 165, 166, 167, 168] (by decide +kernel) (by decide +kernel)
set_option maxRecDepth 20000 in
theorem gX5_passed_X5_settle : GoodIn wsX5_passed (wsV RX5 231 RX5 yX5_settle wsX5_settle) := goodIn_app (goodIn_of _ (by decide +kernel)) ggX5_passed_X5_settle
set_option maxRecDepth 20000 in
theorem ggX5_strike_X5_find : GoodIn wsX5_strike wsX5_find := goodIn_r _ [5, 6, 7, 21, 22, 23, 24, 25, 26, 27, 28, 29, 30, 31, 32, 33, 34] (by decide +kernel) (by decide +kernel)
set_option maxRecDepth 20000 in
theorem gX5_strike_X5_find : GoodIn wsX5_strike (wsV RX5 86 RX5 yX5_find wsX5_find) := goodIn_app (goodIn_of _ (by decide +kernel)) ggX5_strike_X5_find
set_option maxRecDepth 20000 in
theorem ggX5_ifStruck_X5_find : GoodIn wsX5_ifStruck wsX5_find := goodIn_r _ [8, 1, 9, 135, 136, 137, 138, 139, 140, 141, 142, 143, 144, 145, 146, 147, 148] (by decide +kernel) (by decide +kernel)
set_option maxRecDepth 20000 in
theorem gX5_ifStruck_X5_find : GoodIn wsX5_ifStruck (wsV RX5 86 RX5 yX5_find wsX5_find) := goodIn_app (goodIn_of _ (by decide +kernel)) ggX5_ifStruck_X5_find
set_option maxRecDepth 20000 in
theorem ggX5_cell_X5_find : GoodIn wsX5_cell wsX5_find := goodIn_r _ [5, 6, 7, 25, 26, 27, 28, 29, 30, 31, 32, 33, 34, 35, 36, 37, 38] (by decide +kernel) (by decide +kernel)
set_option maxRecDepth 20000 in
theorem gX5_cell_X5_find : GoodIn wsX5_cell (wsV RX5 86 RX5 yX5_find wsX5_find) := goodIn_app (goodIn_of _ (by decide +kernel)) ggX5_cell_X5_find
set_option maxRecDepth 20000 in
theorem ggX5_kin_X5_find : GoodIn wsX5_kin wsX5_find := goodIn_r _ [5, 6, 7, 16, 17, 18, 19, 20, 21, 22, 23, 24, 25, 26, 27, 28, 29] (by decide +kernel) (by decide +kernel)
set_option maxRecDepth 20000 in
theorem gX5_kin_X5_find : GoodIn wsX5_kin (wsV RX5 86 RX5 yX5_find wsX5_find) := goodIn_app (goodIn_of _ (by decide +kernel)) ggX5_kin_X5_find
set_option maxRecDepth 20000 in
theorem ggX5_textOf_X5_find : GoodIn wsX5_textOf wsX5_find := goodIn_r _ [5, 6, 7, 18, 19, 20, 21, 22, 23, 24, 25, 26, 27, 28, 29, 30, 31] (by decide +kernel) (by decide +kernel)
set_option maxRecDepth 20000 in
theorem gX5_textOf_X5_find : GoodIn wsX5_textOf (wsV RX5 86 RX5 yX5_find wsX5_find) := goodIn_app (goodIn_of _ (by decide +kernel)) ggX5_textOf_X5_find
set_option maxRecDepth 20000 in
theorem ggX5_settle_X5_settleShifts : GoodIn wsX5_settle wsX5_settleShifts := goodIn_r _ [9, 10, 11, 12, 13, 14, 8, 15, 1, 16, 17, 18, 19, 20, 21, 22, 23, 24, 25, 26, 27, 28, 29, 30, 31, 32, 33, 34, 35, 36, 37, 38, 130, 131, 132, 133, 134, 135, 136, 137, 138, 139, 140, 141, 142, 143, 144, 145, 146, 147, 148, 149, 150, 151, 152, 153] (by decide +kernel) (by decide +kernel)
set_option maxRecDepth 20000 in
theorem gX5_settle_X5_settleShifts : GoodIn wsX5_settle (wsV RX5 224 RX5 yX5_settleShifts wsX5_settleShifts) := goodIn_app (goodIn_of _ (by decide +kernel)) ggX5_settle_X5_settleShifts
theorem dX0_init_0 : decode cX0_init 0 = .ok (.aload_n 0, 1) := by decide +kernel
theorem dX0_init_1 : decode cX0_init 1 = .ok (.invokespecial 3, 3) := by decide +kernel
theorem dX0_init_4 : decode cX0_init 4 = .ok (.aload_n 0, 1) := by decide +kernel
theorem dX0_init_5 : decode cX0_init 5 = .ok (.aconst_null, 1) := by decide +kernel
theorem dX0_init_6 : decode cX0_init 6 = .ok (.putfield 9, 3) := by decide +kernel
theorem dX0_init_9 : decode cX0_init 9 = .ok (.aload_n 0, 1) := by decide +kernel
theorem dX0_init_10 : decode cX0_init 10 = .ok (.iconst (-1), 1) := by decide +kernel
theorem dX0_init_11 : decode cX0_init 11 = .ok (.putfield 15, 3) := by decide +kernel
theorem dX0_init_14 : decode cX0_init 14 = .ok (.aload_n 0, 1) := by decide +kernel
theorem dX0_init_15 : decode cX0_init 15 = .ok (.iconst (-1), 1) := by decide +kernel
theorem dX0_init_16 : decode cX0_init 16 = .ok (.putfield 19, 3) := by decide +kernel
theorem dX0_init_19 : decode cX0_init 19 = .ok (.aload_n 0, 1) := by decide +kernel
theorem dX0_init_20 : decode cX0_init 20 = .ok (.iconst 0, 1) := by decide +kernel
theorem dX0_init_21 : decode cX0_init 21 = .ok (.putfield 22, 3) := by decide +kernel
theorem dX0_init_24 : decode cX0_init 24 = .ok (.aload_n 0, 1) := by decide +kernel
theorem dX0_init_25 : decode cX0_init 25 = .ok (.iconst 0, 1) := by decide +kernel
theorem dX0_init_26 : decode cX0_init 26 = .ok (.putfield 26, 3) := by decide +kernel
theorem dX0_init_29 : decode cX0_init 29 = .ok (.aload_n 0, 1) := by decide +kernel
theorem dX0_init_30 : decode cX0_init 30 = .ok (.bipush 8, 2) := by decide +kernel
theorem dX0_init_32 : decode cX0_init 32 = .ok (.newarray .int, 2) := by decide +kernel
theorem dX0_init_34 : decode cX0_init 34 = .ok (.putfield 29, 3) := by decide +kernel
theorem dX0_init_37 : decode cX0_init 37 = .ok (.aload_n 0, 1) := by decide +kernel
theorem dX0_init_38 : decode cX0_init 38 = .ok (.iconst 3, 1) := by decide +kernel
theorem dX0_init_39 : decode cX0_init 39 = .ok (.newarray .int, 2) := by decide +kernel
theorem dX0_init_41 : decode cX0_init 41 = .ok (.putfield 33, 3) := by decide +kernel
theorem dX0_init_44 : decode cX0_init 44 = .ok (.aload_n 0, 1) := by decide +kernel
theorem dX0_init_45 : decode cX0_init 45 = .ok (.iconst 3, 1) := by decide +kernel
theorem dX0_init_46 : decode cX0_init 46 = .ok (.newarray .int, 2) := by decide +kernel
theorem dX0_init_48 : decode cX0_init 48 = .ok (.putfield 36, 3) := by decide +kernel
theorem dX0_init_51 : decode cX0_init 51 = .ok (.aload_n 0, 1) := by decide +kernel
theorem dX0_init_52 : decode cX0_init 52 = .ok (.iconst 0, 1) := by decide +kernel
theorem dX0_init_53 : decode cX0_init 53 = .ok (.putfield 39, 3) := by decide +kernel
theorem dX0_init_56 : decode cX0_init 56 = .ok (.aload_n 0, 1) := by decide +kernel
theorem dX0_init_57 : decode cX0_init 57 = .ok (.iload_n 1, 1) := by decide +kernel
theorem dX0_init_58 : decode cX0_init 58 = .ok (.putfield 42, 3) := by decide +kernel
theorem dX0_init_61 : decode cX0_init 61 = .ok (.return_, 1) := by decide +kernel
theorem dX2_init_0 : decode cX2_init 0 = .ok (.aload_n 0, 1) := by decide +kernel
theorem dX2_init_1 : decode cX2_init 1 = .ok (.invokespecial 3, 3) := by decide +kernel
theorem dX2_init_4 : decode cX2_init 4 = .ok (.aload_n 0, 1) := by decide +kernel
theorem dX2_init_5 : decode cX2_init 5 = .ok (.iconst 1, 1) := by decide +kernel
theorem dX2_init_6 : decode cX2_init 6 = .ok (.putfield 9, 3) := by decide +kernel
theorem dX2_init_9 : decode cX2_init 9 = .ok (.aload_n 0, 1) := by decide +kernel
theorem dX2_init_10 : decode cX2_init 10 = .ok (.bipush 8, 2) := by decide +kernel
theorem dX2_init_12 : decode cX2_init 12 = .ok (.newarray .int, 2) := by decide +kernel
theorem dX2_init_14 : decode cX2_init 14 = .ok (.putfield 15, 3) := by decide +kernel
theorem dX2_init_17 : decode cX2_init 17 = .ok (.aload_n 0, 1) := by decide +kernel
theorem dX2_init_18 : decode cX2_init 18 = .ok (.bipush 8, 2) := by decide +kernel
theorem dX2_init_20 : decode cX2_init 20 = .ok (.newarray .int, 2) := by decide +kernel
theorem dX2_init_22 : decode cX2_init 22 = .ok (.putfield 19, 3) := by decide +kernel
theorem dX2_init_25 : decode cX2_init 25 = .ok (.aload_n 0, 1) := by decide +kernel
theorem dX2_init_26 : decode cX2_init 26 = .ok (.bipush 6, 2) := by decide +kernel
theorem dX2_init_28 : decode cX2_init 28 = .ok (.newarray .int, 2) := by decide +kernel
theorem dX2_init_30 : decode cX2_init 30 = .ok (.putfield 22, 3) := by decide +kernel
theorem dX2_init_33 : decode cX2_init 33 = .ok (.aload_n 0, 1) := by decide +kernel
theorem dX2_init_34 : decode cX2_init 34 = .ok (.bipush 6, 2) := by decide +kernel
theorem dX2_init_36 : decode cX2_init 36 = .ok (.newarray .int, 2) := by decide +kernel
theorem dX2_init_38 : decode cX2_init 38 = .ok (.putfield 25, 3) := by decide +kernel
theorem dX2_init_41 : decode cX2_init 41 = .ok (.aload_n 0, 1) := by decide +kernel
theorem dX2_init_42 : decode cX2_init 42 = .ok (.iconst 0, 1) := by decide +kernel
theorem dX2_init_43 : decode cX2_init 43 = .ok (.putfield 28, 3) := by decide +kernel
theorem dX2_init_46 : decode cX2_init 46 = .ok (.aload_n 0, 1) := by decide +kernel
theorem dX2_init_47 : decode cX2_init 47 = .ok (.bipush 8, 2) := by decide +kernel
theorem dX2_init_49 : decode cX2_init 49 = .ok (.newarray .long, 2) := by decide +kernel
theorem dX2_init_51 : decode cX2_init 51 = .ok (.putfield 31, 3) := by decide +kernel
theorem dX2_init_54 : decode cX2_init 54 = .ok (.aload_n 0, 1) := by decide +kernel
theorem dX2_init_55 : decode cX2_init 55 = .ok (.iconst 0, 1) := by decide +kernel
theorem dX2_init_56 : decode cX2_init 56 = .ok (.putfield 35, 3) := by decide +kernel
theorem dX2_init_59 : decode cX2_init 59 = .ok (.iconst 0, 1) := by decide +kernel
theorem dX2_init_60 : decode cX2_init 60 = .ok (.istore_n 1, 1) := by decide +kernel
theorem dX2_init_61 : decode cX2_init 61 = .ok (.iload_n 1, 1) := by decide +kernel
theorem dX2_init_62 : decode cX2_init 62 = .ok (.bipush 8, 2) := by decide +kernel
theorem dX2_init_64 : decode cX2_init 64 = .ok (.if_icmp .ge 24, 3) := by decide +kernel
theorem dX2_init_67 : decode cX2_init 67 = .ok (.aload_n 0, 1) := by decide +kernel
theorem dX2_init_68 : decode cX2_init 68 = .ok (.getfield 15, 3) := by decide +kernel
theorem dX2_init_71 : decode cX2_init 71 = .ok (.iload_n 1, 1) := by decide +kernel
theorem dX2_init_72 : decode cX2_init 72 = .ok (.iconst 1, 1) := by decide +kernel
theorem dX2_init_73 : decode cX2_init 73 = .ok (.iastore, 1) := by decide +kernel
theorem dX2_init_74 : decode cX2_init 74 = .ok (.aload_n 0, 1) := by decide +kernel
theorem dX2_init_75 : decode cX2_init 75 = .ok (.getfield 19, 3) := by decide +kernel
theorem dX2_init_78 : decode cX2_init 78 = .ok (.iload_n 1, 1) := by decide +kernel
theorem dX2_init_79 : decode cX2_init 79 = .ok (.bipush 12, 2) := by decide +kernel
theorem dX2_init_81 : decode cX2_init 81 = .ok (.iastore, 1) := by decide +kernel
theorem dX2_init_82 : decode cX2_init 82 = .ok (.iinc 1 1, 3) := by decide +kernel
theorem dX2_init_85 : decode cX2_init 85 = .ok (.goto (-24), 3) := by decide +kernel
theorem dX2_init_88 : decode cX2_init 88 = .ok (.return_, 1) := by decide +kernel
theorem dX2_setMeasure_0 : decode cX2_setMeasure 0 = .ok (.iload_n 1, 1) := by decide +kernel
theorem dX2_setMeasure_1 : decode cX2_setMeasure 1 = .ok (.ifCond .lt 23, 3) := by decide +kernel
theorem dX2_setMeasure_4 : decode cX2_setMeasure 4 = .ok (.iload_n 1, 1) := by decide +kernel
theorem dX2_setMeasure_5 : decode cX2_setMeasure 5 = .ok (.bipush 8, 2) := by decide +kernel
theorem dX2_setMeasure_7 : decode cX2_setMeasure 7 = .ok (.if_icmp .ge 17, 3) := by decide +kernel
theorem dX2_setMeasure_10 : decode cX2_setMeasure 10 = .ok (.aload_n 0, 1) := by decide +kernel
theorem dX2_setMeasure_11 : decode cX2_setMeasure 11 = .ok (.getfield 15, 3) := by decide +kernel
theorem dX2_setMeasure_14 : decode cX2_setMeasure 14 = .ok (.iload_n 1, 1) := by decide +kernel
theorem dX2_setMeasure_15 : decode cX2_setMeasure 15 = .ok (.iload_n 2, 1) := by decide +kernel
theorem dX2_setMeasure_16 : decode cX2_setMeasure 16 = .ok (.iastore, 1) := by decide +kernel
theorem dX2_setMeasure_17 : decode cX2_setMeasure 17 = .ok (.aload_n 0, 1) := by decide +kernel
theorem dX2_setMeasure_18 : decode cX2_setMeasure 18 = .ok (.getfield 19, 3) := by decide +kernel
theorem dX2_setMeasure_21 : decode cX2_setMeasure 21 = .ok (.iload_n 1, 1) := by decide +kernel
theorem dX2_setMeasure_22 : decode cX2_setMeasure 22 = .ok (.iload_n 3, 1) := by decide +kernel
theorem dX2_setMeasure_23 : decode cX2_setMeasure 23 = .ok (.iastore, 1) := by decide +kernel
theorem dX2_setMeasure_24 : decode cX2_setMeasure 24 = .ok (.return_, 1) := by decide +kernel
theorem dX2_addParallel_0 : decode cX2_addParallel 0 = .ok (.aload_n 0, 1) := by decide +kernel
theorem dX2_addParallel_1 : decode cX2_addParallel 1 = .ok (.getfield 28, 3) := by decide +kernel
theorem dX2_addParallel_4 : decode cX2_addParallel 4 = .ok (.ifCond .lt 42, 3) := by decide +kernel
theorem dX2_addParallel_7 : decode cX2_addParallel 7 = .ok (.aload_n 0, 1) := by decide +kernel
theorem dX2_addParallel_8 : decode cX2_addParallel 8 = .ok (.getfield 28, 3) := by decide +kernel
theorem dX2_addParallel_11 : decode cX2_addParallel 11 = .ok (.bipush 6, 2) := by decide +kernel
theorem dX2_addParallel_13 : decode cX2_addParallel 13 = .ok (.if_icmp .ge 33, 3) := by decide +kernel
theorem dX2_addParallel_16 : decode cX2_addParallel 16 = .ok (.aload_n 0, 1) := by decide +kernel
theorem dX2_addParallel_17 : decode cX2_addParallel 17 = .ok (.getfield 22, 3) := by decide +kernel
theorem dX2_addParallel_20 : decode cX2_addParallel 20 = .ok (.aload_n 0, 1) := by decide +kernel
theorem dX2_addParallel_21 : decode cX2_addParallel 21 = .ok (.getfield 28, 3) := by decide +kernel
theorem dX2_addParallel_24 : decode cX2_addParallel 24 = .ok (.iload_n 1, 1) := by decide +kernel
theorem dX2_addParallel_25 : decode cX2_addParallel 25 = .ok (.iastore, 1) := by decide +kernel
theorem dX2_addParallel_26 : decode cX2_addParallel 26 = .ok (.aload_n 0, 1) := by decide +kernel
theorem dX2_addParallel_27 : decode cX2_addParallel 27 = .ok (.getfield 25, 3) := by decide +kernel
theorem dX2_addParallel_30 : decode cX2_addParallel 30 = .ok (.aload_n 0, 1) := by decide +kernel
theorem dX2_addParallel_31 : decode cX2_addParallel 31 = .ok (.getfield 28, 3) := by decide +kernel
theorem dX2_addParallel_34 : decode cX2_addParallel 34 = .ok (.iload_n 2, 1) := by decide +kernel
theorem dX2_addParallel_35 : decode cX2_addParallel 35 = .ok (.iastore, 1) := by decide +kernel
theorem dX2_addParallel_36 : decode cX2_addParallel 36 = .ok (.aload_n 0, 1) := by decide +kernel
theorem dX2_addParallel_37 : decode cX2_addParallel 37 = .ok (.dup, 1) := by decide +kernel
theorem dX2_addParallel_38 : decode cX2_addParallel 38 = .ok (.getfield 28, 3) := by decide +kernel
theorem dX2_addParallel_41 : decode cX2_addParallel 41 = .ok (.iconst 1, 1) := by decide +kernel
theorem dX2_addParallel_42 : decode cX2_addParallel 42 = .ok (.iadd, 1) := by decide +kernel
theorem dX2_addParallel_43 : decode cX2_addParallel 43 = .ok (.putfield 28, 3) := by decide +kernel
theorem dX2_addParallel_46 : decode cX2_addParallel 46 = .ok (.return_, 1) := by decide +kernel
theorem dX2_addBarred_0 : decode cX2_addBarred 0 = .ok (.aload_n 0, 1) := by decide +kernel
theorem dX2_addBarred_1 : decode cX2_addBarred 1 = .ok (.getfield 35, 3) := by decide +kernel
theorem dX2_addBarred_4 : decode cX2_addBarred 4 = .ok (.ifCond .lt 32, 3) := by decide +kernel
theorem dX2_addBarred_7 : decode cX2_addBarred 7 = .ok (.aload_n 0, 1) := by decide +kernel
theorem dX2_addBarred_8 : decode cX2_addBarred 8 = .ok (.getfield 35, 3) := by decide +kernel
theorem dX2_addBarred_11 : decode cX2_addBarred 11 = .ok (.bipush 8, 2) := by decide +kernel
theorem dX2_addBarred_13 : decode cX2_addBarred 13 = .ok (.if_icmp .ge 23, 3) := by decide +kernel
theorem dX2_addBarred_16 : decode cX2_addBarred 16 = .ok (.aload_n 0, 1) := by decide +kernel
theorem dX2_addBarred_17 : decode cX2_addBarred 17 = .ok (.getfield 31, 3) := by decide +kernel
theorem dX2_addBarred_20 : decode cX2_addBarred 20 = .ok (.aload_n 0, 1) := by decide +kernel
theorem dX2_addBarred_21 : decode cX2_addBarred 21 = .ok (.getfield 35, 3) := by decide +kernel
theorem dX2_addBarred_24 : decode cX2_addBarred 24 = .ok (.lload_n 1, 1) := by decide +kernel
theorem dX2_addBarred_25 : decode cX2_addBarred 25 = .ok (.lastore, 1) := by decide +kernel
theorem dX2_addBarred_26 : decode cX2_addBarred 26 = .ok (.aload_n 0, 1) := by decide +kernel
theorem dX2_addBarred_27 : decode cX2_addBarred 27 = .ok (.dup, 1) := by decide +kernel
theorem dX2_addBarred_28 : decode cX2_addBarred 28 = .ok (.getfield 35, 3) := by decide +kernel
theorem dX2_addBarred_31 : decode cX2_addBarred 31 = .ok (.iconst 1, 1) := by decide +kernel
theorem dX2_addBarred_32 : decode cX2_addBarred 32 = .ok (.iadd, 1) := by decide +kernel
theorem dX2_addBarred_33 : decode cX2_addBarred 33 = .ok (.putfield 35, 3) := by decide +kernel
theorem dX2_addBarred_36 : decode cX2_addBarred 36 = .ok (.return_, 1) := by decide +kernel
theorem dX2_isBarred_0 : decode cX2_isBarred 0 = .ok (.iconst 0, 1) := by decide +kernel
theorem dX2_isBarred_1 : decode cX2_isBarred 1 = .ok (.istore_n 3, 1) := by decide +kernel
theorem dX2_isBarred_2 : decode cX2_isBarred 2 = .ok (.iload_n 3, 1) := by decide +kernel
theorem dX2_isBarred_3 : decode cX2_isBarred 3 = .ok (.aload_n 0, 1) := by decide +kernel
theorem dX2_isBarred_4 : decode cX2_isBarred 4 = .ok (.getfield 35, 3) := by decide +kernel
theorem dX2_isBarred_7 : decode cX2_isBarred 7 = .ok (.if_icmp .ge 22, 3) := by decide +kernel
theorem dX2_isBarred_29 : decode cX2_isBarred 29 = .ok (.iconst 0, 1) := by decide +kernel
theorem dX2_isBarred_30 : decode cX2_isBarred 30 = .ok (.ireturn, 1) := by decide +kernel
theorem dX3_init_0 : decode cX3_init 0 = .ok (.aload_n 0, 1) := by decide +kernel
theorem dX3_init_1 : decode cX3_init 1 = .ok (.invokespecial 1, 3) := by decide +kernel
theorem dX3_init_4 : decode cX3_init 4 = .ok (.aload_n 0, 1) := by decide +kernel
theorem dX3_init_5 : decode cX3_init 5 = .ok (.iconst 0, 1) := by decide +kernel
theorem dX3_init_6 : decode cX3_init 6 = .ok (.putfield 7, 3) := by decide +kernel
theorem dX3_init_9 : decode cX3_init 9 = .ok (.aload_n 0, 1) := by decide +kernel
theorem dX3_init_10 : decode cX3_init 10 = .ok (.iload_n 1, 1) := by decide +kernel
theorem dX3_init_11 : decode cX3_init 11 = .ok (.putfield 13, 3) := by decide +kernel
theorem dX3_init_14 : decode cX3_init 14 = .ok (.aload_n 0, 1) := by decide +kernel
theorem dX3_init_15 : decode cX3_init 15 = .ok (.iload_n 2, 1) := by decide +kernel
theorem dX3_init_16 : decode cX3_init 16 = .ok (.putfield 16, 3) := by decide +kernel
theorem dX3_init_19 : decode cX3_init 19 = .ok (.return_, 1) := by decide +kernel
theorem dX4_init_0 : decode cX4_init 0 = .ok (.aload_n 0, 1) := by decide +kernel
theorem dX4_init_1 : decode cX4_init 1 = .ok (.invokespecial 3, 3) := by decide +kernel
theorem dX4_init_4 : decode cX4_init 4 = .ok (.aload_n 0, 1) := by decide +kernel
theorem dX4_init_5 : decode cX4_init 5 = .ok (.sipush 250, 3) := by decide +kernel
theorem dX4_init_8 : decode cX4_init 8 = .ok (.newarray .byte, 2) := by decide +kernel
theorem dX4_init_10 : decode cX4_init 10 = .ok (.putfield 9, 3) := by decide +kernel
theorem dX4_init_13 : decode cX4_init 13 = .ok (.aload_n 0, 1) := by decide +kernel
theorem dX4_init_14 : decode cX4_init 14 = .ok (.iconst 0, 1) := by decide +kernel
theorem dX4_init_15 : decode cX4_init 15 = .ok (.putfield 15, 3) := by decide +kernel
theorem dX4_init_18 : decode cX4_init 18 = .ok (.return_, 1) := by decide +kernel
theorem dX5_init_0 : decode cX5_init 0 = .ok (.aload_n 0, 1) := by decide +kernel
theorem dX5_init_1 : decode cX5_init 1 = .ok (.invokespecial 1, 3) := by decide +kernel
theorem dX5_init_4 : decode cX5_init 4 = .ok (.aload_n 0, 1) := by decide +kernel
theorem dX5_init_5 : decode cX5_init 5 = .ok (.bipush 24, 2) := by decide +kernel
theorem dX5_init_7 : decode cX5_init 7 = .ok (.anewarray 9, 3) := by decide +kernel
theorem dX5_init_10 : decode cX5_init 10 = .ok (.putfield 11, 3) := by decide +kernel
theorem dX5_init_13 : decode cX5_init 13 = .ok (.aload_n 0, 1) := by decide +kernel
theorem dX5_init_14 : decode cX5_init 14 = .ok (.iconst 0, 1) := by decide +kernel
theorem dX5_init_15 : decode cX5_init 15 = .ok (.putfield 15, 3) := by decide +kernel
theorem dX5_init_18 : decode cX5_init 18 = .ok (.aload_n 0, 1) := by decide +kernel
theorem dX5_init_19 : decode cX5_init 19 = .ok (.bipush 6, 2) := by decide +kernel
theorem dX5_init_21 : decode cX5_init 21 = .ok (.anewarray 19, 3) := by decide +kernel
theorem dX5_init_24 : decode cX5_init 24 = .ok (.putfield 21, 3) := by decide +kernel
theorem dX5_init_27 : decode cX5_init 27 = .ok (.aload_n 0, 1) := by decide +kernel
theorem dX5_init_28 : decode cX5_init 28 = .ok (.iconst 0, 1) := by decide +kernel
theorem dX5_init_29 : decode cX5_init 29 = .ok (.putfield 25, 3) := by decide +kernel
theorem dX5_init_32 : decode cX5_init 32 = .ok (.aload_n 0, 1) := by decide +kernel
theorem dX5_init_33 : decode cX5_init 33 = .ok (.new 28, 3) := by decide +kernel
theorem dX5_init_36 : decode cX5_init 36 = .ok (.dup, 1) := by decide +kernel
theorem dX5_init_37 : decode cX5_init 37 = .ok (.invokespecial 30, 3) := by decide +kernel
theorem dX5_init_40 : decode cX5_init 40 = .ok (.putfield 31, 3) := by decide +kernel
theorem dX5_init_43 : decode cX5_init 43 = .ok (.aload_n 0, 1) := by decide +kernel
theorem dX5_init_44 : decode cX5_init 44 = .ok (.new 35, 3) := by decide +kernel
theorem dX5_init_47 : decode cX5_init 47 = .ok (.dup, 1) := by decide +kernel
theorem dX5_init_48 : decode cX5_init 48 = .ok (.invokespecial 37, 3) := by decide +kernel
theorem dX5_init_51 : decode cX5_init 51 = .ok (.putfield 38, 3) := by decide +kernel
theorem dX5_init_54 : decode cX5_init 54 = .ok (.aload_n 0, 1) := by decide +kernel
theorem dX5_init_55 : decode cX5_init 55 = .ok (.bipush 10, 2) := by decide +kernel
theorem dX5_init_57 : decode cX5_init 57 = .ok (.putfield 42, 3) := by decide +kernel
theorem dX5_init_60 : decode cX5_init 60 = .ok (.aload_n 0, 1) := by decide +kernel
theorem dX5_init_61 : decode cX5_init 61 = .ok (.iconst 4, 1) := by decide +kernel
theorem dX5_init_62 : decode cX5_init 62 = .ok (.newarray .int, 2) := by decide +kernel
theorem dX5_init_64 : decode cX5_init 64 = .ok (.putfield 45, 3) := by decide +kernel
theorem dX5_init_67 : decode cX5_init 67 = .ok (.aload_n 0, 1) := by decide +kernel
theorem dX5_init_68 : decode cX5_init 68 = .ok (.iconst 0, 1) := by decide +kernel
theorem dX5_init_69 : decode cX5_init 69 = .ok (.putfield 49, 3) := by decide +kernel
theorem dX5_init_72 : decode cX5_init 72 = .ok (.aload_n 0, 1) := by decide +kernel
theorem dX5_init_73 : decode cX5_init 73 = .ok (.iconst 0, 1) := by decide +kernel
theorem dX5_init_74 : decode cX5_init 74 = .ok (.putfield 52, 3) := by decide +kernel
theorem dX5_init_77 : decode cX5_init 77 = .ok (.aload_n 0, 1) := by decide +kernel
theorem dX5_init_78 : decode cX5_init 78 = .ok (.bipush 6, 2) := by decide +kernel
theorem dX5_init_80 : decode cX5_init 80 = .ok (.newarray .int, 2) := by decide +kernel
theorem dX5_init_82 : decode cX5_init 82 = .ok (.putfield 55, 3) := by decide +kernel
theorem dX5_init_85 : decode cX5_init 85 = .ok (.aload_n 0, 1) := by decide +kernel
theorem dX5_init_86 : decode cX5_init 86 = .ok (.bipush 24, 2) := by decide +kernel
theorem dX5_init_88 : decode cX5_init 88 = .ok (.newarray .int, 2) := by decide +kernel
theorem dX5_init_90 : decode cX5_init 90 = .ok (.putfield 58, 3) := by decide +kernel
theorem dX5_init_93 : decode cX5_init 93 = .ok (.aload_n 0, 1) := by decide +kernel
theorem dX5_init_94 : decode cX5_init 94 = .ok (.bipush 24, 2) := by decide +kernel
theorem dX5_init_96 : decode cX5_init 96 = .ok (.newarray .boolean, 2) := by decide +kernel
theorem dX5_init_98 : decode cX5_init 98 = .ok (.putfield 61, 3) := by decide +kernel
theorem dX5_init_101 : decode cX5_init 101 = .ok (.aload_n 0, 1) := by decide +kernel
theorem dX5_init_102 : decode cX5_init 102 = .ok (.bipush 24, 2) := by decide +kernel
theorem dX5_init_104 : decode cX5_init 104 = .ok (.newarray .boolean, 2) := by decide +kernel
theorem dX5_init_106 : decode cX5_init 106 = .ok (.putfield 65, 3) := by decide +kernel
theorem dX5_init_109 : decode cX5_init 109 = .ok (.return_, 1) := by decide +kernel
theorem dX5_candidate_0 : decode cX5_candidate 0 = .ok (.iload_n 1, 1) := by decide +kernel
theorem dX5_candidate_1 : decode cX5_candidate 1 = .ok (.iconst 0, 1) := by decide +kernel
theorem dX5_candidate_2 : decode cX5_candidate 2 = .ok (.iconst 3, 1) := by decide +kernel
theorem dX5_candidate_3 : decode cX5_candidate 3 = .ok (.invokestatic 68, 3) := by decide +kernel
theorem dX5_candidate_6 : decode cX5_candidate 6 = .ok (.ifCond .ne 5, 3) := by decide +kernel
theorem dX5_candidate_9 : decode cX5_candidate 9 = .ok (.iconst (-1), 1) := by decide +kernel
theorem dX5_candidate_10 : decode cX5_candidate 10 = .ok (.ireturn, 1) := by decide +kernel
theorem dX5_candidate_11 : decode cX5_candidate 11 = .ok (.aload_n 0, 1) := by decide +kernel
theorem dX5_candidate_12 : decode cX5_candidate 12 = .ok (.getfield 15, 3) := by decide +kernel
theorem dX5_candidate_15 : decode cX5_candidate 15 = .ok (.ifCond .lt 15, 3) := by decide +kernel
theorem dX5_candidate_18 : decode cX5_candidate 18 = .ok (.aload_n 0, 1) := by decide +kernel
theorem dX5_candidate_19 : decode cX5_candidate 19 = .ok (.getfield 15, 3) := by decide +kernel
theorem dX5_candidate_22 : decode cX5_candidate 22 = .ok (.aload_n 0, 1) := by decide +kernel
theorem dX5_candidate_23 : decode cX5_candidate 23 = .ok (.getfield 11, 3) := by decide +kernel
theorem dX5_candidate_26 : decode cX5_candidate 26 = .ok (.arraylength, 1) := by decide +kernel
theorem dX5_candidate_27 : decode cX5_candidate 27 = .ok (.if_icmp .lt 6, 3) := by decide +kernel
theorem dX5_candidate_33 : decode cX5_candidate 33 = .ok (.aload_n 0, 1) := by decide +kernel
theorem dX5_candidate_34 : decode cX5_candidate 34 = .ok (.getfield 11, 3) := by decide +kernel
theorem dX5_candidate_37 : decode cX5_candidate 37 = .ok (.aload_n 0, 1) := by decide +kernel
theorem dX5_candidate_38 : decode cX5_candidate 38 = .ok (.getfield 15, 3) := by decide +kernel
theorem dX5_candidate_41 : decode cX5_candidate 41 = .ok (.new 9, 3) := by decide +kernel
theorem dX5_candidate_44 : decode cX5_candidate 44 = .ok (.dup, 1) := by decide +kernel
theorem dX5_candidate_45 : decode cX5_candidate 45 = .ok (.iload_n 1, 1) := by decide +kernel
theorem dX5_candidate_46 : decode cX5_candidate 46 = .ok (.invokespecial 72, 3) := by decide +kernel
theorem dX5_candidate_49 : decode cX5_candidate 49 = .ok (.aastore, 1) := by decide +kernel
theorem dX5_candidate_50 : decode cX5_candidate 50 = .ok (.aload_n 0, 1) := by decide +kernel
theorem dX5_candidate_51 : decode cX5_candidate 51 = .ok (.dup, 1) := by decide +kernel
theorem dX5_candidate_52 : decode cX5_candidate 52 = .ok (.getfield 15, 3) := by decide +kernel
theorem dX5_candidate_55 : decode cX5_candidate 55 = .ok (.iconst 1, 1) := by decide +kernel
theorem dX5_candidate_56 : decode cX5_candidate 56 = .ok (.iadd, 1) := by decide +kernel
theorem dX5_candidate_57 : decode cX5_candidate 57 = .ok (.putfield 15, 3) := by decide +kernel
theorem dX5_candidate_60 : decode cX5_candidate 60 = .ok (.aload_n 0, 1) := by decide +kernel
theorem dX5_candidate_61 : decode cX5_candidate 61 = .ok (.getfield 15, 3) := by decide +kernel
theorem dX5_candidate_64 : decode cX5_candidate 64 = .ok (.iconst 1, 1) := by decide +kernel
theorem dX5_candidate_65 : decode cX5_candidate 65 = .ok (.isub, 1) := by decide +kernel
theorem dX5_candidate_66 : decode cX5_candidate 66 = .ok (.ireturn, 1) := by decide +kernel
theorem dX5_essay_0 : decode cX5_essay 0 = .ok (.aload_n 0, 1) := by decide +kernel
theorem dX5_essay_1 : decode cX5_essay 1 = .ok (.iload_n 1, 1) := by decide +kernel
theorem dX5_essay_2 : decode cX5_essay 2 = .ok (.invokevirtual 86, 3) := by decide +kernel
theorem dX5_essay_5 : decode cX5_essay 5 = .ok (.astore_n 2, 1) := by decide +kernel
theorem dX5_essay_6 : decode cX5_essay 6 = .ok (.aload_n 2, 1) := by decide +kernel
theorem dX5_essay_7 : decode cX5_essay 7 = .ok (.ifnonnull 5, 3) := by decide +kernel
theorem dX5_essay_10 : decode cX5_essay 10 = .ok (.iconst (-1), 1) := by decide +kernel
theorem dX5_essay_11 : decode cX5_essay 11 = .ok (.ireturn, 1) := by decide +kernel
theorem dX5_legs_0 : decode cX5_legs 0 = .ok (.aload_n 0, 1) := by decide +kernel
theorem dX5_legs_1 : decode cX5_legs 1 = .ok (.iload_n 1, 1) := by decide +kernel
theorem dX5_legs_2 : decode cX5_legs 2 = .ok (.invokevirtual 111, 3) := by decide +kernel
theorem dX5_legs_5 : decode cX5_legs 5 = .ok (.astore_n 3, 1) := by decide +kernel
theorem dX5_legs_6 : decode cX5_legs 6 = .ok (.aload_n 3, 1) := by decide +kernel
theorem dX5_legs_7 : decode cX5_legs 7 = .ok (.ifnull 7, 3) := by decide +kernel
theorem dX5_legs_14 : decode cX5_legs 14 = .ok (.iconst (-1), 1) := by decide +kernel
theorem dX5_legs_15 : decode cX5_legs 15 = .ok (.ireturn, 1) := by decide +kernel
theorem dX5_word_0 : decode cX5_word 0 = .ok (.aload_n 0, 1) := by decide +kernel
theorem dX5_word_1 : decode cX5_word 1 = .ok (.iload_n 1, 1) := by decide +kernel
theorem dX5_word_2 : decode cX5_word 2 = .ok (.invokevirtual 111, 3) := by decide +kernel
theorem dX5_word_5 : decode cX5_word 5 = .ok (.astore 4, 2) := by decide +kernel
theorem dX5_word_7 : decode cX5_word 7 = .ok (.aload 4, 2) := by decide +kernel
theorem dX5_word_9 : decode cX5_word 9 = .ok (.ifnonnull 7, 3) := by decide +kernel
theorem dX5_word_12 : decode cX5_word 12 = .ok (.lconst 0, 1) := by decide +kernel
theorem dX5_word_13 : decode cX5_word 13 = .ok (.goto 10, 3) := by decide +kernel
theorem dX5_word_23 : decode cX5_word 23 = .ok (.lreturn, 1) := by decide +kernel
theorem dX5_form_0 : decode cX5_form 0 = .ok (.iload_n 1, 1) := by decide +kernel
theorem dX5_form_1 : decode cX5_form 1 = .ok (.iconst 1, 1) := by decide +kernel
theorem dX5_form_2 : decode cX5_form 2 = .ok (.bipush 8, 2) := by decide +kernel
theorem dX5_form_4 : decode cX5_form 4 = .ok (.invokestatic 68, 3) := by decide +kernel
theorem dX5_form_7 : decode cX5_form 7 = .ok (.ifCond .ne 6, 3) := by decide +kernel
theorem dX5_form_10 : decode cX5_form 10 = .ok (.bipush (-2), 2) := by decide +kernel
theorem dX5_form_12 : decode cX5_form 12 = .ok (.ireturn, 1) := by decide +kernel
theorem dX5_form_13 : decode cX5_form 13 = .ok (.aload_n 0, 1) := by decide +kernel
theorem dX5_form_14 : decode cX5_form 14 = .ok (.getfield 38, 3) := by decide +kernel
theorem dX5_form_17 : decode cX5_form 17 = .ok (.getfield 129, 3) := by decide +kernel
theorem dX5_form_20 : decode cX5_form 20 = .ok (.istore_n 2, 1) := by decide +kernel
theorem dX5_form_21 : decode cX5_form 21 = .ok (.aload_n 0, 1) := by decide +kernel
theorem dX5_form_22 : decode cX5_form 22 = .ok (.getfield 38, 3) := by decide +kernel
theorem dX5_form_25 : decode cX5_form 25 = .ok (.iload_n 1, 1) := by decide +kernel
theorem dX5_form_26 : decode cX5_form 26 = .ok (.putfield 129, 3) := by decide +kernel
theorem dX5_form_29 : decode cX5_form 29 = .ok (.iload_n 2, 1) := by decide +kernel
theorem dX5_form_30 : decode cX5_form 30 = .ok (.ireturn, 1) := by decide +kernel
theorem dX5_measure_0 : decode cX5_measure 0 = .ok (.iload_n 1, 1) := by decide +kernel
theorem dX5_measure_1 : decode cX5_measure 1 = .ok (.iconst 0, 1) := by decide +kernel
theorem dX5_measure_2 : decode cX5_measure 2 = .ok (.bipush 7, 2) := by decide +kernel
theorem dX5_measure_4 : decode cX5_measure 4 = .ok (.invokestatic 68, 3) := by decide +kernel
theorem dX5_measure_7 : decode cX5_measure 7 = .ok (.ifCond .ne 5, 3) := by decide +kernel
theorem dX5_measure_10 : decode cX5_measure 10 = .ok (.iconst (-1), 1) := by decide +kernel
theorem dX5_measure_11 : decode cX5_measure 11 = .ok (.ireturn, 1) := by decide +kernel
theorem dX5_measure_12 : decode cX5_measure 12 = .ok (.iload_n 2, 1) := by decide +kernel
theorem dX5_measure_13 : decode cX5_measure 13 = .ok (.iconst 1, 1) := by decide +kernel
theorem dX5_measure_14 : decode cX5_measure 14 = .ok (.bipush 12, 2) := by decide +kernel
theorem dX5_measure_16 : decode cX5_measure 16 = .ok (.invokestatic 68, 3) := by decide +kernel
theorem dX5_measure_19 : decode cX5_measure 19 = .ok (.ifCond .eq 13, 3) := by decide +kernel
theorem dX5_measure_22 : decode cX5_measure 22 = .ok (.iload_n 3, 1) := by decide +kernel
theorem dX5_measure_23 : decode cX5_measure 23 = .ok (.iload_n 2, 1) := by decide +kernel
theorem dX5_measure_24 : decode cX5_measure 24 = .ok (.bipush 12, 2) := by decide +kernel
theorem dX5_measure_26 : decode cX5_measure 26 = .ok (.invokestatic 68, 3) := by decide +kernel
theorem dX5_measure_29 : decode cX5_measure 29 = .ok (.ifCond .ne 6, 3) := by decide +kernel
theorem dX5_measure_32 : decode cX5_measure 32 = .ok (.bipush (-2), 2) := by decide +kernel
theorem dX5_measure_34 : decode cX5_measure 34 = .ok (.ireturn, 1) := by decide +kernel
theorem dX5_measure_35 : decode cX5_measure 35 = .ok (.aload_n 0, 1) := by decide +kernel
theorem dX5_measure_36 : decode cX5_measure 36 = .ok (.getfield 38, 3) := by decide +kernel
theorem dX5_measure_39 : decode cX5_measure 39 = .ok (.iload_n 1, 1) := by decide +kernel
theorem dX5_measure_40 : decode cX5_measure 40 = .ok (.iload_n 2, 1) := by decide +kernel
theorem dX5_measure_41 : decode cX5_measure 41 = .ok (.iload_n 3, 1) := by decide +kernel
theorem dX5_measure_42 : decode cX5_measure 42 = .ok (.invokevirtual 130, 3) := by decide +kernel
theorem dX5_measure_45 : decode cX5_measure 45 = .ok (.iconst 0, 1) := by decide +kernel
theorem dX5_measure_46 : decode cX5_measure 46 = .ok (.ireturn, 1) := by decide +kernel
theorem dX5_parallel_0 : decode cX5_parallel 0 = .ok (.iload_n 1, 1) := by decide +kernel
theorem dX5_parallel_1 : decode cX5_parallel 1 = .ok (.iconst 0, 1) := by decide +kernel
theorem dX5_parallel_2 : decode cX5_parallel 2 = .ok (.bipush 7, 2) := by decide +kernel
theorem dX5_parallel_4 : decode cX5_parallel 4 = .ok (.invokestatic 68, 3) := by decide +kernel
theorem dX5_parallel_7 : decode cX5_parallel 7 = .ok (.ifCond .eq 13, 3) := by decide +kernel
theorem dX5_parallel_10 : decode cX5_parallel 10 = .ok (.iload_n 2, 1) := by decide +kernel
theorem dX5_parallel_11 : decode cX5_parallel 11 = .ok (.iconst 0, 1) := by decide +kernel
theorem dX5_parallel_12 : decode cX5_parallel 12 = .ok (.bipush 7, 2) := by decide +kernel
theorem dX5_parallel_14 : decode cX5_parallel 14 = .ok (.invokestatic 68, 3) := by decide +kernel
theorem dX5_parallel_17 : decode cX5_parallel 17 = .ok (.ifCond .ne 5, 3) := by decide +kernel
theorem dX5_parallel_20 : decode cX5_parallel 20 = .ok (.iconst (-1), 1) := by decide +kernel
theorem dX5_parallel_21 : decode cX5_parallel 21 = .ok (.ireturn, 1) := by decide +kernel
theorem dX5_parallel_22 : decode cX5_parallel 22 = .ok (.iload_n 1, 1) := by decide +kernel
theorem dX5_parallel_23 : decode cX5_parallel 23 = .ok (.iload_n 2, 1) := by decide +kernel
theorem dX5_parallel_24 : decode cX5_parallel 24 = .ok (.if_icmp .ne 6, 3) := by decide +kernel
theorem dX5_parallel_27 : decode cX5_parallel 27 = .ok (.bipush (-2), 2) := by decide +kernel
theorem dX5_parallel_29 : decode cX5_parallel 29 = .ok (.ireturn, 1) := by decide +kernel
theorem dX5_parallel_30 : decode cX5_parallel 30 = .ok (.aload_n 0, 1) := by decide +kernel
theorem dX5_parallel_31 : decode cX5_parallel 31 = .ok (.getfield 38, 3) := by decide +kernel
theorem dX5_parallel_34 : decode cX5_parallel 34 = .ok (.getfield 134, 3) := by decide +kernel
theorem dX5_parallel_37 : decode cX5_parallel 37 = .ok (.bipush 6, 2) := by decide +kernel
theorem dX5_parallel_39 : decode cX5_parallel 39 = .ok (.if_icmp .lt 6, 3) := by decide +kernel
theorem dX5_parallel_45 : decode cX5_parallel 45 = .ok (.aload_n 0, 1) := by decide +kernel
theorem dX5_parallel_46 : decode cX5_parallel 46 = .ok (.getfield 38, 3) := by decide +kernel
theorem dX5_parallel_49 : decode cX5_parallel 49 = .ok (.iload_n 1, 1) := by decide +kernel
theorem dX5_parallel_50 : decode cX5_parallel 50 = .ok (.iload_n 2, 1) := by decide +kernel
theorem dX5_parallel_51 : decode cX5_parallel 51 = .ok (.invokevirtual 137, 3) := by decide +kernel
theorem dX5_parallel_54 : decode cX5_parallel 54 = .ok (.aload_n 0, 1) := by decide +kernel
theorem dX5_parallel_55 : decode cX5_parallel 55 = .ok (.getfield 38, 3) := by decide +kernel
theorem dX5_parallel_58 : decode cX5_parallel 58 = .ok (.getfield 134, 3) := by decide +kernel
theorem dX5_parallel_61 : decode cX5_parallel 61 = .ok (.iconst 1, 1) := by decide +kernel
theorem dX5_parallel_62 : decode cX5_parallel 62 = .ok (.isub, 1) := by decide +kernel
theorem dX5_parallel_63 : decode cX5_parallel 63 = .ok (.ireturn, 1) := by decide +kernel
theorem dX5_judge_0 : decode cX5_judge 0 = .ok (.aload_n 0, 1) := by decide +kernel
theorem dX5_judge_1 : decode cX5_judge 1 = .ok (.iload_n 1, 1) := by decide +kernel
theorem dX5_judge_2 : decode cX5_judge 2 = .ok (.invokevirtual 111, 3) := by decide +kernel
theorem dX5_judge_5 : decode cX5_judge 5 = .ok (.astore_n 2, 1) := by decide +kernel
theorem dX5_judge_6 : decode cX5_judge 6 = .ok (.aload_n 2, 1) := by decide +kernel
theorem dX5_judge_7 : decode cX5_judge 7 = .ok (.ifnonnull 7, 3) := by decide +kernel
theorem dX5_judge_10 : decode cX5_judge 10 = .ok (.iconst (-1), 1) := by decide +kernel
theorem dX5_judge_11 : decode cX5_judge 11 = .ok (.goto 11, 3) := by decide +kernel
theorem dX5_judge_22 : decode cX5_judge 22 = .ok (.ireturn, 1) := by decide +kernel
theorem dX5_like_0 : decode cX5_like 0 = .ok (.aload_n 0, 1) := by decide +kernel
theorem dX5_like_1 : decode cX5_like 1 = .ok (.iload_n 1, 1) := by decide +kernel
theorem dX5_like_2 : decode cX5_like 2 = .ok (.invokevirtual 111, 3) := by decide +kernel
theorem dX5_like_5 : decode cX5_like 5 = .ok (.astore_n 3, 1) := by decide +kernel
theorem dX5_like_6 : decode cX5_like 6 = .ok (.aload_n 0, 1) := by decide +kernel
theorem dX5_like_7 : decode cX5_like 7 = .ok (.iload_n 2, 1) := by decide +kernel
theorem dX5_like_8 : decode cX5_like 8 = .ok (.invokevirtual 111, 3) := by decide +kernel
theorem dX5_like_11 : decode cX5_like 11 = .ok (.astore 4, 2) := by decide +kernel
theorem dX5_like_13 : decode cX5_like 13 = .ok (.aload_n 3, 1) := by decide +kernel
theorem dX5_like_14 : decode cX5_like 14 = .ok (.ifnull 8, 3) := by decide +kernel
theorem dX5_like_22 : decode cX5_like 22 = .ok (.iconst (-1), 1) := by decide +kernel
theorem dX5_like_23 : decode cX5_like 23 = .ok (.ireturn, 1) := by decide +kernel
theorem dX5_number_0 : decode cX5_number 0 = .ok (.aload_n 0, 1) := by decide +kernel
theorem dX5_number_1 : decode cX5_number 1 = .ok (.iload_n 1, 1) := by decide +kernel
theorem dX5_number_2 : decode cX5_number 2 = .ok (.invokevirtual 86, 3) := by decide +kernel
theorem dX5_number_5 : decode cX5_number 5 = .ok (.astore_n 3, 1) := by decide +kernel
theorem dX5_number_6 : decode cX5_number 6 = .ok (.aload_n 3, 1) := by decide +kernel
theorem dX5_number_7 : decode cX5_number 7 = .ok (.ifnonnull 6, 3) := by decide +kernel
theorem dX5_number_10 : decode cX5_number 10 = .ok (.bipush (-5), 2) := by decide +kernel
theorem dX5_number_12 : decode cX5_number 12 = .ok (.ireturn, 1) := by decide +kernel
theorem dX5_sees_0 : decode cX5_sees 0 = .ok (.aload_n 0, 1) := by decide +kernel
theorem dX5_sees_1 : decode cX5_sees 1 = .ok (.iload_n 2, 1) := by decide +kernel
theorem dX5_sees_2 : decode cX5_sees 2 = .ok (.invokevirtual 86, 3) := by decide +kernel
theorem dX5_sees_5 : decode cX5_sees 5 = .ok (.astore 5, 2) := by decide +kernel
theorem dX5_sees_7 : decode cX5_sees 7 = .ok (.aload 5, 2) := by decide +kernel
theorem dX5_sees_9 : decode cX5_sees 9 = .ok (.ifnull 13, 3) := by decide +kernel
theorem dX5_sees_22 : decode cX5_sees 22 = .ok (.iconst (-1), 1) := by decide +kernel
theorem dX5_sees_23 : decode cX5_sees 23 = .ok (.ireturn, 1) := by decide +kernel
theorem dX5_opens_0 : decode cX5_opens 0 = .ok (.iload_n 1, 1) := by decide +kernel
theorem dX5_opens_1 : decode cX5_opens 1 = .ok (.iconst 0, 1) := by decide +kernel
theorem dX5_opens_2 : decode cX5_opens 2 = .ok (.sipush 255, 3) := by decide +kernel
theorem dX5_opens_5 : decode cX5_opens 5 = .ok (.invokestatic 68, 3) := by decide +kernel
theorem dX5_opens_8 : decode cX5_opens 8 = .ok (.ifCond .ne 6, 3) := by decide +kernel
theorem dX5_opens_11 : decode cX5_opens 11 = .ok (.bipush (-2), 2) := by decide +kernel
theorem dX5_opens_13 : decode cX5_opens 13 = .ok (.ireturn, 1) := by decide +kernel
theorem dX5_opens_14 : decode cX5_opens 14 = .ok (.aload_n 0, 1) := by decide +kernel
theorem dX5_opens_15 : decode cX5_opens 15 = .ok (.iload_n 1, 1) := by decide +kernel
theorem dX5_opens_16 : decode cX5_opens 16 = .ok (.invokevirtual 176, 3) := by decide +kernel
theorem dX5_opens_19 : decode cX5_opens 19 = .ok (.ireturn, 1) := by decide +kernel
theorem dX5_reader_0 : decode cX5_reader 0 = .ok (.iload_n 1, 1) := by decide +kernel
theorem dX5_reader_1 : decode cX5_reader 1 = .ok (.iconst 0, 1) := by decide +kernel
theorem dX5_reader_2 : decode cX5_reader 2 = .ok (.iconst 3, 1) := by decide +kernel
theorem dX5_reader_3 : decode cX5_reader 3 = .ok (.invokestatic 68, 3) := by decide +kernel
theorem dX5_reader_6 : decode cX5_reader 6 = .ok (.ifCond .eq 12, 3) := by decide +kernel
theorem dX5_reader_9 : decode cX5_reader 9 = .ok (.iload_n 2, 1) := by decide +kernel
theorem dX5_reader_10 : decode cX5_reader 10 = .ok (.iconst 0, 1) := by decide +kernel
theorem dX5_reader_11 : decode cX5_reader 11 = .ok (.iconst 3, 1) := by decide +kernel
theorem dX5_reader_12 : decode cX5_reader 12 = .ok (.invokestatic 68, 3) := by decide +kernel
theorem dX5_reader_15 : decode cX5_reader 15 = .ok (.ifCond .ne 5, 3) := by decide +kernel
theorem dX5_reader_18 : decode cX5_reader 18 = .ok (.iconst (-1), 1) := by decide +kernel
theorem dX5_reader_19 : decode cX5_reader 19 = .ok (.ireturn, 1) := by decide +kernel
theorem dX5_reader_20 : decode cX5_reader 20 = .ok (.aload_n 0, 1) := by decide +kernel
theorem dX5_reader_21 : decode cX5_reader 21 = .ok (.getfield 25, 3) := by decide +kernel
theorem dX5_reader_24 : decode cX5_reader 24 = .ok (.ifCond .lt 15, 3) := by decide +kernel
theorem dX5_reader_27 : decode cX5_reader 27 = .ok (.aload_n 0, 1) := by decide +kernel
theorem dX5_reader_28 : decode cX5_reader 28 = .ok (.getfield 25, 3) := by decide +kernel
theorem dX5_reader_31 : decode cX5_reader 31 = .ok (.aload_n 0, 1) := by decide +kernel
theorem dX5_reader_32 : decode cX5_reader 32 = .ok (.getfield 21, 3) := by decide +kernel
theorem dX5_reader_35 : decode cX5_reader 35 = .ok (.arraylength, 1) := by decide +kernel
theorem dX5_reader_36 : decode cX5_reader 36 = .ok (.if_icmp .lt 6, 3) := by decide +kernel
theorem dX5_reader_42 : decode cX5_reader 42 = .ok (.aload_n 0, 1) := by decide +kernel
theorem dX5_reader_43 : decode cX5_reader 43 = .ok (.getfield 21, 3) := by decide +kernel
theorem dX5_reader_46 : decode cX5_reader 46 = .ok (.aload_n 0, 1) := by decide +kernel
theorem dX5_reader_47 : decode cX5_reader 47 = .ok (.getfield 25, 3) := by decide +kernel
theorem dX5_reader_50 : decode cX5_reader 50 = .ok (.new 19, 3) := by decide +kernel
theorem dX5_reader_53 : decode cX5_reader 53 = .ok (.dup, 1) := by decide +kernel
theorem dX5_reader_54 : decode cX5_reader 54 = .ok (.iload_n 1, 1) := by decide +kernel
theorem dX5_reader_55 : decode cX5_reader 55 = .ok (.iload_n 2, 1) := by decide +kernel
theorem dX5_reader_56 : decode cX5_reader 56 = .ok (.invokespecial 184, 3) := by decide +kernel
theorem dX5_reader_59 : decode cX5_reader 59 = .ok (.aastore, 1) := by decide +kernel
theorem dX5_reader_60 : decode cX5_reader 60 = .ok (.aload_n 0, 1) := by decide +kernel
theorem dX5_reader_61 : decode cX5_reader 61 = .ok (.dup, 1) := by decide +kernel
theorem dX5_reader_62 : decode cX5_reader 62 = .ok (.getfield 25, 3) := by decide +kernel
theorem dX5_reader_65 : decode cX5_reader 65 = .ok (.iconst 1, 1) := by decide +kernel
theorem dX5_reader_66 : decode cX5_reader 66 = .ok (.iadd, 1) := by decide +kernel
theorem dX5_reader_67 : decode cX5_reader 67 = .ok (.putfield 25, 3) := by decide +kernel
theorem dX5_reader_70 : decode cX5_reader 70 = .ok (.aload_n 0, 1) := by decide +kernel
theorem dX5_reader_71 : decode cX5_reader 71 = .ok (.getfield 25, 3) := by decide +kernel
theorem dX5_reader_74 : decode cX5_reader 74 = .ok (.iconst 1, 1) := by decide +kernel
theorem dX5_reader_75 : decode cX5_reader 75 = .ok (.isub, 1) := by decide +kernel
theorem dX5_reader_76 : decode cX5_reader 76 = .ok (.ireturn, 1) := by decide +kernel
theorem dX5_apart_0 : decode cX5_apart 0 = .ok (.iload_n 1, 1) := by decide +kernel
theorem dX5_apart_1 : decode cX5_apart 1 = .ok (.iconst 0, 1) := by decide +kernel
theorem dX5_apart_2 : decode cX5_apart 2 = .ok (.bipush 99, 2) := by decide +kernel
theorem dX5_apart_4 : decode cX5_apart 4 = .ok (.invokestatic 68, 3) := by decide +kernel
theorem dX5_apart_7 : decode cX5_apart 7 = .ok (.ifCond .ne 6, 3) := by decide +kernel
theorem dX5_apart_10 : decode cX5_apart 10 = .ok (.bipush (-2), 2) := by decide +kernel
theorem dX5_apart_12 : decode cX5_apart 12 = .ok (.ireturn, 1) := by decide +kernel
theorem dX5_apart_13 : decode cX5_apart 13 = .ok (.aload_n 0, 1) := by decide +kernel
theorem dX5_apart_14 : decode cX5_apart 14 = .ok (.getfield 42, 3) := by decide +kernel
theorem dX5_apart_17 : decode cX5_apart 17 = .ok (.istore_n 2, 1) := by decide +kernel
theorem dX5_apart_18 : decode cX5_apart 18 = .ok (.aload_n 0, 1) := by decide +kernel
theorem dX5_apart_19 : decode cX5_apart 19 = .ok (.iload_n 1, 1) := by decide +kernel
theorem dX5_apart_20 : decode cX5_apart 20 = .ok (.putfield 42, 3) := by decide +kernel
theorem dX5_apart_23 : decode cX5_apart 23 = .ok (.iload_n 2, 1) := by decide +kernel
theorem dX5_apart_24 : decode cX5_apart 24 = .ok (.ireturn, 1) := by decide +kernel
theorem dX5_reading_0 : decode cX5_reading 0 = .ok (.aload_n 0, 1) := by decide +kernel
theorem dX5_reading_1 : decode cX5_reading 1 = .ok (.iload_n 1, 1) := by decide +kernel
theorem dX5_reading_2 : decode cX5_reading 2 = .ok (.invokevirtual 86, 3) := by decide +kernel
theorem dX5_reading_5 : decode cX5_reading 5 = .ok (.astore 4, 2) := by decide +kernel
theorem dX5_reading_7 : decode cX5_reading 7 = .ok (.aload 4, 2) := by decide +kernel
theorem dX5_reading_9 : decode cX5_reading 9 = .ok (.ifnull 12, 3) := by decide +kernel
theorem dX5_reading_21 : decode cX5_reading 21 = .ok (.iconst (-1), 1) := by decide +kernel
theorem dX5_reading_22 : decode cX5_reading 22 = .ok (.ireturn, 1) := by decide +kernel
theorem dX5_mark_0 : decode cX5_mark 0 = .ok (.aload_n 0, 1) := by decide +kernel
theorem dX5_mark_1 : decode cX5_mark 1 = .ok (.iload_n 1, 1) := by decide +kernel
theorem dX5_mark_2 : decode cX5_mark 2 = .ok (.invokevirtual 86, 3) := by decide +kernel
theorem dX5_mark_5 : decode cX5_mark 5 = .ok (.astore 4, 2) := by decide +kernel
theorem dX5_mark_7 : decode cX5_mark 7 = .ok (.aload 4, 2) := by decide +kernel
theorem dX5_mark_9 : decode cX5_mark 9 = .ok (.ifnull 11, 3) := by decide +kernel
theorem dX5_mark_20 : decode cX5_mark 20 = .ok (.iconst (-1), 1) := by decide +kernel
theorem dX5_mark_21 : decode cX5_mark 21 = .ok (.ireturn, 1) := by decide +kernel
theorem dX5_load_0 : decode cX5_load 0 = .ok (.aload_n 0, 1) := by decide +kernel
theorem dX5_load_1 : decode cX5_load 1 = .ok (.iload_n 1, 1) := by decide +kernel
theorem dX5_load_2 : decode cX5_load 2 = .ok (.invokevirtual 208, 3) := by decide +kernel
theorem dX5_load_5 : decode cX5_load 5 = .ok (.astore_n 2, 1) := by decide +kernel
theorem dX5_load_6 : decode cX5_load 6 = .ok (.aload_n 2, 1) := by decide +kernel
theorem dX5_load_7 : decode cX5_load 7 = .ok (.ifnonnull 7, 3) := by decide +kernel
theorem dX5_load_10 : decode cX5_load 10 = .ok (.iconst (-1), 1) := by decide +kernel
theorem dX5_load_11 : decode cX5_load 11 = .ok (.goto 7, 3) := by decide +kernel
theorem dX5_load_18 : decode cX5_load 18 = .ok (.ireturn, 1) := by decide +kernel
theorem dX5_shift_0 : decode cX5_shift 0 = .ok (.aload_n 0, 1) := by decide +kernel
theorem dX5_shift_1 : decode cX5_shift 1 = .ok (.iload_n 1, 1) := by decide +kernel
theorem dX5_shift_2 : decode cX5_shift 2 = .ok (.invokevirtual 208, 3) := by decide +kernel
theorem dX5_shift_5 : decode cX5_shift 5 = .ok (.ifnonnull 9, 3) := by decide +kernel
theorem dX5_shift_8 : decode cX5_shift 8 = .ok (.sipush (-1000), 3) := by decide +kernel
theorem dX5_shift_11 : decode cX5_shift 11 = .ok (.goto 8, 3) := by decide +kernel
theorem dX5_shift_19 : decode cX5_shift 19 = .ok (.ireturn, 1) := by decide +kernel
theorem dX5_score_0 : decode cX5_score 0 = .ok (.aload_n 0, 1) := by decide +kernel
theorem dX5_score_1 : decode cX5_score 1 = .ok (.iload_n 1, 1) := by decide +kernel
theorem dX5_score_2 : decode cX5_score 2 = .ok (.invokevirtual 86, 3) := by decide +kernel
theorem dX5_score_5 : decode cX5_score 5 = .ok (.astore_n 3, 1) := by decide +kernel
theorem dX5_score_6 : decode cX5_score 6 = .ok (.aload_n 3, 1) := by decide +kernel
theorem dX5_score_7 : decode cX5_score 7 = .ok (.ifnull 12, 3) := by decide +kernel
theorem dX5_score_19 : decode cX5_score 19 = .ok (.iconst (-1), 1) := by decide +kernel
theorem dX5_score_20 : decode cX5_score 20 = .ok (.ireturn, 1) := by decide +kernel
theorem dX5_quota_0 : decode cX5_quota 0 = .ok (.iload_n 1, 1) := by decide +kernel
theorem dX5_quota_1 : decode cX5_quota 1 = .ok (.iconst 0, 1) := by decide +kernel
theorem dX5_quota_2 : decode cX5_quota 2 = .ok (.iconst 3, 1) := by decide +kernel
theorem dX5_quota_3 : decode cX5_quota 3 = .ok (.invokestatic 68, 3) := by decide +kernel
theorem dX5_quota_6 : decode cX5_quota 6 = .ok (.ifCond .ne 5, 3) := by decide +kernel
theorem dX5_quota_9 : decode cX5_quota 9 = .ok (.iconst (-1), 1) := by decide +kernel
theorem dX5_quota_10 : decode cX5_quota 10 = .ok (.ireturn, 1) := by decide +kernel
theorem dX5_quota_11 : decode cX5_quota 11 = .ok (.iload_n 2, 1) := by decide +kernel
theorem dX5_quota_12 : decode cX5_quota 12 = .ok (.iconst 0, 1) := by decide +kernel
theorem dX5_quota_13 : decode cX5_quota 13 = .ok (.bipush 24, 2) := by decide +kernel
theorem dX5_quota_15 : decode cX5_quota 15 = .ok (.invokestatic 68, 3) := by decide +kernel
theorem dX5_quota_18 : decode cX5_quota 18 = .ok (.ifCond .ne 6, 3) := by decide +kernel
theorem dX5_quota_21 : decode cX5_quota 21 = .ok (.bipush (-2), 2) := by decide +kernel
theorem dX5_quota_23 : decode cX5_quota 23 = .ok (.ireturn, 1) := by decide +kernel
theorem dX5_quota_24 : decode cX5_quota 24 = .ok (.aload_n 0, 1) := by decide +kernel
theorem dX5_quota_25 : decode cX5_quota 25 = .ok (.getfield 45, 3) := by decide +kernel
theorem dX5_quota_28 : decode cX5_quota 28 = .ok (.iload_n 1, 1) := by decide +kernel
theorem dX5_quota_29 : decode cX5_quota 29 = .ok (.iaload, 1) := by decide +kernel
theorem dX5_quota_30 : decode cX5_quota 30 = .ok (.istore_n 3, 1) := by decide +kernel
theorem dX5_quota_31 : decode cX5_quota 31 = .ok (.aload_n 0, 1) := by decide +kernel
theorem dX5_quota_32 : decode cX5_quota 32 = .ok (.getfield 45, 3) := by decide +kernel
theorem dX5_quota_35 : decode cX5_quota 35 = .ok (.iload_n 1, 1) := by decide +kernel
theorem dX5_quota_36 : decode cX5_quota 36 = .ok (.iload_n 2, 1) := by decide +kernel
theorem dX5_quota_37 : decode cX5_quota 37 = .ok (.iastore, 1) := by decide +kernel
theorem dX5_quota_38 : decode cX5_quota 38 = .ok (.iload_n 3, 1) := by decide +kernel
theorem dX5_quota_39 : decode cX5_quota 39 = .ok (.ireturn, 1) := by decide +kernel
theorem dX5_rule_0 : decode cX5_rule 0 = .ok (.iload_n 1, 1) := by decide +kernel
theorem dX5_rule_1 : decode cX5_rule 1 = .ok (.iconst 0, 1) := by decide +kernel
theorem dX5_rule_2 : decode cX5_rule 2 = .ok (.iconst 2, 1) := by decide +kernel
theorem dX5_rule_3 : decode cX5_rule 3 = .ok (.invokestatic 68, 3) := by decide +kernel
theorem dX5_rule_6 : decode cX5_rule 6 = .ok (.ifCond .eq 12, 3) := by decide +kernel
theorem dX5_rule_9 : decode cX5_rule 9 = .ok (.iload_n 2, 1) := by decide +kernel
theorem dX5_rule_10 : decode cX5_rule 10 = .ok (.iconst 0, 1) := by decide +kernel
theorem dX5_rule_11 : decode cX5_rule 11 = .ok (.iconst 1, 1) := by decide +kernel
theorem dX5_rule_12 : decode cX5_rule 12 = .ok (.invokestatic 68, 3) := by decide +kernel
theorem dX5_rule_15 : decode cX5_rule 15 = .ok (.ifCond .ne 6, 3) := by decide +kernel
theorem dX5_rule_18 : decode cX5_rule 18 = .ok (.bipush (-2), 2) := by decide +kernel
theorem dX5_rule_20 : decode cX5_rule 20 = .ok (.ireturn, 1) := by decide +kernel
theorem dX5_rule_21 : decode cX5_rule 21 = .ok (.aload_n 0, 1) := by decide +kernel
theorem dX5_rule_22 : decode cX5_rule 22 = .ok (.iload_n 1, 1) := by decide +kernel
theorem dX5_rule_23 : decode cX5_rule 23 = .ok (.putfield 49, 3) := by decide +kernel
theorem dX5_rule_26 : decode cX5_rule 26 = .ok (.aload_n 0, 1) := by decide +kernel
theorem dX5_rule_27 : decode cX5_rule 27 = .ok (.iload_n 2, 1) := by decide +kernel
theorem dX5_rule_28 : decode cX5_rule 28 = .ok (.putfield 52, 3) := by decide +kernel
theorem dX5_rule_31 : decode cX5_rule 31 = .ok (.iconst 0, 1) := by decide +kernel
theorem dX5_rule_32 : decode cX5_rule 32 = .ok (.ireturn, 1) := by decide +kernel
theorem dX5_passes_0 : decode cX5_passes 0 = .ok (.aload_n 0, 1) := by decide +kernel
theorem dX5_passes_1 : decode cX5_passes 1 = .ok (.iload_n 1, 1) := by decide +kernel
theorem dX5_passes_2 : decode cX5_passes 2 = .ok (.invokevirtual 86, 3) := by decide +kernel
theorem dX5_passes_5 : decode cX5_passes 5 = .ok (.ifnonnull 5, 3) := by decide +kernel
theorem dX5_passes_8 : decode cX5_passes 8 = .ok (.iconst (-1), 1) := by decide +kernel
theorem dX5_passes_9 : decode cX5_passes 9 = .ok (.ireturn, 1) := by decide +kernel
theorem dX5_passed_0 : decode cX5_passed 0 = .ok (.iload_n 1, 1) := by decide +kernel
theorem dX5_passed_1 : decode cX5_passed 1 = .ok (.iconst 0, 1) := by decide +kernel
theorem dX5_passed_2 : decode cX5_passed 2 = .ok (.iconst 3, 1) := by decide +kernel
theorem dX5_passed_3 : decode cX5_passed 3 = .ok (.invokestatic 68, 3) := by decide +kernel
theorem dX5_passed_6 : decode cX5_passed 6 = .ok (.ifCond .ne 5, 3) := by decide +kernel
theorem dX5_passed_9 : decode cX5_passed 9 = .ok (.iconst (-1), 1) := by decide +kernel
theorem dX5_passed_10 : decode cX5_passed 10 = .ok (.ireturn, 1) := by decide +kernel
theorem dX5_passed_11 : decode cX5_passed 11 = .ok (.aload_n 0, 1) := by decide +kernel
theorem dX5_passed_12 : decode cX5_passed 12 = .ok (.iconst (-1), 1) := by decide +kernel
theorem dX5_passed_13 : decode cX5_passed 13 = .ok (.invokevirtual 231, 3) := by decide +kernel
theorem dX5_passed_16 : decode cX5_passed 16 = .ok (.iconst 0, 1) := by decide +kernel
theorem dX5_passed_17 : decode cX5_passed 17 = .ok (.istore_n 2, 1) := by decide +kernel
theorem dX5_passed_18 : decode cX5_passed 18 = .ok (.iconst 0, 1) := by decide +kernel
theorem dX5_passed_19 : decode cX5_passed 19 = .ok (.istore_n 3, 1) := by decide +kernel
theorem dX5_passed_20 : decode cX5_passed 20 = .ok (.iload_n 3, 1) := by decide +kernel
theorem dX5_passed_21 : decode cX5_passed 21 = .ok (.aload_n 0, 1) := by decide +kernel
theorem dX5_passed_22 : decode cX5_passed 22 = .ok (.getfield 15, 3) := by decide +kernel
theorem dX5_passed_25 : decode cX5_passed 25 = .ok (.if_icmp .ge 42, 3) := by decide +kernel
theorem dX5_passed_67 : decode cX5_passed 67 = .ok (.iload_n 2, 1) := by decide +kernel
theorem dX5_passed_68 : decode cX5_passed 68 = .ok (.ireturn, 1) := by decide +kernel
theorem dX5_strike_0 : decode cX5_strike 0 = .ok (.aload_n 0, 1) := by decide +kernel
theorem dX5_strike_1 : decode cX5_strike 1 = .ok (.iload_n 1, 1) := by decide +kernel
theorem dX5_strike_2 : decode cX5_strike 2 = .ok (.invokevirtual 86, 3) := by decide +kernel
theorem dX5_strike_5 : decode cX5_strike 5 = .ok (.astore_n 3, 1) := by decide +kernel
theorem dX5_strike_6 : decode cX5_strike 6 = .ok (.aload_n 3, 1) := by decide +kernel
theorem dX5_strike_7 : decode cX5_strike 7 = .ok (.ifnonnull 5, 3) := by decide +kernel
theorem dX5_strike_10 : decode cX5_strike 10 = .ok (.iconst (-1), 1) := by decide +kernel
theorem dX5_strike_11 : decode cX5_strike 11 = .ok (.ireturn, 1) := by decide +kernel
theorem dX5_ifStruck_0 : decode cX5_ifStruck 0 = .ok (.aload_n 0, 1) := by decide +kernel
theorem dX5_ifStruck_1 : decode cX5_ifStruck 1 = .ok (.iload_n 1, 1) := by decide +kernel
theorem dX5_ifStruck_2 : decode cX5_ifStruck 2 = .ok (.invokevirtual 86, 3) := by decide +kernel
theorem dX5_ifStruck_5 : decode cX5_ifStruck 5 = .ok (.ifnonnull 5, 3) := by decide +kernel
theorem dX5_ifStruck_8 : decode cX5_ifStruck 8 = .ok (.iconst (-1), 1) := by decide +kernel
theorem dX5_ifStruck_9 : decode cX5_ifStruck 9 = .ok (.ireturn, 1) := by decide +kernel
theorem dX5_cell_0 : decode cX5_cell 0 = .ok (.aload_n 0, 1) := by decide +kernel
theorem dX5_cell_1 : decode cX5_cell 1 = .ok (.iload_n 1, 1) := by decide +kernel
theorem dX5_cell_2 : decode cX5_cell 2 = .ok (.invokevirtual 86, 3) := by decide +kernel
theorem dX5_cell_5 : decode cX5_cell 5 = .ok (.astore_n 3, 1) := by decide +kernel
theorem dX5_cell_6 : decode cX5_cell 6 = .ok (.aload_n 3, 1) := by decide +kernel
theorem dX5_cell_7 : decode cX5_cell 7 = .ok (.ifnonnull 6, 3) := by decide +kernel
theorem dX5_cell_10 : decode cX5_cell 10 = .ok (.bipush (-5), 2) := by decide +kernel
theorem dX5_cell_12 : decode cX5_cell 12 = .ok (.ireturn, 1) := by decide +kernel
theorem dX5_kin_0 : decode cX5_kin 0 = .ok (.aload_n 0, 1) := by decide +kernel
theorem dX5_kin_1 : decode cX5_kin 1 = .ok (.iload_n 1, 1) := by decide +kernel
theorem dX5_kin_2 : decode cX5_kin 2 = .ok (.invokevirtual 86, 3) := by decide +kernel
theorem dX5_kin_5 : decode cX5_kin 5 = .ok (.astore_n 3, 1) := by decide +kernel
theorem dX5_kin_6 : decode cX5_kin 6 = .ok (.aload_n 0, 1) := by decide +kernel
theorem dX5_kin_7 : decode cX5_kin 7 = .ok (.iload_n 2, 1) := by decide +kernel
theorem dX5_kin_8 : decode cX5_kin 8 = .ok (.invokevirtual 86, 3) := by decide +kernel
theorem dX5_kin_11 : decode cX5_kin 11 = .ok (.astore 4, 2) := by decide +kernel
theorem dX5_kin_13 : decode cX5_kin 13 = .ok (.aload_n 3, 1) := by decide +kernel
theorem dX5_kin_14 : decode cX5_kin 14 = .ok (.ifnull 8, 3) := by decide +kernel
theorem dX5_kin_22 : decode cX5_kin 22 = .ok (.iconst (-1), 1) := by decide +kernel
theorem dX5_kin_23 : decode cX5_kin 23 = .ok (.ireturn, 1) := by decide +kernel
theorem dX5_near_0 : decode cX5_near 0 = .ok (.iconst 0, 1) := by decide +kernel
theorem dX5_near_1 : decode cX5_near 1 = .ok (.istore_n 1, 1) := by decide +kernel
theorem dX5_near_2 : decode cX5_near 2 = .ok (.iconst 0, 1) := by decide +kernel
theorem dX5_near_3 : decode cX5_near 3 = .ok (.istore_n 2, 1) := by decide +kernel
theorem dX5_near_4 : decode cX5_near 4 = .ok (.iload_n 2, 1) := by decide +kernel
theorem dX5_near_5 : decode cX5_near 5 = .ok (.aload_n 0, 1) := by decide +kernel
theorem dX5_near_6 : decode cX5_near 6 = .ok (.getfield 15, 3) := by decide +kernel
theorem dX5_near_9 : decode cX5_near 9 = .ok (.if_icmp .ge 47, 3) := by decide +kernel
theorem dX5_near_56 : decode cX5_near 56 = .ok (.iload_n 1, 1) := by decide +kernel
theorem dX5_near_57 : decode cX5_near 57 = .ok (.ireturn, 1) := by decide +kernel
theorem dX5_isWithin_0 : decode cX5_isWithin 0 = .ok (.iload_n 0, 1) := by decide +kernel
theorem dX5_isWithin_1 : decode cX5_isWithin 1 = .ok (.iload_n 1, 1) := by decide +kernel
theorem dX5_isWithin_2 : decode cX5_isWithin 2 = .ok (.if_icmp .lt 12, 3) := by decide +kernel
theorem dX5_isWithin_5 : decode cX5_isWithin 5 = .ok (.iload_n 0, 1) := by decide +kernel
theorem dX5_isWithin_6 : decode cX5_isWithin 6 = .ok (.iload_n 2, 1) := by decide +kernel
theorem dX5_isWithin_7 : decode cX5_isWithin 7 = .ok (.if_icmp .gt 7, 3) := by decide +kernel
theorem dX5_isWithin_10 : decode cX5_isWithin 10 = .ok (.iconst 1, 1) := by decide +kernel
theorem dX5_isWithin_11 : decode cX5_isWithin 11 = .ok (.goto 4, 3) := by decide +kernel
theorem dX5_isWithin_14 : decode cX5_isWithin 14 = .ok (.iconst 0, 1) := by decide +kernel
theorem dX5_isWithin_15 : decode cX5_isWithin 15 = .ok (.ireturn, 1) := by decide +kernel
theorem dX5_isLetter_0 : decode cX5_isLetter 0 = .ok (.iload_n 0, 1) := by decide +kernel
theorem dX5_isLetter_1 : decode cX5_isLetter 1 = .ok (.bipush 97, 2) := by decide +kernel
theorem dX5_isLetter_3 : decode cX5_isLetter 3 = .ok (.if_icmp .lt 13, 3) := by decide +kernel
theorem dX5_isLetter_6 : decode cX5_isLetter 6 = .ok (.iload_n 0, 1) := by decide +kernel
theorem dX5_isLetter_7 : decode cX5_isLetter 7 = .ok (.bipush 122, 2) := by decide +kernel
theorem dX5_isLetter_9 : decode cX5_isLetter 9 = .ok (.if_icmp .gt 7, 3) := by decide +kernel
theorem dX5_isLetter_12 : decode cX5_isLetter 12 = .ok (.iconst 1, 1) := by decide +kernel
theorem dX5_isLetter_13 : decode cX5_isLetter 13 = .ok (.goto 4, 3) := by decide +kernel
theorem dX5_isLetter_16 : decode cX5_isLetter 16 = .ok (.iconst 0, 1) := by decide +kernel
theorem dX5_isLetter_17 : decode cX5_isLetter 17 = .ok (.ireturn, 1) := by decide +kernel
theorem dX5_find_0 : decode cX5_find 0 = .ok (.iload_n 1, 1) := by decide +kernel
theorem dX5_find_1 : decode cX5_find 1 = .ok (.ifCond .lt 20, 3) := by decide +kernel
theorem dX5_find_4 : decode cX5_find 4 = .ok (.iload_n 1, 1) := by decide +kernel
theorem dX5_find_5 : decode cX5_find 5 = .ok (.aload_n 0, 1) := by decide +kernel
theorem dX5_find_6 : decode cX5_find 6 = .ok (.getfield 15, 3) := by decide +kernel
theorem dX5_find_9 : decode cX5_find 9 = .ok (.if_icmp .ge 12, 3) := by decide +kernel
theorem dX5_find_21 : decode cX5_find 21 = .ok (.aconst_null, 1) := by decide +kernel
theorem dX5_find_22 : decode cX5_find 22 = .ok (.areturn, 1) := by decide +kernel
theorem dX5_findReader_0 : decode cX5_findReader 0 = .ok (.iload_n 1, 1) := by decide +kernel
theorem dX5_findReader_1 : decode cX5_findReader 1 = .ok (.ifCond .lt 20, 3) := by decide +kernel
theorem dX5_findReader_4 : decode cX5_findReader 4 = .ok (.iload_n 1, 1) := by decide +kernel
theorem dX5_findReader_5 : decode cX5_findReader 5 = .ok (.aload_n 0, 1) := by decide +kernel
theorem dX5_findReader_6 : decode cX5_findReader 6 = .ok (.getfield 25, 3) := by decide +kernel
theorem dX5_findReader_9 : decode cX5_findReader 9 = .ok (.if_icmp .ge 12, 3) := by decide +kernel
theorem dX5_findReader_21 : decode cX5_findReader 21 = .ok (.aconst_null, 1) := by decide +kernel
theorem dX5_findReader_22 : decode cX5_findReader 22 = .ok (.areturn, 1) := by decide +kernel
theorem dX5_textOf_0 : decode cX5_textOf 0 = .ok (.aload_n 0, 1) := by decide +kernel
theorem dX5_textOf_1 : decode cX5_textOf 1 = .ok (.iload_n 1, 1) := by decide +kernel
theorem dX5_textOf_2 : decode cX5_textOf 2 = .ok (.invokevirtual 86, 3) := by decide +kernel
theorem dX5_textOf_5 : decode cX5_textOf 5 = .ok (.astore_n 2, 1) := by decide +kernel
theorem dX5_textOf_6 : decode cX5_textOf 6 = .ok (.aload_n 2, 1) := by decide +kernel
theorem dX5_textOf_7 : decode cX5_textOf 7 = .ok (.ifnonnull 7, 3) := by decide +kernel
theorem dX5_textOf_10 : decode cX5_textOf 10 = .ok (.aconst_null, 1) := by decide +kernel
theorem dX5_textOf_11 : decode cX5_textOf 11 = .ok (.goto 7, 3) := by decide +kernel
theorem dX5_textOf_18 : decode cX5_textOf 18 = .ok (.areturn, 1) := by decide +kernel
theorem dX5_bearerOf_0 : decode cX5_bearerOf 0 = .ok (.iconst 0, 1) := by decide +kernel
theorem dX5_bearerOf_1 : decode cX5_bearerOf 1 = .ok (.istore_n 2, 1) := by decide +kernel
theorem dX5_bearerOf_2 : decode cX5_bearerOf 2 = .ok (.iload_n 2, 1) := by decide +kernel
theorem dX5_bearerOf_3 : decode cX5_bearerOf 3 = .ok (.aload_n 0, 1) := by decide +kernel
theorem dX5_bearerOf_4 : decode cX5_bearerOf 4 = .ok (.getfield 15, 3) := by decide +kernel
theorem dX5_bearerOf_7 : decode cX5_bearerOf 7 = .ok (.if_icmp .ge 29, 3) := by decide +kernel
theorem dX5_bearerOf_36 : decode cX5_bearerOf 36 = .ok (.iconst (-1), 1) := by decide +kernel
theorem dX5_bearerOf_37 : decode cX5_bearerOf 37 = .ok (.ireturn, 1) := by decide +kernel
theorem dX5_openedBy_0 : decode cX5_openedBy 0 = .ok (.iconst 0, 1) := by decide +kernel
theorem dX5_openedBy_1 : decode cX5_openedBy 1 = .ok (.istore_n 2, 1) := by decide +kernel
theorem dX5_openedBy_2 : decode cX5_openedBy 2 = .ok (.iconst 0, 1) := by decide +kernel
theorem dX5_openedBy_3 : decode cX5_openedBy 3 = .ok (.istore_n 3, 1) := by decide +kernel
theorem dX5_openedBy_4 : decode cX5_openedBy 4 = .ok (.iload_n 3, 1) := by decide +kernel
theorem dX5_openedBy_5 : decode cX5_openedBy 5 = .ok (.aload_n 0, 1) := by decide +kernel
theorem dX5_openedBy_6 : decode cX5_openedBy 6 = .ok (.getfield 15, 3) := by decide +kernel
theorem dX5_openedBy_9 : decode cX5_openedBy 9 = .ok (.if_icmp .ge 33, 3) := by decide +kernel
theorem dX5_openedBy_42 : decode cX5_openedBy 42 = .ok (.iload_n 2, 1) := by decide +kernel
theorem dX5_openedBy_43 : decode cX5_openedBy 43 = .ok (.ireturn, 1) := by decide +kernel
theorem dX5_settleShifts_0 : decode cX5_settleShifts 0 = .ok (.iconst 0, 1) := by decide +kernel
theorem dX5_settleShifts_1 : decode cX5_settleShifts 1 = .ok (.istore_n 1, 1) := by decide +kernel
theorem dX5_settleShifts_2 : decode cX5_settleShifts 2 = .ok (.iload_n 1, 1) := by decide +kernel
theorem dX5_settleShifts_3 : decode cX5_settleShifts 3 = .ok (.aload_n 0, 1) := by decide +kernel
theorem dX5_settleShifts_4 : decode cX5_settleShifts 4 = .ok (.getfield 25, 3) := by decide +kernel
theorem dX5_settleShifts_7 : decode cX5_settleShifts 7 = .ok (.if_icmp .ge 20, 3) := by decide +kernel
theorem dX5_settleShifts_27 : decode cX5_settleShifts 27 = .ok (.return_, 1) := by decide +kernel
theorem dX5_settle_0 : decode cX5_settle 0 = .ok (.aload_n 0, 1) := by decide +kernel
theorem dX5_settle_1 : decode cX5_settle 1 = .ok (.invokevirtual 224, 3) := by decide +kernel
theorem dX5_settle_4 : decode cX5_settle 4 = .ok (.iconst 0, 1) := by decide +kernel
theorem dX5_settle_5 : decode cX5_settle 5 = .ok (.istore_n 2, 1) := by decide +kernel
theorem dX5_settle_6 : decode cX5_settle 6 = .ok (.iload_n 2, 1) := by decide +kernel
theorem dX5_settle_7 : decode cX5_settle 7 = .ok (.aload_n 0, 1) := by decide +kernel
theorem dX5_settle_8 : decode cX5_settle 8 = .ok (.getfield 15, 3) := by decide +kernel
theorem dX5_settle_11 : decode cX5_settle 11 = .ok (.if_icmp .ge 51, 3) := by decide +kernel
theorem dX5_settle_62 : decode cX5_settle 62 = .ok (.iconst 0, 1) := by decide +kernel
theorem dX5_settle_63 : decode cX5_settle 63 = .ok (.istore_n 2, 1) := by decide +kernel
theorem dX5_settle_64 : decode cX5_settle 64 = .ok (.iload_n 2, 1) := by decide +kernel
theorem dX5_settle_65 : decode cX5_settle 65 = .ok (.aload_n 0, 1) := by decide +kernel
theorem dX5_settle_66 : decode cX5_settle 66 = .ok (.getfield 15, 3) := by decide +kernel
theorem dX5_settle_69 : decode cX5_settle 69 = .ok (.if_icmp .ge 38, 3) := by decide +kernel
theorem dX5_settle_107 : decode cX5_settle 107 = .ok (.return_, 1) := by decide +kernel
theorem dX5_essayCount_0 : decode cX5_essayCount 0 = .ok (.iconst 0, 1) := by decide +kernel
theorem dX5_essayCount_1 : decode cX5_essayCount 1 = .ok (.istore_n 1, 1) := by decide +kernel
theorem dX5_essayCount_2 : decode cX5_essayCount 2 = .ok (.iconst 0, 1) := by decide +kernel
theorem dX5_essayCount_3 : decode cX5_essayCount 3 = .ok (.istore_n 2, 1) := by decide +kernel
theorem dX5_essayCount_4 : decode cX5_essayCount 4 = .ok (.iload_n 2, 1) := by decide +kernel
theorem dX5_essayCount_5 : decode cX5_essayCount 5 = .ok (.aload_n 0, 1) := by decide +kernel
theorem dX5_essayCount_6 : decode cX5_essayCount 6 = .ok (.getfield 15, 3) := by decide +kernel
theorem dX5_essayCount_9 : decode cX5_essayCount 9 = .ok (.if_icmp .ge 25, 3) := by decide +kernel
theorem dX5_essayCount_34 : decode cX5_essayCount 34 = .ok (.iload_n 1, 1) := by decide +kernel
theorem dX5_essayCount_35 : decode cX5_essayCount 35 = .ok (.ireturn, 1) := by decide +kernel
theorem dX5_struckCount_0 : decode cX5_struckCount 0 = .ok (.iconst 0, 1) := by decide +kernel
theorem dX5_struckCount_1 : decode cX5_struckCount 1 = .ok (.istore_n 1, 1) := by decide +kernel
theorem dX5_struckCount_2 : decode cX5_struckCount 2 = .ok (.iconst 0, 1) := by decide +kernel
theorem dX5_struckCount_3 : decode cX5_struckCount 3 = .ok (.istore_n 2, 1) := by decide +kernel
theorem dX5_struckCount_4 : decode cX5_struckCount 4 = .ok (.iload_n 2, 1) := by decide +kernel
theorem dX5_struckCount_5 : decode cX5_struckCount 5 = .ok (.aload_n 0, 1) := by decide +kernel
theorem dX5_struckCount_6 : decode cX5_struckCount 6 = .ok (.getfield 15, 3) := by decide +kernel
theorem dX5_struckCount_9 : decode cX5_struckCount 9 = .ok (.if_icmp .ge 34, 3) := by decide +kernel
theorem dX5_struckCount_43 : decode cX5_struckCount 43 = .ok (.iload_n 1, 1) := by decide +kernel
theorem dX5_struckCount_44 : decode cX5_struckCount 44 = .ok (.ireturn, 1) := by decide +kernel
theorem dX5_markCount_0 : decode cX5_markCount 0 = .ok (.iconst 0, 1) := by decide +kernel
theorem dX5_markCount_1 : decode cX5_markCount 1 = .ok (.istore_n 1, 1) := by decide +kernel
theorem dX5_markCount_2 : decode cX5_markCount 2 = .ok (.iconst 0, 1) := by decide +kernel
theorem dX5_markCount_3 : decode cX5_markCount 3 = .ok (.istore_n 2, 1) := by decide +kernel
theorem dX5_markCount_4 : decode cX5_markCount 4 = .ok (.iload_n 2, 1) := by decide +kernel
theorem dX5_markCount_5 : decode cX5_markCount 5 = .ok (.aload_n 0, 1) := by decide +kernel
theorem dX5_markCount_6 : decode cX5_markCount 6 = .ok (.getfield 15, 3) := by decide +kernel
theorem dX5_markCount_9 : decode cX5_markCount 9 = .ok (.if_icmp .ge 30, 3) := by decide +kernel
theorem dX5_markCount_39 : decode cX5_markCount 39 = .ok (.iload_n 1, 1) := by decide +kernel
theorem dX5_markCount_40 : decode cX5_markCount 40 = .ok (.ireturn, 1) := by decide +kernel
theorem dX5_passingCount_0 : decode cX5_passingCount 0 = .ok (.iconst 0, 1) := by decide +kernel
theorem dX5_passingCount_1 : decode cX5_passingCount 1 = .ok (.istore_n 1, 1) := by decide +kernel
theorem dX5_passingCount_2 : decode cX5_passingCount 2 = .ok (.iconst 0, 1) := by decide +kernel
theorem dX5_passingCount_3 : decode cX5_passingCount 3 = .ok (.istore_n 2, 1) := by decide +kernel
theorem dX5_passingCount_4 : decode cX5_passingCount 4 = .ok (.iload_n 2, 1) := by decide +kernel
theorem dX5_passingCount_5 : decode cX5_passingCount 5 = .ok (.aload_n 0, 1) := by decide +kernel
theorem dX5_passingCount_6 : decode cX5_passingCount 6 = .ok (.getfield 15, 3) := by decide +kernel
theorem dX5_passingCount_9 : decode cX5_passingCount 9 = .ok (.if_icmp .ge 26, 3) := by decide +kernel
theorem dX5_passingCount_35 : decode cX5_passingCount 35 = .ok (.iload_n 1, 1) := by decide +kernel
theorem dX5_passingCount_36 : decode cX5_passingCount 36 = .ok (.ireturn, 1) := by decide +kernel
end
section
def nmL : List (String × Nat × MethodName × String) := [(RX5, 30, yX4_init, RX5), (RX5, 37, yX2_init, RX5), (RX5, 72, yX0_init, RX5), (RX5, 130, yX2_setMeasure, RX5), (RX5, 137, yX2_addParallel, RX5), (RX5, 184, yX3_init, RX5)]
def nfL : List (String × Nat × String × String × String × String) := [(RX5, 129, "ExamHalls$Form", "legCount", "I", RX5), (RX5, 134, "ExamHalls$Form", "parallelCount", "I", RX5)]
def q9_Obj : String := "java/lang/Object"
def ncL : List String := ["java/lang/Integer", "ExamHallsModel$Candidate", "ExamHallsModel$Reader", "java/lang/String", "[I"]
def fwL : List (String × MethodName × MethodName) := []
def aoL : List String := ["ExamHalls$Candidate", "ExamHalls$Reader"]
/-! what the contracts share: the nest mates' and interfaces' words, pure and writing starts -/
theorem ft_nest {a : String} {i : Nat} {x : MethodName} {h : String} {u U : State} (e : u.vm = U.vm) (z : va_Nw (.methodLinkNest a i x h) u) : va_Nw (.methodLinkNest a i x h) U := va_Nw.same rfl e z
def ft_ao (t : FieldType) (U : State) : Prop := ∃ (comp c : ClassId) (k : Class), U.vm.findClass (FieldType.array t).toString = some comp ∧ U.vm.classes[c]? = some k ∧ k.kind = .array comp (.array t) ∧ U.vm.findClass ("[" ++ (FieldType.array t).toString) = some c
theorem ft_ao.moved {t : FieldType} {u U : State} (hvm : u.vm.Alike U.vm) (h : ft_ao t u) : ft_ao t U := by
  obtain ⟨comp, c, k, h1, h2, h3, h4⟩ := h
  obtain ⟨k', hk', he⟩ := hvm.2.2 _ _ h2
  exact ⟨comp, c, k', by rw [hvm.findClass]; exact h1, hk', by rw [he]; exact h3, by rw [hvm.findClass]; exact h4⟩
def Ft (U : State) : Prop :=
  (∀ q ∈ nmL, va_Nw (.methodLinkNest q.1 q.2.1 q.2.2.1 q.2.2.2) U) ∧
  (∀ q ∈ nfL, va_Nw (.fieldLinkNest q.1 q.2.1 q.2.2.1 q.2.2.2.1 q.2.2.2.2.1 q.2.2.2.2.2) U) ∧
  (∀ q ∈ ncL, va_Nw (.castable q q9_Obj) U) ∧
  (∀ q ∈ fwL, va_Fw q.1 q.2.1 q.2.2 U) ∧
  (∀ q ∈ aoL, va_AO q U) ∧ ft_ao .boolean U ∧ ft_ao (.array .boolean) U
theorem fw_ne : ∀ q ∈ fwL, q.2.1.cls ≠ "java/lang/invoke/MethodHandle" ∧ q.2.1.cls ≠ "java/lang/invoke/VarHandle" := by decide +kernel
theorem Ft.warm {s U : State} (hW : s.WarmedH U.vm) (h : Ft s) : Ft U :=
  ⟨fun q hq => va_Nw.warmM hW (h.1 q hq), fun q hq => va_Nw.warmF hW (h.2.1 q hq), fun q hq => va_Nw.warmC hW (h.2.2.1 q hq), fun q hq => va_Fw.moved (fw_ne q hq) hW.alike (h.2.2.2.1 q hq), fun q hq => va_AO.moved hW.alike (h.2.2.2.2.1 q hq), ft_ao.moved hW.alike h.2.2.2.2.2.1, ft_ao.moved hW.alike h.2.2.2.2.2.2⟩
theorem Ft.same {u U : State} (e : u.vm = U.vm) (h : Ft u) : Ft U := by
  have ea : u.vm.Alike U.vm := by rw [e]; exact Vm.Alike.refl _
  exact ⟨fun q hq => va_Nw.same rfl e (h.1 q hq), fun q hq => va_Nw.same rfl e (h.2.1 q hq), fun q hq => va_Nw.same rfl e (h.2.2.1 q hq), fun q hq => va_Fw.moved (fw_ne q hq) ea (h.2.2.2.1 q hq), fun q hq => va_AO.moved ea (h.2.2.2.2.1 q hq), ft_ao.moved ea h.2.2.2.2.2.1, ft_ao.moved ea h.2.2.2.2.2.2⟩
theorem Ft.nm {U : State} (h : Ft U) (q : String × Nat × MethodName × String) (hq : q ∈ nmL) : va_Nw (.methodLinkNest q.1 q.2.1 q.2.2.1 q.2.2.2) U := h.1 q hq
theorem Ft.nf {U : State} {args : Array Value} (h : Ft U) (q : String × Nat × String × String × String × String) (hq : q ∈ nfL) : (Cond.fieldLinkNest q.1 q.2.1 q.2.2.1 q.2.2.2.1 q.2.2.2.2.1 q.2.2.2.2.2).before args U = true := va_Nw.use rfl (h.2.1 q hq)
theorem Ft.nc {U : State} (h : Ft U) (q : String) (hq : q ∈ ncL) : va_Nw (.castable q q9_Obj) U := h.2.2.1 q hq
theorem Ft.fw {U : State} (h : Ft U) (q : String × MethodName × MethodName) (hq : q ∈ fwL) : va_Fw q.1 q.2.1 q.2.2 U := h.2.2.2.1 q hq
theorem Ft.ao {U : State} (h : Ft U) (q : String) (hq : q ∈ aoL) : va_AO q U := h.2.2.2.2.1 q hq
/-- a pure method's start -/
def PS (dC : Nat → ClassId) (dI : Nat → Nat → Nat) (W : va_W) (TY : List (ClassId × FieldType)) (U : State) : Prop := va_P (dC, dI) vwCl W U.heap ∧ va_K (dC, dI) vwCl TY U ∧ Ft U
/-- a writing method's start -/
def PQ (dC : Nat → ClassId) (dI : Nat → Nat → Nat) (sz : Nat) (W : va_W) (TY : List (ClassId × FieldType)) (U : State) : Prop := U.heap.size = sz ∧ va_P (dC, dI) vwCl W U.heap ∧ va_K (dC, dI) vwCl TY U ∧ va_D (fun _ => True) W ∧ Ft U
theorem PS_blind {av : List Value} {dC : Nat → ClassId} {dI : Nat → Nat → Nat} {W : va_W} {TY : List (ClassId × FieldType)} : FrameBlind (va_Pc av (PS dC dI W TY)) := fun a U g mk q => by
  obtain ⟨q0, qP, qK, qF⟩ := q
  exact ⟨q0, qP, va_K.moved (u := U) (U := U.calling g mk a) (Vm.Alike.refl U.vm) qK, Ft.same (u := U) (U := U.calling g mk a) rfl qF⟩
theorem PQ_blind {av : List Value} {dC : Nat → ClassId} {dI : Nat → Nat → Nat} {sz : Nat} {W : va_W} {TY : List (ClassId × FieldType)} : FrameBlind (va_Pc av (PQ dC dI sz W TY)) := fun a U g mk q => by
  obtain ⟨q0, q1, qP, qK, qD, qF⟩ := q
  exact ⟨q0, q1, qP, va_K.moved (u := U) (U := U.calling g mk a) (Vm.Alike.refl U.vm) qK, qD, Ft.same (u := U) (U := U.calling g mk a) rfl qF⟩
theorem PS_pre {av : List Value} {dC : Nat → ClassId} {dI : Nat → Nat → Nat} {W : va_W} {TY : List (ClassId × FieldType)} {s : State} {H : Heap} (hP : va_P (dC, dI) vwCl W H) (hK : va_K (dC, dI) vwCl TY s) (hF : Ft s) : ∀ U : State, U.heap = H → s.WarmedH U.vm → va_Pc av (PS dC dI W TY) av.toArray U :=
  fun U hU hW => ⟨rfl, by rw [hU]; exact hP, va_K.moved hW.alike hK, hF.warm hW⟩
theorem PQ_pre {av : List Value} {dC : Nat → ClassId} {dI : Nat → Nat → Nat} {W : va_W} {TY : List (ClassId × FieldType)} {s : State} {H : Heap} {A : Nat → Prop} (hP : va_P (dC, dI) vwCl W H) (hK : va_K (dC, dI) vwCl TY s) (hD : va_D A W) (hF : Ft s) : ∀ U : State, U.heap = H → s.WarmedH U.vm → va_Pc av (PQ dC dI H.size W TY) av.toArray U :=
  fun U hU hW => ⟨rfl, by rw [hU], by rw [hU]; exact hP, va_K.moved hW.alike hK, hD.weaken (fun _ _ _ _ => trivial), hF.warm hW⟩
/-! what is read of the JDK's statics: the shared empty row of ArrayList, the cache of Integers, String's flag, a formatter -/
def Zt (d tc : Nat) (ad : Nat → Nat) (A : Nat → Prop) (U : State) (H : Heap) : Prop :=
  va_Z "java/util/ArrayList" "DEFAULTCAPACITY_EMPTY_ELEMENTDATA" "[Ljava/lang/Object;" (.ref d) A U H ∧
  va_T (.object "java/lang/Object") d 0 (fun _ => .null) A U H ∧
  va_Z "java/lang/Integer$IntegerCache" "high" "I" (.int 127) A U H ∧
  va_Z "java/lang/Integer$IntegerCache" "cache" "[Ljava/lang/Integer;" (.ref tc) A U H ∧
  va_T (.object "java/lang/Integer") tc 256 (fun j => .ref (ad j)) A U H ∧
  (∀ k : Nat, k < 256 → va_O "java/lang/Integer" (ad k) A U H) ∧
  va_Z "java/lang/String" "COMPACT_STRINGS" "Z" (.int 1) A U H ∧
  va_Zq "jdk/internal/util/Preconditions" "SIOOBE_FORMATTER" "Ljava/util/function/BiFunction;" A U H
theorem Zt.moved {d tc : Nat} {ad : Nat → Nat} {A : Nat → Prop} {u U : State} {H : Heap} (hvm : u.vm.Alike U.vm) (h : Zt d tc ad A u H) : Zt d tc ad A U H :=
  ⟨h.1.moved hvm, h.2.1.moved hvm, h.2.2.1.moved hvm, h.2.2.2.1.moved hvm, h.2.2.2.2.1.moved hvm, fun k hk => (h.2.2.2.2.2.1 k hk).moved hvm, h.2.2.2.2.2.2.1.moved hvm, h.2.2.2.2.2.2.2.moved hvm⟩
theorem Zt.kept {d tc : Nat} {ad : Nat → Nat} {A : Nat → Prop} {U : State} {H H1 : Heap} (h : Zt d tc ad A U H) (hq : ∀ a : Nat, a < H.size → ¬ A a → H1[a]? = H[a]?) : Zt d tc ad A U H1 :=
  ⟨h.1.kept hq, h.2.1.kept hq, h.2.2.1.kept hq, h.2.2.2.1.kept hq, h.2.2.2.2.1.kept hq, fun k hk => (h.2.2.2.2.2.1 k hk).kept hq, h.2.2.2.2.2.2.1.kept hq, h.2.2.2.2.2.2.2.kept hq⟩
theorem Zt.narrow {d tc : Nat} {ad : Nat → Nat} {A B : Nat → Prop} {U : State} {H : Heap} (h : Zt d tc ad A U H) (hAB : ∀ q, B q → A q) : Zt d tc ad B U H :=
  ⟨h.1.narrow hAB, h.2.1.narrow hAB, h.2.2.1.narrow hAB, h.2.2.2.1.narrow hAB, h.2.2.2.2.1.narrow hAB, fun k hk => (h.2.2.2.2.2.1 k hk).narrow hAB, h.2.2.2.2.2.2.1.narrow hAB, h.2.2.2.2.2.2.2.narrow hAB⟩
def PZ (dC : Nat → ClassId) (dI : Nat → Nat → Nat) (d tc : Nat) (ad : Nat → Nat) (sz : Nat) (W : va_W) (TY : List (ClassId × FieldType)) (U : State) : Prop := U.heap.size = sz ∧ va_P (dC, dI) vwCl W U.heap ∧ va_K (dC, dI) vwCl TY U ∧ va_D (fun _ => True) W ∧ Ft U ∧ Zt d tc ad (va_A W sz) U U.heap
def PY (dC : Nat → ClassId) (dI : Nat → Nat → Nat) (d tc : Nat) (ad : Nat → Nat) (W : va_W) (TY : List (ClassId × FieldType)) (U : State) : Prop := va_P (dC, dI) vwCl W U.heap ∧ va_K (dC, dI) vwCl TY U ∧ Ft U ∧ Zt d tc ad (fun _ => False) U U.heap
def PE (dC : Nat → ClassId) (dI : Nat → Nat → Nat) (d tc : Nat) (ad : Nat → Nat) (sz : Nat) (W : va_W) (TY : List (ClassId × FieldType)) (v : Nat) (U : State) : Prop := U.heap.size = sz ∧ va_P (dC, dI) vwCl W U.heap ∧ va_K (dC, dI) vwCl TY U ∧ va_D (fun _ => True) W ∧ Ft U ∧ Zt d tc ad (va_A W sz) U U.heap ∧ va_Any "java/lang/Object" U U.heap v
theorem any_moved {E : String} {u U : State} {H : Heap} {a : Nat} (hvm : u.vm.Alike U.vm) (h : va_Any E u H a) : va_Any E U H a := by
  obtain ⟨cell, h1, h2, ⟨k, hk⟩, h4⟩ := h
  obtain ⟨k', hk', -⟩ := hvm.2.2 _ _ hk
  exact ⟨cell, h1, h2, ⟨k', hk'⟩, fun comp hc => by rw [hvm.assignable]; exact h4 comp (by rw [← hvm.findClass]; exact hc)⟩
theorem any_kept {E : String} {U : State} {H H1 : Heap} {a : Nat} (h : va_Any E U H a) (e : H1[a]? = H[a]?) : va_Any E U H1 a := by
  obtain ⟨cell, h1, h2⟩ := h
  exact ⟨cell, by rw [e]; exact h1, h2⟩
theorem PZ_blind {av : List Value} {dC : Nat → ClassId} {dI : Nat → Nat → Nat} {d tc : Nat} {ad : Nat → Nat} {sz : Nat} {W : va_W} {TY : List (ClassId × FieldType)} : FrameBlind (va_Pc av (PZ dC dI d tc ad sz W TY)) := fun a U g mk q => by
  obtain ⟨q0, q1, qP, qK, qD, qF, qZ⟩ := q
  exact ⟨q0, q1, qP, va_K.moved (u := U) (U := U.calling g mk a) (Vm.Alike.refl U.vm) qK, qD, Ft.same (u := U) (U := U.calling g mk a) rfl qF, Zt.moved (u := U) (U := U.calling g mk a) (Vm.Alike.refl U.vm) qZ⟩
theorem PE_blind {av : List Value} {dC : Nat → ClassId} {dI : Nat → Nat → Nat} {d tc : Nat} {ad : Nat → Nat} {sz : Nat} {W : va_W} {TY : List (ClassId × FieldType)} {v : Nat} : FrameBlind (va_Pc av (PE dC dI d tc ad sz W TY v)) := fun a U g mk q => by
  obtain ⟨q0, q1, qP, qK, qD, qF, qZ, qE⟩ := q
  exact ⟨q0, q1, qP, va_K.moved (u := U) (U := U.calling g mk a) (Vm.Alike.refl U.vm) qK, qD, Ft.same (u := U) (U := U.calling g mk a) rfl qF, Zt.moved (u := U) (U := U.calling g mk a) (Vm.Alike.refl U.vm) qZ, any_moved (u := U) (U := U.calling g mk a) (Vm.Alike.refl U.vm) qE⟩
theorem PY_blind {av : List Value} {dC : Nat → ClassId} {dI : Nat → Nat → Nat} {d tc : Nat} {ad : Nat → Nat} {W : va_W} {TY : List (ClassId × FieldType)} : FrameBlind (va_Pc av (PY dC dI d tc ad W TY)) := fun a U g mk q => by
  obtain ⟨q0, qP, qK, qF, qZ⟩ := q
  exact ⟨q0, qP, va_K.moved (u := U) (U := U.calling g mk a) (Vm.Alike.refl U.vm) qK, Ft.same (u := U) (U := U.calling g mk a) rfl qF, Zt.moved (u := U) (U := U.calling g mk a) (Vm.Alike.refl U.vm) qZ⟩
theorem Zt.at {d tc : Nat} {ad : Nat → Nat} {A B : Nat → Prop} {s : State} {H : Heap} {locs : List Loc} (hZ : Zt d tc ad A s s.heap) (hS : va_S A s.heap H locs) (hB : ∀ q, B q → A q) : Zt d tc ad B s H := (hZ.kept (fun a h1 h2 => hS.2.1 a h1 h2)).narrow hB
theorem PZ_pre {av : List Value} {dC : Nat → ClassId} {dI : Nat → Nat → Nat} {d tc : Nat} {ad : Nat → Nat} {W : va_W} {TY : List (ClassId × FieldType)} {s : State} {H : Heap} {A : Nat → Prop} {locs : List Loc} (hP : va_P (dC, dI) vwCl W H) (hK : va_K (dC, dI) vwCl TY s) (hD : va_D A W) (hF : Ft s) (hZ : Zt d tc ad A s s.heap) (hS : va_S A s.heap H locs) (hFc : ∀ q, va_A W H.size q → A q) : ∀ U : State, U.heap = H → s.WarmedH U.vm → va_Pc av (PZ dC dI d tc ad H.size W TY) av.toArray U :=
  fun U hU hW => ⟨rfl, by rw [hU], by rw [hU]; exact hP, va_K.moved hW.alike hK, hD.weaken (fun _ _ _ _ => trivial), hF.warm hW, by rw [hU]; exact Zt.moved hW.alike (hZ.at hS hFc)⟩
theorem PE_pre {av : List Value} {dC : Nat → ClassId} {dI : Nat → Nat → Nat} {d tc : Nat} {ad : Nat → Nat} {W : va_W} {TY : List (ClassId × FieldType)} {v : Nat} {s : State} {H : Heap} {A : Nat → Prop} {locs : List Loc} (hP : va_P (dC, dI) vwCl W H) (hK : va_K (dC, dI) vwCl TY s) (hD : va_D A W) (hF : Ft s) (hZ : Zt d tc ad A s s.heap) (hS : va_S A s.heap H locs) (hFc : ∀ q, va_A W H.size q → A q) (hE : va_Any "java/lang/Object" s H v) : ∀ U : State, U.heap = H → s.WarmedH U.vm → va_Pc av (PE dC dI d tc ad H.size W TY v) av.toArray U :=
  fun U hU hW => ⟨rfl, by rw [hU], by rw [hU]; exact hP, va_K.moved hW.alike hK, hD.weaken (fun _ _ _ _ => trivial), hF.warm hW, by rw [hU]; exact Zt.moved hW.alike (hZ.at hS hFc), by rw [hU]; exact any_moved hW.alike hE⟩
theorem PY_pre {av : List Value} {dC : Nat → ClassId} {dI : Nat → Nat → Nat} {d tc : Nat} {ad : Nat → Nat} {W : va_W} {TY : List (ClassId × FieldType)} {s : State} {H : Heap} {A : Nat → Prop} {locs : List Loc} (hP : va_P (dC, dI) vwCl W H) (hK : va_K (dC, dI) vwCl TY s) (hF : Ft s) (hZ : Zt d tc ad A s s.heap) (hS : va_S A s.heap H locs) : ∀ U : State, U.heap = H → s.WarmedH U.vm → va_Pc av (PY dC dI d tc ad W TY) av.toArray U :=
  fun U hU hW => ⟨rfl, by rw [hU]; exact hP, va_K.moved hW.alike hK, hF.warm hW, by rw [hU]; exact Zt.moved hW.alike (hZ.at hS (fun _ h => h.elim))⟩
/-- an object of the world may lie in a row of Objects -/
theorem any_obj {D : va_G} {ws : va_W} {tys : List (ClassId × FieldType)} {s : State} {H : Heap} {a q0 ci : Nat} {fs : List Value} {r : vw_C} (hF : Ft s) (hK : va_K D vwCl tys s) (hP : va_P D vwCl ws H) (he : ws[q0]? = some (a, .inr (ci, fs))) (hc : vwCl[ci]? = some r) (hr : r.1 ∈ ncL) : va_Any "java/lang/Object" s H a :=
  va_rAny hK hP he hc (vb_asgC (hF.nc _ hr))
theorem vin_lt {x : Int32} {N : Nat} (hN : N < 2 ^ 31) (h0 : ¬ x < 0) (h1 : ¬ nI N ≤ x) : vp_in x N := by
  obtain ⟨j, hj, rfl⟩ := nI_of h0
  exact vp_in_nI (Nat.lt_of_not_le (fun h => h1 (nI_le h hj))) hN
/-- a start with its heap and its written places under names of their own -/
theorem W_gen {p : Program} {l : Launch} {e : Env} {R : Room} {s : State} {m : MethodId} {args : Array Value} {below : List Frame} {meth : Method} {c : Code} {H : Heap} {locs : List Loc} {cells slots : Nat} {Q : State → Prop} {g : JFrame} (k : ∀ (H' : Heap) (locs' : List Loc), H' = H → locs' = locs → W p l e R s m args below meth c H' locs' cells slots Q g) : W p l e R s m args below meth c H locs cells slots Q g := k H locs rfl rfl
theorem i_lt {i N : Nat} {n : Int32} (hi : i ≤ N) (hN : N < 2 ^ 31) (en : n = nI i) (h : ¬ nI N ≤ n) : i < N := by
  rcases Nat.lt_or_ge i N with q | q
  · exact q
  · exact absurd (by rw [en]; exact nI_le q (by omega)) h
theorem dfX0 : ∀ j, j < 10 → defaultValue (tyX0 j) = vp_V [.int 0, .null, .int 0, .int 0, .int 0, .int 0, .null, .null, .null, .int 0] j := by
  intro j hj
  rcases (show j = 0 ∨ j = 1 ∨ j = 2 ∨ j = 3 ∨ j = 4 ∨ j = 5 ∨ j = 6 ∨ j = 7 ∨ j = 8 ∨ j = 9 by omega) with rfl | rfl | rfl | rfl | rfl | rfl | rfl | rfl | rfl | rfl <;> rfl

theorem dfX2 : ∀ j, j < 8 → defaultValue (tyX2 j) = vp_V [.int 0, .null, .null, .null, .null, .int 0, .null, .int 0] j := by
  intro j hj
  rcases (show j = 0 ∨ j = 1 ∨ j = 2 ∨ j = 3 ∨ j = 4 ∨ j = 5 ∨ j = 6 ∨ j = 7 by omega) with rfl | rfl | rfl | rfl | rfl | rfl | rfl | rfl <;> rfl

theorem dfX3 : ∀ j, j < 3 → defaultValue (tyX3 j) = vp_V [.int 0, .int 0, .int 0] j := by
  intro j hj
  rcases (show j = 0 ∨ j = 1 ∨ j = 2 by omega) with rfl | rfl | rfl <;> rfl

theorem dfX4 : ∀ j, j < 2 → defaultValue (tyX4 j) = vp_V [.null, .int 0] j := by
  intro j hj
  rcases (show j = 0 ∨ j = 1 by omega) with rfl | rfl <;> rfl
end
section
def sp_X_isWithin (n : Int32) (lo : Int32) (hi : Int32) : Int32 := if n < lo then 0 else if hi < n then 0 else 1
set_option maxHeartbeats 4000000 in
set_option maxRecDepth 100000 in
theorem c_X_isWithin (l : Launch) (dC : Nat → ClassId) (dI : Nat → Nat → Nat) (n : Int32) (lo : Int32) (hi : Int32) : Met l yX5_isWithin wsX5_isWithin ({ frames := 0, cells := 0, slots := 0, locals := 0 }) (va_Pc [.int n, .int lo, .int hi] (PS dC dI [] [])) (vp_Si (fun r => r = sp_X_isWithin n lo hi)) 0 0 (fun _ => False) := by
  refine Met.ofW (cc := cX5_isWithin) (maxL := 3) (ret := (some .boolean)) (by decide) rfl ?_
  intro p e s m args below meth c s₁ B hml hv
  obtain ⟨rfl, hP, hK, hF⟩ := hv
  have hx := B.exec
  have hb := B.bytes
  have hr := B.returns
  have hts := atoms_spec (ws := wsX5_isWithin) B.pre
  have hown : s.vm.findClass RX5 = some m.cls := findClass_of_methodNamed B.named
  have hlocks := B.notSynchronized
  have hl := lv_entry ([.int n, .int lo, .int hi]) (n := 3) (Nat.le_of_ble_eq_true rfl)
  rw [lg_entry_eq]
  generalize (lg_sl ([.int n, .int lo, .int hi]) ++ List.replicate (3 - (lg_sl ([.int n, .int lo, .int hi])).length) Slot.unset).toArray = ls at hl ⊢
  have hl : lv_has ls 3 [(0, .int n), (1, .int lo), (2, .int hi)] := hl
  refine lv_iload_n hx hb dX5_isWithin_0 rfl (lv_at hl 0 rfl) ?_
  refine lv_iload_n hx hb dX5_isWithin_1 rfl (lv_at hl 1 rfl) ?_
  refine lv_icmp_lt (tgt := 14) hx hb dX5_isWithin_2 (by decide) (fun c_1 => ?_) (fun c_1 => ?_)
  · skip
    refine lv_iconst (v := 0) hx hb dX5_isWithin_14 (by decide) ?_
    exact W.zret (v := 0) hx hb hr (by decide) (fun t ht hW => ⟨_, rfl, (by simp only [sp_X_isWithin, if_pos c_1]), ht⟩) (fun _ h9 => absurd h9 List.not_mem_nil) dX5_isWithin_15
  · skip
    refine lv_iload_n hx hb dX5_isWithin_5 rfl (lv_at hl 0 rfl) ?_
    refine lv_iload_n hx hb dX5_isWithin_6 rfl (lv_at hl 2 rfl) ?_
    refine lv_icmp_gt (tgt := 14) hx hb dX5_isWithin_7 (by decide) (fun c_2 => ?_) (fun c_2 => ?_)
    · skip
      refine lv_iconst (v := 0) hx hb dX5_isWithin_14 (by decide) ?_
      exact W.zret (v := 0) hx hb hr (by decide) (fun t ht hW => ⟨_, rfl, (by simp only [sp_X_isWithin, if_neg c_1, if_pos c_2]), ht⟩) (fun _ h9 => absurd h9 List.not_mem_nil) dX5_isWithin_15
    · skip
      refine lv_iconst (v := 1) hx hb dX5_isWithin_10 (by decide) ?_
      refine lv_goto (tgt := 15) hx hb dX5_isWithin_11 (by decide) ?_
      exact W.zret (v := 1) hx hb hr (by decide) (fun t ht hW => ⟨_, rfl, (by simp only [sp_X_isWithin, if_neg c_1, if_neg c_2]), ht⟩) (fun _ h9 => absurd h9 List.not_mem_nil) dX5_isWithin_15

theorem wb {x lo hi : Int32} (h : ¬ sp_X_isWithin x lo hi = 0) : ¬ x < lo ∧ ¬ hi < x := by
  unfold sp_X_isWithin at h
  by_cases h1 : x < lo
  · rw [if_pos h1] at h
    exact absurd rfl h
  · by_cases h2 : hi < x
    · rw [if_neg h1, if_pos h2] at h
      exact absurd rfl h
    · exact ⟨h1, h2⟩
theorem vin_w {x hi : Int32} {N : Nat} (hN : N < 2 ^ 31) (hh : hi < nI N) (h : ¬ sp_X_isWithin x 0 hi = 0) : vp_in x N :=
  vin_lt hN (wb h).1 (fun q => (wb h).2 (Int32.lt_of_lt_of_le hh q))

def sp_X_isLetter (b : Int32) : Int32 := if b < 97 then 0 else if 122 < b then 0 else 1
set_option maxHeartbeats 4000000 in
set_option maxRecDepth 100000 in
theorem c_X_isLetter (l : Launch) (dC : Nat → ClassId) (dI : Nat → Nat → Nat) (b : Int32) : Met l yX5_isLetter wsX5_isLetter ({ frames := 0, cells := 0, slots := 0, locals := 0 }) (va_Pc [.int b] (PS dC dI [] [])) (vp_Si (fun r => r = sp_X_isLetter b)) 0 0 (fun _ => False) := by
  refine Met.ofW (cc := cX5_isLetter) (maxL := 1) (ret := (some .boolean)) (by decide) rfl ?_
  intro p e s m args below meth c s₁ B hml hv
  obtain ⟨rfl, hP, hK, hF⟩ := hv
  have hx := B.exec
  have hb := B.bytes
  have hr := B.returns
  have hts := atoms_spec (ws := wsX5_isLetter) B.pre
  have hown : s.vm.findClass RX5 = some m.cls := findClass_of_methodNamed B.named
  have hlocks := B.notSynchronized
  have hl := lv_entry ([.int b]) (n := 1) (Nat.le_of_ble_eq_true rfl)
  rw [lg_entry_eq]
  generalize (lg_sl ([.int b]) ++ List.replicate (1 - (lg_sl ([.int b])).length) Slot.unset).toArray = ls at hl ⊢
  have hl : lv_has ls 1 [(0, .int b)] := hl
  refine lv_iload_n hx hb dX5_isLetter_0 rfl (lv_at hl 0 rfl) ?_
  refine lv_bipush (v := 97) hx hb dX5_isLetter_1 (by decide) ?_
  refine lv_icmp_lt (tgt := 16) hx hb dX5_isLetter_3 (by decide) (fun c_1 => ?_) (fun c_1 => ?_)
  · skip
    refine lv_iconst (v := 0) hx hb dX5_isLetter_16 (by decide) ?_
    exact W.zret (v := 0) hx hb hr (by decide) (fun t ht hW => ⟨_, rfl, (by simp only [sp_X_isLetter, if_pos c_1]), ht⟩) (fun _ h9 => absurd h9 List.not_mem_nil) dX5_isLetter_17
  · skip
    refine lv_iload_n hx hb dX5_isLetter_6 rfl (lv_at hl 0 rfl) ?_
    refine lv_bipush (v := 122) hx hb dX5_isLetter_7 (by decide) ?_
    refine lv_icmp_gt (tgt := 16) hx hb dX5_isLetter_9 (by decide) (fun c_2 => ?_) (fun c_2 => ?_)
    · skip
      refine lv_iconst (v := 0) hx hb dX5_isLetter_16 (by decide) ?_
      exact W.zret (v := 0) hx hb hr (by decide) (fun t ht hW => ⟨_, rfl, (by simp only [sp_X_isLetter, if_neg c_1, if_pos c_2]), ht⟩) (fun _ h9 => absurd h9 List.not_mem_nil) dX5_isLetter_17
    · skip
      refine lv_iconst (v := 1) hx hb dX5_isLetter_12 (by decide) ?_
      refine lv_goto (tgt := 17) hx hb dX5_isLetter_13 (by decide) ?_
      exact W.zret (v := 1) hx hb hr (by decide) (fun t ht hW => ⟨_, rfl, (by simp only [sp_X_isLetter, if_neg c_1, if_neg c_2]), ht⟩) (fun _ h9 => absurd h9 List.not_mem_nil) dX5_isLetter_17

set_option maxHeartbeats 4000000 in
set_option maxRecDepth 100000 in
theorem c_X_find (l : Launch) (dC : Nat → ClassId) (dI : Nat → Nat → Nat) (x : Nat) (cd : Nat) (rd : Nat) (tp : Nat) (fo : Nat) (qu : Nat) (sh : Nat) (vs : Nat) (pa : Nat) (pb : Nat) (c0 : Int32) : Met l yX5_find wsX5_find ({ frames := 0, cells := 0, slots := 0, locals := 0 }) (va_Pc [.ref x, .int c0] (PS dC dI [(x, .inr (10, [.ref cd, .int 0, .ref rd, .int 0, .ref tp, .ref fo, .int 10, .ref qu, .int 0, .int 0, .ref sh, .ref vs, .ref pa, .ref pb]))] [])) (va_Sq (fun r => r = none)) 0 0 (fun _ => False) := by
  refine Met.ofW (cc := cX5_find) (maxL := 2) (ret := (some (.object "ExamHalls$Candidate"))) (by decide) rfl ?_
  intro p e s m args below meth c s₁ B hml hv
  obtain ⟨rfl, hP, hK, hF⟩ := hv
  have hx := B.exec
  have hb := B.bytes
  have hr := B.returns
  have hts := atoms_spec (ws := wsX5_find) B.pre
  have hown : s.vm.findClass RX5 = some m.cls := findClass_of_methodNamed B.named
  have hlocks := B.notSynchronized
  have hl := lv_entry ([.ref x, .int c0]) (n := 2) (Nat.le_of_ble_eq_true rfl)
  rw [lg_entry_eq]
  generalize (lg_sl ([.ref x, .int c0]) ++ List.replicate (2 - (lg_sl ([.ref x, .int c0])).length) Slot.unset).toArray = ls at hl ⊢
  have hl : lv_has ls 2 [(0, .ref x), (1, .int c0)] := hl
  refine lv_iload_n hx hb dX5_find_0 rfl (lv_at hl 1 rfl) ?_
  refine lv_if_lt (tgt := 21) hx hb dX5_find_1 (by decide) (fun c_1 => ?_) (fun c_1 => ?_)
  · skip
    refine lv_null hx hb dX5_find_21 ?_
    exact W.aret (v := .null) hx hb hr (Or.inl ⟨_, rfl⟩) (Or.inl rfl) (fun t ht hW => ⟨none, rfl, rfl, ht⟩) (fun _ h9 => absurd h9 List.not_mem_nil) dX5_find_22
  · skip
    refine lv_iload_n hx hb dX5_find_4 rfl (lv_at hl 1 rfl) ?_
    refine lv_aload_n hx hb dX5_find_5 rfl (lv_at hl 0 rfl) ?_
    refine va_get (D := (dC, dI)) (ci := 10) (v := .int 0) (C := RX5) (T := TX5) (N := 14) hx hb hts (fun _ h9 => List.mem_cons_of_mem _ (List.mem_append_right _ (h9))) hown hK hP 0 rfl rfl 1 (by decide) (hts (.fieldLink RX5 15 "ExamHalls" "candidateCount" "I") (List.mem_of_getElem? (i := 1) rfl)) (fun _ h9 => h9) rfl dX5_find_6 ?_
    refine lv_icmp_ge (tgt := 21) hx hb dX5_find_9 (by decide) (fun _ => ?_) (fun c_2 => absurd (Int32.not_lt.mp c_1) c_2)
    refine lv_null hx hb dX5_find_21 ?_
    exact W.aret (v := .null) hx hb hr (Or.inl ⟨_, rfl⟩) (Or.inl rfl) (fun t ht hW => ⟨none, rfl, rfl, ht⟩) (fun _ h9 => absurd h9 List.not_mem_nil) dX5_find_22

set_option maxHeartbeats 4000000 in
set_option maxRecDepth 100000 in
theorem c_X_findReader (l : Launch) (dC : Nat → ClassId) (dI : Nat → Nat → Nat) (x : Nat) (cd : Nat) (rd : Nat) (tp : Nat) (fo : Nat) (qu : Nat) (sh : Nat) (vs : Nat) (pa : Nat) (pb : Nat) (c0 : Int32) : Met l yX5_findReader wsX5_findReader ({ frames := 0, cells := 0, slots := 0, locals := 0 }) (va_Pc [.ref x, .int c0] (PS dC dI [(x, .inr (10, [.ref cd, .int 0, .ref rd, .int 0, .ref tp, .ref fo, .int 10, .ref qu, .int 0, .int 0, .ref sh, .ref vs, .ref pa, .ref pb]))] [])) (va_Sq (fun r => r = none)) 0 0 (fun _ => False) := by
  refine Met.ofW (cc := cX5_findReader) (maxL := 2) (ret := (some (.object "ExamHalls$Reader"))) (by decide) rfl ?_
  intro p e s m args below meth c s₁ B hml hv
  obtain ⟨rfl, hP, hK, hF⟩ := hv
  have hx := B.exec
  have hb := B.bytes
  have hr := B.returns
  have hts := atoms_spec (ws := wsX5_findReader) B.pre
  have hown : s.vm.findClass RX5 = some m.cls := findClass_of_methodNamed B.named
  have hlocks := B.notSynchronized
  have hl := lv_entry ([.ref x, .int c0]) (n := 2) (Nat.le_of_ble_eq_true rfl)
  rw [lg_entry_eq]
  generalize (lg_sl ([.ref x, .int c0]) ++ List.replicate (2 - (lg_sl ([.ref x, .int c0])).length) Slot.unset).toArray = ls at hl ⊢
  have hl : lv_has ls 2 [(0, .ref x), (1, .int c0)] := hl
  refine lv_iload_n hx hb dX5_findReader_0 rfl (lv_at hl 1 rfl) ?_
  refine lv_if_lt (tgt := 21) hx hb dX5_findReader_1 (by decide) (fun c_1 => ?_) (fun c_1 => ?_)
  · skip
    refine lv_null hx hb dX5_findReader_21 ?_
    exact W.aret (v := .null) hx hb hr (Or.inl ⟨_, rfl⟩) (Or.inl rfl) (fun t ht hW => ⟨none, rfl, rfl, ht⟩) (fun _ h9 => absurd h9 List.not_mem_nil) dX5_findReader_22
  · skip
    refine lv_iload_n hx hb dX5_findReader_4 rfl (lv_at hl 1 rfl) ?_
    refine lv_aload_n hx hb dX5_findReader_5 rfl (lv_at hl 0 rfl) ?_
    refine va_get (D := (dC, dI)) (ci := 10) (v := .int 0) (C := RX5) (T := TX5) (N := 14) hx hb hts (fun _ h9 => List.mem_cons_of_mem _ (List.mem_append_right _ (h9))) hown hK hP 0 rfl rfl 3 (by decide) (hts (.fieldLink RX5 25 "ExamHalls" "readerCount" "I") (List.mem_of_getElem? (i := 1) rfl)) (fun _ h9 => h9) rfl dX5_findReader_6 ?_
    refine lv_icmp_ge (tgt := 21) hx hb dX5_findReader_9 (by decide) (fun _ => ?_) (fun c_2 => absurd (Int32.not_lt.mp c_1) c_2)
    refine lv_null hx hb dX5_findReader_21 ?_
    exact W.aret (v := .null) hx hb hr (Or.inl ⟨_, rfl⟩) (Or.inl rfl) (fun t ht hW => ⟨none, rfl, rfl, ht⟩) (fun _ h9 => absurd h9 List.not_mem_nil) dX5_findReader_22

set_option maxHeartbeats 4000000 in
set_option maxRecDepth 100000 in
theorem c_X_textOf (l : Launch) (dC : Nat → ClassId) (dI : Nat → Nat → Nat) (x : Nat) (cd : Nat) (rd : Nat) (tp : Nat) (fo : Nat) (qu : Nat) (sh : Nat) (vs : Nat) (pa : Nat) (pb : Nat) (c0 : Int32) : Met l yX5_textOf wsX5_textOf ({ frames := 1, cells := 0, slots := 0, locals := 21 }) (va_Pc [.ref x, .int c0] (PS dC dI [(x, .inr (10, [.ref cd, .int 0, .ref rd, .int 0, .ref tp, .ref fo, .int 10, .ref qu, .int 0, .int 0, .ref sh, .ref vs, .ref pa, .ref pb]))] [])) (va_Sq (fun r => r = none)) 0 0 (fun _ => False) := by
  refine Met.ofW (cc := cX5_textOf) (maxL := 3) (ret := (some (.object "ExamHalls$Essay"))) (by decide) rfl ?_
  intro p e s m args below meth c s₁ B hml hv
  obtain ⟨rfl, hP, hK, hF⟩ := hv
  have hx := B.exec
  have hb := B.bytes
  have hr := B.returns
  have hts := atoms_spec (ws := wsX5_textOf) B.pre
  have hown : s.vm.findClass RX5 = some m.cls := findClass_of_methodNamed B.named
  have hlocks := B.notSynchronized
  have hl := lv_entry ([.ref x, .int c0]) (n := 3) (Nat.le_of_ble_eq_true rfl)
  rw [lg_entry_eq]
  generalize (lg_sl ([.ref x, .int c0]) ++ List.replicate (3 - (lg_sl ([.ref x, .int c0])).length) Slot.unset).toArray = ls at hl ⊢
  have hl : lv_has ls 3 [(0, .ref x), (1, .int c0)] := hl
  refine lv_aload_n hx hb dX5_textOf_0 rfl (lv_at hl 0 rfl) ?_
  refine lv_iload_n hx hb dX5_textOf_1 rfl (lv_at hl 1 rfl) ?_
  refine va_csq (va_Run.run (va_runV (As := [.int c0]) (rest := []) ⟨hx, hb, hml, hown, hts⟩ (c_X_find l dC dI x cd rd tp fo qu sh vs pa pb c0) (cwV 1 hts gX5_textOf_X5_find rfl rfl rfl (by decide +kernel) ⟨Nat.le_of_ble_eq_true rfl, Nat.le_of_ble_eq_true rfl⟩) ⟨PS_blind, va_recv hK hP (ci := 10) (q0 := 0) rfl rfl, PS_pre hP hK hF⟩ rfl rfl hl.1 rfl (lv_room (Nat.le_of_ble_eq_true rfl)) dX5_textOf_2 ⟨Nat.le_of_ble_eq_true rfl, Nat.le_of_ble_eq_true rfl⟩)) (fun r_1 hr_1 => ?_)
  subst hr_1
  refine W.eq (g2 := F0 m 5 ls [.null]) rfl ?_
  refine lv_astore_nN (lv' := [(2, .null), (0, .ref x), (1, .int c0)]) hx hb dX5_textOf_5 rfl hl (by decide) rfl (fun ls hl => ?_)
  refine lv_aload_nN hx hb dX5_textOf_6 rfl (lv_at hl 0 rfl) ?_
  refine lv_ifnonnullN hx hb dX5_textOf_7 ?_
  refine lv_null hx hb dX5_textOf_10 ?_
  refine lv_goto (tgt := 18) hx hb dX5_textOf_11 (by decide) ?_
  exact W.aret (v := .null) hx hb hr (Or.inl ⟨_, rfl⟩) (Or.inl rfl) (fun t ht hW => ⟨none, rfl, rfl, ht⟩) (fun _ h9 => absurd h9 List.not_mem_nil) dX5_textOf_18

set_option maxHeartbeats 4000000 in
set_option maxRecDepth 100000 in
theorem c_X_bearerOf (l : Launch) (dC : Nat → ClassId) (dI : Nat → Nat → Nat) (x : Nat) (cd : Nat) (rd : Nat) (tp : Nat) (fo : Nat) (qu : Nat) (sh : Nat) (vs : Nat) (pa : Nat) (pb : Nat) (c0 : Int32) : Met l yX5_bearerOf wsX5_bearerOf ({ frames := 0, cells := 0, slots := 0, locals := 0 }) (va_Pc [.ref x, .int c0] (PS dC dI [(x, .inr (10, [.ref cd, .int 0, .ref rd, .int 0, .ref tp, .ref fo, .int 10, .ref qu, .int 0, .int 0, .ref sh, .ref vs, .ref pa, .ref pb]))] [])) (vp_Si (fun r => r = (-1))) 0 0 (fun _ => False) := by
  refine Met.ofW (cc := cX5_bearerOf) (maxL := 4) (ret := (some .int)) (by decide) rfl ?_
  intro p e s m args below meth c s₁ B hml hv
  obtain ⟨rfl, hP, hK, hF⟩ := hv
  have hx := B.exec
  have hb := B.bytes
  have hr := B.returns
  have hts := atoms_spec (ws := wsX5_bearerOf) B.pre
  have hown : s.vm.findClass RX5 = some m.cls := findClass_of_methodNamed B.named
  have hlocks := B.notSynchronized
  have hl := lv_entry ([.ref x, .int c0]) (n := 4) (Nat.le_of_ble_eq_true rfl)
  rw [lg_entry_eq]
  generalize (lg_sl ([.ref x, .int c0]) ++ List.replicate (4 - (lg_sl ([.ref x, .int c0])).length) Slot.unset).toArray = ls at hl ⊢
  have hl : lv_has ls 4 [(0, .ref x), (1, .int c0)] := hl
  refine lv_iconst (v := 0) hx hb dX5_bearerOf_0 (by decide) ?_
  refine lv_istore_n (lv' := [(2, .int 0), (0, .ref x), (1, .int c0)]) hx hb dX5_bearerOf_1 rfl hl (by decide) rfl (fun ls hl => ?_)
  refine lv_iload_n hx hb dX5_bearerOf_2 rfl (lv_at hl 0 rfl) ?_
  refine lv_aload_n hx hb dX5_bearerOf_3 rfl (lv_at hl 1 rfl) ?_
  refine va_get (D := (dC, dI)) (ci := 10) (v := .int 0) (C := RX5) (T := TX5) (N := 14) hx hb hts (fun _ h9 => List.mem_cons_of_mem _ (List.mem_append_left _ (List.mem_append_right _ (h9)))) hown hK hP 0 rfl rfl 1 (by decide) (hts (.fieldLink RX5 15 "ExamHalls" "candidateCount" "I") (List.mem_of_getElem? (i := 1) rfl)) (fun _ h9 => h9) rfl dX5_bearerOf_4 ?_
  refine lv_icmp_ge (tgt := 36) hx hb dX5_bearerOf_7 (by decide) (fun _ => ?_) (fun c_1 => absurd (by decide) c_1)
  refine lv_iconst (v := (-1)) hx hb dX5_bearerOf_36 (by decide) ?_
  exact W.iret (v := (-1)) hx hb hr (fun t ht hW => ⟨_, rfl, rfl, ht⟩) (fun _ h9 => absurd h9 List.not_mem_nil) dX5_bearerOf_37

set_option maxHeartbeats 4000000 in
set_option maxRecDepth 100000 in
theorem c_X_openedBy (l : Launch) (dC : Nat → ClassId) (dI : Nat → Nat → Nat) (x : Nat) (cd : Nat) (rd : Nat) (tp : Nat) (fo : Nat) (qu : Nat) (sh : Nat) (vs : Nat) (pa : Nat) (pb : Nat) (c0 : Int32) : Met l yX5_openedBy wsX5_openedBy ({ frames := 0, cells := 0, slots := 0, locals := 0 }) (va_Pc [.ref x, .int c0] (PS dC dI [(x, .inr (10, [.ref cd, .int 0, .ref rd, .int 0, .ref tp, .ref fo, .int 10, .ref qu, .int 0, .int 0, .ref sh, .ref vs, .ref pa, .ref pb]))] [])) (vp_Si (fun r => r = 0)) 0 0 (fun _ => False) := by
  refine Met.ofW (cc := cX5_openedBy) (maxL := 5) (ret := (some .int)) (by decide) rfl ?_
  intro p e s m args below meth c s₁ B hml hv
  obtain ⟨rfl, hP, hK, hF⟩ := hv
  have hx := B.exec
  have hb := B.bytes
  have hr := B.returns
  have hts := atoms_spec (ws := wsX5_openedBy) B.pre
  have hown : s.vm.findClass RX5 = some m.cls := findClass_of_methodNamed B.named
  have hlocks := B.notSynchronized
  have hl := lv_entry ([.ref x, .int c0]) (n := 5) (Nat.le_of_ble_eq_true rfl)
  rw [lg_entry_eq]
  generalize (lg_sl ([.ref x, .int c0]) ++ List.replicate (5 - (lg_sl ([.ref x, .int c0])).length) Slot.unset).toArray = ls at hl ⊢
  have hl : lv_has ls 5 [(0, .ref x), (1, .int c0)] := hl
  refine lv_iconst (v := 0) hx hb dX5_openedBy_0 (by decide) ?_
  refine lv_istore_n (lv' := [(2, .int 0), (0, .ref x), (1, .int c0)]) hx hb dX5_openedBy_1 rfl hl (by decide) rfl (fun ls hl => ?_)
  refine lv_iconst (v := 0) hx hb dX5_openedBy_2 (by decide) ?_
  refine lv_istore_n (lv' := [(3, .int 0), (2, .int 0), (0, .ref x), (1, .int c0)]) hx hb dX5_openedBy_3 rfl hl (by decide) rfl (fun ls hl => ?_)
  refine lv_iload_n hx hb dX5_openedBy_4 rfl (lv_at hl 0 rfl) ?_
  refine lv_aload_n hx hb dX5_openedBy_5 rfl (lv_at hl 2 rfl) ?_
  refine va_get (D := (dC, dI)) (ci := 10) (v := .int 0) (C := RX5) (T := TX5) (N := 14) hx hb hts (fun _ h9 => List.mem_cons_of_mem _ (List.mem_append_left _ (List.mem_append_right _ (h9)))) hown hK hP 0 rfl rfl 1 (by decide) (hts (.fieldLink RX5 15 "ExamHalls" "candidateCount" "I") (List.mem_of_getElem? (i := 1) rfl)) (fun _ h9 => h9) rfl dX5_openedBy_6 ?_
  refine lv_icmp_ge (tgt := 42) hx hb dX5_openedBy_9 (by decide) (fun _ => ?_) (fun c_1 => absurd (by decide) c_1)
  refine lv_iload_n hx hb dX5_openedBy_42 rfl (lv_at hl 1 rfl) ?_
  exact W.iret (v := 0) hx hb hr (fun t ht hW => ⟨_, rfl, rfl, ht⟩) (fun _ h9 => absurd h9 List.not_mem_nil) dX5_openedBy_43

def sp_X_opens (c1 : Int32) : Int32 := if (sp_X_isWithin c1 0 255) = 0 then (-2) else 0
set_option maxHeartbeats 4000000 in
set_option maxRecDepth 100000 in
theorem c_X_opens (l : Launch) (dC : Nat → ClassId) (dI : Nat → Nat → Nat) (x : Nat) (cd : Nat) (rd : Nat) (tp : Nat) (fo : Nat) (qu : Nat) (sh : Nat) (vs : Nat) (pa : Nat) (pb : Nat) (c1 : Int32) : Met l yX5_opens wsX5_opens ({ frames := 1, cells := 0, slots := 0, locals := 24 }) (va_Pc [.ref x, .int c1] (PS dC dI [(x, .inr (10, [.ref cd, .int 0, .ref rd, .int 0, .ref tp, .ref fo, .int 10, .ref qu, .int 0, .int 0, .ref sh, .ref vs, .ref pa, .ref pb]))] [])) (vp_Si (fun r => r = sp_X_opens c1)) 0 0 (fun _ => False) := by
  refine Met.ofW (cc := cX5_opens) (maxL := 2) (ret := (some .int)) (by decide) rfl ?_
  intro p e s m args below meth c s₁ B hml hv
  obtain ⟨rfl, hP, hK, hF⟩ := hv
  have hx := B.exec
  have hb := B.bytes
  have hr := B.returns
  have hts := atoms_spec (ws := wsX5_opens) B.pre
  have hown : s.vm.findClass RX5 = some m.cls := findClass_of_methodNamed B.named
  have hlocks := B.notSynchronized
  have hl := lv_entry ([.ref x, .int c1]) (n := 2) (Nat.le_of_ble_eq_true rfl)
  rw [lg_entry_eq]
  generalize (lg_sl ([.ref x, .int c1]) ++ List.replicate (2 - (lg_sl ([.ref x, .int c1])).length) Slot.unset).toArray = ls at hl ⊢
  have hl : lv_has ls 2 [(0, .ref x), (1, .int c1)] := hl
  refine lv_iload_n hx hb dX5_opens_0 rfl (lv_at hl 1 rfl) ?_
  refine lv_iconst (v := 0) hx hb dX5_opens_1 (by decide) ?_
  refine lv_sipush (v := 255) hx hb dX5_opens_2 (by decide) ?_
  refine vp_callSi (va_Run.run (va_runS (As := [.int c1, .int 0, .int 255]) (rest := []) ⟨hx, hb, hml, hown, hts⟩ (c_X_isWithin l dC dI c1 0 255) (va_cwS 3 hts gX5_opens_X5_isWithin rfl rfl rfl (by decide +kernel) ⟨Nat.le_of_ble_eq_true rfl, Nat.le_of_ble_eq_true rfl⟩) ⟨PS_blind, PS_pre (hP.sub (ws' := []) [] rfl) hK hF⟩ rfl rfl hl.1 rfl (lv_room (Nat.le_of_ble_eq_true rfl)) dX5_opens_5 ⟨Nat.le_of_ble_eq_true rfl, Nat.le_of_ble_eq_true rfl⟩)) (fun r_1 hr_1 => ?_)
  subst hr_1
  refine lv_if_ne (tgt := 14) hx hb dX5_opens_8 (by decide) (fun c_2 => ?_) (fun c_2 => ?_)
  · skip
    refine lv_aload_n hx hb dX5_opens_14 rfl (lv_at hl 0 rfl) ?_
    refine lv_iload_n hx hb dX5_opens_15 rfl (lv_at hl 1 rfl) ?_
    refine vp_callSi (va_Run.run (va_runV (As := [.int c1]) (rest := []) ⟨hx, hb, hml, hown, hts⟩ (c_X_openedBy l dC dI x cd rd tp fo qu sh vs pa pb c1) (cwV 1 hts gX5_opens_X5_openedBy rfl rfl rfl (by decide +kernel) ⟨Nat.le_of_ble_eq_true rfl, Nat.le_of_ble_eq_true rfl⟩) ⟨PS_blind, va_recv hK hP (ci := 10) (q0 := 0) rfl rfl, PS_pre hP hK hF⟩ rfl rfl hl.1 rfl (lv_room (Nat.le_of_ble_eq_true rfl)) dX5_opens_16 ⟨Nat.le_of_ble_eq_true rfl, Nat.le_of_ble_eq_true rfl⟩)) (fun r_3 hr_3 => ?_)
    subst hr_3
    exact W.iret (v := 0) hx hb hr (fun t ht hW => ⟨_, rfl, (by simp only [sp_X_opens, if_neg c_2]), ht⟩) (fun _ h9 => absurd h9 List.not_mem_nil) dX5_opens_19
  · skip
    refine lv_bipush (v := (-2)) hx hb dX5_opens_11 (by decide) ?_
    exact W.iret (v := (-2)) hx hb hr (fun t ht hW => ⟨_, rfl, (by simp only [sp_X_opens, if_pos c_2]), ht⟩) (fun _ h9 => absurd h9 List.not_mem_nil) dX5_opens_13

set_option maxHeartbeats 4000000 in
set_option maxRecDepth 100000 in
theorem c_X_essay (l : Launch) (dC : Nat → ClassId) (dI : Nat → Nat → Nat) (x : Nat) (cd : Nat) (rd : Nat) (tp : Nat) (fo : Nat) (qu : Nat) (sh : Nat) (vs : Nat) (pa : Nat) (pb : Nat) (c1 : Int32) : Met l yX5_essay wsX5_essay ({ frames := 1, cells := 0, slots := 0, locals := 21 }) (va_Pc [.ref x, .int c1] (PS dC dI [(x, .inr (10, [.ref cd, .int 0, .ref rd, .int 0, .ref tp, .ref fo, .int 10, .ref qu, .int 0, .int 0, .ref sh, .ref vs, .ref pa, .ref pb]))] [])) (vp_Si (fun r => r = (-1))) 0 0 (fun _ => False) := by
  refine Met.ofW (cc := cX5_essay) (maxL := 5) (ret := (some .int)) (by decide) rfl ?_
  intro p e s m args below meth c s₁ B hml hv
  obtain ⟨rfl, hP, hK, hF⟩ := hv
  have hx := B.exec
  have hb := B.bytes
  have hr := B.returns
  have hts := atoms_spec (ws := wsX5_essay) B.pre
  have hown : s.vm.findClass RX5 = some m.cls := findClass_of_methodNamed B.named
  have hlocks := B.notSynchronized
  have hl := lv_entry ([.ref x, .int c1]) (n := 5) (Nat.le_of_ble_eq_true rfl)
  rw [lg_entry_eq]
  generalize (lg_sl ([.ref x, .int c1]) ++ List.replicate (5 - (lg_sl ([.ref x, .int c1])).length) Slot.unset).toArray = ls at hl ⊢
  have hl : lv_has ls 5 [(0, .ref x), (1, .int c1)] := hl
  refine lv_aload_n hx hb dX5_essay_0 rfl (lv_at hl 0 rfl) ?_
  refine lv_iload_n hx hb dX5_essay_1 rfl (lv_at hl 1 rfl) ?_
  refine va_csq (va_Run.run (va_runV (As := [.int c1]) (rest := []) ⟨hx, hb, hml, hown, hts⟩ (c_X_find l dC dI x cd rd tp fo qu sh vs pa pb c1) (cwV 1 hts gX5_essay_X5_find rfl rfl rfl (by decide +kernel) ⟨Nat.le_of_ble_eq_true rfl, Nat.le_of_ble_eq_true rfl⟩) ⟨PS_blind, va_recv hK hP (ci := 10) (q0 := 0) rfl rfl, PS_pre hP hK hF⟩ rfl rfl hl.1 rfl (lv_room (Nat.le_of_ble_eq_true rfl)) dX5_essay_2 ⟨Nat.le_of_ble_eq_true rfl, Nat.le_of_ble_eq_true rfl⟩)) (fun r_1 hr_1 => ?_)
  subst hr_1
  refine W.eq (g2 := F0 m 5 ls [.null]) rfl ?_
  refine lv_astore_nN (lv' := [(2, .null), (0, .ref x), (1, .int c1)]) hx hb dX5_essay_5 rfl hl (by decide) rfl (fun ls hl => ?_)
  refine lv_aload_nN hx hb dX5_essay_6 rfl (lv_at hl 0 rfl) ?_
  refine lv_ifnonnullN hx hb dX5_essay_7 ?_
  refine lv_iconst (v := (-1)) hx hb dX5_essay_10 (by decide) ?_
  exact W.iret (v := (-1)) hx hb hr (fun t ht hW => ⟨_, rfl, rfl, ht⟩) (fun _ h9 => absurd h9 List.not_mem_nil) dX5_essay_11

set_option maxHeartbeats 4000000 in
set_option maxRecDepth 100000 in
theorem c_X_legs (l : Launch) (dC : Nat → ClassId) (dI : Nat → Nat → Nat) (x : Nat) (cd : Nat) (rd : Nat) (tp : Nat) (fo : Nat) (qu : Nat) (sh : Nat) (vs : Nat) (pa : Nat) (pb : Nat) (c1 : Int32) (c2 : Int32) : Met l yX5_legs wsX5_legs ({ frames := 2, cells := 0, slots := 0, locals := 43 }) (va_Pc [.ref x, .int c1, .int c2] (PS dC dI [(x, .inr (10, [.ref cd, .int 0, .ref rd, .int 0, .ref tp, .ref fo, .int 10, .ref qu, .int 0, .int 0, .ref sh, .ref vs, .ref pa, .ref pb]))] [])) (vp_Si (fun r => r = (-1))) 0 0 (fun _ => False) := by
  refine Met.ofW (cc := cX5_legs) (maxL := 4) (ret := (some .int)) (by decide) rfl ?_
  intro p e s m args below meth c s₁ B hml hv
  obtain ⟨rfl, hP, hK, hF⟩ := hv
  have hx := B.exec
  have hb := B.bytes
  have hr := B.returns
  have hts := atoms_spec (ws := wsX5_legs) B.pre
  have hown : s.vm.findClass RX5 = some m.cls := findClass_of_methodNamed B.named
  have hlocks := B.notSynchronized
  have hl := lv_entry ([.ref x, .int c1, .int c2]) (n := 4) (Nat.le_of_ble_eq_true rfl)
  rw [lg_entry_eq]
  generalize (lg_sl ([.ref x, .int c1, .int c2]) ++ List.replicate (4 - (lg_sl ([.ref x, .int c1, .int c2])).length) Slot.unset).toArray = ls at hl ⊢
  have hl : lv_has ls 4 [(0, .ref x), (1, .int c1), (2, .int c2)] := hl
  refine lv_aload_n hx hb dX5_legs_0 rfl (lv_at hl 0 rfl) ?_
  refine lv_iload_n hx hb dX5_legs_1 rfl (lv_at hl 1 rfl) ?_
  refine va_csq (va_Run.run (va_runV (As := [.int c1]) (rest := []) ⟨hx, hb, hml, hown, hts⟩ (c_X_textOf l dC dI x cd rd tp fo qu sh vs pa pb c1) (cwV 1 hts gX5_legs_X5_textOf rfl rfl rfl (by decide +kernel) ⟨Nat.le_of_ble_eq_true rfl, Nat.le_of_ble_eq_true rfl⟩) ⟨PS_blind, va_recv hK hP (ci := 10) (q0 := 0) rfl rfl, PS_pre hP hK hF⟩ rfl rfl hl.1 rfl (lv_room (Nat.le_of_ble_eq_true rfl)) dX5_legs_2 ⟨Nat.le_of_ble_eq_true rfl, Nat.le_of_ble_eq_true rfl⟩)) (fun r_1 hr_1 => ?_)
  subst hr_1
  refine W.eq (g2 := F0 m 5 ls [.null]) rfl ?_
  refine lv_astore_nN (lv' := [(3, .null), (0, .ref x), (1, .int c1), (2, .int c2)]) hx hb dX5_legs_5 rfl hl (by decide) rfl (fun ls hl => ?_)
  refine lv_aload_nN hx hb dX5_legs_6 rfl (lv_at hl 0 rfl) ?_
  refine lv_ifnullN (tgt := 14) hx hb dX5_legs_7 (by decide) ?_
  refine lv_iconst (v := (-1)) hx hb dX5_legs_14 (by decide) ?_
  exact W.iret (v := (-1)) hx hb hr (fun t ht hW => ⟨_, rfl, rfl, ht⟩) (fun _ h9 => absurd h9 List.not_mem_nil) dX5_legs_15

set_option maxHeartbeats 4000000 in
set_option maxRecDepth 100000 in
theorem c_X_word (l : Launch) (dC : Nat → ClassId) (dI : Nat → Nat → Nat) (x : Nat) (cd : Nat) (rd : Nat) (tp : Nat) (fo : Nat) (qu : Nat) (sh : Nat) (vs : Nat) (pa : Nat) (pb : Nat) (c1 : Int32) (c2 : Int32) (c3 : Int32) : Met l yX5_word wsX5_word ({ frames := 2, cells := 0, slots := 0, locals := 43 }) (va_Pc [.ref x, .int c1, .int c2, .int c3] (PS dC dI [(x, .inr (10, [.ref cd, .int 0, .ref rd, .int 0, .ref tp, .ref fo, .int 10, .ref qu, .int 0, .int 0, .ref sh, .ref vs, .ref pa, .ref pb]))] [])) (vp_Sl (fun r => r = 0)) 0 0 (fun _ => False) := by
  refine Met.ofW (cc := cX5_word) (maxL := 5) (ret := (some .long)) (by decide) rfl ?_
  intro p e s m args below meth c s₁ B hml hv
  obtain ⟨rfl, hP, hK, hF⟩ := hv
  have hx := B.exec
  have hb := B.bytes
  have hr := B.returns
  have hts := atoms_spec (ws := wsX5_word) B.pre
  have hown : s.vm.findClass RX5 = some m.cls := findClass_of_methodNamed B.named
  have hlocks := B.notSynchronized
  have hl := lv_entry ([.ref x, .int c1, .int c2, .int c3]) (n := 5) (Nat.le_of_ble_eq_true rfl)
  rw [lg_entry_eq]
  generalize (lg_sl ([.ref x, .int c1, .int c2, .int c3]) ++ List.replicate (5 - (lg_sl ([.ref x, .int c1, .int c2, .int c3])).length) Slot.unset).toArray = ls at hl ⊢
  have hl : lv_has ls 5 [(0, .ref x), (1, .int c1), (2, .int c2), (3, .int c3)] := hl
  refine lv_aload_n hx hb dX5_word_0 rfl (lv_at hl 0 rfl) ?_
  refine lv_iload_n hx hb dX5_word_1 rfl (lv_at hl 1 rfl) ?_
  refine va_csq (va_Run.run (va_runV (As := [.int c1]) (rest := []) ⟨hx, hb, hml, hown, hts⟩ (c_X_textOf l dC dI x cd rd tp fo qu sh vs pa pb c1) (cwV 1 hts gX5_word_X5_textOf rfl rfl rfl (by decide +kernel) ⟨Nat.le_of_ble_eq_true rfl, Nat.le_of_ble_eq_true rfl⟩) ⟨PS_blind, va_recv hK hP (ci := 10) (q0 := 0) rfl rfl, PS_pre hP hK hF⟩ rfl rfl hl.1 rfl (lv_room (Nat.le_of_ble_eq_true rfl)) dX5_word_2 ⟨Nat.le_of_ble_eq_true rfl, Nat.le_of_ble_eq_true rfl⟩)) (fun r_1 hr_1 => ?_)
  subst hr_1
  refine W.eq (g2 := F0 m 5 ls [.null]) rfl ?_
  refine lv_astoreN (lv' := [(4, .null), (0, .ref x), (1, .int c1), (2, .int c2), (3, .int c3)]) hx hb dX5_word_5 hl (by decide) rfl (fun ls hl => ?_)
  refine lv_aloadN hx hb dX5_word_7 (lv_at hl 0 rfl) ?_
  refine lv_ifnonnullN hx hb dX5_word_9 ?_
  refine lv_lconst (v := 0) hx hb dX5_word_12 (by decide) ?_
  refine lv_goto (tgt := 23) hx hb dX5_word_13 (by decide) ?_
  exact W.lret (v := 0) hx hb hr (fun t ht hW => ⟨_, rfl, rfl, ht⟩) (fun _ h9 => absurd h9 List.not_mem_nil) dX5_word_23

set_option maxHeartbeats 4000000 in
set_option maxRecDepth 100000 in
theorem c_X_judge (l : Launch) (dC : Nat → ClassId) (dI : Nat → Nat → Nat) (x : Nat) (cd : Nat) (rd : Nat) (tp : Nat) (fo : Nat) (qu : Nat) (sh : Nat) (vs : Nat) (pa : Nat) (pb : Nat) (c1 : Int32) : Met l yX5_judge wsX5_judge ({ frames := 2, cells := 0, slots := 0, locals := 43 }) (va_Pc [.ref x, .int c1] (PS dC dI [(x, .inr (10, [.ref cd, .int 0, .ref rd, .int 0, .ref tp, .ref fo, .int 10, .ref qu, .int 0, .int 0, .ref sh, .ref vs, .ref pa, .ref pb]))] [])) (vp_Si (fun r => r = (-1))) 0 0 (fun _ => False) := by
  refine Met.ofW (cc := cX5_judge) (maxL := 3) (ret := (some .int)) (by decide) rfl ?_
  intro p e s m args below meth c s₁ B hml hv
  obtain ⟨rfl, hP, hK, hF⟩ := hv
  have hx := B.exec
  have hb := B.bytes
  have hr := B.returns
  have hts := atoms_spec (ws := wsX5_judge) B.pre
  have hown : s.vm.findClass RX5 = some m.cls := findClass_of_methodNamed B.named
  have hlocks := B.notSynchronized
  have hl := lv_entry ([.ref x, .int c1]) (n := 3) (Nat.le_of_ble_eq_true rfl)
  rw [lg_entry_eq]
  generalize (lg_sl ([.ref x, .int c1]) ++ List.replicate (3 - (lg_sl ([.ref x, .int c1])).length) Slot.unset).toArray = ls at hl ⊢
  have hl : lv_has ls 3 [(0, .ref x), (1, .int c1)] := hl
  refine lv_aload_n hx hb dX5_judge_0 rfl (lv_at hl 0 rfl) ?_
  refine lv_iload_n hx hb dX5_judge_1 rfl (lv_at hl 1 rfl) ?_
  refine va_csq (va_Run.run (va_runV (As := [.int c1]) (rest := []) ⟨hx, hb, hml, hown, hts⟩ (c_X_textOf l dC dI x cd rd tp fo qu sh vs pa pb c1) (cwV 1 hts gX5_judge_X5_textOf rfl rfl rfl (by decide +kernel) ⟨Nat.le_of_ble_eq_true rfl, Nat.le_of_ble_eq_true rfl⟩) ⟨PS_blind, va_recv hK hP (ci := 10) (q0 := 0) rfl rfl, PS_pre hP hK hF⟩ rfl rfl hl.1 rfl (lv_room (Nat.le_of_ble_eq_true rfl)) dX5_judge_2 ⟨Nat.le_of_ble_eq_true rfl, Nat.le_of_ble_eq_true rfl⟩)) (fun r_1 hr_1 => ?_)
  subst hr_1
  refine W.eq (g2 := F0 m 5 ls [.null]) rfl ?_
  refine lv_astore_nN (lv' := [(2, .null), (0, .ref x), (1, .int c1)]) hx hb dX5_judge_5 rfl hl (by decide) rfl (fun ls hl => ?_)
  refine lv_aload_nN hx hb dX5_judge_6 rfl (lv_at hl 0 rfl) ?_
  refine lv_ifnonnullN hx hb dX5_judge_7 ?_
  refine lv_iconst (v := (-1)) hx hb dX5_judge_10 (by decide) ?_
  refine lv_goto (tgt := 22) hx hb dX5_judge_11 (by decide) ?_
  exact W.iret (v := (-1)) hx hb hr (fun t ht hW => ⟨_, rfl, rfl, ht⟩) (fun _ h9 => absurd h9 List.not_mem_nil) dX5_judge_22

set_option maxHeartbeats 4000000 in
set_option maxRecDepth 100000 in
theorem c_X_like (l : Launch) (dC : Nat → ClassId) (dI : Nat → Nat → Nat) (x : Nat) (cd : Nat) (rd : Nat) (tp : Nat) (fo : Nat) (qu : Nat) (sh : Nat) (vs : Nat) (pa : Nat) (pb : Nat) (c1 : Int32) (c2 : Int32) : Met l yX5_like wsX5_like ({ frames := 2, cells := 0, slots := 0, locals := 43 }) (va_Pc [.ref x, .int c1, .int c2] (PS dC dI [(x, .inr (10, [.ref cd, .int 0, .ref rd, .int 0, .ref tp, .ref fo, .int 10, .ref qu, .int 0, .int 0, .ref sh, .ref vs, .ref pa, .ref pb]))] [])) (vp_Si (fun r => r = (-1))) 0 0 (fun _ => False) := by
  refine Met.ofW (cc := cX5_like) (maxL := 9) (ret := (some .int)) (by decide) rfl ?_
  intro p e s m args below meth c s₁ B hml hv
  obtain ⟨rfl, hP, hK, hF⟩ := hv
  have hx := B.exec
  have hb := B.bytes
  have hr := B.returns
  have hts := atoms_spec (ws := wsX5_like) B.pre
  have hown : s.vm.findClass RX5 = some m.cls := findClass_of_methodNamed B.named
  have hlocks := B.notSynchronized
  have hl := lv_entry ([.ref x, .int c1, .int c2]) (n := 9) (Nat.le_of_ble_eq_true rfl)
  rw [lg_entry_eq]
  generalize (lg_sl ([.ref x, .int c1, .int c2]) ++ List.replicate (9 - (lg_sl ([.ref x, .int c1, .int c2])).length) Slot.unset).toArray = ls at hl ⊢
  have hl : lv_has ls 9 [(0, .ref x), (1, .int c1), (2, .int c2)] := hl
  refine lv_aload_n hx hb dX5_like_0 rfl (lv_at hl 0 rfl) ?_
  refine lv_iload_n hx hb dX5_like_1 rfl (lv_at hl 1 rfl) ?_
  refine va_csq (va_Run.run (va_runV (As := [.int c1]) (rest := []) ⟨hx, hb, hml, hown, hts⟩ (c_X_textOf l dC dI x cd rd tp fo qu sh vs pa pb c1) (cwV 1 hts gX5_like_X5_textOf rfl rfl rfl (by decide +kernel) ⟨Nat.le_of_ble_eq_true rfl, Nat.le_of_ble_eq_true rfl⟩) ⟨PS_blind, va_recv hK hP (ci := 10) (q0 := 0) rfl rfl, PS_pre hP hK hF⟩ rfl rfl hl.1 rfl (lv_room (Nat.le_of_ble_eq_true rfl)) dX5_like_2 ⟨Nat.le_of_ble_eq_true rfl, Nat.le_of_ble_eq_true rfl⟩)) (fun r_1 hr_1 => ?_)
  subst hr_1
  refine W.eq (g2 := F0 m 5 ls [.null]) rfl ?_
  refine lv_astore_nN (lv' := [(3, .null), (0, .ref x), (1, .int c1), (2, .int c2)]) hx hb dX5_like_5 rfl hl (by decide) rfl (fun ls hl => ?_)
  refine lv_aload_n hx hb dX5_like_6 rfl (lv_at hl 1 rfl) ?_
  refine lv_iload_n hx hb dX5_like_7 rfl (lv_at hl 3 rfl) ?_
  refine va_csq (va_Run.run (va_runV (As := [.int c2]) (rest := []) ⟨hx, hb, hml, hown, hts⟩ (c_X_textOf l dC dI x cd rd tp fo qu sh vs pa pb c2) (cwV 1 hts gX5_like_X5_textOf rfl rfl rfl (by decide +kernel) ⟨Nat.le_of_ble_eq_true rfl, Nat.le_of_ble_eq_true rfl⟩) ⟨PS_blind, va_recv hK hP (ci := 10) (q0 := 0) rfl rfl, PS_pre hP hK hF⟩ rfl rfl hl.1 rfl (lv_room (Nat.le_of_ble_eq_true rfl)) dX5_like_8 ⟨Nat.le_of_ble_eq_true rfl, Nat.le_of_ble_eq_true rfl⟩)) (fun r_2 hr_2 => ?_)
  subst hr_2
  refine W.eq (g2 := F0 m 11 ls [.null]) rfl ?_
  refine lv_astoreN (lv' := [(4, .null), (3, .null), (0, .ref x), (1, .int c1), (2, .int c2)]) hx hb dX5_like_11 hl (by decide) rfl (fun ls hl => ?_)
  refine lv_aload_nN hx hb dX5_like_13 rfl (lv_at hl 1 rfl) ?_
  refine lv_ifnullN (tgt := 22) hx hb dX5_like_14 (by decide) ?_
  refine lv_iconst (v := (-1)) hx hb dX5_like_22 (by decide) ?_
  exact W.iret (v := (-1)) hx hb hr (fun t ht hW => ⟨_, rfl, rfl, ht⟩) (fun _ h9 => absurd h9 List.not_mem_nil) dX5_like_23

set_option maxHeartbeats 4000000 in
set_option maxRecDepth 100000 in
theorem c_X_number (l : Launch) (dC : Nat → ClassId) (dI : Nat → Nat → Nat) (x : Nat) (cd : Nat) (rd : Nat) (tp : Nat) (fo : Nat) (qu : Nat) (sh : Nat) (vs : Nat) (pa : Nat) (pb : Nat) (c1 : Int32) (c2 : Int32) : Met l yX5_number wsX5_number ({ frames := 1, cells := 0, slots := 0, locals := 21 }) (va_Pc [.ref x, .int c1, .int c2] (PS dC dI [(x, .inr (10, [.ref cd, .int 0, .ref rd, .int 0, .ref tp, .ref fo, .int 10, .ref qu, .int 0, .int 0, .ref sh, .ref vs, .ref pa, .ref pb]))] [])) (vp_Si (fun r => r = (-5))) 0 0 (fun _ => False) := by
  refine Met.ofW (cc := cX5_number) (maxL := 6) (ret := (some .int)) (by decide) rfl ?_
  intro p e s m args below meth c s₁ B hml hv
  obtain ⟨rfl, hP, hK, hF⟩ := hv
  have hx := B.exec
  have hb := B.bytes
  have hr := B.returns
  have hts := atoms_spec (ws := wsX5_number) B.pre
  have hown : s.vm.findClass RX5 = some m.cls := findClass_of_methodNamed B.named
  have hlocks := B.notSynchronized
  have hl := lv_entry ([.ref x, .int c1, .int c2]) (n := 6) (Nat.le_of_ble_eq_true rfl)
  rw [lg_entry_eq]
  generalize (lg_sl ([.ref x, .int c1, .int c2]) ++ List.replicate (6 - (lg_sl ([.ref x, .int c1, .int c2])).length) Slot.unset).toArray = ls at hl ⊢
  have hl : lv_has ls 6 [(0, .ref x), (1, .int c1), (2, .int c2)] := hl
  refine lv_aload_n hx hb dX5_number_0 rfl (lv_at hl 0 rfl) ?_
  refine lv_iload_n hx hb dX5_number_1 rfl (lv_at hl 1 rfl) ?_
  refine va_csq (va_Run.run (va_runV (As := [.int c1]) (rest := []) ⟨hx, hb, hml, hown, hts⟩ (c_X_find l dC dI x cd rd tp fo qu sh vs pa pb c1) (cwV 1 hts gX5_number_X5_find rfl rfl rfl (by decide +kernel) ⟨Nat.le_of_ble_eq_true rfl, Nat.le_of_ble_eq_true rfl⟩) ⟨PS_blind, va_recv hK hP (ci := 10) (q0 := 0) rfl rfl, PS_pre hP hK hF⟩ rfl rfl hl.1 rfl (lv_room (Nat.le_of_ble_eq_true rfl)) dX5_number_2 ⟨Nat.le_of_ble_eq_true rfl, Nat.le_of_ble_eq_true rfl⟩)) (fun r_1 hr_1 => ?_)
  subst hr_1
  refine W.eq (g2 := F0 m 5 ls [.null]) rfl ?_
  refine lv_astore_nN (lv' := [(3, .null), (0, .ref x), (1, .int c1), (2, .int c2)]) hx hb dX5_number_5 rfl hl (by decide) rfl (fun ls hl => ?_)
  refine lv_aload_nN hx hb dX5_number_6 rfl (lv_at hl 0 rfl) ?_
  refine lv_ifnonnullN hx hb dX5_number_7 ?_
  refine lv_bipush (v := (-5)) hx hb dX5_number_10 (by decide) ?_
  exact W.iret (v := (-5)) hx hb hr (fun t ht hW => ⟨_, rfl, rfl, ht⟩) (fun _ h9 => absurd h9 List.not_mem_nil) dX5_number_12

set_option maxHeartbeats 4000000 in
set_option maxRecDepth 100000 in
theorem c_X_sees (l : Launch) (dC : Nat → ClassId) (dI : Nat → Nat → Nat) (x : Nat) (cd : Nat) (rd : Nat) (tp : Nat) (fo : Nat) (qu : Nat) (sh : Nat) (vs : Nat) (pa : Nat) (pb : Nat) (c1 : Int32) (c2 : Int32) (c3 : Int32) (c4 : Int32) : Met l yX5_sees wsX5_sees ({ frames := 1, cells := 0, slots := 0, locals := 21 }) (va_Pc [.ref x, .int c1, .int c2, .int c3, .int c4] (PS dC dI [(x, .inr (10, [.ref cd, .int 0, .ref rd, .int 0, .ref tp, .ref fo, .int 10, .ref qu, .int 0, .int 0, .ref sh, .ref vs, .ref pa, .ref pb]))] [])) (vp_Si (fun r => r = (-1))) 0 0 (fun _ => False) := by
  refine Met.ofW (cc := cX5_sees) (maxL := 6) (ret := (some .int)) (by decide) rfl ?_
  intro p e s m args below meth c s₁ B hml hv
  obtain ⟨rfl, hP, hK, hF⟩ := hv
  have hx := B.exec
  have hb := B.bytes
  have hr := B.returns
  have hts := atoms_spec (ws := wsX5_sees) B.pre
  have hown : s.vm.findClass RX5 = some m.cls := findClass_of_methodNamed B.named
  have hlocks := B.notSynchronized
  have hl := lv_entry ([.ref x, .int c1, .int c2, .int c3, .int c4]) (n := 6) (Nat.le_of_ble_eq_true rfl)
  rw [lg_entry_eq]
  generalize (lg_sl ([.ref x, .int c1, .int c2, .int c3, .int c4]) ++ List.replicate (6 - (lg_sl ([.ref x, .int c1, .int c2, .int c3, .int c4])).length) Slot.unset).toArray = ls at hl ⊢
  have hl : lv_has ls 6 [(0, .ref x), (1, .int c1), (2, .int c2), (3, .int c3), (4, .int c4)] := hl
  refine lv_aload_n hx hb dX5_sees_0 rfl (lv_at hl 0 rfl) ?_
  refine lv_iload_n hx hb dX5_sees_1 rfl (lv_at hl 2 rfl) ?_
  refine va_csq (va_Run.run (va_runV (As := [.int c2]) (rest := []) ⟨hx, hb, hml, hown, hts⟩ (c_X_find l dC dI x cd rd tp fo qu sh vs pa pb c2) (cwV 1 hts gX5_sees_X5_find rfl rfl rfl (by decide +kernel) ⟨Nat.le_of_ble_eq_true rfl, Nat.le_of_ble_eq_true rfl⟩) ⟨PS_blind, va_recv hK hP (ci := 10) (q0 := 0) rfl rfl, PS_pre hP hK hF⟩ rfl rfl hl.1 rfl (lv_room (Nat.le_of_ble_eq_true rfl)) dX5_sees_2 ⟨Nat.le_of_ble_eq_true rfl, Nat.le_of_ble_eq_true rfl⟩)) (fun r_1 hr_1 => ?_)
  subst hr_1
  refine W.eq (g2 := F0 m 5 ls [.null]) rfl ?_
  refine lv_astoreN (lv' := [(5, .null), (0, .ref x), (1, .int c1), (2, .int c2), (3, .int c3), (4, .int c4)]) hx hb dX5_sees_5 hl (by decide) rfl (fun ls hl => ?_)
  refine lv_aloadN hx hb dX5_sees_7 (lv_at hl 0 rfl) ?_
  refine lv_ifnullN (tgt := 22) hx hb dX5_sees_9 (by decide) ?_
  refine lv_iconst (v := (-1)) hx hb dX5_sees_22 (by decide) ?_
  exact W.iret (v := (-1)) hx hb hr (fun t ht hW => ⟨_, rfl, rfl, ht⟩) (fun _ h9 => absurd h9 List.not_mem_nil) dX5_sees_23

set_option maxHeartbeats 4000000 in
set_option maxRecDepth 100000 in
theorem c_X_reading (l : Launch) (dC : Nat → ClassId) (dI : Nat → Nat → Nat) (x : Nat) (cd : Nat) (rd : Nat) (tp : Nat) (fo : Nat) (qu : Nat) (sh : Nat) (vs : Nat) (pa : Nat) (pb : Nat) (c1 : Int32) (c2 : Int32) (c3 : Int32) : Met l yX5_reading wsX5_reading ({ frames := 1, cells := 0, slots := 0, locals := 21 }) (va_Pc [.ref x, .int c1, .int c2, .int c3] (PS dC dI [(x, .inr (10, [.ref cd, .int 0, .ref rd, .int 0, .ref tp, .ref fo, .int 10, .ref qu, .int 0, .int 0, .ref sh, .ref vs, .ref pa, .ref pb]))] [])) (vp_Si (fun r => r = (-1))) 0 0 (fun _ => False) := by
  refine Met.ofW (cc := cX5_reading) (maxL := 5) (ret := (some .int)) (by decide) rfl ?_
  intro p e s m args below meth c s₁ B hml hv
  obtain ⟨rfl, hP, hK, hF⟩ := hv
  have hx := B.exec
  have hb := B.bytes
  have hr := B.returns
  have hts := atoms_spec (ws := wsX5_reading) B.pre
  have hown : s.vm.findClass RX5 = some m.cls := findClass_of_methodNamed B.named
  have hlocks := B.notSynchronized
  have hl := lv_entry ([.ref x, .int c1, .int c2, .int c3]) (n := 5) (Nat.le_of_ble_eq_true rfl)
  rw [lg_entry_eq]
  generalize (lg_sl ([.ref x, .int c1, .int c2, .int c3]) ++ List.replicate (5 - (lg_sl ([.ref x, .int c1, .int c2, .int c3])).length) Slot.unset).toArray = ls at hl ⊢
  have hl : lv_has ls 5 [(0, .ref x), (1, .int c1), (2, .int c2), (3, .int c3)] := hl
  refine lv_aload_n hx hb dX5_reading_0 rfl (lv_at hl 0 rfl) ?_
  refine lv_iload_n hx hb dX5_reading_1 rfl (lv_at hl 1 rfl) ?_
  refine va_csq (va_Run.run (va_runV (As := [.int c1]) (rest := []) ⟨hx, hb, hml, hown, hts⟩ (c_X_find l dC dI x cd rd tp fo qu sh vs pa pb c1) (cwV 1 hts gX5_reading_X5_find rfl rfl rfl (by decide +kernel) ⟨Nat.le_of_ble_eq_true rfl, Nat.le_of_ble_eq_true rfl⟩) ⟨PS_blind, va_recv hK hP (ci := 10) (q0 := 0) rfl rfl, PS_pre hP hK hF⟩ rfl rfl hl.1 rfl (lv_room (Nat.le_of_ble_eq_true rfl)) dX5_reading_2 ⟨Nat.le_of_ble_eq_true rfl, Nat.le_of_ble_eq_true rfl⟩)) (fun r_1 hr_1 => ?_)
  subst hr_1
  refine W.eq (g2 := F0 m 5 ls [.null]) rfl ?_
  refine lv_astoreN (lv' := [(4, .null), (0, .ref x), (1, .int c1), (2, .int c2), (3, .int c3)]) hx hb dX5_reading_5 hl (by decide) rfl (fun ls hl => ?_)
  refine lv_aloadN hx hb dX5_reading_7 (lv_at hl 0 rfl) ?_
  refine lv_ifnullN (tgt := 21) hx hb dX5_reading_9 (by decide) ?_
  refine lv_iconst (v := (-1)) hx hb dX5_reading_21 (by decide) ?_
  exact W.iret (v := (-1)) hx hb hr (fun t ht hW => ⟨_, rfl, rfl, ht⟩) (fun _ h9 => absurd h9 List.not_mem_nil) dX5_reading_22

set_option maxHeartbeats 4000000 in
set_option maxRecDepth 100000 in
theorem c_X_mark (l : Launch) (dC : Nat → ClassId) (dI : Nat → Nat → Nat) (x : Nat) (cd : Nat) (rd : Nat) (tp : Nat) (fo : Nat) (qu : Nat) (sh : Nat) (vs : Nat) (pa : Nat) (pb : Nat) (c1 : Int32) (c2 : Int32) (c3 : Int32) : Met l yX5_mark wsX5_mark ({ frames := 1, cells := 0, slots := 0, locals := 21 }) (va_Pc [.ref x, .int c1, .int c2, .int c3] (PS dC dI [(x, .inr (10, [.ref cd, .int 0, .ref rd, .int 0, .ref tp, .ref fo, .int 10, .ref qu, .int 0, .int 0, .ref sh, .ref vs, .ref pa, .ref pb]))] [])) (vp_Si (fun r => r = (-1))) 0 0 (fun _ => False) := by
  refine Met.ofW (cc := cX5_mark) (maxL := 7) (ret := (some .int)) (by decide) rfl ?_
  intro p e s m args below meth c s₁ B hml hv
  obtain ⟨rfl, hP, hK, hF⟩ := hv
  have hx := B.exec
  have hb := B.bytes
  have hr := B.returns
  have hts := atoms_spec (ws := wsX5_mark) B.pre
  have hown : s.vm.findClass RX5 = some m.cls := findClass_of_methodNamed B.named
  have hlocks := B.notSynchronized
  have hl := lv_entry ([.ref x, .int c1, .int c2, .int c3]) (n := 7) (Nat.le_of_ble_eq_true rfl)
  rw [lg_entry_eq]
  generalize (lg_sl ([.ref x, .int c1, .int c2, .int c3]) ++ List.replicate (7 - (lg_sl ([.ref x, .int c1, .int c2, .int c3])).length) Slot.unset).toArray = ls at hl ⊢
  have hl : lv_has ls 7 [(0, .ref x), (1, .int c1), (2, .int c2), (3, .int c3)] := hl
  refine lv_aload_n hx hb dX5_mark_0 rfl (lv_at hl 0 rfl) ?_
  refine lv_iload_n hx hb dX5_mark_1 rfl (lv_at hl 1 rfl) ?_
  refine va_csq (va_Run.run (va_runV (As := [.int c1]) (rest := []) ⟨hx, hb, hml, hown, hts⟩ (c_X_find l dC dI x cd rd tp fo qu sh vs pa pb c1) (cwV 1 hts gX5_mark_X5_find rfl rfl rfl (by decide +kernel) ⟨Nat.le_of_ble_eq_true rfl, Nat.le_of_ble_eq_true rfl⟩) ⟨PS_blind, va_recv hK hP (ci := 10) (q0 := 0) rfl rfl, PS_pre hP hK hF⟩ rfl rfl hl.1 rfl (lv_room (Nat.le_of_ble_eq_true rfl)) dX5_mark_2 ⟨Nat.le_of_ble_eq_true rfl, Nat.le_of_ble_eq_true rfl⟩)) (fun r_1 hr_1 => ?_)
  subst hr_1
  refine W.eq (g2 := F0 m 5 ls [.null]) rfl ?_
  refine lv_astoreN (lv' := [(4, .null), (0, .ref x), (1, .int c1), (2, .int c2), (3, .int c3)]) hx hb dX5_mark_5 hl (by decide) rfl (fun ls hl => ?_)
  refine lv_aloadN hx hb dX5_mark_7 (lv_at hl 0 rfl) ?_
  refine lv_ifnullN (tgt := 20) hx hb dX5_mark_9 (by decide) ?_
  refine lv_iconst (v := (-1)) hx hb dX5_mark_20 (by decide) ?_
  exact W.iret (v := (-1)) hx hb hr (fun t ht hW => ⟨_, rfl, rfl, ht⟩) (fun _ h9 => absurd h9 List.not_mem_nil) dX5_mark_21

set_option maxHeartbeats 4000000 in
set_option maxRecDepth 100000 in
theorem c_X_load (l : Launch) (dC : Nat → ClassId) (dI : Nat → Nat → Nat) (x : Nat) (cd : Nat) (rd : Nat) (tp : Nat) (fo : Nat) (qu : Nat) (sh : Nat) (vs : Nat) (pa : Nat) (pb : Nat) (c1 : Int32) : Met l yX5_load wsX5_load ({ frames := 1, cells := 0, slots := 0, locals := 21 }) (va_Pc [.ref x, .int c1] (PS dC dI [(x, .inr (10, [.ref cd, .int 0, .ref rd, .int 0, .ref tp, .ref fo, .int 10, .ref qu, .int 0, .int 0, .ref sh, .ref vs, .ref pa, .ref pb]))] [])) (vp_Si (fun r => r = (-1))) 0 0 (fun _ => False) := by
  refine Met.ofW (cc := cX5_load) (maxL := 3) (ret := (some .int)) (by decide) rfl ?_
  intro p e s m args below meth c s₁ B hml hv
  obtain ⟨rfl, hP, hK, hF⟩ := hv
  have hx := B.exec
  have hb := B.bytes
  have hr := B.returns
  have hts := atoms_spec (ws := wsX5_load) B.pre
  have hown : s.vm.findClass RX5 = some m.cls := findClass_of_methodNamed B.named
  have hlocks := B.notSynchronized
  have hl := lv_entry ([.ref x, .int c1]) (n := 3) (Nat.le_of_ble_eq_true rfl)
  rw [lg_entry_eq]
  generalize (lg_sl ([.ref x, .int c1]) ++ List.replicate (3 - (lg_sl ([.ref x, .int c1])).length) Slot.unset).toArray = ls at hl ⊢
  have hl : lv_has ls 3 [(0, .ref x), (1, .int c1)] := hl
  refine lv_aload_n hx hb dX5_load_0 rfl (lv_at hl 0 rfl) ?_
  refine lv_iload_n hx hb dX5_load_1 rfl (lv_at hl 1 rfl) ?_
  refine va_csq (va_Run.run (va_runV (As := [.int c1]) (rest := []) ⟨hx, hb, hml, hown, hts⟩ (c_X_findReader l dC dI x cd rd tp fo qu sh vs pa pb c1) (cwV 1 hts gX5_load_X5_findReader rfl rfl rfl (by decide +kernel) ⟨Nat.le_of_ble_eq_true rfl, Nat.le_of_ble_eq_true rfl⟩) ⟨PS_blind, va_recv hK hP (ci := 10) (q0 := 0) rfl rfl, PS_pre hP hK hF⟩ rfl rfl hl.1 rfl (lv_room (Nat.le_of_ble_eq_true rfl)) dX5_load_2 ⟨Nat.le_of_ble_eq_true rfl, Nat.le_of_ble_eq_true rfl⟩)) (fun r_1 hr_1 => ?_)
  subst hr_1
  refine W.eq (g2 := F0 m 5 ls [.null]) rfl ?_
  refine lv_astore_nN (lv' := [(2, .null), (0, .ref x), (1, .int c1)]) hx hb dX5_load_5 rfl hl (by decide) rfl (fun ls hl => ?_)
  refine lv_aload_nN hx hb dX5_load_6 rfl (lv_at hl 0 rfl) ?_
  refine lv_ifnonnullN hx hb dX5_load_7 ?_
  refine lv_iconst (v := (-1)) hx hb dX5_load_10 (by decide) ?_
  refine lv_goto (tgt := 18) hx hb dX5_load_11 (by decide) ?_
  exact W.iret (v := (-1)) hx hb hr (fun t ht hW => ⟨_, rfl, rfl, ht⟩) (fun _ h9 => absurd h9 List.not_mem_nil) dX5_load_18

set_option maxHeartbeats 4000000 in
set_option maxRecDepth 100000 in
theorem c_X_shift (l : Launch) (dC : Nat → ClassId) (dI : Nat → Nat → Nat) (x : Nat) (cd : Nat) (rd : Nat) (tp : Nat) (fo : Nat) (qu : Nat) (sh : Nat) (vs : Nat) (pa : Nat) (pb : Nat) (c1 : Int32) : Met l yX5_shift wsX5_shift ({ frames := 1, cells := 0, slots := 0, locals := 21 }) (va_Pc [.ref x, .int c1] (PS dC dI [(x, .inr (10, [.ref cd, .int 0, .ref rd, .int 0, .ref tp, .ref fo, .int 10, .ref qu, .int 0, .int 0, .ref sh, .ref vs, .ref pa, .ref pb]))] [])) (vp_Si (fun r => r = (-1000))) 0 0 (fun _ => False) := by
  refine Met.ofW (cc := cX5_shift) (maxL := 2) (ret := (some .int)) (by decide) rfl ?_
  intro p e s m args below meth c s₁ B hml hv
  obtain ⟨rfl, hP, hK, hF⟩ := hv
  have hx := B.exec
  have hb := B.bytes
  have hr := B.returns
  have hts := atoms_spec (ws := wsX5_shift) B.pre
  have hown : s.vm.findClass RX5 = some m.cls := findClass_of_methodNamed B.named
  have hlocks := B.notSynchronized
  have hl := lv_entry ([.ref x, .int c1]) (n := 2) (Nat.le_of_ble_eq_true rfl)
  rw [lg_entry_eq]
  generalize (lg_sl ([.ref x, .int c1]) ++ List.replicate (2 - (lg_sl ([.ref x, .int c1])).length) Slot.unset).toArray = ls at hl ⊢
  have hl : lv_has ls 2 [(0, .ref x), (1, .int c1)] := hl
  refine lv_aload_n hx hb dX5_shift_0 rfl (lv_at hl 0 rfl) ?_
  refine lv_iload_n hx hb dX5_shift_1 rfl (lv_at hl 1 rfl) ?_
  refine va_csq (va_Run.run (va_runV (As := [.int c1]) (rest := []) ⟨hx, hb, hml, hown, hts⟩ (c_X_findReader l dC dI x cd rd tp fo qu sh vs pa pb c1) (cwV 1 hts gX5_shift_X5_findReader rfl rfl rfl (by decide +kernel) ⟨Nat.le_of_ble_eq_true rfl, Nat.le_of_ble_eq_true rfl⟩) ⟨PS_blind, va_recv hK hP (ci := 10) (q0 := 0) rfl rfl, PS_pre hP hK hF⟩ rfl rfl hl.1 rfl (lv_room (Nat.le_of_ble_eq_true rfl)) dX5_shift_2 ⟨Nat.le_of_ble_eq_true rfl, Nat.le_of_ble_eq_true rfl⟩)) (fun r_1 hr_1 => ?_)
  subst hr_1
  refine W.eq (g2 := F0 m 5 ls [.null]) rfl ?_
  refine lv_ifnonnullN hx hb dX5_shift_5 ?_
  refine lv_sipush (v := (-1000)) hx hb dX5_shift_8 (by decide) ?_
  refine lv_goto (tgt := 19) hx hb dX5_shift_11 (by decide) ?_
  exact W.iret (v := (-1000)) hx hb hr (fun t ht hW => ⟨_, rfl, rfl, ht⟩) (fun _ h9 => absurd h9 List.not_mem_nil) dX5_shift_19

set_option maxHeartbeats 4000000 in
set_option maxRecDepth 100000 in
theorem c_X_score (l : Launch) (dC : Nat → ClassId) (dI : Nat → Nat → Nat) (x : Nat) (cd : Nat) (rd : Nat) (tp : Nat) (fo : Nat) (qu : Nat) (sh : Nat) (vs : Nat) (pa : Nat) (pb : Nat) (c1 : Int32) (c2 : Int32) : Met l yX5_score wsX5_score ({ frames := 1, cells := 0, slots := 0, locals := 21 }) (va_Pc [.ref x, .int c1, .int c2] (PS dC dI [(x, .inr (10, [.ref cd, .int 0, .ref rd, .int 0, .ref tp, .ref fo, .int 10, .ref qu, .int 0, .int 0, .ref sh, .ref vs, .ref pa, .ref pb]))] [])) (vp_Si (fun r => r = (-1))) 0 0 (fun _ => False) := by
  refine Met.ofW (cc := cX5_score) (maxL := 4) (ret := (some .int)) (by decide) rfl ?_
  intro p e s m args below meth c s₁ B hml hv
  obtain ⟨rfl, hP, hK, hF⟩ := hv
  have hx := B.exec
  have hb := B.bytes
  have hr := B.returns
  have hts := atoms_spec (ws := wsX5_score) B.pre
  have hown : s.vm.findClass RX5 = some m.cls := findClass_of_methodNamed B.named
  have hlocks := B.notSynchronized
  have hl := lv_entry ([.ref x, .int c1, .int c2]) (n := 4) (Nat.le_of_ble_eq_true rfl)
  rw [lg_entry_eq]
  generalize (lg_sl ([.ref x, .int c1, .int c2]) ++ List.replicate (4 - (lg_sl ([.ref x, .int c1, .int c2])).length) Slot.unset).toArray = ls at hl ⊢
  have hl : lv_has ls 4 [(0, .ref x), (1, .int c1), (2, .int c2)] := hl
  refine lv_aload_n hx hb dX5_score_0 rfl (lv_at hl 0 rfl) ?_
  refine lv_iload_n hx hb dX5_score_1 rfl (lv_at hl 1 rfl) ?_
  refine va_csq (va_Run.run (va_runV (As := [.int c1]) (rest := []) ⟨hx, hb, hml, hown, hts⟩ (c_X_find l dC dI x cd rd tp fo qu sh vs pa pb c1) (cwV 1 hts gX5_score_X5_find rfl rfl rfl (by decide +kernel) ⟨Nat.le_of_ble_eq_true rfl, Nat.le_of_ble_eq_true rfl⟩) ⟨PS_blind, va_recv hK hP (ci := 10) (q0 := 0) rfl rfl, PS_pre hP hK hF⟩ rfl rfl hl.1 rfl (lv_room (Nat.le_of_ble_eq_true rfl)) dX5_score_2 ⟨Nat.le_of_ble_eq_true rfl, Nat.le_of_ble_eq_true rfl⟩)) (fun r_1 hr_1 => ?_)
  subst hr_1
  refine W.eq (g2 := F0 m 5 ls [.null]) rfl ?_
  refine lv_astore_nN (lv' := [(3, .null), (0, .ref x), (1, .int c1), (2, .int c2)]) hx hb dX5_score_5 rfl hl (by decide) rfl (fun ls hl => ?_)
  refine lv_aload_nN hx hb dX5_score_6 rfl (lv_at hl 0 rfl) ?_
  refine lv_ifnullN (tgt := 19) hx hb dX5_score_7 (by decide) ?_
  refine lv_iconst (v := (-1)) hx hb dX5_score_19 (by decide) ?_
  exact W.iret (v := (-1)) hx hb hr (fun t ht hW => ⟨_, rfl, rfl, ht⟩) (fun _ h9 => absurd h9 List.not_mem_nil) dX5_score_20

set_option maxHeartbeats 4000000 in
set_option maxRecDepth 100000 in
theorem c_X_settleShifts (l : Launch) (dC : Nat → ClassId) (dI : Nat → Nat → Nat) (x : Nat) (cd : Nat) (rd : Nat) (tp : Nat) (fo : Nat) (qu : Nat) (sh : Nat) (vs : Nat) (pa : Nat) (pb : Nat) : Met l yX5_settleShifts wsX5_settleShifts ({ frames := 0, cells := 0, slots := 0, locals := 0 }) (va_Pc [.ref x] (PS dC dI [(x, .inr (10, [.ref cd, .int 0, .ref rd, .int 0, .ref tp, .ref fo, .int 10, .ref qu, .int 0, .int 0, .ref sh, .ref vs, .ref pa, .ref pb]))] [])) (va_Sv (fun _ => True)) 0 0 (fun _ => False) := by
  refine Met.ofW (cc := cX5_settleShifts) (maxL := 2) (ret := none) (by decide) rfl ?_
  intro p e s m args below meth c s₁ B hml hv
  obtain ⟨rfl, hP, hK, hF⟩ := hv
  have hx := B.exec
  have hb := B.bytes
  have hr := B.returns
  have hts := atoms_spec (ws := wsX5_settleShifts) B.pre
  have hown : s.vm.findClass RX5 = some m.cls := findClass_of_methodNamed B.named
  have hlocks := B.notSynchronized
  have hl := lv_entry ([.ref x]) (n := 2) (Nat.le_of_ble_eq_true rfl)
  rw [lg_entry_eq]
  generalize (lg_sl ([.ref x]) ++ List.replicate (2 - (lg_sl ([.ref x])).length) Slot.unset).toArray = ls at hl ⊢
  have hl : lv_has ls 2 [(0, .ref x)] := hl
  refine lv_iconst (v := 0) hx hb dX5_settleShifts_0 (by decide) ?_
  refine lv_istore_n (lv' := [(1, .int 0), (0, .ref x)]) hx hb dX5_settleShifts_1 rfl hl (by decide) rfl (fun ls hl => ?_)
  refine lv_iload_n hx hb dX5_settleShifts_2 rfl (lv_at hl 0 rfl) ?_
  refine lv_aload_n hx hb dX5_settleShifts_3 rfl (lv_at hl 1 rfl) ?_
  refine va_get (D := (dC, dI)) (ci := 10) (v := .int 0) (C := RX5) (T := TX5) (N := 14) hx hb hts (fun _ h9 => List.mem_cons_of_mem _ (List.mem_append_left _ (List.mem_append_right _ (h9)))) hown hK hP 0 rfl rfl 3 (by decide) (hts (.fieldLink RX5 25 "ExamHalls" "readerCount" "I") (List.mem_of_getElem? (i := 1) rfl)) (fun _ h9 => h9) rfl dX5_settleShifts_4 ?_
  refine lv_icmp_ge (tgt := 27) hx hb dX5_settleShifts_7 (by decide) (fun _ => ?_) (fun c_1 => absurd (by decide) c_1)
  exact W.vret hx hb hr (fun t ht hW => ⟨rfl, trivial, ht⟩) (fun _ h9 => absurd h9 List.not_mem_nil) dX5_settleShifts_27

set_option maxHeartbeats 4000000 in
set_option maxRecDepth 100000 in
theorem c_X_settle (l : Launch) (dC : Nat → ClassId) (dI : Nat → Nat → Nat) (x : Nat) (cd : Nat) (rd : Nat) (tp : Nat) (fo : Nat) (qu : Nat) (sh : Nat) (vs : Nat) (pa : Nat) (pb : Nat) (c1 : Int32) : Met l yX5_settle wsX5_settle ({ frames := 1, cells := 0, slots := 0, locals := 21 }) (va_Pc [.ref x, .int c1] (PS dC dI [(x, .inr (10, [.ref cd, .int 0, .ref rd, .int 0, .ref tp, .ref fo, .int 10, .ref qu, .int 0, .int 0, .ref sh, .ref vs, .ref pa, .ref pb]))] [])) (va_Sv (fun _ => True)) 0 0 (fun _ => False) := by
  refine Met.ofW (cc := cX5_settle) (maxL := 4) (ret := none) (by decide) rfl ?_
  intro p e s m args below meth c s₁ B hml hv
  obtain ⟨rfl, hP, hK, hF⟩ := hv
  have hx := B.exec
  have hb := B.bytes
  have hr := B.returns
  have hts := atoms_spec (ws := wsX5_settle) B.pre
  have hown : s.vm.findClass RX5 = some m.cls := findClass_of_methodNamed B.named
  have hlocks := B.notSynchronized
  have hl := lv_entry ([.ref x, .int c1]) (n := 4) (Nat.le_of_ble_eq_true rfl)
  rw [lg_entry_eq]
  generalize (lg_sl ([.ref x, .int c1]) ++ List.replicate (4 - (lg_sl ([.ref x, .int c1])).length) Slot.unset).toArray = ls at hl ⊢
  have hl : lv_has ls 4 [(0, .ref x), (1, .int c1)] := hl
  refine lv_aload_n hx hb dX5_settle_0 rfl (lv_at hl 0 rfl) ?_
  refine va_csv (va_Run.run (va_runV (As := []) (rest := []) ⟨hx, hb, hml, hown, hts⟩ (c_X_settleShifts l dC dI x cd rd tp fo qu sh vs pa pb) (cwV 0 hts gX5_settle_X5_settleShifts rfl rfl rfl (by decide +kernel) ⟨Nat.le_of_ble_eq_true rfl, Nat.le_of_ble_eq_true rfl⟩) ⟨PS_blind, va_recv hK hP (ci := 10) (q0 := 0) rfl rfl, PS_pre hP hK hF⟩ rfl rfl hl.1 rfl (lv_room (Nat.le_of_ble_eq_true rfl)) dX5_settle_1 ⟨Nat.le_of_ble_eq_true rfl, Nat.le_of_ble_eq_true rfl⟩)) (fun _ => ?_)
  refine lv_iconst (v := 0) hx hb dX5_settle_4 (by decide) ?_
  refine lv_istore_n (lv' := [(2, .int 0), (0, .ref x), (1, .int c1)]) hx hb dX5_settle_5 rfl hl (by decide) rfl (fun ls hl => ?_)
  refine lv_iload_n hx hb dX5_settle_6 rfl (lv_at hl 0 rfl) ?_
  refine lv_aload_n hx hb dX5_settle_7 rfl (lv_at hl 1 rfl) ?_
  refine va_get (D := (dC, dI)) (ci := 10) (v := .int 0) (C := RX5) (T := TX5) (N := 14) hx hb hts (fun _ h9 => List.mem_cons_of_mem _ (List.mem_append_left _ (List.mem_append_left _ (List.mem_append_left _ (List.mem_append_right _ (h9)))))) hown hK hP 0 rfl rfl 1 (by decide) (hts (.fieldLink RX5 15 "ExamHalls" "candidateCount" "I") (List.mem_of_getElem? (i := 1) rfl)) (fun _ h9 => h9) rfl dX5_settle_8 ?_
  refine lv_icmp_ge (tgt := 62) hx hb dX5_settle_11 (by decide) (fun _ => ?_) (fun c_2 => absurd (by decide) c_2)
  refine lv_iconst (v := 0) hx hb dX5_settle_62 (by decide) ?_
  refine lv_istore_n (lv' := [(2, .int 0), (0, .ref x), (1, .int c1)]) hx hb dX5_settle_63 rfl hl (by decide) rfl (fun ls hl => ?_)
  refine lv_iload_n hx hb dX5_settle_64 rfl (lv_at hl 0 rfl) ?_
  refine lv_aload_n hx hb dX5_settle_65 rfl (lv_at hl 1 rfl) ?_
  refine va_get (D := (dC, dI)) (ci := 10) (v := .int 0) (C := RX5) (T := TX5) (N := 14) hx hb hts (fun _ h9 => List.mem_cons_of_mem _ (List.mem_append_left _ (List.mem_append_left _ (List.mem_append_left _ (List.mem_append_right _ (h9)))))) hown hK hP 0 rfl rfl 1 (by decide) (hts (.fieldLink RX5 15 "ExamHalls" "candidateCount" "I") (List.mem_of_getElem? (i := 1) rfl)) (fun _ h9 => h9) rfl dX5_settle_66 ?_
  refine lv_icmp_ge (tgt := 107) hx hb dX5_settle_69 (by decide) (fun _ => ?_) (fun c_3 => absurd (by decide) c_3)
  exact W.vret hx hb hr (fun t ht hW => ⟨rfl, trivial, ht⟩) (fun _ h9 => absurd h9 List.not_mem_nil) dX5_settle_107

set_option maxHeartbeats 4000000 in
set_option maxRecDepth 100000 in
theorem c_X_passes (l : Launch) (dC : Nat → ClassId) (dI : Nat → Nat → Nat) (x : Nat) (cd : Nat) (rd : Nat) (tp : Nat) (fo : Nat) (qu : Nat) (sh : Nat) (vs : Nat) (pa : Nat) (pb : Nat) (c1 : Int32) : Met l yX5_passes wsX5_passes ({ frames := 1, cells := 0, slots := 0, locals := 21 }) (va_Pc [.ref x, .int c1] (PS dC dI [(x, .inr (10, [.ref cd, .int 0, .ref rd, .int 0, .ref tp, .ref fo, .int 10, .ref qu, .int 0, .int 0, .ref sh, .ref vs, .ref pa, .ref pb]))] [])) (vp_Si (fun r => r = (-1))) 0 0 (fun _ => False) := by
  refine Met.ofW (cc := cX5_passes) (maxL := 2) (ret := (some .int)) (by decide) rfl ?_
  intro p e s m args below meth c s₁ B hml hv
  obtain ⟨rfl, hP, hK, hF⟩ := hv
  have hx := B.exec
  have hb := B.bytes
  have hr := B.returns
  have hts := atoms_spec (ws := wsX5_passes) B.pre
  have hown : s.vm.findClass RX5 = some m.cls := findClass_of_methodNamed B.named
  have hlocks := B.notSynchronized
  have hl := lv_entry ([.ref x, .int c1]) (n := 2) (Nat.le_of_ble_eq_true rfl)
  rw [lg_entry_eq]
  generalize (lg_sl ([.ref x, .int c1]) ++ List.replicate (2 - (lg_sl ([.ref x, .int c1])).length) Slot.unset).toArray = ls at hl ⊢
  have hl : lv_has ls 2 [(0, .ref x), (1, .int c1)] := hl
  refine lv_aload_n hx hb dX5_passes_0 rfl (lv_at hl 0 rfl) ?_
  refine lv_iload_n hx hb dX5_passes_1 rfl (lv_at hl 1 rfl) ?_
  refine va_csq (va_Run.run (va_runV (As := [.int c1]) (rest := []) ⟨hx, hb, hml, hown, hts⟩ (c_X_find l dC dI x cd rd tp fo qu sh vs pa pb c1) (cwV 1 hts gX5_passes_X5_find rfl rfl rfl (by decide +kernel) ⟨Nat.le_of_ble_eq_true rfl, Nat.le_of_ble_eq_true rfl⟩) ⟨PS_blind, va_recv hK hP (ci := 10) (q0 := 0) rfl rfl, PS_pre hP hK hF⟩ rfl rfl hl.1 rfl (lv_room (Nat.le_of_ble_eq_true rfl)) dX5_passes_2 ⟨Nat.le_of_ble_eq_true rfl, Nat.le_of_ble_eq_true rfl⟩)) (fun r_1 hr_1 => ?_)
  subst hr_1
  refine W.eq (g2 := F0 m 5 ls [.null]) rfl ?_
  refine lv_ifnonnullN hx hb dX5_passes_5 ?_
  refine lv_iconst (v := (-1)) hx hb dX5_passes_8 (by decide) ?_
  exact W.iret (v := (-1)) hx hb hr (fun t ht hW => ⟨_, rfl, rfl, ht⟩) (fun _ h9 => absurd h9 List.not_mem_nil) dX5_passes_9

def sp_X_passed (c1 : Int32) : Int32 := if (sp_X_isWithin c1 0 3) = 0 then (-1) else 0
set_option maxHeartbeats 4000000 in
set_option maxRecDepth 100000 in
theorem c_X_passed (l : Launch) (dC : Nat → ClassId) (dI : Nat → Nat → Nat) (x : Nat) (cd : Nat) (rd : Nat) (tp : Nat) (fo : Nat) (qu : Nat) (sh : Nat) (vs : Nat) (pa : Nat) (pb : Nat) (c1 : Int32) : Met l yX5_passed wsX5_passed ({ frames := 2, cells := 0, slots := 0, locals := 44 }) (va_Pc [.ref x, .int c1] (PS dC dI [(x, .inr (10, [.ref cd, .int 0, .ref rd, .int 0, .ref tp, .ref fo, .int 10, .ref qu, .int 0, .int 0, .ref sh, .ref vs, .ref pa, .ref pb]))] [])) (vp_Si (fun r => r = sp_X_passed c1)) 0 0 (fun _ => False) := by
  refine Met.ofW (cc := cX5_passed) (maxL := 5) (ret := (some .int)) (by decide) rfl ?_
  intro p e s m args below meth c s₁ B hml hv
  obtain ⟨rfl, hP, hK, hF⟩ := hv
  have hx := B.exec
  have hb := B.bytes
  have hr := B.returns
  have hts := atoms_spec (ws := wsX5_passed) B.pre
  have hown : s.vm.findClass RX5 = some m.cls := findClass_of_methodNamed B.named
  have hlocks := B.notSynchronized
  have hl := lv_entry ([.ref x, .int c1]) (n := 5) (Nat.le_of_ble_eq_true rfl)
  rw [lg_entry_eq]
  generalize (lg_sl ([.ref x, .int c1]) ++ List.replicate (5 - (lg_sl ([.ref x, .int c1])).length) Slot.unset).toArray = ls at hl ⊢
  have hl : lv_has ls 5 [(0, .ref x), (1, .int c1)] := hl
  refine lv_iload_n hx hb dX5_passed_0 rfl (lv_at hl 1 rfl) ?_
  refine lv_iconst (v := 0) hx hb dX5_passed_1 (by decide) ?_
  refine lv_iconst (v := 3) hx hb dX5_passed_2 (by decide) ?_
  refine vp_callSi (va_Run.run (va_runS (As := [.int c1, .int 0, .int 3]) (rest := []) ⟨hx, hb, hml, hown, hts⟩ (c_X_isWithin l dC dI c1 0 3) (va_cwS 3 hts gX5_passed_X5_isWithin rfl rfl rfl (by decide +kernel) ⟨Nat.le_of_ble_eq_true rfl, Nat.le_of_ble_eq_true rfl⟩) ⟨PS_blind, PS_pre (hP.sub (ws' := []) [] rfl) hK hF⟩ rfl rfl hl.1 rfl (lv_room (Nat.le_of_ble_eq_true rfl)) dX5_passed_3 ⟨Nat.le_of_ble_eq_true rfl, Nat.le_of_ble_eq_true rfl⟩)) (fun r_1 hr_1 => ?_)
  subst hr_1
  refine lv_if_ne (tgt := 11) hx hb dX5_passed_6 (by decide) (fun c_2 => ?_) (fun c_2 => ?_)
  · skip
    refine lv_aload_n hx hb dX5_passed_11 rfl (lv_at hl 0 rfl) ?_
    refine lv_iconst (v := (-1)) hx hb dX5_passed_12 (by decide) ?_
    refine va_csv (va_Run.run (va_runV (As := [.int (-1)]) (rest := []) ⟨hx, hb, hml, hown, hts⟩ (c_X_settle l dC dI x cd rd tp fo qu sh vs pa pb (-1)) (cwV 1 hts gX5_passed_X5_settle rfl rfl rfl (by decide +kernel) ⟨Nat.le_of_ble_eq_true rfl, Nat.le_of_ble_eq_true rfl⟩) ⟨PS_blind, va_recv hK hP (ci := 10) (q0 := 0) rfl rfl, PS_pre hP hK hF⟩ rfl rfl hl.1 rfl (lv_room (Nat.le_of_ble_eq_true rfl)) dX5_passed_13 ⟨Nat.le_of_ble_eq_true rfl, Nat.le_of_ble_eq_true rfl⟩)) (fun _ => ?_)
    refine lv_iconst (v := 0) hx hb dX5_passed_16 (by decide) ?_
    refine lv_istore_n (lv' := [(2, .int 0), (0, .ref x), (1, .int c1)]) hx hb dX5_passed_17 rfl hl (by decide) rfl (fun ls hl => ?_)
    refine lv_iconst (v := 0) hx hb dX5_passed_18 (by decide) ?_
    refine lv_istore_n (lv' := [(3, .int 0), (2, .int 0), (0, .ref x), (1, .int c1)]) hx hb dX5_passed_19 rfl hl (by decide) rfl (fun ls hl => ?_)
    refine lv_iload_n hx hb dX5_passed_20 rfl (lv_at hl 0 rfl) ?_
    refine lv_aload_n hx hb dX5_passed_21 rfl (lv_at hl 2 rfl) ?_
    refine va_get (D := (dC, dI)) (ci := 10) (v := .int 0) (C := RX5) (T := TX5) (N := 14) hx hb hts (fun _ h9 => List.mem_cons_of_mem _ (List.mem_append_left _ (List.mem_append_left _ (List.mem_append_left _ (List.mem_append_right _ (h9)))))) hown hK hP 0 rfl rfl 1 (by decide) (hts (.fieldLink RX5 15 "ExamHalls" "candidateCount" "I") (List.mem_of_getElem? (i := 1) rfl)) (fun _ h9 => h9) rfl dX5_passed_22 ?_
    refine lv_icmp_ge (tgt := 67) hx hb dX5_passed_25 (by decide) (fun _ => ?_) (fun c_4 => absurd (by decide) c_4)
    refine lv_iload_n hx hb dX5_passed_67 rfl (lv_at hl 1 rfl) ?_
    exact W.iret (v := 0) hx hb hr (fun t ht hW => ⟨_, rfl, (by simp only [sp_X_passed, if_neg c_2]), ht⟩) (fun _ h9 => absurd h9 List.not_mem_nil) dX5_passed_68
  · skip
    refine lv_iconst (v := (-1)) hx hb dX5_passed_9 (by decide) ?_
    exact W.iret (v := (-1)) hx hb hr (fun t ht hW => ⟨_, rfl, (by simp only [sp_X_passed, if_pos c_2]), ht⟩) (fun _ h9 => absurd h9 List.not_mem_nil) dX5_passed_10

set_option maxHeartbeats 4000000 in
set_option maxRecDepth 100000 in
theorem c_X_strike (l : Launch) (dC : Nat → ClassId) (dI : Nat → Nat → Nat) (x : Nat) (cd : Nat) (rd : Nat) (tp : Nat) (fo : Nat) (qu : Nat) (sh : Nat) (vs : Nat) (pa : Nat) (pb : Nat) (c1 : Int32) (c2 : Int32) : Met l yX5_strike wsX5_strike ({ frames := 1, cells := 0, slots := 0, locals := 21 }) (va_Pc [.ref x, .int c1, .int c2] (PS dC dI [(x, .inr (10, [.ref cd, .int 0, .ref rd, .int 0, .ref tp, .ref fo, .int 10, .ref qu, .int 0, .int 0, .ref sh, .ref vs, .ref pa, .ref pb]))] [])) (vp_Si (fun r => r = (-1))) 0 0 (fun _ => False) := by
  refine Met.ofW (cc := cX5_strike) (maxL := 5) (ret := (some .int)) (by decide) rfl ?_
  intro p e s m args below meth c s₁ B hml hv
  obtain ⟨rfl, hP, hK, hF⟩ := hv
  have hx := B.exec
  have hb := B.bytes
  have hr := B.returns
  have hts := atoms_spec (ws := wsX5_strike) B.pre
  have hown : s.vm.findClass RX5 = some m.cls := findClass_of_methodNamed B.named
  have hlocks := B.notSynchronized
  have hl := lv_entry ([.ref x, .int c1, .int c2]) (n := 5) (Nat.le_of_ble_eq_true rfl)
  rw [lg_entry_eq]
  generalize (lg_sl ([.ref x, .int c1, .int c2]) ++ List.replicate (5 - (lg_sl ([.ref x, .int c1, .int c2])).length) Slot.unset).toArray = ls at hl ⊢
  have hl : lv_has ls 5 [(0, .ref x), (1, .int c1), (2, .int c2)] := hl
  refine lv_aload_n hx hb dX5_strike_0 rfl (lv_at hl 0 rfl) ?_
  refine lv_iload_n hx hb dX5_strike_1 rfl (lv_at hl 1 rfl) ?_
  refine va_csq (va_Run.run (va_runV (As := [.int c1]) (rest := []) ⟨hx, hb, hml, hown, hts⟩ (c_X_find l dC dI x cd rd tp fo qu sh vs pa pb c1) (cwV 1 hts gX5_strike_X5_find rfl rfl rfl (by decide +kernel) ⟨Nat.le_of_ble_eq_true rfl, Nat.le_of_ble_eq_true rfl⟩) ⟨PS_blind, va_recv hK hP (ci := 10) (q0 := 0) rfl rfl, PS_pre hP hK hF⟩ rfl rfl hl.1 rfl (lv_room (Nat.le_of_ble_eq_true rfl)) dX5_strike_2 ⟨Nat.le_of_ble_eq_true rfl, Nat.le_of_ble_eq_true rfl⟩)) (fun r_1 hr_1 => ?_)
  subst hr_1
  refine W.eq (g2 := F0 m 5 ls [.null]) rfl ?_
  refine lv_astore_nN (lv' := [(3, .null), (0, .ref x), (1, .int c1), (2, .int c2)]) hx hb dX5_strike_5 rfl hl (by decide) rfl (fun ls hl => ?_)
  refine lv_aload_nN hx hb dX5_strike_6 rfl (lv_at hl 0 rfl) ?_
  refine lv_ifnonnullN hx hb dX5_strike_7 ?_
  refine lv_iconst (v := (-1)) hx hb dX5_strike_10 (by decide) ?_
  exact W.iret (v := (-1)) hx hb hr (fun t ht hW => ⟨_, rfl, rfl, ht⟩) (fun _ h9 => absurd h9 List.not_mem_nil) dX5_strike_11

set_option maxHeartbeats 4000000 in
set_option maxRecDepth 100000 in
theorem c_X_ifStruck (l : Launch) (dC : Nat → ClassId) (dI : Nat → Nat → Nat) (x : Nat) (cd : Nat) (rd : Nat) (tp : Nat) (fo : Nat) (qu : Nat) (sh : Nat) (vs : Nat) (pa : Nat) (pb : Nat) (c1 : Int32) : Met l yX5_ifStruck wsX5_ifStruck ({ frames := 1, cells := 0, slots := 0, locals := 21 }) (va_Pc [.ref x, .int c1] (PS dC dI [(x, .inr (10, [.ref cd, .int 0, .ref rd, .int 0, .ref tp, .ref fo, .int 10, .ref qu, .int 0, .int 0, .ref sh, .ref vs, .ref pa, .ref pb]))] [])) (vp_Si (fun r => r = (-1))) 0 0 (fun _ => False) := by
  refine Met.ofW (cc := cX5_ifStruck) (maxL := 4) (ret := (some .int)) (by decide) rfl ?_
  intro p e s m args below meth c s₁ B hml hv
  obtain ⟨rfl, hP, hK, hF⟩ := hv
  have hx := B.exec
  have hb := B.bytes
  have hr := B.returns
  have hts := atoms_spec (ws := wsX5_ifStruck) B.pre
  have hown : s.vm.findClass RX5 = some m.cls := findClass_of_methodNamed B.named
  have hlocks := B.notSynchronized
  have hl := lv_entry ([.ref x, .int c1]) (n := 4) (Nat.le_of_ble_eq_true rfl)
  rw [lg_entry_eq]
  generalize (lg_sl ([.ref x, .int c1]) ++ List.replicate (4 - (lg_sl ([.ref x, .int c1])).length) Slot.unset).toArray = ls at hl ⊢
  have hl : lv_has ls 4 [(0, .ref x), (1, .int c1)] := hl
  refine lv_aload_n hx hb dX5_ifStruck_0 rfl (lv_at hl 0 rfl) ?_
  refine lv_iload_n hx hb dX5_ifStruck_1 rfl (lv_at hl 1 rfl) ?_
  refine va_csq (va_Run.run (va_runV (As := [.int c1]) (rest := []) ⟨hx, hb, hml, hown, hts⟩ (c_X_find l dC dI x cd rd tp fo qu sh vs pa pb c1) (cwV 1 hts gX5_ifStruck_X5_find rfl rfl rfl (by decide +kernel) ⟨Nat.le_of_ble_eq_true rfl, Nat.le_of_ble_eq_true rfl⟩) ⟨PS_blind, va_recv hK hP (ci := 10) (q0 := 0) rfl rfl, PS_pre hP hK hF⟩ rfl rfl hl.1 rfl (lv_room (Nat.le_of_ble_eq_true rfl)) dX5_ifStruck_2 ⟨Nat.le_of_ble_eq_true rfl, Nat.le_of_ble_eq_true rfl⟩)) (fun r_1 hr_1 => ?_)
  subst hr_1
  refine W.eq (g2 := F0 m 5 ls [.null]) rfl ?_
  refine lv_ifnonnullN hx hb dX5_ifStruck_5 ?_
  refine lv_iconst (v := (-1)) hx hb dX5_ifStruck_8 (by decide) ?_
  exact W.iret (v := (-1)) hx hb hr (fun t ht hW => ⟨_, rfl, rfl, ht⟩) (fun _ h9 => absurd h9 List.not_mem_nil) dX5_ifStruck_9

set_option maxHeartbeats 4000000 in
set_option maxRecDepth 100000 in
theorem c_X_cell (l : Launch) (dC : Nat → ClassId) (dI : Nat → Nat → Nat) (x : Nat) (cd : Nat) (rd : Nat) (tp : Nat) (fo : Nat) (qu : Nat) (sh : Nat) (vs : Nat) (pa : Nat) (pb : Nat) (c1 : Int32) (c2 : Int32) : Met l yX5_cell wsX5_cell ({ frames := 1, cells := 0, slots := 0, locals := 21 }) (va_Pc [.ref x, .int c1, .int c2] (PS dC dI [(x, .inr (10, [.ref cd, .int 0, .ref rd, .int 0, .ref tp, .ref fo, .int 10, .ref qu, .int 0, .int 0, .ref sh, .ref vs, .ref pa, .ref pb]))] [])) (vp_Si (fun r => r = (-5))) 0 0 (fun _ => False) := by
  refine Met.ofW (cc := cX5_cell) (maxL := 5) (ret := (some .int)) (by decide) rfl ?_
  intro p e s m args below meth c s₁ B hml hv
  obtain ⟨rfl, hP, hK, hF⟩ := hv
  have hx := B.exec
  have hb := B.bytes
  have hr := B.returns
  have hts := atoms_spec (ws := wsX5_cell) B.pre
  have hown : s.vm.findClass RX5 = some m.cls := findClass_of_methodNamed B.named
  have hlocks := B.notSynchronized
  have hl := lv_entry ([.ref x, .int c1, .int c2]) (n := 5) (Nat.le_of_ble_eq_true rfl)
  rw [lg_entry_eq]
  generalize (lg_sl ([.ref x, .int c1, .int c2]) ++ List.replicate (5 - (lg_sl ([.ref x, .int c1, .int c2])).length) Slot.unset).toArray = ls at hl ⊢
  have hl : lv_has ls 5 [(0, .ref x), (1, .int c1), (2, .int c2)] := hl
  refine lv_aload_n hx hb dX5_cell_0 rfl (lv_at hl 0 rfl) ?_
  refine lv_iload_n hx hb dX5_cell_1 rfl (lv_at hl 1 rfl) ?_
  refine va_csq (va_Run.run (va_runV (As := [.int c1]) (rest := []) ⟨hx, hb, hml, hown, hts⟩ (c_X_find l dC dI x cd rd tp fo qu sh vs pa pb c1) (cwV 1 hts gX5_cell_X5_find rfl rfl rfl (by decide +kernel) ⟨Nat.le_of_ble_eq_true rfl, Nat.le_of_ble_eq_true rfl⟩) ⟨PS_blind, va_recv hK hP (ci := 10) (q0 := 0) rfl rfl, PS_pre hP hK hF⟩ rfl rfl hl.1 rfl (lv_room (Nat.le_of_ble_eq_true rfl)) dX5_cell_2 ⟨Nat.le_of_ble_eq_true rfl, Nat.le_of_ble_eq_true rfl⟩)) (fun r_1 hr_1 => ?_)
  subst hr_1
  refine W.eq (g2 := F0 m 5 ls [.null]) rfl ?_
  refine lv_astore_nN (lv' := [(3, .null), (0, .ref x), (1, .int c1), (2, .int c2)]) hx hb dX5_cell_5 rfl hl (by decide) rfl (fun ls hl => ?_)
  refine lv_aload_nN hx hb dX5_cell_6 rfl (lv_at hl 0 rfl) ?_
  refine lv_ifnonnullN hx hb dX5_cell_7 ?_
  refine lv_bipush (v := (-5)) hx hb dX5_cell_10 (by decide) ?_
  exact W.iret (v := (-5)) hx hb hr (fun t ht hW => ⟨_, rfl, rfl, ht⟩) (fun _ h9 => absurd h9 List.not_mem_nil) dX5_cell_12

set_option maxHeartbeats 4000000 in
set_option maxRecDepth 100000 in
theorem c_X_kin (l : Launch) (dC : Nat → ClassId) (dI : Nat → Nat → Nat) (x : Nat) (cd : Nat) (rd : Nat) (tp : Nat) (fo : Nat) (qu : Nat) (sh : Nat) (vs : Nat) (pa : Nat) (pb : Nat) (c1 : Int32) (c2 : Int32) : Met l yX5_kin wsX5_kin ({ frames := 1, cells := 0, slots := 0, locals := 21 }) (va_Pc [.ref x, .int c1, .int c2] (PS dC dI [(x, .inr (10, [.ref cd, .int 0, .ref rd, .int 0, .ref tp, .ref fo, .int 10, .ref qu, .int 0, .int 0, .ref sh, .ref vs, .ref pa, .ref pb]))] [])) (vp_Si (fun r => r = (-1))) 0 0 (fun _ => False) := by
  refine Met.ofW (cc := cX5_kin) (maxL := 5) (ret := (some .int)) (by decide) rfl ?_
  intro p e s m args below meth c s₁ B hml hv
  obtain ⟨rfl, hP, hK, hF⟩ := hv
  have hx := B.exec
  have hb := B.bytes
  have hr := B.returns
  have hts := atoms_spec (ws := wsX5_kin) B.pre
  have hown : s.vm.findClass RX5 = some m.cls := findClass_of_methodNamed B.named
  have hlocks := B.notSynchronized
  have hl := lv_entry ([.ref x, .int c1, .int c2]) (n := 5) (Nat.le_of_ble_eq_true rfl)
  rw [lg_entry_eq]
  generalize (lg_sl ([.ref x, .int c1, .int c2]) ++ List.replicate (5 - (lg_sl ([.ref x, .int c1, .int c2])).length) Slot.unset).toArray = ls at hl ⊢
  have hl : lv_has ls 5 [(0, .ref x), (1, .int c1), (2, .int c2)] := hl
  refine lv_aload_n hx hb dX5_kin_0 rfl (lv_at hl 0 rfl) ?_
  refine lv_iload_n hx hb dX5_kin_1 rfl (lv_at hl 1 rfl) ?_
  refine va_csq (va_Run.run (va_runV (As := [.int c1]) (rest := []) ⟨hx, hb, hml, hown, hts⟩ (c_X_find l dC dI x cd rd tp fo qu sh vs pa pb c1) (cwV 1 hts gX5_kin_X5_find rfl rfl rfl (by decide +kernel) ⟨Nat.le_of_ble_eq_true rfl, Nat.le_of_ble_eq_true rfl⟩) ⟨PS_blind, va_recv hK hP (ci := 10) (q0 := 0) rfl rfl, PS_pre hP hK hF⟩ rfl rfl hl.1 rfl (lv_room (Nat.le_of_ble_eq_true rfl)) dX5_kin_2 ⟨Nat.le_of_ble_eq_true rfl, Nat.le_of_ble_eq_true rfl⟩)) (fun r_1 hr_1 => ?_)
  subst hr_1
  refine W.eq (g2 := F0 m 5 ls [.null]) rfl ?_
  refine lv_astore_nN (lv' := [(3, .null), (0, .ref x), (1, .int c1), (2, .int c2)]) hx hb dX5_kin_5 rfl hl (by decide) rfl (fun ls hl => ?_)
  refine lv_aload_n hx hb dX5_kin_6 rfl (lv_at hl 1 rfl) ?_
  refine lv_iload_n hx hb dX5_kin_7 rfl (lv_at hl 3 rfl) ?_
  refine va_csq (va_Run.run (va_runV (As := [.int c2]) (rest := []) ⟨hx, hb, hml, hown, hts⟩ (c_X_find l dC dI x cd rd tp fo qu sh vs pa pb c2) (cwV 1 hts gX5_kin_X5_find rfl rfl rfl (by decide +kernel) ⟨Nat.le_of_ble_eq_true rfl, Nat.le_of_ble_eq_true rfl⟩) ⟨PS_blind, va_recv hK hP (ci := 10) (q0 := 0) rfl rfl, PS_pre hP hK hF⟩ rfl rfl hl.1 rfl (lv_room (Nat.le_of_ble_eq_true rfl)) dX5_kin_8 ⟨Nat.le_of_ble_eq_true rfl, Nat.le_of_ble_eq_true rfl⟩)) (fun r_2 hr_2 => ?_)
  subst hr_2
  refine W.eq (g2 := F0 m 11 ls [.null]) rfl ?_
  refine lv_astoreN (lv' := [(4, .null), (3, .null), (0, .ref x), (1, .int c1), (2, .int c2)]) hx hb dX5_kin_11 hl (by decide) rfl (fun ls hl => ?_)
  refine lv_aload_nN hx hb dX5_kin_13 rfl (lv_at hl 1 rfl) ?_
  refine lv_ifnullN (tgt := 22) hx hb dX5_kin_14 (by decide) ?_
  refine lv_iconst (v := (-1)) hx hb dX5_kin_22 (by decide) ?_
  exact W.iret (v := (-1)) hx hb hr (fun t ht hW => ⟨_, rfl, rfl, ht⟩) (fun _ h9 => absurd h9 List.not_mem_nil) dX5_kin_23

set_option maxHeartbeats 4000000 in
set_option maxRecDepth 100000 in
theorem c_X_near (l : Launch) (dC : Nat → ClassId) (dI : Nat → Nat → Nat) (x : Nat) (cd : Nat) (rd : Nat) (tp : Nat) (fo : Nat) (qu : Nat) (sh : Nat) (vs : Nat) (pa : Nat) (pb : Nat) : Met l yX5_near wsX5_near ({ frames := 0, cells := 0, slots := 0, locals := 0 }) (va_Pc [.ref x] (PS dC dI [(x, .inr (10, [.ref cd, .int 0, .ref rd, .int 0, .ref tp, .ref fo, .int 10, .ref qu, .int 0, .int 0, .ref sh, .ref vs, .ref pa, .ref pb]))] [])) (vp_Si (fun r => r = 0)) 0 0 (fun _ => False) := by
  refine Met.ofW (cc := cX5_near) (maxL := 4) (ret := (some .int)) (by decide) rfl ?_
  intro p e s m args below meth c s₁ B hml hv
  obtain ⟨rfl, hP, hK, hF⟩ := hv
  have hx := B.exec
  have hb := B.bytes
  have hr := B.returns
  have hts := atoms_spec (ws := wsX5_near) B.pre
  have hown : s.vm.findClass RX5 = some m.cls := findClass_of_methodNamed B.named
  have hlocks := B.notSynchronized
  have hl := lv_entry ([.ref x]) (n := 4) (Nat.le_of_ble_eq_true rfl)
  rw [lg_entry_eq]
  generalize (lg_sl ([.ref x]) ++ List.replicate (4 - (lg_sl ([.ref x])).length) Slot.unset).toArray = ls at hl ⊢
  have hl : lv_has ls 4 [(0, .ref x)] := hl
  refine lv_iconst (v := 0) hx hb dX5_near_0 (by decide) ?_
  refine lv_istore_n (lv' := [(1, .int 0), (0, .ref x)]) hx hb dX5_near_1 rfl hl (by decide) rfl (fun ls hl => ?_)
  refine lv_iconst (v := 0) hx hb dX5_near_2 (by decide) ?_
  refine lv_istore_n (lv' := [(2, .int 0), (1, .int 0), (0, .ref x)]) hx hb dX5_near_3 rfl hl (by decide) rfl (fun ls hl => ?_)
  refine lv_iload_n hx hb dX5_near_4 rfl (lv_at hl 0 rfl) ?_
  refine lv_aload_n hx hb dX5_near_5 rfl (lv_at hl 2 rfl) ?_
  refine va_get (D := (dC, dI)) (ci := 10) (v := .int 0) (C := RX5) (T := TX5) (N := 14) hx hb hts (fun _ h9 => List.mem_cons_of_mem _ (List.mem_append_left _ (List.mem_append_right _ (h9)))) hown hK hP 0 rfl rfl 1 (by decide) (hts (.fieldLink RX5 15 "ExamHalls" "candidateCount" "I") (List.mem_of_getElem? (i := 1) rfl)) (fun _ h9 => h9) rfl dX5_near_6 ?_
  refine lv_icmp_ge (tgt := 56) hx hb dX5_near_9 (by decide) (fun _ => ?_) (fun c_1 => absurd (by decide) c_1)
  refine lv_iload_n hx hb dX5_near_56 rfl (lv_at hl 1 rfl) ?_
  exact W.iret (v := 0) hx hb hr (fun t ht hW => ⟨_, rfl, rfl, ht⟩) (fun _ h9 => absurd h9 List.not_mem_nil) dX5_near_57

set_option maxHeartbeats 4000000 in
set_option maxRecDepth 100000 in
theorem c_X_essayCount (l : Launch) (dC : Nat → ClassId) (dI : Nat → Nat → Nat) (x : Nat) (cd : Nat) (rd : Nat) (tp : Nat) (fo : Nat) (qu : Nat) (sh : Nat) (vs : Nat) (pa : Nat) (pb : Nat) : Met l yX5_essayCount wsX5_essayCount ({ frames := 0, cells := 0, slots := 0, locals := 0 }) (va_Pc [.ref x] (PS dC dI [(x, .inr (10, [.ref cd, .int 0, .ref rd, .int 0, .ref tp, .ref fo, .int 10, .ref qu, .int 0, .int 0, .ref sh, .ref vs, .ref pa, .ref pb]))] [])) (vp_Si (fun r => r = 0)) 0 0 (fun _ => False) := by
  refine Met.ofW (cc := cX5_essayCount) (maxL := 3) (ret := (some .int)) (by decide) rfl ?_
  intro p e s m args below meth c s₁ B hml hv
  obtain ⟨rfl, hP, hK, hF⟩ := hv
  have hx := B.exec
  have hb := B.bytes
  have hr := B.returns
  have hts := atoms_spec (ws := wsX5_essayCount) B.pre
  have hown : s.vm.findClass RX5 = some m.cls := findClass_of_methodNamed B.named
  have hlocks := B.notSynchronized
  have hl := lv_entry ([.ref x]) (n := 3) (Nat.le_of_ble_eq_true rfl)
  rw [lg_entry_eq]
  generalize (lg_sl ([.ref x]) ++ List.replicate (3 - (lg_sl ([.ref x])).length) Slot.unset).toArray = ls at hl ⊢
  have hl : lv_has ls 3 [(0, .ref x)] := hl
  refine lv_iconst (v := 0) hx hb dX5_essayCount_0 (by decide) ?_
  refine lv_istore_n (lv' := [(1, .int 0), (0, .ref x)]) hx hb dX5_essayCount_1 rfl hl (by decide) rfl (fun ls hl => ?_)
  refine lv_iconst (v := 0) hx hb dX5_essayCount_2 (by decide) ?_
  refine lv_istore_n (lv' := [(2, .int 0), (1, .int 0), (0, .ref x)]) hx hb dX5_essayCount_3 rfl hl (by decide) rfl (fun ls hl => ?_)
  refine lv_iload_n hx hb dX5_essayCount_4 rfl (lv_at hl 0 rfl) ?_
  refine lv_aload_n hx hb dX5_essayCount_5 rfl (lv_at hl 2 rfl) ?_
  refine va_get (D := (dC, dI)) (ci := 10) (v := .int 0) (C := RX5) (T := TX5) (N := 14) hx hb hts (fun _ h9 => List.mem_cons_of_mem _ (List.mem_append_left _ (List.mem_append_right _ (h9)))) hown hK hP 0 rfl rfl 1 (by decide) (hts (.fieldLink RX5 15 "ExamHalls" "candidateCount" "I") (List.mem_of_getElem? (i := 1) rfl)) (fun _ h9 => h9) rfl dX5_essayCount_6 ?_
  refine lv_icmp_ge (tgt := 34) hx hb dX5_essayCount_9 (by decide) (fun _ => ?_) (fun c_1 => absurd (by decide) c_1)
  refine lv_iload_n hx hb dX5_essayCount_34 rfl (lv_at hl 1 rfl) ?_
  exact W.iret (v := 0) hx hb hr (fun t ht hW => ⟨_, rfl, rfl, ht⟩) (fun _ h9 => absurd h9 List.not_mem_nil) dX5_essayCount_35

set_option maxHeartbeats 4000000 in
set_option maxRecDepth 100000 in
theorem c_X_struckCount (l : Launch) (dC : Nat → ClassId) (dI : Nat → Nat → Nat) (x : Nat) (cd : Nat) (rd : Nat) (tp : Nat) (fo : Nat) (qu : Nat) (sh : Nat) (vs : Nat) (pa : Nat) (pb : Nat) : Met l yX5_struckCount wsX5_struckCount ({ frames := 0, cells := 0, slots := 0, locals := 0 }) (va_Pc [.ref x] (PS dC dI [(x, .inr (10, [.ref cd, .int 0, .ref rd, .int 0, .ref tp, .ref fo, .int 10, .ref qu, .int 0, .int 0, .ref sh, .ref vs, .ref pa, .ref pb]))] [])) (vp_Si (fun r => r = 0)) 0 0 (fun _ => False) := by
  refine Met.ofW (cc := cX5_struckCount) (maxL := 4) (ret := (some .int)) (by decide) rfl ?_
  intro p e s m args below meth c s₁ B hml hv
  obtain ⟨rfl, hP, hK, hF⟩ := hv
  have hx := B.exec
  have hb := B.bytes
  have hr := B.returns
  have hts := atoms_spec (ws := wsX5_struckCount) B.pre
  have hown : s.vm.findClass RX5 = some m.cls := findClass_of_methodNamed B.named
  have hlocks := B.notSynchronized
  have hl := lv_entry ([.ref x]) (n := 4) (Nat.le_of_ble_eq_true rfl)
  rw [lg_entry_eq]
  generalize (lg_sl ([.ref x]) ++ List.replicate (4 - (lg_sl ([.ref x])).length) Slot.unset).toArray = ls at hl ⊢
  have hl : lv_has ls 4 [(0, .ref x)] := hl
  refine lv_iconst (v := 0) hx hb dX5_struckCount_0 (by decide) ?_
  refine lv_istore_n (lv' := [(1, .int 0), (0, .ref x)]) hx hb dX5_struckCount_1 rfl hl (by decide) rfl (fun ls hl => ?_)
  refine lv_iconst (v := 0) hx hb dX5_struckCount_2 (by decide) ?_
  refine lv_istore_n (lv' := [(2, .int 0), (1, .int 0), (0, .ref x)]) hx hb dX5_struckCount_3 rfl hl (by decide) rfl (fun ls hl => ?_)
  refine lv_iload_n hx hb dX5_struckCount_4 rfl (lv_at hl 0 rfl) ?_
  refine lv_aload_n hx hb dX5_struckCount_5 rfl (lv_at hl 2 rfl) ?_
  refine va_get (D := (dC, dI)) (ci := 10) (v := .int 0) (C := RX5) (T := TX5) (N := 14) hx hb hts (fun _ h9 => List.mem_cons_of_mem _ (List.mem_append_left _ (List.mem_append_right _ (h9)))) hown hK hP 0 rfl rfl 1 (by decide) (hts (.fieldLink RX5 15 "ExamHalls" "candidateCount" "I") (List.mem_of_getElem? (i := 1) rfl)) (fun _ h9 => h9) rfl dX5_struckCount_6 ?_
  refine lv_icmp_ge (tgt := 43) hx hb dX5_struckCount_9 (by decide) (fun _ => ?_) (fun c_1 => absurd (by decide) c_1)
  refine lv_iload_n hx hb dX5_struckCount_43 rfl (lv_at hl 1 rfl) ?_
  exact W.iret (v := 0) hx hb hr (fun t ht hW => ⟨_, rfl, rfl, ht⟩) (fun _ h9 => absurd h9 List.not_mem_nil) dX5_struckCount_44

set_option maxHeartbeats 4000000 in
set_option maxRecDepth 100000 in
theorem c_X_markCount (l : Launch) (dC : Nat → ClassId) (dI : Nat → Nat → Nat) (x : Nat) (cd : Nat) (rd : Nat) (tp : Nat) (fo : Nat) (qu : Nat) (sh : Nat) (vs : Nat) (pa : Nat) (pb : Nat) : Met l yX5_markCount wsX5_markCount ({ frames := 0, cells := 0, slots := 0, locals := 0 }) (va_Pc [.ref x] (PS dC dI [(x, .inr (10, [.ref cd, .int 0, .ref rd, .int 0, .ref tp, .ref fo, .int 10, .ref qu, .int 0, .int 0, .ref sh, .ref vs, .ref pa, .ref pb]))] [])) (vp_Si (fun r => r = 0)) 0 0 (fun _ => False) := by
  refine Met.ofW (cc := cX5_markCount) (maxL := 4) (ret := (some .int)) (by decide) rfl ?_
  intro p e s m args below meth c s₁ B hml hv
  obtain ⟨rfl, hP, hK, hF⟩ := hv
  have hx := B.exec
  have hb := B.bytes
  have hr := B.returns
  have hts := atoms_spec (ws := wsX5_markCount) B.pre
  have hown : s.vm.findClass RX5 = some m.cls := findClass_of_methodNamed B.named
  have hlocks := B.notSynchronized
  have hl := lv_entry ([.ref x]) (n := 4) (Nat.le_of_ble_eq_true rfl)
  rw [lg_entry_eq]
  generalize (lg_sl ([.ref x]) ++ List.replicate (4 - (lg_sl ([.ref x])).length) Slot.unset).toArray = ls at hl ⊢
  have hl : lv_has ls 4 [(0, .ref x)] := hl
  refine lv_iconst (v := 0) hx hb dX5_markCount_0 (by decide) ?_
  refine lv_istore_n (lv' := [(1, .int 0), (0, .ref x)]) hx hb dX5_markCount_1 rfl hl (by decide) rfl (fun ls hl => ?_)
  refine lv_iconst (v := 0) hx hb dX5_markCount_2 (by decide) ?_
  refine lv_istore_n (lv' := [(2, .int 0), (1, .int 0), (0, .ref x)]) hx hb dX5_markCount_3 rfl hl (by decide) rfl (fun ls hl => ?_)
  refine lv_iload_n hx hb dX5_markCount_4 rfl (lv_at hl 0 rfl) ?_
  refine lv_aload_n hx hb dX5_markCount_5 rfl (lv_at hl 2 rfl) ?_
  refine va_get (D := (dC, dI)) (ci := 10) (v := .int 0) (C := RX5) (T := TX5) (N := 14) hx hb hts (fun _ h9 => List.mem_cons_of_mem _ (List.mem_append_left _ (List.mem_append_right _ (h9)))) hown hK hP 0 rfl rfl 1 (by decide) (hts (.fieldLink RX5 15 "ExamHalls" "candidateCount" "I") (List.mem_of_getElem? (i := 1) rfl)) (fun _ h9 => h9) rfl dX5_markCount_6 ?_
  refine lv_icmp_ge (tgt := 39) hx hb dX5_markCount_9 (by decide) (fun _ => ?_) (fun c_1 => absurd (by decide) c_1)
  refine lv_iload_n hx hb dX5_markCount_39 rfl (lv_at hl 1 rfl) ?_
  exact W.iret (v := 0) hx hb hr (fun t ht hW => ⟨_, rfl, rfl, ht⟩) (fun _ h9 => absurd h9 List.not_mem_nil) dX5_markCount_40

set_option maxHeartbeats 4000000 in
set_option maxRecDepth 100000 in
theorem c_X_passingCount (l : Launch) (dC : Nat → ClassId) (dI : Nat → Nat → Nat) (x : Nat) (cd : Nat) (rd : Nat) (tp : Nat) (fo : Nat) (qu : Nat) (sh : Nat) (vs : Nat) (pa : Nat) (pb : Nat) : Met l yX5_passingCount wsX5_passingCount ({ frames := 0, cells := 0, slots := 0, locals := 0 }) (va_Pc [.ref x] (PS dC dI [(x, .inr (10, [.ref cd, .int 0, .ref rd, .int 0, .ref tp, .ref fo, .int 10, .ref qu, .int 0, .int 0, .ref sh, .ref vs, .ref pa, .ref pb]))] [])) (vp_Si (fun r => r = 0)) 0 0 (fun _ => False) := by
  refine Met.ofW (cc := cX5_passingCount) (maxL := 3) (ret := (some .int)) (by decide) rfl ?_
  intro p e s m args below meth c s₁ B hml hv
  obtain ⟨rfl, hP, hK, hF⟩ := hv
  have hx := B.exec
  have hb := B.bytes
  have hr := B.returns
  have hts := atoms_spec (ws := wsX5_passingCount) B.pre
  have hown : s.vm.findClass RX5 = some m.cls := findClass_of_methodNamed B.named
  have hlocks := B.notSynchronized
  have hl := lv_entry ([.ref x]) (n := 3) (Nat.le_of_ble_eq_true rfl)
  rw [lg_entry_eq]
  generalize (lg_sl ([.ref x]) ++ List.replicate (3 - (lg_sl ([.ref x])).length) Slot.unset).toArray = ls at hl ⊢
  have hl : lv_has ls 3 [(0, .ref x)] := hl
  refine lv_iconst (v := 0) hx hb dX5_passingCount_0 (by decide) ?_
  refine lv_istore_n (lv' := [(1, .int 0), (0, .ref x)]) hx hb dX5_passingCount_1 rfl hl (by decide) rfl (fun ls hl => ?_)
  refine lv_iconst (v := 0) hx hb dX5_passingCount_2 (by decide) ?_
  refine lv_istore_n (lv' := [(2, .int 0), (1, .int 0), (0, .ref x)]) hx hb dX5_passingCount_3 rfl hl (by decide) rfl (fun ls hl => ?_)
  refine lv_iload_n hx hb dX5_passingCount_4 rfl (lv_at hl 0 rfl) ?_
  refine lv_aload_n hx hb dX5_passingCount_5 rfl (lv_at hl 2 rfl) ?_
  refine va_get (D := (dC, dI)) (ci := 10) (v := .int 0) (C := RX5) (T := TX5) (N := 14) hx hb hts (fun _ h9 => List.mem_cons_of_mem _ (List.mem_append_right _ (h9))) hown hK hP 0 rfl rfl 1 (by decide) (hts (.fieldLink RX5 15 "ExamHalls" "candidateCount" "I") (List.mem_of_getElem? (i := 1) rfl)) (fun _ h9 => h9) rfl dX5_passingCount_6 ?_
  refine lv_icmp_ge (tgt := 35) hx hb dX5_passingCount_9 (by decide) (fun _ => ?_) (fun c_1 => absurd (by decide) c_1)
  refine lv_iload_n hx hb dX5_passingCount_35 rfl (lv_at hl 1 rfl) ?_
  exact W.iret (v := 0) hx hb hr (fun t ht hW => ⟨_, rfl, rfl, ht⟩) (fun _ h9 => absurd h9 List.not_mem_nil) dX5_passingCount_36
end
section
set_option maxHeartbeats 4000000 in
set_option maxRecDepth 100000 in
theorem c_X0_init (l : Launch) (dC : Nat → ClassId) (dI : Nat → Nat → Nat) (y : Nat) (v : Int32) (sz : Nat) : Met l yX0_init wsX0_init ({ frames := 1, cells := 3, slots := 14, locals := 12 }) (va_Pc [.ref y, .int v] (PQ dC dI sz [(y, .inr (5, [.int 0, .null, .int 0, .int 0, .int 0, .int 0, .null, .null, .null, .int 0]))] [])) (va_Qv (fun _ : Unit => True) (fun _ t => ∃ (g1 : Nat) (g2 : Nat) (g3 : Nat), va_P (dC, dI) vwCl [(y, .inr (5, [.int v, .null, .int (-1), .int (-1), .int 0, .int 0, .ref g1, .ref g2, .ref g3, .int 0]))] t.heap ∧ va_K (dC, dI) vwCl [] t ∧ va_D (va_A [(y, .inr (5, [.int 0, .null, .int 0, .int 0, .int 0, .int 0, .null, .null, .null, .int 0]))] sz) [(y, .inr (5, [.int v, .null, .int (-1), .int (-1), .int 0, .int 0, .ref g1, .ref g2, .ref g3, .int 0]))]) (va_A [(y, .inr (5, [.int 0, .null, .int 0, .int 0, .int 0, .int 0, .null, .null, .null, .int 0]))] sz)) 3 14 (va_A [(y, .inr (5, [.int 0, .null, .int 0, .int 0, .int 0, .int 0, .null, .null, .null, .int 0]))] sz) := by
  refine Met.ofW (cc := cX0_init) (maxL := 2) (ret := none) (by decide) rfl ?_
  intro p e s m args below meth c s₁ B hml hv
  obtain ⟨rfl, hsz, hP, hK, hD0, hF⟩ := hv
  have hx := B.exec
  have hb := B.bytes
  have hr := B.returns
  have hts := atoms_spec (ws := wsX0_init) B.pre
  have hown : s.vm.findClass RX0 = some m.cls := findClass_of_methodNamed B.named
  have hlocks := B.notSynchronized
  have hin : meth.name = "<init>" := (name_of_methodNamed B.named B.method).1
  subst hsz
  have hD := hD0.self (sz := s.heap.size)
  generalize hAe : va_A [(y, .inr (5, [.int 0, .null, .int 0, .int 0, .int 0, .int 0, .null, .null, .null, .int 0]))] s.heap.size = A at hD ⊢
  have hA : ∀ q : Nat, s.heap.size ≤ q → A q := fun q h => by rw [← hAe]; exact Or.inr h
  have hS : va_S A s.heap s.heap [] := va_S.rf
  have hl := lv_entry ([.ref y, .int v]) (n := 2) (Nat.le_of_ble_eq_true rfl)
  rw [lg_entry_eq]
  generalize (lg_sl ([.ref y, .int v]) ++ List.replicate (2 - (lg_sl ([.ref y, .int v])).length) Slot.unset).toArray = ls at hl ⊢
  have hl : lv_has ls 2 [(0, .ref y), (1, .int v)] := hl
  refine lv_aload_n hx hb dX0_init_0 rfl (lv_at hl 0 rfl) ?_
  refine W.objInit hx hb hown (hts (.methodLink RX0 3 objectInit) (List.mem_of_getElem? (i := 1) rfl)) (hts (.instanceMethod objectInit) (List.mem_of_getElem? (i := 2) rfl)) (hts _ (List.mem_of_getElem? (i := 3) rfl)) rfl (by rw [hml]; exact hl.1) rfl dX0_init_1 (Nat.le_of_ble_eq_true rfl) (Nat.le_of_ble_eq_true rfl) ?_
  refine W.eq (g2 := F0 m 4 ls []) rfl ?_
  refine lv_aload_n hx hb dX0_init_4 rfl (lv_at hl 0 rfl) ?_
  refine lv_null hx hb dX0_init_5 ?_
  refine va_put (D := (dC, dI)) (ci := 5) (v := .null) (ty := .object "ExamHalls$Essay") (C := RX0) (T := TX0) (N := 10) hx hb hts (fun _ h9 => List.mem_cons_of_mem _ (List.mem_append_right _ (h9))) tyX0 tyX0_ok nmX0 hown hK hP hD hS 0 rfl rfl 1 (by decide) (hts (.fieldLink RX0 9 "ExamHalls$Candidate" "text" "LExamHalls$Essay;") (List.mem_of_getElem? (i := 4) rfl)) (fun _ h9 => h9) rfl (by decide +kernel) rfl rfl (Nat.le_of_ble_eq_true rfl) dX0_init_6 (fun H locs hP hD hS => ?_)
  have hP : va_P (dC, dI) vwCl [(y, .inr (5, [.int 0, .null, .int 0, .int 0, .int 0, .int 0, .null, .null, .null, .int 0]))] H := hP
  have hD : va_D A [(y, .inr (5, [.int 0, .null, .int 0, .int 0, .int 0, .int 0, .null, .null, .null, .int 0]))] := hD
  refine lv_aload_n hx hb dX0_init_9 rfl (lv_at hl 0 rfl) ?_
  refine lv_iconst (v := (-1)) hx hb dX0_init_10 (by decide) ?_
  refine va_put (D := (dC, dI)) (ci := 5) (v := .int (-1)) (ty := .int) (C := RX0) (T := TX0) (N := 10) hx hb hts (fun _ h9 => List.mem_cons_of_mem _ (List.mem_append_right _ (h9))) tyX0 tyX0_ok nmX0 hown hK hP hD hS 0 rfl rfl 2 (by decide) (hts (.fieldLink RX0 15 "ExamHalls$Candidate" "number" "I") (List.mem_of_getElem? (i := 5) rfl)) (fun _ h9 => h9) rfl (by decide +kernel) rfl rfl (Nat.le_of_ble_eq_true rfl) dX0_init_11 (fun H locs hP hD hS => ?_)
  have hP : va_P (dC, dI) vwCl [(y, .inr (5, [.int 0, .null, .int (-1), .int 0, .int 0, .int 0, .null, .null, .null, .int 0]))] H := hP
  have hD : va_D A [(y, .inr (5, [.int 0, .null, .int (-1), .int 0, .int 0, .int 0, .null, .null, .null, .int 0]))] := hD
  refine lv_aload_n hx hb dX0_init_14 rfl (lv_at hl 0 rfl) ?_
  refine lv_iconst (v := (-1)) hx hb dX0_init_15 (by decide) ?_
  refine va_put (D := (dC, dI)) (ci := 5) (v := .int (-1)) (ty := .int) (C := RX0) (T := TX0) (N := 10) hx hb hts (fun _ h9 => List.mem_cons_of_mem _ (List.mem_append_right _ (h9))) tyX0 tyX0_ok nmX0 hown hK hP hD hS 0 rfl rfl 3 (by decide) (hts (.fieldLink RX0 19 "ExamHalls$Candidate" "place" "I") (List.mem_of_getElem? (i := 6) rfl)) (fun _ h9 => h9) rfl (by decide +kernel) rfl rfl (Nat.le_of_ble_eq_true rfl) dX0_init_16 (fun H locs hP hD hS => ?_)
  have hP : va_P (dC, dI) vwCl [(y, .inr (5, [.int 0, .null, .int (-1), .int (-1), .int 0, .int 0, .null, .null, .null, .int 0]))] H := hP
  have hD : va_D A [(y, .inr (5, [.int 0, .null, .int (-1), .int (-1), .int 0, .int 0, .null, .null, .null, .int 0]))] := hD
  refine lv_aload_n hx hb dX0_init_19 rfl (lv_at hl 0 rfl) ?_
  refine lv_iconst (v := 0) hx hb dX0_init_20 (by decide) ?_
  refine va_put (D := (dC, dI)) (ci := 5) (v := .int 0) (ty := .boolean) (C := RX0) (T := TX0) (N := 10) hx hb hts (fun _ h9 => List.mem_cons_of_mem _ (List.mem_append_right _ (h9))) tyX0 tyX0_ok nmX0 hown hK hP hD hS 0 rfl rfl 4 (by decide) (hts (.fieldLink RX0 22 "ExamHalls$Candidate" "struck" "Z") (List.mem_of_getElem? (i := 7) rfl)) (fun _ h9 => h9) rfl (by decide +kernel) (by decide) (by decide) (Nat.le_of_ble_eq_true rfl) dX0_init_21 (fun H locs hP hD hS => ?_)
  have hP : va_P (dC, dI) vwCl [(y, .inr (5, [.int 0, .null, .int (-1), .int (-1), .int 0, .int 0, .null, .null, .null, .int 0]))] H := hP
  have hD : va_D A [(y, .inr (5, [.int 0, .null, .int (-1), .int (-1), .int 0, .int 0, .null, .null, .null, .int 0]))] := hD
  refine lv_aload_n hx hb dX0_init_24 rfl (lv_at hl 0 rfl) ?_
  refine lv_iconst (v := 0) hx hb dX0_init_25 (by decide) ?_
  refine va_put (D := (dC, dI)) (ci := 5) (v := .int 0) (ty := .int) (C := RX0) (T := TX0) (N := 10) hx hb hts (fun _ h9 => List.mem_cons_of_mem _ (List.mem_append_right _ (h9))) tyX0 tyX0_ok nmX0 hown hK hP hD hS 0 rfl rfl 5 (by decide) (hts (.fieldLink RX0 26 "ExamHalls$Candidate" "kinBits" "I") (List.mem_of_getElem? (i := 8) rfl)) (fun _ h9 => h9) rfl (by decide +kernel) rfl rfl (Nat.le_of_ble_eq_true rfl) dX0_init_26 (fun H locs hP hD hS => ?_)
  have hP : va_P (dC, dI) vwCl [(y, .inr (5, [.int 0, .null, .int (-1), .int (-1), .int 0, .int 0, .null, .null, .null, .int 0]))] H := hP
  have hD : va_D A [(y, .inr (5, [.int 0, .null, .int (-1), .int (-1), .int 0, .int 0, .null, .null, .null, .int 0]))] := hD
  refine lv_aload_n hx hb dX0_init_29 rfl (lv_at hl 0 rfl) ?_
  refine lv_bipush (v := 8) hx hb dX0_init_30 (by decide) ?_
  refine va_newa (atype := .int) (ty := .int) (a0 := (8, (.inl (fun _ => 0)))) hx hb (hts (.arrayClass .int) (List.mem_of_getElem? (i := 9) rfl)) rfl hK hP hD hS hA (fun _ => rfl) (by decide) (by decide) (Nat.le_of_ble_eq_true rfl) (Nat.le_of_ble_eq_true rfl) (Nat.le_of_ble_eq_true rfl) dX0_init_32 (fun q_1 k_2 H hK hP hD hS => ?_)
  have hP : va_P (dC, dI) vwCl [(y, .inr (5, [.int 0, .null, .int (-1), .int (-1), .int 0, .int 0, .null, .null, .null, .int 0])), (q_1, .inl (k_2, 8, .inl (fun _ => 0)))] H := hP
  have hD : va_D A [(y, .inr (5, [.int 0, .null, .int (-1), .int (-1), .int 0, .int 0, .null, .null, .null, .int 0])), (q_1, .inl (k_2, 8, .inl (fun _ => 0)))] := hD
  have hK : va_K (dC, dI) vwCl [(k_2, .int)] s := hK
  refine W.widen (k := 1) (n := 8) (Nat.le_of_ble_eq_true rfl) (Nat.le_of_ble_eq_true rfl) ?_
  refine va_putF (D := (dC, dI)) (ci := 5) (v := .ref q_1) (ty := .array .int) (C := RX0) (T := TX0) (N := 10) hx hb hts (fun _ h9 => List.mem_cons_of_mem _ (List.mem_append_right _ (h9))) tyX0 tyX0_ok nmX0 hown hK hP hD hS 0 rfl rfl 6 (by decide) (hts (.fieldLink RX0 29 "ExamHalls$Candidate" "seenBits" "[I") (List.mem_of_getElem? (i := 10) rfl)) (fun _ h9 => h9) rfl hin rfl (by decide +kernel) rfl rfl (Nat.le_of_ble_eq_true rfl) dX0_init_34 (fun H locs hP hD hS => ?_)
  have hP : va_P (dC, dI) vwCl [(y, .inr (5, [.int 0, .null, .int (-1), .int (-1), .int 0, .int 0, .ref q_1, .null, .null, .int 0])), (q_1, .inl (k_2, 8, .inl (fun _ => 0)))] H := hP
  have hD : va_D A [(y, .inr (5, [.int 0, .null, .int (-1), .int (-1), .int 0, .int 0, .ref q_1, .null, .null, .int 0])), (q_1, .inl (k_2, 8, .inl (fun _ => 0)))] := hD
  refine lv_aload_n hx hb dX0_init_37 rfl (lv_at hl 0 rfl) ?_
  refine lv_iconst (v := 3) hx hb dX0_init_38 (by decide) ?_
  refine va_newa (atype := .int) (ty := .int) (a0 := (3, (.inl (fun _ => 0)))) hx hb (hts (.arrayClass .int) (List.mem_of_getElem? (i := 9) rfl)) rfl hK hP hD hS hA (fun _ => rfl) (by decide) (by decide) (Nat.le_of_ble_eq_true rfl) (Nat.le_of_ble_eq_true rfl) (Nat.le_of_ble_eq_true rfl) dX0_init_39 (fun q_3 k_4 H hK hP hD hS => ?_)
  have hP : va_P (dC, dI) vwCl [(y, .inr (5, [.int 0, .null, .int (-1), .int (-1), .int 0, .int 0, .ref q_1, .null, .null, .int 0])), (q_1, .inl (k_2, 8, .inl (fun _ => 0))), (q_3, .inl (k_4, 3, .inl (fun _ => 0)))] H := hP
  have hD : va_D A [(y, .inr (5, [.int 0, .null, .int (-1), .int (-1), .int 0, .int 0, .ref q_1, .null, .null, .int 0])), (q_1, .inl (k_2, 8, .inl (fun _ => 0))), (q_3, .inl (k_4, 3, .inl (fun _ => 0)))] := hD
  have hK : va_K (dC, dI) vwCl [(k_2, .int), (k_4, .int)] s := hK
  refine W.widen (k := 2) (n := 11) (Nat.le_of_ble_eq_true rfl) (Nat.le_of_ble_eq_true rfl) ?_
  refine va_putF (D := (dC, dI)) (ci := 5) (v := .ref q_3) (ty := .array .int) (C := RX0) (T := TX0) (N := 10) hx hb hts (fun _ h9 => List.mem_cons_of_mem _ (List.mem_append_right _ (h9))) tyX0 tyX0_ok nmX0 hown hK hP hD hS 0 rfl rfl 7 (by decide) (hts (.fieldLink RX0 33 "ExamHalls$Candidate" "readBy" "[I") (List.mem_of_getElem? (i := 11) rfl)) (fun _ h9 => h9) rfl hin rfl (by decide +kernel) rfl rfl (Nat.le_of_ble_eq_true rfl) dX0_init_41 (fun H locs hP hD hS => ?_)
  have hP : va_P (dC, dI) vwCl [(y, .inr (5, [.int 0, .null, .int (-1), .int (-1), .int 0, .int 0, .ref q_1, .ref q_3, .null, .int 0])), (q_1, .inl (k_2, 8, .inl (fun _ => 0))), (q_3, .inl (k_4, 3, .inl (fun _ => 0)))] H := hP
  have hD : va_D A [(y, .inr (5, [.int 0, .null, .int (-1), .int (-1), .int 0, .int 0, .ref q_1, .ref q_3, .null, .int 0])), (q_1, .inl (k_2, 8, .inl (fun _ => 0))), (q_3, .inl (k_4, 3, .inl (fun _ => 0)))] := hD
  refine lv_aload_n hx hb dX0_init_44 rfl (lv_at hl 0 rfl) ?_
  refine lv_iconst (v := 3) hx hb dX0_init_45 (by decide) ?_
  refine va_newa (atype := .int) (ty := .int) (a0 := (3, (.inl (fun _ => 0)))) hx hb (hts (.arrayClass .int) (List.mem_of_getElem? (i := 9) rfl)) rfl hK hP hD hS hA (fun _ => rfl) (by decide) (by decide) (Nat.le_of_ble_eq_true rfl) (Nat.le_of_ble_eq_true rfl) (Nat.le_of_ble_eq_true rfl) dX0_init_46 (fun q_5 k_6 H hK hP hD hS => ?_)
  have hP : va_P (dC, dI) vwCl [(y, .inr (5, [.int 0, .null, .int (-1), .int (-1), .int 0, .int 0, .ref q_1, .ref q_3, .null, .int 0])), (q_1, .inl (k_2, 8, .inl (fun _ => 0))), (q_3, .inl (k_4, 3, .inl (fun _ => 0))), (q_5, .inl (k_6, 3, .inl (fun _ => 0)))] H := hP
  have hD : va_D A [(y, .inr (5, [.int 0, .null, .int (-1), .int (-1), .int 0, .int 0, .ref q_1, .ref q_3, .null, .int 0])), (q_1, .inl (k_2, 8, .inl (fun _ => 0))), (q_3, .inl (k_4, 3, .inl (fun _ => 0))), (q_5, .inl (k_6, 3, .inl (fun _ => 0)))] := hD
  have hK : va_K (dC, dI) vwCl [(k_2, .int), (k_4, .int), (k_6, .int)] s := hK
  refine W.widen (k := 3) (n := 14) (Nat.le_of_ble_eq_true rfl) (Nat.le_of_ble_eq_true rfl) ?_
  refine va_putF (D := (dC, dI)) (ci := 5) (v := .ref q_5) (ty := .array .int) (C := RX0) (T := TX0) (N := 10) hx hb hts (fun _ h9 => List.mem_cons_of_mem _ (List.mem_append_right _ (h9))) tyX0 tyX0_ok nmX0 hown hK hP hD hS 0 rfl rfl 8 (by decide) (hts (.fieldLink RX0 36 "ExamHalls$Candidate" "marks" "[I") (List.mem_of_getElem? (i := 12) rfl)) (fun _ h9 => h9) rfl hin rfl (by decide +kernel) rfl rfl (Nat.le_of_ble_eq_true rfl) dX0_init_48 (fun H locs hP hD hS => ?_)
  have hP : va_P (dC, dI) vwCl [(y, .inr (5, [.int 0, .null, .int (-1), .int (-1), .int 0, .int 0, .ref q_1, .ref q_3, .ref q_5, .int 0])), (q_1, .inl (k_2, 8, .inl (fun _ => 0))), (q_3, .inl (k_4, 3, .inl (fun _ => 0))), (q_5, .inl (k_6, 3, .inl (fun _ => 0)))] H := hP
  have hD : va_D A [(y, .inr (5, [.int 0, .null, .int (-1), .int (-1), .int 0, .int 0, .ref q_1, .ref q_3, .ref q_5, .int 0])), (q_1, .inl (k_2, 8, .inl (fun _ => 0))), (q_3, .inl (k_4, 3, .inl (fun _ => 0))), (q_5, .inl (k_6, 3, .inl (fun _ => 0)))] := hD
  refine lv_aload_n hx hb dX0_init_51 rfl (lv_at hl 0 rfl) ?_
  refine lv_iconst (v := 0) hx hb dX0_init_52 (by decide) ?_
  refine va_put (D := (dC, dI)) (ci := 5) (v := .int 0) (ty := .int) (C := RX0) (T := TX0) (N := 10) hx hb hts (fun _ h9 => List.mem_cons_of_mem _ (List.mem_append_right _ (h9))) tyX0 tyX0_ok nmX0 hown hK hP hD hS 0 rfl rfl 9 (by decide) (hts (.fieldLink RX0 39 "ExamHalls$Candidate" "readingCount" "I") (List.mem_of_getElem? (i := 13) rfl)) (fun _ h9 => h9) rfl (by decide +kernel) rfl rfl (Nat.le_of_ble_eq_true rfl) dX0_init_53 (fun H locs hP hD hS => ?_)
  have hP : va_P (dC, dI) vwCl [(y, .inr (5, [.int 0, .null, .int (-1), .int (-1), .int 0, .int 0, .ref q_1, .ref q_3, .ref q_5, .int 0])), (q_1, .inl (k_2, 8, .inl (fun _ => 0))), (q_3, .inl (k_4, 3, .inl (fun _ => 0))), (q_5, .inl (k_6, 3, .inl (fun _ => 0)))] H := hP
  have hD : va_D A [(y, .inr (5, [.int 0, .null, .int (-1), .int (-1), .int 0, .int 0, .ref q_1, .ref q_3, .ref q_5, .int 0])), (q_1, .inl (k_2, 8, .inl (fun _ => 0))), (q_3, .inl (k_4, 3, .inl (fun _ => 0))), (q_5, .inl (k_6, 3, .inl (fun _ => 0)))] := hD
  refine lv_aload_n hx hb dX0_init_56 rfl (lv_at hl 0 rfl) ?_
  refine lv_iload_n hx hb dX0_init_57 rfl (lv_at hl 1 rfl) ?_
  refine va_putF (D := (dC, dI)) (ci := 5) (v := .int v) (ty := .int) (C := RX0) (T := TX0) (N := 10) hx hb hts (fun _ h9 => List.mem_cons_of_mem _ (List.mem_append_right _ (h9))) tyX0 tyX0_ok nmX0 hown hK hP hD hS 0 rfl rfl 0 (by decide) (hts (.fieldLink RX0 42 "ExamHalls$Candidate" "province" "I") (List.mem_of_getElem? (i := 14) rfl)) (fun _ h9 => h9) rfl hin rfl (by decide +kernel) rfl rfl (Nat.le_of_ble_eq_true rfl) dX0_init_58 (fun H locs hP hD hS => ?_)
  have hP : va_P (dC, dI) vwCl [(y, .inr (5, [.int v, .null, .int (-1), .int (-1), .int 0, .int 0, .ref q_1, .ref q_3, .ref q_5, .int 0])), (q_1, .inl (k_2, 8, .inl (fun _ => 0))), (q_3, .inl (k_4, 3, .inl (fun _ => 0))), (q_5, .inl (k_6, 3, .inl (fun _ => 0)))] H := hP
  have hD : va_D A [(y, .inr (5, [.int v, .null, .int (-1), .int (-1), .int 0, .int 0, .ref q_1, .ref q_3, .ref q_5, .int 0])), (q_1, .inl (k_2, 8, .inl (fun _ => 0))), (q_3, .inl (k_4, 3, .inl (fun _ => 0))), (q_5, .inl (k_6, 3, .inl (fun _ => 0)))] := hD
  have hP9 := hP.sub (ws' := [(y, .inr (5, [.int v, .null, .int (-1), .int (-1), .int 0, .int 0, .ref q_1, .ref q_3, .ref q_5, .int 0]))]) [0] rfl
  have hD9 := hD.sub (ws' := [(y, .inr (5, [.int v, .null, .int (-1), .int (-1), .int 0, .int 0, .ref q_1, .ref q_3, .ref q_5, .int 0]))]) [0] (by decide) rfl
  have hK9 := hK.sub (tys' := []) [] rfl
  exact W.vret hx hb hr (fun t ht hW => ⟨⟨(), rfl, trivial, q_1, q_3, q_5, by rw [ht]; exact hP9, va_K.moved hW.alike hK9, hD9⟩, hS.F ht⟩) hS.2.2 dX0_init_61

set_option maxHeartbeats 4000000 in
set_option maxRecDepth 100000 in
theorem c_X3_init (l : Launch) (dC : Nat → ClassId) (dI : Nat → Nat → Nat) (y : Nat) (v : Int32) (u1 : Int32) (sz : Nat) : Met l yX3_init wsX3_init ({ frames := 1, cells := 0, slots := 0, locals := 12 }) (va_Pc [.ref y, .int v, .int u1] (PQ dC dI sz [(y, .inr (8, [.int 0, .int 0, .int 0]))] [])) (va_Qv (fun _ : Unit => True) (fun _ t => va_P (dC, dI) vwCl [(y, .inr (8, [.int v, .int u1, .int 0]))] t.heap ∧ va_K (dC, dI) vwCl [] t ∧ va_D (va_A [(y, .inr (8, [.int 0, .int 0, .int 0]))] sz) [(y, .inr (8, [.int v, .int u1, .int 0]))]) (va_A [(y, .inr (8, [.int 0, .int 0, .int 0]))] sz)) 0 0 (va_A [(y, .inr (8, [.int 0, .int 0, .int 0]))] sz) := by
  refine Met.ofW (cc := cX3_init) (maxL := 3) (ret := none) (by decide) rfl ?_
  intro p e s m args below meth c s₁ B hml hv
  obtain ⟨rfl, hsz, hP, hK, hD0, hF⟩ := hv
  have hx := B.exec
  have hb := B.bytes
  have hr := B.returns
  have hts := atoms_spec (ws := wsX3_init) B.pre
  have hown : s.vm.findClass RX3 = some m.cls := findClass_of_methodNamed B.named
  have hlocks := B.notSynchronized
  have hin : meth.name = "<init>" := (name_of_methodNamed B.named B.method).1
  subst hsz
  have hD := hD0.self (sz := s.heap.size)
  generalize hAe : va_A [(y, .inr (8, [.int 0, .int 0, .int 0]))] s.heap.size = A at hD ⊢
  have hA : ∀ q : Nat, s.heap.size ≤ q → A q := fun q h => by rw [← hAe]; exact Or.inr h
  have hS : va_S A s.heap s.heap [] := va_S.rf
  have hl := lv_entry ([.ref y, .int v, .int u1]) (n := 3) (Nat.le_of_ble_eq_true rfl)
  rw [lg_entry_eq]
  generalize (lg_sl ([.ref y, .int v, .int u1]) ++ List.replicate (3 - (lg_sl ([.ref y, .int v, .int u1])).length) Slot.unset).toArray = ls at hl ⊢
  have hl : lv_has ls 3 [(0, .ref y), (1, .int v), (2, .int u1)] := hl
  refine lv_aload_n hx hb dX3_init_0 rfl (lv_at hl 0 rfl) ?_
  refine W.objInit hx hb hown (hts (.methodLink RX3 1 objectInit) (List.mem_of_getElem? (i := 1) rfl)) (hts (.instanceMethod objectInit) (List.mem_of_getElem? (i := 2) rfl)) (hts _ (List.mem_of_getElem? (i := 3) rfl)) rfl (by rw [hml]; exact hl.1) rfl dX3_init_1 (Nat.le_of_ble_eq_true rfl) (Nat.le_of_ble_eq_true rfl) ?_
  refine W.eq (g2 := F0 m 4 ls []) rfl ?_
  refine lv_aload_n hx hb dX3_init_4 rfl (lv_at hl 0 rfl) ?_
  refine lv_iconst (v := 0) hx hb dX3_init_5 (by decide) ?_
  refine va_put (D := (dC, dI)) (ci := 8) (v := .int 0) (ty := .int) (C := RX3) (T := TX3) (N := 3) hx hb hts (fun _ h9 => List.mem_cons_of_mem _ (List.mem_append_right _ (h9))) tyX3 tyX3_ok nmX3 hown hK hP hD hS 0 rfl rfl 2 (by decide) (hts (.fieldLink RX3 7 "ExamHalls$Reader" "readings" "I") (List.mem_of_getElem? (i := 4) rfl)) (fun _ h9 => h9) rfl (by decide +kernel) rfl rfl (Nat.le_of_ble_eq_true rfl) dX3_init_6 (fun H locs hP hD hS => ?_)
  have hP : va_P (dC, dI) vwCl [(y, .inr (8, [.int 0, .int 0, .int 0]))] H := hP
  have hD : va_D A [(y, .inr (8, [.int 0, .int 0, .int 0]))] := hD
  refine lv_aload_n hx hb dX3_init_9 rfl (lv_at hl 0 rfl) ?_
  refine lv_iload_n hx hb dX3_init_10 rfl (lv_at hl 1 rfl) ?_
  refine va_putF (D := (dC, dI)) (ci := 8) (v := .int v) (ty := .int) (C := RX3) (T := TX3) (N := 3) hx hb hts (fun _ h9 => List.mem_cons_of_mem _ (List.mem_append_right _ (h9))) tyX3 tyX3_ok nmX3 hown hK hP hD hS 0 rfl rfl 0 (by decide) (hts (.fieldLink RX3 13 "ExamHalls$Reader" "province" "I") (List.mem_of_getElem? (i := 5) rfl)) (fun _ h9 => h9) rfl hin rfl (by decide +kernel) rfl rfl (Nat.le_of_ble_eq_true rfl) dX3_init_11 (fun H locs hP hD hS => ?_)
  have hP : va_P (dC, dI) vwCl [(y, .inr (8, [.int v, .int 0, .int 0]))] H := hP
  have hD : va_D A [(y, .inr (8, [.int v, .int 0, .int 0]))] := hD
  refine lv_aload_n hx hb dX3_init_14 rfl (lv_at hl 0 rfl) ?_
  refine lv_iload_n hx hb dX3_init_15 rfl (lv_at hl 2 rfl) ?_
  refine va_putF (D := (dC, dI)) (ci := 8) (v := .int u1) (ty := .int) (C := RX3) (T := TX3) (N := 3) hx hb hts (fun _ h9 => List.mem_cons_of_mem _ (List.mem_append_right _ (h9))) tyX3 tyX3_ok nmX3 hown hK hP hD hS 0 rfl rfl 1 (by decide) (hts (.fieldLink RX3 16 "ExamHalls$Reader" "room" "I") (List.mem_of_getElem? (i := 6) rfl)) (fun _ h9 => h9) rfl hin rfl (by decide +kernel) rfl rfl (Nat.le_of_ble_eq_true rfl) dX3_init_16 (fun H locs hP hD hS => ?_)
  have hP : va_P (dC, dI) vwCl [(y, .inr (8, [.int v, .int u1, .int 0]))] H := hP
  have hD : va_D A [(y, .inr (8, [.int v, .int u1, .int 0]))] := hD
  have hP9 := hP.sub (ws' := [(y, .inr (8, [.int v, .int u1, .int 0]))]) [0] rfl
  have hD9 := hD.sub (ws' := [(y, .inr (8, [.int v, .int u1, .int 0]))]) [0] (by decide) rfl
  have hK9 := hK.sub (tys' := []) [] rfl
  exact W.vret hx hb hr (fun t ht hW => ⟨⟨(), rfl, trivial, by rw [ht]; exact hP9, va_K.moved hW.alike hK9, hD9⟩, hS.F ht⟩) hS.2.2 dX3_init_19

set_option maxHeartbeats 4000000 in
set_option maxRecDepth 100000 in
theorem c_X4_init (l : Launch) (dC : Nat → ClassId) (dI : Nat → Nat → Nat) (y : Nat) (sz : Nat) : Met l yX4_init wsX4_init ({ frames := 1, cells := 1, slots := 250, locals := 12 }) (va_Pc [.ref y] (PQ dC dI sz [(y, .inr (9, [.null, .int 0]))] [])) (va_Qv (fun _ : Unit => True) (fun _ t => ∃ (tb : Nat) (kB : ClassId), va_P (dC, dI) vwCl [(y, .inr (9, [.ref tb, .int 0])), (tb, .inl (kB, 250, .inl (fun _ => 0)))] t.heap ∧ va_K (dC, dI) vwCl [(kB, .byte)] t ∧ va_D (va_A [(y, .inr (9, [.null, .int 0]))] sz) [(y, .inr (9, [.ref tb, .int 0])), (tb, .inl (kB, 250, .inl (fun _ => 0)))]) (va_A [(y, .inr (9, [.null, .int 0]))] sz)) 1 250 (va_A [(y, .inr (9, [.null, .int 0]))] sz) := by
  refine Met.ofW (cc := cX4_init) (maxL := 1) (ret := none) (by decide) rfl ?_
  intro p e s m args below meth c s₁ B hml hv
  obtain ⟨rfl, hsz, hP, hK, hD0, hF⟩ := hv
  have hx := B.exec
  have hb := B.bytes
  have hr := B.returns
  have hts := atoms_spec (ws := wsX4_init) B.pre
  have hown : s.vm.findClass RX4 = some m.cls := findClass_of_methodNamed B.named
  have hlocks := B.notSynchronized
  have hin : meth.name = "<init>" := (name_of_methodNamed B.named B.method).1
  subst hsz
  have hD := hD0.self (sz := s.heap.size)
  generalize hAe : va_A [(y, .inr (9, [.null, .int 0]))] s.heap.size = A at hD ⊢
  have hA : ∀ q : Nat, s.heap.size ≤ q → A q := fun q h => by rw [← hAe]; exact Or.inr h
  have hS : va_S A s.heap s.heap [] := va_S.rf
  have hl := lv_entry ([.ref y]) (n := 1) (Nat.le_of_ble_eq_true rfl)
  rw [lg_entry_eq]
  generalize (lg_sl ([.ref y]) ++ List.replicate (1 - (lg_sl ([.ref y])).length) Slot.unset).toArray = ls at hl ⊢
  have hl : lv_has ls 1 [(0, .ref y)] := hl
  refine lv_aload_n hx hb dX4_init_0 rfl (lv_at hl 0 rfl) ?_
  refine W.objInit hx hb hown (hts (.methodLink RX4 3 objectInit) (List.mem_of_getElem? (i := 1) rfl)) (hts (.instanceMethod objectInit) (List.mem_of_getElem? (i := 2) rfl)) (hts _ (List.mem_of_getElem? (i := 3) rfl)) rfl (by rw [hml]; exact hl.1) rfl dX4_init_1 (Nat.le_of_ble_eq_true rfl) (Nat.le_of_ble_eq_true rfl) ?_
  refine W.eq (g2 := F0 m 4 ls []) rfl ?_
  refine lv_aload_n hx hb dX4_init_4 rfl (lv_at hl 0 rfl) ?_
  refine lv_sipush (v := 250) hx hb dX4_init_5 (by decide) ?_
  refine va_newa (atype := .byte) (ty := .byte) (a0 := (250, (.inl (fun _ => 0)))) hx hb (hts (.arrayClass .byte) (List.mem_of_getElem? (i := 4) rfl)) rfl hK hP hD hS hA (fun _ => rfl) (by decide) (by decide) (Nat.le_of_ble_eq_true rfl) (Nat.le_of_ble_eq_true rfl) (Nat.le_of_ble_eq_true rfl) dX4_init_8 (fun q_1 k_2 H hK hP hD hS => ?_)
  have hP : va_P (dC, dI) vwCl [(y, .inr (9, [.null, .int 0])), (q_1, .inl (k_2, 250, .inl (fun _ => 0)))] H := hP
  have hD : va_D A [(y, .inr (9, [.null, .int 0])), (q_1, .inl (k_2, 250, .inl (fun _ => 0)))] := hD
  have hK : va_K (dC, dI) vwCl [(k_2, .byte)] s := hK
  refine W.widen (k := 1) (n := 250) (Nat.le_of_ble_eq_true rfl) (Nat.le_of_ble_eq_true rfl) ?_
  refine va_putF (D := (dC, dI)) (ci := 9) (v := .ref q_1) (ty := .array .byte) (C := RX4) (T := TX4) (N := 2) hx hb hts (fun _ h9 => List.mem_cons_of_mem _ (List.mem_append_right _ (h9))) tyX4 tyX4_ok nmX4 hown hK hP hD hS 0 rfl rfl 0 (by decide) (hts (.fieldLink RX4 9 "ExamHalls$Tape" "bytes" "[B") (List.mem_of_getElem? (i := 5) rfl)) (fun _ h9 => h9) rfl hin rfl (by decide +kernel) rfl rfl (Nat.le_of_ble_eq_true rfl) dX4_init_10 (fun H locs hP hD hS => ?_)
  have hP : va_P (dC, dI) vwCl [(y, .inr (9, [.ref q_1, .int 0])), (q_1, .inl (k_2, 250, .inl (fun _ => 0)))] H := hP
  have hD : va_D A [(y, .inr (9, [.ref q_1, .int 0])), (q_1, .inl (k_2, 250, .inl (fun _ => 0)))] := hD
  refine lv_aload_n hx hb dX4_init_13 rfl (lv_at hl 0 rfl) ?_
  refine lv_iconst (v := 0) hx hb dX4_init_14 (by decide) ?_
  refine va_put (D := (dC, dI)) (ci := 9) (v := .int 0) (ty := .int) (C := RX4) (T := TX4) (N := 2) hx hb hts (fun _ h9 => List.mem_cons_of_mem _ (List.mem_append_right _ (h9))) tyX4 tyX4_ok nmX4 hown hK hP hD hS 0 rfl rfl 1 (by decide) (hts (.fieldLink RX4 15 "ExamHalls$Tape" "size" "I") (List.mem_of_getElem? (i := 6) rfl)) (fun _ h9 => h9) rfl (by decide +kernel) rfl rfl (Nat.le_of_ble_eq_true rfl) dX4_init_15 (fun H locs hP hD hS => ?_)
  have hP : va_P (dC, dI) vwCl [(y, .inr (9, [.ref q_1, .int 0])), (q_1, .inl (k_2, 250, .inl (fun _ => 0)))] H := hP
  have hD : va_D A [(y, .inr (9, [.ref q_1, .int 0])), (q_1, .inl (k_2, 250, .inl (fun _ => 0)))] := hD
  have hP9 := hP.sub (ws' := [(y, .inr (9, [.ref q_1, .int 0])), (q_1, .inl (k_2, 250, .inl (fun _ => 0)))]) [0, 1] rfl
  have hD9 := hD.sub (ws' := [(y, .inr (9, [.ref q_1, .int 0])), (q_1, .inl (k_2, 250, .inl (fun _ => 0)))]) [0, 1] (by decide) rfl
  have hK9 := hK.sub (tys' := [(k_2, .byte)]) [0] rfl
  exact W.vret hx hb hr (fun t ht hW => ⟨⟨(), rfl, trivial, q_1, k_2, by rw [ht]; exact hP9, va_K.moved hW.alike hK9, hD9⟩, hS.F ht⟩) hS.2.2 dX4_init_18

set_option maxHeartbeats 4000000 in
set_option maxRecDepth 100000 in
theorem c_X2_init (l : Launch) (dC : Nat → ClassId) (dI : Nat → Nat → Nat) (fo : Nat) (sz : Nat) : Met l yX2_init wsX2_init ({ frames := 1, cells := 5, slots := 36, locals := 12 }) (va_Pc [.ref fo] (PQ dC dI sz [(fo, .inr (7, [.int 0, .null, .null, .null, .null, .int 0, .null, .int 0]))] [])) (va_Qv (fun _ : Unit => True) (fun _ t => ∃ (le : Nat) (mo : Nat) (os : Nat) (ps : Nat) (br : Nat) (kl : ClassId) (km : ClassId) (ko : ClassId) (kp : ClassId) (kb : ClassId) (fl : Nat → Int32) (fm : Nat → Int32), va_P (dC, dI) vwCl [(fo, .inr (7, [.int 1, .ref le, .ref mo, .ref os, .ref ps, .int 0, .ref br, .int 0])), (le, .inl (kl, 8, .inl fl)), (mo, .inl (km, 8, .inl fm)), (os, .inl (ko, 6, .inl (fun _ => 0))), (ps, .inl (kp, 6, .inl (fun _ => 0))), (br, .inl (kb, 8, .inr (.inl (fun _ => 0))))] t.heap ∧ va_K (dC, dI) vwCl [(kl, .int), (km, .int), (ko, .int), (kp, .int), (kb, .long)] t ∧ va_D (va_A [(fo, .inr (7, [.int 0, .null, .null, .null, .null, .int 0, .null, .int 0]))] sz) [(fo, .inr (7, [.int 1, .ref le, .ref mo, .ref os, .ref ps, .int 0, .ref br, .int 0])), (le, .inl (kl, 8, .inl fl)), (mo, .inl (km, 8, .inl fm)), (os, .inl (ko, 6, .inl (fun _ => 0))), (ps, .inl (kp, 6, .inl (fun _ => 0))), (br, .inl (kb, 8, .inr (.inl (fun _ => 0))))]) (va_A [(fo, .inr (7, [.int 0, .null, .null, .null, .null, .int 0, .null, .int 0]))] sz)) 5 36 (va_A [(fo, .inr (7, [.int 0, .null, .null, .null, .null, .int 0, .null, .int 0]))] sz) := by
  refine Met.ofW (cc := cX2_init) (maxL := 2) (ret := none) (by decide) rfl ?_
  intro p e s m args below meth c s₁ B hml hv
  obtain ⟨rfl, hsz, hP, hK, hD0, hF⟩ := hv
  have hx := B.exec
  have hb := B.bytes
  have hr := B.returns
  have hts := atoms_spec (ws := wsX2_init) B.pre
  have hown : s.vm.findClass RX2 = some m.cls := findClass_of_methodNamed B.named
  have hlocks := B.notSynchronized
  have hin : meth.name = "<init>" := (name_of_methodNamed B.named B.method).1
  subst hsz
  have hD := hD0.self (sz := s.heap.size)
  generalize hAe : va_A [(fo, .inr (7, [.int 0, .null, .null, .null, .null, .int 0, .null, .int 0]))] s.heap.size = A at hD ⊢
  have hA : ∀ q : Nat, s.heap.size ≤ q → A q := fun q h => by rw [← hAe]; exact Or.inr h
  have hS : va_S A s.heap s.heap [] := va_S.rf
  have hl := lv_entry ([.ref fo]) (n := 2) (Nat.le_of_ble_eq_true rfl)
  rw [lg_entry_eq]
  generalize (lg_sl ([.ref fo]) ++ List.replicate (2 - (lg_sl ([.ref fo])).length) Slot.unset).toArray = ls at hl ⊢
  have hl : lv_has ls 2 [(0, .ref fo)] := hl
  refine lv_aload_n hx hb dX2_init_0 rfl (lv_at hl 0 rfl) ?_
  refine W.objInit hx hb hown (hts (.methodLink RX2 3 objectInit) (List.mem_of_getElem? (i := 1) rfl)) (hts (.instanceMethod objectInit) (List.mem_of_getElem? (i := 2) rfl)) (hts _ (List.mem_of_getElem? (i := 3) rfl)) rfl (by rw [hml]; exact hl.1) rfl dX2_init_1 (Nat.le_of_ble_eq_true rfl) (Nat.le_of_ble_eq_true rfl) ?_
  refine W.eq (g2 := F0 m 4 ls []) rfl ?_
  refine lv_aload_n hx hb dX2_init_4 rfl (lv_at hl 0 rfl) ?_
  refine lv_iconst (v := 1) hx hb dX2_init_5 (by decide) ?_
  refine va_put (D := (dC, dI)) (ci := 7) (v := .int 1) (ty := .int) (C := RX2) (T := TX2) (N := 8) hx hb hts (fun _ h9 => List.mem_cons_of_mem _ (List.mem_append_right _ (h9))) tyX2 tyX2_ok nmX2 hown hK hP hD hS 0 rfl rfl 0 (by decide) (hts (.fieldLink RX2 9 "ExamHalls$Form" "legCount" "I") (List.mem_of_getElem? (i := 4) rfl)) (fun _ h9 => h9) rfl (by decide +kernel) rfl rfl (Nat.le_of_ble_eq_true rfl) dX2_init_6 (fun H locs hP hD hS => ?_)
  have hP : va_P (dC, dI) vwCl [(fo, .inr (7, [.int 1, .null, .null, .null, .null, .int 0, .null, .int 0]))] H := hP
  have hD : va_D A [(fo, .inr (7, [.int 1, .null, .null, .null, .null, .int 0, .null, .int 0]))] := hD
  refine lv_aload_n hx hb dX2_init_9 rfl (lv_at hl 0 rfl) ?_
  refine lv_bipush (v := 8) hx hb dX2_init_10 (by decide) ?_
  refine va_newa (atype := .int) (ty := .int) (a0 := (8, (.inl (fun _ => 0)))) hx hb (hts (.arrayClass .int) (List.mem_of_getElem? (i := 5) rfl)) rfl hK hP hD hS hA (fun _ => rfl) (by decide) (by decide) (Nat.le_of_ble_eq_true rfl) (Nat.le_of_ble_eq_true rfl) (Nat.le_of_ble_eq_true rfl) dX2_init_12 (fun q_1 k_2 H hK hP hD hS => ?_)
  have hP : va_P (dC, dI) vwCl [(fo, .inr (7, [.int 1, .null, .null, .null, .null, .int 0, .null, .int 0])), (q_1, .inl (k_2, 8, .inl (fun _ => 0)))] H := hP
  have hD : va_D A [(fo, .inr (7, [.int 1, .null, .null, .null, .null, .int 0, .null, .int 0])), (q_1, .inl (k_2, 8, .inl (fun _ => 0)))] := hD
  have hK : va_K (dC, dI) vwCl [(k_2, .int)] s := hK
  refine W.widen (k := 1) (n := 8) (Nat.le_of_ble_eq_true rfl) (Nat.le_of_ble_eq_true rfl) ?_
  refine va_putF (D := (dC, dI)) (ci := 7) (v := .ref q_1) (ty := .array .int) (C := RX2) (T := TX2) (N := 8) hx hb hts (fun _ h9 => List.mem_cons_of_mem _ (List.mem_append_right _ (h9))) tyX2 tyX2_ok nmX2 hown hK hP hD hS 0 rfl rfl 1 (by decide) (hts (.fieldLink RX2 15 "ExamHalls$Form" "least" "[I") (List.mem_of_getElem? (i := 6) rfl)) (fun _ h9 => h9) rfl hin rfl (by decide +kernel) rfl rfl (Nat.le_of_ble_eq_true rfl) dX2_init_14 (fun H locs hP hD hS => ?_)
  have hP : va_P (dC, dI) vwCl [(fo, .inr (7, [.int 1, .ref q_1, .null, .null, .null, .int 0, .null, .int 0])), (q_1, .inl (k_2, 8, .inl (fun _ => 0)))] H := hP
  have hD : va_D A [(fo, .inr (7, [.int 1, .ref q_1, .null, .null, .null, .int 0, .null, .int 0])), (q_1, .inl (k_2, 8, .inl (fun _ => 0)))] := hD
  refine lv_aload_n hx hb dX2_init_17 rfl (lv_at hl 0 rfl) ?_
  refine lv_bipush (v := 8) hx hb dX2_init_18 (by decide) ?_
  refine va_newa (atype := .int) (ty := .int) (a0 := (8, (.inl (fun _ => 0)))) hx hb (hts (.arrayClass .int) (List.mem_of_getElem? (i := 5) rfl)) rfl hK hP hD hS hA (fun _ => rfl) (by decide) (by decide) (Nat.le_of_ble_eq_true rfl) (Nat.le_of_ble_eq_true rfl) (Nat.le_of_ble_eq_true rfl) dX2_init_20 (fun q_3 k_4 H hK hP hD hS => ?_)
  have hP : va_P (dC, dI) vwCl [(fo, .inr (7, [.int 1, .ref q_1, .null, .null, .null, .int 0, .null, .int 0])), (q_1, .inl (k_2, 8, .inl (fun _ => 0))), (q_3, .inl (k_4, 8, .inl (fun _ => 0)))] H := hP
  have hD : va_D A [(fo, .inr (7, [.int 1, .ref q_1, .null, .null, .null, .int 0, .null, .int 0])), (q_1, .inl (k_2, 8, .inl (fun _ => 0))), (q_3, .inl (k_4, 8, .inl (fun _ => 0)))] := hD
  have hK : va_K (dC, dI) vwCl [(k_2, .int), (k_4, .int)] s := hK
  refine W.widen (k := 2) (n := 16) (Nat.le_of_ble_eq_true rfl) (Nat.le_of_ble_eq_true rfl) ?_
  refine va_putF (D := (dC, dI)) (ci := 7) (v := .ref q_3) (ty := .array .int) (C := RX2) (T := TX2) (N := 8) hx hb hts (fun _ h9 => List.mem_cons_of_mem _ (List.mem_append_right _ (h9))) tyX2 tyX2_ok nmX2 hown hK hP hD hS 0 rfl rfl 2 (by decide) (hts (.fieldLink RX2 19 "ExamHalls$Form" "most" "[I") (List.mem_of_getElem? (i := 7) rfl)) (fun _ h9 => h9) rfl hin rfl (by decide +kernel) rfl rfl (Nat.le_of_ble_eq_true rfl) dX2_init_22 (fun H locs hP hD hS => ?_)
  have hP : va_P (dC, dI) vwCl [(fo, .inr (7, [.int 1, .ref q_1, .ref q_3, .null, .null, .int 0, .null, .int 0])), (q_1, .inl (k_2, 8, .inl (fun _ => 0))), (q_3, .inl (k_4, 8, .inl (fun _ => 0)))] H := hP
  have hD : va_D A [(fo, .inr (7, [.int 1, .ref q_1, .ref q_3, .null, .null, .int 0, .null, .int 0])), (q_1, .inl (k_2, 8, .inl (fun _ => 0))), (q_3, .inl (k_4, 8, .inl (fun _ => 0)))] := hD
  refine lv_aload_n hx hb dX2_init_25 rfl (lv_at hl 0 rfl) ?_
  refine lv_bipush (v := 6) hx hb dX2_init_26 (by decide) ?_
  refine va_newa (atype := .int) (ty := .int) (a0 := (6, (.inl (fun _ => 0)))) hx hb (hts (.arrayClass .int) (List.mem_of_getElem? (i := 5) rfl)) rfl hK hP hD hS hA (fun _ => rfl) (by decide) (by decide) (Nat.le_of_ble_eq_true rfl) (Nat.le_of_ble_eq_true rfl) (Nat.le_of_ble_eq_true rfl) dX2_init_28 (fun q_5 k_6 H hK hP hD hS => ?_)
  have hP : va_P (dC, dI) vwCl [(fo, .inr (7, [.int 1, .ref q_1, .ref q_3, .null, .null, .int 0, .null, .int 0])), (q_1, .inl (k_2, 8, .inl (fun _ => 0))), (q_3, .inl (k_4, 8, .inl (fun _ => 0))), (q_5, .inl (k_6, 6, .inl (fun _ => 0)))] H := hP
  have hD : va_D A [(fo, .inr (7, [.int 1, .ref q_1, .ref q_3, .null, .null, .int 0, .null, .int 0])), (q_1, .inl (k_2, 8, .inl (fun _ => 0))), (q_3, .inl (k_4, 8, .inl (fun _ => 0))), (q_5, .inl (k_6, 6, .inl (fun _ => 0)))] := hD
  have hK : va_K (dC, dI) vwCl [(k_2, .int), (k_4, .int), (k_6, .int)] s := hK
  refine W.widen (k := 3) (n := 22) (Nat.le_of_ble_eq_true rfl) (Nat.le_of_ble_eq_true rfl) ?_
  refine va_putF (D := (dC, dI)) (ci := 7) (v := .ref q_5) (ty := .array .int) (C := RX2) (T := TX2) (N := 8) hx hb hts (fun _ h9 => List.mem_cons_of_mem _ (List.mem_append_right _ (h9))) tyX2 tyX2_ok nmX2 hown hK hP hD hS 0 rfl rfl 3 (by decide) (hts (.fieldLink RX2 22 "ExamHalls$Form" "oneSides" "[I") (List.mem_of_getElem? (i := 8) rfl)) (fun _ h9 => h9) rfl hin rfl (by decide +kernel) rfl rfl (Nat.le_of_ble_eq_true rfl) dX2_init_30 (fun H locs hP hD hS => ?_)
  have hP : va_P (dC, dI) vwCl [(fo, .inr (7, [.int 1, .ref q_1, .ref q_3, .ref q_5, .null, .int 0, .null, .int 0])), (q_1, .inl (k_2, 8, .inl (fun _ => 0))), (q_3, .inl (k_4, 8, .inl (fun _ => 0))), (q_5, .inl (k_6, 6, .inl (fun _ => 0)))] H := hP
  have hD : va_D A [(fo, .inr (7, [.int 1, .ref q_1, .ref q_3, .ref q_5, .null, .int 0, .null, .int 0])), (q_1, .inl (k_2, 8, .inl (fun _ => 0))), (q_3, .inl (k_4, 8, .inl (fun _ => 0))), (q_5, .inl (k_6, 6, .inl (fun _ => 0)))] := hD
  refine lv_aload_n hx hb dX2_init_33 rfl (lv_at hl 0 rfl) ?_
  refine lv_bipush (v := 6) hx hb dX2_init_34 (by decide) ?_
  refine va_newa (atype := .int) (ty := .int) (a0 := (6, (.inl (fun _ => 0)))) hx hb (hts (.arrayClass .int) (List.mem_of_getElem? (i := 5) rfl)) rfl hK hP hD hS hA (fun _ => rfl) (by decide) (by decide) (Nat.le_of_ble_eq_true rfl) (Nat.le_of_ble_eq_true rfl) (Nat.le_of_ble_eq_true rfl) dX2_init_36 (fun q_7 k_8 H hK hP hD hS => ?_)
  have hP : va_P (dC, dI) vwCl [(fo, .inr (7, [.int 1, .ref q_1, .ref q_3, .ref q_5, .null, .int 0, .null, .int 0])), (q_1, .inl (k_2, 8, .inl (fun _ => 0))), (q_3, .inl (k_4, 8, .inl (fun _ => 0))), (q_5, .inl (k_6, 6, .inl (fun _ => 0))), (q_7, .inl (k_8, 6, .inl (fun _ => 0)))] H := hP
  have hD : va_D A [(fo, .inr (7, [.int 1, .ref q_1, .ref q_3, .ref q_5, .null, .int 0, .null, .int 0])), (q_1, .inl (k_2, 8, .inl (fun _ => 0))), (q_3, .inl (k_4, 8, .inl (fun _ => 0))), (q_5, .inl (k_6, 6, .inl (fun _ => 0))), (q_7, .inl (k_8, 6, .inl (fun _ => 0)))] := hD
  have hK : va_K (dC, dI) vwCl [(k_2, .int), (k_4, .int), (k_6, .int), (k_8, .int)] s := hK
  refine W.widen (k := 4) (n := 28) (Nat.le_of_ble_eq_true rfl) (Nat.le_of_ble_eq_true rfl) ?_
  refine va_putF (D := (dC, dI)) (ci := 7) (v := .ref q_7) (ty := .array .int) (C := RX2) (T := TX2) (N := 8) hx hb hts (fun _ h9 => List.mem_cons_of_mem _ (List.mem_append_right _ (h9))) tyX2 tyX2_ok nmX2 hown hK hP hD hS 0 rfl rfl 4 (by decide) (hts (.fieldLink RX2 25 "ExamHalls$Form" "otherSides" "[I") (List.mem_of_getElem? (i := 9) rfl)) (fun _ h9 => h9) rfl hin rfl (by decide +kernel) rfl rfl (Nat.le_of_ble_eq_true rfl) dX2_init_38 (fun H locs hP hD hS => ?_)
  have hP : va_P (dC, dI) vwCl [(fo, .inr (7, [.int 1, .ref q_1, .ref q_3, .ref q_5, .ref q_7, .int 0, .null, .int 0])), (q_1, .inl (k_2, 8, .inl (fun _ => 0))), (q_3, .inl (k_4, 8, .inl (fun _ => 0))), (q_5, .inl (k_6, 6, .inl (fun _ => 0))), (q_7, .inl (k_8, 6, .inl (fun _ => 0)))] H := hP
  have hD : va_D A [(fo, .inr (7, [.int 1, .ref q_1, .ref q_3, .ref q_5, .ref q_7, .int 0, .null, .int 0])), (q_1, .inl (k_2, 8, .inl (fun _ => 0))), (q_3, .inl (k_4, 8, .inl (fun _ => 0))), (q_5, .inl (k_6, 6, .inl (fun _ => 0))), (q_7, .inl (k_8, 6, .inl (fun _ => 0)))] := hD
  refine lv_aload_n hx hb dX2_init_41 rfl (lv_at hl 0 rfl) ?_
  refine lv_iconst (v := 0) hx hb dX2_init_42 (by decide) ?_
  refine va_put (D := (dC, dI)) (ci := 7) (v := .int 0) (ty := .int) (C := RX2) (T := TX2) (N := 8) hx hb hts (fun _ h9 => List.mem_cons_of_mem _ (List.mem_append_right _ (h9))) tyX2 tyX2_ok nmX2 hown hK hP hD hS 0 rfl rfl 5 (by decide) (hts (.fieldLink RX2 28 "ExamHalls$Form" "parallelCount" "I") (List.mem_of_getElem? (i := 10) rfl)) (fun _ h9 => h9) rfl (by decide +kernel) rfl rfl (Nat.le_of_ble_eq_true rfl) dX2_init_43 (fun H locs hP hD hS => ?_)
  have hP : va_P (dC, dI) vwCl [(fo, .inr (7, [.int 1, .ref q_1, .ref q_3, .ref q_5, .ref q_7, .int 0, .null, .int 0])), (q_1, .inl (k_2, 8, .inl (fun _ => 0))), (q_3, .inl (k_4, 8, .inl (fun _ => 0))), (q_5, .inl (k_6, 6, .inl (fun _ => 0))), (q_7, .inl (k_8, 6, .inl (fun _ => 0)))] H := hP
  have hD : va_D A [(fo, .inr (7, [.int 1, .ref q_1, .ref q_3, .ref q_5, .ref q_7, .int 0, .null, .int 0])), (q_1, .inl (k_2, 8, .inl (fun _ => 0))), (q_3, .inl (k_4, 8, .inl (fun _ => 0))), (q_5, .inl (k_6, 6, .inl (fun _ => 0))), (q_7, .inl (k_8, 6, .inl (fun _ => 0)))] := hD
  refine lv_aload_n hx hb dX2_init_46 rfl (lv_at hl 0 rfl) ?_
  refine lv_bipush (v := 8) hx hb dX2_init_47 (by decide) ?_
  refine va_newa (atype := .long) (ty := .long) (a0 := (8, (.inr (.inl (fun _ => 0))))) hx hb (hts (.arrayClass .long) (List.mem_of_getElem? (i := 11) rfl)) rfl hK hP hD hS hA (fun _ => rfl) (by decide) (by decide) (Nat.le_of_ble_eq_true rfl) (Nat.le_of_ble_eq_true rfl) (Nat.le_of_ble_eq_true rfl) dX2_init_49 (fun q_9 k_10 H hK hP hD hS => ?_)
  have hP : va_P (dC, dI) vwCl [(fo, .inr (7, [.int 1, .ref q_1, .ref q_3, .ref q_5, .ref q_7, .int 0, .null, .int 0])), (q_1, .inl (k_2, 8, .inl (fun _ => 0))), (q_3, .inl (k_4, 8, .inl (fun _ => 0))), (q_5, .inl (k_6, 6, .inl (fun _ => 0))), (q_7, .inl (k_8, 6, .inl (fun _ => 0))), (q_9, .inl (k_10, 8, .inr (.inl (fun _ => 0))))] H := hP
  have hD : va_D A [(fo, .inr (7, [.int 1, .ref q_1, .ref q_3, .ref q_5, .ref q_7, .int 0, .null, .int 0])), (q_1, .inl (k_2, 8, .inl (fun _ => 0))), (q_3, .inl (k_4, 8, .inl (fun _ => 0))), (q_5, .inl (k_6, 6, .inl (fun _ => 0))), (q_7, .inl (k_8, 6, .inl (fun _ => 0))), (q_9, .inl (k_10, 8, .inr (.inl (fun _ => 0))))] := hD
  have hK : va_K (dC, dI) vwCl [(k_2, .int), (k_4, .int), (k_6, .int), (k_8, .int), (k_10, .long)] s := hK
  refine W.widen (k := 5) (n := 36) (Nat.le_of_ble_eq_true rfl) (Nat.le_of_ble_eq_true rfl) ?_
  refine va_putF (D := (dC, dI)) (ci := 7) (v := .ref q_9) (ty := .array .long) (C := RX2) (T := TX2) (N := 8) hx hb hts (fun _ h9 => List.mem_cons_of_mem _ (List.mem_append_right _ (h9))) tyX2 tyX2_ok nmX2 hown hK hP hD hS 0 rfl rfl 6 (by decide) (hts (.fieldLink RX2 31 "ExamHalls$Form" "barred" "[J") (List.mem_of_getElem? (i := 12) rfl)) (fun _ h9 => h9) rfl hin rfl (by decide +kernel) rfl rfl (Nat.le_of_ble_eq_true rfl) dX2_init_51 (fun H locs hP hD hS => ?_)
  have hP : va_P (dC, dI) vwCl [(fo, .inr (7, [.int 1, .ref q_1, .ref q_3, .ref q_5, .ref q_7, .int 0, .ref q_9, .int 0])), (q_1, .inl (k_2, 8, .inl (fun _ => 0))), (q_3, .inl (k_4, 8, .inl (fun _ => 0))), (q_5, .inl (k_6, 6, .inl (fun _ => 0))), (q_7, .inl (k_8, 6, .inl (fun _ => 0))), (q_9, .inl (k_10, 8, .inr (.inl (fun _ => 0))))] H := hP
  have hD : va_D A [(fo, .inr (7, [.int 1, .ref q_1, .ref q_3, .ref q_5, .ref q_7, .int 0, .ref q_9, .int 0])), (q_1, .inl (k_2, 8, .inl (fun _ => 0))), (q_3, .inl (k_4, 8, .inl (fun _ => 0))), (q_5, .inl (k_6, 6, .inl (fun _ => 0))), (q_7, .inl (k_8, 6, .inl (fun _ => 0))), (q_9, .inl (k_10, 8, .inr (.inl (fun _ => 0))))] := hD
  refine lv_aload_n hx hb dX2_init_54 rfl (lv_at hl 0 rfl) ?_
  refine lv_iconst (v := 0) hx hb dX2_init_55 (by decide) ?_
  refine va_put (D := (dC, dI)) (ci := 7) (v := .int 0) (ty := .int) (C := RX2) (T := TX2) (N := 8) hx hb hts (fun _ h9 => List.mem_cons_of_mem _ (List.mem_append_right _ (h9))) tyX2 tyX2_ok nmX2 hown hK hP hD hS 0 rfl rfl 7 (by decide) (hts (.fieldLink RX2 35 "ExamHalls$Form" "barredCount" "I") (List.mem_of_getElem? (i := 13) rfl)) (fun _ h9 => h9) rfl (by decide +kernel) rfl rfl (Nat.le_of_ble_eq_true rfl) dX2_init_56 (fun H locs hP hD hS => ?_)
  have hP : va_P (dC, dI) vwCl [(fo, .inr (7, [.int 1, .ref q_1, .ref q_3, .ref q_5, .ref q_7, .int 0, .ref q_9, .int 0])), (q_1, .inl (k_2, 8, .inl (fun _ => 0))), (q_3, .inl (k_4, 8, .inl (fun _ => 0))), (q_5, .inl (k_6, 6, .inl (fun _ => 0))), (q_7, .inl (k_8, 6, .inl (fun _ => 0))), (q_9, .inl (k_10, 8, .inr (.inl (fun _ => 0))))] H := hP
  have hD : va_D A [(fo, .inr (7, [.int 1, .ref q_1, .ref q_3, .ref q_5, .ref q_7, .int 0, .ref q_9, .int 0])), (q_1, .inl (k_2, 8, .inl (fun _ => 0))), (q_3, .inl (k_4, 8, .inl (fun _ => 0))), (q_5, .inl (k_6, 6, .inl (fun _ => 0))), (q_7, .inl (k_8, 6, .inl (fun _ => 0))), (q_9, .inl (k_10, 8, .inr (.inl (fun _ => 0))))] := hD
  refine lv_iconst (v := 0) hx hb dX2_init_59 (by decide) ?_
  refine lv_istore_n (lv' := [(1, .int 0), (0, .ref fo)]) hx hb dX2_init_60 rfl hl (by decide) rfl (fun ls hl => ?_)
  refine lv_iload_n hx hb dX2_init_61 rfl (lv_at hl 0 rfl) ?_
  refine lv_bipush (v := 8) hx hb dX2_init_62 (by decide) ?_
  refine lv_icmp_ge (tgt := 88) hx hb dX2_init_64 (by decide) (fun c_11 => absurd c_11 (by decide)) (fun _ => ?_)
  refine lv_aload_n hx hb dX2_init_67 rfl (lv_at hl 1 rfl) ?_
  refine va_get (D := (dC, dI)) (ci := 7) (v := .ref q_1) (C := RX2) (T := TX2) (N := 8) hx hb hts (fun _ h9 => List.mem_cons_of_mem _ (List.mem_append_right _ (h9))) hown hK hP 0 rfl rfl 1 (by decide) (hts (.fieldLink RX2 15 "ExamHalls$Form" "least" "[I") (List.mem_of_getElem? (i := 6) rfl)) (fun _ h9 => h9) rfl dX2_init_68 ?_
  refine lv_iload_n hx hb dX2_init_71 rfl (lv_at hl 0 rfl) ?_
  refine lv_iconst (v := 1) hx hb dX2_init_72 (by decide) ?_
  refine va_iast hx hb hK hP hD hS 1 0 rfl rfl (by unfold vp_in; decide) dX2_init_73 (fun H locs hP hD hS => ?_)
  have hP : va_P (dC, dI) vwCl [(fo, .inr (7, [.int 1, .ref q_1, .ref q_3, .ref q_5, .ref q_7, .int 0, .ref q_9, .int 0])), (q_1, .inl (k_2, 8, .inl (upd (fun _ => 0) (0 : Int32).toNatClampNeg (1 : Int32)))), (q_3, .inl (k_4, 8, .inl (fun _ => 0))), (q_5, .inl (k_6, 6, .inl (fun _ => 0))), (q_7, .inl (k_8, 6, .inl (fun _ => 0))), (q_9, .inl (k_10, 8, .inr (.inl (fun _ => 0))))] H := hP
  have hD : va_D A [(fo, .inr (7, [.int 1, .ref q_1, .ref q_3, .ref q_5, .ref q_7, .int 0, .ref q_9, .int 0])), (q_1, .inl (k_2, 8, .inl (upd (fun _ => 0) (0 : Int32).toNatClampNeg (1 : Int32)))), (q_3, .inl (k_4, 8, .inl (fun _ => 0))), (q_5, .inl (k_6, 6, .inl (fun _ => 0))), (q_7, .inl (k_8, 6, .inl (fun _ => 0))), (q_9, .inl (k_10, 8, .inr (.inl (fun _ => 0))))] := hD
  generalize (upd (fun _ => 0) (0 : Int32).toNatClampNeg (1 : Int32)) = a_12 at hP hD
  refine lv_aload_n hx hb dX2_init_74 rfl (lv_at hl 1 rfl) ?_
  refine va_get (D := (dC, dI)) (ci := 7) (v := .ref q_3) (C := RX2) (T := TX2) (N := 8) hx hb hts (fun _ h9 => List.mem_cons_of_mem _ (List.mem_append_right _ (h9))) hown hK hP 0 rfl rfl 2 (by decide) (hts (.fieldLink RX2 19 "ExamHalls$Form" "most" "[I") (List.mem_of_getElem? (i := 7) rfl)) (fun _ h9 => h9) rfl dX2_init_75 ?_
  refine lv_iload_n hx hb dX2_init_78 rfl (lv_at hl 0 rfl) ?_
  refine lv_bipush (v := 12) hx hb dX2_init_79 (by decide) ?_
  refine va_iast hx hb hK hP hD hS 2 1 rfl rfl (by unfold vp_in; decide) dX2_init_81 (fun H locs hP hD hS => ?_)
  have hP : va_P (dC, dI) vwCl [(fo, .inr (7, [.int 1, .ref q_1, .ref q_3, .ref q_5, .ref q_7, .int 0, .ref q_9, .int 0])), (q_1, .inl (k_2, 8, .inl a_12)), (q_3, .inl (k_4, 8, .inl (upd (fun _ => 0) (0 : Int32).toNatClampNeg (12 : Int32)))), (q_5, .inl (k_6, 6, .inl (fun _ => 0))), (q_7, .inl (k_8, 6, .inl (fun _ => 0))), (q_9, .inl (k_10, 8, .inr (.inl (fun _ => 0))))] H := hP
  have hD : va_D A [(fo, .inr (7, [.int 1, .ref q_1, .ref q_3, .ref q_5, .ref q_7, .int 0, .ref q_9, .int 0])), (q_1, .inl (k_2, 8, .inl a_12)), (q_3, .inl (k_4, 8, .inl (upd (fun _ => 0) (0 : Int32).toNatClampNeg (12 : Int32)))), (q_5, .inl (k_6, 6, .inl (fun _ => 0))), (q_7, .inl (k_8, 6, .inl (fun _ => 0))), (q_9, .inl (k_10, 8, .inr (.inl (fun _ => 0))))] := hD
  generalize (upd (fun _ => 0) (0 : Int32).toNatClampNeg (12 : Int32)) = a_13 at hP hD
  refine lv_iinc (v := 1) (lv' := [(1, .int 1), (0, .ref fo)]) hx hb dX2_init_82 hl (k := 0) rfl (by decide) (by decide) rfl (fun ls hl => ?_)
  refine lv_goto (tgt := 61) hx hb dX2_init_85 (by decide) ?_
  refine lv_iload_n hx hb dX2_init_61 rfl (lv_at hl 0 rfl) ?_
  refine lv_bipush (v := 8) hx hb dX2_init_62 (by decide) ?_
  refine lv_icmp_ge (tgt := 88) hx hb dX2_init_64 (by decide) (fun c_14 => absurd c_14 (by decide)) (fun _ => ?_)
  refine lv_aload_n hx hb dX2_init_67 rfl (lv_at hl 1 rfl) ?_
  refine va_get (D := (dC, dI)) (ci := 7) (v := .ref q_1) (C := RX2) (T := TX2) (N := 8) hx hb hts (fun _ h9 => List.mem_cons_of_mem _ (List.mem_append_right _ (h9))) hown hK hP 0 rfl rfl 1 (by decide) (hts (.fieldLink RX2 15 "ExamHalls$Form" "least" "[I") (List.mem_of_getElem? (i := 6) rfl)) (fun _ h9 => h9) rfl dX2_init_68 ?_
  refine lv_iload_n hx hb dX2_init_71 rfl (lv_at hl 0 rfl) ?_
  refine lv_iconst (v := 1) hx hb dX2_init_72 (by decide) ?_
  refine va_iast hx hb hK hP hD hS 1 0 rfl rfl (by unfold vp_in; decide) dX2_init_73 (fun H locs hP hD hS => ?_)
  have hP : va_P (dC, dI) vwCl [(fo, .inr (7, [.int 1, .ref q_1, .ref q_3, .ref q_5, .ref q_7, .int 0, .ref q_9, .int 0])), (q_1, .inl (k_2, 8, .inl (upd a_12 (1 : Int32).toNatClampNeg (1 : Int32)))), (q_3, .inl (k_4, 8, .inl a_13)), (q_5, .inl (k_6, 6, .inl (fun _ => 0))), (q_7, .inl (k_8, 6, .inl (fun _ => 0))), (q_9, .inl (k_10, 8, .inr (.inl (fun _ => 0))))] H := hP
  have hD : va_D A [(fo, .inr (7, [.int 1, .ref q_1, .ref q_3, .ref q_5, .ref q_7, .int 0, .ref q_9, .int 0])), (q_1, .inl (k_2, 8, .inl (upd a_12 (1 : Int32).toNatClampNeg (1 : Int32)))), (q_3, .inl (k_4, 8, .inl a_13)), (q_5, .inl (k_6, 6, .inl (fun _ => 0))), (q_7, .inl (k_8, 6, .inl (fun _ => 0))), (q_9, .inl (k_10, 8, .inr (.inl (fun _ => 0))))] := hD
  generalize (upd a_12 (1 : Int32).toNatClampNeg (1 : Int32)) = a_15 at hP hD
  refine lv_aload_n hx hb dX2_init_74 rfl (lv_at hl 1 rfl) ?_
  refine va_get (D := (dC, dI)) (ci := 7) (v := .ref q_3) (C := RX2) (T := TX2) (N := 8) hx hb hts (fun _ h9 => List.mem_cons_of_mem _ (List.mem_append_right _ (h9))) hown hK hP 0 rfl rfl 2 (by decide) (hts (.fieldLink RX2 19 "ExamHalls$Form" "most" "[I") (List.mem_of_getElem? (i := 7) rfl)) (fun _ h9 => h9) rfl dX2_init_75 ?_
  refine lv_iload_n hx hb dX2_init_78 rfl (lv_at hl 0 rfl) ?_
  refine lv_bipush (v := 12) hx hb dX2_init_79 (by decide) ?_
  refine va_iast hx hb hK hP hD hS 2 1 rfl rfl (by unfold vp_in; decide) dX2_init_81 (fun H locs hP hD hS => ?_)
  have hP : va_P (dC, dI) vwCl [(fo, .inr (7, [.int 1, .ref q_1, .ref q_3, .ref q_5, .ref q_7, .int 0, .ref q_9, .int 0])), (q_1, .inl (k_2, 8, .inl a_15)), (q_3, .inl (k_4, 8, .inl (upd a_13 (1 : Int32).toNatClampNeg (12 : Int32)))), (q_5, .inl (k_6, 6, .inl (fun _ => 0))), (q_7, .inl (k_8, 6, .inl (fun _ => 0))), (q_9, .inl (k_10, 8, .inr (.inl (fun _ => 0))))] H := hP
  have hD : va_D A [(fo, .inr (7, [.int 1, .ref q_1, .ref q_3, .ref q_5, .ref q_7, .int 0, .ref q_9, .int 0])), (q_1, .inl (k_2, 8, .inl a_15)), (q_3, .inl (k_4, 8, .inl (upd a_13 (1 : Int32).toNatClampNeg (12 : Int32)))), (q_5, .inl (k_6, 6, .inl (fun _ => 0))), (q_7, .inl (k_8, 6, .inl (fun _ => 0))), (q_9, .inl (k_10, 8, .inr (.inl (fun _ => 0))))] := hD
  generalize (upd a_13 (1 : Int32).toNatClampNeg (12 : Int32)) = a_16 at hP hD
  refine lv_iinc (v := 2) (lv' := [(1, .int 2), (0, .ref fo)]) hx hb dX2_init_82 hl (k := 0) rfl (by decide) (by decide) rfl (fun ls hl => ?_)
  refine lv_goto (tgt := 61) hx hb dX2_init_85 (by decide) ?_
  refine lv_iload_n hx hb dX2_init_61 rfl (lv_at hl 0 rfl) ?_
  refine lv_bipush (v := 8) hx hb dX2_init_62 (by decide) ?_
  refine lv_icmp_ge (tgt := 88) hx hb dX2_init_64 (by decide) (fun c_17 => absurd c_17 (by decide)) (fun _ => ?_)
  refine lv_aload_n hx hb dX2_init_67 rfl (lv_at hl 1 rfl) ?_
  refine va_get (D := (dC, dI)) (ci := 7) (v := .ref q_1) (C := RX2) (T := TX2) (N := 8) hx hb hts (fun _ h9 => List.mem_cons_of_mem _ (List.mem_append_right _ (h9))) hown hK hP 0 rfl rfl 1 (by decide) (hts (.fieldLink RX2 15 "ExamHalls$Form" "least" "[I") (List.mem_of_getElem? (i := 6) rfl)) (fun _ h9 => h9) rfl dX2_init_68 ?_
  refine lv_iload_n hx hb dX2_init_71 rfl (lv_at hl 0 rfl) ?_
  refine lv_iconst (v := 1) hx hb dX2_init_72 (by decide) ?_
  refine va_iast hx hb hK hP hD hS 1 0 rfl rfl (by unfold vp_in; decide) dX2_init_73 (fun H locs hP hD hS => ?_)
  have hP : va_P (dC, dI) vwCl [(fo, .inr (7, [.int 1, .ref q_1, .ref q_3, .ref q_5, .ref q_7, .int 0, .ref q_9, .int 0])), (q_1, .inl (k_2, 8, .inl (upd a_15 (2 : Int32).toNatClampNeg (1 : Int32)))), (q_3, .inl (k_4, 8, .inl a_16)), (q_5, .inl (k_6, 6, .inl (fun _ => 0))), (q_7, .inl (k_8, 6, .inl (fun _ => 0))), (q_9, .inl (k_10, 8, .inr (.inl (fun _ => 0))))] H := hP
  have hD : va_D A [(fo, .inr (7, [.int 1, .ref q_1, .ref q_3, .ref q_5, .ref q_7, .int 0, .ref q_9, .int 0])), (q_1, .inl (k_2, 8, .inl (upd a_15 (2 : Int32).toNatClampNeg (1 : Int32)))), (q_3, .inl (k_4, 8, .inl a_16)), (q_5, .inl (k_6, 6, .inl (fun _ => 0))), (q_7, .inl (k_8, 6, .inl (fun _ => 0))), (q_9, .inl (k_10, 8, .inr (.inl (fun _ => 0))))] := hD
  generalize (upd a_15 (2 : Int32).toNatClampNeg (1 : Int32)) = a_18 at hP hD
  refine lv_aload_n hx hb dX2_init_74 rfl (lv_at hl 1 rfl) ?_
  refine va_get (D := (dC, dI)) (ci := 7) (v := .ref q_3) (C := RX2) (T := TX2) (N := 8) hx hb hts (fun _ h9 => List.mem_cons_of_mem _ (List.mem_append_right _ (h9))) hown hK hP 0 rfl rfl 2 (by decide) (hts (.fieldLink RX2 19 "ExamHalls$Form" "most" "[I") (List.mem_of_getElem? (i := 7) rfl)) (fun _ h9 => h9) rfl dX2_init_75 ?_
  refine lv_iload_n hx hb dX2_init_78 rfl (lv_at hl 0 rfl) ?_
  refine lv_bipush (v := 12) hx hb dX2_init_79 (by decide) ?_
  refine va_iast hx hb hK hP hD hS 2 1 rfl rfl (by unfold vp_in; decide) dX2_init_81 (fun H locs hP hD hS => ?_)
  have hP : va_P (dC, dI) vwCl [(fo, .inr (7, [.int 1, .ref q_1, .ref q_3, .ref q_5, .ref q_7, .int 0, .ref q_9, .int 0])), (q_1, .inl (k_2, 8, .inl a_18)), (q_3, .inl (k_4, 8, .inl (upd a_16 (2 : Int32).toNatClampNeg (12 : Int32)))), (q_5, .inl (k_6, 6, .inl (fun _ => 0))), (q_7, .inl (k_8, 6, .inl (fun _ => 0))), (q_9, .inl (k_10, 8, .inr (.inl (fun _ => 0))))] H := hP
  have hD : va_D A [(fo, .inr (7, [.int 1, .ref q_1, .ref q_3, .ref q_5, .ref q_7, .int 0, .ref q_9, .int 0])), (q_1, .inl (k_2, 8, .inl a_18)), (q_3, .inl (k_4, 8, .inl (upd a_16 (2 : Int32).toNatClampNeg (12 : Int32)))), (q_5, .inl (k_6, 6, .inl (fun _ => 0))), (q_7, .inl (k_8, 6, .inl (fun _ => 0))), (q_9, .inl (k_10, 8, .inr (.inl (fun _ => 0))))] := hD
  generalize (upd a_16 (2 : Int32).toNatClampNeg (12 : Int32)) = a_19 at hP hD
  refine lv_iinc (v := 3) (lv' := [(1, .int 3), (0, .ref fo)]) hx hb dX2_init_82 hl (k := 0) rfl (by decide) (by decide) rfl (fun ls hl => ?_)
  refine lv_goto (tgt := 61) hx hb dX2_init_85 (by decide) ?_
  refine lv_iload_n hx hb dX2_init_61 rfl (lv_at hl 0 rfl) ?_
  refine lv_bipush (v := 8) hx hb dX2_init_62 (by decide) ?_
  refine lv_icmp_ge (tgt := 88) hx hb dX2_init_64 (by decide) (fun c_20 => absurd c_20 (by decide)) (fun _ => ?_)
  refine lv_aload_n hx hb dX2_init_67 rfl (lv_at hl 1 rfl) ?_
  refine va_get (D := (dC, dI)) (ci := 7) (v := .ref q_1) (C := RX2) (T := TX2) (N := 8) hx hb hts (fun _ h9 => List.mem_cons_of_mem _ (List.mem_append_right _ (h9))) hown hK hP 0 rfl rfl 1 (by decide) (hts (.fieldLink RX2 15 "ExamHalls$Form" "least" "[I") (List.mem_of_getElem? (i := 6) rfl)) (fun _ h9 => h9) rfl dX2_init_68 ?_
  refine lv_iload_n hx hb dX2_init_71 rfl (lv_at hl 0 rfl) ?_
  refine lv_iconst (v := 1) hx hb dX2_init_72 (by decide) ?_
  refine va_iast hx hb hK hP hD hS 1 0 rfl rfl (by unfold vp_in; decide) dX2_init_73 (fun H locs hP hD hS => ?_)
  have hP : va_P (dC, dI) vwCl [(fo, .inr (7, [.int 1, .ref q_1, .ref q_3, .ref q_5, .ref q_7, .int 0, .ref q_9, .int 0])), (q_1, .inl (k_2, 8, .inl (upd a_18 (3 : Int32).toNatClampNeg (1 : Int32)))), (q_3, .inl (k_4, 8, .inl a_19)), (q_5, .inl (k_6, 6, .inl (fun _ => 0))), (q_7, .inl (k_8, 6, .inl (fun _ => 0))), (q_9, .inl (k_10, 8, .inr (.inl (fun _ => 0))))] H := hP
  have hD : va_D A [(fo, .inr (7, [.int 1, .ref q_1, .ref q_3, .ref q_5, .ref q_7, .int 0, .ref q_9, .int 0])), (q_1, .inl (k_2, 8, .inl (upd a_18 (3 : Int32).toNatClampNeg (1 : Int32)))), (q_3, .inl (k_4, 8, .inl a_19)), (q_5, .inl (k_6, 6, .inl (fun _ => 0))), (q_7, .inl (k_8, 6, .inl (fun _ => 0))), (q_9, .inl (k_10, 8, .inr (.inl (fun _ => 0))))] := hD
  generalize (upd a_18 (3 : Int32).toNatClampNeg (1 : Int32)) = a_21 at hP hD
  refine lv_aload_n hx hb dX2_init_74 rfl (lv_at hl 1 rfl) ?_
  refine va_get (D := (dC, dI)) (ci := 7) (v := .ref q_3) (C := RX2) (T := TX2) (N := 8) hx hb hts (fun _ h9 => List.mem_cons_of_mem _ (List.mem_append_right _ (h9))) hown hK hP 0 rfl rfl 2 (by decide) (hts (.fieldLink RX2 19 "ExamHalls$Form" "most" "[I") (List.mem_of_getElem? (i := 7) rfl)) (fun _ h9 => h9) rfl dX2_init_75 ?_
  refine lv_iload_n hx hb dX2_init_78 rfl (lv_at hl 0 rfl) ?_
  refine lv_bipush (v := 12) hx hb dX2_init_79 (by decide) ?_
  refine va_iast hx hb hK hP hD hS 2 1 rfl rfl (by unfold vp_in; decide) dX2_init_81 (fun H locs hP hD hS => ?_)
  have hP : va_P (dC, dI) vwCl [(fo, .inr (7, [.int 1, .ref q_1, .ref q_3, .ref q_5, .ref q_7, .int 0, .ref q_9, .int 0])), (q_1, .inl (k_2, 8, .inl a_21)), (q_3, .inl (k_4, 8, .inl (upd a_19 (3 : Int32).toNatClampNeg (12 : Int32)))), (q_5, .inl (k_6, 6, .inl (fun _ => 0))), (q_7, .inl (k_8, 6, .inl (fun _ => 0))), (q_9, .inl (k_10, 8, .inr (.inl (fun _ => 0))))] H := hP
  have hD : va_D A [(fo, .inr (7, [.int 1, .ref q_1, .ref q_3, .ref q_5, .ref q_7, .int 0, .ref q_9, .int 0])), (q_1, .inl (k_2, 8, .inl a_21)), (q_3, .inl (k_4, 8, .inl (upd a_19 (3 : Int32).toNatClampNeg (12 : Int32)))), (q_5, .inl (k_6, 6, .inl (fun _ => 0))), (q_7, .inl (k_8, 6, .inl (fun _ => 0))), (q_9, .inl (k_10, 8, .inr (.inl (fun _ => 0))))] := hD
  generalize (upd a_19 (3 : Int32).toNatClampNeg (12 : Int32)) = a_22 at hP hD
  refine lv_iinc (v := 4) (lv' := [(1, .int 4), (0, .ref fo)]) hx hb dX2_init_82 hl (k := 0) rfl (by decide) (by decide) rfl (fun ls hl => ?_)
  refine lv_goto (tgt := 61) hx hb dX2_init_85 (by decide) ?_
  refine lv_iload_n hx hb dX2_init_61 rfl (lv_at hl 0 rfl) ?_
  refine lv_bipush (v := 8) hx hb dX2_init_62 (by decide) ?_
  refine lv_icmp_ge (tgt := 88) hx hb dX2_init_64 (by decide) (fun c_23 => absurd c_23 (by decide)) (fun _ => ?_)
  refine lv_aload_n hx hb dX2_init_67 rfl (lv_at hl 1 rfl) ?_
  refine va_get (D := (dC, dI)) (ci := 7) (v := .ref q_1) (C := RX2) (T := TX2) (N := 8) hx hb hts (fun _ h9 => List.mem_cons_of_mem _ (List.mem_append_right _ (h9))) hown hK hP 0 rfl rfl 1 (by decide) (hts (.fieldLink RX2 15 "ExamHalls$Form" "least" "[I") (List.mem_of_getElem? (i := 6) rfl)) (fun _ h9 => h9) rfl dX2_init_68 ?_
  refine lv_iload_n hx hb dX2_init_71 rfl (lv_at hl 0 rfl) ?_
  refine lv_iconst (v := 1) hx hb dX2_init_72 (by decide) ?_
  refine va_iast hx hb hK hP hD hS 1 0 rfl rfl (by unfold vp_in; decide) dX2_init_73 (fun H locs hP hD hS => ?_)
  have hP : va_P (dC, dI) vwCl [(fo, .inr (7, [.int 1, .ref q_1, .ref q_3, .ref q_5, .ref q_7, .int 0, .ref q_9, .int 0])), (q_1, .inl (k_2, 8, .inl (upd a_21 (4 : Int32).toNatClampNeg (1 : Int32)))), (q_3, .inl (k_4, 8, .inl a_22)), (q_5, .inl (k_6, 6, .inl (fun _ => 0))), (q_7, .inl (k_8, 6, .inl (fun _ => 0))), (q_9, .inl (k_10, 8, .inr (.inl (fun _ => 0))))] H := hP
  have hD : va_D A [(fo, .inr (7, [.int 1, .ref q_1, .ref q_3, .ref q_5, .ref q_7, .int 0, .ref q_9, .int 0])), (q_1, .inl (k_2, 8, .inl (upd a_21 (4 : Int32).toNatClampNeg (1 : Int32)))), (q_3, .inl (k_4, 8, .inl a_22)), (q_5, .inl (k_6, 6, .inl (fun _ => 0))), (q_7, .inl (k_8, 6, .inl (fun _ => 0))), (q_9, .inl (k_10, 8, .inr (.inl (fun _ => 0))))] := hD
  generalize (upd a_21 (4 : Int32).toNatClampNeg (1 : Int32)) = a_24 at hP hD
  refine lv_aload_n hx hb dX2_init_74 rfl (lv_at hl 1 rfl) ?_
  refine va_get (D := (dC, dI)) (ci := 7) (v := .ref q_3) (C := RX2) (T := TX2) (N := 8) hx hb hts (fun _ h9 => List.mem_cons_of_mem _ (List.mem_append_right _ (h9))) hown hK hP 0 rfl rfl 2 (by decide) (hts (.fieldLink RX2 19 "ExamHalls$Form" "most" "[I") (List.mem_of_getElem? (i := 7) rfl)) (fun _ h9 => h9) rfl dX2_init_75 ?_
  refine lv_iload_n hx hb dX2_init_78 rfl (lv_at hl 0 rfl) ?_
  refine lv_bipush (v := 12) hx hb dX2_init_79 (by decide) ?_
  refine va_iast hx hb hK hP hD hS 2 1 rfl rfl (by unfold vp_in; decide) dX2_init_81 (fun H locs hP hD hS => ?_)
  have hP : va_P (dC, dI) vwCl [(fo, .inr (7, [.int 1, .ref q_1, .ref q_3, .ref q_5, .ref q_7, .int 0, .ref q_9, .int 0])), (q_1, .inl (k_2, 8, .inl a_24)), (q_3, .inl (k_4, 8, .inl (upd a_22 (4 : Int32).toNatClampNeg (12 : Int32)))), (q_5, .inl (k_6, 6, .inl (fun _ => 0))), (q_7, .inl (k_8, 6, .inl (fun _ => 0))), (q_9, .inl (k_10, 8, .inr (.inl (fun _ => 0))))] H := hP
  have hD : va_D A [(fo, .inr (7, [.int 1, .ref q_1, .ref q_3, .ref q_5, .ref q_7, .int 0, .ref q_9, .int 0])), (q_1, .inl (k_2, 8, .inl a_24)), (q_3, .inl (k_4, 8, .inl (upd a_22 (4 : Int32).toNatClampNeg (12 : Int32)))), (q_5, .inl (k_6, 6, .inl (fun _ => 0))), (q_7, .inl (k_8, 6, .inl (fun _ => 0))), (q_9, .inl (k_10, 8, .inr (.inl (fun _ => 0))))] := hD
  generalize (upd a_22 (4 : Int32).toNatClampNeg (12 : Int32)) = a_25 at hP hD
  refine lv_iinc (v := 5) (lv' := [(1, .int 5), (0, .ref fo)]) hx hb dX2_init_82 hl (k := 0) rfl (by decide) (by decide) rfl (fun ls hl => ?_)
  refine lv_goto (tgt := 61) hx hb dX2_init_85 (by decide) ?_
  refine lv_iload_n hx hb dX2_init_61 rfl (lv_at hl 0 rfl) ?_
  refine lv_bipush (v := 8) hx hb dX2_init_62 (by decide) ?_
  refine lv_icmp_ge (tgt := 88) hx hb dX2_init_64 (by decide) (fun c_26 => absurd c_26 (by decide)) (fun _ => ?_)
  refine lv_aload_n hx hb dX2_init_67 rfl (lv_at hl 1 rfl) ?_
  refine va_get (D := (dC, dI)) (ci := 7) (v := .ref q_1) (C := RX2) (T := TX2) (N := 8) hx hb hts (fun _ h9 => List.mem_cons_of_mem _ (List.mem_append_right _ (h9))) hown hK hP 0 rfl rfl 1 (by decide) (hts (.fieldLink RX2 15 "ExamHalls$Form" "least" "[I") (List.mem_of_getElem? (i := 6) rfl)) (fun _ h9 => h9) rfl dX2_init_68 ?_
  refine lv_iload_n hx hb dX2_init_71 rfl (lv_at hl 0 rfl) ?_
  refine lv_iconst (v := 1) hx hb dX2_init_72 (by decide) ?_
  refine va_iast hx hb hK hP hD hS 1 0 rfl rfl (by unfold vp_in; decide) dX2_init_73 (fun H locs hP hD hS => ?_)
  have hP : va_P (dC, dI) vwCl [(fo, .inr (7, [.int 1, .ref q_1, .ref q_3, .ref q_5, .ref q_7, .int 0, .ref q_9, .int 0])), (q_1, .inl (k_2, 8, .inl (upd a_24 (5 : Int32).toNatClampNeg (1 : Int32)))), (q_3, .inl (k_4, 8, .inl a_25)), (q_5, .inl (k_6, 6, .inl (fun _ => 0))), (q_7, .inl (k_8, 6, .inl (fun _ => 0))), (q_9, .inl (k_10, 8, .inr (.inl (fun _ => 0))))] H := hP
  have hD : va_D A [(fo, .inr (7, [.int 1, .ref q_1, .ref q_3, .ref q_5, .ref q_7, .int 0, .ref q_9, .int 0])), (q_1, .inl (k_2, 8, .inl (upd a_24 (5 : Int32).toNatClampNeg (1 : Int32)))), (q_3, .inl (k_4, 8, .inl a_25)), (q_5, .inl (k_6, 6, .inl (fun _ => 0))), (q_7, .inl (k_8, 6, .inl (fun _ => 0))), (q_9, .inl (k_10, 8, .inr (.inl (fun _ => 0))))] := hD
  generalize (upd a_24 (5 : Int32).toNatClampNeg (1 : Int32)) = a_27 at hP hD
  refine lv_aload_n hx hb dX2_init_74 rfl (lv_at hl 1 rfl) ?_
  refine va_get (D := (dC, dI)) (ci := 7) (v := .ref q_3) (C := RX2) (T := TX2) (N := 8) hx hb hts (fun _ h9 => List.mem_cons_of_mem _ (List.mem_append_right _ (h9))) hown hK hP 0 rfl rfl 2 (by decide) (hts (.fieldLink RX2 19 "ExamHalls$Form" "most" "[I") (List.mem_of_getElem? (i := 7) rfl)) (fun _ h9 => h9) rfl dX2_init_75 ?_
  refine lv_iload_n hx hb dX2_init_78 rfl (lv_at hl 0 rfl) ?_
  refine lv_bipush (v := 12) hx hb dX2_init_79 (by decide) ?_
  refine va_iast hx hb hK hP hD hS 2 1 rfl rfl (by unfold vp_in; decide) dX2_init_81 (fun H locs hP hD hS => ?_)
  have hP : va_P (dC, dI) vwCl [(fo, .inr (7, [.int 1, .ref q_1, .ref q_3, .ref q_5, .ref q_7, .int 0, .ref q_9, .int 0])), (q_1, .inl (k_2, 8, .inl a_27)), (q_3, .inl (k_4, 8, .inl (upd a_25 (5 : Int32).toNatClampNeg (12 : Int32)))), (q_5, .inl (k_6, 6, .inl (fun _ => 0))), (q_7, .inl (k_8, 6, .inl (fun _ => 0))), (q_9, .inl (k_10, 8, .inr (.inl (fun _ => 0))))] H := hP
  have hD : va_D A [(fo, .inr (7, [.int 1, .ref q_1, .ref q_3, .ref q_5, .ref q_7, .int 0, .ref q_9, .int 0])), (q_1, .inl (k_2, 8, .inl a_27)), (q_3, .inl (k_4, 8, .inl (upd a_25 (5 : Int32).toNatClampNeg (12 : Int32)))), (q_5, .inl (k_6, 6, .inl (fun _ => 0))), (q_7, .inl (k_8, 6, .inl (fun _ => 0))), (q_9, .inl (k_10, 8, .inr (.inl (fun _ => 0))))] := hD
  generalize (upd a_25 (5 : Int32).toNatClampNeg (12 : Int32)) = a_28 at hP hD
  refine lv_iinc (v := 6) (lv' := [(1, .int 6), (0, .ref fo)]) hx hb dX2_init_82 hl (k := 0) rfl (by decide) (by decide) rfl (fun ls hl => ?_)
  refine lv_goto (tgt := 61) hx hb dX2_init_85 (by decide) ?_
  refine lv_iload_n hx hb dX2_init_61 rfl (lv_at hl 0 rfl) ?_
  refine lv_bipush (v := 8) hx hb dX2_init_62 (by decide) ?_
  refine lv_icmp_ge (tgt := 88) hx hb dX2_init_64 (by decide) (fun c_29 => absurd c_29 (by decide)) (fun _ => ?_)
  refine lv_aload_n hx hb dX2_init_67 rfl (lv_at hl 1 rfl) ?_
  refine va_get (D := (dC, dI)) (ci := 7) (v := .ref q_1) (C := RX2) (T := TX2) (N := 8) hx hb hts (fun _ h9 => List.mem_cons_of_mem _ (List.mem_append_right _ (h9))) hown hK hP 0 rfl rfl 1 (by decide) (hts (.fieldLink RX2 15 "ExamHalls$Form" "least" "[I") (List.mem_of_getElem? (i := 6) rfl)) (fun _ h9 => h9) rfl dX2_init_68 ?_
  refine lv_iload_n hx hb dX2_init_71 rfl (lv_at hl 0 rfl) ?_
  refine lv_iconst (v := 1) hx hb dX2_init_72 (by decide) ?_
  refine va_iast hx hb hK hP hD hS 1 0 rfl rfl (by unfold vp_in; decide) dX2_init_73 (fun H locs hP hD hS => ?_)
  have hP : va_P (dC, dI) vwCl [(fo, .inr (7, [.int 1, .ref q_1, .ref q_3, .ref q_5, .ref q_7, .int 0, .ref q_9, .int 0])), (q_1, .inl (k_2, 8, .inl (upd a_27 (6 : Int32).toNatClampNeg (1 : Int32)))), (q_3, .inl (k_4, 8, .inl a_28)), (q_5, .inl (k_6, 6, .inl (fun _ => 0))), (q_7, .inl (k_8, 6, .inl (fun _ => 0))), (q_9, .inl (k_10, 8, .inr (.inl (fun _ => 0))))] H := hP
  have hD : va_D A [(fo, .inr (7, [.int 1, .ref q_1, .ref q_3, .ref q_5, .ref q_7, .int 0, .ref q_9, .int 0])), (q_1, .inl (k_2, 8, .inl (upd a_27 (6 : Int32).toNatClampNeg (1 : Int32)))), (q_3, .inl (k_4, 8, .inl a_28)), (q_5, .inl (k_6, 6, .inl (fun _ => 0))), (q_7, .inl (k_8, 6, .inl (fun _ => 0))), (q_9, .inl (k_10, 8, .inr (.inl (fun _ => 0))))] := hD
  generalize (upd a_27 (6 : Int32).toNatClampNeg (1 : Int32)) = a_30 at hP hD
  refine lv_aload_n hx hb dX2_init_74 rfl (lv_at hl 1 rfl) ?_
  refine va_get (D := (dC, dI)) (ci := 7) (v := .ref q_3) (C := RX2) (T := TX2) (N := 8) hx hb hts (fun _ h9 => List.mem_cons_of_mem _ (List.mem_append_right _ (h9))) hown hK hP 0 rfl rfl 2 (by decide) (hts (.fieldLink RX2 19 "ExamHalls$Form" "most" "[I") (List.mem_of_getElem? (i := 7) rfl)) (fun _ h9 => h9) rfl dX2_init_75 ?_
  refine lv_iload_n hx hb dX2_init_78 rfl (lv_at hl 0 rfl) ?_
  refine lv_bipush (v := 12) hx hb dX2_init_79 (by decide) ?_
  refine va_iast hx hb hK hP hD hS 2 1 rfl rfl (by unfold vp_in; decide) dX2_init_81 (fun H locs hP hD hS => ?_)
  have hP : va_P (dC, dI) vwCl [(fo, .inr (7, [.int 1, .ref q_1, .ref q_3, .ref q_5, .ref q_7, .int 0, .ref q_9, .int 0])), (q_1, .inl (k_2, 8, .inl a_30)), (q_3, .inl (k_4, 8, .inl (upd a_28 (6 : Int32).toNatClampNeg (12 : Int32)))), (q_5, .inl (k_6, 6, .inl (fun _ => 0))), (q_7, .inl (k_8, 6, .inl (fun _ => 0))), (q_9, .inl (k_10, 8, .inr (.inl (fun _ => 0))))] H := hP
  have hD : va_D A [(fo, .inr (7, [.int 1, .ref q_1, .ref q_3, .ref q_5, .ref q_7, .int 0, .ref q_9, .int 0])), (q_1, .inl (k_2, 8, .inl a_30)), (q_3, .inl (k_4, 8, .inl (upd a_28 (6 : Int32).toNatClampNeg (12 : Int32)))), (q_5, .inl (k_6, 6, .inl (fun _ => 0))), (q_7, .inl (k_8, 6, .inl (fun _ => 0))), (q_9, .inl (k_10, 8, .inr (.inl (fun _ => 0))))] := hD
  generalize (upd a_28 (6 : Int32).toNatClampNeg (12 : Int32)) = a_31 at hP hD
  refine lv_iinc (v := 7) (lv' := [(1, .int 7), (0, .ref fo)]) hx hb dX2_init_82 hl (k := 0) rfl (by decide) (by decide) rfl (fun ls hl => ?_)
  refine lv_goto (tgt := 61) hx hb dX2_init_85 (by decide) ?_
  refine lv_iload_n hx hb dX2_init_61 rfl (lv_at hl 0 rfl) ?_
  refine lv_bipush (v := 8) hx hb dX2_init_62 (by decide) ?_
  refine lv_icmp_ge (tgt := 88) hx hb dX2_init_64 (by decide) (fun c_32 => absurd c_32 (by decide)) (fun _ => ?_)
  refine lv_aload_n hx hb dX2_init_67 rfl (lv_at hl 1 rfl) ?_
  refine va_get (D := (dC, dI)) (ci := 7) (v := .ref q_1) (C := RX2) (T := TX2) (N := 8) hx hb hts (fun _ h9 => List.mem_cons_of_mem _ (List.mem_append_right _ (h9))) hown hK hP 0 rfl rfl 1 (by decide) (hts (.fieldLink RX2 15 "ExamHalls$Form" "least" "[I") (List.mem_of_getElem? (i := 6) rfl)) (fun _ h9 => h9) rfl dX2_init_68 ?_
  refine lv_iload_n hx hb dX2_init_71 rfl (lv_at hl 0 rfl) ?_
  refine lv_iconst (v := 1) hx hb dX2_init_72 (by decide) ?_
  refine va_iast hx hb hK hP hD hS 1 0 rfl rfl (by unfold vp_in; decide) dX2_init_73 (fun H locs hP hD hS => ?_)
  have hP : va_P (dC, dI) vwCl [(fo, .inr (7, [.int 1, .ref q_1, .ref q_3, .ref q_5, .ref q_7, .int 0, .ref q_9, .int 0])), (q_1, .inl (k_2, 8, .inl (upd a_30 (7 : Int32).toNatClampNeg (1 : Int32)))), (q_3, .inl (k_4, 8, .inl a_31)), (q_5, .inl (k_6, 6, .inl (fun _ => 0))), (q_7, .inl (k_8, 6, .inl (fun _ => 0))), (q_9, .inl (k_10, 8, .inr (.inl (fun _ => 0))))] H := hP
  have hD : va_D A [(fo, .inr (7, [.int 1, .ref q_1, .ref q_3, .ref q_5, .ref q_7, .int 0, .ref q_9, .int 0])), (q_1, .inl (k_2, 8, .inl (upd a_30 (7 : Int32).toNatClampNeg (1 : Int32)))), (q_3, .inl (k_4, 8, .inl a_31)), (q_5, .inl (k_6, 6, .inl (fun _ => 0))), (q_7, .inl (k_8, 6, .inl (fun _ => 0))), (q_9, .inl (k_10, 8, .inr (.inl (fun _ => 0))))] := hD
  generalize (upd a_30 (7 : Int32).toNatClampNeg (1 : Int32)) = a_33 at hP hD
  refine lv_aload_n hx hb dX2_init_74 rfl (lv_at hl 1 rfl) ?_
  refine va_get (D := (dC, dI)) (ci := 7) (v := .ref q_3) (C := RX2) (T := TX2) (N := 8) hx hb hts (fun _ h9 => List.mem_cons_of_mem _ (List.mem_append_right _ (h9))) hown hK hP 0 rfl rfl 2 (by decide) (hts (.fieldLink RX2 19 "ExamHalls$Form" "most" "[I") (List.mem_of_getElem? (i := 7) rfl)) (fun _ h9 => h9) rfl dX2_init_75 ?_
  refine lv_iload_n hx hb dX2_init_78 rfl (lv_at hl 0 rfl) ?_
  refine lv_bipush (v := 12) hx hb dX2_init_79 (by decide) ?_
  refine va_iast hx hb hK hP hD hS 2 1 rfl rfl (by unfold vp_in; decide) dX2_init_81 (fun H locs hP hD hS => ?_)
  have hP : va_P (dC, dI) vwCl [(fo, .inr (7, [.int 1, .ref q_1, .ref q_3, .ref q_5, .ref q_7, .int 0, .ref q_9, .int 0])), (q_1, .inl (k_2, 8, .inl a_33)), (q_3, .inl (k_4, 8, .inl (upd a_31 (7 : Int32).toNatClampNeg (12 : Int32)))), (q_5, .inl (k_6, 6, .inl (fun _ => 0))), (q_7, .inl (k_8, 6, .inl (fun _ => 0))), (q_9, .inl (k_10, 8, .inr (.inl (fun _ => 0))))] H := hP
  have hD : va_D A [(fo, .inr (7, [.int 1, .ref q_1, .ref q_3, .ref q_5, .ref q_7, .int 0, .ref q_9, .int 0])), (q_1, .inl (k_2, 8, .inl a_33)), (q_3, .inl (k_4, 8, .inl (upd a_31 (7 : Int32).toNatClampNeg (12 : Int32)))), (q_5, .inl (k_6, 6, .inl (fun _ => 0))), (q_7, .inl (k_8, 6, .inl (fun _ => 0))), (q_9, .inl (k_10, 8, .inr (.inl (fun _ => 0))))] := hD
  generalize (upd a_31 (7 : Int32).toNatClampNeg (12 : Int32)) = a_34 at hP hD
  refine lv_iinc (v := 8) (lv' := [(1, .int 8), (0, .ref fo)]) hx hb dX2_init_82 hl (k := 0) rfl (by decide) (by decide) rfl (fun ls hl => ?_)
  refine lv_goto (tgt := 61) hx hb dX2_init_85 (by decide) ?_
  refine lv_iload_n hx hb dX2_init_61 rfl (lv_at hl 0 rfl) ?_
  refine lv_bipush (v := 8) hx hb dX2_init_62 (by decide) ?_
  refine lv_icmp_ge (tgt := 88) hx hb dX2_init_64 (by decide) (fun _ => ?_) (fun c_35 => absurd (by decide) c_35)
  have hP9 := hP.sub (ws' := [(fo, .inr (7, [.int 1, .ref q_1, .ref q_3, .ref q_5, .ref q_7, .int 0, .ref q_9, .int 0])), (q_1, .inl (k_2, 8, .inl a_33)), (q_3, .inl (k_4, 8, .inl a_34)), (q_5, .inl (k_6, 6, .inl (fun _ => 0))), (q_7, .inl (k_8, 6, .inl (fun _ => 0))), (q_9, .inl (k_10, 8, .inr (.inl (fun _ => 0))))]) [0, 1, 2, 3, 4, 5] rfl
  have hD9 := hD.sub (ws' := [(fo, .inr (7, [.int 1, .ref q_1, .ref q_3, .ref q_5, .ref q_7, .int 0, .ref q_9, .int 0])), (q_1, .inl (k_2, 8, .inl a_33)), (q_3, .inl (k_4, 8, .inl a_34)), (q_5, .inl (k_6, 6, .inl (fun _ => 0))), (q_7, .inl (k_8, 6, .inl (fun _ => 0))), (q_9, .inl (k_10, 8, .inr (.inl (fun _ => 0))))]) [0, 1, 2, 3, 4, 5] (by decide) rfl
  have hK9 := hK.sub (tys' := [(k_2, .int), (k_4, .int), (k_6, .int), (k_8, .int), (k_10, .long)]) [0, 1, 2, 3, 4] rfl
  exact W.vret hx hb hr (fun t ht hW => ⟨⟨(), rfl, trivial, q_1, q_3, q_5, q_7, q_9, k_2, k_4, k_6, k_8, k_10, a_33, a_34, by rw [ht]; exact hP9, va_K.moved hW.alike hK9, hD9⟩, hS.F ht⟩) hS.2.2 dX2_init_88

set_option maxHeartbeats 4000000 in
set_option maxRecDepth 100000 in
theorem c_X5_init (l : Launch) (dC : Nat → ClassId) (dI : Nat → Nat → Nat) (x : Nat) (sz : Nat) : Met l yX5_init wsX5_init ({ frames := 2, cells := 15, slots := 408, locals := 33 }) (va_Pc [.ref x] (PQ dC dI sz [(x, .inr (10, [.null, .int 0, .null, .int 0, .null, .null, .int 0, .null, .int 0, .int 0, .null, .null, .null, .null]))] [])) (va_Qv (fun _ : Unit => True) (fun _ t => ∃ (cd : Nat) (rd : Nat) (tp : Nat) (fo : Nat) (qu : Nat) (sh : Nat) (vs : Nat) (pa : Nat) (pb : Nat) (tb : Nat) (le : Nat) (mo : Nat) (os : Nat) (ps : Nat) (br : Nat) (kl : ClassId) (km : ClassId) (ko : ClassId) (kp : ClassId) (kb : ClassId) (fl : Nat → Int32) (fm : Nat → Int32) (kC : ClassId) (kR : ClassId) (kB : ClassId) (kq : ClassId), va_P (dC, dI) vwCl [(x, .inr (10, [.ref cd, .int 0, .ref rd, .int 0, .ref tp, .ref fo, .int 10, .ref qu, .int 0, .int 0, .ref sh, .ref vs, .ref pa, .ref pb])), (cd, .inl (kC, 24, .inr (.inr (.inr (.inr (fun _ => none)))))), (rd, .inl (kR, 6, .inr (.inr (.inr (.inr (fun _ => none)))))), (tp, .inr (9, [.ref tb, .int 0])), (tb, .inl (kB, 250, .inl (fun _ => 0))), (fo, .inr (7, [.int 1, .ref le, .ref mo, .ref os, .ref ps, .int 0, .ref br, .int 0])), (le, .inl (kl, 8, .inl fl)), (mo, .inl (km, 8, .inl fm)), (os, .inl (ko, 6, .inl (fun _ => 0))), (ps, .inl (kp, 6, .inl (fun _ => 0))), (br, .inl (kb, 8, .inr (.inl (fun _ => 0)))), (qu, .inl (kq, 4, .inl (fun _ => 0)))] t.heap ∧ va_K (dC, dI) vwCl [(kC, .object "ExamHalls$Candidate"), (kR, .object "ExamHalls$Reader"), (kB, .byte), (kl, .int), (km, .int), (ko, .int), (kp, .int), (kb, .long), (kq, .int)] t ∧ va_D (va_A [(x, .inr (10, [.null, .int 0, .null, .int 0, .null, .null, .int 0, .null, .int 0, .int 0, .null, .null, .null, .null]))] sz) [(x, .inr (10, [.ref cd, .int 0, .ref rd, .int 0, .ref tp, .ref fo, .int 10, .ref qu, .int 0, .int 0, .ref sh, .ref vs, .ref pa, .ref pb])), (cd, .inl (kC, 24, .inr (.inr (.inr (.inr (fun _ => none)))))), (rd, .inl (kR, 6, .inr (.inr (.inr (.inr (fun _ => none)))))), (tp, .inr (9, [.ref tb, .int 0])), (tb, .inl (kB, 250, .inl (fun _ => 0))), (fo, .inr (7, [.int 1, .ref le, .ref mo, .ref os, .ref ps, .int 0, .ref br, .int 0])), (le, .inl (kl, 8, .inl fl)), (mo, .inl (km, 8, .inl fm)), (os, .inl (ko, 6, .inl (fun _ => 0))), (ps, .inl (kp, 6, .inl (fun _ => 0))), (br, .inl (kb, 8, .inr (.inl (fun _ => 0)))), (qu, .inl (kq, 4, .inl (fun _ => 0)))]) (va_A [(x, .inr (10, [.null, .int 0, .null, .int 0, .null, .null, .int 0, .null, .int 0, .int 0, .null, .null, .null, .null]))] sz)) 15 408 (va_A [(x, .inr (10, [.null, .int 0, .null, .int 0, .null, .null, .int 0, .null, .int 0, .int 0, .null, .null, .null, .null]))] sz) := by
  refine Met.ofW (cc := cX5_init) (maxL := 1) (ret := none) (by decide) rfl ?_
  intro p e s m args below meth c s₁ B hml hv
  obtain ⟨rfl, hsz, hP, hK, hD0, hF⟩ := hv
  have hx := B.exec
  have hb := B.bytes
  have hr := B.returns
  have hts := atoms_spec (ws := wsX5_init) B.pre
  have hown : s.vm.findClass RX5 = some m.cls := findClass_of_methodNamed B.named
  have hlocks := B.notSynchronized
  have hin : meth.name = "<init>" := (name_of_methodNamed B.named B.method).1
  subst hsz
  have hD := hD0.self (sz := s.heap.size)
  generalize hAe : va_A [(x, .inr (10, [.null, .int 0, .null, .int 0, .null, .null, .int 0, .null, .int 0, .int 0, .null, .null, .null, .null]))] s.heap.size = A at hD ⊢
  have hA : ∀ q : Nat, s.heap.size ≤ q → A q := fun q h => by rw [← hAe]; exact Or.inr h
  have hS : va_S A s.heap s.heap [] := va_S.rf
  have hl := lv_entry ([.ref x]) (n := 1) (Nat.le_of_ble_eq_true rfl)
  rw [lg_entry_eq]
  generalize (lg_sl ([.ref x]) ++ List.replicate (1 - (lg_sl ([.ref x])).length) Slot.unset).toArray = ls at hl ⊢
  have hl : lv_has ls 1 [(0, .ref x)] := hl
  refine lv_aload_n hx hb dX5_init_0 rfl (lv_at hl 0 rfl) ?_
  refine W.objInit hx hb hown (hts (.methodLink RX5 1 objectInit) (List.mem_of_getElem? (i := 1) rfl)) (hts (.instanceMethod objectInit) (List.mem_of_getElem? (i := 2) rfl)) (hts _ (List.mem_of_getElem? (i := 3) rfl)) rfl (by rw [hml]; exact hl.1) rfl dX5_init_1 (Nat.le_of_ble_eq_true rfl) (Nat.le_of_ble_eq_true rfl) ?_
  refine W.eq (g2 := F0 m 4 ls []) rfl ?_
  refine lv_aload_n hx hb dX5_init_4 rfl (lv_at hl 0 rfl) ?_
  refine lv_bipush (v := 24) hx hb dX5_init_5 (by decide) ?_
  refine va_newq hx hb hown (hts (.classLink RX5 9 RX0) (List.mem_of_getElem? (i := 4) rfl)) (Ft.ao hF "ExamHalls$Candidate" (by decide)) hK hP hD hS hA (by decide) (N' := 24) (by decide) (Nat.le_of_ble_eq_true rfl) (Nat.le_of_ble_eq_true rfl) (Nat.le_of_ble_eq_true rfl) dX5_init_7 (fun q_1 k_2 H hK hP hD hS => ?_)
  have hP : va_P (dC, dI) vwCl [(x, .inr (10, [.null, .int 0, .null, .int 0, .null, .null, .int 0, .null, .int 0, .int 0, .null, .null, .null, .null])), (q_1, .inl (k_2, 24, .inr (.inr (.inr (.inr (fun _ => none))))))] H := hP
  have hD : va_D A [(x, .inr (10, [.null, .int 0, .null, .int 0, .null, .null, .int 0, .null, .int 0, .int 0, .null, .null, .null, .null])), (q_1, .inl (k_2, 24, .inr (.inr (.inr (.inr (fun _ => none))))))] := hD
  have hK : va_K (dC, dI) vwCl [(k_2, .object "ExamHalls$Candidate")] s := hK
  refine W.widen (k := 1) (n := 24) (Nat.le_of_ble_eq_true rfl) (Nat.le_of_ble_eq_true rfl) ?_
  refine va_putF (D := (dC, dI)) (ci := 10) (v := .ref q_1) (ty := .array (.object "ExamHalls$Candidate")) (C := RX5) (T := TX5) (N := 14) hx hb hts (fun _ h9 => List.mem_cons_of_mem _ (List.mem_append_left _ (List.mem_append_left _ (List.mem_append_right _ (h9))))) tyX5 tyX5_ok nmX5 hown hK hP hD hS 0 rfl rfl 0 (by decide) (hts (.fieldLink RX5 11 "ExamHalls" "candidates" "[LExamHalls$Candidate;") (List.mem_of_getElem? (i := 5) rfl)) (fun _ h9 => h9) rfl hin rfl (by decide +kernel) rfl rfl (Nat.le_of_ble_eq_true rfl) dX5_init_10 (fun H locs hP hD hS => ?_)
  have hP : va_P (dC, dI) vwCl [(x, .inr (10, [.ref q_1, .int 0, .null, .int 0, .null, .null, .int 0, .null, .int 0, .int 0, .null, .null, .null, .null])), (q_1, .inl (k_2, 24, .inr (.inr (.inr (.inr (fun _ => none))))))] H := hP
  have hD : va_D A [(x, .inr (10, [.ref q_1, .int 0, .null, .int 0, .null, .null, .int 0, .null, .int 0, .int 0, .null, .null, .null, .null])), (q_1, .inl (k_2, 24, .inr (.inr (.inr (.inr (fun _ => none))))))] := hD
  refine lv_aload_n hx hb dX5_init_13 rfl (lv_at hl 0 rfl) ?_
  refine lv_iconst (v := 0) hx hb dX5_init_14 (by decide) ?_
  refine va_put (D := (dC, dI)) (ci := 10) (v := .int 0) (ty := .int) (C := RX5) (T := TX5) (N := 14) hx hb hts (fun _ h9 => List.mem_cons_of_mem _ (List.mem_append_left _ (List.mem_append_left _ (List.mem_append_right _ (h9))))) tyX5 tyX5_ok nmX5 hown hK hP hD hS 0 rfl rfl 1 (by decide) (hts (.fieldLink RX5 15 "ExamHalls" "candidateCount" "I") (List.mem_of_getElem? (i := 6) rfl)) (fun _ h9 => h9) rfl (by decide +kernel) rfl rfl (Nat.le_of_ble_eq_true rfl) dX5_init_15 (fun H locs hP hD hS => ?_)
  have hP : va_P (dC, dI) vwCl [(x, .inr (10, [.ref q_1, .int 0, .null, .int 0, .null, .null, .int 0, .null, .int 0, .int 0, .null, .null, .null, .null])), (q_1, .inl (k_2, 24, .inr (.inr (.inr (.inr (fun _ => none))))))] H := hP
  have hD : va_D A [(x, .inr (10, [.ref q_1, .int 0, .null, .int 0, .null, .null, .int 0, .null, .int 0, .int 0, .null, .null, .null, .null])), (q_1, .inl (k_2, 24, .inr (.inr (.inr (.inr (fun _ => none))))))] := hD
  refine lv_aload_n hx hb dX5_init_18 rfl (lv_at hl 0 rfl) ?_
  refine lv_bipush (v := 6) hx hb dX5_init_19 (by decide) ?_
  refine va_newq hx hb hown (hts (.classLink RX5 19 RX3) (List.mem_of_getElem? (i := 7) rfl)) (Ft.ao hF "ExamHalls$Reader" (by decide)) hK hP hD hS hA (by decide) (N' := 6) (by decide) (Nat.le_of_ble_eq_true rfl) (Nat.le_of_ble_eq_true rfl) (Nat.le_of_ble_eq_true rfl) dX5_init_21 (fun q_3 k_4 H hK hP hD hS => ?_)
  have hP : va_P (dC, dI) vwCl [(x, .inr (10, [.ref q_1, .int 0, .null, .int 0, .null, .null, .int 0, .null, .int 0, .int 0, .null, .null, .null, .null])), (q_1, .inl (k_2, 24, .inr (.inr (.inr (.inr (fun _ => none)))))), (q_3, .inl (k_4, 6, .inr (.inr (.inr (.inr (fun _ => none))))))] H := hP
  have hD : va_D A [(x, .inr (10, [.ref q_1, .int 0, .null, .int 0, .null, .null, .int 0, .null, .int 0, .int 0, .null, .null, .null, .null])), (q_1, .inl (k_2, 24, .inr (.inr (.inr (.inr (fun _ => none)))))), (q_3, .inl (k_4, 6, .inr (.inr (.inr (.inr (fun _ => none))))))] := hD
  have hK : va_K (dC, dI) vwCl [(k_2, .object "ExamHalls$Candidate"), (k_4, .object "ExamHalls$Reader")] s := hK
  refine W.widen (k := 2) (n := 30) (Nat.le_of_ble_eq_true rfl) (Nat.le_of_ble_eq_true rfl) ?_
  refine va_putF (D := (dC, dI)) (ci := 10) (v := .ref q_3) (ty := .array (.object "ExamHalls$Reader")) (C := RX5) (T := TX5) (N := 14) hx hb hts (fun _ h9 => List.mem_cons_of_mem _ (List.mem_append_left _ (List.mem_append_left _ (List.mem_append_right _ (h9))))) tyX5 tyX5_ok nmX5 hown hK hP hD hS 0 rfl rfl 2 (by decide) (hts (.fieldLink RX5 21 "ExamHalls" "readers" "[LExamHalls$Reader;") (List.mem_of_getElem? (i := 8) rfl)) (fun _ h9 => h9) rfl hin rfl (by decide +kernel) rfl rfl (Nat.le_of_ble_eq_true rfl) dX5_init_24 (fun H locs hP hD hS => ?_)
  have hP : va_P (dC, dI) vwCl [(x, .inr (10, [.ref q_1, .int 0, .ref q_3, .int 0, .null, .null, .int 0, .null, .int 0, .int 0, .null, .null, .null, .null])), (q_1, .inl (k_2, 24, .inr (.inr (.inr (.inr (fun _ => none)))))), (q_3, .inl (k_4, 6, .inr (.inr (.inr (.inr (fun _ => none))))))] H := hP
  have hD : va_D A [(x, .inr (10, [.ref q_1, .int 0, .ref q_3, .int 0, .null, .null, .int 0, .null, .int 0, .int 0, .null, .null, .null, .null])), (q_1, .inl (k_2, 24, .inr (.inr (.inr (.inr (fun _ => none)))))), (q_3, .inl (k_4, 6, .inr (.inr (.inr (.inr (fun _ => none))))))] := hD
  refine lv_aload_n hx hb dX5_init_27 rfl (lv_at hl 0 rfl) ?_
  refine lv_iconst (v := 0) hx hb dX5_init_28 (by decide) ?_
  refine va_put (D := (dC, dI)) (ci := 10) (v := .int 0) (ty := .int) (C := RX5) (T := TX5) (N := 14) hx hb hts (fun _ h9 => List.mem_cons_of_mem _ (List.mem_append_left _ (List.mem_append_left _ (List.mem_append_right _ (h9))))) tyX5 tyX5_ok nmX5 hown hK hP hD hS 0 rfl rfl 3 (by decide) (hts (.fieldLink RX5 25 "ExamHalls" "readerCount" "I") (List.mem_of_getElem? (i := 9) rfl)) (fun _ h9 => h9) rfl (by decide +kernel) rfl rfl (Nat.le_of_ble_eq_true rfl) dX5_init_29 (fun H locs hP hD hS => ?_)
  have hP : va_P (dC, dI) vwCl [(x, .inr (10, [.ref q_1, .int 0, .ref q_3, .int 0, .null, .null, .int 0, .null, .int 0, .int 0, .null, .null, .null, .null])), (q_1, .inl (k_2, 24, .inr (.inr (.inr (.inr (fun _ => none)))))), (q_3, .inl (k_4, 6, .inr (.inr (.inr (.inr (fun _ => none))))))] H := hP
  have hD : va_D A [(x, .inr (10, [.ref q_1, .int 0, .ref q_3, .int 0, .null, .null, .int 0, .null, .int 0, .int 0, .null, .null, .null, .null])), (q_1, .inl (k_2, 24, .inr (.inr (.inr (.inr (fun _ => none)))))), (q_3, .inl (k_4, 6, .inr (.inr (.inr (.inr (fun _ => none))))))] := hD
  refine lv_aload_n hx hb dX5_init_32 rfl (lv_at hl 0 rfl) ?_
  refine va_new (ci := 9) (fs := [.null, .int 0]) (C := RX4) (T := TX4) (N := 2) hx hb hts (fun _ h9 => List.mem_cons_of_mem _ (List.mem_append_left _ (List.mem_append_right _ (h9)))) tyX4 tyX4_ok hown (hts (.classLink RX5 28 RX4) (List.mem_of_getElem? (i := 10) rfl)) (hts (.instantiable RX4 2) (List.mem_of_getElem? (i := 11) rfl)) (hts (.initialized RX4) (List.mem_of_getElem? (i := 12) rfl)) hK hP hD hS hA rfl dfX4 (Nat.le_of_ble_eq_true rfl) (Nat.le_of_ble_eq_true rfl) dX5_init_33 (fun q_5 H hP hD hS => ?_)
  have hP : va_P (dC, dI) vwCl [(x, .inr (10, [.ref q_1, .int 0, .ref q_3, .int 0, .null, .null, .int 0, .null, .int 0, .int 0, .null, .null, .null, .null])), (q_1, .inl (k_2, 24, .inr (.inr (.inr (.inr (fun _ => none)))))), (q_3, .inl (k_4, 6, .inr (.inr (.inr (.inr (fun _ => none)))))), (q_5, .inr (9, [.null, .int 0]))] H := hP
  have hD : va_D A [(x, .inr (10, [.ref q_1, .int 0, .ref q_3, .int 0, .null, .null, .int 0, .null, .int 0, .int 0, .null, .null, .null, .null])), (q_1, .inl (k_2, 24, .inr (.inr (.inr (.inr (fun _ => none)))))), (q_3, .inl (k_4, 6, .inr (.inr (.inr (.inr (fun _ => none)))))), (q_5, .inr (9, [.null, .int 0]))] := hD
  refine W.widen (k := 3) (n := 32) (Nat.le_of_ble_eq_true rfl) (Nat.le_of_ble_eq_true rfl) ?_
  refine lv_dup hx hb dX5_init_36 rfl ?_
  have hPc := hP.sub (ws' := [(q_5, .inr (9, [.null, .int 0]))]) [3] rfl
  have hDc := hD.sub (ws' := [(q_5, .inr (9, [.null, .int 0]))]) [3] (by decide) rfl
  have hKc := hK.sub (tys' := []) [] rfl
  have hFc := va_free (wc := [(q_5, .inr (9, [.null, .int 0]))]) hD hS hA [3] rfl
  refine va_callv (va_runIN (As := []) (rest := [.ref q_5, .ref x]) ⟨hx, hb, hml, hown, hts⟩ (c_X4_init l dC dI q_5 H.size) ⟨va_cnB 0 hts gX5_init_X4_init_n30 rfl rfl rfl (Ft.nm hF (RX5, 30, yX4_init, RX5) (by decide +kernel)) (hts (.initialized RX4) (List.mem_of_getElem? (i := 12) rfl)) (by decide +kernel) ⟨Nat.le_of_ble_eq_true rfl, Nat.le_of_ble_eq_true rfl⟩, rfl, (hts (.instanceMethod yX4_init) (List.mem_of_getElem? (i := 28) rfl))⟩ ⟨PQ_blind, PQ_pre hPc hKc hDc hF⟩ rfl rfl hl.1 rfl (lv_room (Nat.le_of_ble_eq_true rfl)) dX5_init_37 ⟨Nat.le_of_ble_eq_true rfl, Nat.le_of_ble_eq_true rfl⟩) hS (fun q _ h => hFc q h) hFc (fun u t H1 locs ht hvm hw hB hz1 hk1 hS => ?_)
  obtain ⟨tb_7, kB_8, hP1, hK1, hD1⟩ := hB
  rw [ht] at hP1
  have hK1 := va_K.moved hvm.symm hK1
  obtain ⟨hP, hD⟩ := va_join (wr := [(x, .inr (10, [.ref q_1, .int 0, .ref q_3, .int 0, .null, .null, .int 0, .null, .int 0, .int 0, .null, .null, .null, .null])), (q_1, .inl (k_2, 24, .inr (.inr (.inr (.inr (fun _ => none)))))), (q_3, .inl (k_4, 6, .inr (.inr (.inr (.inr (fun _ => none))))))]) (w1 := [(q_5, .inr (9, [.ref tb_7, .int 0])), (tb_7, .inl (kB_8, 250, .inl (fun _ => 0)))]) hP hD [3] [0, 1, 2] rfl rfl (by decide) (by decide) hk1 hFc hP1 hD1
  have hK := hK.app hK1
  generalize H1 = H at hP hS ⊢
  have hP : va_P (dC, dI) vwCl [(x, .inr (10, [.ref q_1, .int 0, .ref q_3, .int 0, .null, .null, .int 0, .null, .int 0, .int 0, .null, .null, .null, .null])), (q_1, .inl (k_2, 24, .inr (.inr (.inr (.inr (fun _ => none)))))), (q_3, .inl (k_4, 6, .inr (.inr (.inr (.inr (fun _ => none)))))), (q_5, .inr (9, [.ref tb_7, .int 0])), (tb_7, .inl (kB_8, 250, .inl (fun _ => 0)))] H := hP
  have hD : va_D A [(x, .inr (10, [.ref q_1, .int 0, .ref q_3, .int 0, .null, .null, .int 0, .null, .int 0, .int 0, .null, .null, .null, .null])), (q_1, .inl (k_2, 24, .inr (.inr (.inr (.inr (fun _ => none)))))), (q_3, .inl (k_4, 6, .inr (.inr (.inr (.inr (fun _ => none)))))), (q_5, .inr (9, [.ref tb_7, .int 0])), (tb_7, .inl (kB_8, 250, .inl (fun _ => 0)))] := hD
  have hK : va_K (dC, dI) vwCl [(k_2, .object "ExamHalls$Candidate"), (k_4, .object "ExamHalls$Reader"), (kB_8, .byte)] s := hK
  refine W.widen (k := 4) (n := 282) (Nat.le_of_ble_eq_true rfl) (Nat.le_of_ble_eq_true rfl) ?_
  refine va_putF (D := (dC, dI)) (ci := 10) (v := .ref q_5) (ty := .object "ExamHalls$Tape") (C := RX5) (T := TX5) (N := 14) hx hb hts (fun _ h9 => List.mem_cons_of_mem _ (List.mem_append_left _ (List.mem_append_left _ (List.mem_append_right _ (h9))))) tyX5 tyX5_ok nmX5 hown hK hP hD hS 0 rfl rfl 4 (by decide) (hts (.fieldLink RX5 31 "ExamHalls" "tape" "LExamHalls$Tape;") (List.mem_of_getElem? (i := 13) rfl)) (fun _ h9 => h9) rfl hin rfl (by decide +kernel) rfl rfl (Nat.le_of_ble_eq_true rfl) dX5_init_40 (fun H locs hP hD hS => ?_)
  have hP : va_P (dC, dI) vwCl [(x, .inr (10, [.ref q_1, .int 0, .ref q_3, .int 0, .ref q_5, .null, .int 0, .null, .int 0, .int 0, .null, .null, .null, .null])), (q_1, .inl (k_2, 24, .inr (.inr (.inr (.inr (fun _ => none)))))), (q_3, .inl (k_4, 6, .inr (.inr (.inr (.inr (fun _ => none)))))), (q_5, .inr (9, [.ref tb_7, .int 0])), (tb_7, .inl (kB_8, 250, .inl (fun _ => 0)))] H := hP
  have hD : va_D A [(x, .inr (10, [.ref q_1, .int 0, .ref q_3, .int 0, .ref q_5, .null, .int 0, .null, .int 0, .int 0, .null, .null, .null, .null])), (q_1, .inl (k_2, 24, .inr (.inr (.inr (.inr (fun _ => none)))))), (q_3, .inl (k_4, 6, .inr (.inr (.inr (.inr (fun _ => none)))))), (q_5, .inr (9, [.ref tb_7, .int 0])), (tb_7, .inl (kB_8, 250, .inl (fun _ => 0)))] := hD
  refine lv_aload_n hx hb dX5_init_43 rfl (lv_at hl 0 rfl) ?_
  refine va_new (ci := 7) (fs := [.int 0, .null, .null, .null, .null, .int 0, .null, .int 0]) (C := RX2) (T := TX2) (N := 8) hx hb hts (fun _ h9 => List.mem_cons_of_mem _ (List.mem_append_right _ (h9))) tyX2 tyX2_ok hown (hts (.classLink RX5 35 RX2) (List.mem_of_getElem? (i := 14) rfl)) (hts (.instantiable RX2 8) (List.mem_of_getElem? (i := 15) rfl)) (hts (.initialized RX2) (List.mem_of_getElem? (i := 16) rfl)) hK hP hD hS hA rfl dfX2 (Nat.le_of_ble_eq_true rfl) (Nat.le_of_ble_eq_true rfl) dX5_init_44 (fun q_9 H hP hD hS => ?_)
  have hP : va_P (dC, dI) vwCl [(x, .inr (10, [.ref q_1, .int 0, .ref q_3, .int 0, .ref q_5, .null, .int 0, .null, .int 0, .int 0, .null, .null, .null, .null])), (q_1, .inl (k_2, 24, .inr (.inr (.inr (.inr (fun _ => none)))))), (q_3, .inl (k_4, 6, .inr (.inr (.inr (.inr (fun _ => none)))))), (q_5, .inr (9, [.ref tb_7, .int 0])), (tb_7, .inl (kB_8, 250, .inl (fun _ => 0))), (q_9, .inr (7, [.int 0, .null, .null, .null, .null, .int 0, .null, .int 0]))] H := hP
  have hD : va_D A [(x, .inr (10, [.ref q_1, .int 0, .ref q_3, .int 0, .ref q_5, .null, .int 0, .null, .int 0, .int 0, .null, .null, .null, .null])), (q_1, .inl (k_2, 24, .inr (.inr (.inr (.inr (fun _ => none)))))), (q_3, .inl (k_4, 6, .inr (.inr (.inr (.inr (fun _ => none)))))), (q_5, .inr (9, [.ref tb_7, .int 0])), (tb_7, .inl (kB_8, 250, .inl (fun _ => 0))), (q_9, .inr (7, [.int 0, .null, .null, .null, .null, .int 0, .null, .int 0]))] := hD
  refine W.widen (k := 5) (n := 290) (Nat.le_of_ble_eq_true rfl) (Nat.le_of_ble_eq_true rfl) ?_
  refine lv_dup hx hb dX5_init_47 rfl ?_
  have hPc := hP.sub (ws' := [(q_9, .inr (7, [.int 0, .null, .null, .null, .null, .int 0, .null, .int 0]))]) [5] rfl
  have hDc := hD.sub (ws' := [(q_9, .inr (7, [.int 0, .null, .null, .null, .null, .int 0, .null, .int 0]))]) [5] (by decide) rfl
  have hKc := hK.sub (tys' := []) [] rfl
  have hFc := va_free (wc := [(q_9, .inr (7, [.int 0, .null, .null, .null, .null, .int 0, .null, .int 0]))]) hD hS hA [5] rfl
  refine va_callv (va_runIN (As := []) (rest := [.ref q_9, .ref x]) ⟨hx, hb, hml, hown, hts⟩ (c_X2_init l dC dI q_9 H.size) ⟨va_cnB 0 hts gX5_init_X2_init_n37 rfl rfl rfl (Ft.nm hF (RX5, 37, yX2_init, RX5) (by decide +kernel)) (hts (.initialized RX2) (List.mem_of_getElem? (i := 16) rfl)) (by decide +kernel) ⟨Nat.le_of_ble_eq_true rfl, Nat.le_of_ble_eq_true rfl⟩, rfl, (hts (.instanceMethod yX2_init) (List.mem_of_getElem? (i := 34) rfl))⟩ ⟨PQ_blind, PQ_pre hPc hKc hDc hF⟩ rfl rfl hl.1 rfl (lv_room (Nat.le_of_ble_eq_true rfl)) dX5_init_48 ⟨Nat.le_of_ble_eq_true rfl, Nat.le_of_ble_eq_true rfl⟩) hS (fun q _ h => hFc q h) hFc (fun u t H1 locs ht hvm hw hB hz1 hk1 hS => ?_)
  obtain ⟨le_11, mo_12, os_13, ps_14, br_15, kl_16, km_17, ko_18, kp_19, kb_20, fl_21, fm_22, hP1, hK1, hD1⟩ := hB
  rw [ht] at hP1
  have hK1 := va_K.moved hvm.symm hK1
  obtain ⟨hP, hD⟩ := va_join (wr := [(x, .inr (10, [.ref q_1, .int 0, .ref q_3, .int 0, .ref q_5, .null, .int 0, .null, .int 0, .int 0, .null, .null, .null, .null])), (q_1, .inl (k_2, 24, .inr (.inr (.inr (.inr (fun _ => none)))))), (q_3, .inl (k_4, 6, .inr (.inr (.inr (.inr (fun _ => none)))))), (q_5, .inr (9, [.ref tb_7, .int 0])), (tb_7, .inl (kB_8, 250, .inl (fun _ => 0)))]) (w1 := [(q_9, .inr (7, [.int 1, .ref le_11, .ref mo_12, .ref os_13, .ref ps_14, .int 0, .ref br_15, .int 0])), (le_11, .inl (kl_16, 8, .inl fl_21)), (mo_12, .inl (km_17, 8, .inl fm_22)), (os_13, .inl (ko_18, 6, .inl (fun _ => 0))), (ps_14, .inl (kp_19, 6, .inl (fun _ => 0))), (br_15, .inl (kb_20, 8, .inr (.inl (fun _ => 0))))]) hP hD [5] [0, 1, 2, 3, 4] rfl rfl (by decide) (by decide) hk1 hFc hP1 hD1
  have hK := hK.app hK1
  generalize H1 = H at hP hS ⊢
  have hP : va_P (dC, dI) vwCl [(x, .inr (10, [.ref q_1, .int 0, .ref q_3, .int 0, .ref q_5, .null, .int 0, .null, .int 0, .int 0, .null, .null, .null, .null])), (q_1, .inl (k_2, 24, .inr (.inr (.inr (.inr (fun _ => none)))))), (q_3, .inl (k_4, 6, .inr (.inr (.inr (.inr (fun _ => none)))))), (q_5, .inr (9, [.ref tb_7, .int 0])), (tb_7, .inl (kB_8, 250, .inl (fun _ => 0))), (q_9, .inr (7, [.int 1, .ref le_11, .ref mo_12, .ref os_13, .ref ps_14, .int 0, .ref br_15, .int 0])), (le_11, .inl (kl_16, 8, .inl fl_21)), (mo_12, .inl (km_17, 8, .inl fm_22)), (os_13, .inl (ko_18, 6, .inl (fun _ => 0))), (ps_14, .inl (kp_19, 6, .inl (fun _ => 0))), (br_15, .inl (kb_20, 8, .inr (.inl (fun _ => 0))))] H := hP
  have hD : va_D A [(x, .inr (10, [.ref q_1, .int 0, .ref q_3, .int 0, .ref q_5, .null, .int 0, .null, .int 0, .int 0, .null, .null, .null, .null])), (q_1, .inl (k_2, 24, .inr (.inr (.inr (.inr (fun _ => none)))))), (q_3, .inl (k_4, 6, .inr (.inr (.inr (.inr (fun _ => none)))))), (q_5, .inr (9, [.ref tb_7, .int 0])), (tb_7, .inl (kB_8, 250, .inl (fun _ => 0))), (q_9, .inr (7, [.int 1, .ref le_11, .ref mo_12, .ref os_13, .ref ps_14, .int 0, .ref br_15, .int 0])), (le_11, .inl (kl_16, 8, .inl fl_21)), (mo_12, .inl (km_17, 8, .inl fm_22)), (os_13, .inl (ko_18, 6, .inl (fun _ => 0))), (ps_14, .inl (kp_19, 6, .inl (fun _ => 0))), (br_15, .inl (kb_20, 8, .inr (.inl (fun _ => 0))))] := hD
  have hK : va_K (dC, dI) vwCl [(k_2, .object "ExamHalls$Candidate"), (k_4, .object "ExamHalls$Reader"), (kB_8, .byte), (kl_16, .int), (km_17, .int), (ko_18, .int), (kp_19, .int), (kb_20, .long)] s := hK
  refine W.widen (k := 10) (n := 326) (Nat.le_of_ble_eq_true rfl) (Nat.le_of_ble_eq_true rfl) ?_
  refine va_putF (D := (dC, dI)) (ci := 10) (v := .ref q_9) (ty := .object "ExamHalls$Form") (C := RX5) (T := TX5) (N := 14) hx hb hts (fun _ h9 => List.mem_cons_of_mem _ (List.mem_append_left _ (List.mem_append_left _ (List.mem_append_right _ (h9))))) tyX5 tyX5_ok nmX5 hown hK hP hD hS 0 rfl rfl 5 (by decide) (hts (.fieldLink RX5 38 "ExamHalls" "form" "LExamHalls$Form;") (List.mem_of_getElem? (i := 17) rfl)) (fun _ h9 => h9) rfl hin rfl (by decide +kernel) rfl rfl (Nat.le_of_ble_eq_true rfl) dX5_init_51 (fun H locs hP hD hS => ?_)
  have hP : va_P (dC, dI) vwCl [(x, .inr (10, [.ref q_1, .int 0, .ref q_3, .int 0, .ref q_5, .ref q_9, .int 0, .null, .int 0, .int 0, .null, .null, .null, .null])), (q_1, .inl (k_2, 24, .inr (.inr (.inr (.inr (fun _ => none)))))), (q_3, .inl (k_4, 6, .inr (.inr (.inr (.inr (fun _ => none)))))), (q_5, .inr (9, [.ref tb_7, .int 0])), (tb_7, .inl (kB_8, 250, .inl (fun _ => 0))), (q_9, .inr (7, [.int 1, .ref le_11, .ref mo_12, .ref os_13, .ref ps_14, .int 0, .ref br_15, .int 0])), (le_11, .inl (kl_16, 8, .inl fl_21)), (mo_12, .inl (km_17, 8, .inl fm_22)), (os_13, .inl (ko_18, 6, .inl (fun _ => 0))), (ps_14, .inl (kp_19, 6, .inl (fun _ => 0))), (br_15, .inl (kb_20, 8, .inr (.inl (fun _ => 0))))] H := hP
  have hD : va_D A [(x, .inr (10, [.ref q_1, .int 0, .ref q_3, .int 0, .ref q_5, .ref q_9, .int 0, .null, .int 0, .int 0, .null, .null, .null, .null])), (q_1, .inl (k_2, 24, .inr (.inr (.inr (.inr (fun _ => none)))))), (q_3, .inl (k_4, 6, .inr (.inr (.inr (.inr (fun _ => none)))))), (q_5, .inr (9, [.ref tb_7, .int 0])), (tb_7, .inl (kB_8, 250, .inl (fun _ => 0))), (q_9, .inr (7, [.int 1, .ref le_11, .ref mo_12, .ref os_13, .ref ps_14, .int 0, .ref br_15, .int 0])), (le_11, .inl (kl_16, 8, .inl fl_21)), (mo_12, .inl (km_17, 8, .inl fm_22)), (os_13, .inl (ko_18, 6, .inl (fun _ => 0))), (ps_14, .inl (kp_19, 6, .inl (fun _ => 0))), (br_15, .inl (kb_20, 8, .inr (.inl (fun _ => 0))))] := hD
  refine lv_aload_n hx hb dX5_init_54 rfl (lv_at hl 0 rfl) ?_
  refine lv_bipush (v := 10) hx hb dX5_init_55 (by decide) ?_
  refine va_put (D := (dC, dI)) (ci := 10) (v := .int 10) (ty := .int) (C := RX5) (T := TX5) (N := 14) hx hb hts (fun _ h9 => List.mem_cons_of_mem _ (List.mem_append_left _ (List.mem_append_left _ (List.mem_append_right _ (h9))))) tyX5 tyX5_ok nmX5 hown hK hP hD hS 0 rfl rfl 6 (by decide) (hts (.fieldLink RX5 42 "ExamHalls" "apart" "I") (List.mem_of_getElem? (i := 18) rfl)) (fun _ h9 => h9) rfl (by decide +kernel) rfl rfl (Nat.le_of_ble_eq_true rfl) dX5_init_57 (fun H locs hP hD hS => ?_)
  have hP : va_P (dC, dI) vwCl [(x, .inr (10, [.ref q_1, .int 0, .ref q_3, .int 0, .ref q_5, .ref q_9, .int 10, .null, .int 0, .int 0, .null, .null, .null, .null])), (q_1, .inl (k_2, 24, .inr (.inr (.inr (.inr (fun _ => none)))))), (q_3, .inl (k_4, 6, .inr (.inr (.inr (.inr (fun _ => none)))))), (q_5, .inr (9, [.ref tb_7, .int 0])), (tb_7, .inl (kB_8, 250, .inl (fun _ => 0))), (q_9, .inr (7, [.int 1, .ref le_11, .ref mo_12, .ref os_13, .ref ps_14, .int 0, .ref br_15, .int 0])), (le_11, .inl (kl_16, 8, .inl fl_21)), (mo_12, .inl (km_17, 8, .inl fm_22)), (os_13, .inl (ko_18, 6, .inl (fun _ => 0))), (ps_14, .inl (kp_19, 6, .inl (fun _ => 0))), (br_15, .inl (kb_20, 8, .inr (.inl (fun _ => 0))))] H := hP
  have hD : va_D A [(x, .inr (10, [.ref q_1, .int 0, .ref q_3, .int 0, .ref q_5, .ref q_9, .int 10, .null, .int 0, .int 0, .null, .null, .null, .null])), (q_1, .inl (k_2, 24, .inr (.inr (.inr (.inr (fun _ => none)))))), (q_3, .inl (k_4, 6, .inr (.inr (.inr (.inr (fun _ => none)))))), (q_5, .inr (9, [.ref tb_7, .int 0])), (tb_7, .inl (kB_8, 250, .inl (fun _ => 0))), (q_9, .inr (7, [.int 1, .ref le_11, .ref mo_12, .ref os_13, .ref ps_14, .int 0, .ref br_15, .int 0])), (le_11, .inl (kl_16, 8, .inl fl_21)), (mo_12, .inl (km_17, 8, .inl fm_22)), (os_13, .inl (ko_18, 6, .inl (fun _ => 0))), (ps_14, .inl (kp_19, 6, .inl (fun _ => 0))), (br_15, .inl (kb_20, 8, .inr (.inl (fun _ => 0))))] := hD
  refine lv_aload_n hx hb dX5_init_60 rfl (lv_at hl 0 rfl) ?_
  refine lv_iconst (v := 4) hx hb dX5_init_61 (by decide) ?_
  refine va_newa (atype := .int) (ty := .int) (a0 := (4, (.inl (fun _ => 0)))) hx hb (hts (.arrayClass .int) (List.mem_of_getElem? (i := 19) rfl)) rfl hK hP hD hS hA (fun _ => rfl) (by decide) (by decide) (Nat.le_of_ble_eq_true rfl) (Nat.le_of_ble_eq_true rfl) (Nat.le_of_ble_eq_true rfl) dX5_init_62 (fun q_23 k_24 H hK hP hD hS => ?_)
  have hP : va_P (dC, dI) vwCl [(x, .inr (10, [.ref q_1, .int 0, .ref q_3, .int 0, .ref q_5, .ref q_9, .int 10, .null, .int 0, .int 0, .null, .null, .null, .null])), (q_1, .inl (k_2, 24, .inr (.inr (.inr (.inr (fun _ => none)))))), (q_3, .inl (k_4, 6, .inr (.inr (.inr (.inr (fun _ => none)))))), (q_5, .inr (9, [.ref tb_7, .int 0])), (tb_7, .inl (kB_8, 250, .inl (fun _ => 0))), (q_9, .inr (7, [.int 1, .ref le_11, .ref mo_12, .ref os_13, .ref ps_14, .int 0, .ref br_15, .int 0])), (le_11, .inl (kl_16, 8, .inl fl_21)), (mo_12, .inl (km_17, 8, .inl fm_22)), (os_13, .inl (ko_18, 6, .inl (fun _ => 0))), (ps_14, .inl (kp_19, 6, .inl (fun _ => 0))), (br_15, .inl (kb_20, 8, .inr (.inl (fun _ => 0)))), (q_23, .inl (k_24, 4, .inl (fun _ => 0)))] H := hP
  have hD : va_D A [(x, .inr (10, [.ref q_1, .int 0, .ref q_3, .int 0, .ref q_5, .ref q_9, .int 10, .null, .int 0, .int 0, .null, .null, .null, .null])), (q_1, .inl (k_2, 24, .inr (.inr (.inr (.inr (fun _ => none)))))), (q_3, .inl (k_4, 6, .inr (.inr (.inr (.inr (fun _ => none)))))), (q_5, .inr (9, [.ref tb_7, .int 0])), (tb_7, .inl (kB_8, 250, .inl (fun _ => 0))), (q_9, .inr (7, [.int 1, .ref le_11, .ref mo_12, .ref os_13, .ref ps_14, .int 0, .ref br_15, .int 0])), (le_11, .inl (kl_16, 8, .inl fl_21)), (mo_12, .inl (km_17, 8, .inl fm_22)), (os_13, .inl (ko_18, 6, .inl (fun _ => 0))), (ps_14, .inl (kp_19, 6, .inl (fun _ => 0))), (br_15, .inl (kb_20, 8, .inr (.inl (fun _ => 0)))), (q_23, .inl (k_24, 4, .inl (fun _ => 0)))] := hD
  have hK : va_K (dC, dI) vwCl [(k_2, .object "ExamHalls$Candidate"), (k_4, .object "ExamHalls$Reader"), (kB_8, .byte), (kl_16, .int), (km_17, .int), (ko_18, .int), (kp_19, .int), (kb_20, .long), (k_24, .int)] s := hK
  refine W.widen (k := 11) (n := 330) (Nat.le_of_ble_eq_true rfl) (Nat.le_of_ble_eq_true rfl) ?_
  refine va_putF (D := (dC, dI)) (ci := 10) (v := .ref q_23) (ty := .array .int) (C := RX5) (T := TX5) (N := 14) hx hb hts (fun _ h9 => List.mem_cons_of_mem _ (List.mem_append_left _ (List.mem_append_left _ (List.mem_append_right _ (h9))))) tyX5 tyX5_ok nmX5 hown hK hP hD hS 0 rfl rfl 7 (by decide) (hts (.fieldLink RX5 45 "ExamHalls" "quotas" "[I") (List.mem_of_getElem? (i := 20) rfl)) (fun _ h9 => h9) rfl hin rfl (by decide +kernel) rfl rfl (Nat.le_of_ble_eq_true rfl) dX5_init_64 (fun H locs hP hD hS => ?_)
  have hP : va_P (dC, dI) vwCl [(x, .inr (10, [.ref q_1, .int 0, .ref q_3, .int 0, .ref q_5, .ref q_9, .int 10, .ref q_23, .int 0, .int 0, .null, .null, .null, .null])), (q_1, .inl (k_2, 24, .inr (.inr (.inr (.inr (fun _ => none)))))), (q_3, .inl (k_4, 6, .inr (.inr (.inr (.inr (fun _ => none)))))), (q_5, .inr (9, [.ref tb_7, .int 0])), (tb_7, .inl (kB_8, 250, .inl (fun _ => 0))), (q_9, .inr (7, [.int 1, .ref le_11, .ref mo_12, .ref os_13, .ref ps_14, .int 0, .ref br_15, .int 0])), (le_11, .inl (kl_16, 8, .inl fl_21)), (mo_12, .inl (km_17, 8, .inl fm_22)), (os_13, .inl (ko_18, 6, .inl (fun _ => 0))), (ps_14, .inl (kp_19, 6, .inl (fun _ => 0))), (br_15, .inl (kb_20, 8, .inr (.inl (fun _ => 0)))), (q_23, .inl (k_24, 4, .inl (fun _ => 0)))] H := hP
  have hD : va_D A [(x, .inr (10, [.ref q_1, .int 0, .ref q_3, .int 0, .ref q_5, .ref q_9, .int 10, .ref q_23, .int 0, .int 0, .null, .null, .null, .null])), (q_1, .inl (k_2, 24, .inr (.inr (.inr (.inr (fun _ => none)))))), (q_3, .inl (k_4, 6, .inr (.inr (.inr (.inr (fun _ => none)))))), (q_5, .inr (9, [.ref tb_7, .int 0])), (tb_7, .inl (kB_8, 250, .inl (fun _ => 0))), (q_9, .inr (7, [.int 1, .ref le_11, .ref mo_12, .ref os_13, .ref ps_14, .int 0, .ref br_15, .int 0])), (le_11, .inl (kl_16, 8, .inl fl_21)), (mo_12, .inl (km_17, 8, .inl fm_22)), (os_13, .inl (ko_18, 6, .inl (fun _ => 0))), (ps_14, .inl (kp_19, 6, .inl (fun _ => 0))), (br_15, .inl (kb_20, 8, .inr (.inl (fun _ => 0)))), (q_23, .inl (k_24, 4, .inl (fun _ => 0)))] := hD
  refine lv_aload_n hx hb dX5_init_67 rfl (lv_at hl 0 rfl) ?_
  refine lv_iconst (v := 0) hx hb dX5_init_68 (by decide) ?_
  refine va_put (D := (dC, dI)) (ci := 10) (v := .int 0) (ty := .int) (C := RX5) (T := TX5) (N := 14) hx hb hts (fun _ h9 => List.mem_cons_of_mem _ (List.mem_append_left _ (List.mem_append_left _ (List.mem_append_right _ (h9))))) tyX5 tyX5_ok nmX5 hown hK hP hD hS 0 rfl rfl 8 (by decide) (hts (.fieldLink RX5 49 "ExamHalls" "ties" "I") (List.mem_of_getElem? (i := 21) rfl)) (fun _ h9 => h9) rfl (by decide +kernel) rfl rfl (Nat.le_of_ble_eq_true rfl) dX5_init_69 (fun H locs hP hD hS => ?_)
  have hP : va_P (dC, dI) vwCl [(x, .inr (10, [.ref q_1, .int 0, .ref q_3, .int 0, .ref q_5, .ref q_9, .int 10, .ref q_23, .int 0, .int 0, .null, .null, .null, .null])), (q_1, .inl (k_2, 24, .inr (.inr (.inr (.inr (fun _ => none)))))), (q_3, .inl (k_4, 6, .inr (.inr (.inr (.inr (fun _ => none)))))), (q_5, .inr (9, [.ref tb_7, .int 0])), (tb_7, .inl (kB_8, 250, .inl (fun _ => 0))), (q_9, .inr (7, [.int 1, .ref le_11, .ref mo_12, .ref os_13, .ref ps_14, .int 0, .ref br_15, .int 0])), (le_11, .inl (kl_16, 8, .inl fl_21)), (mo_12, .inl (km_17, 8, .inl fm_22)), (os_13, .inl (ko_18, 6, .inl (fun _ => 0))), (ps_14, .inl (kp_19, 6, .inl (fun _ => 0))), (br_15, .inl (kb_20, 8, .inr (.inl (fun _ => 0)))), (q_23, .inl (k_24, 4, .inl (fun _ => 0)))] H := hP
  have hD : va_D A [(x, .inr (10, [.ref q_1, .int 0, .ref q_3, .int 0, .ref q_5, .ref q_9, .int 10, .ref q_23, .int 0, .int 0, .null, .null, .null, .null])), (q_1, .inl (k_2, 24, .inr (.inr (.inr (.inr (fun _ => none)))))), (q_3, .inl (k_4, 6, .inr (.inr (.inr (.inr (fun _ => none)))))), (q_5, .inr (9, [.ref tb_7, .int 0])), (tb_7, .inl (kB_8, 250, .inl (fun _ => 0))), (q_9, .inr (7, [.int 1, .ref le_11, .ref mo_12, .ref os_13, .ref ps_14, .int 0, .ref br_15, .int 0])), (le_11, .inl (kl_16, 8, .inl fl_21)), (mo_12, .inl (km_17, 8, .inl fm_22)), (os_13, .inl (ko_18, 6, .inl (fun _ => 0))), (ps_14, .inl (kp_19, 6, .inl (fun _ => 0))), (br_15, .inl (kb_20, 8, .inr (.inl (fun _ => 0)))), (q_23, .inl (k_24, 4, .inl (fun _ => 0)))] := hD
  refine lv_aload_n hx hb dX5_init_72 rfl (lv_at hl 0 rfl) ?_
  refine lv_iconst (v := 0) hx hb dX5_init_73 (by decide) ?_
  refine va_put (D := (dC, dI)) (ci := 10) (v := .int 0) (ty := .int) (C := RX5) (T := TX5) (N := 14) hx hb hts (fun _ h9 => List.mem_cons_of_mem _ (List.mem_append_left _ (List.mem_append_left _ (List.mem_append_right _ (h9))))) tyX5 tyX5_ok nmX5 hown hK hP hD hS 0 rfl rfl 9 (by decide) (hts (.fieldLink RX5 52 "ExamHalls" "way" "I") (List.mem_of_getElem? (i := 22) rfl)) (fun _ h9 => h9) rfl (by decide +kernel) rfl rfl (Nat.le_of_ble_eq_true rfl) dX5_init_74 (fun H locs hP hD hS => ?_)
  have hP : va_P (dC, dI) vwCl [(x, .inr (10, [.ref q_1, .int 0, .ref q_3, .int 0, .ref q_5, .ref q_9, .int 10, .ref q_23, .int 0, .int 0, .null, .null, .null, .null])), (q_1, .inl (k_2, 24, .inr (.inr (.inr (.inr (fun _ => none)))))), (q_3, .inl (k_4, 6, .inr (.inr (.inr (.inr (fun _ => none)))))), (q_5, .inr (9, [.ref tb_7, .int 0])), (tb_7, .inl (kB_8, 250, .inl (fun _ => 0))), (q_9, .inr (7, [.int 1, .ref le_11, .ref mo_12, .ref os_13, .ref ps_14, .int 0, .ref br_15, .int 0])), (le_11, .inl (kl_16, 8, .inl fl_21)), (mo_12, .inl (km_17, 8, .inl fm_22)), (os_13, .inl (ko_18, 6, .inl (fun _ => 0))), (ps_14, .inl (kp_19, 6, .inl (fun _ => 0))), (br_15, .inl (kb_20, 8, .inr (.inl (fun _ => 0)))), (q_23, .inl (k_24, 4, .inl (fun _ => 0)))] H := hP
  have hD : va_D A [(x, .inr (10, [.ref q_1, .int 0, .ref q_3, .int 0, .ref q_5, .ref q_9, .int 10, .ref q_23, .int 0, .int 0, .null, .null, .null, .null])), (q_1, .inl (k_2, 24, .inr (.inr (.inr (.inr (fun _ => none)))))), (q_3, .inl (k_4, 6, .inr (.inr (.inr (.inr (fun _ => none)))))), (q_5, .inr (9, [.ref tb_7, .int 0])), (tb_7, .inl (kB_8, 250, .inl (fun _ => 0))), (q_9, .inr (7, [.int 1, .ref le_11, .ref mo_12, .ref os_13, .ref ps_14, .int 0, .ref br_15, .int 0])), (le_11, .inl (kl_16, 8, .inl fl_21)), (mo_12, .inl (km_17, 8, .inl fm_22)), (os_13, .inl (ko_18, 6, .inl (fun _ => 0))), (ps_14, .inl (kp_19, 6, .inl (fun _ => 0))), (br_15, .inl (kb_20, 8, .inr (.inl (fun _ => 0)))), (q_23, .inl (k_24, 4, .inl (fun _ => 0)))] := hD
  refine lv_aload_n hx hb dX5_init_77 rfl (lv_at hl 0 rfl) ?_
  refine lv_bipush (v := 6) hx hb dX5_init_78 (by decide) ?_
  refine va_newa (atype := .int) (ty := .int) (a0 := (6, (.inl (fun _ => 0)))) hx hb (hts (.arrayClass .int) (List.mem_of_getElem? (i := 19) rfl)) rfl hK hP hD hS hA (fun _ => rfl) (by decide) (by decide) (Nat.le_of_ble_eq_true rfl) (Nat.le_of_ble_eq_true rfl) (Nat.le_of_ble_eq_true rfl) dX5_init_80 (fun q_25 k_26 H hK hP hD hS => ?_)
  have hP : va_P (dC, dI) vwCl [(x, .inr (10, [.ref q_1, .int 0, .ref q_3, .int 0, .ref q_5, .ref q_9, .int 10, .ref q_23, .int 0, .int 0, .null, .null, .null, .null])), (q_1, .inl (k_2, 24, .inr (.inr (.inr (.inr (fun _ => none)))))), (q_3, .inl (k_4, 6, .inr (.inr (.inr (.inr (fun _ => none)))))), (q_5, .inr (9, [.ref tb_7, .int 0])), (tb_7, .inl (kB_8, 250, .inl (fun _ => 0))), (q_9, .inr (7, [.int 1, .ref le_11, .ref mo_12, .ref os_13, .ref ps_14, .int 0, .ref br_15, .int 0])), (le_11, .inl (kl_16, 8, .inl fl_21)), (mo_12, .inl (km_17, 8, .inl fm_22)), (os_13, .inl (ko_18, 6, .inl (fun _ => 0))), (ps_14, .inl (kp_19, 6, .inl (fun _ => 0))), (br_15, .inl (kb_20, 8, .inr (.inl (fun _ => 0)))), (q_23, .inl (k_24, 4, .inl (fun _ => 0))), (q_25, .inl (k_26, 6, .inl (fun _ => 0)))] H := hP
  have hD : va_D A [(x, .inr (10, [.ref q_1, .int 0, .ref q_3, .int 0, .ref q_5, .ref q_9, .int 10, .ref q_23, .int 0, .int 0, .null, .null, .null, .null])), (q_1, .inl (k_2, 24, .inr (.inr (.inr (.inr (fun _ => none)))))), (q_3, .inl (k_4, 6, .inr (.inr (.inr (.inr (fun _ => none)))))), (q_5, .inr (9, [.ref tb_7, .int 0])), (tb_7, .inl (kB_8, 250, .inl (fun _ => 0))), (q_9, .inr (7, [.int 1, .ref le_11, .ref mo_12, .ref os_13, .ref ps_14, .int 0, .ref br_15, .int 0])), (le_11, .inl (kl_16, 8, .inl fl_21)), (mo_12, .inl (km_17, 8, .inl fm_22)), (os_13, .inl (ko_18, 6, .inl (fun _ => 0))), (ps_14, .inl (kp_19, 6, .inl (fun _ => 0))), (br_15, .inl (kb_20, 8, .inr (.inl (fun _ => 0)))), (q_23, .inl (k_24, 4, .inl (fun _ => 0))), (q_25, .inl (k_26, 6, .inl (fun _ => 0)))] := hD
  have hK : va_K (dC, dI) vwCl [(k_2, .object "ExamHalls$Candidate"), (k_4, .object "ExamHalls$Reader"), (kB_8, .byte), (kl_16, .int), (km_17, .int), (ko_18, .int), (kp_19, .int), (kb_20, .long), (k_24, .int), (k_26, .int)] s := hK
  refine W.widen (k := 12) (n := 336) (Nat.le_of_ble_eq_true rfl) (Nat.le_of_ble_eq_true rfl) ?_
  refine va_putF (D := (dC, dI)) (ci := 10) (v := .ref q_25) (ty := .array .int) (C := RX5) (T := TX5) (N := 14) hx hb hts (fun _ h9 => List.mem_cons_of_mem _ (List.mem_append_left _ (List.mem_append_left _ (List.mem_append_right _ (h9))))) tyX5 tyX5_ok nmX5 hown hK hP hD hS 0 rfl rfl 10 (by decide) (hts (.fieldLink RX5 55 "ExamHalls" "shifts" "[I") (List.mem_of_getElem? (i := 23) rfl)) (fun _ h9 => h9) rfl hin rfl (by decide +kernel) rfl rfl (Nat.le_of_ble_eq_true rfl) dX5_init_82 (fun H locs hP hD hS => ?_)
  have hP : va_P (dC, dI) vwCl [(x, .inr (10, [.ref q_1, .int 0, .ref q_3, .int 0, .ref q_5, .ref q_9, .int 10, .ref q_23, .int 0, .int 0, .ref q_25, .null, .null, .null])), (q_1, .inl (k_2, 24, .inr (.inr (.inr (.inr (fun _ => none)))))), (q_3, .inl (k_4, 6, .inr (.inr (.inr (.inr (fun _ => none)))))), (q_5, .inr (9, [.ref tb_7, .int 0])), (tb_7, .inl (kB_8, 250, .inl (fun _ => 0))), (q_9, .inr (7, [.int 1, .ref le_11, .ref mo_12, .ref os_13, .ref ps_14, .int 0, .ref br_15, .int 0])), (le_11, .inl (kl_16, 8, .inl fl_21)), (mo_12, .inl (km_17, 8, .inl fm_22)), (os_13, .inl (ko_18, 6, .inl (fun _ => 0))), (ps_14, .inl (kp_19, 6, .inl (fun _ => 0))), (br_15, .inl (kb_20, 8, .inr (.inl (fun _ => 0)))), (q_23, .inl (k_24, 4, .inl (fun _ => 0))), (q_25, .inl (k_26, 6, .inl (fun _ => 0)))] H := hP
  have hD : va_D A [(x, .inr (10, [.ref q_1, .int 0, .ref q_3, .int 0, .ref q_5, .ref q_9, .int 10, .ref q_23, .int 0, .int 0, .ref q_25, .null, .null, .null])), (q_1, .inl (k_2, 24, .inr (.inr (.inr (.inr (fun _ => none)))))), (q_3, .inl (k_4, 6, .inr (.inr (.inr (.inr (fun _ => none)))))), (q_5, .inr (9, [.ref tb_7, .int 0])), (tb_7, .inl (kB_8, 250, .inl (fun _ => 0))), (q_9, .inr (7, [.int 1, .ref le_11, .ref mo_12, .ref os_13, .ref ps_14, .int 0, .ref br_15, .int 0])), (le_11, .inl (kl_16, 8, .inl fl_21)), (mo_12, .inl (km_17, 8, .inl fm_22)), (os_13, .inl (ko_18, 6, .inl (fun _ => 0))), (ps_14, .inl (kp_19, 6, .inl (fun _ => 0))), (br_15, .inl (kb_20, 8, .inr (.inl (fun _ => 0)))), (q_23, .inl (k_24, 4, .inl (fun _ => 0))), (q_25, .inl (k_26, 6, .inl (fun _ => 0)))] := hD
  refine lv_aload_n hx hb dX5_init_85 rfl (lv_at hl 0 rfl) ?_
  refine lv_bipush (v := 24) hx hb dX5_init_86 (by decide) ?_
  refine va_newa (atype := .int) (ty := .int) (a0 := (24, (.inl (fun _ => 0)))) hx hb (hts (.arrayClass .int) (List.mem_of_getElem? (i := 19) rfl)) rfl hK hP hD hS hA (fun _ => rfl) (by decide) (by decide) (Nat.le_of_ble_eq_true rfl) (Nat.le_of_ble_eq_true rfl) (Nat.le_of_ble_eq_true rfl) dX5_init_88 (fun q_27 k_28 H hK hP hD hS => ?_)
  have hP : va_P (dC, dI) vwCl [(x, .inr (10, [.ref q_1, .int 0, .ref q_3, .int 0, .ref q_5, .ref q_9, .int 10, .ref q_23, .int 0, .int 0, .ref q_25, .null, .null, .null])), (q_1, .inl (k_2, 24, .inr (.inr (.inr (.inr (fun _ => none)))))), (q_3, .inl (k_4, 6, .inr (.inr (.inr (.inr (fun _ => none)))))), (q_5, .inr (9, [.ref tb_7, .int 0])), (tb_7, .inl (kB_8, 250, .inl (fun _ => 0))), (q_9, .inr (7, [.int 1, .ref le_11, .ref mo_12, .ref os_13, .ref ps_14, .int 0, .ref br_15, .int 0])), (le_11, .inl (kl_16, 8, .inl fl_21)), (mo_12, .inl (km_17, 8, .inl fm_22)), (os_13, .inl (ko_18, 6, .inl (fun _ => 0))), (ps_14, .inl (kp_19, 6, .inl (fun _ => 0))), (br_15, .inl (kb_20, 8, .inr (.inl (fun _ => 0)))), (q_23, .inl (k_24, 4, .inl (fun _ => 0))), (q_25, .inl (k_26, 6, .inl (fun _ => 0))), (q_27, .inl (k_28, 24, .inl (fun _ => 0)))] H := hP
  have hD : va_D A [(x, .inr (10, [.ref q_1, .int 0, .ref q_3, .int 0, .ref q_5, .ref q_9, .int 10, .ref q_23, .int 0, .int 0, .ref q_25, .null, .null, .null])), (q_1, .inl (k_2, 24, .inr (.inr (.inr (.inr (fun _ => none)))))), (q_3, .inl (k_4, 6, .inr (.inr (.inr (.inr (fun _ => none)))))), (q_5, .inr (9, [.ref tb_7, .int 0])), (tb_7, .inl (kB_8, 250, .inl (fun _ => 0))), (q_9, .inr (7, [.int 1, .ref le_11, .ref mo_12, .ref os_13, .ref ps_14, .int 0, .ref br_15, .int 0])), (le_11, .inl (kl_16, 8, .inl fl_21)), (mo_12, .inl (km_17, 8, .inl fm_22)), (os_13, .inl (ko_18, 6, .inl (fun _ => 0))), (ps_14, .inl (kp_19, 6, .inl (fun _ => 0))), (br_15, .inl (kb_20, 8, .inr (.inl (fun _ => 0)))), (q_23, .inl (k_24, 4, .inl (fun _ => 0))), (q_25, .inl (k_26, 6, .inl (fun _ => 0))), (q_27, .inl (k_28, 24, .inl (fun _ => 0)))] := hD
  have hK : va_K (dC, dI) vwCl [(k_2, .object "ExamHalls$Candidate"), (k_4, .object "ExamHalls$Reader"), (kB_8, .byte), (kl_16, .int), (km_17, .int), (ko_18, .int), (kp_19, .int), (kb_20, .long), (k_24, .int), (k_26, .int), (k_28, .int)] s := hK
  refine W.widen (k := 13) (n := 360) (Nat.le_of_ble_eq_true rfl) (Nat.le_of_ble_eq_true rfl) ?_
  refine va_putF (D := (dC, dI)) (ci := 10) (v := .ref q_27) (ty := .array .int) (C := RX5) (T := TX5) (N := 14) hx hb hts (fun _ h9 => List.mem_cons_of_mem _ (List.mem_append_left _ (List.mem_append_left _ (List.mem_append_right _ (h9))))) tyX5 tyX5_ok nmX5 hown hK hP hD hS 0 rfl rfl 11 (by decide) (hts (.fieldLink RX5 58 "ExamHalls" "values" "[I") (List.mem_of_getElem? (i := 24) rfl)) (fun _ h9 => h9) rfl hin rfl (by decide +kernel) rfl rfl (Nat.le_of_ble_eq_true rfl) dX5_init_90 (fun H locs hP hD hS => ?_)
  have hP : va_P (dC, dI) vwCl [(x, .inr (10, [.ref q_1, .int 0, .ref q_3, .int 0, .ref q_5, .ref q_9, .int 10, .ref q_23, .int 0, .int 0, .ref q_25, .ref q_27, .null, .null])), (q_1, .inl (k_2, 24, .inr (.inr (.inr (.inr (fun _ => none)))))), (q_3, .inl (k_4, 6, .inr (.inr (.inr (.inr (fun _ => none)))))), (q_5, .inr (9, [.ref tb_7, .int 0])), (tb_7, .inl (kB_8, 250, .inl (fun _ => 0))), (q_9, .inr (7, [.int 1, .ref le_11, .ref mo_12, .ref os_13, .ref ps_14, .int 0, .ref br_15, .int 0])), (le_11, .inl (kl_16, 8, .inl fl_21)), (mo_12, .inl (km_17, 8, .inl fm_22)), (os_13, .inl (ko_18, 6, .inl (fun _ => 0))), (ps_14, .inl (kp_19, 6, .inl (fun _ => 0))), (br_15, .inl (kb_20, 8, .inr (.inl (fun _ => 0)))), (q_23, .inl (k_24, 4, .inl (fun _ => 0))), (q_25, .inl (k_26, 6, .inl (fun _ => 0))), (q_27, .inl (k_28, 24, .inl (fun _ => 0)))] H := hP
  have hD : va_D A [(x, .inr (10, [.ref q_1, .int 0, .ref q_3, .int 0, .ref q_5, .ref q_9, .int 10, .ref q_23, .int 0, .int 0, .ref q_25, .ref q_27, .null, .null])), (q_1, .inl (k_2, 24, .inr (.inr (.inr (.inr (fun _ => none)))))), (q_3, .inl (k_4, 6, .inr (.inr (.inr (.inr (fun _ => none)))))), (q_5, .inr (9, [.ref tb_7, .int 0])), (tb_7, .inl (kB_8, 250, .inl (fun _ => 0))), (q_9, .inr (7, [.int 1, .ref le_11, .ref mo_12, .ref os_13, .ref ps_14, .int 0, .ref br_15, .int 0])), (le_11, .inl (kl_16, 8, .inl fl_21)), (mo_12, .inl (km_17, 8, .inl fm_22)), (os_13, .inl (ko_18, 6, .inl (fun _ => 0))), (ps_14, .inl (kp_19, 6, .inl (fun _ => 0))), (br_15, .inl (kb_20, 8, .inr (.inl (fun _ => 0)))), (q_23, .inl (k_24, 4, .inl (fun _ => 0))), (q_25, .inl (k_26, 6, .inl (fun _ => 0))), (q_27, .inl (k_28, 24, .inl (fun _ => 0)))] := hD
  refine lv_aload_n hx hb dX5_init_93 rfl (lv_at hl 0 rfl) ?_
  refine lv_bipush (v := 24) hx hb dX5_init_94 (by decide) ?_
  refine va_newa (atype := .boolean) (ty := .boolean) (a0 := (24, (.inl (fun _ => 0)))) hx hb (hts (.arrayClass .boolean) (List.mem_of_getElem? (i := 25) rfl)) rfl hK hP hD hS hA (fun _ => rfl) (by decide) (by decide) (Nat.le_of_ble_eq_true rfl) (Nat.le_of_ble_eq_true rfl) (Nat.le_of_ble_eq_true rfl) dX5_init_96 (fun q_29 k_30 H hK hP hD hS => ?_)
  have hP : va_P (dC, dI) vwCl [(x, .inr (10, [.ref q_1, .int 0, .ref q_3, .int 0, .ref q_5, .ref q_9, .int 10, .ref q_23, .int 0, .int 0, .ref q_25, .ref q_27, .null, .null])), (q_1, .inl (k_2, 24, .inr (.inr (.inr (.inr (fun _ => none)))))), (q_3, .inl (k_4, 6, .inr (.inr (.inr (.inr (fun _ => none)))))), (q_5, .inr (9, [.ref tb_7, .int 0])), (tb_7, .inl (kB_8, 250, .inl (fun _ => 0))), (q_9, .inr (7, [.int 1, .ref le_11, .ref mo_12, .ref os_13, .ref ps_14, .int 0, .ref br_15, .int 0])), (le_11, .inl (kl_16, 8, .inl fl_21)), (mo_12, .inl (km_17, 8, .inl fm_22)), (os_13, .inl (ko_18, 6, .inl (fun _ => 0))), (ps_14, .inl (kp_19, 6, .inl (fun _ => 0))), (br_15, .inl (kb_20, 8, .inr (.inl (fun _ => 0)))), (q_23, .inl (k_24, 4, .inl (fun _ => 0))), (q_25, .inl (k_26, 6, .inl (fun _ => 0))), (q_27, .inl (k_28, 24, .inl (fun _ => 0))), (q_29, .inl (k_30, 24, .inl (fun _ => 0)))] H := hP
  have hD : va_D A [(x, .inr (10, [.ref q_1, .int 0, .ref q_3, .int 0, .ref q_5, .ref q_9, .int 10, .ref q_23, .int 0, .int 0, .ref q_25, .ref q_27, .null, .null])), (q_1, .inl (k_2, 24, .inr (.inr (.inr (.inr (fun _ => none)))))), (q_3, .inl (k_4, 6, .inr (.inr (.inr (.inr (fun _ => none)))))), (q_5, .inr (9, [.ref tb_7, .int 0])), (tb_7, .inl (kB_8, 250, .inl (fun _ => 0))), (q_9, .inr (7, [.int 1, .ref le_11, .ref mo_12, .ref os_13, .ref ps_14, .int 0, .ref br_15, .int 0])), (le_11, .inl (kl_16, 8, .inl fl_21)), (mo_12, .inl (km_17, 8, .inl fm_22)), (os_13, .inl (ko_18, 6, .inl (fun _ => 0))), (ps_14, .inl (kp_19, 6, .inl (fun _ => 0))), (br_15, .inl (kb_20, 8, .inr (.inl (fun _ => 0)))), (q_23, .inl (k_24, 4, .inl (fun _ => 0))), (q_25, .inl (k_26, 6, .inl (fun _ => 0))), (q_27, .inl (k_28, 24, .inl (fun _ => 0))), (q_29, .inl (k_30, 24, .inl (fun _ => 0)))] := hD
  have hK : va_K (dC, dI) vwCl [(k_2, .object "ExamHalls$Candidate"), (k_4, .object "ExamHalls$Reader"), (kB_8, .byte), (kl_16, .int), (km_17, .int), (ko_18, .int), (kp_19, .int), (kb_20, .long), (k_24, .int), (k_26, .int), (k_28, .int), (k_30, .boolean)] s := hK
  refine W.widen (k := 14) (n := 384) (Nat.le_of_ble_eq_true rfl) (Nat.le_of_ble_eq_true rfl) ?_
  refine va_putF (D := (dC, dI)) (ci := 10) (v := .ref q_29) (ty := .array .boolean) (C := RX5) (T := TX5) (N := 14) hx hb hts (fun _ h9 => List.mem_cons_of_mem _ (List.mem_append_left _ (List.mem_append_left _ (List.mem_append_right _ (h9))))) tyX5 tyX5_ok nmX5 hown hK hP hD hS 0 rfl rfl 12 (by decide) (hts (.fieldLink RX5 61 "ExamHalls" "passing" "[Z") (List.mem_of_getElem? (i := 26) rfl)) (fun _ h9 => h9) rfl hin rfl (by decide +kernel) rfl rfl (Nat.le_of_ble_eq_true rfl) dX5_init_98 (fun H locs hP hD hS => ?_)
  have hP : va_P (dC, dI) vwCl [(x, .inr (10, [.ref q_1, .int 0, .ref q_3, .int 0, .ref q_5, .ref q_9, .int 10, .ref q_23, .int 0, .int 0, .ref q_25, .ref q_27, .ref q_29, .null])), (q_1, .inl (k_2, 24, .inr (.inr (.inr (.inr (fun _ => none)))))), (q_3, .inl (k_4, 6, .inr (.inr (.inr (.inr (fun _ => none)))))), (q_5, .inr (9, [.ref tb_7, .int 0])), (tb_7, .inl (kB_8, 250, .inl (fun _ => 0))), (q_9, .inr (7, [.int 1, .ref le_11, .ref mo_12, .ref os_13, .ref ps_14, .int 0, .ref br_15, .int 0])), (le_11, .inl (kl_16, 8, .inl fl_21)), (mo_12, .inl (km_17, 8, .inl fm_22)), (os_13, .inl (ko_18, 6, .inl (fun _ => 0))), (ps_14, .inl (kp_19, 6, .inl (fun _ => 0))), (br_15, .inl (kb_20, 8, .inr (.inl (fun _ => 0)))), (q_23, .inl (k_24, 4, .inl (fun _ => 0))), (q_25, .inl (k_26, 6, .inl (fun _ => 0))), (q_27, .inl (k_28, 24, .inl (fun _ => 0))), (q_29, .inl (k_30, 24, .inl (fun _ => 0)))] H := hP
  have hD : va_D A [(x, .inr (10, [.ref q_1, .int 0, .ref q_3, .int 0, .ref q_5, .ref q_9, .int 10, .ref q_23, .int 0, .int 0, .ref q_25, .ref q_27, .ref q_29, .null])), (q_1, .inl (k_2, 24, .inr (.inr (.inr (.inr (fun _ => none)))))), (q_3, .inl (k_4, 6, .inr (.inr (.inr (.inr (fun _ => none)))))), (q_5, .inr (9, [.ref tb_7, .int 0])), (tb_7, .inl (kB_8, 250, .inl (fun _ => 0))), (q_9, .inr (7, [.int 1, .ref le_11, .ref mo_12, .ref os_13, .ref ps_14, .int 0, .ref br_15, .int 0])), (le_11, .inl (kl_16, 8, .inl fl_21)), (mo_12, .inl (km_17, 8, .inl fm_22)), (os_13, .inl (ko_18, 6, .inl (fun _ => 0))), (ps_14, .inl (kp_19, 6, .inl (fun _ => 0))), (br_15, .inl (kb_20, 8, .inr (.inl (fun _ => 0)))), (q_23, .inl (k_24, 4, .inl (fun _ => 0))), (q_25, .inl (k_26, 6, .inl (fun _ => 0))), (q_27, .inl (k_28, 24, .inl (fun _ => 0))), (q_29, .inl (k_30, 24, .inl (fun _ => 0)))] := hD
  refine lv_aload_n hx hb dX5_init_101 rfl (lv_at hl 0 rfl) ?_
  refine lv_bipush (v := 24) hx hb dX5_init_102 (by decide) ?_
  refine va_newa (atype := .boolean) (ty := .boolean) (a0 := (24, (.inl (fun _ => 0)))) hx hb (hts (.arrayClass .boolean) (List.mem_of_getElem? (i := 25) rfl)) rfl hK hP hD hS hA (fun _ => rfl) (by decide) (by decide) (Nat.le_of_ble_eq_true rfl) (Nat.le_of_ble_eq_true rfl) (Nat.le_of_ble_eq_true rfl) dX5_init_104 (fun q_31 k_32 H hK hP hD hS => ?_)
  have hP : va_P (dC, dI) vwCl [(x, .inr (10, [.ref q_1, .int 0, .ref q_3, .int 0, .ref q_5, .ref q_9, .int 10, .ref q_23, .int 0, .int 0, .ref q_25, .ref q_27, .ref q_29, .null])), (q_1, .inl (k_2, 24, .inr (.inr (.inr (.inr (fun _ => none)))))), (q_3, .inl (k_4, 6, .inr (.inr (.inr (.inr (fun _ => none)))))), (q_5, .inr (9, [.ref tb_7, .int 0])), (tb_7, .inl (kB_8, 250, .inl (fun _ => 0))), (q_9, .inr (7, [.int 1, .ref le_11, .ref mo_12, .ref os_13, .ref ps_14, .int 0, .ref br_15, .int 0])), (le_11, .inl (kl_16, 8, .inl fl_21)), (mo_12, .inl (km_17, 8, .inl fm_22)), (os_13, .inl (ko_18, 6, .inl (fun _ => 0))), (ps_14, .inl (kp_19, 6, .inl (fun _ => 0))), (br_15, .inl (kb_20, 8, .inr (.inl (fun _ => 0)))), (q_23, .inl (k_24, 4, .inl (fun _ => 0))), (q_25, .inl (k_26, 6, .inl (fun _ => 0))), (q_27, .inl (k_28, 24, .inl (fun _ => 0))), (q_29, .inl (k_30, 24, .inl (fun _ => 0))), (q_31, .inl (k_32, 24, .inl (fun _ => 0)))] H := hP
  have hD : va_D A [(x, .inr (10, [.ref q_1, .int 0, .ref q_3, .int 0, .ref q_5, .ref q_9, .int 10, .ref q_23, .int 0, .int 0, .ref q_25, .ref q_27, .ref q_29, .null])), (q_1, .inl (k_2, 24, .inr (.inr (.inr (.inr (fun _ => none)))))), (q_3, .inl (k_4, 6, .inr (.inr (.inr (.inr (fun _ => none)))))), (q_5, .inr (9, [.ref tb_7, .int 0])), (tb_7, .inl (kB_8, 250, .inl (fun _ => 0))), (q_9, .inr (7, [.int 1, .ref le_11, .ref mo_12, .ref os_13, .ref ps_14, .int 0, .ref br_15, .int 0])), (le_11, .inl (kl_16, 8, .inl fl_21)), (mo_12, .inl (km_17, 8, .inl fm_22)), (os_13, .inl (ko_18, 6, .inl (fun _ => 0))), (ps_14, .inl (kp_19, 6, .inl (fun _ => 0))), (br_15, .inl (kb_20, 8, .inr (.inl (fun _ => 0)))), (q_23, .inl (k_24, 4, .inl (fun _ => 0))), (q_25, .inl (k_26, 6, .inl (fun _ => 0))), (q_27, .inl (k_28, 24, .inl (fun _ => 0))), (q_29, .inl (k_30, 24, .inl (fun _ => 0))), (q_31, .inl (k_32, 24, .inl (fun _ => 0)))] := hD
  have hK : va_K (dC, dI) vwCl [(k_2, .object "ExamHalls$Candidate"), (k_4, .object "ExamHalls$Reader"), (kB_8, .byte), (kl_16, .int), (km_17, .int), (ko_18, .int), (kp_19, .int), (kb_20, .long), (k_24, .int), (k_26, .int), (k_28, .int), (k_30, .boolean), (k_32, .boolean)] s := hK
  refine W.widen (k := 15) (n := 408) (Nat.le_of_ble_eq_true rfl) (Nat.le_of_ble_eq_true rfl) ?_
  refine va_putF (D := (dC, dI)) (ci := 10) (v := .ref q_31) (ty := .array .boolean) (C := RX5) (T := TX5) (N := 14) hx hb hts (fun _ h9 => List.mem_cons_of_mem _ (List.mem_append_left _ (List.mem_append_left _ (List.mem_append_right _ (h9))))) tyX5 tyX5_ok nmX5 hown hK hP hD hS 0 rfl rfl 13 (by decide) (hts (.fieldLink RX5 65 "ExamHalls" "passedBefore" "[Z") (List.mem_of_getElem? (i := 27) rfl)) (fun _ h9 => h9) rfl hin rfl (by decide +kernel) rfl rfl (Nat.le_of_ble_eq_true rfl) dX5_init_106 (fun H locs hP hD hS => ?_)
  have hP : va_P (dC, dI) vwCl [(x, .inr (10, [.ref q_1, .int 0, .ref q_3, .int 0, .ref q_5, .ref q_9, .int 10, .ref q_23, .int 0, .int 0, .ref q_25, .ref q_27, .ref q_29, .ref q_31])), (q_1, .inl (k_2, 24, .inr (.inr (.inr (.inr (fun _ => none)))))), (q_3, .inl (k_4, 6, .inr (.inr (.inr (.inr (fun _ => none)))))), (q_5, .inr (9, [.ref tb_7, .int 0])), (tb_7, .inl (kB_8, 250, .inl (fun _ => 0))), (q_9, .inr (7, [.int 1, .ref le_11, .ref mo_12, .ref os_13, .ref ps_14, .int 0, .ref br_15, .int 0])), (le_11, .inl (kl_16, 8, .inl fl_21)), (mo_12, .inl (km_17, 8, .inl fm_22)), (os_13, .inl (ko_18, 6, .inl (fun _ => 0))), (ps_14, .inl (kp_19, 6, .inl (fun _ => 0))), (br_15, .inl (kb_20, 8, .inr (.inl (fun _ => 0)))), (q_23, .inl (k_24, 4, .inl (fun _ => 0))), (q_25, .inl (k_26, 6, .inl (fun _ => 0))), (q_27, .inl (k_28, 24, .inl (fun _ => 0))), (q_29, .inl (k_30, 24, .inl (fun _ => 0))), (q_31, .inl (k_32, 24, .inl (fun _ => 0)))] H := hP
  have hD : va_D A [(x, .inr (10, [.ref q_1, .int 0, .ref q_3, .int 0, .ref q_5, .ref q_9, .int 10, .ref q_23, .int 0, .int 0, .ref q_25, .ref q_27, .ref q_29, .ref q_31])), (q_1, .inl (k_2, 24, .inr (.inr (.inr (.inr (fun _ => none)))))), (q_3, .inl (k_4, 6, .inr (.inr (.inr (.inr (fun _ => none)))))), (q_5, .inr (9, [.ref tb_7, .int 0])), (tb_7, .inl (kB_8, 250, .inl (fun _ => 0))), (q_9, .inr (7, [.int 1, .ref le_11, .ref mo_12, .ref os_13, .ref ps_14, .int 0, .ref br_15, .int 0])), (le_11, .inl (kl_16, 8, .inl fl_21)), (mo_12, .inl (km_17, 8, .inl fm_22)), (os_13, .inl (ko_18, 6, .inl (fun _ => 0))), (ps_14, .inl (kp_19, 6, .inl (fun _ => 0))), (br_15, .inl (kb_20, 8, .inr (.inl (fun _ => 0)))), (q_23, .inl (k_24, 4, .inl (fun _ => 0))), (q_25, .inl (k_26, 6, .inl (fun _ => 0))), (q_27, .inl (k_28, 24, .inl (fun _ => 0))), (q_29, .inl (k_30, 24, .inl (fun _ => 0))), (q_31, .inl (k_32, 24, .inl (fun _ => 0)))] := hD
  have hP9 := hP.sub (ws' := [(x, .inr (10, [.ref q_1, .int 0, .ref q_3, .int 0, .ref q_5, .ref q_9, .int 10, .ref q_23, .int 0, .int 0, .ref q_25, .ref q_27, .ref q_29, .ref q_31])), (q_1, .inl (k_2, 24, .inr (.inr (.inr (.inr (fun _ => none)))))), (q_3, .inl (k_4, 6, .inr (.inr (.inr (.inr (fun _ => none)))))), (q_5, .inr (9, [.ref tb_7, .int 0])), (tb_7, .inl (kB_8, 250, .inl (fun _ => 0))), (q_9, .inr (7, [.int 1, .ref le_11, .ref mo_12, .ref os_13, .ref ps_14, .int 0, .ref br_15, .int 0])), (le_11, .inl (kl_16, 8, .inl fl_21)), (mo_12, .inl (km_17, 8, .inl fm_22)), (os_13, .inl (ko_18, 6, .inl (fun _ => 0))), (ps_14, .inl (kp_19, 6, .inl (fun _ => 0))), (br_15, .inl (kb_20, 8, .inr (.inl (fun _ => 0)))), (q_23, .inl (k_24, 4, .inl (fun _ => 0)))]) [0, 1, 2, 3, 4, 5, 6, 7, 8, 9, 10, 11] rfl
  have hD9 := hD.sub (ws' := [(x, .inr (10, [.ref q_1, .int 0, .ref q_3, .int 0, .ref q_5, .ref q_9, .int 10, .ref q_23, .int 0, .int 0, .ref q_25, .ref q_27, .ref q_29, .ref q_31])), (q_1, .inl (k_2, 24, .inr (.inr (.inr (.inr (fun _ => none)))))), (q_3, .inl (k_4, 6, .inr (.inr (.inr (.inr (fun _ => none)))))), (q_5, .inr (9, [.ref tb_7, .int 0])), (tb_7, .inl (kB_8, 250, .inl (fun _ => 0))), (q_9, .inr (7, [.int 1, .ref le_11, .ref mo_12, .ref os_13, .ref ps_14, .int 0, .ref br_15, .int 0])), (le_11, .inl (kl_16, 8, .inl fl_21)), (mo_12, .inl (km_17, 8, .inl fm_22)), (os_13, .inl (ko_18, 6, .inl (fun _ => 0))), (ps_14, .inl (kp_19, 6, .inl (fun _ => 0))), (br_15, .inl (kb_20, 8, .inr (.inl (fun _ => 0)))), (q_23, .inl (k_24, 4, .inl (fun _ => 0)))]) [0, 1, 2, 3, 4, 5, 6, 7, 8, 9, 10, 11] (by decide) rfl
  have hK9 := hK.sub (tys' := [(k_2, .object "ExamHalls$Candidate"), (k_4, .object "ExamHalls$Reader"), (kB_8, .byte), (kl_16, .int), (km_17, .int), (ko_18, .int), (kp_19, .int), (kb_20, .long), (k_24, .int)]) [0, 1, 2, 3, 4, 5, 6, 7, 8] rfl
  exact W.vret hx hb hr (fun t ht hW => ⟨⟨(), rfl, trivial, q_1, q_3, q_5, q_9, q_23, q_25, q_27, q_29, q_31, tb_7, le_11, mo_12, os_13, ps_14, br_15, kl_16, km_17, ko_18, kp_19, kb_20, fl_21, fm_22, k_2, k_4, kB_8, k_24, by rw [ht]; exact hP9, va_K.moved hW.alike hK9, hD9⟩, hS.F ht⟩) hS.2.2 dX5_init_109

def sp_X_candidate (c1 : Int32) : Int32 := if (sp_X_isWithin c1 0 3) = 0 then (-1) else 0
set_option maxHeartbeats 4000000 in
set_option maxRecDepth 100000 in
theorem c_X_candidate (l : Launch) (dC : Nat → ClassId) (dI : Nat → Nat → Nat) (x : Nat) (cd : Nat) (rd : Nat) (tp : Nat) (fo : Nat) (qu : Nat) (sh : Nat) (vs : Nat) (pa : Nat) (pb : Nat) (kC : ClassId) (c1 : Int32) (sz : Nat) : Met l yX5_candidate wsX5_candidate ({ frames := 2, cells := 4, slots := 24, locals := 33 }) (va_Pc [.ref x, .int c1] (PQ dC dI sz [(x, .inr (10, [.ref cd, .int 0, .ref rd, .int 0, .ref tp, .ref fo, .int 10, .ref qu, .int 0, .int 0, .ref sh, .ref vs, .ref pa, .ref pb])), (cd, .inl (kC, 24, .inr (.inr (.inr (.inr (fun _ => none))))))] [(kC, .object "ExamHalls$Candidate")])) (va_Qi (fun r (_ : Unit) => r = sp_X_candidate c1) (fun _ _ => True) (va_A [(x, .inr (10, [.ref cd, .int 0, .ref rd, .int 0, .ref tp, .ref fo, .int 10, .ref qu, .int 0, .int 0, .ref sh, .ref vs, .ref pa, .ref pb])), (cd, .inl (kC, 24, .inr (.inr (.inr (.inr (fun _ => none))))))] sz)) 4 24 (va_A [(x, .inr (10, [.ref cd, .int 0, .ref rd, .int 0, .ref tp, .ref fo, .int 10, .ref qu, .int 0, .int 0, .ref sh, .ref vs, .ref pa, .ref pb])), (cd, .inl (kC, 24, .inr (.inr (.inr (.inr (fun _ => none))))))] sz) := by
  refine Met.ofW (cc := cX5_candidate) (maxL := 2) (ret := (some .int)) (by decide) rfl ?_
  intro p e s m args below meth c s₁ B hml hv
  obtain ⟨rfl, hsz, hP, hK, hD0, hF⟩ := hv
  have hx := B.exec
  have hb := B.bytes
  have hr := B.returns
  have hts := atoms_spec (ws := wsX5_candidate) B.pre
  have hown : s.vm.findClass RX5 = some m.cls := findClass_of_methodNamed B.named
  have hlocks := B.notSynchronized
  subst hsz
  have hD := hD0.self (sz := s.heap.size)
  generalize hAe : va_A [(x, .inr (10, [.ref cd, .int 0, .ref rd, .int 0, .ref tp, .ref fo, .int 10, .ref qu, .int 0, .int 0, .ref sh, .ref vs, .ref pa, .ref pb])), (cd, .inl (kC, 24, .inr (.inr (.inr (.inr (fun _ => none))))))] s.heap.size = A at hD ⊢
  have hA : ∀ q : Nat, s.heap.size ≤ q → A q := fun q h => by rw [← hAe]; exact Or.inr h
  have hS : va_S A s.heap s.heap [] := va_S.rf
  have hl := lv_entry ([.ref x, .int c1]) (n := 2) (Nat.le_of_ble_eq_true rfl)
  rw [lg_entry_eq]
  generalize (lg_sl ([.ref x, .int c1]) ++ List.replicate (2 - (lg_sl ([.ref x, .int c1])).length) Slot.unset).toArray = ls at hl ⊢
  have hl : lv_has ls 2 [(0, .ref x), (1, .int c1)] := hl
  refine lv_iload_n hx hb dX5_candidate_0 rfl (lv_at hl 1 rfl) ?_
  refine lv_iconst (v := 0) hx hb dX5_candidate_1 (by decide) ?_
  refine lv_iconst (v := 3) hx hb dX5_candidate_2 (by decide) ?_
  refine vp_callSi (va_Run.run (va_runS (As := [.int c1, .int 0, .int 3]) (rest := []) ⟨hx, hb, hml, hown, hts⟩ (c_X_isWithin l dC dI c1 0 3) (va_cwS 3 hts gX5_candidate_X5_isWithin rfl rfl rfl (by decide +kernel) ⟨Nat.le_of_ble_eq_true rfl, Nat.le_of_ble_eq_true rfl⟩) ⟨PS_blind, PS_pre (hP.sub (ws' := []) [] rfl) (hK.sub (tys' := []) [] rfl) hF⟩ rfl rfl hl.1 rfl (lv_room (Nat.le_of_ble_eq_true rfl)) dX5_candidate_3 ⟨Nat.le_of_ble_eq_true rfl, Nat.le_of_ble_eq_true rfl⟩)) (fun r_1 hr_1 => ?_)
  subst hr_1
  refine lv_if_ne (tgt := 11) hx hb dX5_candidate_6 (by decide) (fun c_2 => ?_) (fun c_2 => ?_)
  · skip
    refine lv_aload_n hx hb dX5_candidate_11 rfl (lv_at hl 0 rfl) ?_
    refine va_get (D := (dC, dI)) (ci := 10) (v := .int 0) (C := RX5) (T := TX5) (N := 14) hx hb hts (fun _ h9 => List.mem_cons_of_mem _ (List.mem_append_left _ (List.mem_append_right _ (h9)))) hown hK hP 0 rfl rfl 1 (by decide) (hts (.fieldLink RX5 15 "ExamHalls" "candidateCount" "I") (List.mem_of_getElem? (i := 1) rfl)) (fun _ h9 => h9) rfl dX5_candidate_12 ?_
    refine lv_if_lt (tgt := 30) hx hb dX5_candidate_15 (by decide) (fun c_3 => absurd c_3 (by decide)) (fun _ => ?_)
    refine lv_aload_n hx hb dX5_candidate_18 rfl (lv_at hl 0 rfl) ?_
    refine va_get (D := (dC, dI)) (ci := 10) (v := .int 0) (C := RX5) (T := TX5) (N := 14) hx hb hts (fun _ h9 => List.mem_cons_of_mem _ (List.mem_append_left _ (List.mem_append_right _ (h9)))) hown hK hP 0 rfl rfl 1 (by decide) (hts (.fieldLink RX5 15 "ExamHalls" "candidateCount" "I") (List.mem_of_getElem? (i := 1) rfl)) (fun _ h9 => h9) rfl dX5_candidate_19 ?_
    refine lv_aload_n hx hb dX5_candidate_22 rfl (lv_at hl 0 rfl) ?_
    refine va_get (D := (dC, dI)) (ci := 10) (v := .ref cd) (C := RX5) (T := TX5) (N := 14) hx hb hts (fun _ h9 => List.mem_cons_of_mem _ (List.mem_append_left _ (List.mem_append_right _ (h9)))) hown hK hP 0 rfl rfl 0 (by decide) (hts (.fieldLink RX5 11 "ExamHalls" "candidates" "[LExamHalls$Candidate;") (List.mem_of_getElem? (i := 2) rfl)) (fun _ h9 => h9) rfl dX5_candidate_23 ?_
    refine va_alen hx hb hK hP 1 0 rfl rfl (v := 24) (by decide) dX5_candidate_26 ?_
    refine lv_icmp_lt (tgt := 33) hx hb dX5_candidate_27 (by decide) (fun _ => ?_) (fun c_4 => absurd (by decide) c_4)
    refine lv_aload_n hx hb dX5_candidate_33 rfl (lv_at hl 0 rfl) ?_
    refine va_get (D := (dC, dI)) (ci := 10) (v := .ref cd) (C := RX5) (T := TX5) (N := 14) hx hb hts (fun _ h9 => List.mem_cons_of_mem _ (List.mem_append_left _ (List.mem_append_right _ (h9)))) hown hK hP 0 rfl rfl 0 (by decide) (hts (.fieldLink RX5 11 "ExamHalls" "candidates" "[LExamHalls$Candidate;") (List.mem_of_getElem? (i := 2) rfl)) (fun _ h9 => h9) rfl dX5_candidate_34 ?_
    refine lv_aload_n hx hb dX5_candidate_37 rfl (lv_at hl 0 rfl) ?_
    refine va_get (D := (dC, dI)) (ci := 10) (v := .int 0) (C := RX5) (T := TX5) (N := 14) hx hb hts (fun _ h9 => List.mem_cons_of_mem _ (List.mem_append_left _ (List.mem_append_right _ (h9)))) hown hK hP 0 rfl rfl 1 (by decide) (hts (.fieldLink RX5 15 "ExamHalls" "candidateCount" "I") (List.mem_of_getElem? (i := 1) rfl)) (fun _ h9 => h9) rfl dX5_candidate_38 ?_
    refine va_new (ci := 5) (fs := [.int 0, .null, .int 0, .int 0, .int 0, .int 0, .null, .null, .null, .int 0]) (C := RX0) (T := TX0) (N := 10) hx hb hts (fun _ h9 => List.mem_cons_of_mem _ (List.mem_append_right _ (h9))) tyX0 tyX0_ok hown (hts (.classLink RX5 9 RX0) (List.mem_of_getElem? (i := 3) rfl)) (hts (.instantiable RX0 10) (List.mem_of_getElem? (i := 4) rfl)) (hts (.initialized RX0) (List.mem_of_getElem? (i := 5) rfl)) hK hP hD hS hA rfl dfX0 (Nat.le_of_ble_eq_true rfl) (Nat.le_of_ble_eq_true rfl) dX5_candidate_41 (fun q_5 H hP hD hS => ?_)
    have hP : va_P (dC, dI) vwCl [(x, .inr (10, [.ref cd, .int 0, .ref rd, .int 0, .ref tp, .ref fo, .int 10, .ref qu, .int 0, .int 0, .ref sh, .ref vs, .ref pa, .ref pb])), (cd, .inl (kC, 24, .inr (.inr (.inr (.inr (fun _ => none)))))), (q_5, .inr (5, [.int 0, .null, .int 0, .int 0, .int 0, .int 0, .null, .null, .null, .int 0]))] H := hP
    have hD : va_D A [(x, .inr (10, [.ref cd, .int 0, .ref rd, .int 0, .ref tp, .ref fo, .int 10, .ref qu, .int 0, .int 0, .ref sh, .ref vs, .ref pa, .ref pb])), (cd, .inl (kC, 24, .inr (.inr (.inr (.inr (fun _ => none)))))), (q_5, .inr (5, [.int 0, .null, .int 0, .int 0, .int 0, .int 0, .null, .null, .null, .int 0]))] := hD
    refine W.widen (k := 1) (n := 10) (Nat.le_of_ble_eq_true rfl) (Nat.le_of_ble_eq_true rfl) ?_
    refine lv_dup hx hb dX5_candidate_44 rfl ?_
    refine lv_iload_n hx hb dX5_candidate_45 rfl (lv_at hl 1 rfl) ?_
    have hPc := hP.sub (ws' := [(q_5, .inr (5, [.int 0, .null, .int 0, .int 0, .int 0, .int 0, .null, .null, .null, .int 0]))]) [2] rfl
    have hDc := hD.sub (ws' := [(q_5, .inr (5, [.int 0, .null, .int 0, .int 0, .int 0, .int 0, .null, .null, .null, .int 0]))]) [2] (by decide) rfl
    have hKc := hK.sub (tys' := []) [] rfl
    have hFc := va_free (wc := [(q_5, .inr (5, [.int 0, .null, .int 0, .int 0, .int 0, .int 0, .null, .null, .null, .int 0]))]) hD hS hA [2] rfl
    refine va_callv (va_runIN (As := [.int c1]) (rest := [.ref q_5, .int 0, .ref cd]) ⟨hx, hb, hml, hown, hts⟩ (c_X0_init l dC dI q_5 c1 H.size) ⟨va_cnB 1 hts gX5_candidate_X0_init_n72 rfl rfl rfl (Ft.nm hF (RX5, 72, yX0_init, RX5) (by decide +kernel)) (hts (.initialized RX0) (List.mem_of_getElem? (i := 5) rfl)) (by decide +kernel) ⟨Nat.le_of_ble_eq_true rfl, Nat.le_of_ble_eq_true rfl⟩, rfl, (hts (.instanceMethod yX0_init) (List.mem_of_getElem? (i := 10) rfl))⟩ ⟨PQ_blind, PQ_pre hPc hKc hDc hF⟩ rfl rfl hl.1 rfl (lv_room (Nat.le_of_ble_eq_true rfl)) dX5_candidate_46 ⟨Nat.le_of_ble_eq_true rfl, Nat.le_of_ble_eq_true rfl⟩) hS (fun q _ h => hFc q h) hFc (fun u t H1 locs ht hvm hw hB hz1 hk1 hS => ?_)
    obtain ⟨g1_7, g2_8, g3_9, hP1, hK1, hD1⟩ := hB
    rw [ht] at hP1
    have hK1 := va_K.moved hvm.symm hK1
    obtain ⟨hP, hD⟩ := va_join (wr := [(x, .inr (10, [.ref cd, .int 0, .ref rd, .int 0, .ref tp, .ref fo, .int 10, .ref qu, .int 0, .int 0, .ref sh, .ref vs, .ref pa, .ref pb])), (cd, .inl (kC, 24, .inr (.inr (.inr (.inr (fun _ => none))))))]) (w1 := [(q_5, .inr (5, [.int c1, .null, .int (-1), .int (-1), .int 0, .int 0, .ref g1_7, .ref g2_8, .ref g3_9, .int 0]))]) hP hD [2] [0, 1] rfl rfl (by decide) (by decide) hk1 hFc hP1 hD1
    have hK := hK.app hK1
    generalize H1 = H at hP hS ⊢
    have hP : va_P (dC, dI) vwCl [(x, .inr (10, [.ref cd, .int 0, .ref rd, .int 0, .ref tp, .ref fo, .int 10, .ref qu, .int 0, .int 0, .ref sh, .ref vs, .ref pa, .ref pb])), (cd, .inl (kC, 24, .inr (.inr (.inr (.inr (fun _ => none)))))), (q_5, .inr (5, [.int c1, .null, .int (-1), .int (-1), .int 0, .int 0, .ref g1_7, .ref g2_8, .ref g3_9, .int 0]))] H := hP
    have hD : va_D A [(x, .inr (10, [.ref cd, .int 0, .ref rd, .int 0, .ref tp, .ref fo, .int 10, .ref qu, .int 0, .int 0, .ref sh, .ref vs, .ref pa, .ref pb])), (cd, .inl (kC, 24, .inr (.inr (.inr (.inr (fun _ => none)))))), (q_5, .inr (5, [.int c1, .null, .int (-1), .int (-1), .int 0, .int 0, .ref g1_7, .ref g2_8, .ref g3_9, .int 0]))] := hD
    have hK : va_K (dC, dI) vwCl [(kC, .object "ExamHalls$Candidate")] s := hK
    refine W.widen (k := 4) (n := 24) (Nat.le_of_ble_eq_true rfl) (Nat.le_of_ble_eq_true rfl) ?_
    refine va_astq hx hb hK hP hD hS 1 0 2 5 (r := (RX0, TX0, 10)) rfl rfl rfl rfl (by unfold vp_in; decide) dX5_candidate_49 (fun H locs hP hD hS => ?_)
    have hP : va_P (dC, dI) vwCl [(x, .inr (10, [.ref cd, .int 0, .ref rd, .int 0, .ref tp, .ref fo, .int 10, .ref qu, .int 0, .int 0, .ref sh, .ref vs, .ref pa, .ref pb])), (cd, .inl (kC, 24, .inr (.inr (.inr (.inr (va_up (fun _ => none) (0 : Int32).toNatClampNeg (some q_5))))))), (q_5, .inr (5, [.int c1, .null, .int (-1), .int (-1), .int 0, .int 0, .ref g1_7, .ref g2_8, .ref g3_9, .int 0]))] H := hP
    have hD : va_D A [(x, .inr (10, [.ref cd, .int 0, .ref rd, .int 0, .ref tp, .ref fo, .int 10, .ref qu, .int 0, .int 0, .ref sh, .ref vs, .ref pa, .ref pb])), (cd, .inl (kC, 24, .inr (.inr (.inr (.inr (va_up (fun _ => none) (0 : Int32).toNatClampNeg (some q_5))))))), (q_5, .inr (5, [.int c1, .null, .int (-1), .int (-1), .int 0, .int 0, .ref g1_7, .ref g2_8, .ref g3_9, .int 0]))] := hD
    generalize (va_up (fun _ => none) (0 : Int32).toNatClampNeg (some q_5)) = a_10 at hP hD
    refine lv_aload_n hx hb dX5_candidate_50 rfl (lv_at hl 0 rfl) ?_
    refine lv_dup hx hb dX5_candidate_51 rfl ?_
    refine va_get (D := (dC, dI)) (ci := 10) (v := .int 0) (C := RX5) (T := TX5) (N := 14) hx hb hts (fun _ h9 => List.mem_cons_of_mem _ (List.mem_append_left _ (List.mem_append_right _ (h9)))) hown hK hP 0 rfl rfl 1 (by decide) (hts (.fieldLink RX5 15 "ExamHalls" "candidateCount" "I") (List.mem_of_getElem? (i := 1) rfl)) (fun _ h9 => h9) rfl dX5_candidate_52 ?_
    refine lv_iconst (v := 1) hx hb dX5_candidate_55 (by decide) ?_
    refine lv_iadd hx hb dX5_candidate_56 ?_
    refine lv_topi (fun f_11 ef_11 => ?_)
    obtain rfl : f_11 = 1 := ef_11.trans (by decide)
    refine va_put (D := (dC, dI)) (ci := 10) (v := .int 1) (ty := .int) (C := RX5) (T := TX5) (N := 14) hx hb hts (fun _ h9 => List.mem_cons_of_mem _ (List.mem_append_left _ (List.mem_append_right _ (h9)))) tyX5 tyX5_ok nmX5 hown hK hP hD hS 0 rfl rfl 1 (by decide) (hts (.fieldLink RX5 15 "ExamHalls" "candidateCount" "I") (List.mem_of_getElem? (i := 1) rfl)) (fun _ h9 => h9) rfl (by decide +kernel) rfl rfl (Nat.le_of_ble_eq_true rfl) dX5_candidate_57 (fun H locs hP hD hS => ?_)
    have hP : va_P (dC, dI) vwCl [(x, .inr (10, [.ref cd, .int 1, .ref rd, .int 0, .ref tp, .ref fo, .int 10, .ref qu, .int 0, .int 0, .ref sh, .ref vs, .ref pa, .ref pb])), (cd, .inl (kC, 24, .inr (.inr (.inr (.inr a_10))))), (q_5, .inr (5, [.int c1, .null, .int (-1), .int (-1), .int 0, .int 0, .ref g1_7, .ref g2_8, .ref g3_9, .int 0]))] H := hP
    have hD : va_D A [(x, .inr (10, [.ref cd, .int 1, .ref rd, .int 0, .ref tp, .ref fo, .int 10, .ref qu, .int 0, .int 0, .ref sh, .ref vs, .ref pa, .ref pb])), (cd, .inl (kC, 24, .inr (.inr (.inr (.inr a_10))))), (q_5, .inr (5, [.int c1, .null, .int (-1), .int (-1), .int 0, .int 0, .ref g1_7, .ref g2_8, .ref g3_9, .int 0]))] := hD
    refine lv_aload_n hx hb dX5_candidate_60 rfl (lv_at hl 0 rfl) ?_
    refine va_get (D := (dC, dI)) (ci := 10) (v := .int 1) (C := RX5) (T := TX5) (N := 14) hx hb hts (fun _ h9 => List.mem_cons_of_mem _ (List.mem_append_left _ (List.mem_append_right _ (h9)))) hown hK hP 0 rfl rfl 1 (by decide) (hts (.fieldLink RX5 15 "ExamHalls" "candidateCount" "I") (List.mem_of_getElem? (i := 1) rfl)) (fun _ h9 => h9) rfl dX5_candidate_61 ?_
    refine lv_iconst (v := 1) hx hb dX5_candidate_64 (by decide) ?_
    refine lv_isub hx hb dX5_candidate_65 ?_
    refine lv_topi (fun f_12 ef_12 => ?_)
    obtain rfl : f_12 = 0 := ef_12.trans (by decide)
    exact W.iret (v := 0) hx hb hr (fun t ht hW => ⟨⟨_, (), rfl, (by simp only [sp_X_candidate, if_neg c_2]), trivial⟩, hS.F ht⟩) hS.2.2 dX5_candidate_66
  · skip
    refine lv_iconst (v := (-1)) hx hb dX5_candidate_9 (by decide) ?_
    refine W.widen (k := 4) (n := 24) (Nat.le_of_ble_eq_true rfl) (Nat.le_of_ble_eq_true rfl) ?_
    exact W.iret (v := (-1)) hx hb hr (fun t ht hW => ⟨⟨_, (), rfl, (by simp only [sp_X_candidate, if_pos c_2]), trivial⟩, hS.F ht⟩) hS.2.2 dX5_candidate_10

def sp_X_form (c1 : Int32) : Int32 := if (sp_X_isWithin c1 1 8) = 0 then (-2) else 1
set_option maxHeartbeats 4000000 in
set_option maxRecDepth 100000 in
theorem c_X_form (l : Launch) (dC : Nat → ClassId) (dI : Nat → Nat → Nat) (x : Nat) (cd : Nat) (rd : Nat) (tp : Nat) (fo : Nat) (qu : Nat) (sh : Nat) (vs : Nat) (pa : Nat) (pb : Nat) (le : Nat) (mo : Nat) (os : Nat) (ps : Nat) (br : Nat) (c1 : Int32) (sz : Nat) : Met l yX5_form wsX5_form ({ frames := 1, cells := 0, slots := 0, locals := 22 }) (va_Pc [.ref x, .int c1] (PQ dC dI sz [(x, .inr (10, [.ref cd, .int 0, .ref rd, .int 0, .ref tp, .ref fo, .int 10, .ref qu, .int 0, .int 0, .ref sh, .ref vs, .ref pa, .ref pb])), (fo, .inr (7, [.int 1, .ref le, .ref mo, .ref os, .ref ps, .int 0, .ref br, .int 0]))] [])) (va_Qi (fun r (_ : Unit) => r = sp_X_form c1) (fun _ _ => True) (va_A [(x, .inr (10, [.ref cd, .int 0, .ref rd, .int 0, .ref tp, .ref fo, .int 10, .ref qu, .int 0, .int 0, .ref sh, .ref vs, .ref pa, .ref pb])), (fo, .inr (7, [.int 1, .ref le, .ref mo, .ref os, .ref ps, .int 0, .ref br, .int 0]))] sz)) 0 0 (va_A [(x, .inr (10, [.ref cd, .int 0, .ref rd, .int 0, .ref tp, .ref fo, .int 10, .ref qu, .int 0, .int 0, .ref sh, .ref vs, .ref pa, .ref pb])), (fo, .inr (7, [.int 1, .ref le, .ref mo, .ref os, .ref ps, .int 0, .ref br, .int 0]))] sz) := by
  refine Met.ofW (cc := cX5_form) (maxL := 3) (ret := (some .int)) (by decide) rfl ?_
  intro p e s m args below meth c s₁ B hml hv
  obtain ⟨rfl, hsz, hP, hK, hD0, hF⟩ := hv
  have hx := B.exec
  have hb := B.bytes
  have hr := B.returns
  have hts := atoms_spec (ws := wsX5_form) B.pre
  have hown : s.vm.findClass RX5 = some m.cls := findClass_of_methodNamed B.named
  have hlocks := B.notSynchronized
  subst hsz
  have hD := hD0.self (sz := s.heap.size)
  generalize hAe : va_A [(x, .inr (10, [.ref cd, .int 0, .ref rd, .int 0, .ref tp, .ref fo, .int 10, .ref qu, .int 0, .int 0, .ref sh, .ref vs, .ref pa, .ref pb])), (fo, .inr (7, [.int 1, .ref le, .ref mo, .ref os, .ref ps, .int 0, .ref br, .int 0]))] s.heap.size = A at hD ⊢
  have hA : ∀ q : Nat, s.heap.size ≤ q → A q := fun q h => by rw [← hAe]; exact Or.inr h
  have hS : va_S A s.heap s.heap [] := va_S.rf
  have hl := lv_entry ([.ref x, .int c1]) (n := 3) (Nat.le_of_ble_eq_true rfl)
  rw [lg_entry_eq]
  generalize (lg_sl ([.ref x, .int c1]) ++ List.replicate (3 - (lg_sl ([.ref x, .int c1])).length) Slot.unset).toArray = ls at hl ⊢
  have hl : lv_has ls 3 [(0, .ref x), (1, .int c1)] := hl
  refine lv_iload_n hx hb dX5_form_0 rfl (lv_at hl 1 rfl) ?_
  refine lv_iconst (v := 1) hx hb dX5_form_1 (by decide) ?_
  refine lv_bipush (v := 8) hx hb dX5_form_2 (by decide) ?_
  refine vp_callSi (va_Run.run (va_runS (As := [.int c1, .int 1, .int 8]) (rest := []) ⟨hx, hb, hml, hown, hts⟩ (c_X_isWithin l dC dI c1 1 8) (va_cwS 3 hts gX5_form_X5_isWithin rfl rfl rfl (by decide +kernel) ⟨Nat.le_of_ble_eq_true rfl, Nat.le_of_ble_eq_true rfl⟩) ⟨PS_blind, PS_pre (hP.sub (ws' := []) [] rfl) hK hF⟩ rfl rfl hl.1 rfl (lv_room (Nat.le_of_ble_eq_true rfl)) dX5_form_4 ⟨Nat.le_of_ble_eq_true rfl, Nat.le_of_ble_eq_true rfl⟩)) (fun r_1 hr_1 => ?_)
  subst hr_1
  refine lv_if_ne (tgt := 13) hx hb dX5_form_7 (by decide) (fun c_2 => ?_) (fun c_2 => ?_)
  · skip
    refine lv_aload_n hx hb dX5_form_13 rfl (lv_at hl 0 rfl) ?_
    refine va_get (D := (dC, dI)) (ci := 10) (v := .ref fo) (C := RX5) (T := TX5) (N := 14) hx hb hts (fun _ h9 => List.mem_cons_of_mem _ (List.mem_append_left _ (List.mem_append_right _ (h9)))) hown hK hP 0 rfl rfl 5 (by decide) (hts (.fieldLink RX5 38 "ExamHalls" "form" "LExamHalls$Form;") (List.mem_of_getElem? (i := 1) rfl)) (fun _ h9 => h9) rfl dX5_form_14 ?_
    refine va_getN (D := (dC, dI)) (ci := 7) (v := .int 1) (C := RX2) (T := TX2) (N := 8) hx hb hts (fun _ h9 => List.mem_cons_of_mem _ (List.mem_append_right _ (h9))) hown hK hP 1 rfl rfl 0 (by decide) (Ft.nf hF (RX5, 129, "ExamHalls$Form", "legCount", "I", RX5) (by decide +kernel)) (fun _ h9 => h9) rfl dX5_form_17 ?_
    refine lv_istore_n (lv' := [(2, .int 1), (0, .ref x), (1, .int c1)]) hx hb dX5_form_20 rfl hl (by decide) rfl (fun ls hl => ?_)
    refine lv_aload_n hx hb dX5_form_21 rfl (lv_at hl 1 rfl) ?_
    refine va_get (D := (dC, dI)) (ci := 10) (v := .ref fo) (C := RX5) (T := TX5) (N := 14) hx hb hts (fun _ h9 => List.mem_cons_of_mem _ (List.mem_append_left _ (List.mem_append_right _ (h9)))) hown hK hP 0 rfl rfl 5 (by decide) (hts (.fieldLink RX5 38 "ExamHalls" "form" "LExamHalls$Form;") (List.mem_of_getElem? (i := 1) rfl)) (fun _ h9 => h9) rfl dX5_form_22 ?_
    refine lv_iload_n hx hb dX5_form_25 rfl (lv_at hl 2 rfl) ?_
    refine va_putN (D := (dC, dI)) (ci := 7) (v := .int c1) (ty := .int) (C := RX2) (T := TX2) (N := 8) hx hb hts (fun _ h9 => List.mem_cons_of_mem _ (List.mem_append_right _ (h9))) tyX2 tyX2_ok nmX2 hown hK hP hD hS 1 rfl rfl 0 (by decide) (Ft.nf hF (RX5, 129, "ExamHalls$Form", "legCount", "I", RX5) (by decide +kernel)) (fun _ h9 => h9) rfl (by decide +kernel) rfl rfl (Nat.le_of_ble_eq_true rfl) dX5_form_26 (fun H locs hP hD hS => ?_)
    have hP : va_P (dC, dI) vwCl [(x, .inr (10, [.ref cd, .int 0, .ref rd, .int 0, .ref tp, .ref fo, .int 10, .ref qu, .int 0, .int 0, .ref sh, .ref vs, .ref pa, .ref pb])), (fo, .inr (7, [.int c1, .ref le, .ref mo, .ref os, .ref ps, .int 0, .ref br, .int 0]))] H := hP
    have hD : va_D A [(x, .inr (10, [.ref cd, .int 0, .ref rd, .int 0, .ref tp, .ref fo, .int 10, .ref qu, .int 0, .int 0, .ref sh, .ref vs, .ref pa, .ref pb])), (fo, .inr (7, [.int c1, .ref le, .ref mo, .ref os, .ref ps, .int 0, .ref br, .int 0]))] := hD
    refine lv_iload_n hx hb dX5_form_29 rfl (lv_at hl 0 rfl) ?_
    exact W.iret (v := 1) hx hb hr (fun t ht hW => ⟨⟨_, (), rfl, (by simp only [sp_X_form, if_neg c_2]), trivial⟩, hS.F ht⟩) hS.2.2 dX5_form_30
  · skip
    refine lv_bipush (v := (-2)) hx hb dX5_form_10 (by decide) ?_
    exact W.iret (v := (-2)) hx hb hr (fun t ht hW => ⟨⟨_, (), rfl, (by simp only [sp_X_form, if_pos c_2]), trivial⟩, hS.F ht⟩) hS.2.2 dX5_form_12

set_option maxHeartbeats 4000000 in
set_option maxRecDepth 100000 in
theorem c_F_setMeasure (l : Launch) (dC : Nat → ClassId) (dI : Nat → Nat → Nat) (fo : Nat) (le : Nat) (mo : Nat) (os : Nat) (ps : Nat) (br : Nat) (kl : ClassId) (km : ClassId) (fl : Nat → Int32) (fm : Nat → Int32) (c1 : Int32) (c2 : Int32) (c3 : Int32) (sz : Nat) : Met l yX2_setMeasure wsX2_setMeasure ({ frames := 0, cells := 0, slots := 0, locals := 0 }) (va_Pc [.ref fo, .int c1, .int c2, .int c3] (PQ dC dI sz [(fo, .inr (7, [.int 1, .ref le, .ref mo, .ref os, .ref ps, .int 0, .ref br, .int 0])), (le, .inl (kl, 8, .inl fl)), (mo, .inl (km, 8, .inl fm))] [(kl, .int), (km, .int)])) (va_Qv (fun _ : Unit => True) (fun _ _ => True) (va_A [(fo, .inr (7, [.int 1, .ref le, .ref mo, .ref os, .ref ps, .int 0, .ref br, .int 0])), (le, .inl (kl, 8, .inl fl)), (mo, .inl (km, 8, .inl fm))] sz)) 0 0 (va_A [(fo, .inr (7, [.int 1, .ref le, .ref mo, .ref os, .ref ps, .int 0, .ref br, .int 0])), (le, .inl (kl, 8, .inl fl)), (mo, .inl (km, 8, .inl fm))] sz) := by
  refine Met.ofW (cc := cX2_setMeasure) (maxL := 4) (ret := none) (by decide) rfl ?_
  intro p e s m args below meth c s₁ B hml hv
  obtain ⟨rfl, hsz, hP, hK, hD0, hF⟩ := hv
  have hx := B.exec
  have hb := B.bytes
  have hr := B.returns
  have hts := atoms_spec (ws := wsX2_setMeasure) B.pre
  have hown : s.vm.findClass RX2 = some m.cls := findClass_of_methodNamed B.named
  have hlocks := B.notSynchronized
  subst hsz
  have hD := hD0.self (sz := s.heap.size)
  generalize hAe : va_A [(fo, .inr (7, [.int 1, .ref le, .ref mo, .ref os, .ref ps, .int 0, .ref br, .int 0])), (le, .inl (kl, 8, .inl fl)), (mo, .inl (km, 8, .inl fm))] s.heap.size = A at hD ⊢
  have hA : ∀ q : Nat, s.heap.size ≤ q → A q := fun q h => by rw [← hAe]; exact Or.inr h
  have hS : va_S A s.heap s.heap [] := va_S.rf
  have hl := lv_entry ([.ref fo, .int c1, .int c2, .int c3]) (n := 4) (Nat.le_of_ble_eq_true rfl)
  rw [lg_entry_eq]
  generalize (lg_sl ([.ref fo, .int c1, .int c2, .int c3]) ++ List.replicate (4 - (lg_sl ([.ref fo, .int c1, .int c2, .int c3])).length) Slot.unset).toArray = ls at hl ⊢
  have hl : lv_has ls 4 [(0, .ref fo), (1, .int c1), (2, .int c2), (3, .int c3)] := hl
  refine lv_iload_n hx hb dX2_setMeasure_0 rfl (lv_at hl 1 rfl) ?_
  refine lv_if_lt (tgt := 24) hx hb dX2_setMeasure_1 (by decide) (fun c_1 => ?_) (fun c_1 => ?_)
  · skip
    exact W.vret hx hb hr (fun t ht hW => ⟨⟨(), rfl, trivial, trivial⟩, hS.F ht⟩) hS.2.2 dX2_setMeasure_24
  · skip
    refine lv_iload_n hx hb dX2_setMeasure_4 rfl (lv_at hl 1 rfl) ?_
    refine lv_bipush (v := 8) hx hb dX2_setMeasure_5 (by decide) ?_
    refine lv_icmp_ge (tgt := 24) hx hb dX2_setMeasure_7 (by decide) (fun c_2 => ?_) (fun c_2 => ?_)
    · skip
      exact W.vret hx hb hr (fun t ht hW => ⟨⟨(), rfl, trivial, trivial⟩, hS.F ht⟩) hS.2.2 dX2_setMeasure_24
    · skip
      refine lv_aload_n hx hb dX2_setMeasure_10 rfl (lv_at hl 0 rfl) ?_
      refine va_get (D := (dC, dI)) (ci := 7) (v := .ref le) (C := RX2) (T := TX2) (N := 8) hx hb hts (fun _ h9 => List.mem_cons_of_mem _ (List.mem_append_right _ (h9))) hown hK hP 0 rfl rfl 1 (by decide) (hts (.fieldLink RX2 15 "ExamHalls$Form" "least" "[I") (List.mem_of_getElem? (i := 1) rfl)) (fun _ h9 => h9) rfl dX2_setMeasure_11 ?_
      refine lv_iload_n hx hb dX2_setMeasure_14 rfl (lv_at hl 1 rfl) ?_
      refine lv_iload_n hx hb dX2_setMeasure_15 rfl (lv_at hl 2 rfl) ?_
      refine va_iast hx hb hK hP hD hS 1 0 rfl rfl (vin_lt (by decide) c_1 (show ¬ nI 8 ≤ c1 from c_2)) dX2_setMeasure_16 (fun H locs hP hD hS => ?_)
      have hP : va_P (dC, dI) vwCl [(fo, .inr (7, [.int 1, .ref le, .ref mo, .ref os, .ref ps, .int 0, .ref br, .int 0])), (le, .inl (kl, 8, .inl (upd fl (c1 : Int32).toNatClampNeg c2))), (mo, .inl (km, 8, .inl fm))] H := hP
      have hD : va_D A [(fo, .inr (7, [.int 1, .ref le, .ref mo, .ref os, .ref ps, .int 0, .ref br, .int 0])), (le, .inl (kl, 8, .inl (upd fl (c1 : Int32).toNatClampNeg c2))), (mo, .inl (km, 8, .inl fm))] := hD
      generalize (upd fl (c1 : Int32).toNatClampNeg c2) = a_3 at hP hD
      refine lv_aload_n hx hb dX2_setMeasure_17 rfl (lv_at hl 0 rfl) ?_
      refine va_get (D := (dC, dI)) (ci := 7) (v := .ref mo) (C := RX2) (T := TX2) (N := 8) hx hb hts (fun _ h9 => List.mem_cons_of_mem _ (List.mem_append_right _ (h9))) hown hK hP 0 rfl rfl 2 (by decide) (hts (.fieldLink RX2 19 "ExamHalls$Form" "most" "[I") (List.mem_of_getElem? (i := 2) rfl)) (fun _ h9 => h9) rfl dX2_setMeasure_18 ?_
      refine lv_iload_n hx hb dX2_setMeasure_21 rfl (lv_at hl 1 rfl) ?_
      refine lv_iload_n hx hb dX2_setMeasure_22 rfl (lv_at hl 3 rfl) ?_
      refine va_iast hx hb hK hP hD hS 2 1 rfl rfl (vin_lt (by decide) c_1 (show ¬ nI 8 ≤ c1 from c_2)) dX2_setMeasure_23 (fun H locs hP hD hS => ?_)
      have hP : va_P (dC, dI) vwCl [(fo, .inr (7, [.int 1, .ref le, .ref mo, .ref os, .ref ps, .int 0, .ref br, .int 0])), (le, .inl (kl, 8, .inl a_3)), (mo, .inl (km, 8, .inl (upd fm (c1 : Int32).toNatClampNeg c3)))] H := hP
      have hD : va_D A [(fo, .inr (7, [.int 1, .ref le, .ref mo, .ref os, .ref ps, .int 0, .ref br, .int 0])), (le, .inl (kl, 8, .inl a_3)), (mo, .inl (km, 8, .inl (upd fm (c1 : Int32).toNatClampNeg c3)))] := hD
      generalize (upd fm (c1 : Int32).toNatClampNeg c3) = a_4 at hP hD
      exact W.vret hx hb hr (fun t ht hW => ⟨⟨(), rfl, trivial, trivial⟩, hS.F ht⟩) hS.2.2 dX2_setMeasure_24

set_option maxHeartbeats 4000000 in
set_option maxRecDepth 100000 in
theorem c_F_addParallel (l : Launch) (dC : Nat → ClassId) (dI : Nat → Nat → Nat) (fo : Nat) (le : Nat) (mo : Nat) (os : Nat) (ps : Nat) (br : Nat) (ko : ClassId) (kp : ClassId) (c1 : Int32) (c2 : Int32) (sz : Nat) : Met l yX2_addParallel wsX2_addParallel ({ frames := 0, cells := 0, slots := 0, locals := 0 }) (va_Pc [.ref fo, .int c1, .int c2] (PQ dC dI sz [(fo, .inr (7, [.int 1, .ref le, .ref mo, .ref os, .ref ps, .int 0, .ref br, .int 0])), (os, .inl (ko, 6, .inl (fun _ => 0))), (ps, .inl (kp, 6, .inl (fun _ => 0)))] [(ko, .int), (kp, .int)])) (va_Qv (fun _ : Unit => True) (fun _ t => va_P (dC, dI) vwCl [(fo, .inr (7, [.int 1, .ref le, .ref mo, .ref os, .ref ps, .int 1, .ref br, .int 0]))] t.heap ∧ va_K (dC, dI) vwCl [] t ∧ va_D (va_A [(fo, .inr (7, [.int 1, .ref le, .ref mo, .ref os, .ref ps, .int 0, .ref br, .int 0])), (os, .inl (ko, 6, .inl (fun _ => 0))), (ps, .inl (kp, 6, .inl (fun _ => 0)))] sz) [(fo, .inr (7, [.int 1, .ref le, .ref mo, .ref os, .ref ps, .int 1, .ref br, .int 0]))]) (va_A [(fo, .inr (7, [.int 1, .ref le, .ref mo, .ref os, .ref ps, .int 0, .ref br, .int 0])), (os, .inl (ko, 6, .inl (fun _ => 0))), (ps, .inl (kp, 6, .inl (fun _ => 0)))] sz)) 0 0 (va_A [(fo, .inr (7, [.int 1, .ref le, .ref mo, .ref os, .ref ps, .int 0, .ref br, .int 0])), (os, .inl (ko, 6, .inl (fun _ => 0))), (ps, .inl (kp, 6, .inl (fun _ => 0)))] sz) := by
  refine Met.ofW (cc := cX2_addParallel) (maxL := 3) (ret := none) (by decide) rfl ?_
  intro p e s m args below meth c s₁ B hml hv
  obtain ⟨rfl, hsz, hP, hK, hD0, hF⟩ := hv
  have hx := B.exec
  have hb := B.bytes
  have hr := B.returns
  have hts := atoms_spec (ws := wsX2_addParallel) B.pre
  have hown : s.vm.findClass RX2 = some m.cls := findClass_of_methodNamed B.named
  have hlocks := B.notSynchronized
  subst hsz
  have hD := hD0.self (sz := s.heap.size)
  generalize hAe : va_A [(fo, .inr (7, [.int 1, .ref le, .ref mo, .ref os, .ref ps, .int 0, .ref br, .int 0])), (os, .inl (ko, 6, .inl (fun _ => 0))), (ps, .inl (kp, 6, .inl (fun _ => 0)))] s.heap.size = A at hD ⊢
  have hA : ∀ q : Nat, s.heap.size ≤ q → A q := fun q h => by rw [← hAe]; exact Or.inr h
  have hS : va_S A s.heap s.heap [] := va_S.rf
  have hl := lv_entry ([.ref fo, .int c1, .int c2]) (n := 3) (Nat.le_of_ble_eq_true rfl)
  rw [lg_entry_eq]
  generalize (lg_sl ([.ref fo, .int c1, .int c2]) ++ List.replicate (3 - (lg_sl ([.ref fo, .int c1, .int c2])).length) Slot.unset).toArray = ls at hl ⊢
  have hl : lv_has ls 3 [(0, .ref fo), (1, .int c1), (2, .int c2)] := hl
  refine lv_aload_n hx hb dX2_addParallel_0 rfl (lv_at hl 0 rfl) ?_
  refine va_get (D := (dC, dI)) (ci := 7) (v := .int 0) (C := RX2) (T := TX2) (N := 8) hx hb hts (fun _ h9 => List.mem_cons_of_mem _ (List.mem_append_right _ (h9))) hown hK hP 0 rfl rfl 5 (by decide) (hts (.fieldLink RX2 28 "ExamHalls$Form" "parallelCount" "I") (List.mem_of_getElem? (i := 1) rfl)) (fun _ h9 => h9) rfl dX2_addParallel_1 ?_
  refine lv_if_lt (tgt := 46) hx hb dX2_addParallel_4 (by decide) (fun c_1 => absurd c_1 (by decide)) (fun _ => ?_)
  refine lv_aload_n hx hb dX2_addParallel_7 rfl (lv_at hl 0 rfl) ?_
  refine va_get (D := (dC, dI)) (ci := 7) (v := .int 0) (C := RX2) (T := TX2) (N := 8) hx hb hts (fun _ h9 => List.mem_cons_of_mem _ (List.mem_append_right _ (h9))) hown hK hP 0 rfl rfl 5 (by decide) (hts (.fieldLink RX2 28 "ExamHalls$Form" "parallelCount" "I") (List.mem_of_getElem? (i := 1) rfl)) (fun _ h9 => h9) rfl dX2_addParallel_8 ?_
  refine lv_bipush (v := 6) hx hb dX2_addParallel_11 (by decide) ?_
  refine lv_icmp_ge (tgt := 46) hx hb dX2_addParallel_13 (by decide) (fun c_2 => absurd c_2 (by decide)) (fun _ => ?_)
  refine lv_aload_n hx hb dX2_addParallel_16 rfl (lv_at hl 0 rfl) ?_
  refine va_get (D := (dC, dI)) (ci := 7) (v := .ref os) (C := RX2) (T := TX2) (N := 8) hx hb hts (fun _ h9 => List.mem_cons_of_mem _ (List.mem_append_right _ (h9))) hown hK hP 0 rfl rfl 3 (by decide) (hts (.fieldLink RX2 22 "ExamHalls$Form" "oneSides" "[I") (List.mem_of_getElem? (i := 2) rfl)) (fun _ h9 => h9) rfl dX2_addParallel_17 ?_
  refine lv_aload_n hx hb dX2_addParallel_20 rfl (lv_at hl 0 rfl) ?_
  refine va_get (D := (dC, dI)) (ci := 7) (v := .int 0) (C := RX2) (T := TX2) (N := 8) hx hb hts (fun _ h9 => List.mem_cons_of_mem _ (List.mem_append_right _ (h9))) hown hK hP 0 rfl rfl 5 (by decide) (hts (.fieldLink RX2 28 "ExamHalls$Form" "parallelCount" "I") (List.mem_of_getElem? (i := 1) rfl)) (fun _ h9 => h9) rfl dX2_addParallel_21 ?_
  refine lv_iload_n hx hb dX2_addParallel_24 rfl (lv_at hl 1 rfl) ?_
  refine va_iast hx hb hK hP hD hS 1 0 rfl rfl (by unfold vp_in; decide) dX2_addParallel_25 (fun H locs hP hD hS => ?_)
  have hP : va_P (dC, dI) vwCl [(fo, .inr (7, [.int 1, .ref le, .ref mo, .ref os, .ref ps, .int 0, .ref br, .int 0])), (os, .inl (ko, 6, .inl (upd (fun _ => 0) (0 : Int32).toNatClampNeg c1))), (ps, .inl (kp, 6, .inl (fun _ => 0)))] H := hP
  have hD : va_D A [(fo, .inr (7, [.int 1, .ref le, .ref mo, .ref os, .ref ps, .int 0, .ref br, .int 0])), (os, .inl (ko, 6, .inl (upd (fun _ => 0) (0 : Int32).toNatClampNeg c1))), (ps, .inl (kp, 6, .inl (fun _ => 0)))] := hD
  generalize (upd (fun _ => 0) (0 : Int32).toNatClampNeg c1) = a_3 at hP hD
  refine lv_aload_n hx hb dX2_addParallel_26 rfl (lv_at hl 0 rfl) ?_
  refine va_get (D := (dC, dI)) (ci := 7) (v := .ref ps) (C := RX2) (T := TX2) (N := 8) hx hb hts (fun _ h9 => List.mem_cons_of_mem _ (List.mem_append_right _ (h9))) hown hK hP 0 rfl rfl 4 (by decide) (hts (.fieldLink RX2 25 "ExamHalls$Form" "otherSides" "[I") (List.mem_of_getElem? (i := 3) rfl)) (fun _ h9 => h9) rfl dX2_addParallel_27 ?_
  refine lv_aload_n hx hb dX2_addParallel_30 rfl (lv_at hl 0 rfl) ?_
  refine va_get (D := (dC, dI)) (ci := 7) (v := .int 0) (C := RX2) (T := TX2) (N := 8) hx hb hts (fun _ h9 => List.mem_cons_of_mem _ (List.mem_append_right _ (h9))) hown hK hP 0 rfl rfl 5 (by decide) (hts (.fieldLink RX2 28 "ExamHalls$Form" "parallelCount" "I") (List.mem_of_getElem? (i := 1) rfl)) (fun _ h9 => h9) rfl dX2_addParallel_31 ?_
  refine lv_iload_n hx hb dX2_addParallel_34 rfl (lv_at hl 2 rfl) ?_
  refine va_iast hx hb hK hP hD hS 2 1 rfl rfl (by unfold vp_in; decide) dX2_addParallel_35 (fun H locs hP hD hS => ?_)
  have hP : va_P (dC, dI) vwCl [(fo, .inr (7, [.int 1, .ref le, .ref mo, .ref os, .ref ps, .int 0, .ref br, .int 0])), (os, .inl (ko, 6, .inl a_3)), (ps, .inl (kp, 6, .inl (upd (fun _ => 0) (0 : Int32).toNatClampNeg c2)))] H := hP
  have hD : va_D A [(fo, .inr (7, [.int 1, .ref le, .ref mo, .ref os, .ref ps, .int 0, .ref br, .int 0])), (os, .inl (ko, 6, .inl a_3)), (ps, .inl (kp, 6, .inl (upd (fun _ => 0) (0 : Int32).toNatClampNeg c2)))] := hD
  generalize (upd (fun _ => 0) (0 : Int32).toNatClampNeg c2) = a_4 at hP hD
  refine lv_aload_n hx hb dX2_addParallel_36 rfl (lv_at hl 0 rfl) ?_
  refine lv_dup hx hb dX2_addParallel_37 rfl ?_
  refine va_get (D := (dC, dI)) (ci := 7) (v := .int 0) (C := RX2) (T := TX2) (N := 8) hx hb hts (fun _ h9 => List.mem_cons_of_mem _ (List.mem_append_right _ (h9))) hown hK hP 0 rfl rfl 5 (by decide) (hts (.fieldLink RX2 28 "ExamHalls$Form" "parallelCount" "I") (List.mem_of_getElem? (i := 1) rfl)) (fun _ h9 => h9) rfl dX2_addParallel_38 ?_
  refine lv_iconst (v := 1) hx hb dX2_addParallel_41 (by decide) ?_
  refine lv_iadd hx hb dX2_addParallel_42 ?_
  refine lv_topi (fun f_5 ef_5 => ?_)
  obtain rfl : f_5 = 1 := ef_5.trans (by decide)
  refine va_put (D := (dC, dI)) (ci := 7) (v := .int 1) (ty := .int) (C := RX2) (T := TX2) (N := 8) hx hb hts (fun _ h9 => List.mem_cons_of_mem _ (List.mem_append_right _ (h9))) tyX2 tyX2_ok nmX2 hown hK hP hD hS 0 rfl rfl 5 (by decide) (hts (.fieldLink RX2 28 "ExamHalls$Form" "parallelCount" "I") (List.mem_of_getElem? (i := 1) rfl)) (fun _ h9 => h9) rfl (by decide +kernel) rfl rfl (Nat.le_of_ble_eq_true rfl) dX2_addParallel_43 (fun H locs hP hD hS => ?_)
  have hP : va_P (dC, dI) vwCl [(fo, .inr (7, [.int 1, .ref le, .ref mo, .ref os, .ref ps, .int 1, .ref br, .int 0])), (os, .inl (ko, 6, .inl a_3)), (ps, .inl (kp, 6, .inl a_4))] H := hP
  have hD : va_D A [(fo, .inr (7, [.int 1, .ref le, .ref mo, .ref os, .ref ps, .int 1, .ref br, .int 0])), (os, .inl (ko, 6, .inl a_3)), (ps, .inl (kp, 6, .inl a_4))] := hD
  have hP9 := hP.sub (ws' := [(fo, .inr (7, [.int 1, .ref le, .ref mo, .ref os, .ref ps, .int 1, .ref br, .int 0]))]) [0] rfl
  have hD9 := hD.sub (ws' := [(fo, .inr (7, [.int 1, .ref le, .ref mo, .ref os, .ref ps, .int 1, .ref br, .int 0]))]) [0] (by decide) rfl
  have hK9 := hK.sub (tys' := []) [] rfl
  exact W.vret hx hb hr (fun t ht hW => ⟨⟨(), rfl, trivial, by rw [ht]; exact hP9, va_K.moved hW.alike hK9, hD9⟩, hS.F ht⟩) hS.2.2 dX2_addParallel_46

set_option maxHeartbeats 4000000 in
set_option maxRecDepth 100000 in
theorem c_F_isBarred (l : Launch) (dC : Nat → ClassId) (dI : Nat → Nat → Nat) (fo : Nat) (le : Nat) (mo : Nat) (os : Nat) (ps : Nat) (br : Nat) (c1 : Int64) : Met l yX2_isBarred wsX2_isBarred ({ frames := 0, cells := 0, slots := 0, locals := 0 }) (va_Pc [.ref fo, .long c1] (PS dC dI [(fo, .inr (7, [.int 1, .ref le, .ref mo, .ref os, .ref ps, .int 0, .ref br, .int 0]))] [])) (vp_Si (fun r => r = 0)) 0 0 (fun _ => False) := by
  refine Met.ofW (cc := cX2_isBarred) (maxL := 4) (ret := (some .boolean)) (by decide) rfl ?_
  intro p e s m args below meth c s₁ B hml hv
  obtain ⟨rfl, hP, hK, hF⟩ := hv
  have hx := B.exec
  have hb := B.bytes
  have hr := B.returns
  have hts := atoms_spec (ws := wsX2_isBarred) B.pre
  have hown : s.vm.findClass RX2 = some m.cls := findClass_of_methodNamed B.named
  have hlocks := B.notSynchronized
  have hl := lv_entry ([.ref fo, .long c1]) (n := 4) (Nat.le_of_ble_eq_true rfl)
  rw [lg_entry_eq]
  generalize (lg_sl ([.ref fo, .long c1]) ++ List.replicate (4 - (lg_sl ([.ref fo, .long c1])).length) Slot.unset).toArray = ls at hl ⊢
  have hl : lv_has ls 4 [(0, .ref fo), (1, .long c1)] := hl
  refine lv_iconst (v := 0) hx hb dX2_isBarred_0 (by decide) ?_
  refine lv_istore_n (lv' := [(3, .int 0), (0, .ref fo), (1, .long c1)]) hx hb dX2_isBarred_1 rfl hl (by decide) rfl (fun ls hl => ?_)
  refine lv_iload_n hx hb dX2_isBarred_2 rfl (lv_at hl 0 rfl) ?_
  refine lv_aload_n hx hb dX2_isBarred_3 rfl (lv_at hl 1 rfl) ?_
  refine va_get (D := (dC, dI)) (ci := 7) (v := .int 0) (C := RX2) (T := TX2) (N := 8) hx hb hts (fun _ h9 => List.mem_cons_of_mem _ (List.mem_append_right _ (h9))) hown hK hP 0 rfl rfl 7 (by decide) (hts (.fieldLink RX2 35 "ExamHalls$Form" "barredCount" "I") (List.mem_of_getElem? (i := 1) rfl)) (fun _ h9 => h9) rfl dX2_isBarred_4 ?_
  refine lv_icmp_ge (tgt := 29) hx hb dX2_isBarred_7 (by decide) (fun _ => ?_) (fun c_1 => absurd (by decide) c_1)
  refine lv_iconst (v := 0) hx hb dX2_isBarred_29 (by decide) ?_
  exact W.zret (v := 0) hx hb hr (by decide) (fun t ht hW => ⟨_, rfl, rfl, ht⟩) (fun _ h9 => absurd h9 List.not_mem_nil) dX2_isBarred_30

set_option maxHeartbeats 4000000 in
set_option maxRecDepth 100000 in
theorem c_F_addBarred (l : Launch) (dC : Nat → ClassId) (dI : Nat → Nat → Nat) (fo : Nat) (le : Nat) (mo : Nat) (os : Nat) (ps : Nat) (br : Nat) (kb : ClassId) (c1 : Int64) (sz : Nat) : Met l yX2_addBarred wsX2_addBarred ({ frames := 0, cells := 0, slots := 0, locals := 0 }) (va_Pc [.ref fo, .long c1] (PQ dC dI sz [(fo, .inr (7, [.int 1, .ref le, .ref mo, .ref os, .ref ps, .int 0, .ref br, .int 0])), (br, .inl (kb, 8, .inr (.inl (fun _ => 0))))] [(kb, .long)])) (va_Qv (fun _ : Unit => True) (fun _ t => va_P (dC, dI) vwCl [(fo, .inr (7, [.int 1, .ref le, .ref mo, .ref os, .ref ps, .int 0, .ref br, .int 1]))] t.heap ∧ va_K (dC, dI) vwCl [] t ∧ va_D (va_A [(fo, .inr (7, [.int 1, .ref le, .ref mo, .ref os, .ref ps, .int 0, .ref br, .int 0])), (br, .inl (kb, 8, .inr (.inl (fun _ => 0))))] sz) [(fo, .inr (7, [.int 1, .ref le, .ref mo, .ref os, .ref ps, .int 0, .ref br, .int 1]))]) (va_A [(fo, .inr (7, [.int 1, .ref le, .ref mo, .ref os, .ref ps, .int 0, .ref br, .int 0])), (br, .inl (kb, 8, .inr (.inl (fun _ => 0))))] sz)) 0 0 (va_A [(fo, .inr (7, [.int 1, .ref le, .ref mo, .ref os, .ref ps, .int 0, .ref br, .int 0])), (br, .inl (kb, 8, .inr (.inl (fun _ => 0))))] sz) := by
  refine Met.ofW (cc := cX2_addBarred) (maxL := 3) (ret := none) (by decide) rfl ?_
  intro p e s m args below meth c s₁ B hml hv
  obtain ⟨rfl, hsz, hP, hK, hD0, hF⟩ := hv
  have hx := B.exec
  have hb := B.bytes
  have hr := B.returns
  have hts := atoms_spec (ws := wsX2_addBarred) B.pre
  have hown : s.vm.findClass RX2 = some m.cls := findClass_of_methodNamed B.named
  have hlocks := B.notSynchronized
  subst hsz
  have hD := hD0.self (sz := s.heap.size)
  generalize hAe : va_A [(fo, .inr (7, [.int 1, .ref le, .ref mo, .ref os, .ref ps, .int 0, .ref br, .int 0])), (br, .inl (kb, 8, .inr (.inl (fun _ => 0))))] s.heap.size = A at hD ⊢
  have hA : ∀ q : Nat, s.heap.size ≤ q → A q := fun q h => by rw [← hAe]; exact Or.inr h
  have hS : va_S A s.heap s.heap [] := va_S.rf
  have hl := lv_entry ([.ref fo, .long c1]) (n := 3) (Nat.le_of_ble_eq_true rfl)
  rw [lg_entry_eq]
  generalize (lg_sl ([.ref fo, .long c1]) ++ List.replicate (3 - (lg_sl ([.ref fo, .long c1])).length) Slot.unset).toArray = ls at hl ⊢
  have hl : lv_has ls 3 [(0, .ref fo), (1, .long c1)] := hl
  refine lv_aload_n hx hb dX2_addBarred_0 rfl (lv_at hl 0 rfl) ?_
  refine va_get (D := (dC, dI)) (ci := 7) (v := .int 0) (C := RX2) (T := TX2) (N := 8) hx hb hts (fun _ h9 => List.mem_cons_of_mem _ (List.mem_append_right _ (h9))) hown hK hP 0 rfl rfl 7 (by decide) (hts (.fieldLink RX2 35 "ExamHalls$Form" "barredCount" "I") (List.mem_of_getElem? (i := 1) rfl)) (fun _ h9 => h9) rfl dX2_addBarred_1 ?_
  refine lv_if_lt (tgt := 36) hx hb dX2_addBarred_4 (by decide) (fun c_1 => absurd c_1 (by decide)) (fun _ => ?_)
  refine lv_aload_n hx hb dX2_addBarred_7 rfl (lv_at hl 0 rfl) ?_
  refine va_get (D := (dC, dI)) (ci := 7) (v := .int 0) (C := RX2) (T := TX2) (N := 8) hx hb hts (fun _ h9 => List.mem_cons_of_mem _ (List.mem_append_right _ (h9))) hown hK hP 0 rfl rfl 7 (by decide) (hts (.fieldLink RX2 35 "ExamHalls$Form" "barredCount" "I") (List.mem_of_getElem? (i := 1) rfl)) (fun _ h9 => h9) rfl dX2_addBarred_8 ?_
  refine lv_bipush (v := 8) hx hb dX2_addBarred_11 (by decide) ?_
  refine lv_icmp_ge (tgt := 36) hx hb dX2_addBarred_13 (by decide) (fun c_2 => absurd c_2 (by decide)) (fun _ => ?_)
  refine lv_aload_n hx hb dX2_addBarred_16 rfl (lv_at hl 0 rfl) ?_
  refine va_get (D := (dC, dI)) (ci := 7) (v := .ref br) (C := RX2) (T := TX2) (N := 8) hx hb hts (fun _ h9 => List.mem_cons_of_mem _ (List.mem_append_right _ (h9))) hown hK hP 0 rfl rfl 6 (by decide) (hts (.fieldLink RX2 31 "ExamHalls$Form" "barred" "[J") (List.mem_of_getElem? (i := 2) rfl)) (fun _ h9 => h9) rfl dX2_addBarred_17 ?_
  refine lv_aload_n hx hb dX2_addBarred_20 rfl (lv_at hl 0 rfl) ?_
  refine va_get (D := (dC, dI)) (ci := 7) (v := .int 0) (C := RX2) (T := TX2) (N := 8) hx hb hts (fun _ h9 => List.mem_cons_of_mem _ (List.mem_append_right _ (h9))) hown hK hP 0 rfl rfl 7 (by decide) (hts (.fieldLink RX2 35 "ExamHalls$Form" "barredCount" "I") (List.mem_of_getElem? (i := 1) rfl)) (fun _ h9 => h9) rfl dX2_addBarred_21 ?_
  refine lv_lload_n hx hb dX2_addBarred_24 rfl (lv_at hl 1 rfl) ?_
  refine va_last hx hb hK hP hD hS 1 0 rfl rfl (by unfold vp_in; decide) dX2_addBarred_25 (fun H locs hP hD hS => ?_)
  have hP : va_P (dC, dI) vwCl [(fo, .inr (7, [.int 1, .ref le, .ref mo, .ref os, .ref ps, .int 0, .ref br, .int 0])), (br, .inl (kb, 8, .inr (.inl (vp_updL (fun _ => 0) (0 : Int32).toNatClampNeg c1))))] H := hP
  have hD : va_D A [(fo, .inr (7, [.int 1, .ref le, .ref mo, .ref os, .ref ps, .int 0, .ref br, .int 0])), (br, .inl (kb, 8, .inr (.inl (vp_updL (fun _ => 0) (0 : Int32).toNatClampNeg c1))))] := hD
  generalize (vp_updL (fun _ => 0) (0 : Int32).toNatClampNeg c1) = a_3 at hP hD
  refine lv_aload_n hx hb dX2_addBarred_26 rfl (lv_at hl 0 rfl) ?_
  refine lv_dup hx hb dX2_addBarred_27 rfl ?_
  refine va_get (D := (dC, dI)) (ci := 7) (v := .int 0) (C := RX2) (T := TX2) (N := 8) hx hb hts (fun _ h9 => List.mem_cons_of_mem _ (List.mem_append_right _ (h9))) hown hK hP 0 rfl rfl 7 (by decide) (hts (.fieldLink RX2 35 "ExamHalls$Form" "barredCount" "I") (List.mem_of_getElem? (i := 1) rfl)) (fun _ h9 => h9) rfl dX2_addBarred_28 ?_
  refine lv_iconst (v := 1) hx hb dX2_addBarred_31 (by decide) ?_
  refine lv_iadd hx hb dX2_addBarred_32 ?_
  refine lv_topi (fun f_4 ef_4 => ?_)
  obtain rfl : f_4 = 1 := ef_4.trans (by decide)
  refine va_put (D := (dC, dI)) (ci := 7) (v := .int 1) (ty := .int) (C := RX2) (T := TX2) (N := 8) hx hb hts (fun _ h9 => List.mem_cons_of_mem _ (List.mem_append_right _ (h9))) tyX2 tyX2_ok nmX2 hown hK hP hD hS 0 rfl rfl 7 (by decide) (hts (.fieldLink RX2 35 "ExamHalls$Form" "barredCount" "I") (List.mem_of_getElem? (i := 1) rfl)) (fun _ h9 => h9) rfl (by decide +kernel) rfl rfl (Nat.le_of_ble_eq_true rfl) dX2_addBarred_33 (fun H locs hP hD hS => ?_)
  have hP : va_P (dC, dI) vwCl [(fo, .inr (7, [.int 1, .ref le, .ref mo, .ref os, .ref ps, .int 0, .ref br, .int 1])), (br, .inl (kb, 8, .inr (.inl a_3)))] H := hP
  have hD : va_D A [(fo, .inr (7, [.int 1, .ref le, .ref mo, .ref os, .ref ps, .int 0, .ref br, .int 1])), (br, .inl (kb, 8, .inr (.inl a_3)))] := hD
  have hP9 := hP.sub (ws' := [(fo, .inr (7, [.int 1, .ref le, .ref mo, .ref os, .ref ps, .int 0, .ref br, .int 1]))]) [0] rfl
  have hD9 := hD.sub (ws' := [(fo, .inr (7, [.int 1, .ref le, .ref mo, .ref os, .ref ps, .int 0, .ref br, .int 1]))]) [0] (by decide) rfl
  have hK9 := hK.sub (tys' := []) [] rfl
  exact W.vret hx hb hr (fun t ht hW => ⟨⟨(), rfl, trivial, by rw [ht]; exact hP9, va_K.moved hW.alike hK9, hD9⟩, hS.F ht⟩) hS.2.2 dX2_addBarred_36

def sp_X_measure (c1 : Int32) (c2 : Int32) (c3 : Int32) : Int32 := if (sp_X_isWithin c1 0 7) = 0 then (-1) else if (sp_X_isWithin c2 1 12) = 0 then (-2) else if (sp_X_isWithin c3 c2 12) = 0 then (-2) else 0
set_option maxHeartbeats 4000000 in
set_option maxRecDepth 100000 in
theorem c_X_measure (l : Launch) (dC : Nat → ClassId) (dI : Nat → Nat → Nat) (x : Nat) (cd : Nat) (rd : Nat) (tp : Nat) (fo : Nat) (qu : Nat) (sh : Nat) (vs : Nat) (pa : Nat) (pb : Nat) (le : Nat) (mo : Nat) (os : Nat) (ps : Nat) (br : Nat) (kl : ClassId) (km : ClassId) (fl : Nat → Int32) (fm : Nat → Int32) (c1 : Int32) (c2 : Int32) (c3 : Int32) (sz : Nat) : Met l yX5_measure wsX5_measure ({ frames := 1, cells := 0, slots := 0, locals := 23 }) (va_Pc [.ref x, .int c1, .int c2, .int c3] (PQ dC dI sz [(x, .inr (10, [.ref cd, .int 0, .ref rd, .int 0, .ref tp, .ref fo, .int 10, .ref qu, .int 0, .int 0, .ref sh, .ref vs, .ref pa, .ref pb])), (fo, .inr (7, [.int 1, .ref le, .ref mo, .ref os, .ref ps, .int 0, .ref br, .int 0])), (le, .inl (kl, 8, .inl fl)), (mo, .inl (km, 8, .inl fm))] [(kl, .int), (km, .int)])) (va_Qi (fun r (_ : Unit) => r = sp_X_measure c1 c2 c3) (fun _ _ => True) (va_A [(x, .inr (10, [.ref cd, .int 0, .ref rd, .int 0, .ref tp, .ref fo, .int 10, .ref qu, .int 0, .int 0, .ref sh, .ref vs, .ref pa, .ref pb])), (fo, .inr (7, [.int 1, .ref le, .ref mo, .ref os, .ref ps, .int 0, .ref br, .int 0])), (le, .inl (kl, 8, .inl fl)), (mo, .inl (km, 8, .inl fm))] sz)) 0 0 (va_A [(x, .inr (10, [.ref cd, .int 0, .ref rd, .int 0, .ref tp, .ref fo, .int 10, .ref qu, .int 0, .int 0, .ref sh, .ref vs, .ref pa, .ref pb])), (fo, .inr (7, [.int 1, .ref le, .ref mo, .ref os, .ref ps, .int 0, .ref br, .int 0])), (le, .inl (kl, 8, .inl fl)), (mo, .inl (km, 8, .inl fm))] sz) := by
  refine Met.ofW (cc := cX5_measure) (maxL := 4) (ret := (some .int)) (by decide) rfl ?_
  intro p e s m args below meth c s₁ B hml hv
  obtain ⟨rfl, hsz, hP, hK, hD0, hF⟩ := hv
  have hx := B.exec
  have hb := B.bytes
  have hr := B.returns
  have hts := atoms_spec (ws := wsX5_measure) B.pre
  have hown : s.vm.findClass RX5 = some m.cls := findClass_of_methodNamed B.named
  have hlocks := B.notSynchronized
  subst hsz
  have hD := hD0.self (sz := s.heap.size)
  generalize hAe : va_A [(x, .inr (10, [.ref cd, .int 0, .ref rd, .int 0, .ref tp, .ref fo, .int 10, .ref qu, .int 0, .int 0, .ref sh, .ref vs, .ref pa, .ref pb])), (fo, .inr (7, [.int 1, .ref le, .ref mo, .ref os, .ref ps, .int 0, .ref br, .int 0])), (le, .inl (kl, 8, .inl fl)), (mo, .inl (km, 8, .inl fm))] s.heap.size = A at hD ⊢
  have hA : ∀ q : Nat, s.heap.size ≤ q → A q := fun q h => by rw [← hAe]; exact Or.inr h
  have hS : va_S A s.heap s.heap [] := va_S.rf
  have hl := lv_entry ([.ref x, .int c1, .int c2, .int c3]) (n := 4) (Nat.le_of_ble_eq_true rfl)
  rw [lg_entry_eq]
  generalize (lg_sl ([.ref x, .int c1, .int c2, .int c3]) ++ List.replicate (4 - (lg_sl ([.ref x, .int c1, .int c2, .int c3])).length) Slot.unset).toArray = ls at hl ⊢
  have hl : lv_has ls 4 [(0, .ref x), (1, .int c1), (2, .int c2), (3, .int c3)] := hl
  refine lv_iload_n hx hb dX5_measure_0 rfl (lv_at hl 1 rfl) ?_
  refine lv_iconst (v := 0) hx hb dX5_measure_1 (by decide) ?_
  refine lv_bipush (v := 7) hx hb dX5_measure_2 (by decide) ?_
  refine vp_callSi (va_Run.run (va_runS (As := [.int c1, .int 0, .int 7]) (rest := []) ⟨hx, hb, hml, hown, hts⟩ (c_X_isWithin l dC dI c1 0 7) (va_cwS 3 hts gX5_measure_X5_isWithin rfl rfl rfl (by decide +kernel) ⟨Nat.le_of_ble_eq_true rfl, Nat.le_of_ble_eq_true rfl⟩) ⟨PS_blind, PS_pre (hP.sub (ws' := []) [] rfl) (hK.sub (tys' := []) [] rfl) hF⟩ rfl rfl hl.1 rfl (lv_room (Nat.le_of_ble_eq_true rfl)) dX5_measure_4 ⟨Nat.le_of_ble_eq_true rfl, Nat.le_of_ble_eq_true rfl⟩)) (fun r_1 hr_1 => ?_)
  subst hr_1
  refine lv_if_ne (tgt := 12) hx hb dX5_measure_7 (by decide) (fun c_2 => ?_) (fun c_2 => ?_)
  · skip
    refine lv_iload_n hx hb dX5_measure_12 rfl (lv_at hl 2 rfl) ?_
    refine lv_iconst (v := 1) hx hb dX5_measure_13 (by decide) ?_
    refine lv_bipush (v := 12) hx hb dX5_measure_14 (by decide) ?_
    refine vp_callSi (va_Run.run (va_runS (As := [.int c2, .int 1, .int 12]) (rest := []) ⟨hx, hb, hml, hown, hts⟩ (c_X_isWithin l dC dI c2 1 12) (va_cwS 3 hts gX5_measure_X5_isWithin rfl rfl rfl (by decide +kernel) ⟨Nat.le_of_ble_eq_true rfl, Nat.le_of_ble_eq_true rfl⟩) ⟨PS_blind, PS_pre (hP.sub (ws' := []) [] rfl) (hK.sub (tys' := []) [] rfl) hF⟩ rfl rfl hl.1 rfl (lv_room (Nat.le_of_ble_eq_true rfl)) dX5_measure_16 ⟨Nat.le_of_ble_eq_true rfl, Nat.le_of_ble_eq_true rfl⟩)) (fun r_3 hr_3 => ?_)
    subst hr_3
    refine lv_if_eq (tgt := 32) hx hb dX5_measure_19 (by decide) (fun c_4 => ?_) (fun c_4 => ?_)
    · skip
      refine lv_bipush (v := (-2)) hx hb dX5_measure_32 (by decide) ?_
      exact W.iret (v := (-2)) hx hb hr (fun t ht hW => ⟨⟨_, (), rfl, (by simp only [sp_X_measure, if_neg c_2, if_pos c_4]), trivial⟩, hS.F ht⟩) hS.2.2 dX5_measure_34
    · skip
      refine lv_iload_n hx hb dX5_measure_22 rfl (lv_at hl 3 rfl) ?_
      refine lv_iload_n hx hb dX5_measure_23 rfl (lv_at hl 2 rfl) ?_
      refine lv_bipush (v := 12) hx hb dX5_measure_24 (by decide) ?_
      refine vp_callSi (va_Run.run (va_runS (As := [.int c3, .int c2, .int 12]) (rest := []) ⟨hx, hb, hml, hown, hts⟩ (c_X_isWithin l dC dI c3 c2 12) (va_cwS 3 hts gX5_measure_X5_isWithin rfl rfl rfl (by decide +kernel) ⟨Nat.le_of_ble_eq_true rfl, Nat.le_of_ble_eq_true rfl⟩) ⟨PS_blind, PS_pre (hP.sub (ws' := []) [] rfl) (hK.sub (tys' := []) [] rfl) hF⟩ rfl rfl hl.1 rfl (lv_room (Nat.le_of_ble_eq_true rfl)) dX5_measure_26 ⟨Nat.le_of_ble_eq_true rfl, Nat.le_of_ble_eq_true rfl⟩)) (fun r_5 hr_5 => ?_)
      subst hr_5
      refine lv_if_ne (tgt := 35) hx hb dX5_measure_29 (by decide) (fun c_6 => ?_) (fun c_6 => ?_)
      · skip
        refine lv_aload_n hx hb dX5_measure_35 rfl (lv_at hl 0 rfl) ?_
        refine va_get (D := (dC, dI)) (ci := 10) (v := .ref fo) (C := RX5) (T := TX5) (N := 14) hx hb hts (fun _ h9 => List.mem_cons_of_mem _ (List.mem_append_left _ (List.mem_append_right _ (h9)))) hown hK hP 0 rfl rfl 5 (by decide) (hts (.fieldLink RX5 38 "ExamHalls" "form" "LExamHalls$Form;") (List.mem_of_getElem? (i := 1) rfl)) (fun _ h9 => h9) rfl dX5_measure_36 ?_
        refine lv_iload_n hx hb dX5_measure_39 rfl (lv_at hl 1 rfl) ?_
        refine lv_iload_n hx hb dX5_measure_40 rfl (lv_at hl 2 rfl) ?_
        refine lv_iload_n hx hb dX5_measure_41 rfl (lv_at hl 3 rfl) ?_
        have hPc := hP.sub (ws' := [(fo, .inr (7, [.int 1, .ref le, .ref mo, .ref os, .ref ps, .int 0, .ref br, .int 0])), (le, .inl (kl, 8, .inl fl)), (mo, .inl (km, 8, .inl fm))]) [1, 2, 3] rfl
        have hDc := hD.sub (ws' := [(fo, .inr (7, [.int 1, .ref le, .ref mo, .ref os, .ref ps, .int 0, .ref br, .int 0])), (le, .inl (kl, 8, .inl fl)), (mo, .inl (km, 8, .inl fm))]) [1, 2, 3] (by decide) rfl
        have hKc := hK.sub (tys' := [(kl, .int), (km, .int)]) [0, 1] rfl
        have hFc := va_free (wc := [(fo, .inr (7, [.int 1, .ref le, .ref mo, .ref os, .ref ps, .int 0, .ref br, .int 0])), (le, .inl (kl, 8, .inl fl)), (mo, .inl (km, 8, .inl fm))]) hD hS hA [1, 2, 3] rfl
        refine va_callv (va_runVN (As := [.int c1, .int c2, .int c3]) (rest := []) ⟨hx, hb, hml, hown, hts⟩ (c_F_setMeasure l dC dI fo le mo os ps br kl km fl fm c1 c2 c3 s.heap.size) ⟨va_cnB 3 hts gX5_measure_X2_setMeasure_n130 rfl rfl rfl (Ft.nm hF (RX5, 130, yX2_setMeasure, RX5) (by decide +kernel)) (hts (.initialized RX2) (List.mem_of_getElem? (i := 7) rfl)) (by decide +kernel) ⟨Nat.le_of_ble_eq_true rfl, Nat.le_of_ble_eq_true rfl⟩, (hts (.instanceMethod yX2_setMeasure) (List.mem_of_getElem? (i := 6) rfl)), (hts (.selects RX2 yX2_setMeasure yX2_setMeasure) (List.mem_of_getElem? (i := 8) rfl))⟩ ⟨PQ_blind, va_recv hK hP (ci := 7) (q0 := 1) rfl rfl, PQ_pre hPc hKc hDc hF⟩ rfl rfl hl.1 rfl (lv_room (Nat.le_of_ble_eq_true rfl)) dX5_measure_42 ⟨Nat.le_of_ble_eq_true rfl, Nat.le_of_ble_eq_true rfl⟩) hS (fun q _ h => hFc q h) hFc (fun u t H1 locs ht hvm hw hB hz1 hk1 hS => ?_)
        have hP1 : va_P (dC, dI) vwCl [] H1 := fun k q h => by simp at h
        have hD1 : va_D (va_A [(fo, .inr (7, [.int 1, .ref le, .ref mo, .ref os, .ref ps, .int 0, .ref br, .int 0])), (le, .inl (kl, 8, .inl fl)), (mo, .inl (km, 8, .inl fm))] s.heap.size) [] := ⟨fun i j p q h => by simp at h, fun k q h => by simp at h⟩
        obtain ⟨hP, hD⟩ := va_join (wr := [(x, .inr (10, [.ref cd, .int 0, .ref rd, .int 0, .ref tp, .ref fo, .int 10, .ref qu, .int 0, .int 0, .ref sh, .ref vs, .ref pa, .ref pb]))]) (w1 := []) hP hD [1, 2, 3] [0] rfl rfl (by decide) (by decide) hk1 hFc hP1 hD1
        generalize H1 = H at hP hS ⊢
        have hP : va_P (dC, dI) vwCl [(x, .inr (10, [.ref cd, .int 0, .ref rd, .int 0, .ref tp, .ref fo, .int 10, .ref qu, .int 0, .int 0, .ref sh, .ref vs, .ref pa, .ref pb]))] H := hP
        have hD : va_D A [(x, .inr (10, [.ref cd, .int 0, .ref rd, .int 0, .ref tp, .ref fo, .int 10, .ref qu, .int 0, .int 0, .ref sh, .ref vs, .ref pa, .ref pb]))] := hD
        have hK : va_K (dC, dI) vwCl [(kl, .int), (km, .int)] s := hK
        refine W.widen (k := 0) (n := 0) (Nat.le_of_ble_eq_true rfl) (Nat.le_of_ble_eq_true rfl) ?_
        refine lv_iconst (v := 0) hx hb dX5_measure_45 (by decide) ?_
        exact W.iret (v := 0) hx hb hr (fun t ht hW => ⟨⟨_, (), rfl, (by simp only [sp_X_measure, if_neg c_2, if_neg c_4, if_neg c_6]), trivial⟩, hS.F ht⟩) hS.2.2 dX5_measure_46
      · skip
        refine lv_bipush (v := (-2)) hx hb dX5_measure_32 (by decide) ?_
        exact W.iret (v := (-2)) hx hb hr (fun t ht hW => ⟨⟨_, (), rfl, (by simp only [sp_X_measure, if_neg c_2, if_neg c_4, if_pos c_6]), trivial⟩, hS.F ht⟩) hS.2.2 dX5_measure_34
  · skip
    refine lv_iconst (v := (-1)) hx hb dX5_measure_10 (by decide) ?_
    exact W.iret (v := (-1)) hx hb hr (fun t ht hW => ⟨⟨_, (), rfl, (by simp only [sp_X_measure, if_pos c_2]), trivial⟩, hS.F ht⟩) hS.2.2 dX5_measure_11

def sp_X_parallel (c1 : Int32) (c2 : Int32) : Int32 := if (sp_X_isWithin c1 0 7) = 0 then (-1) else if (sp_X_isWithin c2 0 7) = 0 then (-1) else if c1 = c2 then (-2) else 0
set_option maxHeartbeats 4000000 in
set_option maxRecDepth 100000 in
theorem c_X_parallel (l : Launch) (dC : Nat → ClassId) (dI : Nat → Nat → Nat) (x : Nat) (cd : Nat) (rd : Nat) (tp : Nat) (fo : Nat) (qu : Nat) (sh : Nat) (vs : Nat) (pa : Nat) (pb : Nat) (le : Nat) (mo : Nat) (os : Nat) (ps : Nat) (br : Nat) (ko : ClassId) (kp : ClassId) (c1 : Int32) (c2 : Int32) (sz : Nat) : Met l yX5_parallel wsX5_parallel ({ frames := 1, cells := 0, slots := 0, locals := 22 }) (va_Pc [.ref x, .int c1, .int c2] (PQ dC dI sz [(x, .inr (10, [.ref cd, .int 0, .ref rd, .int 0, .ref tp, .ref fo, .int 10, .ref qu, .int 0, .int 0, .ref sh, .ref vs, .ref pa, .ref pb])), (fo, .inr (7, [.int 1, .ref le, .ref mo, .ref os, .ref ps, .int 0, .ref br, .int 0])), (os, .inl (ko, 6, .inl (fun _ => 0))), (ps, .inl (kp, 6, .inl (fun _ => 0)))] [(ko, .int), (kp, .int)])) (va_Qi (fun r (_ : Unit) => r = sp_X_parallel c1 c2) (fun _ _ => True) (va_A [(x, .inr (10, [.ref cd, .int 0, .ref rd, .int 0, .ref tp, .ref fo, .int 10, .ref qu, .int 0, .int 0, .ref sh, .ref vs, .ref pa, .ref pb])), (fo, .inr (7, [.int 1, .ref le, .ref mo, .ref os, .ref ps, .int 0, .ref br, .int 0])), (os, .inl (ko, 6, .inl (fun _ => 0))), (ps, .inl (kp, 6, .inl (fun _ => 0)))] sz)) 0 0 (va_A [(x, .inr (10, [.ref cd, .int 0, .ref rd, .int 0, .ref tp, .ref fo, .int 10, .ref qu, .int 0, .int 0, .ref sh, .ref vs, .ref pa, .ref pb])), (fo, .inr (7, [.int 1, .ref le, .ref mo, .ref os, .ref ps, .int 0, .ref br, .int 0])), (os, .inl (ko, 6, .inl (fun _ => 0))), (ps, .inl (kp, 6, .inl (fun _ => 0)))] sz) := by
  refine Met.ofW (cc := cX5_parallel) (maxL := 3) (ret := (some .int)) (by decide) rfl ?_
  intro p e s m args below meth c s₁ B hml hv
  obtain ⟨rfl, hsz, hP, hK, hD0, hF⟩ := hv
  have hx := B.exec
  have hb := B.bytes
  have hr := B.returns
  have hts := atoms_spec (ws := wsX5_parallel) B.pre
  have hown : s.vm.findClass RX5 = some m.cls := findClass_of_methodNamed B.named
  have hlocks := B.notSynchronized
  subst hsz
  have hD := hD0.self (sz := s.heap.size)
  generalize hAe : va_A [(x, .inr (10, [.ref cd, .int 0, .ref rd, .int 0, .ref tp, .ref fo, .int 10, .ref qu, .int 0, .int 0, .ref sh, .ref vs, .ref pa, .ref pb])), (fo, .inr (7, [.int 1, .ref le, .ref mo, .ref os, .ref ps, .int 0, .ref br, .int 0])), (os, .inl (ko, 6, .inl (fun _ => 0))), (ps, .inl (kp, 6, .inl (fun _ => 0)))] s.heap.size = A at hD ⊢
  have hA : ∀ q : Nat, s.heap.size ≤ q → A q := fun q h => by rw [← hAe]; exact Or.inr h
  have hS : va_S A s.heap s.heap [] := va_S.rf
  have hl := lv_entry ([.ref x, .int c1, .int c2]) (n := 3) (Nat.le_of_ble_eq_true rfl)
  rw [lg_entry_eq]
  generalize (lg_sl ([.ref x, .int c1, .int c2]) ++ List.replicate (3 - (lg_sl ([.ref x, .int c1, .int c2])).length) Slot.unset).toArray = ls at hl ⊢
  have hl : lv_has ls 3 [(0, .ref x), (1, .int c1), (2, .int c2)] := hl
  refine lv_iload_n hx hb dX5_parallel_0 rfl (lv_at hl 1 rfl) ?_
  refine lv_iconst (v := 0) hx hb dX5_parallel_1 (by decide) ?_
  refine lv_bipush (v := 7) hx hb dX5_parallel_2 (by decide) ?_
  refine vp_callSi (va_Run.run (va_runS (As := [.int c1, .int 0, .int 7]) (rest := []) ⟨hx, hb, hml, hown, hts⟩ (c_X_isWithin l dC dI c1 0 7) (va_cwS 3 hts gX5_parallel_X5_isWithin rfl rfl rfl (by decide +kernel) ⟨Nat.le_of_ble_eq_true rfl, Nat.le_of_ble_eq_true rfl⟩) ⟨PS_blind, PS_pre (hP.sub (ws' := []) [] rfl) (hK.sub (tys' := []) [] rfl) hF⟩ rfl rfl hl.1 rfl (lv_room (Nat.le_of_ble_eq_true rfl)) dX5_parallel_4 ⟨Nat.le_of_ble_eq_true rfl, Nat.le_of_ble_eq_true rfl⟩)) (fun r_1 hr_1 => ?_)
  subst hr_1
  refine lv_if_eq (tgt := 20) hx hb dX5_parallel_7 (by decide) (fun c_2 => ?_) (fun c_2 => ?_)
  · skip
    refine lv_iconst (v := (-1)) hx hb dX5_parallel_20 (by decide) ?_
    exact W.iret (v := (-1)) hx hb hr (fun t ht hW => ⟨⟨_, (), rfl, (by simp only [sp_X_parallel, if_pos c_2]), trivial⟩, hS.F ht⟩) hS.2.2 dX5_parallel_21
  · skip
    refine lv_iload_n hx hb dX5_parallel_10 rfl (lv_at hl 2 rfl) ?_
    refine lv_iconst (v := 0) hx hb dX5_parallel_11 (by decide) ?_
    refine lv_bipush (v := 7) hx hb dX5_parallel_12 (by decide) ?_
    refine vp_callSi (va_Run.run (va_runS (As := [.int c2, .int 0, .int 7]) (rest := []) ⟨hx, hb, hml, hown, hts⟩ (c_X_isWithin l dC dI c2 0 7) (va_cwS 3 hts gX5_parallel_X5_isWithin rfl rfl rfl (by decide +kernel) ⟨Nat.le_of_ble_eq_true rfl, Nat.le_of_ble_eq_true rfl⟩) ⟨PS_blind, PS_pre (hP.sub (ws' := []) [] rfl) (hK.sub (tys' := []) [] rfl) hF⟩ rfl rfl hl.1 rfl (lv_room (Nat.le_of_ble_eq_true rfl)) dX5_parallel_14 ⟨Nat.le_of_ble_eq_true rfl, Nat.le_of_ble_eq_true rfl⟩)) (fun r_3 hr_3 => ?_)
    subst hr_3
    refine lv_if_ne (tgt := 22) hx hb dX5_parallel_17 (by decide) (fun c_4 => ?_) (fun c_4 => ?_)
    · skip
      refine lv_iload_n hx hb dX5_parallel_22 rfl (lv_at hl 1 rfl) ?_
      refine lv_iload_n hx hb dX5_parallel_23 rfl (lv_at hl 2 rfl) ?_
      refine lv_icmp_ne (tgt := 30) hx hb dX5_parallel_24 (by decide) (fun c_5 => ?_) (fun c_5 => ?_)
      · skip
        refine lv_aload_n hx hb dX5_parallel_30 rfl (lv_at hl 0 rfl) ?_
        refine va_get (D := (dC, dI)) (ci := 10) (v := .ref fo) (C := RX5) (T := TX5) (N := 14) hx hb hts (fun _ h9 => List.mem_cons_of_mem _ (List.mem_append_left _ (List.mem_append_right _ (h9)))) hown hK hP 0 rfl rfl 5 (by decide) (hts (.fieldLink RX5 38 "ExamHalls" "form" "LExamHalls$Form;") (List.mem_of_getElem? (i := 1) rfl)) (fun _ h9 => h9) rfl dX5_parallel_31 ?_
        refine va_getN (D := (dC, dI)) (ci := 7) (v := .int 0) (C := RX2) (T := TX2) (N := 8) hx hb hts (fun _ h9 => List.mem_cons_of_mem _ (List.mem_append_right _ (h9))) hown hK hP 1 rfl rfl 5 (by decide) (Ft.nf hF (RX5, 134, "ExamHalls$Form", "parallelCount", "I", RX5) (by decide +kernel)) (fun _ h9 => h9) rfl dX5_parallel_34 ?_
        refine lv_bipush (v := 6) hx hb dX5_parallel_37 (by decide) ?_
        refine lv_icmp_lt (tgt := 45) hx hb dX5_parallel_39 (by decide) (fun _ => ?_) (fun c_6 => absurd (by decide) c_6)
        refine lv_aload_n hx hb dX5_parallel_45 rfl (lv_at hl 0 rfl) ?_
        refine va_get (D := (dC, dI)) (ci := 10) (v := .ref fo) (C := RX5) (T := TX5) (N := 14) hx hb hts (fun _ h9 => List.mem_cons_of_mem _ (List.mem_append_left _ (List.mem_append_right _ (h9)))) hown hK hP 0 rfl rfl 5 (by decide) (hts (.fieldLink RX5 38 "ExamHalls" "form" "LExamHalls$Form;") (List.mem_of_getElem? (i := 1) rfl)) (fun _ h9 => h9) rfl dX5_parallel_46 ?_
        refine lv_iload_n hx hb dX5_parallel_49 rfl (lv_at hl 1 rfl) ?_
        refine lv_iload_n hx hb dX5_parallel_50 rfl (lv_at hl 2 rfl) ?_
        have hPc := hP.sub (ws' := [(fo, .inr (7, [.int 1, .ref le, .ref mo, .ref os, .ref ps, .int 0, .ref br, .int 0])), (os, .inl (ko, 6, .inl (fun _ => 0))), (ps, .inl (kp, 6, .inl (fun _ => 0)))]) [1, 2, 3] rfl
        have hDc := hD.sub (ws' := [(fo, .inr (7, [.int 1, .ref le, .ref mo, .ref os, .ref ps, .int 0, .ref br, .int 0])), (os, .inl (ko, 6, .inl (fun _ => 0))), (ps, .inl (kp, 6, .inl (fun _ => 0)))]) [1, 2, 3] (by decide) rfl
        have hKc := hK.sub (tys' := [(ko, .int), (kp, .int)]) [0, 1] rfl
        have hFc := va_free (wc := [(fo, .inr (7, [.int 1, .ref le, .ref mo, .ref os, .ref ps, .int 0, .ref br, .int 0])), (os, .inl (ko, 6, .inl (fun _ => 0))), (ps, .inl (kp, 6, .inl (fun _ => 0)))]) hD hS hA [1, 2, 3] rfl
        refine va_callv (va_runVN (As := [.int c1, .int c2]) (rest := []) ⟨hx, hb, hml, hown, hts⟩ (c_F_addParallel l dC dI fo le mo os ps br ko kp c1 c2 s.heap.size) ⟨va_cnB 2 hts gX5_parallel_X2_addParallel_n137 rfl rfl rfl (Ft.nm hF (RX5, 137, yX2_addParallel, RX5) (by decide +kernel)) (hts (.initialized RX2) (List.mem_of_getElem? (i := 7) rfl)) (by decide +kernel) ⟨Nat.le_of_ble_eq_true rfl, Nat.le_of_ble_eq_true rfl⟩, (hts (.instanceMethod yX2_addParallel) (List.mem_of_getElem? (i := 6) rfl)), (hts (.selects RX2 yX2_addParallel yX2_addParallel) (List.mem_of_getElem? (i := 8) rfl))⟩ ⟨PQ_blind, va_recv hK hP (ci := 7) (q0 := 1) rfl rfl, PQ_pre hPc hKc hDc hF⟩ rfl rfl hl.1 rfl (lv_room (Nat.le_of_ble_eq_true rfl)) dX5_parallel_51 ⟨Nat.le_of_ble_eq_true rfl, Nat.le_of_ble_eq_true rfl⟩) hS (fun q _ h => hFc q h) hFc (fun u t H1 locs ht hvm hw hB hz1 hk1 hS => ?_)
        obtain ⟨hP1, hK1, hD1⟩ := hB
        rw [ht] at hP1
        have hK1 := va_K.moved hvm.symm hK1
        obtain ⟨hP, hD⟩ := va_join (wr := [(x, .inr (10, [.ref cd, .int 0, .ref rd, .int 0, .ref tp, .ref fo, .int 10, .ref qu, .int 0, .int 0, .ref sh, .ref vs, .ref pa, .ref pb]))]) (w1 := [(fo, .inr (7, [.int 1, .ref le, .ref mo, .ref os, .ref ps, .int 1, .ref br, .int 0]))]) hP hD [1, 2, 3] [0] rfl rfl (by decide) (by decide) hk1 hFc hP1 hD1
        have hK := hK.app hK1
        generalize H1 = H at hP hS ⊢
        have hP : va_P (dC, dI) vwCl [(x, .inr (10, [.ref cd, .int 0, .ref rd, .int 0, .ref tp, .ref fo, .int 10, .ref qu, .int 0, .int 0, .ref sh, .ref vs, .ref pa, .ref pb])), (fo, .inr (7, [.int 1, .ref le, .ref mo, .ref os, .ref ps, .int 1, .ref br, .int 0]))] H := hP
        have hD : va_D A [(x, .inr (10, [.ref cd, .int 0, .ref rd, .int 0, .ref tp, .ref fo, .int 10, .ref qu, .int 0, .int 0, .ref sh, .ref vs, .ref pa, .ref pb])), (fo, .inr (7, [.int 1, .ref le, .ref mo, .ref os, .ref ps, .int 1, .ref br, .int 0]))] := hD
        have hK : va_K (dC, dI) vwCl [(ko, .int), (kp, .int)] s := hK
        refine W.widen (k := 0) (n := 0) (Nat.le_of_ble_eq_true rfl) (Nat.le_of_ble_eq_true rfl) ?_
        refine lv_aload_n hx hb dX5_parallel_54 rfl (lv_at hl 0 rfl) ?_
        refine va_get (D := (dC, dI)) (ci := 10) (v := .ref fo) (C := RX5) (T := TX5) (N := 14) hx hb hts (fun _ h9 => List.mem_cons_of_mem _ (List.mem_append_left _ (List.mem_append_right _ (h9)))) hown hK hP 0 rfl rfl 5 (by decide) (hts (.fieldLink RX5 38 "ExamHalls" "form" "LExamHalls$Form;") (List.mem_of_getElem? (i := 1) rfl)) (fun _ h9 => h9) rfl dX5_parallel_55 ?_
        refine va_getN (D := (dC, dI)) (ci := 7) (v := .int 1) (C := RX2) (T := TX2) (N := 8) hx hb hts (fun _ h9 => List.mem_cons_of_mem _ (List.mem_append_right _ (h9))) hown hK hP 1 rfl rfl 5 (by decide) (Ft.nf hF (RX5, 134, "ExamHalls$Form", "parallelCount", "I", RX5) (by decide +kernel)) (fun _ h9 => h9) rfl dX5_parallel_58 ?_
        refine lv_iconst (v := 1) hx hb dX5_parallel_61 (by decide) ?_
        refine lv_isub hx hb dX5_parallel_62 ?_
        refine lv_topi (fun f_8 ef_8 => ?_)
        obtain rfl : f_8 = 0 := ef_8.trans (by decide)
        exact W.iret (v := 0) hx hb hr (fun t ht hW => ⟨⟨_, (), rfl, (by simp only [sp_X_parallel, if_neg c_2, if_neg c_4, if_neg c_5]), trivial⟩, hS.F ht⟩) hS.2.2 dX5_parallel_63
      · skip
        refine lv_bipush (v := (-2)) hx hb dX5_parallel_27 (by decide) ?_
        exact W.iret (v := (-2)) hx hb hr (fun t ht hW => ⟨⟨_, (), rfl, (by simp only [sp_X_parallel, if_neg c_2, if_neg c_4, if_pos c_5]), trivial⟩, hS.F ht⟩) hS.2.2 dX5_parallel_29
    · skip
      refine lv_iconst (v := (-1)) hx hb dX5_parallel_20 (by decide) ?_
      exact W.iret (v := (-1)) hx hb hr (fun t ht hW => ⟨⟨_, (), rfl, (by simp only [sp_X_parallel, if_neg c_2, if_pos c_4]), trivial⟩, hS.F ht⟩) hS.2.2 dX5_parallel_21

def sp_X_reader (c1 : Int32) (c2 : Int32) : Int32 := if (sp_X_isWithin c1 0 3) = 0 then (-1) else if (sp_X_isWithin c2 0 3) = 0 then (-1) else 0
set_option maxHeartbeats 4000000 in
set_option maxRecDepth 100000 in
theorem c_X_reader (l : Launch) (dC : Nat → ClassId) (dI : Nat → Nat → Nat) (x : Nat) (cd : Nat) (rd : Nat) (tp : Nat) (fo : Nat) (qu : Nat) (sh : Nat) (vs : Nat) (pa : Nat) (pb : Nat) (kR : ClassId) (c1 : Int32) (c2 : Int32) (sz : Nat) : Met l yX5_reader wsX5_reader ({ frames := 2, cells := 1, slots := 3, locals := 34 }) (va_Pc [.ref x, .int c1, .int c2] (PQ dC dI sz [(x, .inr (10, [.ref cd, .int 0, .ref rd, .int 0, .ref tp, .ref fo, .int 10, .ref qu, .int 0, .int 0, .ref sh, .ref vs, .ref pa, .ref pb])), (rd, .inl (kR, 6, .inr (.inr (.inr (.inr (fun _ => none))))))] [(kR, .object "ExamHalls$Reader")])) (va_Qi (fun r (_ : Unit) => r = sp_X_reader c1 c2) (fun _ _ => True) (va_A [(x, .inr (10, [.ref cd, .int 0, .ref rd, .int 0, .ref tp, .ref fo, .int 10, .ref qu, .int 0, .int 0, .ref sh, .ref vs, .ref pa, .ref pb])), (rd, .inl (kR, 6, .inr (.inr (.inr (.inr (fun _ => none))))))] sz)) 1 3 (va_A [(x, .inr (10, [.ref cd, .int 0, .ref rd, .int 0, .ref tp, .ref fo, .int 10, .ref qu, .int 0, .int 0, .ref sh, .ref vs, .ref pa, .ref pb])), (rd, .inl (kR, 6, .inr (.inr (.inr (.inr (fun _ => none))))))] sz) := by
  refine Met.ofW (cc := cX5_reader) (maxL := 3) (ret := (some .int)) (by decide) rfl ?_
  intro p e s m args below meth c s₁ B hml hv
  obtain ⟨rfl, hsz, hP, hK, hD0, hF⟩ := hv
  have hx := B.exec
  have hb := B.bytes
  have hr := B.returns
  have hts := atoms_spec (ws := wsX5_reader) B.pre
  have hown : s.vm.findClass RX5 = some m.cls := findClass_of_methodNamed B.named
  have hlocks := B.notSynchronized
  subst hsz
  have hD := hD0.self (sz := s.heap.size)
  generalize hAe : va_A [(x, .inr (10, [.ref cd, .int 0, .ref rd, .int 0, .ref tp, .ref fo, .int 10, .ref qu, .int 0, .int 0, .ref sh, .ref vs, .ref pa, .ref pb])), (rd, .inl (kR, 6, .inr (.inr (.inr (.inr (fun _ => none))))))] s.heap.size = A at hD ⊢
  have hA : ∀ q : Nat, s.heap.size ≤ q → A q := fun q h => by rw [← hAe]; exact Or.inr h
  have hS : va_S A s.heap s.heap [] := va_S.rf
  have hl := lv_entry ([.ref x, .int c1, .int c2]) (n := 3) (Nat.le_of_ble_eq_true rfl)
  rw [lg_entry_eq]
  generalize (lg_sl ([.ref x, .int c1, .int c2]) ++ List.replicate (3 - (lg_sl ([.ref x, .int c1, .int c2])).length) Slot.unset).toArray = ls at hl ⊢
  have hl : lv_has ls 3 [(0, .ref x), (1, .int c1), (2, .int c2)] := hl
  refine lv_iload_n hx hb dX5_reader_0 rfl (lv_at hl 1 rfl) ?_
  refine lv_iconst (v := 0) hx hb dX5_reader_1 (by decide) ?_
  refine lv_iconst (v := 3) hx hb dX5_reader_2 (by decide) ?_
  refine vp_callSi (va_Run.run (va_runS (As := [.int c1, .int 0, .int 3]) (rest := []) ⟨hx, hb, hml, hown, hts⟩ (c_X_isWithin l dC dI c1 0 3) (va_cwS 3 hts gX5_reader_X5_isWithin rfl rfl rfl (by decide +kernel) ⟨Nat.le_of_ble_eq_true rfl, Nat.le_of_ble_eq_true rfl⟩) ⟨PS_blind, PS_pre (hP.sub (ws' := []) [] rfl) (hK.sub (tys' := []) [] rfl) hF⟩ rfl rfl hl.1 rfl (lv_room (Nat.le_of_ble_eq_true rfl)) dX5_reader_3 ⟨Nat.le_of_ble_eq_true rfl, Nat.le_of_ble_eq_true rfl⟩)) (fun r_1 hr_1 => ?_)
  subst hr_1
  refine lv_if_eq (tgt := 18) hx hb dX5_reader_6 (by decide) (fun c_2 => ?_) (fun c_2 => ?_)
  · skip
    refine lv_iconst (v := (-1)) hx hb dX5_reader_18 (by decide) ?_
    refine W.widen (k := 1) (n := 3) (Nat.le_of_ble_eq_true rfl) (Nat.le_of_ble_eq_true rfl) ?_
    exact W.iret (v := (-1)) hx hb hr (fun t ht hW => ⟨⟨_, (), rfl, (by simp only [sp_X_reader, if_pos c_2]), trivial⟩, hS.F ht⟩) hS.2.2 dX5_reader_19
  · skip
    refine lv_iload_n hx hb dX5_reader_9 rfl (lv_at hl 2 rfl) ?_
    refine lv_iconst (v := 0) hx hb dX5_reader_10 (by decide) ?_
    refine lv_iconst (v := 3) hx hb dX5_reader_11 (by decide) ?_
    refine vp_callSi (va_Run.run (va_runS (As := [.int c2, .int 0, .int 3]) (rest := []) ⟨hx, hb, hml, hown, hts⟩ (c_X_isWithin l dC dI c2 0 3) (va_cwS 3 hts gX5_reader_X5_isWithin rfl rfl rfl (by decide +kernel) ⟨Nat.le_of_ble_eq_true rfl, Nat.le_of_ble_eq_true rfl⟩) ⟨PS_blind, PS_pre (hP.sub (ws' := []) [] rfl) (hK.sub (tys' := []) [] rfl) hF⟩ rfl rfl hl.1 rfl (lv_room (Nat.le_of_ble_eq_true rfl)) dX5_reader_12 ⟨Nat.le_of_ble_eq_true rfl, Nat.le_of_ble_eq_true rfl⟩)) (fun r_3 hr_3 => ?_)
    subst hr_3
    refine lv_if_ne (tgt := 20) hx hb dX5_reader_15 (by decide) (fun c_4 => ?_) (fun c_4 => ?_)
    · skip
      refine lv_aload_n hx hb dX5_reader_20 rfl (lv_at hl 0 rfl) ?_
      refine va_get (D := (dC, dI)) (ci := 10) (v := .int 0) (C := RX5) (T := TX5) (N := 14) hx hb hts (fun _ h9 => List.mem_cons_of_mem _ (List.mem_append_left _ (List.mem_append_right _ (h9)))) hown hK hP 0 rfl rfl 3 (by decide) (hts (.fieldLink RX5 25 "ExamHalls" "readerCount" "I") (List.mem_of_getElem? (i := 1) rfl)) (fun _ h9 => h9) rfl dX5_reader_21 ?_
      refine lv_if_lt (tgt := 39) hx hb dX5_reader_24 (by decide) (fun c_5 => absurd c_5 (by decide)) (fun _ => ?_)
      refine lv_aload_n hx hb dX5_reader_27 rfl (lv_at hl 0 rfl) ?_
      refine va_get (D := (dC, dI)) (ci := 10) (v := .int 0) (C := RX5) (T := TX5) (N := 14) hx hb hts (fun _ h9 => List.mem_cons_of_mem _ (List.mem_append_left _ (List.mem_append_right _ (h9)))) hown hK hP 0 rfl rfl 3 (by decide) (hts (.fieldLink RX5 25 "ExamHalls" "readerCount" "I") (List.mem_of_getElem? (i := 1) rfl)) (fun _ h9 => h9) rfl dX5_reader_28 ?_
      refine lv_aload_n hx hb dX5_reader_31 rfl (lv_at hl 0 rfl) ?_
      refine va_get (D := (dC, dI)) (ci := 10) (v := .ref rd) (C := RX5) (T := TX5) (N := 14) hx hb hts (fun _ h9 => List.mem_cons_of_mem _ (List.mem_append_left _ (List.mem_append_right _ (h9)))) hown hK hP 0 rfl rfl 2 (by decide) (hts (.fieldLink RX5 21 "ExamHalls" "readers" "[LExamHalls$Reader;") (List.mem_of_getElem? (i := 2) rfl)) (fun _ h9 => h9) rfl dX5_reader_32 ?_
      refine va_alen hx hb hK hP 1 0 rfl rfl (v := 6) (by decide) dX5_reader_35 ?_
      refine lv_icmp_lt (tgt := 42) hx hb dX5_reader_36 (by decide) (fun _ => ?_) (fun c_6 => absurd (by decide) c_6)
      refine lv_aload_n hx hb dX5_reader_42 rfl (lv_at hl 0 rfl) ?_
      refine va_get (D := (dC, dI)) (ci := 10) (v := .ref rd) (C := RX5) (T := TX5) (N := 14) hx hb hts (fun _ h9 => List.mem_cons_of_mem _ (List.mem_append_left _ (List.mem_append_right _ (h9)))) hown hK hP 0 rfl rfl 2 (by decide) (hts (.fieldLink RX5 21 "ExamHalls" "readers" "[LExamHalls$Reader;") (List.mem_of_getElem? (i := 2) rfl)) (fun _ h9 => h9) rfl dX5_reader_43 ?_
      refine lv_aload_n hx hb dX5_reader_46 rfl (lv_at hl 0 rfl) ?_
      refine va_get (D := (dC, dI)) (ci := 10) (v := .int 0) (C := RX5) (T := TX5) (N := 14) hx hb hts (fun _ h9 => List.mem_cons_of_mem _ (List.mem_append_left _ (List.mem_append_right _ (h9)))) hown hK hP 0 rfl rfl 3 (by decide) (hts (.fieldLink RX5 25 "ExamHalls" "readerCount" "I") (List.mem_of_getElem? (i := 1) rfl)) (fun _ h9 => h9) rfl dX5_reader_47 ?_
      refine va_new (ci := 8) (fs := [.int 0, .int 0, .int 0]) (C := RX3) (T := TX3) (N := 3) hx hb hts (fun _ h9 => List.mem_cons_of_mem _ (List.mem_append_right _ (h9))) tyX3 tyX3_ok hown (hts (.classLink RX5 19 RX3) (List.mem_of_getElem? (i := 3) rfl)) (hts (.instantiable RX3 3) (List.mem_of_getElem? (i := 4) rfl)) (hts (.initialized RX3) (List.mem_of_getElem? (i := 5) rfl)) hK hP hD hS hA rfl dfX3 (Nat.le_of_ble_eq_true rfl) (Nat.le_of_ble_eq_true rfl) dX5_reader_50 (fun q_7 H hP hD hS => ?_)
      have hP : va_P (dC, dI) vwCl [(x, .inr (10, [.ref cd, .int 0, .ref rd, .int 0, .ref tp, .ref fo, .int 10, .ref qu, .int 0, .int 0, .ref sh, .ref vs, .ref pa, .ref pb])), (rd, .inl (kR, 6, .inr (.inr (.inr (.inr (fun _ => none)))))), (q_7, .inr (8, [.int 0, .int 0, .int 0]))] H := hP
      have hD : va_D A [(x, .inr (10, [.ref cd, .int 0, .ref rd, .int 0, .ref tp, .ref fo, .int 10, .ref qu, .int 0, .int 0, .ref sh, .ref vs, .ref pa, .ref pb])), (rd, .inl (kR, 6, .inr (.inr (.inr (.inr (fun _ => none)))))), (q_7, .inr (8, [.int 0, .int 0, .int 0]))] := hD
      refine W.widen (k := 1) (n := 3) (Nat.le_of_ble_eq_true rfl) (Nat.le_of_ble_eq_true rfl) ?_
      refine lv_dup hx hb dX5_reader_53 rfl ?_
      refine lv_iload_n hx hb dX5_reader_54 rfl (lv_at hl 1 rfl) ?_
      refine lv_iload_n hx hb dX5_reader_55 rfl (lv_at hl 2 rfl) ?_
      have hPc := hP.sub (ws' := [(q_7, .inr (8, [.int 0, .int 0, .int 0]))]) [2] rfl
      have hDc := hD.sub (ws' := [(q_7, .inr (8, [.int 0, .int 0, .int 0]))]) [2] (by decide) rfl
      have hKc := hK.sub (tys' := []) [] rfl
      have hFc := va_free (wc := [(q_7, .inr (8, [.int 0, .int 0, .int 0]))]) hD hS hA [2] rfl
      refine va_callv (va_runIN (As := [.int c1, .int c2]) (rest := [.ref q_7, .int 0, .ref rd]) ⟨hx, hb, hml, hown, hts⟩ (c_X3_init l dC dI q_7 c1 c2 H.size) ⟨va_cnB 2 hts gX5_reader_X3_init_n184 rfl rfl rfl (Ft.nm hF (RX5, 184, yX3_init, RX5) (by decide +kernel)) (hts (.initialized RX3) (List.mem_of_getElem? (i := 5) rfl)) (by decide +kernel) ⟨Nat.le_of_ble_eq_true rfl, Nat.le_of_ble_eq_true rfl⟩, rfl, (hts (.instanceMethod yX3_init) (List.mem_of_getElem? (i := 10) rfl))⟩ ⟨PQ_blind, PQ_pre hPc hKc hDc hF⟩ rfl rfl hl.1 rfl (lv_room (Nat.le_of_ble_eq_true rfl)) dX5_reader_56 ⟨Nat.le_of_ble_eq_true rfl, Nat.le_of_ble_eq_true rfl⟩) hS (fun q _ h => hFc q h) hFc (fun u t H1 locs ht hvm hw hB hz1 hk1 hS => ?_)
      obtain ⟨hP1, hK1, hD1⟩ := hB
      rw [ht] at hP1
      have hK1 := va_K.moved hvm.symm hK1
      obtain ⟨hP, hD⟩ := va_join (wr := [(x, .inr (10, [.ref cd, .int 0, .ref rd, .int 0, .ref tp, .ref fo, .int 10, .ref qu, .int 0, .int 0, .ref sh, .ref vs, .ref pa, .ref pb])), (rd, .inl (kR, 6, .inr (.inr (.inr (.inr (fun _ => none))))))]) (w1 := [(q_7, .inr (8, [.int c1, .int c2, .int 0]))]) hP hD [2] [0, 1] rfl rfl (by decide) (by decide) hk1 hFc hP1 hD1
      have hK := hK.app hK1
      generalize H1 = H at hP hS ⊢
      have hP : va_P (dC, dI) vwCl [(x, .inr (10, [.ref cd, .int 0, .ref rd, .int 0, .ref tp, .ref fo, .int 10, .ref qu, .int 0, .int 0, .ref sh, .ref vs, .ref pa, .ref pb])), (rd, .inl (kR, 6, .inr (.inr (.inr (.inr (fun _ => none)))))), (q_7, .inr (8, [.int c1, .int c2, .int 0]))] H := hP
      have hD : va_D A [(x, .inr (10, [.ref cd, .int 0, .ref rd, .int 0, .ref tp, .ref fo, .int 10, .ref qu, .int 0, .int 0, .ref sh, .ref vs, .ref pa, .ref pb])), (rd, .inl (kR, 6, .inr (.inr (.inr (.inr (fun _ => none)))))), (q_7, .inr (8, [.int c1, .int c2, .int 0]))] := hD
      have hK : va_K (dC, dI) vwCl [(kR, .object "ExamHalls$Reader")] s := hK
      refine W.widen (k := 1) (n := 3) (Nat.le_of_ble_eq_true rfl) (Nat.le_of_ble_eq_true rfl) ?_
      refine va_astq hx hb hK hP hD hS 1 0 2 8 (r := (RX3, TX3, 3)) rfl rfl rfl rfl (by unfold vp_in; decide) dX5_reader_59 (fun H locs hP hD hS => ?_)
      have hP : va_P (dC, dI) vwCl [(x, .inr (10, [.ref cd, .int 0, .ref rd, .int 0, .ref tp, .ref fo, .int 10, .ref qu, .int 0, .int 0, .ref sh, .ref vs, .ref pa, .ref pb])), (rd, .inl (kR, 6, .inr (.inr (.inr (.inr (va_up (fun _ => none) (0 : Int32).toNatClampNeg (some q_7))))))), (q_7, .inr (8, [.int c1, .int c2, .int 0]))] H := hP
      have hD : va_D A [(x, .inr (10, [.ref cd, .int 0, .ref rd, .int 0, .ref tp, .ref fo, .int 10, .ref qu, .int 0, .int 0, .ref sh, .ref vs, .ref pa, .ref pb])), (rd, .inl (kR, 6, .inr (.inr (.inr (.inr (va_up (fun _ => none) (0 : Int32).toNatClampNeg (some q_7))))))), (q_7, .inr (8, [.int c1, .int c2, .int 0]))] := hD
      generalize (va_up (fun _ => none) (0 : Int32).toNatClampNeg (some q_7)) = a_9 at hP hD
      refine lv_aload_n hx hb dX5_reader_60 rfl (lv_at hl 0 rfl) ?_
      refine lv_dup hx hb dX5_reader_61 rfl ?_
      refine va_get (D := (dC, dI)) (ci := 10) (v := .int 0) (C := RX5) (T := TX5) (N := 14) hx hb hts (fun _ h9 => List.mem_cons_of_mem _ (List.mem_append_left _ (List.mem_append_right _ (h9)))) hown hK hP 0 rfl rfl 3 (by decide) (hts (.fieldLink RX5 25 "ExamHalls" "readerCount" "I") (List.mem_of_getElem? (i := 1) rfl)) (fun _ h9 => h9) rfl dX5_reader_62 ?_
      refine lv_iconst (v := 1) hx hb dX5_reader_65 (by decide) ?_
      refine lv_iadd hx hb dX5_reader_66 ?_
      refine lv_topi (fun f_10 ef_10 => ?_)
      obtain rfl : f_10 = 1 := ef_10.trans (by decide)
      refine va_put (D := (dC, dI)) (ci := 10) (v := .int 1) (ty := .int) (C := RX5) (T := TX5) (N := 14) hx hb hts (fun _ h9 => List.mem_cons_of_mem _ (List.mem_append_left _ (List.mem_append_right _ (h9)))) tyX5 tyX5_ok nmX5 hown hK hP hD hS 0 rfl rfl 3 (by decide) (hts (.fieldLink RX5 25 "ExamHalls" "readerCount" "I") (List.mem_of_getElem? (i := 1) rfl)) (fun _ h9 => h9) rfl (by decide +kernel) rfl rfl (Nat.le_of_ble_eq_true rfl) dX5_reader_67 (fun H locs hP hD hS => ?_)
      have hP : va_P (dC, dI) vwCl [(x, .inr (10, [.ref cd, .int 0, .ref rd, .int 1, .ref tp, .ref fo, .int 10, .ref qu, .int 0, .int 0, .ref sh, .ref vs, .ref pa, .ref pb])), (rd, .inl (kR, 6, .inr (.inr (.inr (.inr a_9))))), (q_7, .inr (8, [.int c1, .int c2, .int 0]))] H := hP
      have hD : va_D A [(x, .inr (10, [.ref cd, .int 0, .ref rd, .int 1, .ref tp, .ref fo, .int 10, .ref qu, .int 0, .int 0, .ref sh, .ref vs, .ref pa, .ref pb])), (rd, .inl (kR, 6, .inr (.inr (.inr (.inr a_9))))), (q_7, .inr (8, [.int c1, .int c2, .int 0]))] := hD
      refine lv_aload_n hx hb dX5_reader_70 rfl (lv_at hl 0 rfl) ?_
      refine va_get (D := (dC, dI)) (ci := 10) (v := .int 1) (C := RX5) (T := TX5) (N := 14) hx hb hts (fun _ h9 => List.mem_cons_of_mem _ (List.mem_append_left _ (List.mem_append_right _ (h9)))) hown hK hP 0 rfl rfl 3 (by decide) (hts (.fieldLink RX5 25 "ExamHalls" "readerCount" "I") (List.mem_of_getElem? (i := 1) rfl)) (fun _ h9 => h9) rfl dX5_reader_71 ?_
      refine lv_iconst (v := 1) hx hb dX5_reader_74 (by decide) ?_
      refine lv_isub hx hb dX5_reader_75 ?_
      refine lv_topi (fun f_11 ef_11 => ?_)
      obtain rfl : f_11 = 0 := ef_11.trans (by decide)
      exact W.iret (v := 0) hx hb hr (fun t ht hW => ⟨⟨_, (), rfl, (by simp only [sp_X_reader, if_neg c_2, if_neg c_4]), trivial⟩, hS.F ht⟩) hS.2.2 dX5_reader_76
    · skip
      refine lv_iconst (v := (-1)) hx hb dX5_reader_18 (by decide) ?_
      refine W.widen (k := 1) (n := 3) (Nat.le_of_ble_eq_true rfl) (Nat.le_of_ble_eq_true rfl) ?_
      exact W.iret (v := (-1)) hx hb hr (fun t ht hW => ⟨⟨_, (), rfl, (by simp only [sp_X_reader, if_neg c_2, if_pos c_4]), trivial⟩, hS.F ht⟩) hS.2.2 dX5_reader_19

def sp_X_apart (c1 : Int32) : Int32 := if (sp_X_isWithin c1 0 99) = 0 then (-2) else 10
set_option maxHeartbeats 4000000 in
set_option maxRecDepth 100000 in
theorem c_X_apart (l : Launch) (dC : Nat → ClassId) (dI : Nat → Nat → Nat) (x : Nat) (cd : Nat) (rd : Nat) (tp : Nat) (fo : Nat) (qu : Nat) (sh : Nat) (vs : Nat) (pa : Nat) (pb : Nat) (c1 : Int32) (sz : Nat) : Met l yX5_apart wsX5_apart ({ frames := 1, cells := 0, slots := 0, locals := 22 }) (va_Pc [.ref x, .int c1] (PQ dC dI sz [(x, .inr (10, [.ref cd, .int 0, .ref rd, .int 0, .ref tp, .ref fo, .int 10, .ref qu, .int 0, .int 0, .ref sh, .ref vs, .ref pa, .ref pb]))] [])) (va_Qi (fun r (_ : Unit) => r = sp_X_apart c1) (fun _ _ => True) (va_A [(x, .inr (10, [.ref cd, .int 0, .ref rd, .int 0, .ref tp, .ref fo, .int 10, .ref qu, .int 0, .int 0, .ref sh, .ref vs, .ref pa, .ref pb]))] sz)) 0 0 (va_A [(x, .inr (10, [.ref cd, .int 0, .ref rd, .int 0, .ref tp, .ref fo, .int 10, .ref qu, .int 0, .int 0, .ref sh, .ref vs, .ref pa, .ref pb]))] sz) := by
  refine Met.ofW (cc := cX5_apart) (maxL := 3) (ret := (some .int)) (by decide) rfl ?_
  intro p e s m args below meth c s₁ B hml hv
  obtain ⟨rfl, hsz, hP, hK, hD0, hF⟩ := hv
  have hx := B.exec
  have hb := B.bytes
  have hr := B.returns
  have hts := atoms_spec (ws := wsX5_apart) B.pre
  have hown : s.vm.findClass RX5 = some m.cls := findClass_of_methodNamed B.named
  have hlocks := B.notSynchronized
  subst hsz
  have hD := hD0.self (sz := s.heap.size)
  generalize hAe : va_A [(x, .inr (10, [.ref cd, .int 0, .ref rd, .int 0, .ref tp, .ref fo, .int 10, .ref qu, .int 0, .int 0, .ref sh, .ref vs, .ref pa, .ref pb]))] s.heap.size = A at hD ⊢
  have hA : ∀ q : Nat, s.heap.size ≤ q → A q := fun q h => by rw [← hAe]; exact Or.inr h
  have hS : va_S A s.heap s.heap [] := va_S.rf
  have hl := lv_entry ([.ref x, .int c1]) (n := 3) (Nat.le_of_ble_eq_true rfl)
  rw [lg_entry_eq]
  generalize (lg_sl ([.ref x, .int c1]) ++ List.replicate (3 - (lg_sl ([.ref x, .int c1])).length) Slot.unset).toArray = ls at hl ⊢
  have hl : lv_has ls 3 [(0, .ref x), (1, .int c1)] := hl
  refine lv_iload_n hx hb dX5_apart_0 rfl (lv_at hl 1 rfl) ?_
  refine lv_iconst (v := 0) hx hb dX5_apart_1 (by decide) ?_
  refine lv_bipush (v := 99) hx hb dX5_apart_2 (by decide) ?_
  refine vp_callSi (va_Run.run (va_runS (As := [.int c1, .int 0, .int 99]) (rest := []) ⟨hx, hb, hml, hown, hts⟩ (c_X_isWithin l dC dI c1 0 99) (va_cwS 3 hts gX5_apart_X5_isWithin rfl rfl rfl (by decide +kernel) ⟨Nat.le_of_ble_eq_true rfl, Nat.le_of_ble_eq_true rfl⟩) ⟨PS_blind, PS_pre (hP.sub (ws' := []) [] rfl) hK hF⟩ rfl rfl hl.1 rfl (lv_room (Nat.le_of_ble_eq_true rfl)) dX5_apart_4 ⟨Nat.le_of_ble_eq_true rfl, Nat.le_of_ble_eq_true rfl⟩)) (fun r_1 hr_1 => ?_)
  subst hr_1
  refine lv_if_ne (tgt := 13) hx hb dX5_apart_7 (by decide) (fun c_2 => ?_) (fun c_2 => ?_)
  · skip
    refine lv_aload_n hx hb dX5_apart_13 rfl (lv_at hl 0 rfl) ?_
    refine va_get (D := (dC, dI)) (ci := 10) (v := .int 10) (C := RX5) (T := TX5) (N := 14) hx hb hts (fun _ h9 => List.mem_cons_of_mem _ (List.mem_append_right _ (h9))) hown hK hP 0 rfl rfl 6 (by decide) (hts (.fieldLink RX5 42 "ExamHalls" "apart" "I") (List.mem_of_getElem? (i := 1) rfl)) (fun _ h9 => h9) rfl dX5_apart_14 ?_
    refine lv_istore_n (lv' := [(2, .int 10), (0, .ref x), (1, .int c1)]) hx hb dX5_apart_17 rfl hl (by decide) rfl (fun ls hl => ?_)
    refine lv_aload_n hx hb dX5_apart_18 rfl (lv_at hl 1 rfl) ?_
    refine lv_iload_n hx hb dX5_apart_19 rfl (lv_at hl 2 rfl) ?_
    refine va_put (D := (dC, dI)) (ci := 10) (v := .int c1) (ty := .int) (C := RX5) (T := TX5) (N := 14) hx hb hts (fun _ h9 => List.mem_cons_of_mem _ (List.mem_append_right _ (h9))) tyX5 tyX5_ok nmX5 hown hK hP hD hS 0 rfl rfl 6 (by decide) (hts (.fieldLink RX5 42 "ExamHalls" "apart" "I") (List.mem_of_getElem? (i := 1) rfl)) (fun _ h9 => h9) rfl (by decide +kernel) rfl rfl (Nat.le_of_ble_eq_true rfl) dX5_apart_20 (fun H locs hP hD hS => ?_)
    have hP : va_P (dC, dI) vwCl [(x, .inr (10, [.ref cd, .int 0, .ref rd, .int 0, .ref tp, .ref fo, .int c1, .ref qu, .int 0, .int 0, .ref sh, .ref vs, .ref pa, .ref pb]))] H := hP
    have hD : va_D A [(x, .inr (10, [.ref cd, .int 0, .ref rd, .int 0, .ref tp, .ref fo, .int c1, .ref qu, .int 0, .int 0, .ref sh, .ref vs, .ref pa, .ref pb]))] := hD
    refine lv_iload_n hx hb dX5_apart_23 rfl (lv_at hl 0 rfl) ?_
    exact W.iret (v := 10) hx hb hr (fun t ht hW => ⟨⟨_, (), rfl, (by simp only [sp_X_apart, if_neg c_2]), trivial⟩, hS.F ht⟩) hS.2.2 dX5_apart_24
  · skip
    refine lv_bipush (v := (-2)) hx hb dX5_apart_10 (by decide) ?_
    exact W.iret (v := (-2)) hx hb hr (fun t ht hW => ⟨⟨_, (), rfl, (by simp only [sp_X_apart, if_pos c_2]), trivial⟩, hS.F ht⟩) hS.2.2 dX5_apart_12

def sp_X_quota (c1 : Int32) (c2 : Int32) : Int32 := if (sp_X_isWithin c1 0 3) = 0 then (-1) else if (sp_X_isWithin c2 0 24) = 0 then (-2) else 0
set_option maxHeartbeats 4000000 in
set_option maxRecDepth 100000 in
theorem c_X_quota (l : Launch) (dC : Nat → ClassId) (dI : Nat → Nat → Nat) (x : Nat) (cd : Nat) (rd : Nat) (tp : Nat) (fo : Nat) (qu : Nat) (sh : Nat) (vs : Nat) (pa : Nat) (pb : Nat) (kq : ClassId) (c1 : Int32) (c2 : Int32) (sz : Nat) : Met l yX5_quota wsX5_quota ({ frames := 1, cells := 0, slots := 0, locals := 22 }) (va_Pc [.ref x, .int c1, .int c2] (PQ dC dI sz [(x, .inr (10, [.ref cd, .int 0, .ref rd, .int 0, .ref tp, .ref fo, .int 10, .ref qu, .int 0, .int 0, .ref sh, .ref vs, .ref pa, .ref pb])), (qu, .inl (kq, 4, .inl (fun _ => 0)))] [(kq, .int)])) (va_Qi (fun r (_ : Unit) => r = sp_X_quota c1 c2) (fun _ _ => True) (va_A [(x, .inr (10, [.ref cd, .int 0, .ref rd, .int 0, .ref tp, .ref fo, .int 10, .ref qu, .int 0, .int 0, .ref sh, .ref vs, .ref pa, .ref pb])), (qu, .inl (kq, 4, .inl (fun _ => 0)))] sz)) 0 0 (va_A [(x, .inr (10, [.ref cd, .int 0, .ref rd, .int 0, .ref tp, .ref fo, .int 10, .ref qu, .int 0, .int 0, .ref sh, .ref vs, .ref pa, .ref pb])), (qu, .inl (kq, 4, .inl (fun _ => 0)))] sz) := by
  refine Met.ofW (cc := cX5_quota) (maxL := 4) (ret := (some .int)) (by decide) rfl ?_
  intro p e s m args below meth c s₁ B hml hv
  obtain ⟨rfl, hsz, hP, hK, hD0, hF⟩ := hv
  have hx := B.exec
  have hb := B.bytes
  have hr := B.returns
  have hts := atoms_spec (ws := wsX5_quota) B.pre
  have hown : s.vm.findClass RX5 = some m.cls := findClass_of_methodNamed B.named
  have hlocks := B.notSynchronized
  subst hsz
  have hD := hD0.self (sz := s.heap.size)
  generalize hAe : va_A [(x, .inr (10, [.ref cd, .int 0, .ref rd, .int 0, .ref tp, .ref fo, .int 10, .ref qu, .int 0, .int 0, .ref sh, .ref vs, .ref pa, .ref pb])), (qu, .inl (kq, 4, .inl (fun _ => 0)))] s.heap.size = A at hD ⊢
  have hA : ∀ q : Nat, s.heap.size ≤ q → A q := fun q h => by rw [← hAe]; exact Or.inr h
  have hS : va_S A s.heap s.heap [] := va_S.rf
  have hl := lv_entry ([.ref x, .int c1, .int c2]) (n := 4) (Nat.le_of_ble_eq_true rfl)
  rw [lg_entry_eq]
  generalize (lg_sl ([.ref x, .int c1, .int c2]) ++ List.replicate (4 - (lg_sl ([.ref x, .int c1, .int c2])).length) Slot.unset).toArray = ls at hl ⊢
  have hl : lv_has ls 4 [(0, .ref x), (1, .int c1), (2, .int c2)] := hl
  refine lv_iload_n hx hb dX5_quota_0 rfl (lv_at hl 1 rfl) ?_
  refine lv_iconst (v := 0) hx hb dX5_quota_1 (by decide) ?_
  refine lv_iconst (v := 3) hx hb dX5_quota_2 (by decide) ?_
  refine vp_callSi (va_Run.run (va_runS (As := [.int c1, .int 0, .int 3]) (rest := []) ⟨hx, hb, hml, hown, hts⟩ (c_X_isWithin l dC dI c1 0 3) (va_cwS 3 hts gX5_quota_X5_isWithin rfl rfl rfl (by decide +kernel) ⟨Nat.le_of_ble_eq_true rfl, Nat.le_of_ble_eq_true rfl⟩) ⟨PS_blind, PS_pre (hP.sub (ws' := []) [] rfl) (hK.sub (tys' := []) [] rfl) hF⟩ rfl rfl hl.1 rfl (lv_room (Nat.le_of_ble_eq_true rfl)) dX5_quota_3 ⟨Nat.le_of_ble_eq_true rfl, Nat.le_of_ble_eq_true rfl⟩)) (fun r_1 hr_1 => ?_)
  subst hr_1
  refine lv_if_ne (tgt := 11) hx hb dX5_quota_6 (by decide) (fun c_2 => ?_) (fun c_2 => ?_)
  · skip
    refine lv_iload_n hx hb dX5_quota_11 rfl (lv_at hl 2 rfl) ?_
    refine lv_iconst (v := 0) hx hb dX5_quota_12 (by decide) ?_
    refine lv_bipush (v := 24) hx hb dX5_quota_13 (by decide) ?_
    refine vp_callSi (va_Run.run (va_runS (As := [.int c2, .int 0, .int 24]) (rest := []) ⟨hx, hb, hml, hown, hts⟩ (c_X_isWithin l dC dI c2 0 24) (va_cwS 3 hts gX5_quota_X5_isWithin rfl rfl rfl (by decide +kernel) ⟨Nat.le_of_ble_eq_true rfl, Nat.le_of_ble_eq_true rfl⟩) ⟨PS_blind, PS_pre (hP.sub (ws' := []) [] rfl) (hK.sub (tys' := []) [] rfl) hF⟩ rfl rfl hl.1 rfl (lv_room (Nat.le_of_ble_eq_true rfl)) dX5_quota_15 ⟨Nat.le_of_ble_eq_true rfl, Nat.le_of_ble_eq_true rfl⟩)) (fun r_3 hr_3 => ?_)
    subst hr_3
    refine lv_if_ne (tgt := 24) hx hb dX5_quota_18 (by decide) (fun c_4 => ?_) (fun c_4 => ?_)
    · skip
      refine lv_aload_n hx hb dX5_quota_24 rfl (lv_at hl 0 rfl) ?_
      refine va_get (D := (dC, dI)) (ci := 10) (v := .ref qu) (C := RX5) (T := TX5) (N := 14) hx hb hts (fun _ h9 => List.mem_cons_of_mem _ (List.mem_append_right _ (h9))) hown hK hP 0 rfl rfl 7 (by decide) (hts (.fieldLink RX5 45 "ExamHalls" "quotas" "[I") (List.mem_of_getElem? (i := 1) rfl)) (fun _ h9 => h9) rfl dX5_quota_25 ?_
      refine lv_iload_n hx hb dX5_quota_28 rfl (lv_at hl 1 rfl) ?_
      refine va_iald hx hb hK hP 1 0 rfl rfl (vin_w (hi := 3) (by decide) (by decide) c_2) dX5_quota_29 ?_
      refine lv_topi (fun f_5 ef_5 => ?_)
      obtain rfl : f_5 = 0 := ef_5
      refine lv_istore_n (lv' := [(3, .int 0), (0, .ref x), (1, .int c1), (2, .int c2)]) hx hb dX5_quota_30 rfl hl (by decide) rfl (fun ls hl => ?_)
      refine lv_aload_n hx hb dX5_quota_31 rfl (lv_at hl 1 rfl) ?_
      refine va_get (D := (dC, dI)) (ci := 10) (v := .ref qu) (C := RX5) (T := TX5) (N := 14) hx hb hts (fun _ h9 => List.mem_cons_of_mem _ (List.mem_append_right _ (h9))) hown hK hP 0 rfl rfl 7 (by decide) (hts (.fieldLink RX5 45 "ExamHalls" "quotas" "[I") (List.mem_of_getElem? (i := 1) rfl)) (fun _ h9 => h9) rfl dX5_quota_32 ?_
      refine lv_iload_n hx hb dX5_quota_35 rfl (lv_at hl 2 rfl) ?_
      refine lv_iload_n hx hb dX5_quota_36 rfl (lv_at hl 3 rfl) ?_
      refine va_iast hx hb hK hP hD hS 1 0 rfl rfl (vin_w (hi := 3) (by decide) (by decide) c_2) dX5_quota_37 (fun H locs hP hD hS => ?_)
      have hP : va_P (dC, dI) vwCl [(x, .inr (10, [.ref cd, .int 0, .ref rd, .int 0, .ref tp, .ref fo, .int 10, .ref qu, .int 0, .int 0, .ref sh, .ref vs, .ref pa, .ref pb])), (qu, .inl (kq, 4, .inl (upd (fun _ => 0) (c1 : Int32).toNatClampNeg c2)))] H := hP
      have hD : va_D A [(x, .inr (10, [.ref cd, .int 0, .ref rd, .int 0, .ref tp, .ref fo, .int 10, .ref qu, .int 0, .int 0, .ref sh, .ref vs, .ref pa, .ref pb])), (qu, .inl (kq, 4, .inl (upd (fun _ => 0) (c1 : Int32).toNatClampNeg c2)))] := hD
      generalize (upd (fun _ => 0) (c1 : Int32).toNatClampNeg c2) = a_6 at hP hD
      refine lv_iload_n hx hb dX5_quota_38 rfl (lv_at hl 0 rfl) ?_
      exact W.iret (v := 0) hx hb hr (fun t ht hW => ⟨⟨_, (), rfl, (by simp only [sp_X_quota, if_neg c_2, if_neg c_4]), trivial⟩, hS.F ht⟩) hS.2.2 dX5_quota_39
    · skip
      refine lv_bipush (v := (-2)) hx hb dX5_quota_21 (by decide) ?_
      exact W.iret (v := (-2)) hx hb hr (fun t ht hW => ⟨⟨_, (), rfl, (by simp only [sp_X_quota, if_neg c_2, if_pos c_4]), trivial⟩, hS.F ht⟩) hS.2.2 dX5_quota_23
  · skip
    refine lv_iconst (v := (-1)) hx hb dX5_quota_9 (by decide) ?_
    exact W.iret (v := (-1)) hx hb hr (fun t ht hW => ⟨⟨_, (), rfl, (by simp only [sp_X_quota, if_pos c_2]), trivial⟩, hS.F ht⟩) hS.2.2 dX5_quota_10

def sp_X_rule (c1 : Int32) (c2 : Int32) : Int32 := if (sp_X_isWithin c1 0 2) = 0 then (-2) else if (sp_X_isWithin c2 0 1) = 0 then (-2) else 0
set_option maxHeartbeats 4000000 in
set_option maxRecDepth 100000 in
theorem c_X_rule (l : Launch) (dC : Nat → ClassId) (dI : Nat → Nat → Nat) (x : Nat) (cd : Nat) (rd : Nat) (tp : Nat) (fo : Nat) (qu : Nat) (sh : Nat) (vs : Nat) (pa : Nat) (pb : Nat) (c1 : Int32) (c2 : Int32) (sz : Nat) : Met l yX5_rule wsX5_rule ({ frames := 1, cells := 0, slots := 0, locals := 22 }) (va_Pc [.ref x, .int c1, .int c2] (PQ dC dI sz [(x, .inr (10, [.ref cd, .int 0, .ref rd, .int 0, .ref tp, .ref fo, .int 10, .ref qu, .int 0, .int 0, .ref sh, .ref vs, .ref pa, .ref pb]))] [])) (va_Qi (fun r (_ : Unit) => r = sp_X_rule c1 c2) (fun _ _ => True) (va_A [(x, .inr (10, [.ref cd, .int 0, .ref rd, .int 0, .ref tp, .ref fo, .int 10, .ref qu, .int 0, .int 0, .ref sh, .ref vs, .ref pa, .ref pb]))] sz)) 0 0 (va_A [(x, .inr (10, [.ref cd, .int 0, .ref rd, .int 0, .ref tp, .ref fo, .int 10, .ref qu, .int 0, .int 0, .ref sh, .ref vs, .ref pa, .ref pb]))] sz) := by
  refine Met.ofW (cc := cX5_rule) (maxL := 3) (ret := (some .int)) (by decide) rfl ?_
  intro p e s m args below meth c s₁ B hml hv
  obtain ⟨rfl, hsz, hP, hK, hD0, hF⟩ := hv
  have hx := B.exec
  have hb := B.bytes
  have hr := B.returns
  have hts := atoms_spec (ws := wsX5_rule) B.pre
  have hown : s.vm.findClass RX5 = some m.cls := findClass_of_methodNamed B.named
  have hlocks := B.notSynchronized
  subst hsz
  have hD := hD0.self (sz := s.heap.size)
  generalize hAe : va_A [(x, .inr (10, [.ref cd, .int 0, .ref rd, .int 0, .ref tp, .ref fo, .int 10, .ref qu, .int 0, .int 0, .ref sh, .ref vs, .ref pa, .ref pb]))] s.heap.size = A at hD ⊢
  have hA : ∀ q : Nat, s.heap.size ≤ q → A q := fun q h => by rw [← hAe]; exact Or.inr h
  have hS : va_S A s.heap s.heap [] := va_S.rf
  have hl := lv_entry ([.ref x, .int c1, .int c2]) (n := 3) (Nat.le_of_ble_eq_true rfl)
  rw [lg_entry_eq]
  generalize (lg_sl ([.ref x, .int c1, .int c2]) ++ List.replicate (3 - (lg_sl ([.ref x, .int c1, .int c2])).length) Slot.unset).toArray = ls at hl ⊢
  have hl : lv_has ls 3 [(0, .ref x), (1, .int c1), (2, .int c2)] := hl
  refine lv_iload_n hx hb dX5_rule_0 rfl (lv_at hl 1 rfl) ?_
  refine lv_iconst (v := 0) hx hb dX5_rule_1 (by decide) ?_
  refine lv_iconst (v := 2) hx hb dX5_rule_2 (by decide) ?_
  refine vp_callSi (va_Run.run (va_runS (As := [.int c1, .int 0, .int 2]) (rest := []) ⟨hx, hb, hml, hown, hts⟩ (c_X_isWithin l dC dI c1 0 2) (va_cwS 3 hts gX5_rule_X5_isWithin rfl rfl rfl (by decide +kernel) ⟨Nat.le_of_ble_eq_true rfl, Nat.le_of_ble_eq_true rfl⟩) ⟨PS_blind, PS_pre (hP.sub (ws' := []) [] rfl) hK hF⟩ rfl rfl hl.1 rfl (lv_room (Nat.le_of_ble_eq_true rfl)) dX5_rule_3 ⟨Nat.le_of_ble_eq_true rfl, Nat.le_of_ble_eq_true rfl⟩)) (fun r_1 hr_1 => ?_)
  subst hr_1
  refine lv_if_eq (tgt := 18) hx hb dX5_rule_6 (by decide) (fun c_2 => ?_) (fun c_2 => ?_)
  · skip
    refine lv_bipush (v := (-2)) hx hb dX5_rule_18 (by decide) ?_
    exact W.iret (v := (-2)) hx hb hr (fun t ht hW => ⟨⟨_, (), rfl, (by simp only [sp_X_rule, if_pos c_2]), trivial⟩, hS.F ht⟩) hS.2.2 dX5_rule_20
  · skip
    refine lv_iload_n hx hb dX5_rule_9 rfl (lv_at hl 2 rfl) ?_
    refine lv_iconst (v := 0) hx hb dX5_rule_10 (by decide) ?_
    refine lv_iconst (v := 1) hx hb dX5_rule_11 (by decide) ?_
    refine vp_callSi (va_Run.run (va_runS (As := [.int c2, .int 0, .int 1]) (rest := []) ⟨hx, hb, hml, hown, hts⟩ (c_X_isWithin l dC dI c2 0 1) (va_cwS 3 hts gX5_rule_X5_isWithin rfl rfl rfl (by decide +kernel) ⟨Nat.le_of_ble_eq_true rfl, Nat.le_of_ble_eq_true rfl⟩) ⟨PS_blind, PS_pre (hP.sub (ws' := []) [] rfl) hK hF⟩ rfl rfl hl.1 rfl (lv_room (Nat.le_of_ble_eq_true rfl)) dX5_rule_12 ⟨Nat.le_of_ble_eq_true rfl, Nat.le_of_ble_eq_true rfl⟩)) (fun r_3 hr_3 => ?_)
    subst hr_3
    refine lv_if_ne (tgt := 21) hx hb dX5_rule_15 (by decide) (fun c_4 => ?_) (fun c_4 => ?_)
    · skip
      refine lv_aload_n hx hb dX5_rule_21 rfl (lv_at hl 0 rfl) ?_
      refine lv_iload_n hx hb dX5_rule_22 rfl (lv_at hl 1 rfl) ?_
      refine va_put (D := (dC, dI)) (ci := 10) (v := .int c1) (ty := .int) (C := RX5) (T := TX5) (N := 14) hx hb hts (fun _ h9 => List.mem_cons_of_mem _ (List.mem_append_right _ (h9))) tyX5 tyX5_ok nmX5 hown hK hP hD hS 0 rfl rfl 8 (by decide) (hts (.fieldLink RX5 49 "ExamHalls" "ties" "I") (List.mem_of_getElem? (i := 1) rfl)) (fun _ h9 => h9) rfl (by decide +kernel) rfl rfl (Nat.le_of_ble_eq_true rfl) dX5_rule_23 (fun H locs hP hD hS => ?_)
      have hP : va_P (dC, dI) vwCl [(x, .inr (10, [.ref cd, .int 0, .ref rd, .int 0, .ref tp, .ref fo, .int 10, .ref qu, .int c1, .int 0, .ref sh, .ref vs, .ref pa, .ref pb]))] H := hP
      have hD : va_D A [(x, .inr (10, [.ref cd, .int 0, .ref rd, .int 0, .ref tp, .ref fo, .int 10, .ref qu, .int c1, .int 0, .ref sh, .ref vs, .ref pa, .ref pb]))] := hD
      refine lv_aload_n hx hb dX5_rule_26 rfl (lv_at hl 0 rfl) ?_
      refine lv_iload_n hx hb dX5_rule_27 rfl (lv_at hl 2 rfl) ?_
      refine va_put (D := (dC, dI)) (ci := 10) (v := .int c2) (ty := .int) (C := RX5) (T := TX5) (N := 14) hx hb hts (fun _ h9 => List.mem_cons_of_mem _ (List.mem_append_right _ (h9))) tyX5 tyX5_ok nmX5 hown hK hP hD hS 0 rfl rfl 9 (by decide) (hts (.fieldLink RX5 52 "ExamHalls" "way" "I") (List.mem_of_getElem? (i := 2) rfl)) (fun _ h9 => h9) rfl (by decide +kernel) rfl rfl (Nat.le_of_ble_eq_true rfl) dX5_rule_28 (fun H locs hP hD hS => ?_)
      have hP : va_P (dC, dI) vwCl [(x, .inr (10, [.ref cd, .int 0, .ref rd, .int 0, .ref tp, .ref fo, .int 10, .ref qu, .int c1, .int c2, .ref sh, .ref vs, .ref pa, .ref pb]))] H := hP
      have hD : va_D A [(x, .inr (10, [.ref cd, .int 0, .ref rd, .int 0, .ref tp, .ref fo, .int 10, .ref qu, .int c1, .int c2, .ref sh, .ref vs, .ref pa, .ref pb]))] := hD
      refine lv_iconst (v := 0) hx hb dX5_rule_31 (by decide) ?_
      exact W.iret (v := 0) hx hb hr (fun t ht hW => ⟨⟨_, (), rfl, (by simp only [sp_X_rule, if_neg c_2, if_neg c_4]), trivial⟩, hS.F ht⟩) hS.2.2 dX5_rule_32
    · skip
      refine lv_bipush (v := (-2)) hx hb dX5_rule_18 (by decide) ?_
      exact W.iret (v := (-2)) hx hb hr (fun t ht hW => ⟨⟨_, (), rfl, (by simp only [sp_X_rule, if_neg c_2, if_pos c_4]), trivial⟩, hS.F ht⟩) hS.2.2 dX5_rule_20
end
