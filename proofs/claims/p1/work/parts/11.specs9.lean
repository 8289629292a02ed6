theorem dJ5_init_d00df_0 : decode cJ5_init_d00df 0 = .ok (.aload_n 0, 1) := by decide +kernel
theorem dJ5_init_d00df_1 : decode cJ5_init_d00df 1 = .ok (.invokespecial 3, 3) := by decide +kernel
theorem dJ5_init_d00df_4 : decode cJ5_init_d00df 4 = .ok (.getstatic 18, 3) := by decide +kernel
theorem dJ5_init_d00df_7 : decode cJ5_init_d00df 7 = .ok (.ifCond .eq 18, 3) := by decide +kernel
theorem dJ5_init_d00df_10 : decode cJ5_init_d00df 10 = .ok (.aload_n 0, 1) := by decide +kernel
theorem dJ5_init_d00df_11 : decode cJ5_init_d00df 11 = .ok (.iload_n 1, 1) := by decide +kernel
theorem dJ5_init_d00df_12 : decode cJ5_init_d00df 12 = .ok (.newarray .byte, 2) := by decide +kernel
theorem dJ5_init_d00df_14 : decode cJ5_init_d00df 14 = .ok (.putfield 15, 3) := by decide +kernel
theorem dJ5_init_d00df_17 : decode cJ5_init_d00df 17 = .ok (.aload_n 0, 1) := by decide +kernel
theorem dJ5_init_d00df_18 : decode cJ5_init_d00df 18 = .ok (.iconst 0, 1) := by decide +kernel
theorem dJ5_init_d00df_19 : decode cJ5_init_d00df 19 = .ok (.putfield 22, 3) := by decide +kernel
theorem dJ5_init_d00df_22 : decode cJ5_init_d00df 22 = .ok (.goto 16, 3) := by decide +kernel
theorem dJ5_init_d00df_38 : decode cJ5_init_d00df 38 = .ok (.return_, 1) := by decide +kernel
theorem dJ5_length_8abf5_0 : decode cJ5_length_8abf5 0 = .ok (.aload_n 0, 1) := by decide +kernel
theorem dJ5_length_8abf5_1 : decode cJ5_length_8abf5 1 = .ok (.getfield 79, 3) := by decide +kernel
theorem dJ5_length_8abf5_4 : decode cJ5_length_8abf5 4 = .ok (.ireturn, 1) := by decide +kernel
theorem dJ5_ensureCapacityInternal_d00df_0 : decode cJ5_ensureCapacityInternal_d00df 0 = .ok (.aload_n 0, 1) := by decide +kernel
theorem dJ5_ensureCapacityInternal_d00df_1 : decode cJ5_ensureCapacityInternal_d00df 1 = .ok (.getfield 15, 3) := by decide +kernel
theorem dJ5_ensureCapacityInternal_d00df_4 : decode cJ5_ensureCapacityInternal_d00df 4 = .ok (.arraylength, 1) := by decide +kernel
theorem dJ5_ensureCapacityInternal_d00df_5 : decode cJ5_ensureCapacityInternal_d00df 5 = .ok (.aload_n 0, 1) := by decide +kernel
theorem dJ5_ensureCapacityInternal_d00df_6 : decode cJ5_ensureCapacityInternal_d00df 6 = .ok (.getfield 22, 3) := by decide +kernel
theorem dJ5_ensureCapacityInternal_d00df_9 : decode cJ5_ensureCapacityInternal_d00df 9 = .ok (.ishr, 1) := by decide +kernel
theorem dJ5_ensureCapacityInternal_d00df_10 : decode cJ5_ensureCapacityInternal_d00df 10 = .ok (.istore_n 2, 1) := by decide +kernel
theorem dJ5_ensureCapacityInternal_d00df_11 : decode cJ5_ensureCapacityInternal_d00df 11 = .ok (.iload_n 1, 1) := by decide +kernel
theorem dJ5_ensureCapacityInternal_d00df_12 : decode cJ5_ensureCapacityInternal_d00df 12 = .ok (.iload_n 2, 1) := by decide +kernel
theorem dJ5_ensureCapacityInternal_d00df_13 : decode cJ5_ensureCapacityInternal_d00df 13 = .ok (.isub, 1) := by decide +kernel
theorem dJ5_ensureCapacityInternal_d00df_14 : decode cJ5_ensureCapacityInternal_d00df 14 = .ok (.ifCond .le 24, 3) := by decide +kernel
theorem dJ5_ensureCapacityInternal_d00df_38 : decode cJ5_ensureCapacityInternal_d00df 38 = .ok (.return_, 1) := by decide +kernel
theorem dJ5_shift_df160_0 : decode cJ5_shift_df160 0 = .ok (.aload_n 0, 1) := by decide +kernel
theorem dJ5_shift_df160_1 : decode cJ5_shift_df160 1 = .ok (.getfield 15, 3) := by decide +kernel
theorem dJ5_shift_df160_4 : decode cJ5_shift_df160 4 = .ok (.iload_n 1, 1) := by decide +kernel
theorem dJ5_shift_df160_5 : decode cJ5_shift_df160 5 = .ok (.aload_n 0, 1) := by decide +kernel
theorem dJ5_shift_df160_6 : decode cJ5_shift_df160 6 = .ok (.getfield 22, 3) := by decide +kernel
theorem dJ5_shift_df160_9 : decode cJ5_shift_df160 9 = .ok (.ishl, 1) := by decide +kernel
theorem dJ5_shift_df160_10 : decode cJ5_shift_df160 10 = .ok (.aload_n 0, 1) := by decide +kernel
theorem dJ5_shift_df160_11 : decode cJ5_shift_df160 11 = .ok (.getfield 15, 3) := by decide +kernel
theorem dJ5_shift_df160_14 : decode cJ5_shift_df160 14 = .ok (.iload_n 1, 1) := by decide +kernel
theorem dJ5_shift_df160_15 : decode cJ5_shift_df160 15 = .ok (.iload_n 2, 1) := by decide +kernel
theorem dJ5_shift_df160_16 : decode cJ5_shift_df160 16 = .ok (.iadd, 1) := by decide +kernel
theorem dJ5_shift_df160_17 : decode cJ5_shift_df160 17 = .ok (.aload_n 0, 1) := by decide +kernel
theorem dJ5_shift_df160_18 : decode cJ5_shift_df160 18 = .ok (.getfield 22, 3) := by decide +kernel
theorem dJ5_shift_df160_21 : decode cJ5_shift_df160 21 = .ok (.ishl, 1) := by decide +kernel
theorem dJ5_shift_df160_22 : decode cJ5_shift_df160 22 = .ok (.aload_n 0, 1) := by decide +kernel
theorem dJ5_shift_df160_23 : decode cJ5_shift_df160 23 = .ok (.getfield 79, 3) := by decide +kernel
theorem dJ5_shift_df160_26 : decode cJ5_shift_df160 26 = .ok (.iload_n 1, 1) := by decide +kernel
theorem dJ5_shift_df160_27 : decode cJ5_shift_df160 27 = .ok (.isub, 1) := by decide +kernel
theorem dJ5_shift_df160_28 : decode cJ5_shift_df160 28 = .ok (.aload_n 0, 1) := by decide +kernel
theorem dJ5_shift_df160_29 : decode cJ5_shift_df160 29 = .ok (.getfield 22, 3) := by decide +kernel
theorem dJ5_shift_df160_32 : decode cJ5_shift_df160 32 = .ok (.ishl, 1) := by decide +kernel
theorem dJ5_shift_df160_33 : decode cJ5_shift_df160 33 = .ok (.invokestatic 309, 3) := by decide +kernel
theorem dJ5_shift_df160_36 : decode cJ5_shift_df160 36 = .ok (.return_, 1) := by decide +kernel
set_option maxRecDepth 20000 in
theorem ggJ5_insert_00e82_J0_checkOffset_df160 : GoodIn wsJ5_insert_00e82 wsJ0_checkOffset_df160 := goodIn_r _ [6, 7, 8, 9, 10, 11] (by decide +kernel) (by decide +kernel)
set_option maxRecDepth 20000 in
theorem gJ5_insert_00e82_J0_checkOffset_df160 : GoodIn wsJ5_insert_00e82 (va_wsS RJ5 315 yJ0_checkOffset_df160 wsJ0_checkOffset_df160) := goodIn_app (goodIn_of _ (by decide +kernel)) ggJ5_insert_00e82_J0_checkOffset_df160
set_option maxRecDepth 20000 in
theorem ggJ5_insert_00e82_J5_ensureCapacityInternal_d00df : GoodIn wsJ5_insert_00e82 wsJ5_ensureCapacityInternal_d00df := goodIn_r _ [17, 2, 18, 19, 20, 21, 22, 16, 23, 24, 25, 26, 27, 28, 29, 30, 31, 32, 33, 34, 35, 36, 37, 38, 39, 40, 41, 42, 43, 44, 45, 46, 47, 48, 49, 50, 51, 52, 53, 54, 120, 121, 122, 123] (by decide +kernel) (by decide +kernel)
set_option maxRecDepth 20000 in
theorem gJ5_insert_00e82_J5_ensureCapacityInternal_d00df_u100J4 : GoodIn wsJ5_insert_00e82 (va_wsU RJ5 100 RJ4 "java/lang/AbstractStringBuilder" ⟨"java/lang/AbstractStringBuilder", "ensureCapacityInternal", "(I)V"⟩ yJ5_ensureCapacityInternal_d00df wsJ5_ensureCapacityInternal_d00df) := goodIn_app (goodIn_of _ (by decide +kernel)) ggJ5_insert_00e82_J5_ensureCapacityInternal_d00df
set_option maxRecDepth 20000 in
theorem ggJ5_insert_00e82_J5_shift_df160 : GoodIn wsJ5_insert_00e82 wsJ5_shift_df160 := goodIn_r _ [59, 2, 18, 1, 60, 52, 53, 54, 120, 121, 122, 123] (by decide +kernel) (by decide +kernel)
set_option maxRecDepth 20000 in
theorem gJ5_insert_00e82_J5_shift_df160_u283J4 : GoodIn wsJ5_insert_00e82 (va_wsU RJ5 283 RJ4 "java/lang/AbstractStringBuilder" ⟨"java/lang/AbstractStringBuilder", "shift", "(II)V"⟩ yJ5_shift_df160 wsJ5_shift_df160) := goodIn_app (goodIn_of _ (by decide +kernel)) ggJ5_insert_00e82_J5_shift_df160
set_option maxRecDepth 20000 in
theorem ggJ5_insert_00e82_J5_isLatin1_aae02 : GoodIn wsJ5_insert_00e82 wsJ5_isLatin1_aae02 := goodIn_r _ [65, 66, 18, 120, 121, 122, 123] (by decide +kernel) (by decide +kernel)
set_option maxRecDepth 20000 in
theorem gJ5_insert_00e82_J5_isLatin1_aae02_u83J4 : GoodIn wsJ5_insert_00e82 (va_wsU RJ5 83 RJ4 "java/lang/AbstractStringBuilder" ⟨"java/lang/AbstractStringBuilder", "isLatin1", "()Z"⟩ yJ5_isLatin1_aae02 wsJ5_isLatin1_aae02) := goodIn_app (goodIn_of _ (by decide +kernel)) ggJ5_insert_00e82_J5_isLatin1_aae02
set_option maxRecDepth 20000 in
theorem ggJ5_insert_00e82_J1_canEncode_fc78d : GoodIn wsJ5_insert_00e82 wsJ1_canEncode_fc78d := goodIn_r _ [70] (by decide +kernel) (by decide +kernel)
set_option maxRecDepth 20000 in
theorem gJ5_insert_00e82_J1_canEncode_fc78d : GoodIn wsJ5_insert_00e82 (va_wsS RJ5 191 yJ1_canEncode_fc78d wsJ1_canEncode_fc78d) := goodIn_app (goodIn_of _ (by decide +kernel)) ggJ5_insert_00e82_J1_canEncode_fc78d
theorem dJ5_insert_00e82_0 : decode cJ5_insert_00e82 0 = .ok (.iload_n 1, 1) := by decide +kernel
theorem dJ5_insert_00e82_1 : decode cJ5_insert_00e82 1 = .ok (.aload_n 0, 1) := by decide +kernel
theorem dJ5_insert_00e82_2 : decode cJ5_insert_00e82 2 = .ok (.getfield 79, 3) := by decide +kernel
theorem dJ5_insert_00e82_5 : decode cJ5_insert_00e82 5 = .ok (.invokestatic 315, 3) := by decide +kernel
theorem dJ5_insert_00e82_8 : decode cJ5_insert_00e82 8 = .ok (.aload_n 0, 1) := by decide +kernel
theorem dJ5_insert_00e82_9 : decode cJ5_insert_00e82 9 = .ok (.aload_n 0, 1) := by decide +kernel
theorem dJ5_insert_00e82_10 : decode cJ5_insert_00e82 10 = .ok (.getfield 79, 3) := by decide +kernel
theorem dJ5_insert_00e82_13 : decode cJ5_insert_00e82 13 = .ok (.iconst 1, 1) := by decide +kernel
theorem dJ5_insert_00e82_14 : decode cJ5_insert_00e82 14 = .ok (.iadd, 1) := by decide +kernel
theorem dJ5_insert_00e82_15 : decode cJ5_insert_00e82 15 = .ok (.invokevirtual 100, 3) := by decide +kernel
theorem dJ5_insert_00e82_18 : decode cJ5_insert_00e82 18 = .ok (.aload_n 0, 1) := by decide +kernel
theorem dJ5_insert_00e82_19 : decode cJ5_insert_00e82 19 = .ok (.iload_n 1, 1) := by decide +kernel
theorem dJ5_insert_00e82_20 : decode cJ5_insert_00e82 20 = .ok (.iconst 1, 1) := by decide +kernel
theorem dJ5_insert_00e82_21 : decode cJ5_insert_00e82 21 = .ok (.invokevirtual 283, 3) := by decide +kernel
theorem dJ5_insert_00e82_24 : decode cJ5_insert_00e82 24 = .ok (.aload_n 0, 1) := by decide +kernel
theorem dJ5_insert_00e82_25 : decode cJ5_insert_00e82 25 = .ok (.dup, 1) := by decide +kernel
theorem dJ5_insert_00e82_26 : decode cJ5_insert_00e82 26 = .ok (.getfield 79, 3) := by decide +kernel
theorem dJ5_insert_00e82_29 : decode cJ5_insert_00e82 29 = .ok (.iconst 1, 1) := by decide +kernel
theorem dJ5_insert_00e82_30 : decode cJ5_insert_00e82 30 = .ok (.iadd, 1) := by decide +kernel
theorem dJ5_insert_00e82_31 : decode cJ5_insert_00e82 31 = .ok (.putfield 79, 3) := by decide +kernel
theorem dJ5_insert_00e82_34 : decode cJ5_insert_00e82 34 = .ok (.aload_n 0, 1) := by decide +kernel
theorem dJ5_insert_00e82_35 : decode cJ5_insert_00e82 35 = .ok (.invokevirtual 83, 3) := by decide +kernel
theorem dJ5_insert_00e82_38 : decode cJ5_insert_00e82 38 = .ok (.ifCond .eq 21, 3) := by decide +kernel
theorem dJ5_insert_00e82_41 : decode cJ5_insert_00e82 41 = .ok (.iload_n 2, 1) := by decide +kernel
theorem dJ5_insert_00e82_42 : decode cJ5_insert_00e82 42 = .ok (.invokestatic 191, 3) := by decide +kernel
theorem dJ5_insert_00e82_45 : decode cJ5_insert_00e82 45 = .ok (.ifCond .eq 14, 3) := by decide +kernel
theorem dJ5_insert_00e82_48 : decode cJ5_insert_00e82 48 = .ok (.aload_n 0, 1) := by decide +kernel
theorem dJ5_insert_00e82_49 : decode cJ5_insert_00e82 49 = .ok (.getfield 15, 3) := by decide +kernel
theorem dJ5_insert_00e82_52 : decode cJ5_insert_00e82 52 = .ok (.iload_n 1, 1) := by decide +kernel
theorem dJ5_insert_00e82_53 : decode cJ5_insert_00e82 53 = .ok (.iload_n 2, 1) := by decide +kernel
theorem dJ5_insert_00e82_54 : decode cJ5_insert_00e82 54 = .ok (.i2b, 1) := by decide +kernel
theorem dJ5_insert_00e82_55 : decode cJ5_insert_00e82 55 = .ok (.bastore, 1) := by decide +kernel
theorem dJ5_insert_00e82_56 : decode cJ5_insert_00e82 56 = .ok (.goto 23, 3) := by decide +kernel
theorem dJ5_insert_00e82_79 : decode cJ5_insert_00e82 79 = .ok (.aload_n 0, 1) := by decide +kernel
theorem dJ5_insert_00e82_80 : decode cJ5_insert_00e82 80 = .ok (.areturn, 1) := by decide +kernel
theorem dJ5_getValue_6d5f1_0 : decode cJ5_getValue_6d5f1 0 = .ok (.aload_n 0, 1) := by decide +kernel
theorem dJ5_getValue_6d5f1_1 : decode cJ5_getValue_6d5f1 1 = .ok (.getfield 15, 3) := by decide +kernel
theorem dJ5_getValue_6d5f1_4 : decode cJ5_getValue_6d5f1 4 = .ok (.areturn, 1) := by decide +kernel
theorem dJ5_isLatin1_aae02_0 : decode cJ5_isLatin1_aae02 0 = .ok (.getstatic 18, 3) := by decide +kernel
theorem dJ5_isLatin1_aae02_3 : decode cJ5_isLatin1_aae02 3 = .ok (.ifCond .eq 14, 3) := by decide +kernel
theorem dJ5_isLatin1_aae02_6 : decode cJ5_isLatin1_aae02 6 = .ok (.aload_n 0, 1) := by decide +kernel
theorem dJ5_isLatin1_aae02_7 : decode cJ5_isLatin1_aae02 7 = .ok (.getfield 22, 3) := by decide +kernel
theorem dJ5_isLatin1_aae02_10 : decode cJ5_isLatin1_aae02 10 = .ok (.ifCond .ne 7, 3) := by decide +kernel
theorem dJ5_isLatin1_aae02_13 : decode cJ5_isLatin1_aae02 13 = .ok (.iconst 1, 1) := by decide +kernel
theorem dJ5_isLatin1_aae02_14 : decode cJ5_isLatin1_aae02 14 = .ok (.goto 4, 3) := by decide +kernel
theorem dJ5_isLatin1_aae02_18 : decode cJ5_isLatin1_aae02 18 = .ok (.ireturn, 1) := by decide +kernel
set_option maxRecDepth 20000 in
theorem ggJ0_init_81219_J0_init_db425 : GoodIn wsJ0_init_81219 wsJ0_init_db425 := goodIn_r _ [4, 5, 6, 7, 8, 9, 10, 11, 12, 13, 14, 15, 16, 17, 18, 19, 20, 21, 22, 23, 24, 25, 26, 27, 28, 29, 30, 31, 32, 33, 34, 35, 36, 37, 38, 39, 40, 41, 42, 43, 44, 45, 46, 47, 48, 49, 50, 51, 52, 53, 54, 55, 56, 57, 58, 59, 60, 61, 62, 63, 64, 65, 66, 67, 68, 69, 70, 71, 72, 73, 74, 75, 76, 77, 3, 78, 79, 80, 81, 82, 83, 84, 85, 86, 87, 88, 89, 90, 91, 92, 93, 94, 95, 96, 97, 98, 99, 100, 101, 102, 103, 104, 105] (by decide +kernel) (by decide +kernel)
set_option maxRecDepth 20000 in
theorem gJ0_init_81219_J0_init_db425 : GoodIn wsJ0_init_81219 (wsJ0_init_db425) := ggJ0_init_81219_J0_init_db425
theorem dJ0_init_81219_0 : decode cJ0_init_81219 0 = .ok (.aload_n 0, 1) := by decide +kernel
theorem dJ0_init_81219_1 : decode cJ0_init_81219 1 = .ok (.aload_n 1, 1) := by decide +kernel
theorem dJ0_init_81219_2 : decode cJ0_init_81219 2 = .ok (.aconst_null, 1) := by decide +kernel
theorem dJ0_init_81219_3 : decode cJ0_init_81219 3 = .ok (.invokespecial 489, 3) := by decide +kernel
theorem dJ0_init_81219_6 : decode cJ0_init_81219 6 = .ok (.return_, 1) := by decide +kernel
set_option maxRecDepth 20000 in
theorem ggJ0_init_db425_J5_getValue_6d5f1 : GoodIn wsJ0_init_db425 wsJ5_getValue_6d5f1 := goodIn_r _ [13, 14, 99, 100, 101, 102] (by decide +kernel) (by decide +kernel)
set_option maxRecDepth 20000 in
theorem gJ0_init_db425_J5_getValue_6d5f1_u552J4 : GoodIn wsJ0_init_db425 (va_wsU RJ0 552 RJ4 "java/lang/AbstractStringBuilder" ⟨"java/lang/AbstractStringBuilder", "getValue", "()[B"⟩ yJ5_getValue_6d5f1 wsJ5_getValue_6d5f1) := goodIn_app (goodIn_of _ (by decide +kernel)) ggJ0_init_db425_J5_getValue_6d5f1
set_option maxRecDepth 20000 in
theorem ggJ0_init_db425_J4_length_8abf5 : GoodIn wsJ0_init_db425 wsJ4_length_8abf5 := goodIn_r _ [21, 22, 16, 23, 24, 12, 25, 26, 99, 100, 101, 102] (by decide +kernel) (by decide +kernel)
set_option maxRecDepth 20000 in
theorem gJ0_init_db425_J4_length_8abf5_u549J4 : GoodIn wsJ0_init_db425 (va_wsO RJ0 549 RJ4 "java/lang/AbstractStringBuilder" ⟨"java/lang/AbstractStringBuilder", "length", "()I"⟩ yJ4_length_8abf5 wsJ4_length_8abf5) := goodIn_app (goodIn_of _ (by decide +kernel)) ggJ0_init_db425_J4_length_8abf5
set_option maxRecDepth 20000 in
theorem ggJ0_init_db425_J5_isLatin1_aae02 : GoodIn wsJ0_init_db425 wsJ5_isLatin1_aae02 := goodIn_r _ [31, 32, 33, 99, 100, 101, 102] (by decide +kernel) (by decide +kernel)
set_option maxRecDepth 20000 in
theorem gJ0_init_db425_J5_isLatin1_aae02_u1047J4 : GoodIn wsJ0_init_db425 (va_wsU RJ0 1047 RJ4 "java/lang/AbstractStringBuilder" ⟨"java/lang/AbstractStringBuilder", "isLatin1", "()Z"⟩ yJ5_isLatin1_aae02 wsJ5_isLatin1_aae02) := goodIn_app (goodIn_of _ (by decide +kernel)) ggJ0_init_db425_J5_isLatin1_aae02
set_option maxRecDepth 20000 in
theorem ggJ0_init_db425_J7_copyOfRange_39247 : GoodIn wsJ0_init_db425 wsJ7_copyOfRange_39247 := goodIn_r _ [37, 38, 39, 40, 41, 42, 43, 44, 45, 36, 46, 47, 48, 49, 50, 51, 52, 53, 54, 55, 56, 57, 58] (by decide +kernel) (by decide +kernel)
set_option maxRecDepth 20000 in
theorem gJ0_init_db425_J7_copyOfRange_39247 : GoodIn wsJ0_init_db425 (va_wsS RJ0 54 yJ7_copyOfRange_39247 wsJ7_copyOfRange_39247) := goodIn_app (goodIn_of _ (by decide +kernel)) ggJ0_init_db425_J7_copyOfRange_39247
theorem dJ0_init_db425_0 : decode cJ0_init_db425 0 = .ok (.aload_n 0, 1) := by decide +kernel
theorem dJ0_init_db425_1 : decode cJ0_init_db425 1 = .ok (.invokespecial 1, 3) := by decide +kernel
theorem dJ0_init_db425_4 : decode cJ0_init_db425 4 = .ok (.aload_n 1, 1) := by decide +kernel
theorem dJ0_init_db425_5 : decode cJ0_init_db425 5 = .ok (.invokevirtual 552, 3) := by decide +kernel
theorem dJ0_init_db425_8 : decode cJ0_init_db425 8 = .ok (.astore_n 3, 1) := by decide +kernel
theorem dJ0_init_db425_9 : decode cJ0_init_db425 9 = .ok (.aload_n 1, 1) := by decide +kernel
theorem dJ0_init_db425_10 : decode cJ0_init_db425 10 = .ok (.invokevirtual 549, 3) := by decide +kernel
theorem dJ0_init_db425_13 : decode cJ0_init_db425 13 = .ok (.istore 4, 2) := by decide +kernel
theorem dJ0_init_db425_15 : decode cJ0_init_db425 15 = .ok (.aload_n 1, 1) := by decide +kernel
theorem dJ0_init_db425_16 : decode cJ0_init_db425 16 = .ok (.invokevirtual 1047, 3) := by decide +kernel
theorem dJ0_init_db425_19 : decode cJ0_init_db425 19 = .ok (.ifCond .eq 22, 3) := by decide +kernel
theorem dJ0_init_db425_22 : decode cJ0_init_db425 22 = .ok (.aload_n 0, 1) := by decide +kernel
theorem dJ0_init_db425_23 : decode cJ0_init_db425 23 = .ok (.iconst 0, 1) := by decide +kernel
theorem dJ0_init_db425_24 : decode cJ0_init_db425 24 = .ok (.putfield 15, 3) := by decide +kernel
theorem dJ0_init_db425_27 : decode cJ0_init_db425 27 = .ok (.aload_n 0, 1) := by decide +kernel
theorem dJ0_init_db425_28 : decode cJ0_init_db425 28 = .ok (.aload_n 3, 1) := by decide +kernel
theorem dJ0_init_db425_29 : decode cJ0_init_db425 29 = .ok (.iconst 0, 1) := by decide +kernel
theorem dJ0_init_db425_30 : decode cJ0_init_db425 30 = .ok (.iload 4, 2) := by decide +kernel
theorem dJ0_init_db425_32 : decode cJ0_init_db425 32 = .ok (.invokestatic 54, 3) := by decide +kernel
theorem dJ0_init_db425_35 : decode cJ0_init_db425 35 = .ok (.putfield 9, 3) := by decide +kernel
theorem dJ0_init_db425_38 : decode cJ0_init_db425 38 = .ok (.goto 59, 3) := by decide +kernel
theorem dJ0_init_db425_97 : decode cJ0_init_db425 97 = .ok (.return_, 1) := by decide +kernel
set_option maxRecDepth 20000 in
theorem ggJ0_checkOffset_df160_J3_checkFromToIndex_8c36e : GoodIn wsJ0_checkOffset_df160 wsJ3_checkFromToIndex_8c36e := goodIn_r _ [5] (by decide +kernel) (by decide +kernel)
set_option maxRecDepth 20000 in
theorem gJ0_checkOffset_df160_J3_checkFromToIndex_8c36e : GoodIn wsJ0_checkOffset_df160 (va_wsS RJ0 1062 yJ3_checkFromToIndex_8c36e wsJ3_checkFromToIndex_8c36e) := goodIn_app (goodIn_of _ (by decide +kernel)) ggJ0_checkOffset_df160_J3_checkFromToIndex_8c36e
theorem dJ0_checkOffset_df160_0 : decode cJ0_checkOffset_df160 0 = .ok (.iload_n 0, 1) := by decide +kernel
theorem dJ0_checkOffset_df160_1 : decode cJ0_checkOffset_df160 1 = .ok (.iload_n 1, 1) := by decide +kernel
theorem dJ0_checkOffset_df160_2 : decode cJ0_checkOffset_df160 2 = .ok (.iload_n 1, 1) := by decide +kernel
theorem dJ0_checkOffset_df160_3 : decode cJ0_checkOffset_df160 3 = .ok (.getstatic 1053, 3) := by decide +kernel
theorem dJ0_checkOffset_df160_6 : decode cJ0_checkOffset_df160 6 = .ok (.invokestatic 1062, 3) := by decide +kernel
theorem dJ0_checkOffset_df160_9 : decode cJ0_checkOffset_df160 9 = .ok (.pop, 1) := by decide +kernel
theorem dJ0_checkOffset_df160_10 : decode cJ0_checkOffset_df160 10 = .ok (.return_, 1) := by decide +kernel
set_option maxRecDepth 20000 in
theorem ggJ4_init_da8c8_J5_init_d00df : GoodIn wsJ4_init_da8c8 wsJ5_init_d00df := goodIn_r _ [4, 5, 6, 7, 8, 9, 10, 11, 12, 13, 14, 15, 16, 17, 18, 19, 20, 21, 22, 23] (by decide +kernel) (by decide +kernel)
set_option maxRecDepth 20000 in
theorem gJ4_init_da8c8_J5_init_d00df : GoodIn wsJ4_init_da8c8 (wsJ5_init_d00df) := ggJ4_init_da8c8_J5_init_d00df
theorem dJ4_init_da8c8_0 : decode cJ4_init_da8c8 0 = .ok (.aload_n 0, 1) := by decide +kernel
theorem dJ4_init_da8c8_1 : decode cJ4_init_da8c8 1 = .ok (.bipush 16, 2) := by decide +kernel
theorem dJ4_init_da8c8_3 : decode cJ4_init_da8c8 3 = .ok (.invokespecial 1, 3) := by decide +kernel
theorem dJ4_init_da8c8_6 : decode cJ4_init_da8c8 6 = .ok (.return_, 1) := by decide +kernel
set_option maxRecDepth 20000 in
theorem ggJ4_insert_a3ee8_J5_insert_00e82 : GoodIn wsJ4_insert_a3ee8 wsJ5_insert_00e82 := goodIn_r _ [6, 7, 8, 9, 10, 11, 12, 13, 14, 15, 16, 17, 18, 19, 20, 21, 5, 22, 23, 24, 25, 26, 27, 28, 29, 30, 31, 32, 33, 34, 35, 36, 37, 38, 39, 40, 41, 42, 43, 44, 45, 46, 47, 48, 49, 50, 51, 52, 53, 54, 55, 56, 57, 58, 59, 60, 61, 62, 63, 64, 65, 66, 67, 68, 69, 70, 71, 72, 73, 74, 75, 76, 77, 78, 79, 80, 81, 82, 83, 84, 85, 86, 87, 88, 89, 90, 91, 92, 93, 94, 95, 96, 97, 98, 99, 100, 101, 102, 103, 104, 105, 106, 107, 108, 109, 110, 111, 112, 113, 114, 115, 116, 117, 118, 119, 120, 121, 122, 123, 124, 125, 126, 127, 128] (by decide +kernel) (by decide +kernel)
set_option maxRecDepth 20000 in
theorem gJ4_insert_a3ee8_J5_insert_00e82_s101 : GoodIn wsJ4_insert_a3ee8 (va_wsSU RJ4 101 yJ5_insert_00e82 wsJ5_insert_00e82) := goodIn_app (goodIn_of _ (by decide +kernel)) ggJ4_insert_a3ee8_J5_insert_00e82
theorem dJ4_insert_a3ee8_0 : decode cJ4_insert_a3ee8 0 = .ok (.aload_n 0, 1) := by decide +kernel
theorem dJ4_insert_a3ee8_1 : decode cJ4_insert_a3ee8 1 = .ok (.iload_n 1, 1) := by decide +kernel
theorem dJ4_insert_a3ee8_2 : decode cJ4_insert_a3ee8 2 = .ok (.iload_n 2, 1) := by decide +kernel
theorem dJ4_insert_a3ee8_3 : decode cJ4_insert_a3ee8 3 = .ok (.invokespecial 101, 3) := by decide +kernel
theorem dJ4_insert_a3ee8_6 : decode cJ4_insert_a3ee8 6 = .ok (.pop, 1) := by decide +kernel
theorem dJ4_insert_a3ee8_7 : decode cJ4_insert_a3ee8 7 = .ok (.aload_n 0, 1) := by decide +kernel
theorem dJ4_insert_a3ee8_8 : decode cJ4_insert_a3ee8 8 = .ok (.areturn, 1) := by decide +kernel
set_option maxRecDepth 20000 in
theorem ggJ4_toString_0e30d_J0_init_81219 : GoodIn wsJ4_toString_0e30d wsJ0_init_81219 := goodIn_r _ [6, 7, 8, 3, 9, 10, 11, 12, 13, 14, 15, 16, 17, 18, 19, 20, 21, 22, 23, 24, 25, 26, 27, 28, 29, 30, 31, 32, 33, 34, 35, 36, 37, 38, 39, 40, 41, 42, 43, 44, 45, 46, 47, 48, 49, 50, 51, 52, 53, 54, 55, 56, 57, 58, 59, 60, 61, 62, 63, 64, 65, 66, 67, 68, 69, 70, 71, 72, 73, 74, 75, 76, 77, 78, 79, 80, 81, 82, 83, 84, 85, 86, 87, 88, 89, 90, 91, 92, 93, 94, 95, 96, 97, 98, 99, 100, 101, 102, 103, 104, 105, 106, 107, 108, 109, 110] (by decide +kernel) (by decide +kernel)
set_option maxRecDepth 20000 in
theorem gJ4_toString_0e30d_J0_init_81219 : GoodIn wsJ4_toString_0e30d (wsJ0_init_81219) := ggJ4_toString_0e30d_J0_init_81219
theorem dJ4_toString_0e30d_0 : decode cJ4_toString_0e30d 0 = .ok (.new 18, 3) := by decide +kernel
theorem dJ4_toString_0e30d_3 : decode cJ4_toString_0e30d 3 = .ok (.dup, 1) := by decide +kernel
theorem dJ4_toString_0e30d_4 : decode cJ4_toString_0e30d 4 = .ok (.aload_n 0, 1) := by decide +kernel
theorem dJ4_toString_0e30d_5 : decode cJ4_toString_0e30d 5 = .ok (.invokespecial 137, 3) := by decide +kernel
theorem dJ4_toString_0e30d_8 : decode cJ4_toString_0e30d 8 = .ok (.areturn, 1) := by decide +kernel
set_option maxRecDepth 20000 in
theorem ggJ4_length_8abf5_J5_length_8abf5 : GoodIn wsJ4_length_8abf5 wsJ5_length_8abf5 := goodIn_r _ [6, 7, 8, 9, 10, 11] (by decide +kernel) (by decide +kernel)
set_option maxRecDepth 20000 in
theorem gJ4_length_8abf5_J5_length_8abf5_s343 : GoodIn wsJ4_length_8abf5 (va_wsSU RJ4 343 yJ5_length_8abf5 wsJ5_length_8abf5) := goodIn_app (goodIn_of _ (by decide +kernel)) ggJ4_length_8abf5_J5_length_8abf5
theorem dJ4_length_8abf5_0 : decode cJ4_length_8abf5 0 = .ok (.aload_n 0, 1) := by decide +kernel
theorem dJ4_length_8abf5_1 : decode cJ4_length_8abf5 1 = .ok (.invokespecial 343, 3) := by decide +kernel
theorem dJ4_length_8abf5_4 : decode cJ4_length_8abf5 4 = .ok (.ireturn, 1) := by decide +kernel
theorem dJ1_canEncode_fc78d_0 : decode cJ1_canEncode_fc78d 0 = .ok (.iload_n 0, 1) := by decide +kernel
theorem dJ1_canEncode_fc78d_1 : decode cJ1_canEncode_fc78d 1 = .ok (.sipush 255, 3) := by decide +kernel
theorem dJ1_canEncode_fc78d_4 : decode cJ1_canEncode_fc78d 4 = .ok (.if_icmp .gt 7, 3) := by decide +kernel
theorem dJ1_canEncode_fc78d_7 : decode cJ1_canEncode_fc78d 7 = .ok (.iconst 1, 1) := by decide +kernel
theorem dJ1_canEncode_fc78d_8 : decode cJ1_canEncode_fc78d 8 = .ok (.goto 4, 3) := by decide +kernel
theorem dJ1_canEncode_fc78d_11 : decode cJ1_canEncode_fc78d 11 = .ok (.iconst 0, 1) := by decide +kernel
theorem dJ1_canEncode_fc78d_12 : decode cJ1_canEncode_fc78d 12 = .ok (.ireturn, 1) := by decide +kernel
theorem dJ7_checkLength_df160_0 : decode cJ7_checkLength_df160 0 = .ok (.iload_n 1, 1) := by decide +kernel
theorem dJ7_checkLength_df160_1 : decode cJ7_checkLength_df160 1 = .ok (.iload_n 0, 1) := by decide +kernel
theorem dJ7_checkLength_df160_2 : decode cJ7_checkLength_df160 2 = .ok (.if_icmp .ge 35, 3) := by decide +kernel
theorem dJ7_checkLength_df160_37 : decode cJ7_checkLength_df160 37 = .ok (.return_, 1) := by decide +kernel
set_option maxRecDepth 20000 in
theorem ggJ7_copyOfRange_39247_J7_copyOfRangeByte_39247 : GoodIn wsJ7_copyOfRange_39247 wsJ7_copyOfRangeByte_39247 := goodIn_r _ [10, 11, 12, 13, 14, 15, 16, 17, 18, 19, 20, 21, 9, 22] (by decide +kernel) (by decide +kernel)
set_option maxRecDepth 20000 in
theorem gJ7_copyOfRange_39247_J7_copyOfRangeByte_39247 : GoodIn wsJ7_copyOfRange_39247 (va_wsS RJ7 339 yJ7_copyOfRangeByte_39247 wsJ7_copyOfRangeByte_39247) := goodIn_app (goodIn_of _ (by decide +kernel)) ggJ7_copyOfRange_39247_J7_copyOfRangeByte_39247
theorem dJ7_copyOfRange_39247_0 : decode cJ7_copyOfRange_39247 0 = .ok (.iload_n 1, 1) := by decide +kernel
theorem dJ7_copyOfRange_39247_1 : decode cJ7_copyOfRange_39247 1 = .ok (.ifCond .ne 9, 3) := by decide +kernel
theorem dJ7_copyOfRange_39247_4 : decode cJ7_copyOfRange_39247 4 = .ok (.iload_n 2, 1) := by decide +kernel
theorem dJ7_copyOfRange_39247_5 : decode cJ7_copyOfRange_39247 5 = .ok (.aload_n 0, 1) := by decide +kernel
theorem dJ7_copyOfRange_39247_6 : decode cJ7_copyOfRange_39247 6 = .ok (.arraylength, 1) := by decide +kernel
theorem dJ7_copyOfRange_39247_7 : decode cJ7_copyOfRange_39247 7 = .ok (.if_icmp .eq 10, 3) := by decide +kernel
theorem dJ7_copyOfRange_39247_10 : decode cJ7_copyOfRange_39247 10 = .ok (.aload_n 0, 1) := by decide +kernel
theorem dJ7_copyOfRange_39247_11 : decode cJ7_copyOfRange_39247 11 = .ok (.iload_n 1, 1) := by decide +kernel
theorem dJ7_copyOfRange_39247_12 : decode cJ7_copyOfRange_39247 12 = .ok (.iload_n 2, 1) := by decide +kernel
theorem dJ7_copyOfRange_39247_13 : decode cJ7_copyOfRange_39247 13 = .ok (.invokestatic 339, 3) := by decide +kernel
theorem dJ7_copyOfRange_39247_16 : decode cJ7_copyOfRange_39247 16 = .ok (.areturn, 1) := by decide +kernel
set_option maxRecDepth 20000 in
theorem ggJ7_copyOfRangeByte_39247_J7_checkLength_df160 : GoodIn wsJ7_copyOfRangeByte_39247 wsJ7_checkLength_df160 := goodIn_r _ [13] (by decide +kernel) (by decide +kernel)
set_option maxRecDepth 20000 in
theorem gJ7_copyOfRangeByte_39247_J7_checkLength_df160 : GoodIn wsJ7_copyOfRangeByte_39247 (va_wsS RJ7 343 yJ7_checkLength_df160 wsJ7_checkLength_df160) := goodIn_app (goodIn_of _ (by decide +kernel)) ggJ7_copyOfRangeByte_39247_J7_checkLength_df160
theorem dJ7_copyOfRangeByte_39247_0 : decode cJ7_copyOfRangeByte_39247 0 = .ok (.iload_n 1, 1) := by decide +kernel
theorem dJ7_copyOfRangeByte_39247_1 : decode cJ7_copyOfRangeByte_39247 1 = .ok (.iload_n 2, 1) := by decide +kernel
theorem dJ7_copyOfRangeByte_39247_2 : decode cJ7_copyOfRangeByte_39247 2 = .ok (.invokestatic 343, 3) := by decide +kernel
theorem dJ7_copyOfRangeByte_39247_5 : decode cJ7_copyOfRangeByte_39247 5 = .ok (.iload_n 2, 1) := by decide +kernel
theorem dJ7_copyOfRangeByte_39247_6 : decode cJ7_copyOfRangeByte_39247 6 = .ok (.iload_n 1, 1) := by decide +kernel
theorem dJ7_copyOfRangeByte_39247_7 : decode cJ7_copyOfRangeByte_39247 7 = .ok (.isub, 1) := by decide +kernel
theorem dJ7_copyOfRangeByte_39247_8 : decode cJ7_copyOfRangeByte_39247 8 = .ok (.istore_n 3, 1) := by decide +kernel
theorem dJ7_copyOfRangeByte_39247_9 : decode cJ7_copyOfRangeByte_39247 9 = .ok (.iload_n 3, 1) := by decide +kernel
theorem dJ7_copyOfRangeByte_39247_10 : decode cJ7_copyOfRangeByte_39247 10 = .ok (.newarray .byte, 2) := by decide +kernel
theorem dJ7_copyOfRangeByte_39247_12 : decode cJ7_copyOfRangeByte_39247 12 = .ok (.astore 4, 2) := by decide +kernel
theorem dJ7_copyOfRangeByte_39247_14 : decode cJ7_copyOfRangeByte_39247 14 = .ok (.aload_n 0, 1) := by decide +kernel
theorem dJ7_copyOfRangeByte_39247_15 : decode cJ7_copyOfRangeByte_39247 15 = .ok (.iload_n 1, 1) := by decide +kernel
theorem dJ7_copyOfRangeByte_39247_16 : decode cJ7_copyOfRangeByte_39247 16 = .ok (.aload 4, 2) := by decide +kernel
theorem dJ7_copyOfRangeByte_39247_18 : decode cJ7_copyOfRangeByte_39247 18 = .ok (.iconst 0, 1) := by decide +kernel
theorem dJ7_copyOfRangeByte_39247_19 : decode cJ7_copyOfRangeByte_39247 19 = .ok (.aload_n 0, 1) := by decide +kernel
theorem dJ7_copyOfRangeByte_39247_20 : decode cJ7_copyOfRangeByte_39247 20 = .ok (.arraylength, 1) := by decide +kernel
theorem dJ7_copyOfRangeByte_39247_21 : decode cJ7_copyOfRangeByte_39247 21 = .ok (.iload_n 1, 1) := by decide +kernel
theorem dJ7_copyOfRangeByte_39247_22 : decode cJ7_copyOfRangeByte_39247 22 = .ok (.isub, 1) := by decide +kernel
theorem dJ7_copyOfRangeByte_39247_23 : decode cJ7_copyOfRangeByte_39247 23 = .ok (.iload_n 3, 1) := by decide +kernel
theorem dJ7_copyOfRangeByte_39247_24 : decode cJ7_copyOfRangeByte_39247 24 = .ok (.invokestatic 304, 3) := by decide +kernel
theorem dJ7_copyOfRangeByte_39247_27 : decode cJ7_copyOfRangeByte_39247 27 = .ok (.invokestatic 150, 3) := by decide +kernel
theorem dJ7_copyOfRangeByte_39247_30 : decode cJ7_copyOfRangeByte_39247 30 = .ok (.aload 4, 2) := by decide +kernel
theorem dJ7_copyOfRangeByte_39247_32 : decode cJ7_copyOfRangeByte_39247 32 = .ok (.areturn, 1) := by decide +kernel
theorem dJ3_checkFromToIndex_8c36e_0 : decode cJ3_checkFromToIndex_8c36e 0 = .ok (.iload_n 0, 1) := by decide +kernel
theorem dJ3_checkFromToIndex_8c36e_1 : decode cJ3_checkFromToIndex_8c36e 1 = .ok (.ifCond .lt 13, 3) := by decide +kernel
theorem dJ3_checkFromToIndex_8c36e_4 : decode cJ3_checkFromToIndex_8c36e 4 = .ok (.iload_n 0, 1) := by decide +kernel
theorem dJ3_checkFromToIndex_8c36e_5 : decode cJ3_checkFromToIndex_8c36e 5 = .ok (.iload_n 1, 1) := by decide +kernel
theorem dJ3_checkFromToIndex_8c36e_6 : decode cJ3_checkFromToIndex_8c36e 6 = .ok (.if_icmp .gt 8, 3) := by decide +kernel
theorem dJ3_checkFromToIndex_8c36e_9 : decode cJ3_checkFromToIndex_8c36e 9 = .ok (.iload_n 1, 1) := by decide +kernel
theorem dJ3_checkFromToIndex_8c36e_10 : decode cJ3_checkFromToIndex_8c36e 10 = .ok (.iload_n 2, 1) := by decide +kernel
theorem dJ3_checkFromToIndex_8c36e_11 : decode cJ3_checkFromToIndex_8c36e 11 = .ok (.if_icmp .le 11, 3) := by decide +kernel
theorem dJ3_checkFromToIndex_8c36e_22 : decode cJ3_checkFromToIndex_8c36e 22 = .ok (.iload_n 0, 1) := by decide +kernel
theorem dJ3_checkFromToIndex_8c36e_23 : decode cJ3_checkFromToIndex_8c36e 23 = .ok (.ireturn, 1) := by decide +kernel
theorem dfJ0 : ∀ j, j < 4 → defaultValue (tyJ0 j) = vp_V [.null, .int 0, .int 0, .int 0] j := by
  intro j hj
  rcases (show j = 0 ∨ j = 1 ∨ j = 2 ∨ j = 3 by omega) with rfl | rfl | rfl | rfl <;> rfl
set_option maxHeartbeats 4000000 in
set_option maxRecDepth 100000 in
theorem c_SB_isLatin1 (l : Launch) (dC : Nat → ClassId) (dI : Nat → Nat → Nat) (d : Nat) (tc : Nat) (ad : Nat → Nat) (y : Nat) (bv : Nat) (z : Int32) : Met l yJ5_isLatin1_aae02 wsJ5_isLatin1_aae02 ({ frames := 0, cells := 0, slots := 0, locals := 0 }) (va_Pc [.ref y] (PY dC dI d tc ad [(y, .inr (1, [.ref bv, .int 0, .int 0, .int z]))] [])) (vp_Si (fun r => r = 1)) 0 0 (fun _ => False) := by
  refine Met.ofW (cc := cJ5_isLatin1_aae02) (maxL := 1) (ret := (some .boolean)) (by decide) rfl ?_
  intro p e s m args below meth c s₁ B hml hv
  obtain ⟨rfl, hP, hK, hF, hZ⟩ := hv
  have hx := B.exec
  have hb := B.bytes
  have hr := B.returns
  have hts := atoms_spec (ws := wsJ5_isLatin1_aae02) B.pre
  have hown : s.vm.findClass RJ5 = some m.cls := findClass_of_methodNamed B.named
  have hlocks := B.notSynchronized
  have hl := lv_entry ([.ref y]) (n := 1) (Nat.le_of_ble_eq_true rfl)
  rw [lg_entry_eq]
  generalize (lg_sl ([.ref y]) ++ List.replicate (1 - (lg_sl ([.ref y])).length) Slot.unset).toArray = ls at hl ⊢
  have hl : lv_has ls 1 [(0, .ref y)] := hl
  have hS : va_S (fun _ => False) s.heap s.heap [] := va_S.rf
  refine va_gets hx hb hZ.2.2.2.2.2.2.1 hS hown (hts (.fieldLink RJ5 18 "java/lang/String" "COMPACT_STRINGS" "Z") (List.mem_of_getElem? (i := 1) rfl)) (fun _ h9 => h9) dJ5_isLatin1_aae02_0 ?_
  refine lv_if_eq (tgt := 17) hx hb dJ5_isLatin1_aae02_3 (by decide) (fun c_1 => absurd c_1 (by decide)) (fun _ => ?_)
  refine lv_aload_n hx hb dJ5_isLatin1_aae02_6 rfl (lv_at hl 0 rfl) ?_
  refine va_get (D := (dC, dI)) (ci := 1) (v := .int 0) (C := RJ4) (T := TJ4) (N := 4) hx hb hts (fun _ h9 => List.mem_cons_of_mem _ (List.mem_append_right _ (h9))) hown hK hP 0 rfl rfl 1 (by decide) (hts (.fieldLink RJ5 22 "java/lang/AbstractStringBuilder" "coder" "B") (List.mem_of_getElem? (i := 2) rfl)) (fun _ h9 => h9) rfl dJ5_isLatin1_aae02_7 ?_
  refine lv_if_ne (tgt := 17) hx hb dJ5_isLatin1_aae02_10 (by decide) (fun c_2 => absurd (by decide) c_2) (fun _ => ?_)
  refine lv_iconst (v := 1) hx hb dJ5_isLatin1_aae02_13 (by decide) ?_
  refine lv_goto (tgt := 18) hx hb dJ5_isLatin1_aae02_14 (by decide) ?_
  exact W.zret (v := 1) hx hb hr (by decide) (fun t ht hW => ⟨_, rfl, rfl, ht⟩) (fun _ h9 => absurd h9 List.not_mem_nil) dJ5_isLatin1_aae02_18

def sp_J_canEncode (c1 : Int32) : Int32 := if 255 < c1 then 0 else 1
set_option maxHeartbeats 4000000 in
set_option maxRecDepth 100000 in
theorem c_J_canEncode (l : Launch) (dC : Nat → ClassId) (dI : Nat → Nat → Nat) (c1 : Int32) : Met l yJ1_canEncode_fc78d wsJ1_canEncode_fc78d ({ frames := 0, cells := 0, slots := 0, locals := 0 }) (va_Pc [.int c1] (PS dC dI [] [])) (vp_Si (fun r => r = sp_J_canEncode c1)) 0 0 (fun _ => False) := by
  refine Met.ofW (cc := cJ1_canEncode_fc78d) (maxL := 1) (ret := (some .boolean)) (by decide) rfl ?_
  intro p e s m args below meth c s₁ B hml hv
  obtain ⟨rfl, hP, hK, hF⟩ := hv
  have hx := B.exec
  have hb := B.bytes
  have hr := B.returns
  have hts := atoms_spec (ws := wsJ1_canEncode_fc78d) B.pre
  have hown : s.vm.findClass RJ1 = some m.cls := findClass_of_methodNamed B.named
  have hlocks := B.notSynchronized
  have hl := lv_entry ([.int c1]) (n := 1) (Nat.le_of_ble_eq_true rfl)
  rw [lg_entry_eq]
  generalize (lg_sl ([.int c1]) ++ List.replicate (1 - (lg_sl ([.int c1])).length) Slot.unset).toArray = ls at hl ⊢
  have hl : lv_has ls 1 [(0, .int c1)] := hl
  refine lv_iload_n hx hb dJ1_canEncode_fc78d_0 rfl (lv_at hl 0 rfl) ?_
  refine lv_sipush (v := 255) hx hb dJ1_canEncode_fc78d_1 (by decide) ?_
  refine lv_icmp_gt (tgt := 11) hx hb dJ1_canEncode_fc78d_4 (by decide) (fun c_1 => ?_) (fun c_1 => ?_)
  · skip
    refine lv_iconst (v := 0) hx hb dJ1_canEncode_fc78d_11 (by decide) ?_
    exact W.zret (v := 0) hx hb hr (by decide) (fun t ht hW => ⟨_, rfl, (by simp only [sp_J_canEncode, if_pos c_1]), ht⟩) (fun _ h9 => absurd h9 List.not_mem_nil) dJ1_canEncode_fc78d_12
  · skip
    refine lv_iconst (v := 1) hx hb dJ1_canEncode_fc78d_7 (by decide) ?_
    refine lv_goto (tgt := 12) hx hb dJ1_canEncode_fc78d_8 (by decide) ?_
    exact W.zret (v := 1) hx hb hr (by decide) (fun t ht hW => ⟨_, rfl, (by simp only [sp_J_canEncode, if_neg c_1]), ht⟩) (fun _ h9 => absurd h9 List.not_mem_nil) dJ1_canEncode_fc78d_12

set_option maxHeartbeats 4000000 in
set_option maxRecDepth 100000 in
theorem c_SB_getValue (l : Launch) (dC : Nat → ClassId) (dI : Nat → Nat → Nat) (y : Nat) (bv : Nat) (z : Int32) : Met l yJ5_getValue_6d5f1 wsJ5_getValue_6d5f1 ({ frames := 0, cells := 0, slots := 0, locals := 0 }) (va_Pc [.ref y] (PS dC dI [(y, .inr (1, [.ref bv, .int 0, .int 0, .int z]))] [])) (va_Sq (fun r => r = some bv)) 0 0 (fun _ => False) := by
  refine Met.ofW (cc := cJ5_getValue_6d5f1) (maxL := 1) (ret := (some (.array .byte))) (by decide) rfl ?_
  intro p e s m args below meth c s₁ B hml hv
  obtain ⟨rfl, hP, hK, hF⟩ := hv
  have hx := B.exec
  have hb := B.bytes
  have hr := B.returns
  have hts := atoms_spec (ws := wsJ5_getValue_6d5f1) B.pre
  have hown : s.vm.findClass RJ5 = some m.cls := findClass_of_methodNamed B.named
  have hlocks := B.notSynchronized
  have hl := lv_entry ([.ref y]) (n := 1) (Nat.le_of_ble_eq_true rfl)
  rw [lg_entry_eq]
  generalize (lg_sl ([.ref y]) ++ List.replicate (1 - (lg_sl ([.ref y])).length) Slot.unset).toArray = ls at hl ⊢
  have hl : lv_has ls 1 [(0, .ref y)] := hl
  refine lv_aload_n hx hb dJ5_getValue_6d5f1_0 rfl (lv_at hl 0 rfl) ?_
  refine va_get (D := (dC, dI)) (ci := 1) (v := .ref bv) (C := RJ4) (T := TJ4) (N := 4) hx hb hts (fun _ h9 => List.mem_cons_of_mem _ (List.mem_append_right _ (h9))) hown hK hP 0 rfl rfl 0 (by decide) (hts (.fieldLink RJ5 15 "java/lang/AbstractStringBuilder" "value" "[B") (List.mem_of_getElem? (i := 1) rfl)) (fun _ h9 => h9) rfl dJ5_getValue_6d5f1_1 ?_
  exact W.aret (v := .ref bv) hx hb hr (Or.inr ⟨_, rfl⟩) (Or.inr ⟨_, rfl⟩) (fun t ht hW => ⟨some bv, rfl, rfl, ht⟩) (fun _ h9 => absurd h9 List.not_mem_nil) dJ5_getValue_6d5f1_4

set_option maxHeartbeats 4000000 in
set_option maxRecDepth 100000 in
theorem c_SB_length5 (l : Launch) (dC : Nat → ClassId) (dI : Nat → Nat → Nat) (y : Nat) (bv : Nat) (z : Int32) : Met l yJ5_length_8abf5 wsJ5_length_8abf5 ({ frames := 0, cells := 0, slots := 0, locals := 0 }) (va_Pc [.ref y] (PS dC dI [(y, .inr (1, [.ref bv, .int 0, .int 0, .int z]))] [])) (vp_Si (fun r => r = z)) 0 0 (fun _ => False) := by
  refine Met.ofW (cc := cJ5_length_8abf5) (maxL := 1) (ret := (some .int)) (by decide) rfl ?_
  intro p e s m args below meth c s₁ B hml hv
  obtain ⟨rfl, hP, hK, hF⟩ := hv
  have hx := B.exec
  have hb := B.bytes
  have hr := B.returns
  have hts := atoms_spec (ws := wsJ5_length_8abf5) B.pre
  have hown : s.vm.findClass RJ5 = some m.cls := findClass_of_methodNamed B.named
  have hlocks := B.notSynchronized
  have hl := lv_entry ([.ref y]) (n := 1) (Nat.le_of_ble_eq_true rfl)
  rw [lg_entry_eq]
  generalize (lg_sl ([.ref y]) ++ List.replicate (1 - (lg_sl ([.ref y])).length) Slot.unset).toArray = ls at hl ⊢
  have hl : lv_has ls 1 [(0, .ref y)] := hl
  refine lv_aload_n hx hb dJ5_length_8abf5_0 rfl (lv_at hl 0 rfl) ?_
  refine va_get (D := (dC, dI)) (ci := 1) (v := .int z) (C := RJ4) (T := TJ4) (N := 4) hx hb hts (fun _ h9 => List.mem_cons_of_mem _ (List.mem_append_right _ (h9))) hown hK hP 0 rfl rfl 3 (by decide) (hts (.fieldLink RJ5 79 "java/lang/AbstractStringBuilder" "count" "I") (List.mem_of_getElem? (i := 1) rfl)) (fun _ h9 => h9) rfl dJ5_length_8abf5_1 ?_
  exact W.iret (v := z) hx hb hr (fun t ht hW => ⟨_, rfl, rfl, ht⟩) (fun _ h9 => absurd h9 List.not_mem_nil) dJ5_length_8abf5_4

set_option maxHeartbeats 4000000 in
set_option maxRecDepth 100000 in
theorem c_SB_length (l : Launch) (dC : Nat → ClassId) (dI : Nat → Nat → Nat) (y : Nat) (bv : Nat) (z : Int32) : Met l yJ4_length_8abf5 wsJ4_length_8abf5 ({ frames := 1, cells := 0, slots := 0, locals := 20 }) (va_Pc [.ref y] (PS dC dI [(y, .inr (1, [.ref bv, .int 0, .int 0, .int z]))] [])) (vp_Si (fun r => r = z)) 0 0 (fun _ => False) := by
  refine Met.ofW (cc := cJ4_length_8abf5) (maxL := 1) (ret := (some .int)) (by decide) rfl ?_
  intro p e s m args below meth c s₁ B hml hv
  obtain ⟨rfl, hP, hK, hF⟩ := hv
  have hx := B.exec
  have hb := B.bytes
  have hr := B.returns
  have hts := atoms_spec (ws := wsJ4_length_8abf5) B.pre
  have hown : s.vm.findClass RJ4 = some m.cls := findClass_of_methodNamed B.named
  have hlocks := B.notSynchronized
  have hl := lv_entry ([.ref y]) (n := 1) (Nat.le_of_ble_eq_true rfl)
  rw [lg_entry_eq]
  generalize (lg_sl ([.ref y]) ++ List.replicate (1 - (lg_sl ([.ref y])).length) Slot.unset).toArray = ls at hl ⊢
  have hl : lv_has ls 1 [(0, .ref y)] := hl
  refine lv_aload_n hx hb dJ4_length_8abf5_0 rfl (lv_at hl 0 rfl) ?_
  refine vp_callSi (va_Run.run (va_runSU (hK.1 1 _ rfl).2 (As := []) (rest := []) ⟨hx, hb, hml, hown, hts⟩ (c_SB_length5 l dC dI y bv z) (va_cwSU 0 hts gJ4_length_8abf5_J5_length_8abf5_s343 rfl rfl rfl (by decide +kernel) ⟨Nat.le_of_ble_eq_true rfl, Nat.le_of_ble_eq_true rfl⟩) ⟨PS_blind, va_recv hK hP (ci := 1) (q0 := 0) rfl rfl, PS_pre hP hK hF⟩ rfl rfl hl.1 rfl (lv_room (Nat.le_of_ble_eq_true rfl)) dJ4_length_8abf5_1 ⟨Nat.le_of_ble_eq_true rfl, Nat.le_of_ble_eq_true rfl⟩)) (fun r_1 hr_1 => ?_)
  replace hr_1 := Eq.symm hr_1
  subst hr_1
  exact W.iret (v := z) hx hb hr (fun t ht hW => ⟨_, rfl, rfl, ht⟩) (fun _ h9 => absurd h9 List.not_mem_nil) dJ4_length_8abf5_4

set_option maxHeartbeats 4000000 in
set_option maxRecDepth 100000 in
theorem c_Pre_cftiN (l : Launch) (dC : Nat → ClassId) (dI : Nat → Nat → Nat) (z : Int32) (hz : ¬ z < 0) : Met l yJ3_checkFromToIndex_8c36e wsJ3_checkFromToIndex_8c36e ({ frames := 0, cells := 0, slots := 0, locals := 0 }) (va_Pc [.int 0, .int z, .int z, .null] (PS dC dI [] [])) (vp_Si (fun r => r = 0)) 0 0 (fun _ => False) := by
  refine Met.ofW (cc := cJ3_checkFromToIndex_8c36e) (maxL := 4) (ret := (some .int)) (by decide) rfl ?_
  intro p e s m args below meth c s₁ B hml hv
  obtain ⟨rfl, hP, hK, hF⟩ := hv
  have hx := B.exec
  have hb := B.bytes
  have hr := B.returns
  have hts := atoms_spec (ws := wsJ3_checkFromToIndex_8c36e) B.pre
  have hown : s.vm.findClass RJ3 = some m.cls := findClass_of_methodNamed B.named
  have hlocks := B.notSynchronized
  have hl := lv_entry ([.int 0, .int z, .int z, .null]) (n := 4) (Nat.le_of_ble_eq_true rfl)
  rw [lg_entry_eq]
  generalize (lg_sl ([.int 0, .int z, .int z, .null]) ++ List.replicate (4 - (lg_sl ([.int 0, .int z, .int z, .null])).length) Slot.unset).toArray = ls at hl ⊢
  have hl : lv_has ls 4 [(0, .int 0), (1, .int z), (2, .int z), (3, .null)] := hl
  refine lv_iload_n hx hb dJ3_checkFromToIndex_8c36e_0 rfl (lv_at hl 0 rfl) ?_
  refine lv_if_lt (tgt := 14) hx hb dJ3_checkFromToIndex_8c36e_1 (by decide) (fun c_1 => absurd c_1 (by decide)) (fun _ => ?_)
  refine lv_iload_n hx hb dJ3_checkFromToIndex_8c36e_4 rfl (lv_at hl 0 rfl) ?_
  refine lv_iload_n hx hb dJ3_checkFromToIndex_8c36e_5 rfl (lv_at hl 1 rfl) ?_
  refine lv_icmp_gt (tgt := 14) hx hb dJ3_checkFromToIndex_8c36e_6 (by decide) (fun c_2 => absurd c_2 hz) (fun _ => ?_)
  refine lv_iload_n hx hb dJ3_checkFromToIndex_8c36e_9 rfl (lv_at hl 1 rfl) ?_
  refine lv_iload_n hx hb dJ3_checkFromToIndex_8c36e_10 rfl (lv_at hl 2 rfl) ?_
  refine lv_icmp_le (tgt := 22) hx hb dJ3_checkFromToIndex_8c36e_11 (by decide) (fun _ => ?_) (fun c_3 => absurd (Int32.le_refl _) c_3)
  refine lv_iload_n hx hb dJ3_checkFromToIndex_8c36e_22 rfl (lv_at hl 0 rfl) ?_
  exact W.iret (v := 0) hx hb hr (fun t ht hW => ⟨_, rfl, rfl, ht⟩) (fun _ h9 => absurd h9 List.not_mem_nil) dJ3_checkFromToIndex_8c36e_23

set_option maxHeartbeats 4000000 in
set_option maxRecDepth 100000 in
theorem c_Pre_cftiR (l : Launch) (dC : Nat → ClassId) (dI : Nat → Nat → Nat) (z : Int32) (fq : Nat) (hz : ¬ z < 0) : Met l yJ3_checkFromToIndex_8c36e wsJ3_checkFromToIndex_8c36e ({ frames := 0, cells := 0, slots := 0, locals := 0 }) (va_Pc [.int 0, .int z, .int z, .ref fq] (PS dC dI [] [])) (vp_Si (fun r => r = 0)) 0 0 (fun _ => False) := by
  refine Met.ofW (cc := cJ3_checkFromToIndex_8c36e) (maxL := 4) (ret := (some .int)) (by decide) rfl ?_
  intro p e s m args below meth c s₁ B hml hv
  obtain ⟨rfl, hP, hK, hF⟩ := hv
  have hx := B.exec
  have hb := B.bytes
  have hr := B.returns
  have hts := atoms_spec (ws := wsJ3_checkFromToIndex_8c36e) B.pre
  have hown : s.vm.findClass RJ3 = some m.cls := findClass_of_methodNamed B.named
  have hlocks := B.notSynchronized
  have hl := lv_entry ([.int 0, .int z, .int z, .ref fq]) (n := 4) (Nat.le_of_ble_eq_true rfl)
  rw [lg_entry_eq]
  generalize (lg_sl ([.int 0, .int z, .int z, .ref fq]) ++ List.replicate (4 - (lg_sl ([.int 0, .int z, .int z, .ref fq])).length) Slot.unset).toArray = ls at hl ⊢
  have hl : lv_has ls 4 [(0, .int 0), (1, .int z), (2, .int z), (3, .ref fq)] := hl
  refine lv_iload_n hx hb dJ3_checkFromToIndex_8c36e_0 rfl (lv_at hl 0 rfl) ?_
  refine lv_if_lt (tgt := 14) hx hb dJ3_checkFromToIndex_8c36e_1 (by decide) (fun c_1 => absurd c_1 (by decide)) (fun _ => ?_)
  refine lv_iload_n hx hb dJ3_checkFromToIndex_8c36e_4 rfl (lv_at hl 0 rfl) ?_
  refine lv_iload_n hx hb dJ3_checkFromToIndex_8c36e_5 rfl (lv_at hl 1 rfl) ?_
  refine lv_icmp_gt (tgt := 14) hx hb dJ3_checkFromToIndex_8c36e_6 (by decide) (fun c_2 => absurd c_2 hz) (fun _ => ?_)
  refine lv_iload_n hx hb dJ3_checkFromToIndex_8c36e_9 rfl (lv_at hl 1 rfl) ?_
  refine lv_iload_n hx hb dJ3_checkFromToIndex_8c36e_10 rfl (lv_at hl 2 rfl) ?_
  refine lv_icmp_le (tgt := 22) hx hb dJ3_checkFromToIndex_8c36e_11 (by decide) (fun _ => ?_) (fun c_3 => absurd (Int32.le_refl _) c_3)
  refine lv_iload_n hx hb dJ3_checkFromToIndex_8c36e_22 rfl (lv_at hl 0 rfl) ?_
  exact W.iret (v := 0) hx hb hr (fun t ht hW => ⟨_, rfl, rfl, ht⟩) (fun _ h9 => absurd h9 List.not_mem_nil) dJ3_checkFromToIndex_8c36e_23

set_option maxHeartbeats 4000000 in
set_option maxRecDepth 100000 in
theorem c_Str_checkOffset (l : Launch) (dC : Nat → ClassId) (dI : Nat → Nat → Nat) (d : Nat) (tc : Nat) (ad : Nat → Nat) (z : Int32) (hz : ¬ z < 0) : Met l yJ0_checkOffset_df160 wsJ0_checkOffset_df160 ({ frames := 1, cells := 0, slots := 0, locals := 23 }) (va_Pc [.int 0, .int z] (PY dC dI d tc ad [] [])) (va_Sv (fun _ => True)) 0 0 (fun _ => False) := by
  refine Met.ofW (cc := cJ0_checkOffset_df160) (maxL := 2) (ret := none) (by decide) rfl ?_
  intro p e s m args below meth c s₁ B hml hv
  obtain ⟨rfl, hP, hK, hF, hZ⟩ := hv
  have hx := B.exec
  have hb := B.bytes
  have hr := B.returns
  have hts := atoms_spec (ws := wsJ0_checkOffset_df160) B.pre
  have hown : s.vm.findClass RJ0 = some m.cls := findClass_of_methodNamed B.named
  have hlocks := B.notSynchronized
  have hl := lv_entry ([.int 0, .int z]) (n := 2) (Nat.le_of_ble_eq_true rfl)
  rw [lg_entry_eq]
  generalize (lg_sl ([.int 0, .int z]) ++ List.replicate (2 - (lg_sl ([.int 0, .int z])).length) Slot.unset).toArray = ls at hl ⊢
  have hl : lv_has ls 2 [(0, .int 0), (1, .int z)] := hl
  have hS : va_S (fun _ => False) s.heap s.heap [] := va_S.rf
  refine lv_iload_n hx hb dJ0_checkOffset_df160_0 rfl (lv_at hl 0 rfl) ?_
  refine lv_iload_n hx hb dJ0_checkOffset_df160_1 rfl (lv_at hl 1 rfl) ?_
  refine lv_iload_n hx hb dJ0_checkOffset_df160_2 rfl (lv_at hl 1 rfl) ?_
  rcases hZ.2.2.2.2.2.2.2 with hq | ⟨tq, hq⟩
  · refine va_gets hx hb hq hS hown (hts (.fieldLink RJ0 1053 "jdk/internal/util/Preconditions" "SIOOBE_FORMATTER" "Ljava/util/function/BiFunction;") (List.mem_of_getElem? (i := 1) rfl)) (fun _ h9 => h9) dJ0_checkOffset_df160_3 ?_
    refine vp_callSi (va_Run.run (va_runS (As := [.int 0, .int z, .int z, .null]) (rest := []) ⟨hx, hb, hml, hown, hts⟩ (c_Pre_cftiN l dC dI z hz) (va_cwS 4 hts gJ0_checkOffset_df160_J3_checkFromToIndex_8c36e rfl rfl rfl (by decide +kernel) ⟨Nat.le_of_ble_eq_true rfl, Nat.le_of_ble_eq_true rfl⟩) ⟨PS_blind, PS_pre hP hK hF⟩ rfl rfl hl.1 rfl (lv_room (Nat.le_of_ble_eq_true rfl)) dJ0_checkOffset_df160_6 ⟨Nat.le_of_ble_eq_true rfl, Nat.le_of_ble_eq_true rfl⟩)) (fun r_1 hr_1 => ?_)
    subst hr_1
    refine lv_pop hx hb dJ0_checkOffset_df160_9 rfl ?_
    exact W.vret hx hb hr (fun t ht hW => ⟨rfl, trivial, ht⟩) (fun _ h9 => absurd h9 List.not_mem_nil) dJ0_checkOffset_df160_10
  · refine va_gets hx hb hq hS hown (hts (.fieldLink RJ0 1053 "jdk/internal/util/Preconditions" "SIOOBE_FORMATTER" "Ljava/util/function/BiFunction;") (List.mem_of_getElem? (i := 1) rfl)) (fun _ h9 => h9) dJ0_checkOffset_df160_3 ?_
    refine vp_callSi (va_Run.run (va_runS (As := [.int 0, .int z, .int z, .ref tq]) (rest := []) ⟨hx, hb, hml, hown, hts⟩ (c_Pre_cftiR l dC dI z tq hz) (va_cwS 4 hts gJ0_checkOffset_df160_J3_checkFromToIndex_8c36e rfl rfl rfl (by decide +kernel) ⟨Nat.le_of_ble_eq_true rfl, Nat.le_of_ble_eq_true rfl⟩) ⟨PS_blind, PS_pre hP hK hF⟩ rfl rfl hl.1 rfl (lv_room (Nat.le_of_ble_eq_true rfl)) dJ0_checkOffset_df160_6 ⟨Nat.le_of_ble_eq_true rfl, Nat.le_of_ble_eq_true rfl⟩)) (fun r_2 hr_2 => ?_)
    subst hr_2
    refine lv_pop hx hb dJ0_checkOffset_df160_9 rfl ?_
    exact W.vret hx hb hr (fun t ht hW => ⟨rfl, trivial, ht⟩) (fun _ h9 => absurd h9 List.not_mem_nil) dJ0_checkOffset_df160_10

set_option maxHeartbeats 4000000 in
set_option maxRecDepth 100000 in
theorem c_SB_ensure (l : Launch) (dC : Nat → ClassId) (dI : Nat → Nat → Nat) (y : Nat) (bv : Nat) (kB : ClassId) (fb : Nat → Int32) (z : Int32) (c1 : Int32) (hc : c1 - 16 ≤ 0) : Met l yJ5_ensureCapacityInternal_d00df wsJ5_ensureCapacityInternal_d00df ({ frames := 0, cells := 0, slots := 0, locals := 0 }) (va_Pc [.ref y, .int c1] (PS dC dI [(y, .inr (1, [.ref bv, .int 0, .int 0, .int z])), (bv, .inl (kB, 16, .inl fb))] [(kB, .byte)])) (va_Sv (fun _ => True)) 0 0 (fun _ => False) := by
  refine Met.ofW (cc := cJ5_ensureCapacityInternal_d00df) (maxL := 3) (ret := none) (by decide) rfl ?_
  intro p e s m args below meth c s₁ B hml hv
  obtain ⟨rfl, hP, hK, hF⟩ := hv
  have hx := B.exec
  have hb := B.bytes
  have hr := B.returns
  have hts := atoms_spec (ws := wsJ5_ensureCapacityInternal_d00df) B.pre
  have hown : s.vm.findClass RJ5 = some m.cls := findClass_of_methodNamed B.named
  have hlocks := B.notSynchronized
  have hl := lv_entry ([.ref y, .int c1]) (n := 3) (Nat.le_of_ble_eq_true rfl)
  rw [lg_entry_eq]
  generalize (lg_sl ([.ref y, .int c1]) ++ List.replicate (3 - (lg_sl ([.ref y, .int c1])).length) Slot.unset).toArray = ls at hl ⊢
  have hl : lv_has ls 3 [(0, .ref y), (1, .int c1)] := hl
  refine lv_aload_n hx hb dJ5_ensureCapacityInternal_d00df_0 rfl (lv_at hl 0 rfl) ?_
  refine va_get (D := (dC, dI)) (ci := 1) (v := .ref bv) (C := RJ4) (T := TJ4) (N := 4) hx hb hts (fun _ h9 => List.mem_cons_of_mem _ (List.mem_append_right _ (h9))) hown hK hP 0 rfl rfl 0 (by decide) (hts (.fieldLink RJ5 15 "java/lang/AbstractStringBuilder" "value" "[B") (List.mem_of_getElem? (i := 1) rfl)) (fun _ h9 => h9) rfl dJ5_ensureCapacityInternal_d00df_1 ?_
  refine va_alen hx hb hK hP 1 0 rfl rfl (v := 16) rfl dJ5_ensureCapacityInternal_d00df_4 ?_
  refine lv_aload_n hx hb dJ5_ensureCapacityInternal_d00df_5 rfl (lv_at hl 0 rfl) ?_
  refine va_get (D := (dC, dI)) (ci := 1) (v := .int 0) (C := RJ4) (T := TJ4) (N := 4) hx hb hts (fun _ h9 => List.mem_cons_of_mem _ (List.mem_append_right _ (h9))) hown hK hP 0 rfl rfl 1 (by decide) (hts (.fieldLink RJ5 22 "java/lang/AbstractStringBuilder" "coder" "B") (List.mem_of_getElem? (i := 2) rfl)) (fun _ h9 => h9) rfl dJ5_ensureCapacityInternal_d00df_6 ?_
  refine lv_ishr hx hb dJ5_ensureCapacityInternal_d00df_9 ?_
  refine lv_topi (fun f_1 ef_1 => ?_)
  obtain rfl : f_1 = 16 := ef_1.trans (by decide)
  refine lv_istore_n (lv' := [(2, .int 16), (0, .ref y), (1, .int c1)]) hx hb dJ5_ensureCapacityInternal_d00df_10 rfl hl (by decide) rfl (fun ls hl => ?_)
  refine lv_iload_n hx hb dJ5_ensureCapacityInternal_d00df_11 rfl (lv_at hl 2 rfl) ?_
  refine lv_iload_n hx hb dJ5_ensureCapacityInternal_d00df_12 rfl (lv_at hl 0 rfl) ?_
  refine lv_isub hx hb dJ5_ensureCapacityInternal_d00df_13 ?_
  refine lv_if_le (tgt := 38) hx hb dJ5_ensureCapacityInternal_d00df_14 (by decide) (fun _ => ?_) (fun c_2 => absurd hc c_2)
  exact W.vret hx hb hr (fun t ht hW => ⟨rfl, trivial, ht⟩) (fun _ h9 => absurd h9 List.not_mem_nil) dJ5_ensureCapacityInternal_d00df_38

set_option maxHeartbeats 4000000 in
set_option maxRecDepth 100000 in
theorem c_Arr_checkLength (l : Launch) (dC : Nat → ClassId) (dI : Nat → Nat → Nat) (c1 : Int32) (c2 : Int32) (hle : c1 ≤ c2) : Met l yJ7_checkLength_df160 wsJ7_checkLength_df160 ({ frames := 0, cells := 0, slots := 0, locals := 0 }) (va_Pc [.int c1, .int c2] (PS dC dI [] [])) (va_Sv (fun _ => True)) 0 0 (fun _ => False) := by
  refine Met.ofW (cc := cJ7_checkLength_df160) (maxL := 2) (ret := none) (by decide) rfl ?_
  intro p e s m args below meth c s₁ B hml hv
  obtain ⟨rfl, hP, hK, hF⟩ := hv
  have hx := B.exec
  have hb := B.bytes
  have hr := B.returns
  have hts := atoms_spec (ws := wsJ7_checkLength_df160) B.pre
  have hown : s.vm.findClass RJ7 = some m.cls := findClass_of_methodNamed B.named
  have hlocks := B.notSynchronized
  have hl := lv_entry ([.int c1, .int c2]) (n := 2) (Nat.le_of_ble_eq_true rfl)
  rw [lg_entry_eq]
  generalize (lg_sl ([.int c1, .int c2]) ++ List.replicate (2 - (lg_sl ([.int c1, .int c2])).length) Slot.unset).toArray = ls at hl ⊢
  have hl : lv_has ls 2 [(0, .int c1), (1, .int c2)] := hl
  refine lv_iload_n hx hb dJ7_checkLength_df160_0 rfl (lv_at hl 1 rfl) ?_
  refine lv_iload_n hx hb dJ7_checkLength_df160_1 rfl (lv_at hl 0 rfl) ?_
  refine lv_icmp_ge (tgt := 37) hx hb dJ7_checkLength_df160_2 (by decide) (fun _ => ?_) (fun c_1 => absurd hle c_1)
  exact W.vret hx hb hr (fun t ht hW => ⟨rfl, trivial, ht⟩) (fun _ h9 => absurd h9 List.not_mem_nil) dJ7_checkLength_df160_37

set_option maxHeartbeats 4000000 in
set_option maxRecDepth 100000 in
theorem c_SB_init5 (l : Launch) (dC : Nat → ClassId) (dI : Nat → Nat → Nat) (d : Nat) (tc : Nat) (ad : Nat → Nat) (y : Nat) (sz : Nat) : Met l yJ5_init_d00df wsJ5_init_d00df ({ frames := 1, cells := 1, slots := 16, locals := 12 }) (va_Pc [.ref y, .int 16] (PZ dC dI d tc ad sz [(y, .inr (1, [.null, .int 0, .int 0, .int 0]))] [])) (va_Qv (fun _ : Unit => True) (fun _ t => ∃ (bv : Nat) (kB : ClassId), va_P (dC, dI) vwCl [(y, .inr (1, [.ref bv, .int 0, .int 0, .int 0])), (bv, .inl (kB, 16, .inl (fun _ => 0)))] t.heap ∧ va_K (dC, dI) vwCl [(kB, .byte)] t ∧ va_D (va_A [(y, .inr (1, [.null, .int 0, .int 0, .int 0]))] sz) [(y, .inr (1, [.ref bv, .int 0, .int 0, .int 0])), (bv, .inl (kB, 16, .inl (fun _ => 0)))]) (va_A [(y, .inr (1, [.null, .int 0, .int 0, .int 0]))] sz)) 1 16 (va_A [(y, .inr (1, [.null, .int 0, .int 0, .int 0]))] sz) := by
  refine Met.ofW (cc := cJ5_init_d00df) (maxL := 2) (ret := none) (by decide) rfl ?_
  intro p e s m args below meth c s₁ B hml hv
  obtain ⟨rfl, hsz, hP, hK, hD0, hF, hZ⟩ := hv
  have hx := B.exec
  have hb := B.bytes
  have hr := B.returns
  have hts := atoms_spec (ws := wsJ5_init_d00df) B.pre
  have hown : s.vm.findClass RJ5 = some m.cls := findClass_of_methodNamed B.named
  have hlocks := B.notSynchronized
  have hin : meth.name = "<init>" := (name_of_methodNamed B.named B.method).1
  subst hsz
  have hD := hD0.self (sz := s.heap.size)
  generalize hAe : va_A [(y, .inr (1, [.null, .int 0, .int 0, .int 0]))] s.heap.size = A at hD hZ ⊢
  have hA : ∀ q : Nat, s.heap.size ≤ q → A q := fun q h => by rw [← hAe]; exact Or.inr h
  have hS : va_S A s.heap s.heap [] := va_S.rf
  have hl := lv_entry ([.ref y, .int 16]) (n := 2) (Nat.le_of_ble_eq_true rfl)
  rw [lg_entry_eq]
  generalize (lg_sl ([.ref y, .int 16]) ++ List.replicate (2 - (lg_sl ([.ref y, .int 16])).length) Slot.unset).toArray = ls at hl ⊢
  have hl : lv_has ls 2 [(0, .ref y), (1, .int 16)] := hl
  refine lv_aload_n hx hb dJ5_init_d00df_0 rfl (lv_at hl 0 rfl) ?_
  refine W.objInit hx hb hown (hts (.methodLink RJ5 3 objectInit) (List.mem_of_getElem? (i := 1) rfl)) (hts (.instanceMethod objectInit) (List.mem_of_getElem? (i := 2) rfl)) (hts _ (List.mem_of_getElem? (i := 3) rfl)) rfl (by rw [hml]; exact hl.1) rfl dJ5_init_d00df_1 (Nat.le_of_ble_eq_true rfl) (Nat.le_of_ble_eq_true rfl) ?_
  refine W.eq (g2 := F0 m 4 ls []) rfl ?_
  refine va_gets hx hb hZ.2.2.2.2.2.2.1 hS hown (hts (.fieldLink RJ5 18 "java/lang/String" "COMPACT_STRINGS" "Z") (List.mem_of_getElem? (i := 4) rfl)) (fun _ h9 => h9) dJ5_init_d00df_4 ?_
  refine lv_if_eq (tgt := 25) hx hb dJ5_init_d00df_7 (by decide) (fun c_1 => absurd c_1 (by decide)) (fun _ => ?_)
  refine lv_aload_n hx hb dJ5_init_d00df_10 rfl (lv_at hl 0 rfl) ?_
  refine lv_iload_n hx hb dJ5_init_d00df_11 rfl (lv_at hl 1 rfl) ?_
  refine va_newa (atype := .byte) (ty := .byte) (a0 := (16, (.inl (fun _ => 0)))) hx hb (hts (.arrayClass .byte) (List.mem_of_getElem? (i := 5) rfl)) rfl hK hP hD hS hA (fun _ => rfl) (by decide) (by decide) (Nat.le_of_ble_eq_true rfl) (Nat.le_of_ble_eq_true rfl) (Nat.le_of_ble_eq_true rfl) dJ5_init_d00df_12 (fun q_2 k_3 H hK hP hD hS => ?_)
  have hP : va_P (dC, dI) vwCl [(y, .inr (1, [.null, .int 0, .int 0, .int 0])), (q_2, .inl (k_3, 16, .inl (fun _ => 0)))] H := hP
  have hD : va_D A [(y, .inr (1, [.null, .int 0, .int 0, .int 0])), (q_2, .inl (k_3, 16, .inl (fun _ => 0)))] := hD
  have hK : va_K (dC, dI) vwCl [(k_3, .byte)] s := hK
  refine W.widen (k := 1) (n := 16) (Nat.le_of_ble_eq_true rfl) (Nat.le_of_ble_eq_true rfl) ?_
  refine va_put (D := (dC, dI)) (ci := 1) (v := .ref q_2) (ty := .array .byte) (C := RJ4) (T := TJ4) (N := 4) hx hb hts (fun _ h9 => List.mem_cons_of_mem _ (List.mem_append_right _ (h9))) tyJ4 tyJ4_ok nmJ4 hown hK hP hD hS 0 rfl rfl 0 (by decide) (hts (.fieldLink RJ5 15 "java/lang/AbstractStringBuilder" "value" "[B") (List.mem_of_getElem? (i := 6) rfl)) (fun _ h9 => h9) rfl (by decide +kernel) rfl rfl (Nat.le_of_ble_eq_true rfl) dJ5_init_d00df_14 (fun H locs hP hD hS => ?_)
  have hP : va_P (dC, dI) vwCl [(y, .inr (1, [.ref q_2, .int 0, .int 0, .int 0])), (q_2, .inl (k_3, 16, .inl (fun _ => 0)))] H := hP
  have hD : va_D A [(y, .inr (1, [.ref q_2, .int 0, .int 0, .int 0])), (q_2, .inl (k_3, 16, .inl (fun _ => 0)))] := hD
  refine lv_aload_n hx hb dJ5_init_d00df_17 rfl (lv_at hl 0 rfl) ?_
  refine lv_iconst (v := 0) hx hb dJ5_init_d00df_18 (by decide) ?_
  refine va_put (D := (dC, dI)) (ci := 1) (v := .int 0) (ty := .byte) (C := RJ4) (T := TJ4) (N := 4) hx hb hts (fun _ h9 => List.mem_cons_of_mem _ (List.mem_append_right _ (h9))) tyJ4 tyJ4_ok nmJ4 hown hK hP hD hS 0 rfl rfl 1 (by decide) (hts (.fieldLink RJ5 22 "java/lang/AbstractStringBuilder" "coder" "B") (List.mem_of_getElem? (i := 7) rfl)) (fun _ h9 => h9) rfl (by decide +kernel) (by decide) (by decide) (Nat.le_of_ble_eq_true rfl) dJ5_init_d00df_19 (fun H locs hP hD hS => ?_)
  have hP : va_P (dC, dI) vwCl [(y, .inr (1, [.ref q_2, .int 0, .int 0, .int 0])), (q_2, .inl (k_3, 16, .inl (fun _ => 0)))] H := hP
  have hD : va_D A [(y, .inr (1, [.ref q_2, .int 0, .int 0, .int 0])), (q_2, .inl (k_3, 16, .inl (fun _ => 0)))] := hD
  refine lv_goto (tgt := 38) hx hb dJ5_init_d00df_22 (by decide) ?_
  have hP9 := hP.sub (ws' := [(y, .inr (1, [.ref q_2, .int 0, .int 0, .int 0])), (q_2, .inl (k_3, 16, .inl (fun _ => 0)))]) [0, 1] rfl
  have hD9 := hD.sub (ws' := [(y, .inr (1, [.ref q_2, .int 0, .int 0, .int 0])), (q_2, .inl (k_3, 16, .inl (fun _ => 0)))]) [0, 1] (by decide) rfl
  have hK9 := hK.sub (tys' := [(k_3, .byte)]) [0] rfl
  exact W.vret hx hb hr (fun t ht hW => ⟨⟨(), rfl, trivial, q_2, k_3, by rw [ht]; exact hP9, va_K.moved hW.alike hK9, hD9⟩, hS.F ht⟩) hS.2.2 dJ5_init_d00df_38

set_option maxHeartbeats 4000000 in
set_option maxRecDepth 100000 in
theorem c_SB_init (l : Launch) (dC : Nat → ClassId) (dI : Nat → Nat → Nat) (d : Nat) (tc : Nat) (ad : Nat → Nat) (y : Nat) (sz : Nat) : Met l yJ4_init_da8c8 wsJ4_init_da8c8 ({ frames := 2, cells := 1, slots := 16, locals := 33 }) (va_Pc [.ref y] (PZ dC dI d tc ad sz [(y, .inr (1, [.null, .int 0, .int 0, .int 0]))] [])) (va_Qv (fun _ : Unit => True) (fun _ t => ∃ (bv : Nat) (kB : ClassId), va_P (dC, dI) vwCl [(y, .inr (1, [.ref bv, .int 0, .int 0, .int 0])), (bv, .inl (kB, 16, .inl (fun _ => 0)))] t.heap ∧ va_K (dC, dI) vwCl [(kB, .byte)] t ∧ va_D (va_A [(y, .inr (1, [.null, .int 0, .int 0, .int 0]))] sz) [(y, .inr (1, [.ref bv, .int 0, .int 0, .int 0])), (bv, .inl (kB, 16, .inl (fun _ => 0)))]) (va_A [(y, .inr (1, [.null, .int 0, .int 0, .int 0]))] sz)) 1 16 (va_A [(y, .inr (1, [.null, .int 0, .int 0, .int 0]))] sz) := by
  refine Met.ofW (cc := cJ4_init_da8c8) (maxL := 1) (ret := none) (by decide) rfl ?_
  intro p e s m args below meth c s₁ B hml hv
  obtain ⟨rfl, hsz, hP, hK, hD0, hF, hZ⟩ := hv
  have hx := B.exec
  have hb := B.bytes
  have hr := B.returns
  have hts := atoms_spec (ws := wsJ4_init_da8c8) B.pre
  have hown : s.vm.findClass RJ4 = some m.cls := findClass_of_methodNamed B.named
  have hlocks := B.notSynchronized
  have hin : meth.name = "<init>" := (name_of_methodNamed B.named B.method).1
  subst hsz
  have hD := hD0.self (sz := s.heap.size)
  generalize hAe : va_A [(y, .inr (1, [.null, .int 0, .int 0, .int 0]))] s.heap.size = A at hD hZ ⊢
  have hA : ∀ q : Nat, s.heap.size ≤ q → A q := fun q h => by rw [← hAe]; exact Or.inr h
  have hS : va_S A s.heap s.heap [] := va_S.rf
  have hl := lv_entry ([.ref y]) (n := 1) (Nat.le_of_ble_eq_true rfl)
  rw [lg_entry_eq]
  generalize (lg_sl ([.ref y]) ++ List.replicate (1 - (lg_sl ([.ref y])).length) Slot.unset).toArray = ls at hl ⊢
  have hl : lv_has ls 1 [(0, .ref y)] := hl
  refine lv_aload_n hx hb dJ4_init_da8c8_0 rfl (lv_at hl 0 rfl) ?_
  refine lv_bipush (v := 16) hx hb dJ4_init_da8c8_1 (by decide) ?_
  have hPc := hP.sub (ws' := [(y, .inr (1, [.null, .int 0, .int 0, .int 0]))]) [0] rfl
  have hDc := hD.sub (ws' := [(y, .inr (1, [.null, .int 0, .int 0, .int 0]))]) [0] (by decide) rfl
  have hKc := hK.sub (tys' := []) [] rfl
  have hFc := va_free (wc := [(y, .inr (1, [.null, .int 0, .int 0, .int 0]))]) hD hS hA [0] rfl
  refine va_callv (va_runI (As := [.int 16]) (rest := []) ⟨hx, hb, hml, hown, hts⟩ (c_SB_init5 l dC dI d tc ad y s.heap.size) (cwI 1 hts gJ4_init_da8c8_J5_init_d00df rfl rfl rfl (hts (.initialized RJ5) (List.mem_of_getElem? (i := 3) rfl)) (hts (.methodLink RJ4 1 yJ5_init_d00df) (List.mem_of_getElem? (i := 1) rfl)) (hts (.instanceMethod yJ5_init_d00df) (List.mem_of_getElem? (i := 2) rfl)) rfl (by decide +kernel) ⟨Nat.le_of_ble_eq_true rfl, Nat.le_of_ble_eq_true rfl⟩) ⟨PZ_blind, PZ_pre hPc hKc hDc hF hZ hS hFc⟩ rfl rfl hl.1 rfl (lv_room (Nat.le_of_ble_eq_true rfl)) dJ4_init_da8c8_3 ⟨Nat.le_of_ble_eq_true rfl, Nat.le_of_ble_eq_true rfl⟩) hS (fun q _ h => hFc q h) hFc (fun u t H1 locs ht hvm hw hB hz1 hk1 hS => ?_)
  obtain ⟨bv_2, kB_3, hP1, hK1, hD1⟩ := hB
  rw [ht] at hP1
  have hK1 := va_K.moved hvm.symm hK1
  obtain ⟨hP, hD⟩ := va_join (wr := []) (w1 := [(y, .inr (1, [.ref bv_2, .int 0, .int 0, .int 0])), (bv_2, .inl (kB_3, 16, .inl (fun _ => 0)))]) hP hD [0] [] rfl rfl (by decide) (by decide) hk1 hFc hP1 hD1
  have hK := hK.app hK1
  generalize H1 = H at hP hS ⊢
  have hP : va_P (dC, dI) vwCl [(y, .inr (1, [.ref bv_2, .int 0, .int 0, .int 0])), (bv_2, .inl (kB_3, 16, .inl (fun _ => 0)))] H := hP
  have hD : va_D A [(y, .inr (1, [.ref bv_2, .int 0, .int 0, .int 0])), (bv_2, .inl (kB_3, 16, .inl (fun _ => 0)))] := hD
  have hK : va_K (dC, dI) vwCl [(kB_3, .byte)] s := hK
  refine W.widen (k := 1) (n := 16) (Nat.le_of_ble_eq_true rfl) (Nat.le_of_ble_eq_true rfl) ?_
  have hP9 := hP.sub (ws' := [(y, .inr (1, [.ref bv_2, .int 0, .int 0, .int 0])), (bv_2, .inl (kB_3, 16, .inl (fun _ => 0)))]) [0, 1] rfl
  have hD9 := hD.sub (ws' := [(y, .inr (1, [.ref bv_2, .int 0, .int 0, .int 0])), (bv_2, .inl (kB_3, 16, .inl (fun _ => 0)))]) [0, 1] (by decide) rfl
  have hK9 := hK.sub (tys' := [(kB_3, .byte)]) [0] rfl
  exact W.vret hx hb hr (fun t ht hW => ⟨⟨(), rfl, trivial, bv_2, kB_3, by rw [ht]; exact hP9, va_K.moved hW.alike hK9, hD9⟩, hS.F ht⟩) hS.2.2 dJ4_init_da8c8_6

theorem ce_of {x : Int32} (h : ¬ sp_M_letter x = 0) : ¬ sp_J_canEncode ((x.toUInt32 % 65536).toInt32) = 0 := by
  unfold sp_M_letter at h
  by_cases h1 : x < 97
  · rw [if_pos h1] at h
    exact absurd rfl h
  · by_cases h2 : 122 < x
    · rw [if_neg h1, if_pos h2] at h
      exact absurd rfl h
    · obtain ⟨j, hj, rfl⟩ := nI_of (x := x) (fun q => h1 (Int32.lt_trans q (by decide)))
      have h3 : j ≤ 122 := Nat.le_of_not_lt (fun q => h2 (show nI 122 < nI j from nI_lt q hj))
      rw [pk_char, pk_tn (by omega), Nat.mod_eq_of_lt (by omega)]
      unfold sp_J_canEncode
      rw [if_neg (show ¬ (255 : Int32) < nI j from (show ¬ nI 255 < nI j from nI_nlt (by omega) (by decide)))]
      decide
theorem pos_ne {v : Int64} (h : 0 < lg_cmp v 0) : ¬ lg_cmp v 0 = 0 := fun q => by rw [q] at h; exact absurd h (by decide)
theorem pos_of {v : Int64} (h : 0 < lg_cmp v 0) : 0 < v := by
  unfold lg_cmp at h
  by_cases h1 : (0 : Int64) < v
  · exact h1
  · rw [if_neg h1] at h
    by_cases h2 : v = 0
    · rw [if_pos h2] at h
      exact absurd h (by decide)
    · rw [if_neg h2] at h
      exact absurd h (by decide)
theorem div8 {v : Int64} (h : 0 < lg_cmp v 0) : lg_cmp (v / 256 / 256 / 256 / 256 / 256 / 256 / 256 / 256) 0 = 0 := by
  have h0 := pos_of h
  obtain ⟨k, hk, rfl⟩ := pk_lOf (x := v) (fun q => Int64.lt_irrefl (Int64.lt_trans q h0))
  have e : ∀ a : Nat, a < 2 ^ 63 → lN a / 256 = lN (a / 256) := fun a ha => pk_lDiv ha (by decide) (by decide)
  rw [e k hk, e _ (by omega), e _ (by omega), e _ (by omega), e _ (by omega), e _ (by omega), e _ (by omega), e _ (by omega)]
  have z : k / 256 / 256 / 256 / 256 / 256 / 256 / 256 / 256 = 0 := by omega
  rw [z]
  decide
def aw : Nat → Int64 → Int32
  | 0, _ => 1
  | k + 1, r => if lg_cmp r 0 = 0 then 1 else if sp_M_letter ((r - r / 256 * 256).toInt32) = 0 then 0 else aw k (r / 256)
def sp_M_asWord (v : Int64) : Int32 := if 0 < lg_cmp v 0 then aw 8 v else 0

set_option maxHeartbeats 4000000 in
set_option maxRecDepth 100000 in
theorem c_SB_shift0 (l : Launch) (dC : Nat → ClassId) (dI : Nat → Nat → Nat) (y : Nat) (bv : Nat) (kB : ClassId) (fb : Nat → Int32) (sz : Nat) (hfb : sb_Fit fb) : Met l yJ5_shift_df160 wsJ5_shift_df160 ({ frames := 1, cells := 0, slots := 0, locals := 80 }) (va_Pc [.ref y, .int 0, .int 1] (PQ dC dI sz [(y, .inr (1, [.ref bv, .int 0, .int 0, .int 0])), (bv, .inl (kB, 16, .inl fb))] [(kB, .byte)])) (va_Qv (fun _ : Unit => True) (fun _ t => ∃ (fz : Nat → Int32), va_P (dC, dI) vwCl [(y, .inr (1, [.ref bv, .int 0, .int 0, .int 0])), (bv, .inl (kB, 16, .inl fz))] t.heap ∧ va_K (dC, dI) vwCl [(kB, .byte)] t ∧ va_D (va_A [(y, .inr (1, [.ref bv, .int 0, .int 0, .int 0])), (bv, .inl (kB, 16, .inl fb))] sz) [(y, .inr (1, [.ref bv, .int 0, .int 0, .int 0])), (bv, .inl (kB, 16, .inl fz))] ∧ sb_Fit fz) (va_A [(y, .inr (1, [.ref bv, .int 0, .int 0, .int 0])), (bv, .inl (kB, 16, .inl fb))] sz)) 0 0 (va_A [(y, .inr (1, [.ref bv, .int 0, .int 0, .int 0])), (bv, .inl (kB, 16, .inl fb))] sz) := by
  refine Met.ofW (cc := cJ5_shift_df160) (maxL := 3) (ret := none) (by decide) rfl ?_
  intro p e s m args below meth c s₁ B hml hv
  obtain ⟨rfl, hsz, hP, hK, hD0, hF⟩ := hv
  have hx := B.exec
  have hb := B.bytes
  have hr := B.returns
  have hts := atoms_spec (ws := wsJ5_shift_df160) B.pre
  have hown : s.vm.findClass RJ5 = some m.cls := findClass_of_methodNamed B.named
  have hlocks := B.notSynchronized
  subst hsz
  have hD := hD0.self (sz := s.heap.size)
  generalize hAe : va_A [(y, .inr (1, [.ref bv, .int 0, .int 0, .int 0])), (bv, .inl (kB, 16, .inl fb))] s.heap.size = A at hD ⊢
  have hA : ∀ q : Nat, s.heap.size ≤ q → A q := fun q h => by rw [← hAe]; exact Or.inr h
  have hS : va_S A s.heap s.heap [] := va_S.rf
  have hl := lv_entry ([.ref y, .int 0, .int 1]) (n := 3) (Nat.le_of_ble_eq_true rfl)
  rw [lg_entry_eq]
  generalize (lg_sl ([.ref y, .int 0, .int 1]) ++ List.replicate (3 - (lg_sl ([.ref y, .int 0, .int 1])).length) Slot.unset).toArray = ls at hl ⊢
  have hl : lv_has ls 3 [(0, .ref y), (1, .int 0), (2, .int 1)] := hl
  refine lv_aload_n hx hb dJ5_shift_df160_0 rfl (lv_at hl 0 rfl) ?_
  refine va_get (D := (dC, dI)) (ci := 1) (v := .ref bv) (C := RJ4) (T := TJ4) (N := 4) hx hb hts (fun _ h9 => List.mem_cons_of_mem _ (List.mem_append_right _ (h9))) hown hK hP 0 rfl rfl 0 (by decide) (hts (.fieldLink RJ5 15 "java/lang/AbstractStringBuilder" "value" "[B") (List.mem_of_getElem? (i := 1) rfl)) (fun _ h9 => h9) rfl dJ5_shift_df160_1 ?_
  refine lv_iload_n hx hb dJ5_shift_df160_4 rfl (lv_at hl 1 rfl) ?_
  refine lv_aload_n hx hb dJ5_shift_df160_5 rfl (lv_at hl 0 rfl) ?_
  refine va_get (D := (dC, dI)) (ci := 1) (v := .int 0) (C := RJ4) (T := TJ4) (N := 4) hx hb hts (fun _ h9 => List.mem_cons_of_mem _ (List.mem_append_right _ (h9))) hown hK hP 0 rfl rfl 1 (by decide) (hts (.fieldLink RJ5 22 "java/lang/AbstractStringBuilder" "coder" "B") (List.mem_of_getElem? (i := 2) rfl)) (fun _ h9 => h9) rfl dJ5_shift_df160_6 ?_
  refine lv_ishl hx hb dJ5_shift_df160_9 ?_
  refine lv_topi (fun f_1 ef_1 => ?_)
  obtain rfl : f_1 = 0 := ef_1.trans (by decide)
  refine lv_aload_n hx hb dJ5_shift_df160_10 rfl (lv_at hl 0 rfl) ?_
  refine va_get (D := (dC, dI)) (ci := 1) (v := .ref bv) (C := RJ4) (T := TJ4) (N := 4) hx hb hts (fun _ h9 => List.mem_cons_of_mem _ (List.mem_append_right _ (h9))) hown hK hP 0 rfl rfl 0 (by decide) (hts (.fieldLink RJ5 15 "java/lang/AbstractStringBuilder" "value" "[B") (List.mem_of_getElem? (i := 1) rfl)) (fun _ h9 => h9) rfl dJ5_shift_df160_11 ?_
  refine lv_iload_n hx hb dJ5_shift_df160_14 rfl (lv_at hl 1 rfl) ?_
  refine lv_iload_n hx hb dJ5_shift_df160_15 rfl (lv_at hl 2 rfl) ?_
  refine lv_iadd hx hb dJ5_shift_df160_16 ?_
  refine lv_topi (fun f_2 ef_2 => ?_)
  obtain rfl : f_2 = 1 := ef_2.trans (by decide)
  refine lv_aload_n hx hb dJ5_shift_df160_17 rfl (lv_at hl 0 rfl) ?_
  refine va_get (D := (dC, dI)) (ci := 1) (v := .int 0) (C := RJ4) (T := TJ4) (N := 4) hx hb hts (fun _ h9 => List.mem_cons_of_mem _ (List.mem_append_right _ (h9))) hown hK hP 0 rfl rfl 1 (by decide) (hts (.fieldLink RJ5 22 "java/lang/AbstractStringBuilder" "coder" "B") (List.mem_of_getElem? (i := 2) rfl)) (fun _ h9 => h9) rfl dJ5_shift_df160_18 ?_
  refine lv_ishl hx hb dJ5_shift_df160_21 ?_
  refine lv_topi (fun f_3 ef_3 => ?_)
  obtain rfl : f_3 = 1 := ef_3.trans (by decide)
  refine lv_aload_n hx hb dJ5_shift_df160_22 rfl (lv_at hl 0 rfl) ?_
  refine va_get (D := (dC, dI)) (ci := 1) (v := .int 0) (C := RJ4) (T := TJ4) (N := 4) hx hb hts (fun _ h9 => List.mem_cons_of_mem _ (List.mem_append_right _ (h9))) hown hK hP 0 rfl rfl 3 (by decide) (hts (.fieldLink RJ5 79 "java/lang/AbstractStringBuilder" "count" "I") (List.mem_of_getElem? (i := 3) rfl)) (fun _ h9 => h9) rfl dJ5_shift_df160_23 ?_
  refine lv_iload_n hx hb dJ5_shift_df160_26 rfl (lv_at hl 1 rfl) ?_
  refine lv_isub hx hb dJ5_shift_df160_27 ?_
  refine lv_topi (fun f_4 ef_4 => ?_)
  obtain rfl : f_4 = 0 := ef_4.trans (by decide)
  refine lv_aload_n hx hb dJ5_shift_df160_28 rfl (lv_at hl 0 rfl) ?_
  refine va_get (D := (dC, dI)) (ci := 1) (v := .int 0) (C := RJ4) (T := TJ4) (N := 4) hx hb hts (fun _ h9 => List.mem_cons_of_mem _ (List.mem_append_right _ (h9))) hown hK hP 0 rfl rfl 1 (by decide) (hts (.fieldLink RJ5 22 "java/lang/AbstractStringBuilder" "coder" "B") (List.mem_of_getElem? (i := 2) rfl)) (fun _ h9 => h9) rfl dJ5_shift_df160_29 ?_
  refine lv_ishl hx hb dJ5_shift_df160_32 ?_
  refine lv_topi (fun f_5 ef_5 => ?_)
  obtain rfl : f_5 = 0 := ef_5.trans (by decide)
  refine va_copyi (ty := .byte) hx hb (hml.trans hl.1.symm) hown (hts (.methodLink RJ5 309 arraycopyName) (List.mem_of_getElem? (i := 4) rfl)) (hts (.native arraycopyName) (List.mem_of_getElem? (i := 5) rfl)) (hts (.static arraycopyName) (List.mem_of_getElem? (i := 6) rfl)) (hts (.initialized "java/lang/System") (List.mem_of_getElem? (i := 7) rfl)) hK hP hD hS 1 1 0 0 rfl rfl rfl rfl rfl (sp := 0) (dp := 1) (n := 0) (by decide) (by decide) (by decide) (by decide) (by decide) (fun i _ => hfb _) (Nat.le_of_ble_eq_true rfl) (Nat.le_of_ble_eq_true rfl) dJ5_shift_df160_33 (fun H locs hP hD hS => ?_)
  have hP : va_P (dC, dI) vwCl [(y, .inr (1, [.ref bv, .int 0, .int 0, .int 0])), (bv, .inl (kB, 16, .inl (va_cpy fb fb (0 : Int32).toNatClampNeg (1 : Int32).toNatClampNeg (0 : Int32).toNatClampNeg)))] H := hP
  have hD : va_D A [(y, .inr (1, [.ref bv, .int 0, .int 0, .int 0])), (bv, .inl (kB, 16, .inl (va_cpy fb fb (0 : Int32).toNatClampNeg (1 : Int32).toNatClampNeg (0 : Int32).toNatClampNeg)))] := hD
  have ha_6 : sb_Fit (va_cpy fb fb (0 : Int32).toNatClampNeg (1 : Int32).toNatClampNeg (0 : Int32).toNatClampNeg) := sb_fitC hfb hfb
  generalize (va_cpy fb fb (0 : Int32).toNatClampNeg (1 : Int32).toNatClampNeg (0 : Int32).toNatClampNeg) = a_6 at hP hD ha_6
  have hP9 := hP.sub (ws' := [(y, .inr (1, [.ref bv, .int 0, .int 0, .int 0])), (bv, .inl (kB, 16, .inl a_6))]) [0, 1] rfl
  have hD9 := hD.sub (ws' := [(y, .inr (1, [.ref bv, .int 0, .int 0, .int 0])), (bv, .inl (kB, 16, .inl a_6))]) [0, 1] (by decide) rfl
  have hK9 := hK.sub (tys' := [(kB, .byte)]) [0] rfl
  exact W.vret hx hb hr (fun t ht hW => ⟨⟨(), rfl, trivial, a_6, by rw [ht]; exact hP9, va_K.moved hW.alike hK9, hD9, ha_6⟩, hS.F ht⟩) hS.2.2 dJ5_shift_df160_36

set_option maxHeartbeats 4000000 in
set_option maxRecDepth 100000 in
theorem c_SB_insA0 (l : Launch) (dC : Nat → ClassId) (dI : Nat → Nat → Nat) (d : Nat) (tc : Nat) (ad : Nat → Nat) (y : Nat) (bv : Nat) (kB : ClassId) (fb : Nat → Int32) (ch : Int32) (sz : Nat) (hfb : sb_Fit fb) (hce : ¬ sp_J_canEncode ch = 0) : Met l yJ5_insert_00e82 wsJ5_insert_00e82 ({ frames := 2, cells := 0, slots := 0, locals := 102 }) (va_Pc [.ref y, .int 0, .int ch] (PZ dC dI d tc ad sz [(y, .inr (1, [.ref bv, .int 0, .int 0, .int 0])), (bv, .inl (kB, 16, .inl fb))] [(kB, .byte)])) (va_Qr (fun _ : Unit => True) (fun _ ra t => ∃ (fz : Nat → Int32), va_P (dC, dI) vwCl [(y, .inr (1, [.ref bv, .int 0, .int 0, .int 1])), (bv, .inl (kB, 16, .inl fz))] t.heap ∧ va_K (dC, dI) vwCl [(kB, .byte)] t ∧ va_D (va_A [(y, .inr (1, [.ref bv, .int 0, .int 0, .int 0])), (bv, .inl (kB, 16, .inl fb))] sz) [(y, .inr (1, [.ref bv, .int 0, .int 0, .int 1])), (bv, .inl (kB, 16, .inl fz))] ∧ ra = y ∧ sb_Fit fz) (va_A [(y, .inr (1, [.ref bv, .int 0, .int 0, .int 0])), (bv, .inl (kB, 16, .inl fb))] sz)) 0 0 (va_A [(y, .inr (1, [.ref bv, .int 0, .int 0, .int 0])), (bv, .inl (kB, 16, .inl fb))] sz) := by
  refine Met.ofW (cc := cJ5_insert_00e82) (maxL := 3) (ret := (some (.object "java/lang/AbstractStringBuilder"))) (by decide) rfl ?_
  intro p e s m args below meth c s₁ B hml hv
  obtain ⟨rfl, hsz, hP, hK, hD0, hF, hZ⟩ := hv
  have hx := B.exec
  have hb := B.bytes
  have hr := B.returns
  have hts := atoms_spec (ws := wsJ5_insert_00e82) B.pre
  have hown : s.vm.findClass RJ5 = some m.cls := findClass_of_methodNamed B.named
  have hlocks := B.notSynchronized
  subst hsz
  have hD := hD0.self (sz := s.heap.size)
  generalize hAe : va_A [(y, .inr (1, [.ref bv, .int 0, .int 0, .int 0])), (bv, .inl (kB, 16, .inl fb))] s.heap.size = A at hD hZ ⊢
  have hA : ∀ q : Nat, s.heap.size ≤ q → A q := fun q h => by rw [← hAe]; exact Or.inr h
  have hS : va_S A s.heap s.heap [] := va_S.rf
  have hl := lv_entry ([.ref y, .int 0, .int ch]) (n := 3) (Nat.le_of_ble_eq_true rfl)
  rw [lg_entry_eq]
  generalize (lg_sl ([.ref y, .int 0, .int ch]) ++ List.replicate (3 - (lg_sl ([.ref y, .int 0, .int ch])).length) Slot.unset).toArray = ls at hl ⊢
  have hl : lv_has ls 3 [(0, .ref y), (1, .int 0), (2, .int ch)] := hl
  refine lv_iload_n hx hb dJ5_insert_00e82_0 rfl (lv_at hl 1 rfl) ?_
  refine lv_aload_n hx hb dJ5_insert_00e82_1 rfl (lv_at hl 0 rfl) ?_
  refine va_get (D := (dC, dI)) (ci := 1) (v := .int 0) (C := RJ4) (T := TJ4) (N := 4) hx hb hts (fun _ h9 => List.mem_cons_of_mem _ (List.mem_append_right _ (h9))) hown hK hP 0 rfl rfl 3 (by decide) (hts (.fieldLink RJ5 79 "java/lang/AbstractStringBuilder" "count" "I") (List.mem_of_getElem? (i := 1) rfl)) (fun _ h9 => h9) rfl dJ5_insert_00e82_2 ?_
  refine va_csv (va_Run.run (va_runS (As := [.int 0, .int 0]) (rest := []) ⟨hx, hb, hml, hown, hts⟩ (c_Str_checkOffset l dC dI d tc ad 0 (by decide)) (va_cwS 2 hts gJ5_insert_00e82_J0_checkOffset_df160 rfl rfl rfl (by decide +kernel) ⟨Nat.le_of_ble_eq_true rfl, Nat.le_of_ble_eq_true rfl⟩) ⟨PY_blind, PY_pre (hP.sub (ws' := []) [] rfl) (hK.sub (tys' := []) [] rfl) hF hZ hS⟩ rfl rfl hl.1 rfl (lv_room (Nat.le_of_ble_eq_true rfl)) dJ5_insert_00e82_5 ⟨Nat.le_of_ble_eq_true rfl, Nat.le_of_ble_eq_true rfl⟩)) (fun _ => ?_)
  refine lv_aload_n hx hb dJ5_insert_00e82_8 rfl (lv_at hl 0 rfl) ?_
  refine lv_aload_n hx hb dJ5_insert_00e82_9 rfl (lv_at hl 0 rfl) ?_
  refine va_get (D := (dC, dI)) (ci := 1) (v := .int 0) (C := RJ4) (T := TJ4) (N := 4) hx hb hts (fun _ h9 => List.mem_cons_of_mem _ (List.mem_append_right _ (h9))) hown hK hP 0 rfl rfl 3 (by decide) (hts (.fieldLink RJ5 79 "java/lang/AbstractStringBuilder" "count" "I") (List.mem_of_getElem? (i := 1) rfl)) (fun _ h9 => h9) rfl dJ5_insert_00e82_10 ?_
  refine lv_iconst (v := 1) hx hb dJ5_insert_00e82_13 (by decide) ?_
  refine lv_iadd hx hb dJ5_insert_00e82_14 ?_
  refine lv_topi (fun f_2 ef_2 => ?_)
  obtain rfl : f_2 = 1 := ef_2.trans (by decide)
  refine va_csv (va_Run.run (va_runU (As := [.int 1]) (rest := []) ⟨hx, hb, hml, hown, hts⟩ (c_SB_ensure l dC dI y bv kB fb 0 1 (by decide)) (va_cwU 1 hts gJ5_insert_00e82_J5_ensureCapacityInternal_d00df_u100J4 rfl rfl rfl rfl (by decide +kernel) ⟨Nat.le_of_ble_eq_true rfl, Nat.le_of_ble_eq_true rfl⟩) ⟨PS_blind, va_recv hK hP (ci := 1) (q0 := 0) rfl rfl, PS_pre hP hK hF⟩ rfl rfl hl.1 rfl (lv_room (Nat.le_of_ble_eq_true rfl)) dJ5_insert_00e82_15 ⟨Nat.le_of_ble_eq_true rfl, Nat.le_of_ble_eq_true rfl⟩)) (fun _ => ?_)
  refine lv_aload_n hx hb dJ5_insert_00e82_18 rfl (lv_at hl 0 rfl) ?_
  refine lv_iload_n hx hb dJ5_insert_00e82_19 rfl (lv_at hl 1 rfl) ?_
  refine lv_iconst (v := 1) hx hb dJ5_insert_00e82_20 (by decide) ?_
  have hPc := hP.sub (ws' := [(y, .inr (1, [.ref bv, .int 0, .int 0, .int 0])), (bv, .inl (kB, 16, .inl fb))]) [0, 1] rfl
  have hDc := hD.sub (ws' := [(y, .inr (1, [.ref bv, .int 0, .int 0, .int 0])), (bv, .inl (kB, 16, .inl fb))]) [0, 1] (by decide) rfl
  have hKc := hK.sub (tys' := [(kB, .byte)]) [0] rfl
  have hFc := va_free (wc := [(y, .inr (1, [.ref bv, .int 0, .int 0, .int 0])), (bv, .inl (kB, 16, .inl fb))]) hD hS hA [0, 1] rfl
  refine va_callv (va_runU (As := [.int 0, .int 1]) (rest := []) ⟨hx, hb, hml, hown, hts⟩ (c_SB_shift0 l dC dI y bv kB fb s.heap.size hfb) (va_cwU 2 hts gJ5_insert_00e82_J5_shift_df160_u283J4 rfl rfl rfl rfl (by decide +kernel) ⟨Nat.le_of_ble_eq_true rfl, Nat.le_of_ble_eq_true rfl⟩) ⟨PQ_blind, va_recv hK hP (ci := 1) (q0 := 0) rfl rfl, PQ_pre hPc hKc hDc hF⟩ rfl rfl hl.1 rfl (lv_room (Nat.le_of_ble_eq_true rfl)) dJ5_insert_00e82_21 ⟨Nat.le_of_ble_eq_true rfl, Nat.le_of_ble_eq_true rfl⟩) hS (fun q _ h => hFc q h) hFc (fun u t H1 locs ht hvm hw hB hz1 hk1 hS => ?_)
  obtain ⟨fz_5, hP1, hK1, hD1, hx_6⟩ := hB
  rw [ht] at hP1
  have hK1 := va_K.moved hvm.symm hK1
  obtain ⟨hP, hD⟩ := va_join (wr := []) (w1 := [(y, .inr (1, [.ref bv, .int 0, .int 0, .int 0])), (bv, .inl (kB, 16, .inl fz_5))]) hP hD [0, 1] [] rfl rfl (by decide) (by decide) hk1 hFc hP1 hD1
  have hK := hK.app hK1
  generalize H1 = H at hP hS ⊢
  have hP : va_P (dC, dI) vwCl [(y, .inr (1, [.ref bv, .int 0, .int 0, .int 0])), (bv, .inl (kB, 16, .inl fz_5))] H := hP
  have hD : va_D A [(y, .inr (1, [.ref bv, .int 0, .int 0, .int 0])), (bv, .inl (kB, 16, .inl fz_5))] := hD
  have hK : va_K (dC, dI) vwCl [(kB, .byte), (kB, .byte)] s := hK
  refine W.widen (k := 0) (n := 0) (Nat.le_of_ble_eq_true rfl) (Nat.le_of_ble_eq_true rfl) ?_
  refine lv_aload_n hx hb dJ5_insert_00e82_24 rfl (lv_at hl 0 rfl) ?_
  refine lv_dup hx hb dJ5_insert_00e82_25 rfl ?_
  refine va_get (D := (dC, dI)) (ci := 1) (v := .int 0) (C := RJ4) (T := TJ4) (N := 4) hx hb hts (fun _ h9 => List.mem_cons_of_mem _ (List.mem_append_right _ (h9))) hown hK hP 0 rfl rfl 3 (by decide) (hts (.fieldLink RJ5 79 "java/lang/AbstractStringBuilder" "count" "I") (List.mem_of_getElem? (i := 1) rfl)) (fun _ h9 => h9) rfl dJ5_insert_00e82_26 ?_
  refine lv_iconst (v := 1) hx hb dJ5_insert_00e82_29 (by decide) ?_
  refine lv_iadd hx hb dJ5_insert_00e82_30 ?_
  refine lv_topi (fun f_7 ef_7 => ?_)
  obtain rfl : f_7 = 1 := ef_7.trans (by decide)
  refine va_put (D := (dC, dI)) (ci := 1) (v := .int 1) (ty := .int) (C := RJ4) (T := TJ4) (N := 4) hx hb hts (fun _ h9 => List.mem_cons_of_mem _ (List.mem_append_right _ (h9))) tyJ4 tyJ4_ok nmJ4 hown hK hP hD hS 0 rfl rfl 3 (by decide) (hts (.fieldLink RJ5 79 "java/lang/AbstractStringBuilder" "count" "I") (List.mem_of_getElem? (i := 1) rfl)) (fun _ h9 => h9) rfl (by decide +kernel) rfl rfl (Nat.le_of_ble_eq_true rfl) dJ5_insert_00e82_31 (fun H locs hP hD hS => ?_)
  have hP : va_P (dC, dI) vwCl [(y, .inr (1, [.ref bv, .int 0, .int 0, .int 1])), (bv, .inl (kB, 16, .inl fz_5))] H := hP
  have hD : va_D A [(y, .inr (1, [.ref bv, .int 0, .int 0, .int 1])), (bv, .inl (kB, 16, .inl fz_5))] := hD
  refine lv_aload_n hx hb dJ5_insert_00e82_34 rfl (lv_at hl 0 rfl) ?_
  refine vp_callSi (va_Run.run (va_runU (As := []) (rest := []) ⟨hx, hb, hml, hown, hts⟩ (c_SB_isLatin1 l dC dI d tc ad y bv 1) (va_cwU 0 hts gJ5_insert_00e82_J5_isLatin1_aae02_u83J4 rfl rfl rfl rfl (by decide +kernel) ⟨Nat.le_of_ble_eq_true rfl, Nat.le_of_ble_eq_true rfl⟩) ⟨PY_blind, va_recv hK hP (ci := 1) (q0 := 0) rfl rfl, PY_pre (hP.sub (ws' := [(y, .inr (1, [.ref bv, .int 0, .int 0, .int 1]))]) [0] rfl) (hK.sub (tys' := []) [] rfl) hF hZ hS⟩ rfl rfl hl.1 rfl (lv_room (Nat.le_of_ble_eq_true rfl)) dJ5_insert_00e82_35 ⟨Nat.le_of_ble_eq_true rfl, Nat.le_of_ble_eq_true rfl⟩)) (fun r_8 hr_8 => ?_)
  subst hr_8
  refine lv_if_eq (tgt := 59) hx hb dJ5_insert_00e82_38 (by decide) (fun c_9 => absurd c_9 (by decide)) (fun _ => ?_)
  refine lv_iload_n hx hb dJ5_insert_00e82_41 rfl (lv_at hl 2 rfl) ?_
  refine vp_callSi (va_Run.run (va_runS (As := [.int ch]) (rest := []) ⟨hx, hb, hml, hown, hts⟩ (c_J_canEncode l dC dI ch) (va_cwS 1 hts gJ5_insert_00e82_J1_canEncode_fc78d rfl rfl rfl (by decide +kernel) ⟨Nat.le_of_ble_eq_true rfl, Nat.le_of_ble_eq_true rfl⟩) ⟨PS_blind, PS_pre (hP.sub (ws' := []) [] rfl) (hK.sub (tys' := []) [] rfl) hF⟩ rfl rfl hl.1 rfl (lv_room (Nat.le_of_ble_eq_true rfl)) dJ5_insert_00e82_42 ⟨Nat.le_of_ble_eq_true rfl, Nat.le_of_ble_eq_true rfl⟩)) (fun r_10 hr_10 => ?_)
  subst hr_10
  refine lv_if_eq (tgt := 59) hx hb dJ5_insert_00e82_45 (by decide) (fun c_11 => absurd c_11 hce) (fun _ => ?_)
  refine lv_aload_n hx hb dJ5_insert_00e82_48 rfl (lv_at hl 0 rfl) ?_
  refine va_get (D := (dC, dI)) (ci := 1) (v := .ref bv) (C := RJ4) (T := TJ4) (N := 4) hx hb hts (fun _ h9 => List.mem_cons_of_mem _ (List.mem_append_right _ (h9))) hown hK hP 0 rfl rfl 0 (by decide) (hts (.fieldLink RJ5 15 "java/lang/AbstractStringBuilder" "value" "[B") (List.mem_of_getElem? (i := 2) rfl)) (fun _ h9 => h9) rfl dJ5_insert_00e82_49 ?_
  refine lv_iload_n hx hb dJ5_insert_00e82_52 rfl (lv_at hl 1 rfl) ?_
  refine lv_iload_n hx hb dJ5_insert_00e82_53 rfl (lv_at hl 2 rfl) ?_
  refine lv_i2b hx hb dJ5_insert_00e82_54 rfl ?_
  refine va_bast hx hb hK hP hD hS 1 0 rfl rfl (by unfold vp_in; decide) dJ5_insert_00e82_55 (fun H locs hP hD hS => ?_)
  have hP : va_P (dC, dI) vwCl [(y, .inr (1, [.ref bv, .int 0, .int 0, .int 1])), (bv, .inl (kB, 16, .inl (upd fz_5 (0 : Int32).toNatClampNeg (vp_nar .byte ((ch).toInt8.toInt32)))))] H := hP
  have hD : va_D A [(y, .inr (1, [.ref bv, .int 0, .int 0, .int 1])), (bv, .inl (kB, 16, .inl (upd fz_5 (0 : Int32).toNatClampNeg (vp_nar .byte ((ch).toInt8.toInt32)))))] := hD
  have ha_12 : sb_Fit (upd fz_5 (0 : Int32).toNatClampNeg (vp_nar .byte ((ch).toInt8.toInt32))) := sb_fitU hx_6 (by rw [vp_nar_byte]; exact pk_fb _)
  generalize (upd fz_5 (0 : Int32).toNatClampNeg (vp_nar .byte ((ch).toInt8.toInt32))) = a_12 at hP hD ha_12
  refine lv_goto (tgt := 79) hx hb dJ5_insert_00e82_56 (by decide) ?_
  refine lv_aload_n hx hb dJ5_insert_00e82_79 rfl (lv_at hl 0 rfl) ?_
  have hP9 := hP.sub (ws' := [(y, .inr (1, [.ref bv, .int 0, .int 0, .int 1])), (bv, .inl (kB, 16, .inl a_12))]) [0, 1] rfl
  have hD9 := hD.sub (ws' := [(y, .inr (1, [.ref bv, .int 0, .int 0, .int 1])), (bv, .inl (kB, 16, .inl a_12))]) [0, 1] (by decide) rfl
  have hK9 := hK.sub (tys' := [(kB, .byte)]) [0] rfl
  exact W.aret (v := .ref y) hx hb hr (Or.inl ⟨_, rfl⟩) (Or.inr ⟨_, rfl⟩) (fun t ht hW => ⟨⟨(), _, rfl, trivial, a_12, by rw [ht]; exact hP9, va_K.moved hW.alike hK9, hD9, rfl, ha_12⟩, hS.F ht⟩) hS.2.2 dJ5_insert_00e82_80

set_option maxHeartbeats 4000000 in
set_option maxRecDepth 100000 in
theorem c_SB_ins0 (l : Launch) (dC : Nat → ClassId) (dI : Nat → Nat → Nat) (d : Nat) (tc : Nat) (ad : Nat → Nat) (y : Nat) (bv : Nat) (kB : ClassId) (fb : Nat → Int32) (ch : Int32) (sz : Nat) (hfb : sb_Fit fb) (hce : ¬ sp_J_canEncode ch = 0) : Met l yJ4_insert_a3ee8 wsJ4_insert_a3ee8 ({ frames := 3, cells := 0, slots := 0, locals := 124 }) (va_Pc [.ref y, .int 0, .int ch] (PZ dC dI d tc ad sz [(y, .inr (1, [.ref bv, .int 0, .int 0, .int 0])), (bv, .inl (kB, 16, .inl fb))] [(kB, .byte)])) (va_Qr (fun _ : Unit => True) (fun _ ra t => ∃ (fz : Nat → Int32), va_P (dC, dI) vwCl [(y, .inr (1, [.ref bv, .int 0, .int 0, .int 1])), (bv, .inl (kB, 16, .inl fz))] t.heap ∧ va_K (dC, dI) vwCl [(kB, .byte)] t ∧ va_D (va_A [(y, .inr (1, [.ref bv, .int 0, .int 0, .int 0])), (bv, .inl (kB, 16, .inl fb))] sz) [(y, .inr (1, [.ref bv, .int 0, .int 0, .int 1])), (bv, .inl (kB, 16, .inl fz))] ∧ ra = y ∧ sb_Fit fz) (va_A [(y, .inr (1, [.ref bv, .int 0, .int 0, .int 0])), (bv, .inl (kB, 16, .inl fb))] sz)) 0 0 (va_A [(y, .inr (1, [.ref bv, .int 0, .int 0, .int 0])), (bv, .inl (kB, 16, .inl fb))] sz) := by
  refine Met.ofW (cc := cJ4_insert_a3ee8) (maxL := 3) (ret := (some (.object "java/lang/StringBuilder"))) (by decide) rfl ?_
  intro p e s m args below meth c s₁ B hml hv
  obtain ⟨rfl, hsz, hP, hK, hD0, hF, hZ⟩ := hv
  have hx := B.exec
  have hb := B.bytes
  have hr := B.returns
  have hts := atoms_spec (ws := wsJ4_insert_a3ee8) B.pre
  have hown : s.vm.findClass RJ4 = some m.cls := findClass_of_methodNamed B.named
  have hlocks := B.notSynchronized
  subst hsz
  have hD := hD0.self (sz := s.heap.size)
  generalize hAe : va_A [(y, .inr (1, [.ref bv, .int 0, .int 0, .int 0])), (bv, .inl (kB, 16, .inl fb))] s.heap.size = A at hD hZ ⊢
  have hA : ∀ q : Nat, s.heap.size ≤ q → A q := fun q h => by rw [← hAe]; exact Or.inr h
  have hS : va_S A s.heap s.heap [] := va_S.rf
  have hl := lv_entry ([.ref y, .int 0, .int ch]) (n := 3) (Nat.le_of_ble_eq_true rfl)
  rw [lg_entry_eq]
  generalize (lg_sl ([.ref y, .int 0, .int ch]) ++ List.replicate (3 - (lg_sl ([.ref y, .int 0, .int ch])).length) Slot.unset).toArray = ls at hl ⊢
  have hl : lv_has ls 3 [(0, .ref y), (1, .int 0), (2, .int ch)] := hl
  refine lv_aload_n hx hb dJ4_insert_a3ee8_0 rfl (lv_at hl 0 rfl) ?_
  refine lv_iload_n hx hb dJ4_insert_a3ee8_1 rfl (lv_at hl 1 rfl) ?_
  refine lv_iload_n hx hb dJ4_insert_a3ee8_2 rfl (lv_at hl 2 rfl) ?_
  have hPc := hP.sub (ws' := [(y, .inr (1, [.ref bv, .int 0, .int 0, .int 0])), (bv, .inl (kB, 16, .inl fb))]) [0, 1] rfl
  have hDc := hD.sub (ws' := [(y, .inr (1, [.ref bv, .int 0, .int 0, .int 0])), (bv, .inl (kB, 16, .inl fb))]) [0, 1] (by decide) rfl
  have hKc := hK.sub (tys' := [(kB, .byte)]) [0] rfl
  have hFc := va_free (wc := [(y, .inr (1, [.ref bv, .int 0, .int 0, .int 0])), (bv, .inl (kB, 16, .inl fb))]) hD hS hA [0, 1] rfl
  refine va_callr (va_runSU (hK.1 1 _ rfl).2 (As := [.int 0, .int ch]) (rest := []) ⟨hx, hb, hml, hown, hts⟩ (c_SB_insA0 l dC dI d tc ad y bv kB fb ch s.heap.size hfb hce) (va_cwSU 2 hts gJ4_insert_a3ee8_J5_insert_00e82_s101 rfl rfl rfl (by decide +kernel) ⟨Nat.le_of_ble_eq_true rfl, Nat.le_of_ble_eq_true rfl⟩) ⟨PZ_blind, va_recv hK hP (ci := 1) (q0 := 0) rfl rfl, PZ_pre hPc hKc hDc hF hZ hS hFc⟩ rfl rfl hl.1 rfl (lv_room (Nat.le_of_ble_eq_true rfl)) dJ4_insert_a3ee8_3 ⟨Nat.le_of_ble_eq_true rfl, Nat.le_of_ble_eq_true rfl⟩) hS (fun q _ h => hFc q h) hFc (fun u r_1 t H1 locs ht hvm hw hB hz1 hk1 hS => ?_)
  obtain ⟨fz_2, hP1, hK1, hD1, hx_3, hx_4⟩ := hB
  rw [ht] at hP1
  have hK1 := va_K.moved hvm.symm hK1
  obtain ⟨hP, hD⟩ := va_join (wr := []) (w1 := [(y, .inr (1, [.ref bv, .int 0, .int 0, .int 1])), (bv, .inl (kB, 16, .inl fz_2))]) hP hD [0, 1] [] rfl rfl (by decide) (by decide) hk1 hFc hP1 hD1
  have hK := hK.app hK1
  generalize H1 = H at hP hS ⊢
  have hP : va_P (dC, dI) vwCl [(y, .inr (1, [.ref bv, .int 0, .int 0, .int 1])), (bv, .inl (kB, 16, .inl fz_2))] H := hP
  have hD : va_D A [(y, .inr (1, [.ref bv, .int 0, .int 0, .int 1])), (bv, .inl (kB, 16, .inl fz_2))] := hD
  have hK : va_K (dC, dI) vwCl [(kB, .byte), (kB, .byte)] s := hK
  refine W.widen (k := 0) (n := 0) (Nat.le_of_ble_eq_true rfl) (Nat.le_of_ble_eq_true rfl) ?_
  refine lv_pop hx hb dJ4_insert_a3ee8_6 rfl ?_
  refine lv_aload_n hx hb dJ4_insert_a3ee8_7 rfl (lv_at hl 0 rfl) ?_
  have hP9 := hP.sub (ws' := [(y, .inr (1, [.ref bv, .int 0, .int 0, .int 1])), (bv, .inl (kB, 16, .inl fz_2))]) [0, 1] rfl
  have hD9 := hD.sub (ws' := [(y, .inr (1, [.ref bv, .int 0, .int 0, .int 1])), (bv, .inl (kB, 16, .inl fz_2))]) [0, 1] (by decide) rfl
  have hK9 := hK.sub (tys' := [(kB, .byte)]) [0] rfl
  exact W.aret (v := .ref y) hx hb hr (Or.inl ⟨_, rfl⟩) (Or.inr ⟨_, rfl⟩) (fun t ht hW => ⟨⟨(), _, rfl, trivial, fz_2, by rw [ht]; exact hP9, va_K.moved hW.alike hK9, hD9, rfl, hx_4⟩, hS.F ht⟩) hS.2.2 dJ4_insert_a3ee8_8

set_option maxHeartbeats 4000000 in
set_option maxRecDepth 100000 in
theorem c_SB_shift1 (l : Launch) (dC : Nat → ClassId) (dI : Nat → Nat → Nat) (y : Nat) (bv : Nat) (kB : ClassId) (fb : Nat → Int32) (sz : Nat) (hfb : sb_Fit fb) : Met l yJ5_shift_df160 wsJ5_shift_df160 ({ frames := 1, cells := 0, slots := 0, locals := 80 }) (va_Pc [.ref y, .int 0, .int 1] (PQ dC dI sz [(y, .inr (1, [.ref bv, .int 0, .int 0, .int 1])), (bv, .inl (kB, 16, .inl fb))] [(kB, .byte)])) (va_Qv (fun _ : Unit => True) (fun _ t => ∃ (fz : Nat → Int32), va_P (dC, dI) vwCl [(y, .inr (1, [.ref bv, .int 0, .int 0, .int 1])), (bv, .inl (kB, 16, .inl fz))] t.heap ∧ va_K (dC, dI) vwCl [(kB, .byte)] t ∧ va_D (va_A [(y, .inr (1, [.ref bv, .int 0, .int 0, .int 1])), (bv, .inl (kB, 16, .inl fb))] sz) [(y, .inr (1, [.ref bv, .int 0, .int 0, .int 1])), (bv, .inl (kB, 16, .inl fz))] ∧ sb_Fit fz) (va_A [(y, .inr (1, [.ref bv, .int 0, .int 0, .int 1])), (bv, .inl (kB, 16, .inl fb))] sz)) 0 0 (va_A [(y, .inr (1, [.ref bv, .int 0, .int 0, .int 1])), (bv, .inl (kB, 16, .inl fb))] sz) := by
  refine Met.ofW (cc := cJ5_shift_df160) (maxL := 3) (ret := none) (by decide) rfl ?_
  intro p e s m args below meth c s₁ B hml hv
  obtain ⟨rfl, hsz, hP, hK, hD0, hF⟩ := hv
  have hx := B.exec
  have hb := B.bytes
  have hr := B.returns
  have hts := atoms_spec (ws := wsJ5_shift_df160) B.pre
  have hown : s.vm.findClass RJ5 = some m.cls := findClass_of_methodNamed B.named
  have hlocks := B.notSynchronized
  subst hsz
  have hD := hD0.self (sz := s.heap.size)
  generalize hAe : va_A [(y, .inr (1, [.ref bv, .int 0, .int 0, .int 1])), (bv, .inl (kB, 16, .inl fb))] s.heap.size = A at hD ⊢
  have hA : ∀ q : Nat, s.heap.size ≤ q → A q := fun q h => by rw [← hAe]; exact Or.inr h
  have hS : va_S A s.heap s.heap [] := va_S.rf
  have hl := lv_entry ([.ref y, .int 0, .int 1]) (n := 3) (Nat.le_of_ble_eq_true rfl)
  rw [lg_entry_eq]
  generalize (lg_sl ([.ref y, .int 0, .int 1]) ++ List.replicate (3 - (lg_sl ([.ref y, .int 0, .int 1])).length) Slot.unset).toArray = ls at hl ⊢
  have hl : lv_has ls 3 [(0, .ref y), (1, .int 0), (2, .int 1)] := hl
  refine lv_aload_n hx hb dJ5_shift_df160_0 rfl (lv_at hl 0 rfl) ?_
  refine va_get (D := (dC, dI)) (ci := 1) (v := .ref bv) (C := RJ4) (T := TJ4) (N := 4) hx hb hts (fun _ h9 => List.mem_cons_of_mem _ (List.mem_append_right _ (h9))) hown hK hP 0 rfl rfl 0 (by decide) (hts (.fieldLink RJ5 15 "java/lang/AbstractStringBuilder" "value" "[B") (List.mem_of_getElem? (i := 1) rfl)) (fun _ h9 => h9) rfl dJ5_shift_df160_1 ?_
  refine lv_iload_n hx hb dJ5_shift_df160_4 rfl (lv_at hl 1 rfl) ?_
  refine lv_aload_n hx hb dJ5_shift_df160_5 rfl (lv_at hl 0 rfl) ?_
  refine va_get (D := (dC, dI)) (ci := 1) (v := .int 0) (C := RJ4) (T := TJ4) (N := 4) hx hb hts (fun _ h9 => List.mem_cons_of_mem _ (List.mem_append_right _ (h9))) hown hK hP 0 rfl rfl 1 (by decide) (hts (.fieldLink RJ5 22 "java/lang/AbstractStringBuilder" "coder" "B") (List.mem_of_getElem? (i := 2) rfl)) (fun _ h9 => h9) rfl dJ5_shift_df160_6 ?_
  refine lv_ishl hx hb dJ5_shift_df160_9 ?_
  refine lv_topi (fun f_1 ef_1 => ?_)
  obtain rfl : f_1 = 0 := ef_1.trans (by decide)
  refine lv_aload_n hx hb dJ5_shift_df160_10 rfl (lv_at hl 0 rfl) ?_
  refine va_get (D := (dC, dI)) (ci := 1) (v := .ref bv) (C := RJ4) (T := TJ4) (N := 4) hx hb hts (fun _ h9 => List.mem_cons_of_mem _ (List.mem_append_right _ (h9))) hown hK hP 0 rfl rfl 0 (by decide) (hts (.fieldLink RJ5 15 "java/lang/AbstractStringBuilder" "value" "[B") (List.mem_of_getElem? (i := 1) rfl)) (fun _ h9 => h9) rfl dJ5_shift_df160_11 ?_
  refine lv_iload_n hx hb dJ5_shift_df160_14 rfl (lv_at hl 1 rfl) ?_
  refine lv_iload_n hx hb dJ5_shift_df160_15 rfl (lv_at hl 2 rfl) ?_
  refine lv_iadd hx hb dJ5_shift_df160_16 ?_
  refine lv_topi (fun f_2 ef_2 => ?_)
  obtain rfl : f_2 = 1 := ef_2.trans (by decide)
  refine lv_aload_n hx hb dJ5_shift_df160_17 rfl (lv_at hl 0 rfl) ?_
  refine va_get (D := (dC, dI)) (ci := 1) (v := .int 0) (C := RJ4) (T := TJ4) (N := 4) hx hb hts (fun _ h9 => List.mem_cons_of_mem _ (List.mem_append_right _ (h9))) hown hK hP 0 rfl rfl 1 (by decide) (hts (.fieldLink RJ5 22 "java/lang/AbstractStringBuilder" "coder" "B") (List.mem_of_getElem? (i := 2) rfl)) (fun _ h9 => h9) rfl dJ5_shift_df160_18 ?_
  refine lv_ishl hx hb dJ5_shift_df160_21 ?_
  refine lv_topi (fun f_3 ef_3 => ?_)
  obtain rfl : f_3 = 1 := ef_3.trans (by decide)
  refine lv_aload_n hx hb dJ5_shift_df160_22 rfl (lv_at hl 0 rfl) ?_
  refine va_get (D := (dC, dI)) (ci := 1) (v := .int 1) (C := RJ4) (T := TJ4) (N := 4) hx hb hts (fun _ h9 => List.mem_cons_of_mem _ (List.mem_append_right _ (h9))) hown hK hP 0 rfl rfl 3 (by decide) (hts (.fieldLink RJ5 79 "java/lang/AbstractStringBuilder" "count" "I") (List.mem_of_getElem? (i := 3) rfl)) (fun _ h9 => h9) rfl dJ5_shift_df160_23 ?_
  refine lv_iload_n hx hb dJ5_shift_df160_26 rfl (lv_at hl 1 rfl) ?_
  refine lv_isub hx hb dJ5_shift_df160_27 ?_
  refine lv_topi (fun f_4 ef_4 => ?_)
  obtain rfl : f_4 = 1 := ef_4.trans (by decide)
  refine lv_aload_n hx hb dJ5_shift_df160_28 rfl (lv_at hl 0 rfl) ?_
  refine va_get (D := (dC, dI)) (ci := 1) (v := .int 0) (C := RJ4) (T := TJ4) (N := 4) hx hb hts (fun _ h9 => List.mem_cons_of_mem _ (List.mem_append_right _ (h9))) hown hK hP 0 rfl rfl 1 (by decide) (hts (.fieldLink RJ5 22 "java/lang/AbstractStringBuilder" "coder" "B") (List.mem_of_getElem? (i := 2) rfl)) (fun _ h9 => h9) rfl dJ5_shift_df160_29 ?_
  refine lv_ishl hx hb dJ5_shift_df160_32 ?_
  refine lv_topi (fun f_5 ef_5 => ?_)
  obtain rfl : f_5 = 1 := ef_5.trans (by decide)
  refine va_copyi (ty := .byte) hx hb (hml.trans hl.1.symm) hown (hts (.methodLink RJ5 309 arraycopyName) (List.mem_of_getElem? (i := 4) rfl)) (hts (.native arraycopyName) (List.mem_of_getElem? (i := 5) rfl)) (hts (.static arraycopyName) (List.mem_of_getElem? (i := 6) rfl)) (hts (.initialized "java/lang/System") (List.mem_of_getElem? (i := 7) rfl)) hK hP hD hS 1 1 0 0 rfl rfl rfl rfl rfl (sp := 0) (dp := 1) (n := 1) (by decide) (by decide) (by decide) (by decide) (by decide) (fun i _ => hfb _) (Nat.le_of_ble_eq_true rfl) (Nat.le_of_ble_eq_true rfl) dJ5_shift_df160_33 (fun H locs hP hD hS => ?_)
  have hP : va_P (dC, dI) vwCl [(y, .inr (1, [.ref bv, .int 0, .int 0, .int 1])), (bv, .inl (kB, 16, .inl (va_cpy fb fb (0 : Int32).toNatClampNeg (1 : Int32).toNatClampNeg (1 : Int32).toNatClampNeg)))] H := hP
  have hD : va_D A [(y, .inr (1, [.ref bv, .int 0, .int 0, .int 1])), (bv, .inl (kB, 16, .inl (va_cpy fb fb (0 : Int32).toNatClampNeg (1 : Int32).toNatClampNeg (1 : Int32).toNatClampNeg)))] := hD
  have ha_6 : sb_Fit (va_cpy fb fb (0 : Int32).toNatClampNeg (1 : Int32).toNatClampNeg (1 : Int32).toNatClampNeg) := sb_fitC hfb hfb
  generalize (va_cpy fb fb (0 : Int32).toNatClampNeg (1 : Int32).toNatClampNeg (1 : Int32).toNatClampNeg) = a_6 at hP hD ha_6
  have hP9 := hP.sub (ws' := [(y, .inr (1, [.ref bv, .int 0, .int 0, .int 1])), (bv, .inl (kB, 16, .inl a_6))]) [0, 1] rfl
  have hD9 := hD.sub (ws' := [(y, .inr (1, [.ref bv, .int 0, .int 0, .int 1])), (bv, .inl (kB, 16, .inl a_6))]) [0, 1] (by decide) rfl
  have hK9 := hK.sub (tys' := [(kB, .byte)]) [0] rfl
  exact W.vret hx hb hr (fun t ht hW => ⟨⟨(), rfl, trivial, a_6, by rw [ht]; exact hP9, va_K.moved hW.alike hK9, hD9, ha_6⟩, hS.F ht⟩) hS.2.2 dJ5_shift_df160_36

set_option maxHeartbeats 4000000 in
set_option maxRecDepth 100000 in
theorem c_SB_insA1 (l : Launch) (dC : Nat → ClassId) (dI : Nat → Nat → Nat) (d : Nat) (tc : Nat) (ad : Nat → Nat) (y : Nat) (bv : Nat) (kB : ClassId) (fb : Nat → Int32) (ch : Int32) (sz : Nat) (hfb : sb_Fit fb) (hce : ¬ sp_J_canEncode ch = 0) : Met l yJ5_insert_00e82 wsJ5_insert_00e82 ({ frames := 2, cells := 0, slots := 0, locals := 102 }) (va_Pc [.ref y, .int 0, .int ch] (PZ dC dI d tc ad sz [(y, .inr (1, [.ref bv, .int 0, .int 0, .int 1])), (bv, .inl (kB, 16, .inl fb))] [(kB, .byte)])) (va_Qr (fun _ : Unit => True) (fun _ ra t => ∃ (fz : Nat → Int32), va_P (dC, dI) vwCl [(y, .inr (1, [.ref bv, .int 0, .int 0, .int 2])), (bv, .inl (kB, 16, .inl fz))] t.heap ∧ va_K (dC, dI) vwCl [(kB, .byte)] t ∧ va_D (va_A [(y, .inr (1, [.ref bv, .int 0, .int 0, .int 1])), (bv, .inl (kB, 16, .inl fb))] sz) [(y, .inr (1, [.ref bv, .int 0, .int 0, .int 2])), (bv, .inl (kB, 16, .inl fz))] ∧ ra = y ∧ sb_Fit fz) (va_A [(y, .inr (1, [.ref bv, .int 0, .int 0, .int 1])), (bv, .inl (kB, 16, .inl fb))] sz)) 0 0 (va_A [(y, .inr (1, [.ref bv, .int 0, .int 0, .int 1])), (bv, .inl (kB, 16, .inl fb))] sz) := by
  refine Met.ofW (cc := cJ5_insert_00e82) (maxL := 3) (ret := (some (.object "java/lang/AbstractStringBuilder"))) (by decide) rfl ?_
  intro p e s m args below meth c s₁ B hml hv
  obtain ⟨rfl, hsz, hP, hK, hD0, hF, hZ⟩ := hv
  have hx := B.exec
  have hb := B.bytes
  have hr := B.returns
  have hts := atoms_spec (ws := wsJ5_insert_00e82) B.pre
  have hown : s.vm.findClass RJ5 = some m.cls := findClass_of_methodNamed B.named
  have hlocks := B.notSynchronized
  subst hsz
  have hD := hD0.self (sz := s.heap.size)
  generalize hAe : va_A [(y, .inr (1, [.ref bv, .int 0, .int 0, .int 1])), (bv, .inl (kB, 16, .inl fb))] s.heap.size = A at hD hZ ⊢
  have hA : ∀ q : Nat, s.heap.size ≤ q → A q := fun q h => by rw [← hAe]; exact Or.inr h
  have hS : va_S A s.heap s.heap [] := va_S.rf
  have hl := lv_entry ([.ref y, .int 0, .int ch]) (n := 3) (Nat.le_of_ble_eq_true rfl)
  rw [lg_entry_eq]
  generalize (lg_sl ([.ref y, .int 0, .int ch]) ++ List.replicate (3 - (lg_sl ([.ref y, .int 0, .int ch])).length) Slot.unset).toArray = ls at hl ⊢
  have hl : lv_has ls 3 [(0, .ref y), (1, .int 0), (2, .int ch)] := hl
  refine lv_iload_n hx hb dJ5_insert_00e82_0 rfl (lv_at hl 1 rfl) ?_
  refine lv_aload_n hx hb dJ5_insert_00e82_1 rfl (lv_at hl 0 rfl) ?_
  refine va_get (D := (dC, dI)) (ci := 1) (v := .int 1) (C := RJ4) (T := TJ4) (N := 4) hx hb hts (fun _ h9 => List.mem_cons_of_mem _ (List.mem_append_right _ (h9))) hown hK hP 0 rfl rfl 3 (by decide) (hts (.fieldLink RJ5 79 "java/lang/AbstractStringBuilder" "count" "I") (List.mem_of_getElem? (i := 1) rfl)) (fun _ h9 => h9) rfl dJ5_insert_00e82_2 ?_
  refine va_csv (va_Run.run (va_runS (As := [.int 0, .int 1]) (rest := []) ⟨hx, hb, hml, hown, hts⟩ (c_Str_checkOffset l dC dI d tc ad 1 (by decide)) (va_cwS 2 hts gJ5_insert_00e82_J0_checkOffset_df160 rfl rfl rfl (by decide +kernel) ⟨Nat.le_of_ble_eq_true rfl, Nat.le_of_ble_eq_true rfl⟩) ⟨PY_blind, PY_pre (hP.sub (ws' := []) [] rfl) (hK.sub (tys' := []) [] rfl) hF hZ hS⟩ rfl rfl hl.1 rfl (lv_room (Nat.le_of_ble_eq_true rfl)) dJ5_insert_00e82_5 ⟨Nat.le_of_ble_eq_true rfl, Nat.le_of_ble_eq_true rfl⟩)) (fun _ => ?_)
  refine lv_aload_n hx hb dJ5_insert_00e82_8 rfl (lv_at hl 0 rfl) ?_
  refine lv_aload_n hx hb dJ5_insert_00e82_9 rfl (lv_at hl 0 rfl) ?_
  refine va_get (D := (dC, dI)) (ci := 1) (v := .int 1) (C := RJ4) (T := TJ4) (N := 4) hx hb hts (fun _ h9 => List.mem_cons_of_mem _ (List.mem_append_right _ (h9))) hown hK hP 0 rfl rfl 3 (by decide) (hts (.fieldLink RJ5 79 "java/lang/AbstractStringBuilder" "count" "I") (List.mem_of_getElem? (i := 1) rfl)) (fun _ h9 => h9) rfl dJ5_insert_00e82_10 ?_
  refine lv_iconst (v := 1) hx hb dJ5_insert_00e82_13 (by decide) ?_
  refine lv_iadd hx hb dJ5_insert_00e82_14 ?_
  refine lv_topi (fun f_2 ef_2 => ?_)
  obtain rfl : f_2 = 2 := ef_2.trans (by decide)
  refine va_csv (va_Run.run (va_runU (As := [.int 2]) (rest := []) ⟨hx, hb, hml, hown, hts⟩ (c_SB_ensure l dC dI y bv kB fb 1 2 (by decide)) (va_cwU 1 hts gJ5_insert_00e82_J5_ensureCapacityInternal_d00df_u100J4 rfl rfl rfl rfl (by decide +kernel) ⟨Nat.le_of_ble_eq_true rfl, Nat.le_of_ble_eq_true rfl⟩) ⟨PS_blind, va_recv hK hP (ci := 1) (q0 := 0) rfl rfl, PS_pre hP hK hF⟩ rfl rfl hl.1 rfl (lv_room (Nat.le_of_ble_eq_true rfl)) dJ5_insert_00e82_15 ⟨Nat.le_of_ble_eq_true rfl, Nat.le_of_ble_eq_true rfl⟩)) (fun _ => ?_)
  refine lv_aload_n hx hb dJ5_insert_00e82_18 rfl (lv_at hl 0 rfl) ?_
  refine lv_iload_n hx hb dJ5_insert_00e82_19 rfl (lv_at hl 1 rfl) ?_
  refine lv_iconst (v := 1) hx hb dJ5_insert_00e82_20 (by decide) ?_
  have hPc := hP.sub (ws' := [(y, .inr (1, [.ref bv, .int 0, .int 0, .int 1])), (bv, .inl (kB, 16, .inl fb))]) [0, 1] rfl
  have hDc := hD.sub (ws' := [(y, .inr (1, [.ref bv, .int 0, .int 0, .int 1])), (bv, .inl (kB, 16, .inl fb))]) [0, 1] (by decide) rfl
  have hKc := hK.sub (tys' := [(kB, .byte)]) [0] rfl
  have hFc := va_free (wc := [(y, .inr (1, [.ref bv, .int 0, .int 0, .int 1])), (bv, .inl (kB, 16, .inl fb))]) hD hS hA [0, 1] rfl
  refine va_callv (va_runU (As := [.int 0, .int 1]) (rest := []) ⟨hx, hb, hml, hown, hts⟩ (c_SB_shift1 l dC dI y bv kB fb s.heap.size hfb) (va_cwU 2 hts gJ5_insert_00e82_J5_shift_df160_u283J4 rfl rfl rfl rfl (by decide +kernel) ⟨Nat.le_of_ble_eq_true rfl, Nat.le_of_ble_eq_true rfl⟩) ⟨PQ_blind, va_recv hK hP (ci := 1) (q0 := 0) rfl rfl, PQ_pre hPc hKc hDc hF⟩ rfl rfl hl.1 rfl (lv_room (Nat.le_of_ble_eq_true rfl)) dJ5_insert_00e82_21 ⟨Nat.le_of_ble_eq_true rfl, Nat.le_of_ble_eq_true rfl⟩) hS (fun q _ h => hFc q h) hFc (fun u t H1 locs ht hvm hw hB hz1 hk1 hS => ?_)
  obtain ⟨fz_5, hP1, hK1, hD1, hx_6⟩ := hB
  rw [ht] at hP1
  have hK1 := va_K.moved hvm.symm hK1
  obtain ⟨hP, hD⟩ := va_join (wr := []) (w1 := [(y, .inr (1, [.ref bv, .int 0, .int 0, .int 1])), (bv, .inl (kB, 16, .inl fz_5))]) hP hD [0, 1] [] rfl rfl (by decide) (by decide) hk1 hFc hP1 hD1
  have hK := hK.app hK1
  generalize H1 = H at hP hS ⊢
  have hP : va_P (dC, dI) vwCl [(y, .inr (1, [.ref bv, .int 0, .int 0, .int 1])), (bv, .inl (kB, 16, .inl fz_5))] H := hP
  have hD : va_D A [(y, .inr (1, [.ref bv, .int 0, .int 0, .int 1])), (bv, .inl (kB, 16, .inl fz_5))] := hD
  have hK : va_K (dC, dI) vwCl [(kB, .byte), (kB, .byte)] s := hK
  refine W.widen (k := 0) (n := 0) (Nat.le_of_ble_eq_true rfl) (Nat.le_of_ble_eq_true rfl) ?_
  refine lv_aload_n hx hb dJ5_insert_00e82_24 rfl (lv_at hl 0 rfl) ?_
  refine lv_dup hx hb dJ5_insert_00e82_25 rfl ?_
  refine va_get (D := (dC, dI)) (ci := 1) (v := .int 1) (C := RJ4) (T := TJ4) (N := 4) hx hb hts (fun _ h9 => List.mem_cons_of_mem _ (List.mem_append_right _ (h9))) hown hK hP 0 rfl rfl 3 (by decide) (hts (.fieldLink RJ5 79 "java/lang/AbstractStringBuilder" "count" "I") (List.mem_of_getElem? (i := 1) rfl)) (fun _ h9 => h9) rfl dJ5_insert_00e82_26 ?_
  refine lv_iconst (v := 1) hx hb dJ5_insert_00e82_29 (by decide) ?_
  refine lv_iadd hx hb dJ5_insert_00e82_30 ?_
  refine lv_topi (fun f_7 ef_7 => ?_)
  obtain rfl : f_7 = 2 := ef_7.trans (by decide)
  refine va_put (D := (dC, dI)) (ci := 1) (v := .int 2) (ty := .int) (C := RJ4) (T := TJ4) (N := 4) hx hb hts (fun _ h9 => List.mem_cons_of_mem _ (List.mem_append_right _ (h9))) tyJ4 tyJ4_ok nmJ4 hown hK hP hD hS 0 rfl rfl 3 (by decide) (hts (.fieldLink RJ5 79 "java/lang/AbstractStringBuilder" "count" "I") (List.mem_of_getElem? (i := 1) rfl)) (fun _ h9 => h9) rfl (by decide +kernel) rfl rfl (Nat.le_of_ble_eq_true rfl) dJ5_insert_00e82_31 (fun H locs hP hD hS => ?_)
  have hP : va_P (dC, dI) vwCl [(y, .inr (1, [.ref bv, .int 0, .int 0, .int 2])), (bv, .inl (kB, 16, .inl fz_5))] H := hP
  have hD : va_D A [(y, .inr (1, [.ref bv, .int 0, .int 0, .int 2])), (bv, .inl (kB, 16, .inl fz_5))] := hD
  refine lv_aload_n hx hb dJ5_insert_00e82_34 rfl (lv_at hl 0 rfl) ?_
  refine vp_callSi (va_Run.run (va_runU (As := []) (rest := []) ⟨hx, hb, hml, hown, hts⟩ (c_SB_isLatin1 l dC dI d tc ad y bv 2) (va_cwU 0 hts gJ5_insert_00e82_J5_isLatin1_aae02_u83J4 rfl rfl rfl rfl (by decide +kernel) ⟨Nat.le_of_ble_eq_true rfl, Nat.le_of_ble_eq_true rfl⟩) ⟨PY_blind, va_recv hK hP (ci := 1) (q0 := 0) rfl rfl, PY_pre (hP.sub (ws' := [(y, .inr (1, [.ref bv, .int 0, .int 0, .int 2]))]) [0] rfl) (hK.sub (tys' := []) [] rfl) hF hZ hS⟩ rfl rfl hl.1 rfl (lv_room (Nat.le_of_ble_eq_true rfl)) dJ5_insert_00e82_35 ⟨Nat.le_of_ble_eq_true rfl, Nat.le_of_ble_eq_true rfl⟩)) (fun r_8 hr_8 => ?_)
  subst hr_8
  refine lv_if_eq (tgt := 59) hx hb dJ5_insert_00e82_38 (by decide) (fun c_9 => absurd c_9 (by decide)) (fun _ => ?_)
  refine lv_iload_n hx hb dJ5_insert_00e82_41 rfl (lv_at hl 2 rfl) ?_
  refine vp_callSi (va_Run.run (va_runS (As := [.int ch]) (rest := []) ⟨hx, hb, hml, hown, hts⟩ (c_J_canEncode l dC dI ch) (va_cwS 1 hts gJ5_insert_00e82_J1_canEncode_fc78d rfl rfl rfl (by decide +kernel) ⟨Nat.le_of_ble_eq_true rfl, Nat.le_of_ble_eq_true rfl⟩) ⟨PS_blind, PS_pre (hP.sub (ws' := []) [] rfl) (hK.sub (tys' := []) [] rfl) hF⟩ rfl rfl hl.1 rfl (lv_room (Nat.le_of_ble_eq_true rfl)) dJ5_insert_00e82_42 ⟨Nat.le_of_ble_eq_true rfl, Nat.le_of_ble_eq_true rfl⟩)) (fun r_10 hr_10 => ?_)
  subst hr_10
  refine lv_if_eq (tgt := 59) hx hb dJ5_insert_00e82_45 (by decide) (fun c_11 => absurd c_11 hce) (fun _ => ?_)
  refine lv_aload_n hx hb dJ5_insert_00e82_48 rfl (lv_at hl 0 rfl) ?_
  refine va_get (D := (dC, dI)) (ci := 1) (v := .ref bv) (C := RJ4) (T := TJ4) (N := 4) hx hb hts (fun _ h9 => List.mem_cons_of_mem _ (List.mem_append_right _ (h9))) hown hK hP 0 rfl rfl 0 (by decide) (hts (.fieldLink RJ5 15 "java/lang/AbstractStringBuilder" "value" "[B") (List.mem_of_getElem? (i := 2) rfl)) (fun _ h9 => h9) rfl dJ5_insert_00e82_49 ?_
  refine lv_iload_n hx hb dJ5_insert_00e82_52 rfl (lv_at hl 1 rfl) ?_
  refine lv_iload_n hx hb dJ5_insert_00e82_53 rfl (lv_at hl 2 rfl) ?_
  refine lv_i2b hx hb dJ5_insert_00e82_54 rfl ?_
  refine va_bast hx hb hK hP hD hS 1 0 rfl rfl (by unfold vp_in; decide) dJ5_insert_00e82_55 (fun H locs hP hD hS => ?_)
  have hP : va_P (dC, dI) vwCl [(y, .inr (1, [.ref bv, .int 0, .int 0, .int 2])), (bv, .inl (kB, 16, .inl (upd fz_5 (0 : Int32).toNatClampNeg (vp_nar .byte ((ch).toInt8.toInt32)))))] H := hP
  have hD : va_D A [(y, .inr (1, [.ref bv, .int 0, .int 0, .int 2])), (bv, .inl (kB, 16, .inl (upd fz_5 (0 : Int32).toNatClampNeg (vp_nar .byte ((ch).toInt8.toInt32)))))] := hD
  have ha_12 : sb_Fit (upd fz_5 (0 : Int32).toNatClampNeg (vp_nar .byte ((ch).toInt8.toInt32))) := sb_fitU hx_6 (by rw [vp_nar_byte]; exact pk_fb _)
  generalize (upd fz_5 (0 : Int32).toNatClampNeg (vp_nar .byte ((ch).toInt8.toInt32))) = a_12 at hP hD ha_12
  refine lv_goto (tgt := 79) hx hb dJ5_insert_00e82_56 (by decide) ?_
  refine lv_aload_n hx hb dJ5_insert_00e82_79 rfl (lv_at hl 0 rfl) ?_
  have hP9 := hP.sub (ws' := [(y, .inr (1, [.ref bv, .int 0, .int 0, .int 2])), (bv, .inl (kB, 16, .inl a_12))]) [0, 1] rfl
  have hD9 := hD.sub (ws' := [(y, .inr (1, [.ref bv, .int 0, .int 0, .int 2])), (bv, .inl (kB, 16, .inl a_12))]) [0, 1] (by decide) rfl
  have hK9 := hK.sub (tys' := [(kB, .byte)]) [0] rfl
  exact W.aret (v := .ref y) hx hb hr (Or.inl ⟨_, rfl⟩) (Or.inr ⟨_, rfl⟩) (fun t ht hW => ⟨⟨(), _, rfl, trivial, a_12, by rw [ht]; exact hP9, va_K.moved hW.alike hK9, hD9, rfl, ha_12⟩, hS.F ht⟩) hS.2.2 dJ5_insert_00e82_80

set_option maxHeartbeats 4000000 in
set_option maxRecDepth 100000 in
theorem c_SB_ins1 (l : Launch) (dC : Nat → ClassId) (dI : Nat → Nat → Nat) (d : Nat) (tc : Nat) (ad : Nat → Nat) (y : Nat) (bv : Nat) (kB : ClassId) (fb : Nat → Int32) (ch : Int32) (sz : Nat) (hfb : sb_Fit fb) (hce : ¬ sp_J_canEncode ch = 0) : Met l yJ4_insert_a3ee8 wsJ4_insert_a3ee8 ({ frames := 3, cells := 0, slots := 0, locals := 124 }) (va_Pc [.ref y, .int 0, .int ch] (PZ dC dI d tc ad sz [(y, .inr (1, [.ref bv, .int 0, .int 0, .int 1])), (bv, .inl (kB, 16, .inl fb))] [(kB, .byte)])) (va_Qr (fun _ : Unit => True) (fun _ ra t => ∃ (fz : Nat → Int32), va_P (dC, dI) vwCl [(y, .inr (1, [.ref bv, .int 0, .int 0, .int 2])), (bv, .inl (kB, 16, .inl fz))] t.heap ∧ va_K (dC, dI) vwCl [(kB, .byte)] t ∧ va_D (va_A [(y, .inr (1, [.ref bv, .int 0, .int 0, .int 1])), (bv, .inl (kB, 16, .inl fb))] sz) [(y, .inr (1, [.ref bv, .int 0, .int 0, .int 2])), (bv, .inl (kB, 16, .inl fz))] ∧ ra = y ∧ sb_Fit fz) (va_A [(y, .inr (1, [.ref bv, .int 0, .int 0, .int 1])), (bv, .inl (kB, 16, .inl fb))] sz)) 0 0 (va_A [(y, .inr (1, [.ref bv, .int 0, .int 0, .int 1])), (bv, .inl (kB, 16, .inl fb))] sz) := by
  refine Met.ofW (cc := cJ4_insert_a3ee8) (maxL := 3) (ret := (some (.object "java/lang/StringBuilder"))) (by decide) rfl ?_
  intro p e s m args below meth c s₁ B hml hv
  obtain ⟨rfl, hsz, hP, hK, hD0, hF, hZ⟩ := hv
  have hx := B.exec
  have hb := B.bytes
  have hr := B.returns
  have hts := atoms_spec (ws := wsJ4_insert_a3ee8) B.pre
  have hown : s.vm.findClass RJ4 = some m.cls := findClass_of_methodNamed B.named
  have hlocks := B.notSynchronized
  subst hsz
  have hD := hD0.self (sz := s.heap.size)
  generalize hAe : va_A [(y, .inr (1, [.ref bv, .int 0, .int 0, .int 1])), (bv, .inl (kB, 16, .inl fb))] s.heap.size = A at hD hZ ⊢
  have hA : ∀ q : Nat, s.heap.size ≤ q → A q := fun q h => by rw [← hAe]; exact Or.inr h
  have hS : va_S A s.heap s.heap [] := va_S.rf
  have hl := lv_entry ([.ref y, .int 0, .int ch]) (n := 3) (Nat.le_of_ble_eq_true rfl)
  rw [lg_entry_eq]
  generalize (lg_sl ([.ref y, .int 0, .int ch]) ++ List.replicate (3 - (lg_sl ([.ref y, .int 0, .int ch])).length) Slot.unset).toArray = ls at hl ⊢
  have hl : lv_has ls 3 [(0, .ref y), (1, .int 0), (2, .int ch)] := hl
  refine lv_aload_n hx hb dJ4_insert_a3ee8_0 rfl (lv_at hl 0 rfl) ?_
  refine lv_iload_n hx hb dJ4_insert_a3ee8_1 rfl (lv_at hl 1 rfl) ?_
  refine lv_iload_n hx hb dJ4_insert_a3ee8_2 rfl (lv_at hl 2 rfl) ?_
  have hPc := hP.sub (ws' := [(y, .inr (1, [.ref bv, .int 0, .int 0, .int 1])), (bv, .inl (kB, 16, .inl fb))]) [0, 1] rfl
  have hDc := hD.sub (ws' := [(y, .inr (1, [.ref bv, .int 0, .int 0, .int 1])), (bv, .inl (kB, 16, .inl fb))]) [0, 1] (by decide) rfl
  have hKc := hK.sub (tys' := [(kB, .byte)]) [0] rfl
  have hFc := va_free (wc := [(y, .inr (1, [.ref bv, .int 0, .int 0, .int 1])), (bv, .inl (kB, 16, .inl fb))]) hD hS hA [0, 1] rfl
  refine va_callr (va_runSU (hK.1 1 _ rfl).2 (As := [.int 0, .int ch]) (rest := []) ⟨hx, hb, hml, hown, hts⟩ (c_SB_insA1 l dC dI d tc ad y bv kB fb ch s.heap.size hfb hce) (va_cwSU 2 hts gJ4_insert_a3ee8_J5_insert_00e82_s101 rfl rfl rfl (by decide +kernel) ⟨Nat.le_of_ble_eq_true rfl, Nat.le_of_ble_eq_true rfl⟩) ⟨PZ_blind, va_recv hK hP (ci := 1) (q0 := 0) rfl rfl, PZ_pre hPc hKc hDc hF hZ hS hFc⟩ rfl rfl hl.1 rfl (lv_room (Nat.le_of_ble_eq_true rfl)) dJ4_insert_a3ee8_3 ⟨Nat.le_of_ble_eq_true rfl, Nat.le_of_ble_eq_true rfl⟩) hS (fun q _ h => hFc q h) hFc (fun u r_1 t H1 locs ht hvm hw hB hz1 hk1 hS => ?_)
  obtain ⟨fz_2, hP1, hK1, hD1, hx_3, hx_4⟩ := hB
  rw [ht] at hP1
  have hK1 := va_K.moved hvm.symm hK1
  obtain ⟨hP, hD⟩ := va_join (wr := []) (w1 := [(y, .inr (1, [.ref bv, .int 0, .int 0, .int 2])), (bv, .inl (kB, 16, .inl fz_2))]) hP hD [0, 1] [] rfl rfl (by decide) (by decide) hk1 hFc hP1 hD1
  have hK := hK.app hK1
  generalize H1 = H at hP hS ⊢
  have hP : va_P (dC, dI) vwCl [(y, .inr (1, [.ref bv, .int 0, .int 0, .int 2])), (bv, .inl (kB, 16, .inl fz_2))] H := hP
  have hD : va_D A [(y, .inr (1, [.ref bv, .int 0, .int 0, .int 2])), (bv, .inl (kB, 16, .inl fz_2))] := hD
  have hK : va_K (dC, dI) vwCl [(kB, .byte), (kB, .byte)] s := hK
  refine W.widen (k := 0) (n := 0) (Nat.le_of_ble_eq_true rfl) (Nat.le_of_ble_eq_true rfl) ?_
  refine lv_pop hx hb dJ4_insert_a3ee8_6 rfl ?_
  refine lv_aload_n hx hb dJ4_insert_a3ee8_7 rfl (lv_at hl 0 rfl) ?_
  have hP9 := hP.sub (ws' := [(y, .inr (1, [.ref bv, .int 0, .int 0, .int 2])), (bv, .inl (kB, 16, .inl fz_2))]) [0, 1] rfl
  have hD9 := hD.sub (ws' := [(y, .inr (1, [.ref bv, .int 0, .int 0, .int 2])), (bv, .inl (kB, 16, .inl fz_2))]) [0, 1] (by decide) rfl
  have hK9 := hK.sub (tys' := [(kB, .byte)]) [0] rfl
  exact W.aret (v := .ref y) hx hb hr (Or.inl ⟨_, rfl⟩) (Or.inr ⟨_, rfl⟩) (fun t ht hW => ⟨⟨(), _, rfl, trivial, fz_2, by rw [ht]; exact hP9, va_K.moved hW.alike hK9, hD9, rfl, hx_4⟩, hS.F ht⟩) hS.2.2 dJ4_insert_a3ee8_8

set_option maxHeartbeats 4000000 in
set_option maxRecDepth 100000 in
theorem c_SB_shift2 (l : Launch) (dC : Nat → ClassId) (dI : Nat → Nat → Nat) (y : Nat) (bv : Nat) (kB : ClassId) (fb : Nat → Int32) (sz : Nat) (hfb : sb_Fit fb) : Met l yJ5_shift_df160 wsJ5_shift_df160 ({ frames := 1, cells := 0, slots := 0, locals := 80 }) (va_Pc [.ref y, .int 0, .int 1] (PQ dC dI sz [(y, .inr (1, [.ref bv, .int 0, .int 0, .int 2])), (bv, .inl (kB, 16, .inl fb))] [(kB, .byte)])) (va_Qv (fun _ : Unit => True) (fun _ t => ∃ (fz : Nat → Int32), va_P (dC, dI) vwCl [(y, .inr (1, [.ref bv, .int 0, .int 0, .int 2])), (bv, .inl (kB, 16, .inl fz))] t.heap ∧ va_K (dC, dI) vwCl [(kB, .byte)] t ∧ va_D (va_A [(y, .inr (1, [.ref bv, .int 0, .int 0, .int 2])), (bv, .inl (kB, 16, .inl fb))] sz) [(y, .inr (1, [.ref bv, .int 0, .int 0, .int 2])), (bv, .inl (kB, 16, .inl fz))] ∧ sb_Fit fz) (va_A [(y, .inr (1, [.ref bv, .int 0, .int 0, .int 2])), (bv, .inl (kB, 16, .inl fb))] sz)) 0 0 (va_A [(y, .inr (1, [.ref bv, .int 0, .int 0, .int 2])), (bv, .inl (kB, 16, .inl fb))] sz) := by
  refine Met.ofW (cc := cJ5_shift_df160) (maxL := 3) (ret := none) (by decide) rfl ?_
  intro p e s m args below meth c s₁ B hml hv
  obtain ⟨rfl, hsz, hP, hK, hD0, hF⟩ := hv
  have hx := B.exec
  have hb := B.bytes
  have hr := B.returns
  have hts := atoms_spec (ws := wsJ5_shift_df160) B.pre
  have hown : s.vm.findClass RJ5 = some m.cls := findClass_of_methodNamed B.named
  have hlocks := B.notSynchronized
  subst hsz
  have hD := hD0.self (sz := s.heap.size)
  generalize hAe : va_A [(y, .inr (1, [.ref bv, .int 0, .int 0, .int 2])), (bv, .inl (kB, 16, .inl fb))] s.heap.size = A at hD ⊢
  have hA : ∀ q : Nat, s.heap.size ≤ q → A q := fun q h => by rw [← hAe]; exact Or.inr h
  have hS : va_S A s.heap s.heap [] := va_S.rf
  have hl := lv_entry ([.ref y, .int 0, .int 1]) (n := 3) (Nat.le_of_ble_eq_true rfl)
  rw [lg_entry_eq]
  generalize (lg_sl ([.ref y, .int 0, .int 1]) ++ List.replicate (3 - (lg_sl ([.ref y, .int 0, .int 1])).length) Slot.unset).toArray = ls at hl ⊢
  have hl : lv_has ls 3 [(0, .ref y), (1, .int 0), (2, .int 1)] := hl
  refine lv_aload_n hx hb dJ5_shift_df160_0 rfl (lv_at hl 0 rfl) ?_
  refine va_get (D := (dC, dI)) (ci := 1) (v := .ref bv) (C := RJ4) (T := TJ4) (N := 4) hx hb hts (fun _ h9 => List.mem_cons_of_mem _ (List.mem_append_right _ (h9))) hown hK hP 0 rfl rfl 0 (by decide) (hts (.fieldLink RJ5 15 "java/lang/AbstractStringBuilder" "value" "[B") (List.mem_of_getElem? (i := 1) rfl)) (fun _ h9 => h9) rfl dJ5_shift_df160_1 ?_
  refine lv_iload_n hx hb dJ5_shift_df160_4 rfl (lv_at hl 1 rfl) ?_
  refine lv_aload_n hx hb dJ5_shift_df160_5 rfl (lv_at hl 0 rfl) ?_
  refine va_get (D := (dC, dI)) (ci := 1) (v := .int 0) (C := RJ4) (T := TJ4) (N := 4) hx hb hts (fun _ h9 => List.mem_cons_of_mem _ (List.mem_append_right _ (h9))) hown hK hP 0 rfl rfl 1 (by decide) (hts (.fieldLink RJ5 22 "java/lang/AbstractStringBuilder" "coder" "B") (List.mem_of_getElem? (i := 2) rfl)) (fun _ h9 => h9) rfl dJ5_shift_df160_6 ?_
  refine lv_ishl hx hb dJ5_shift_df160_9 ?_
  refine lv_topi (fun f_1 ef_1 => ?_)
  obtain rfl : f_1 = 0 := ef_1.trans (by decide)
  refine lv_aload_n hx hb dJ5_shift_df160_10 rfl (lv_at hl 0 rfl) ?_
  refine va_get (D := (dC, dI)) (ci := 1) (v := .ref bv) (C := RJ4) (T := TJ4) (N := 4) hx hb hts (fun _ h9 => List.mem_cons_of_mem _ (List.mem_append_right _ (h9))) hown hK hP 0 rfl rfl 0 (by decide) (hts (.fieldLink RJ5 15 "java/lang/AbstractStringBuilder" "value" "[B") (List.mem_of_getElem? (i := 1) rfl)) (fun _ h9 => h9) rfl dJ5_shift_df160_11 ?_
  refine lv_iload_n hx hb dJ5_shift_df160_14 rfl (lv_at hl 1 rfl) ?_
  refine lv_iload_n hx hb dJ5_shift_df160_15 rfl (lv_at hl 2 rfl) ?_
  refine lv_iadd hx hb dJ5_shift_df160_16 ?_
  refine lv_topi (fun f_2 ef_2 => ?_)
  obtain rfl : f_2 = 1 := ef_2.trans (by decide)
  refine lv_aload_n hx hb dJ5_shift_df160_17 rfl (lv_at hl 0 rfl) ?_
  refine va_get (D := (dC, dI)) (ci := 1) (v := .int 0) (C := RJ4) (T := TJ4) (N := 4) hx hb hts (fun _ h9 => List.mem_cons_of_mem _ (List.mem_append_right _ (h9))) hown hK hP 0 rfl rfl 1 (by decide) (hts (.fieldLink RJ5 22 "java/lang/AbstractStringBuilder" "coder" "B") (List.mem_of_getElem? (i := 2) rfl)) (fun _ h9 => h9) rfl dJ5_shift_df160_18 ?_
  refine lv_ishl hx hb dJ5_shift_df160_21 ?_
  refine lv_topi (fun f_3 ef_3 => ?_)
  obtain rfl : f_3 = 1 := ef_3.trans (by decide)
  refine lv_aload_n hx hb dJ5_shift_df160_22 rfl (lv_at hl 0 rfl) ?_
  refine va_get (D := (dC, dI)) (ci := 1) (v := .int 2) (C := RJ4) (T := TJ4) (N := 4) hx hb hts (fun _ h9 => List.mem_cons_of_mem _ (List.mem_append_right _ (h9))) hown hK hP 0 rfl rfl 3 (by decide) (hts (.fieldLink RJ5 79 "java/lang/AbstractStringBuilder" "count" "I") (List.mem_of_getElem? (i := 3) rfl)) (fun _ h9 => h9) rfl dJ5_shift_df160_23 ?_
  refine lv_iload_n hx hb dJ5_shift_df160_26 rfl (lv_at hl 1 rfl) ?_
  refine lv_isub hx hb dJ5_shift_df160_27 ?_
  refine lv_topi (fun f_4 ef_4 => ?_)
  obtain rfl : f_4 = 2 := ef_4.trans (by decide)
  refine lv_aload_n hx hb dJ5_shift_df160_28 rfl (lv_at hl 0 rfl) ?_
  refine va_get (D := (dC, dI)) (ci := 1) (v := .int 0) (C := RJ4) (T := TJ4) (N := 4) hx hb hts (fun _ h9 => List.mem_cons_of_mem _ (List.mem_append_right _ (h9))) hown hK hP 0 rfl rfl 1 (by decide) (hts (.fieldLink RJ5 22 "java/lang/AbstractStringBuilder" "coder" "B") (List.mem_of_getElem? (i := 2) rfl)) (fun _ h9 => h9) rfl dJ5_shift_df160_29 ?_
  refine lv_ishl hx hb dJ5_shift_df160_32 ?_
  refine lv_topi (fun f_5 ef_5 => ?_)
  obtain rfl : f_5 = 2 := ef_5.trans (by decide)
  refine va_copyi (ty := .byte) hx hb (hml.trans hl.1.symm) hown (hts (.methodLink RJ5 309 arraycopyName) (List.mem_of_getElem? (i := 4) rfl)) (hts (.native arraycopyName) (List.mem_of_getElem? (i := 5) rfl)) (hts (.static arraycopyName) (List.mem_of_getElem? (i := 6) rfl)) (hts (.initialized "java/lang/System") (List.mem_of_getElem? (i := 7) rfl)) hK hP hD hS 1 1 0 0 rfl rfl rfl rfl rfl (sp := 0) (dp := 1) (n := 2) (by decide) (by decide) (by decide) (by decide) (by decide) (fun i _ => hfb _) (Nat.le_of_ble_eq_true rfl) (Nat.le_of_ble_eq_true rfl) dJ5_shift_df160_33 (fun H locs hP hD hS => ?_)
  have hP : va_P (dC, dI) vwCl [(y, .inr (1, [.ref bv, .int 0, .int 0, .int 2])), (bv, .inl (kB, 16, .inl (va_cpy fb fb (0 : Int32).toNatClampNeg (1 : Int32).toNatClampNeg (2 : Int32).toNatClampNeg)))] H := hP
  have hD : va_D A [(y, .inr (1, [.ref bv, .int 0, .int 0, .int 2])), (bv, .inl (kB, 16, .inl (va_cpy fb fb (0 : Int32).toNatClampNeg (1 : Int32).toNatClampNeg (2 : Int32).toNatClampNeg)))] := hD
  have ha_6 : sb_Fit (va_cpy fb fb (0 : Int32).toNatClampNeg (1 : Int32).toNatClampNeg (2 : Int32).toNatClampNeg) := sb_fitC hfb hfb
  generalize (va_cpy fb fb (0 : Int32).toNatClampNeg (1 : Int32).toNatClampNeg (2 : Int32).toNatClampNeg) = a_6 at hP hD ha_6
  have hP9 := hP.sub (ws' := [(y, .inr (1, [.ref bv, .int 0, .int 0, .int 2])), (bv, .inl (kB, 16, .inl a_6))]) [0, 1] rfl
  have hD9 := hD.sub (ws' := [(y, .inr (1, [.ref bv, .int 0, .int 0, .int 2])), (bv, .inl (kB, 16, .inl a_6))]) [0, 1] (by decide) rfl
  have hK9 := hK.sub (tys' := [(kB, .byte)]) [0] rfl
  exact W.vret hx hb hr (fun t ht hW => ⟨⟨(), rfl, trivial, a_6, by rw [ht]; exact hP9, va_K.moved hW.alike hK9, hD9, ha_6⟩, hS.F ht⟩) hS.2.2 dJ5_shift_df160_36

set_option maxHeartbeats 4000000 in
set_option maxRecDepth 100000 in
theorem c_SB_insA2 (l : Launch) (dC : Nat → ClassId) (dI : Nat → Nat → Nat) (d : Nat) (tc : Nat) (ad : Nat → Nat) (y : Nat) (bv : Nat) (kB : ClassId) (fb : Nat → Int32) (ch : Int32) (sz : Nat) (hfb : sb_Fit fb) (hce : ¬ sp_J_canEncode ch = 0) : Met l yJ5_insert_00e82 wsJ5_insert_00e82 ({ frames := 2, cells := 0, slots := 0, locals := 102 }) (va_Pc [.ref y, .int 0, .int ch] (PZ dC dI d tc ad sz [(y, .inr (1, [.ref bv, .int 0, .int 0, .int 2])), (bv, .inl (kB, 16, .inl fb))] [(kB, .byte)])) (va_Qr (fun _ : Unit => True) (fun _ ra t => ∃ (fz : Nat → Int32), va_P (dC, dI) vwCl [(y, .inr (1, [.ref bv, .int 0, .int 0, .int 3])), (bv, .inl (kB, 16, .inl fz))] t.heap ∧ va_K (dC, dI) vwCl [(kB, .byte)] t ∧ va_D (va_A [(y, .inr (1, [.ref bv, .int 0, .int 0, .int 2])), (bv, .inl (kB, 16, .inl fb))] sz) [(y, .inr (1, [.ref bv, .int 0, .int 0, .int 3])), (bv, .inl (kB, 16, .inl fz))] ∧ ra = y ∧ sb_Fit fz) (va_A [(y, .inr (1, [.ref bv, .int 0, .int 0, .int 2])), (bv, .inl (kB, 16, .inl fb))] sz)) 0 0 (va_A [(y, .inr (1, [.ref bv, .int 0, .int 0, .int 2])), (bv, .inl (kB, 16, .inl fb))] sz) := by
  refine Met.ofW (cc := cJ5_insert_00e82) (maxL := 3) (ret := (some (.object "java/lang/AbstractStringBuilder"))) (by decide) rfl ?_
  intro p e s m args below meth c s₁ B hml hv
  obtain ⟨rfl, hsz, hP, hK, hD0, hF, hZ⟩ := hv
  have hx := B.exec
  have hb := B.bytes
  have hr := B.returns
  have hts := atoms_spec (ws := wsJ5_insert_00e82) B.pre
  have hown : s.vm.findClass RJ5 = some m.cls := findClass_of_methodNamed B.named
  have hlocks := B.notSynchronized
  subst hsz
  have hD := hD0.self (sz := s.heap.size)
  generalize hAe : va_A [(y, .inr (1, [.ref bv, .int 0, .int 0, .int 2])), (bv, .inl (kB, 16, .inl fb))] s.heap.size = A at hD hZ ⊢
  have hA : ∀ q : Nat, s.heap.size ≤ q → A q := fun q h => by rw [← hAe]; exact Or.inr h
  have hS : va_S A s.heap s.heap [] := va_S.rf
  have hl := lv_entry ([.ref y, .int 0, .int ch]) (n := 3) (Nat.le_of_ble_eq_true rfl)
  rw [lg_entry_eq]
  generalize (lg_sl ([.ref y, .int 0, .int ch]) ++ List.replicate (3 - (lg_sl ([.ref y, .int 0, .int ch])).length) Slot.unset).toArray = ls at hl ⊢
  have hl : lv_has ls 3 [(0, .ref y), (1, .int 0), (2, .int ch)] := hl
  refine lv_iload_n hx hb dJ5_insert_00e82_0 rfl (lv_at hl 1 rfl) ?_
  refine lv_aload_n hx hb dJ5_insert_00e82_1 rfl (lv_at hl 0 rfl) ?_
  refine va_get (D := (dC, dI)) (ci := 1) (v := .int 2) (C := RJ4) (T := TJ4) (N := 4) hx hb hts (fun _ h9 => List.mem_cons_of_mem _ (List.mem_append_right _ (h9))) hown hK hP 0 rfl rfl 3 (by decide) (hts (.fieldLink RJ5 79 "java/lang/AbstractStringBuilder" "count" "I") (List.mem_of_getElem? (i := 1) rfl)) (fun _ h9 => h9) rfl dJ5_insert_00e82_2 ?_
  refine va_csv (va_Run.run (va_runS (As := [.int 0, .int 2]) (rest := []) ⟨hx, hb, hml, hown, hts⟩ (c_Str_checkOffset l dC dI d tc ad 2 (by decide)) (va_cwS 2 hts gJ5_insert_00e82_J0_checkOffset_df160 rfl rfl rfl (by decide +kernel) ⟨Nat.le_of_ble_eq_true rfl, Nat.le_of_ble_eq_true rfl⟩) ⟨PY_blind, PY_pre (hP.sub (ws' := []) [] rfl) (hK.sub (tys' := []) [] rfl) hF hZ hS⟩ rfl rfl hl.1 rfl (lv_room (Nat.le_of_ble_eq_true rfl)) dJ5_insert_00e82_5 ⟨Nat.le_of_ble_eq_true rfl, Nat.le_of_ble_eq_true rfl⟩)) (fun _ => ?_)
  refine lv_aload_n hx hb dJ5_insert_00e82_8 rfl (lv_at hl 0 rfl) ?_
  refine lv_aload_n hx hb dJ5_insert_00e82_9 rfl (lv_at hl 0 rfl) ?_
  refine va_get (D := (dC, dI)) (ci := 1) (v := .int 2) (C := RJ4) (T := TJ4) (N := 4) hx hb hts (fun _ h9 => List.mem_cons_of_mem _ (List.mem_append_right _ (h9))) hown hK hP 0 rfl rfl 3 (by decide) (hts (.fieldLink RJ5 79 "java/lang/AbstractStringBuilder" "count" "I") (List.mem_of_getElem? (i := 1) rfl)) (fun _ h9 => h9) rfl dJ5_insert_00e82_10 ?_
  refine lv_iconst (v := 1) hx hb dJ5_insert_00e82_13 (by decide) ?_
  refine lv_iadd hx hb dJ5_insert_00e82_14 ?_
  refine lv_topi (fun f_2 ef_2 => ?_)
  obtain rfl : f_2 = 3 := ef_2.trans (by decide)
  refine va_csv (va_Run.run (va_runU (As := [.int 3]) (rest := []) ⟨hx, hb, hml, hown, hts⟩ (c_SB_ensure l dC dI y bv kB fb 2 3 (by decide)) (va_cwU 1 hts gJ5_insert_00e82_J5_ensureCapacityInternal_d00df_u100J4 rfl rfl rfl rfl (by decide +kernel) ⟨Nat.le_of_ble_eq_true rfl, Nat.le_of_ble_eq_true rfl⟩) ⟨PS_blind, va_recv hK hP (ci := 1) (q0 := 0) rfl rfl, PS_pre hP hK hF⟩ rfl rfl hl.1 rfl (lv_room (Nat.le_of_ble_eq_true rfl)) dJ5_insert_00e82_15 ⟨Nat.le_of_ble_eq_true rfl, Nat.le_of_ble_eq_true rfl⟩)) (fun _ => ?_)
  refine lv_aload_n hx hb dJ5_insert_00e82_18 rfl (lv_at hl 0 rfl) ?_
  refine lv_iload_n hx hb dJ5_insert_00e82_19 rfl (lv_at hl 1 rfl) ?_
  refine lv_iconst (v := 1) hx hb dJ5_insert_00e82_20 (by decide) ?_
  have hPc := hP.sub (ws' := [(y, .inr (1, [.ref bv, .int 0, .int 0, .int 2])), (bv, .inl (kB, 16, .inl fb))]) [0, 1] rfl
  have hDc := hD.sub (ws' := [(y, .inr (1, [.ref bv, .int 0, .int 0, .int 2])), (bv, .inl (kB, 16, .inl fb))]) [0, 1] (by decide) rfl
  have hKc := hK.sub (tys' := [(kB, .byte)]) [0] rfl
  have hFc := va_free (wc := [(y, .inr (1, [.ref bv, .int 0, .int 0, .int 2])), (bv, .inl (kB, 16, .inl fb))]) hD hS hA [0, 1] rfl
  refine va_callv (va_runU (As := [.int 0, .int 1]) (rest := []) ⟨hx, hb, hml, hown, hts⟩ (c_SB_shift2 l dC dI y bv kB fb s.heap.size hfb) (va_cwU 2 hts gJ5_insert_00e82_J5_shift_df160_u283J4 rfl rfl rfl rfl (by decide +kernel) ⟨Nat.le_of_ble_eq_true rfl, Nat.le_of_ble_eq_true rfl⟩) ⟨PQ_blind, va_recv hK hP (ci := 1) (q0 := 0) rfl rfl, PQ_pre hPc hKc hDc hF⟩ rfl rfl hl.1 rfl (lv_room (Nat.le_of_ble_eq_true rfl)) dJ5_insert_00e82_21 ⟨Nat.le_of_ble_eq_true rfl, Nat.le_of_ble_eq_true rfl⟩) hS (fun q _ h => hFc q h) hFc (fun u t H1 locs ht hvm hw hB hz1 hk1 hS => ?_)
  obtain ⟨fz_5, hP1, hK1, hD1, hx_6⟩ := hB
  rw [ht] at hP1
  have hK1 := va_K.moved hvm.symm hK1
  obtain ⟨hP, hD⟩ := va_join (wr := []) (w1 := [(y, .inr (1, [.ref bv, .int 0, .int 0, .int 2])), (bv, .inl (kB, 16, .inl fz_5))]) hP hD [0, 1] [] rfl rfl (by decide) (by decide) hk1 hFc hP1 hD1
  have hK := hK.app hK1
  generalize H1 = H at hP hS ⊢
  have hP : va_P (dC, dI) vwCl [(y, .inr (1, [.ref bv, .int 0, .int 0, .int 2])), (bv, .inl (kB, 16, .inl fz_5))] H := hP
  have hD : va_D A [(y, .inr (1, [.ref bv, .int 0, .int 0, .int 2])), (bv, .inl (kB, 16, .inl fz_5))] := hD
  have hK : va_K (dC, dI) vwCl [(kB, .byte), (kB, .byte)] s := hK
  refine W.widen (k := 0) (n := 0) (Nat.le_of_ble_eq_true rfl) (Nat.le_of_ble_eq_true rfl) ?_
  refine lv_aload_n hx hb dJ5_insert_00e82_24 rfl (lv_at hl 0 rfl) ?_
  refine lv_dup hx hb dJ5_insert_00e82_25 rfl ?_
  refine va_get (D := (dC, dI)) (ci := 1) (v := .int 2) (C := RJ4) (T := TJ4) (N := 4) hx hb hts (fun _ h9 => List.mem_cons_of_mem _ (List.mem_append_right _ (h9))) hown hK hP 0 rfl rfl 3 (by decide) (hts (.fieldLink RJ5 79 "java/lang/AbstractStringBuilder" "count" "I") (List.mem_of_getElem? (i := 1) rfl)) (fun _ h9 => h9) rfl dJ5_insert_00e82_26 ?_
  refine lv_iconst (v := 1) hx hb dJ5_insert_00e82_29 (by decide) ?_
  refine lv_iadd hx hb dJ5_insert_00e82_30 ?_
  refine lv_topi (fun f_7 ef_7 => ?_)
  obtain rfl : f_7 = 3 := ef_7.trans (by decide)
  refine va_put (D := (dC, dI)) (ci := 1) (v := .int 3) (ty := .int) (C := RJ4) (T := TJ4) (N := 4) hx hb hts (fun _ h9 => List.mem_cons_of_mem _ (List.mem_append_right _ (h9))) tyJ4 tyJ4_ok nmJ4 hown hK hP hD hS 0 rfl rfl 3 (by decide) (hts (.fieldLink RJ5 79 "java/lang/AbstractStringBuilder" "count" "I") (List.mem_of_getElem? (i := 1) rfl)) (fun _ h9 => h9) rfl (by decide +kernel) rfl rfl (Nat.le_of_ble_eq_true rfl) dJ5_insert_00e82_31 (fun H locs hP hD hS => ?_)
  have hP : va_P (dC, dI) vwCl [(y, .inr (1, [.ref bv, .int 0, .int 0, .int 3])), (bv, .inl (kB, 16, .inl fz_5))] H := hP
  have hD : va_D A [(y, .inr (1, [.ref bv, .int 0, .int 0, .int 3])), (bv, .inl (kB, 16, .inl fz_5))] := hD
  refine lv_aload_n hx hb dJ5_insert_00e82_34 rfl (lv_at hl 0 rfl) ?_
  refine vp_callSi (va_Run.run (va_runU (As := []) (rest := []) ⟨hx, hb, hml, hown, hts⟩ (c_SB_isLatin1 l dC dI d tc ad y bv 3) (va_cwU 0 hts gJ5_insert_00e82_J5_isLatin1_aae02_u83J4 rfl rfl rfl rfl (by decide +kernel) ⟨Nat.le_of_ble_eq_true rfl, Nat.le_of_ble_eq_true rfl⟩) ⟨PY_blind, va_recv hK hP (ci := 1) (q0 := 0) rfl rfl, PY_pre (hP.sub (ws' := [(y, .inr (1, [.ref bv, .int 0, .int 0, .int 3]))]) [0] rfl) (hK.sub (tys' := []) [] rfl) hF hZ hS⟩ rfl rfl hl.1 rfl (lv_room (Nat.le_of_ble_eq_true rfl)) dJ5_insert_00e82_35 ⟨Nat.le_of_ble_eq_true rfl, Nat.le_of_ble_eq_true rfl⟩)) (fun r_8 hr_8 => ?_)
  subst hr_8
  refine lv_if_eq (tgt := 59) hx hb dJ5_insert_00e82_38 (by decide) (fun c_9 => absurd c_9 (by decide)) (fun _ => ?_)
  refine lv_iload_n hx hb dJ5_insert_00e82_41 rfl (lv_at hl 2 rfl) ?_
  refine vp_callSi (va_Run.run (va_runS (As := [.int ch]) (rest := []) ⟨hx, hb, hml, hown, hts⟩ (c_J_canEncode l dC dI ch) (va_cwS 1 hts gJ5_insert_00e82_J1_canEncode_fc78d rfl rfl rfl (by decide +kernel) ⟨Nat.le_of_ble_eq_true rfl, Nat.le_of_ble_eq_true rfl⟩) ⟨PS_blind, PS_pre (hP.sub (ws' := []) [] rfl) (hK.sub (tys' := []) [] rfl) hF⟩ rfl rfl hl.1 rfl (lv_room (Nat.le_of_ble_eq_true rfl)) dJ5_insert_00e82_42 ⟨Nat.le_of_ble_eq_true rfl, Nat.le_of_ble_eq_true rfl⟩)) (fun r_10 hr_10 => ?_)
  subst hr_10
  refine lv_if_eq (tgt := 59) hx hb dJ5_insert_00e82_45 (by decide) (fun c_11 => absurd c_11 hce) (fun _ => ?_)
  refine lv_aload_n hx hb dJ5_insert_00e82_48 rfl (lv_at hl 0 rfl) ?_
  refine va_get (D := (dC, dI)) (ci := 1) (v := .ref bv) (C := RJ4) (T := TJ4) (N := 4) hx hb hts (fun _ h9 => List.mem_cons_of_mem _ (List.mem_append_right _ (h9))) hown hK hP 0 rfl rfl 0 (by decide) (hts (.fieldLink RJ5 15 "java/lang/AbstractStringBuilder" "value" "[B") (List.mem_of_getElem? (i := 2) rfl)) (fun _ h9 => h9) rfl dJ5_insert_00e82_49 ?_
  refine lv_iload_n hx hb dJ5_insert_00e82_52 rfl (lv_at hl 1 rfl) ?_
  refine lv_iload_n hx hb dJ5_insert_00e82_53 rfl (lv_at hl 2 rfl) ?_
  refine lv_i2b hx hb dJ5_insert_00e82_54 rfl ?_
  refine va_bast hx hb hK hP hD hS 1 0 rfl rfl (by unfold vp_in; decide) dJ5_insert_00e82_55 (fun H locs hP hD hS => ?_)
  have hP : va_P (dC, dI) vwCl [(y, .inr (1, [.ref bv, .int 0, .int 0, .int 3])), (bv, .inl (kB, 16, .inl (upd fz_5 (0 : Int32).toNatClampNeg (vp_nar .byte ((ch).toInt8.toInt32)))))] H := hP
  have hD : va_D A [(y, .inr (1, [.ref bv, .int 0, .int 0, .int 3])), (bv, .inl (kB, 16, .inl (upd fz_5 (0 : Int32).toNatClampNeg (vp_nar .byte ((ch).toInt8.toInt32)))))] := hD
  have ha_12 : sb_Fit (upd fz_5 (0 : Int32).toNatClampNeg (vp_nar .byte ((ch).toInt8.toInt32))) := sb_fitU hx_6 (by rw [vp_nar_byte]; exact pk_fb _)
  generalize (upd fz_5 (0 : Int32).toNatClampNeg (vp_nar .byte ((ch).toInt8.toInt32))) = a_12 at hP hD ha_12
  refine lv_goto (tgt := 79) hx hb dJ5_insert_00e82_56 (by decide) ?_
  refine lv_aload_n hx hb dJ5_insert_00e82_79 rfl (lv_at hl 0 rfl) ?_
  have hP9 := hP.sub (ws' := [(y, .inr (1, [.ref bv, .int 0, .int 0, .int 3])), (bv, .inl (kB, 16, .inl a_12))]) [0, 1] rfl
  have hD9 := hD.sub (ws' := [(y, .inr (1, [.ref bv, .int 0, .int 0, .int 3])), (bv, .inl (kB, 16, .inl a_12))]) [0, 1] (by decide) rfl
  have hK9 := hK.sub (tys' := [(kB, .byte)]) [0] rfl
  exact W.aret (v := .ref y) hx hb hr (Or.inl ⟨_, rfl⟩) (Or.inr ⟨_, rfl⟩) (fun t ht hW => ⟨⟨(), _, rfl, trivial, a_12, by rw [ht]; exact hP9, va_K.moved hW.alike hK9, hD9, rfl, ha_12⟩, hS.F ht⟩) hS.2.2 dJ5_insert_00e82_80

set_option maxHeartbeats 4000000 in
set_option maxRecDepth 100000 in
theorem c_SB_ins2 (l : Launch) (dC : Nat → ClassId) (dI : Nat → Nat → Nat) (d : Nat) (tc : Nat) (ad : Nat → Nat) (y : Nat) (bv : Nat) (kB : ClassId) (fb : Nat → Int32) (ch : Int32) (sz : Nat) (hfb : sb_Fit fb) (hce : ¬ sp_J_canEncode ch = 0) : Met l yJ4_insert_a3ee8 wsJ4_insert_a3ee8 ({ frames := 3, cells := 0, slots := 0, locals := 124 }) (va_Pc [.ref y, .int 0, .int ch] (PZ dC dI d tc ad sz [(y, .inr (1, [.ref bv, .int 0, .int 0, .int 2])), (bv, .inl (kB, 16, .inl fb))] [(kB, .byte)])) (va_Qr (fun _ : Unit => True) (fun _ ra t => ∃ (fz : Nat → Int32), va_P (dC, dI) vwCl [(y, .inr (1, [.ref bv, .int 0, .int 0, .int 3])), (bv, .inl (kB, 16, .inl fz))] t.heap ∧ va_K (dC, dI) vwCl [(kB, .byte)] t ∧ va_D (va_A [(y, .inr (1, [.ref bv, .int 0, .int 0, .int 2])), (bv, .inl (kB, 16, .inl fb))] sz) [(y, .inr (1, [.ref bv, .int 0, .int 0, .int 3])), (bv, .inl (kB, 16, .inl fz))] ∧ ra = y ∧ sb_Fit fz) (va_A [(y, .inr (1, [.ref bv, .int 0, .int 0, .int 2])), (bv, .inl (kB, 16, .inl fb))] sz)) 0 0 (va_A [(y, .inr (1, [.ref bv, .int 0, .int 0, .int 2])), (bv, .inl (kB, 16, .inl fb))] sz) := by
  refine Met.ofW (cc := cJ4_insert_a3ee8) (maxL := 3) (ret := (some (.object "java/lang/StringBuilder"))) (by decide) rfl ?_
  intro p e s m args below meth c s₁ B hml hv
  obtain ⟨rfl, hsz, hP, hK, hD0, hF, hZ⟩ := hv
  have hx := B.exec
  have hb := B.bytes
  have hr := B.returns
  have hts := atoms_spec (ws := wsJ4_insert_a3ee8) B.pre
  have hown : s.vm.findClass RJ4 = some m.cls := findClass_of_methodNamed B.named
  have hlocks := B.notSynchronized
  subst hsz
  have hD := hD0.self (sz := s.heap.size)
  generalize hAe : va_A [(y, .inr (1, [.ref bv, .int 0, .int 0, .int 2])), (bv, .inl (kB, 16, .inl fb))] s.heap.size = A at hD hZ ⊢
  have hA : ∀ q : Nat, s.heap.size ≤ q → A q := fun q h => by rw [← hAe]; exact Or.inr h
  have hS : va_S A s.heap s.heap [] := va_S.rf
  have hl := lv_entry ([.ref y, .int 0, .int ch]) (n := 3) (Nat.le_of_ble_eq_true rfl)
  rw [lg_entry_eq]
  generalize (lg_sl ([.ref y, .int 0, .int ch]) ++ List.replicate (3 - (lg_sl ([.ref y, .int 0, .int ch])).length) Slot.unset).toArray = ls at hl ⊢
  have hl : lv_has ls 3 [(0, .ref y), (1, .int 0), (2, .int ch)] := hl
  refine lv_aload_n hx hb dJ4_insert_a3ee8_0 rfl (lv_at hl 0 rfl) ?_
  refine lv_iload_n hx hb dJ4_insert_a3ee8_1 rfl (lv_at hl 1 rfl) ?_
  refine lv_iload_n hx hb dJ4_insert_a3ee8_2 rfl (lv_at hl 2 rfl) ?_
  have hPc := hP.sub (ws' := [(y, .inr (1, [.ref bv, .int 0, .int 0, .int 2])), (bv, .inl (kB, 16, .inl fb))]) [0, 1] rfl
  have hDc := hD.sub (ws' := [(y, .inr (1, [.ref bv, .int 0, .int 0, .int 2])), (bv, .inl (kB, 16, .inl fb))]) [0, 1] (by decide) rfl
  have hKc := hK.sub (tys' := [(kB, .byte)]) [0] rfl
  have hFc := va_free (wc := [(y, .inr (1, [.ref bv, .int 0, .int 0, .int 2])), (bv, .inl (kB, 16, .inl fb))]) hD hS hA [0, 1] rfl
  refine va_callr (va_runSU (hK.1 1 _ rfl).2 (As := [.int 0, .int ch]) (rest := []) ⟨hx, hb, hml, hown, hts⟩ (c_SB_insA2 l dC dI d tc ad y bv kB fb ch s.heap.size hfb hce) (va_cwSU 2 hts gJ4_insert_a3ee8_J5_insert_00e82_s101 rfl rfl rfl (by decide +kernel) ⟨Nat.le_of_ble_eq_true rfl, Nat.le_of_ble_eq_true rfl⟩) ⟨PZ_blind, va_recv hK hP (ci := 1) (q0 := 0) rfl rfl, PZ_pre hPc hKc hDc hF hZ hS hFc⟩ rfl rfl hl.1 rfl (lv_room (Nat.le_of_ble_eq_true rfl)) dJ4_insert_a3ee8_3 ⟨Nat.le_of_ble_eq_true rfl, Nat.le_of_ble_eq_true rfl⟩) hS (fun q _ h => hFc q h) hFc (fun u r_1 t H1 locs ht hvm hw hB hz1 hk1 hS => ?_)
  obtain ⟨fz_2, hP1, hK1, hD1, hx_3, hx_4⟩ := hB
  rw [ht] at hP1
  have hK1 := va_K.moved hvm.symm hK1
  obtain ⟨hP, hD⟩ := va_join (wr := []) (w1 := [(y, .inr (1, [.ref bv, .int 0, .int 0, .int 3])), (bv, .inl (kB, 16, .inl fz_2))]) hP hD [0, 1] [] rfl rfl (by decide) (by decide) hk1 hFc hP1 hD1
  have hK := hK.app hK1
  generalize H1 = H at hP hS ⊢
  have hP : va_P (dC, dI) vwCl [(y, .inr (1, [.ref bv, .int 0, .int 0, .int 3])), (bv, .inl (kB, 16, .inl fz_2))] H := hP
  have hD : va_D A [(y, .inr (1, [.ref bv, .int 0, .int 0, .int 3])), (bv, .inl (kB, 16, .inl fz_2))] := hD
  have hK : va_K (dC, dI) vwCl [(kB, .byte), (kB, .byte)] s := hK
  refine W.widen (k := 0) (n := 0) (Nat.le_of_ble_eq_true rfl) (Nat.le_of_ble_eq_true rfl) ?_
  refine lv_pop hx hb dJ4_insert_a3ee8_6 rfl ?_
  refine lv_aload_n hx hb dJ4_insert_a3ee8_7 rfl (lv_at hl 0 rfl) ?_
  have hP9 := hP.sub (ws' := [(y, .inr (1, [.ref bv, .int 0, .int 0, .int 3])), (bv, .inl (kB, 16, .inl fz_2))]) [0, 1] rfl
  have hD9 := hD.sub (ws' := [(y, .inr (1, [.ref bv, .int 0, .int 0, .int 3])), (bv, .inl (kB, 16, .inl fz_2))]) [0, 1] (by decide) rfl
  have hK9 := hK.sub (tys' := [(kB, .byte)]) [0] rfl
  exact W.aret (v := .ref y) hx hb hr (Or.inl ⟨_, rfl⟩) (Or.inr ⟨_, rfl⟩) (fun t ht hW => ⟨⟨(), _, rfl, trivial, fz_2, by rw [ht]; exact hP9, va_K.moved hW.alike hK9, hD9, rfl, hx_4⟩, hS.F ht⟩) hS.2.2 dJ4_insert_a3ee8_8

set_option maxHeartbeats 4000000 in
set_option maxRecDepth 100000 in
theorem c_SB_shift3 (l : Launch) (dC : Nat → ClassId) (dI : Nat → Nat → Nat) (y : Nat) (bv : Nat) (kB : ClassId) (fb : Nat → Int32) (sz : Nat) (hfb : sb_Fit fb) : Met l yJ5_shift_df160 wsJ5_shift_df160 ({ frames := 1, cells := 0, slots := 0, locals := 80 }) (va_Pc [.ref y, .int 0, .int 1] (PQ dC dI sz [(y, .inr (1, [.ref bv, .int 0, .int 0, .int 3])), (bv, .inl (kB, 16, .inl fb))] [(kB, .byte)])) (va_Qv (fun _ : Unit => True) (fun _ t => ∃ (fz : Nat → Int32), va_P (dC, dI) vwCl [(y, .inr (1, [.ref bv, .int 0, .int 0, .int 3])), (bv, .inl (kB, 16, .inl fz))] t.heap ∧ va_K (dC, dI) vwCl [(kB, .byte)] t ∧ va_D (va_A [(y, .inr (1, [.ref bv, .int 0, .int 0, .int 3])), (bv, .inl (kB, 16, .inl fb))] sz) [(y, .inr (1, [.ref bv, .int 0, .int 0, .int 3])), (bv, .inl (kB, 16, .inl fz))] ∧ sb_Fit fz) (va_A [(y, .inr (1, [.ref bv, .int 0, .int 0, .int 3])), (bv, .inl (kB, 16, .inl fb))] sz)) 0 0 (va_A [(y, .inr (1, [.ref bv, .int 0, .int 0, .int 3])), (bv, .inl (kB, 16, .inl fb))] sz) := by
  refine Met.ofW (cc := cJ5_shift_df160) (maxL := 3) (ret := none) (by decide) rfl ?_
  intro p e s m args below meth c s₁ B hml hv
  obtain ⟨rfl, hsz, hP, hK, hD0, hF⟩ := hv
  have hx := B.exec
  have hb := B.bytes
  have hr := B.returns
  have hts := atoms_spec (ws := wsJ5_shift_df160) B.pre
  have hown : s.vm.findClass RJ5 = some m.cls := findClass_of_methodNamed B.named
  have hlocks := B.notSynchronized
  subst hsz
  have hD := hD0.self (sz := s.heap.size)
  generalize hAe : va_A [(y, .inr (1, [.ref bv, .int 0, .int 0, .int 3])), (bv, .inl (kB, 16, .inl fb))] s.heap.size = A at hD ⊢
  have hA : ∀ q : Nat, s.heap.size ≤ q → A q := fun q h => by rw [← hAe]; exact Or.inr h
  have hS : va_S A s.heap s.heap [] := va_S.rf
  have hl := lv_entry ([.ref y, .int 0, .int 1]) (n := 3) (Nat.le_of_ble_eq_true rfl)
  rw [lg_entry_eq]
  generalize (lg_sl ([.ref y, .int 0, .int 1]) ++ List.replicate (3 - (lg_sl ([.ref y, .int 0, .int 1])).length) Slot.unset).toArray = ls at hl ⊢
  have hl : lv_has ls 3 [(0, .ref y), (1, .int 0), (2, .int 1)] := hl
  refine lv_aload_n hx hb dJ5_shift_df160_0 rfl (lv_at hl 0 rfl) ?_
  refine va_get (D := (dC, dI)) (ci := 1) (v := .ref bv) (C := RJ4) (T := TJ4) (N := 4) hx hb hts (fun _ h9 => List.mem_cons_of_mem _ (List.mem_append_right _ (h9))) hown hK hP 0 rfl rfl 0 (by decide) (hts (.fieldLink RJ5 15 "java/lang/AbstractStringBuilder" "value" "[B") (List.mem_of_getElem? (i := 1) rfl)) (fun _ h9 => h9) rfl dJ5_shift_df160_1 ?_
  refine lv_iload_n hx hb dJ5_shift_df160_4 rfl (lv_at hl 1 rfl) ?_
  refine lv_aload_n hx hb dJ5_shift_df160_5 rfl (lv_at hl 0 rfl) ?_
  refine va_get (D := (dC, dI)) (ci := 1) (v := .int 0) (C := RJ4) (T := TJ4) (N := 4) hx hb hts (fun _ h9 => List.mem_cons_of_mem _ (List.mem_append_right _ (h9))) hown hK hP 0 rfl rfl 1 (by decide) (hts (.fieldLink RJ5 22 "java/lang/AbstractStringBuilder" "coder" "B") (List.mem_of_getElem? (i := 2) rfl)) (fun _ h9 => h9) rfl dJ5_shift_df160_6 ?_
  refine lv_ishl hx hb dJ5_shift_df160_9 ?_
  refine lv_topi (fun f_1 ef_1 => ?_)
  obtain rfl : f_1 = 0 := ef_1.trans (by decide)
  refine lv_aload_n hx hb dJ5_shift_df160_10 rfl (lv_at hl 0 rfl) ?_
  refine va_get (D := (dC, dI)) (ci := 1) (v := .ref bv) (C := RJ4) (T := TJ4) (N := 4) hx hb hts (fun _ h9 => List.mem_cons_of_mem _ (List.mem_append_right _ (h9))) hown hK hP 0 rfl rfl 0 (by decide) (hts (.fieldLink RJ5 15 "java/lang/AbstractStringBuilder" "value" "[B") (List.mem_of_getElem? (i := 1) rfl)) (fun _ h9 => h9) rfl dJ5_shift_df160_11 ?_
  refine lv_iload_n hx hb dJ5_shift_df160_14 rfl (lv_at hl 1 rfl) ?_
  refine lv_iload_n hx hb dJ5_shift_df160_15 rfl (lv_at hl 2 rfl) ?_
  refine lv_iadd hx hb dJ5_shift_df160_16 ?_
  refine lv_topi (fun f_2 ef_2 => ?_)
  obtain rfl : f_2 = 1 := ef_2.trans (by decide)
  refine lv_aload_n hx hb dJ5_shift_df160_17 rfl (lv_at hl 0 rfl) ?_
  refine va_get (D := (dC, dI)) (ci := 1) (v := .int 0) (C := RJ4) (T := TJ4) (N := 4) hx hb hts (fun _ h9 => List.mem_cons_of_mem _ (List.mem_append_right _ (h9))) hown hK hP 0 rfl rfl 1 (by decide) (hts (.fieldLink RJ5 22 "java/lang/AbstractStringBuilder" "coder" "B") (List.mem_of_getElem? (i := 2) rfl)) (fun _ h9 => h9) rfl dJ5_shift_df160_18 ?_
  refine lv_ishl hx hb dJ5_shift_df160_21 ?_
  refine lv_topi (fun f_3 ef_3 => ?_)
  obtain rfl : f_3 = 1 := ef_3.trans (by decide)
  refine lv_aload_n hx hb dJ5_shift_df160_22 rfl (lv_at hl 0 rfl) ?_
  refine va_get (D := (dC, dI)) (ci := 1) (v := .int 3) (C := RJ4) (T := TJ4) (N := 4) hx hb hts (fun _ h9 => List.mem_cons_of_mem _ (List.mem_append_right _ (h9))) hown hK hP 0 rfl rfl 3 (by decide) (hts (.fieldLink RJ5 79 "java/lang/AbstractStringBuilder" "count" "I") (List.mem_of_getElem? (i := 3) rfl)) (fun _ h9 => h9) rfl dJ5_shift_df160_23 ?_
  refine lv_iload_n hx hb dJ5_shift_df160_26 rfl (lv_at hl 1 rfl) ?_
  refine lv_isub hx hb dJ5_shift_df160_27 ?_
  refine lv_topi (fun f_4 ef_4 => ?_)
  obtain rfl : f_4 = 3 := ef_4.trans (by decide)
  refine lv_aload_n hx hb dJ5_shift_df160_28 rfl (lv_at hl 0 rfl) ?_
  refine va_get (D := (dC, dI)) (ci := 1) (v := .int 0) (C := RJ4) (T := TJ4) (N := 4) hx hb hts (fun _ h9 => List.mem_cons_of_mem _ (List.mem_append_right _ (h9))) hown hK hP 0 rfl rfl 1 (by decide) (hts (.fieldLink RJ5 22 "java/lang/AbstractStringBuilder" "coder" "B") (List.mem_of_getElem? (i := 2) rfl)) (fun _ h9 => h9) rfl dJ5_shift_df160_29 ?_
  refine lv_ishl hx hb dJ5_shift_df160_32 ?_
  refine lv_topi (fun f_5 ef_5 => ?_)
  obtain rfl : f_5 = 3 := ef_5.trans (by decide)
  refine va_copyi (ty := .byte) hx hb (hml.trans hl.1.symm) hown (hts (.methodLink RJ5 309 arraycopyName) (List.mem_of_getElem? (i := 4) rfl)) (hts (.native arraycopyName) (List.mem_of_getElem? (i := 5) rfl)) (hts (.static arraycopyName) (List.mem_of_getElem? (i := 6) rfl)) (hts (.initialized "java/lang/System") (List.mem_of_getElem? (i := 7) rfl)) hK hP hD hS 1 1 0 0 rfl rfl rfl rfl rfl (sp := 0) (dp := 1) (n := 3) (by decide) (by decide) (by decide) (by decide) (by decide) (fun i _ => hfb _) (Nat.le_of_ble_eq_true rfl) (Nat.le_of_ble_eq_true rfl) dJ5_shift_df160_33 (fun H locs hP hD hS => ?_)
  have hP : va_P (dC, dI) vwCl [(y, .inr (1, [.ref bv, .int 0, .int 0, .int 3])), (bv, .inl (kB, 16, .inl (va_cpy fb fb (0 : Int32).toNatClampNeg (1 : Int32).toNatClampNeg (3 : Int32).toNatClampNeg)))] H := hP
  have hD : va_D A [(y, .inr (1, [.ref bv, .int 0, .int 0, .int 3])), (bv, .inl (kB, 16, .inl (va_cpy fb fb (0 : Int32).toNatClampNeg (1 : Int32).toNatClampNeg (3 : Int32).toNatClampNeg)))] := hD
  have ha_6 : sb_Fit (va_cpy fb fb (0 : Int32).toNatClampNeg (1 : Int32).toNatClampNeg (3 : Int32).toNatClampNeg) := sb_fitC hfb hfb
  generalize (va_cpy fb fb (0 : Int32).toNatClampNeg (1 : Int32).toNatClampNeg (3 : Int32).toNatClampNeg) = a_6 at hP hD ha_6
  have hP9 := hP.sub (ws' := [(y, .inr (1, [.ref bv, .int 0, .int 0, .int 3])), (bv, .inl (kB, 16, .inl a_6))]) [0, 1] rfl
  have hD9 := hD.sub (ws' := [(y, .inr (1, [.ref bv, .int 0, .int 0, .int 3])), (bv, .inl (kB, 16, .inl a_6))]) [0, 1] (by decide) rfl
  have hK9 := hK.sub (tys' := [(kB, .byte)]) [0] rfl
  exact W.vret hx hb hr (fun t ht hW => ⟨⟨(), rfl, trivial, a_6, by rw [ht]; exact hP9, va_K.moved hW.alike hK9, hD9, ha_6⟩, hS.F ht⟩) hS.2.2 dJ5_shift_df160_36

set_option maxHeartbeats 4000000 in
set_option maxRecDepth 100000 in
theorem c_SB_insA3 (l : Launch) (dC : Nat → ClassId) (dI : Nat → Nat → Nat) (d : Nat) (tc : Nat) (ad : Nat → Nat) (y : Nat) (bv : Nat) (kB : ClassId) (fb : Nat → Int32) (ch : Int32) (sz : Nat) (hfb : sb_Fit fb) (hce : ¬ sp_J_canEncode ch = 0) : Met l yJ5_insert_00e82 wsJ5_insert_00e82 ({ frames := 2, cells := 0, slots := 0, locals := 102 }) (va_Pc [.ref y, .int 0, .int ch] (PZ dC dI d tc ad sz [(y, .inr (1, [.ref bv, .int 0, .int 0, .int 3])), (bv, .inl (kB, 16, .inl fb))] [(kB, .byte)])) (va_Qr (fun _ : Unit => True) (fun _ ra t => ∃ (fz : Nat → Int32), va_P (dC, dI) vwCl [(y, .inr (1, [.ref bv, .int 0, .int 0, .int 4])), (bv, .inl (kB, 16, .inl fz))] t.heap ∧ va_K (dC, dI) vwCl [(kB, .byte)] t ∧ va_D (va_A [(y, .inr (1, [.ref bv, .int 0, .int 0, .int 3])), (bv, .inl (kB, 16, .inl fb))] sz) [(y, .inr (1, [.ref bv, .int 0, .int 0, .int 4])), (bv, .inl (kB, 16, .inl fz))] ∧ ra = y ∧ sb_Fit fz) (va_A [(y, .inr (1, [.ref bv, .int 0, .int 0, .int 3])), (bv, .inl (kB, 16, .inl fb))] sz)) 0 0 (va_A [(y, .inr (1, [.ref bv, .int 0, .int 0, .int 3])), (bv, .inl (kB, 16, .inl fb))] sz) := by
  refine Met.ofW (cc := cJ5_insert_00e82) (maxL := 3) (ret := (some (.object "java/lang/AbstractStringBuilder"))) (by decide) rfl ?_
  intro p e s m args below meth c s₁ B hml hv
  obtain ⟨rfl, hsz, hP, hK, hD0, hF, hZ⟩ := hv
  have hx := B.exec
  have hb := B.bytes
  have hr := B.returns
  have hts := atoms_spec (ws := wsJ5_insert_00e82) B.pre
  have hown : s.vm.findClass RJ5 = some m.cls := findClass_of_methodNamed B.named
  have hlocks := B.notSynchronized
  subst hsz
  have hD := hD0.self (sz := s.heap.size)
  generalize hAe : va_A [(y, .inr (1, [.ref bv, .int 0, .int 0, .int 3])), (bv, .inl (kB, 16, .inl fb))] s.heap.size = A at hD hZ ⊢
  have hA : ∀ q : Nat, s.heap.size ≤ q → A q := fun q h => by rw [← hAe]; exact Or.inr h
  have hS : va_S A s.heap s.heap [] := va_S.rf
  have hl := lv_entry ([.ref y, .int 0, .int ch]) (n := 3) (Nat.le_of_ble_eq_true rfl)
  rw [lg_entry_eq]
  generalize (lg_sl ([.ref y, .int 0, .int ch]) ++ List.replicate (3 - (lg_sl ([.ref y, .int 0, .int ch])).length) Slot.unset).toArray = ls at hl ⊢
  have hl : lv_has ls 3 [(0, .ref y), (1, .int 0), (2, .int ch)] := hl
  refine lv_iload_n hx hb dJ5_insert_00e82_0 rfl (lv_at hl 1 rfl) ?_
  refine lv_aload_n hx hb dJ5_insert_00e82_1 rfl (lv_at hl 0 rfl) ?_
  refine va_get (D := (dC, dI)) (ci := 1) (v := .int 3) (C := RJ4) (T := TJ4) (N := 4) hx hb hts (fun _ h9 => List.mem_cons_of_mem _ (List.mem_append_right _ (h9))) hown hK hP 0 rfl rfl 3 (by decide) (hts (.fieldLink RJ5 79 "java/lang/AbstractStringBuilder" "count" "I") (List.mem_of_getElem? (i := 1) rfl)) (fun _ h9 => h9) rfl dJ5_insert_00e82_2 ?_
  refine va_csv (va_Run.run (va_runS (As := [.int 0, .int 3]) (rest := []) ⟨hx, hb, hml, hown, hts⟩ (c_Str_checkOffset l dC dI d tc ad 3 (by decide)) (va_cwS 2 hts gJ5_insert_00e82_J0_checkOffset_df160 rfl rfl rfl (by decide +kernel) ⟨Nat.le_of_ble_eq_true rfl, Nat.le_of_ble_eq_true rfl⟩) ⟨PY_blind, PY_pre (hP.sub (ws' := []) [] rfl) (hK.sub (tys' := []) [] rfl) hF hZ hS⟩ rfl rfl hl.1 rfl (lv_room (Nat.le_of_ble_eq_true rfl)) dJ5_insert_00e82_5 ⟨Nat.le_of_ble_eq_true rfl, Nat.le_of_ble_eq_true rfl⟩)) (fun _ => ?_)
  refine lv_aload_n hx hb dJ5_insert_00e82_8 rfl (lv_at hl 0 rfl) ?_
  refine lv_aload_n hx hb dJ5_insert_00e82_9 rfl (lv_at hl 0 rfl) ?_
  refine va_get (D := (dC, dI)) (ci := 1) (v := .int 3) (C := RJ4) (T := TJ4) (N := 4) hx hb hts (fun _ h9 => List.mem_cons_of_mem _ (List.mem_append_right _ (h9))) hown hK hP 0 rfl rfl 3 (by decide) (hts (.fieldLink RJ5 79 "java/lang/AbstractStringBuilder" "count" "I") (List.mem_of_getElem? (i := 1) rfl)) (fun _ h9 => h9) rfl dJ5_insert_00e82_10 ?_
  refine lv_iconst (v := 1) hx hb dJ5_insert_00e82_13 (by decide) ?_
  refine lv_iadd hx hb dJ5_insert_00e82_14 ?_
  refine lv_topi (fun f_2 ef_2 => ?_)
  obtain rfl : f_2 = 4 := ef_2.trans (by decide)
  refine va_csv (va_Run.run (va_runU (As := [.int 4]) (rest := []) ⟨hx, hb, hml, hown, hts⟩ (c_SB_ensure l dC dI y bv kB fb 3 4 (by decide)) (va_cwU 1 hts gJ5_insert_00e82_J5_ensureCapacityInternal_d00df_u100J4 rfl rfl rfl rfl (by decide +kernel) ⟨Nat.le_of_ble_eq_true rfl, Nat.le_of_ble_eq_true rfl⟩) ⟨PS_blind, va_recv hK hP (ci := 1) (q0 := 0) rfl rfl, PS_pre hP hK hF⟩ rfl rfl hl.1 rfl (lv_room (Nat.le_of_ble_eq_true rfl)) dJ5_insert_00e82_15 ⟨Nat.le_of_ble_eq_true rfl, Nat.le_of_ble_eq_true rfl⟩)) (fun _ => ?_)
  refine lv_aload_n hx hb dJ5_insert_00e82_18 rfl (lv_at hl 0 rfl) ?_
  refine lv_iload_n hx hb dJ5_insert_00e82_19 rfl (lv_at hl 1 rfl) ?_
  refine lv_iconst (v := 1) hx hb dJ5_insert_00e82_20 (by decide) ?_
  have hPc := hP.sub (ws' := [(y, .inr (1, [.ref bv, .int 0, .int 0, .int 3])), (bv, .inl (kB, 16, .inl fb))]) [0, 1] rfl
  have hDc := hD.sub (ws' := [(y, .inr (1, [.ref bv, .int 0, .int 0, .int 3])), (bv, .inl (kB, 16, .inl fb))]) [0, 1] (by decide) rfl
  have hKc := hK.sub (tys' := [(kB, .byte)]) [0] rfl
  have hFc := va_free (wc := [(y, .inr (1, [.ref bv, .int 0, .int 0, .int 3])), (bv, .inl (kB, 16, .inl fb))]) hD hS hA [0, 1] rfl
  refine va_callv (va_runU (As := [.int 0, .int 1]) (rest := []) ⟨hx, hb, hml, hown, hts⟩ (c_SB_shift3 l dC dI y bv kB fb s.heap.size hfb) (va_cwU 2 hts gJ5_insert_00e82_J5_shift_df160_u283J4 rfl rfl rfl rfl (by decide +kernel) ⟨Nat.le_of_ble_eq_true rfl, Nat.le_of_ble_eq_true rfl⟩) ⟨PQ_blind, va_recv hK hP (ci := 1) (q0 := 0) rfl rfl, PQ_pre hPc hKc hDc hF⟩ rfl rfl hl.1 rfl (lv_room (Nat.le_of_ble_eq_true rfl)) dJ5_insert_00e82_21 ⟨Nat.le_of_ble_eq_true rfl, Nat.le_of_ble_eq_true rfl⟩) hS (fun q _ h => hFc q h) hFc (fun u t H1 locs ht hvm hw hB hz1 hk1 hS => ?_)
  obtain ⟨fz_5, hP1, hK1, hD1, hx_6⟩ := hB
  rw [ht] at hP1
  have hK1 := va_K.moved hvm.symm hK1
  obtain ⟨hP, hD⟩ := va_join (wr := []) (w1 := [(y, .inr (1, [.ref bv, .int 0, .int 0, .int 3])), (bv, .inl (kB, 16, .inl fz_5))]) hP hD [0, 1] [] rfl rfl (by decide) (by decide) hk1 hFc hP1 hD1
  have hK := hK.app hK1
  generalize H1 = H at hP hS ⊢
  have hP : va_P (dC, dI) vwCl [(y, .inr (1, [.ref bv, .int 0, .int 0, .int 3])), (bv, .inl (kB, 16, .inl fz_5))] H := hP
  have hD : va_D A [(y, .inr (1, [.ref bv, .int 0, .int 0, .int 3])), (bv, .inl (kB, 16, .inl fz_5))] := hD
  have hK : va_K (dC, dI) vwCl [(kB, .byte), (kB, .byte)] s := hK
  refine W.widen (k := 0) (n := 0) (Nat.le_of_ble_eq_true rfl) (Nat.le_of_ble_eq_true rfl) ?_
  refine lv_aload_n hx hb dJ5_insert_00e82_24 rfl (lv_at hl 0 rfl) ?_
  refine lv_dup hx hb dJ5_insert_00e82_25 rfl ?_
  refine va_get (D := (dC, dI)) (ci := 1) (v := .int 3) (C := RJ4) (T := TJ4) (N := 4) hx hb hts (fun _ h9 => List.mem_cons_of_mem _ (List.mem_append_right _ (h9))) hown hK hP 0 rfl rfl 3 (by decide) (hts (.fieldLink RJ5 79 "java/lang/AbstractStringBuilder" "count" "I") (List.mem_of_getElem? (i := 1) rfl)) (fun _ h9 => h9) rfl dJ5_insert_00e82_26 ?_
  refine lv_iconst (v := 1) hx hb dJ5_insert_00e82_29 (by decide) ?_
  refine lv_iadd hx hb dJ5_insert_00e82_30 ?_
  refine lv_topi (fun f_7 ef_7 => ?_)
  obtain rfl : f_7 = 4 := ef_7.trans (by decide)
  refine va_put (D := (dC, dI)) (ci := 1) (v := .int 4) (ty := .int) (C := RJ4) (T := TJ4) (N := 4) hx hb hts (fun _ h9 => List.mem_cons_of_mem _ (List.mem_append_right _ (h9))) tyJ4 tyJ4_ok nmJ4 hown hK hP hD hS 0 rfl rfl 3 (by decide) (hts (.fieldLink RJ5 79 "java/lang/AbstractStringBuilder" "count" "I") (List.mem_of_getElem? (i := 1) rfl)) (fun _ h9 => h9) rfl (by decide +kernel) rfl rfl (Nat.le_of_ble_eq_true rfl) dJ5_insert_00e82_31 (fun H locs hP hD hS => ?_)
  have hP : va_P (dC, dI) vwCl [(y, .inr (1, [.ref bv, .int 0, .int 0, .int 4])), (bv, .inl (kB, 16, .inl fz_5))] H := hP
  have hD : va_D A [(y, .inr (1, [.ref bv, .int 0, .int 0, .int 4])), (bv, .inl (kB, 16, .inl fz_5))] := hD
  refine lv_aload_n hx hb dJ5_insert_00e82_34 rfl (lv_at hl 0 rfl) ?_
  refine vp_callSi (va_Run.run (va_runU (As := []) (rest := []) ⟨hx, hb, hml, hown, hts⟩ (c_SB_isLatin1 l dC dI d tc ad y bv 4) (va_cwU 0 hts gJ5_insert_00e82_J5_isLatin1_aae02_u83J4 rfl rfl rfl rfl (by decide +kernel) ⟨Nat.le_of_ble_eq_true rfl, Nat.le_of_ble_eq_true rfl⟩) ⟨PY_blind, va_recv hK hP (ci := 1) (q0 := 0) rfl rfl, PY_pre (hP.sub (ws' := [(y, .inr (1, [.ref bv, .int 0, .int 0, .int 4]))]) [0] rfl) (hK.sub (tys' := []) [] rfl) hF hZ hS⟩ rfl rfl hl.1 rfl (lv_room (Nat.le_of_ble_eq_true rfl)) dJ5_insert_00e82_35 ⟨Nat.le_of_ble_eq_true rfl, Nat.le_of_ble_eq_true rfl⟩)) (fun r_8 hr_8 => ?_)
  subst hr_8
  refine lv_if_eq (tgt := 59) hx hb dJ5_insert_00e82_38 (by decide) (fun c_9 => absurd c_9 (by decide)) (fun _ => ?_)
  refine lv_iload_n hx hb dJ5_insert_00e82_41 rfl (lv_at hl 2 rfl) ?_
  refine vp_callSi (va_Run.run (va_runS (As := [.int ch]) (rest := []) ⟨hx, hb, hml, hown, hts⟩ (c_J_canEncode l dC dI ch) (va_cwS 1 hts gJ5_insert_00e82_J1_canEncode_fc78d rfl rfl rfl (by decide +kernel) ⟨Nat.le_of_ble_eq_true rfl, Nat.le_of_ble_eq_true rfl⟩) ⟨PS_blind, PS_pre (hP.sub (ws' := []) [] rfl) (hK.sub (tys' := []) [] rfl) hF⟩ rfl rfl hl.1 rfl (lv_room (Nat.le_of_ble_eq_true rfl)) dJ5_insert_00e82_42 ⟨Nat.le_of_ble_eq_true rfl, Nat.le_of_ble_eq_true rfl⟩)) (fun r_10 hr_10 => ?_)
  subst hr_10
  refine lv_if_eq (tgt := 59) hx hb dJ5_insert_00e82_45 (by decide) (fun c_11 => absurd c_11 hce) (fun _ => ?_)
  refine lv_aload_n hx hb dJ5_insert_00e82_48 rfl (lv_at hl 0 rfl) ?_
  refine va_get (D := (dC, dI)) (ci := 1) (v := .ref bv) (C := RJ4) (T := TJ4) (N := 4) hx hb hts (fun _ h9 => List.mem_cons_of_mem _ (List.mem_append_right _ (h9))) hown hK hP 0 rfl rfl 0 (by decide) (hts (.fieldLink RJ5 15 "java/lang/AbstractStringBuilder" "value" "[B") (List.mem_of_getElem? (i := 2) rfl)) (fun _ h9 => h9) rfl dJ5_insert_00e82_49 ?_
  refine lv_iload_n hx hb dJ5_insert_00e82_52 rfl (lv_at hl 1 rfl) ?_
  refine lv_iload_n hx hb dJ5_insert_00e82_53 rfl (lv_at hl 2 rfl) ?_
  refine lv_i2b hx hb dJ5_insert_00e82_54 rfl ?_
  refine va_bast hx hb hK hP hD hS 1 0 rfl rfl (by unfold vp_in; decide) dJ5_insert_00e82_55 (fun H locs hP hD hS => ?_)
  have hP : va_P (dC, dI) vwCl [(y, .inr (1, [.ref bv, .int 0, .int 0, .int 4])), (bv, .inl (kB, 16, .inl (upd fz_5 (0 : Int32).toNatClampNeg (vp_nar .byte ((ch).toInt8.toInt32)))))] H := hP
  have hD : va_D A [(y, .inr (1, [.ref bv, .int 0, .int 0, .int 4])), (bv, .inl (kB, 16, .inl (upd fz_5 (0 : Int32).toNatClampNeg (vp_nar .byte ((ch).toInt8.toInt32)))))] := hD
  have ha_12 : sb_Fit (upd fz_5 (0 : Int32).toNatClampNeg (vp_nar .byte ((ch).toInt8.toInt32))) := sb_fitU hx_6 (by rw [vp_nar_byte]; exact pk_fb _)
  generalize (upd fz_5 (0 : Int32).toNatClampNeg (vp_nar .byte ((ch).toInt8.toInt32))) = a_12 at hP hD ha_12
  refine lv_goto (tgt := 79) hx hb dJ5_insert_00e82_56 (by decide) ?_
  refine lv_aload_n hx hb dJ5_insert_00e82_79 rfl (lv_at hl 0 rfl) ?_
  have hP9 := hP.sub (ws' := [(y, .inr (1, [.ref bv, .int 0, .int 0, .int 4])), (bv, .inl (kB, 16, .inl a_12))]) [0, 1] rfl
  have hD9 := hD.sub (ws' := [(y, .inr (1, [.ref bv, .int 0, .int 0, .int 4])), (bv, .inl (kB, 16, .inl a_12))]) [0, 1] (by decide) rfl
  have hK9 := hK.sub (tys' := [(kB, .byte)]) [0] rfl
  exact W.aret (v := .ref y) hx hb hr (Or.inl ⟨_, rfl⟩) (Or.inr ⟨_, rfl⟩) (fun t ht hW => ⟨⟨(), _, rfl, trivial, a_12, by rw [ht]; exact hP9, va_K.moved hW.alike hK9, hD9, rfl, ha_12⟩, hS.F ht⟩) hS.2.2 dJ5_insert_00e82_80

set_option maxHeartbeats 4000000 in
set_option maxRecDepth 100000 in
theorem c_SB_ins3 (l : Launch) (dC : Nat → ClassId) (dI : Nat → Nat → Nat) (d : Nat) (tc : Nat) (ad : Nat → Nat) (y : Nat) (bv : Nat) (kB : ClassId) (fb : Nat → Int32) (ch : Int32) (sz : Nat) (hfb : sb_Fit fb) (hce : ¬ sp_J_canEncode ch = 0) : Met l yJ4_insert_a3ee8 wsJ4_insert_a3ee8 ({ frames := 3, cells := 0, slots := 0, locals := 124 }) (va_Pc [.ref y, .int 0, .int ch] (PZ dC dI d tc ad sz [(y, .inr (1, [.ref bv, .int 0, .int 0, .int 3])), (bv, .inl (kB, 16, .inl fb))] [(kB, .byte)])) (va_Qr (fun _ : Unit => True) (fun _ ra t => ∃ (fz : Nat → Int32), va_P (dC, dI) vwCl [(y, .inr (1, [.ref bv, .int 0, .int 0, .int 4])), (bv, .inl (kB, 16, .inl fz))] t.heap ∧ va_K (dC, dI) vwCl [(kB, .byte)] t ∧ va_D (va_A [(y, .inr (1, [.ref bv, .int 0, .int 0, .int 3])), (bv, .inl (kB, 16, .inl fb))] sz) [(y, .inr (1, [.ref bv, .int 0, .int 0, .int 4])), (bv, .inl (kB, 16, .inl fz))] ∧ ra = y ∧ sb_Fit fz) (va_A [(y, .inr (1, [.ref bv, .int 0, .int 0, .int 3])), (bv, .inl (kB, 16, .inl fb))] sz)) 0 0 (va_A [(y, .inr (1, [.ref bv, .int 0, .int 0, .int 3])), (bv, .inl (kB, 16, .inl fb))] sz) := by
  refine Met.ofW (cc := cJ4_insert_a3ee8) (maxL := 3) (ret := (some (.object "java/lang/StringBuilder"))) (by decide) rfl ?_
  intro p e s m args below meth c s₁ B hml hv
  obtain ⟨rfl, hsz, hP, hK, hD0, hF, hZ⟩ := hv
  have hx := B.exec
  have hb := B.bytes
  have hr := B.returns
  have hts := atoms_spec (ws := wsJ4_insert_a3ee8) B.pre
  have hown : s.vm.findClass RJ4 = some m.cls := findClass_of_methodNamed B.named
  have hlocks := B.notSynchronized
  subst hsz
  have hD := hD0.self (sz := s.heap.size)
  generalize hAe : va_A [(y, .inr (1, [.ref bv, .int 0, .int 0, .int 3])), (bv, .inl (kB, 16, .inl fb))] s.heap.size = A at hD hZ ⊢
  have hA : ∀ q : Nat, s.heap.size ≤ q → A q := fun q h => by rw [← hAe]; exact Or.inr h
  have hS : va_S A s.heap s.heap [] := va_S.rf
  have hl := lv_entry ([.ref y, .int 0, .int ch]) (n := 3) (Nat.le_of_ble_eq_true rfl)
  rw [lg_entry_eq]
  generalize (lg_sl ([.ref y, .int 0, .int ch]) ++ List.replicate (3 - (lg_sl ([.ref y, .int 0, .int ch])).length) Slot.unset).toArray = ls at hl ⊢
  have hl : lv_has ls 3 [(0, .ref y), (1, .int 0), (2, .int ch)] := hl
  refine lv_aload_n hx hb dJ4_insert_a3ee8_0 rfl (lv_at hl 0 rfl) ?_
  refine lv_iload_n hx hb dJ4_insert_a3ee8_1 rfl (lv_at hl 1 rfl) ?_
  refine lv_iload_n hx hb dJ4_insert_a3ee8_2 rfl (lv_at hl 2 rfl) ?_
  have hPc := hP.sub (ws' := [(y, .inr (1, [.ref bv, .int 0, .int 0, .int 3])), (bv, .inl (kB, 16, .inl fb))]) [0, 1] rfl
  have hDc := hD.sub (ws' := [(y, .inr (1, [.ref bv, .int 0, .int 0, .int 3])), (bv, .inl (kB, 16, .inl fb))]) [0, 1] (by decide) rfl
  have hKc := hK.sub (tys' := [(kB, .byte)]) [0] rfl
  have hFc := va_free (wc := [(y, .inr (1, [.ref bv, .int 0, .int 0, .int 3])), (bv, .inl (kB, 16, .inl fb))]) hD hS hA [0, 1] rfl
  refine va_callr (va_runSU (hK.1 1 _ rfl).2 (As := [.int 0, .int ch]) (rest := []) ⟨hx, hb, hml, hown, hts⟩ (c_SB_insA3 l dC dI d tc ad y bv kB fb ch s.heap.size hfb hce) (va_cwSU 2 hts gJ4_insert_a3ee8_J5_insert_00e82_s101 rfl rfl rfl (by decide +kernel) ⟨Nat.le_of_ble_eq_true rfl, Nat.le_of_ble_eq_true rfl⟩) ⟨PZ_blind, va_recv hK hP (ci := 1) (q0 := 0) rfl rfl, PZ_pre hPc hKc hDc hF hZ hS hFc⟩ rfl rfl hl.1 rfl (lv_room (Nat.le_of_ble_eq_true rfl)) dJ4_insert_a3ee8_3 ⟨Nat.le_of_ble_eq_true rfl, Nat.le_of_ble_eq_true rfl⟩) hS (fun q _ h => hFc q h) hFc (fun u r_1 t H1 locs ht hvm hw hB hz1 hk1 hS => ?_)
  obtain ⟨fz_2, hP1, hK1, hD1, hx_3, hx_4⟩ := hB
  rw [ht] at hP1
  have hK1 := va_K.moved hvm.symm hK1
  obtain ⟨hP, hD⟩ := va_join (wr := []) (w1 := [(y, .inr (1, [.ref bv, .int 0, .int 0, .int 4])), (bv, .inl (kB, 16, .inl fz_2))]) hP hD [0, 1] [] rfl rfl (by decide) (by decide) hk1 hFc hP1 hD1
  have hK := hK.app hK1
  generalize H1 = H at hP hS ⊢
  have hP : va_P (dC, dI) vwCl [(y, .inr (1, [.ref bv, .int 0, .int 0, .int 4])), (bv, .inl (kB, 16, .inl fz_2))] H := hP
  have hD : va_D A [(y, .inr (1, [.ref bv, .int 0, .int 0, .int 4])), (bv, .inl (kB, 16, .inl fz_2))] := hD
  have hK : va_K (dC, dI) vwCl [(kB, .byte), (kB, .byte)] s := hK
  refine W.widen (k := 0) (n := 0) (Nat.le_of_ble_eq_true rfl) (Nat.le_of_ble_eq_true rfl) ?_
  refine lv_pop hx hb dJ4_insert_a3ee8_6 rfl ?_
  refine lv_aload_n hx hb dJ4_insert_a3ee8_7 rfl (lv_at hl 0 rfl) ?_
  have hP9 := hP.sub (ws' := [(y, .inr (1, [.ref bv, .int 0, .int 0, .int 4])), (bv, .inl (kB, 16, .inl fz_2))]) [0, 1] rfl
  have hD9 := hD.sub (ws' := [(y, .inr (1, [.ref bv, .int 0, .int 0, .int 4])), (bv, .inl (kB, 16, .inl fz_2))]) [0, 1] (by decide) rfl
  have hK9 := hK.sub (tys' := [(kB, .byte)]) [0] rfl
  exact W.aret (v := .ref y) hx hb hr (Or.inl ⟨_, rfl⟩) (Or.inr ⟨_, rfl⟩) (fun t ht hW => ⟨⟨(), _, rfl, trivial, fz_2, by rw [ht]; exact hP9, va_K.moved hW.alike hK9, hD9, rfl, hx_4⟩, hS.F ht⟩) hS.2.2 dJ4_insert_a3ee8_8

set_option maxHeartbeats 4000000 in
set_option maxRecDepth 100000 in
theorem c_SB_shift4 (l : Launch) (dC : Nat → ClassId) (dI : Nat → Nat → Nat) (y : Nat) (bv : Nat) (kB : ClassId) (fb : Nat → Int32) (sz : Nat) (hfb : sb_Fit fb) : Met l yJ5_shift_df160 wsJ5_shift_df160 ({ frames := 1, cells := 0, slots := 0, locals := 80 }) (va_Pc [.ref y, .int 0, .int 1] (PQ dC dI sz [(y, .inr (1, [.ref bv, .int 0, .int 0, .int 4])), (bv, .inl (kB, 16, .inl fb))] [(kB, .byte)])) (va_Qv (fun _ : Unit => True) (fun _ t => ∃ (fz : Nat → Int32), va_P (dC, dI) vwCl [(y, .inr (1, [.ref bv, .int 0, .int 0, .int 4])), (bv, .inl (kB, 16, .inl fz))] t.heap ∧ va_K (dC, dI) vwCl [(kB, .byte)] t ∧ va_D (va_A [(y, .inr (1, [.ref bv, .int 0, .int 0, .int 4])), (bv, .inl (kB, 16, .inl fb))] sz) [(y, .inr (1, [.ref bv, .int 0, .int 0, .int 4])), (bv, .inl (kB, 16, .inl fz))] ∧ sb_Fit fz) (va_A [(y, .inr (1, [.ref bv, .int 0, .int 0, .int 4])), (bv, .inl (kB, 16, .inl fb))] sz)) 0 0 (va_A [(y, .inr (1, [.ref bv, .int 0, .int 0, .int 4])), (bv, .inl (kB, 16, .inl fb))] sz) := by
  refine Met.ofW (cc := cJ5_shift_df160) (maxL := 3) (ret := none) (by decide) rfl ?_
  intro p e s m args below meth c s₁ B hml hv
  obtain ⟨rfl, hsz, hP, hK, hD0, hF⟩ := hv
  have hx := B.exec
  have hb := B.bytes
  have hr := B.returns
  have hts := atoms_spec (ws := wsJ5_shift_df160) B.pre
  have hown : s.vm.findClass RJ5 = some m.cls := findClass_of_methodNamed B.named
  have hlocks := B.notSynchronized
  subst hsz
  have hD := hD0.self (sz := s.heap.size)
  generalize hAe : va_A [(y, .inr (1, [.ref bv, .int 0, .int 0, .int 4])), (bv, .inl (kB, 16, .inl fb))] s.heap.size = A at hD ⊢
  have hA : ∀ q : Nat, s.heap.size ≤ q → A q := fun q h => by rw [← hAe]; exact Or.inr h
  have hS : va_S A s.heap s.heap [] := va_S.rf
  have hl := lv_entry ([.ref y, .int 0, .int 1]) (n := 3) (Nat.le_of_ble_eq_true rfl)
  rw [lg_entry_eq]
  generalize (lg_sl ([.ref y, .int 0, .int 1]) ++ List.replicate (3 - (lg_sl ([.ref y, .int 0, .int 1])).length) Slot.unset).toArray = ls at hl ⊢
  have hl : lv_has ls 3 [(0, .ref y), (1, .int 0), (2, .int 1)] := hl
  refine lv_aload_n hx hb dJ5_shift_df160_0 rfl (lv_at hl 0 rfl) ?_
  refine va_get (D := (dC, dI)) (ci := 1) (v := .ref bv) (C := RJ4) (T := TJ4) (N := 4) hx hb hts (fun _ h9 => List.mem_cons_of_mem _ (List.mem_append_right _ (h9))) hown hK hP 0 rfl rfl 0 (by decide) (hts (.fieldLink RJ5 15 "java/lang/AbstractStringBuilder" "value" "[B") (List.mem_of_getElem? (i := 1) rfl)) (fun _ h9 => h9) rfl dJ5_shift_df160_1 ?_
  refine lv_iload_n hx hb dJ5_shift_df160_4 rfl (lv_at hl 1 rfl) ?_
  refine lv_aload_n hx hb dJ5_shift_df160_5 rfl (lv_at hl 0 rfl) ?_
  refine va_get (D := (dC, dI)) (ci := 1) (v := .int 0) (C := RJ4) (T := TJ4) (N := 4) hx hb hts (fun _ h9 => List.mem_cons_of_mem _ (List.mem_append_right _ (h9))) hown hK hP 0 rfl rfl 1 (by decide) (hts (.fieldLink RJ5 22 "java/lang/AbstractStringBuilder" "coder" "B") (List.mem_of_getElem? (i := 2) rfl)) (fun _ h9 => h9) rfl dJ5_shift_df160_6 ?_
  refine lv_ishl hx hb dJ5_shift_df160_9 ?_
  refine lv_topi (fun f_1 ef_1 => ?_)
  obtain rfl : f_1 = 0 := ef_1.trans (by decide)
  refine lv_aload_n hx hb dJ5_shift_df160_10 rfl (lv_at hl 0 rfl) ?_
  refine va_get (D := (dC, dI)) (ci := 1) (v := .ref bv) (C := RJ4) (T := TJ4) (N := 4) hx hb hts (fun _ h9 => List.mem_cons_of_mem _ (List.mem_append_right _ (h9))) hown hK hP 0 rfl rfl 0 (by decide) (hts (.fieldLink RJ5 15 "java/lang/AbstractStringBuilder" "value" "[B") (List.mem_of_getElem? (i := 1) rfl)) (fun _ h9 => h9) rfl dJ5_shift_df160_11 ?_
  refine lv_iload_n hx hb dJ5_shift_df160_14 rfl (lv_at hl 1 rfl) ?_
  refine lv_iload_n hx hb dJ5_shift_df160_15 rfl (lv_at hl 2 rfl) ?_
  refine lv_iadd hx hb dJ5_shift_df160_16 ?_
  refine lv_topi (fun f_2 ef_2 => ?_)
  obtain rfl : f_2 = 1 := ef_2.trans (by decide)
  refine lv_aload_n hx hb dJ5_shift_df160_17 rfl (lv_at hl 0 rfl) ?_
  refine va_get (D := (dC, dI)) (ci := 1) (v := .int 0) (C := RJ4) (T := TJ4) (N := 4) hx hb hts (fun _ h9 => List.mem_cons_of_mem _ (List.mem_append_right _ (h9))) hown hK hP 0 rfl rfl 1 (by decide) (hts (.fieldLink RJ5 22 "java/lang/AbstractStringBuilder" "coder" "B") (List.mem_of_getElem? (i := 2) rfl)) (fun _ h9 => h9) rfl dJ5_shift_df160_18 ?_
  refine lv_ishl hx hb dJ5_shift_df160_21 ?_
  refine lv_topi (fun f_3 ef_3 => ?_)
  obtain rfl : f_3 = 1 := ef_3.trans (by decide)
  refine lv_aload_n hx hb dJ5_shift_df160_22 rfl (lv_at hl 0 rfl) ?_
  refine va_get (D := (dC, dI)) (ci := 1) (v := .int 4) (C := RJ4) (T := TJ4) (N := 4) hx hb hts (fun _ h9 => List.mem_cons_of_mem _ (List.mem_append_right _ (h9))) hown hK hP 0 rfl rfl 3 (by decide) (hts (.fieldLink RJ5 79 "java/lang/AbstractStringBuilder" "count" "I") (List.mem_of_getElem? (i := 3) rfl)) (fun _ h9 => h9) rfl dJ5_shift_df160_23 ?_
  refine lv_iload_n hx hb dJ5_shift_df160_26 rfl (lv_at hl 1 rfl) ?_
  refine lv_isub hx hb dJ5_shift_df160_27 ?_
  refine lv_topi (fun f_4 ef_4 => ?_)
  obtain rfl : f_4 = 4 := ef_4.trans (by decide)
  refine lv_aload_n hx hb dJ5_shift_df160_28 rfl (lv_at hl 0 rfl) ?_
  refine va_get (D := (dC, dI)) (ci := 1) (v := .int 0) (C := RJ4) (T := TJ4) (N := 4) hx hb hts (fun _ h9 => List.mem_cons_of_mem _ (List.mem_append_right _ (h9))) hown hK hP 0 rfl rfl 1 (by decide) (hts (.fieldLink RJ5 22 "java/lang/AbstractStringBuilder" "coder" "B") (List.mem_of_getElem? (i := 2) rfl)) (fun _ h9 => h9) rfl dJ5_shift_df160_29 ?_
  refine lv_ishl hx hb dJ5_shift_df160_32 ?_
  refine lv_topi (fun f_5 ef_5 => ?_)
  obtain rfl : f_5 = 4 := ef_5.trans (by decide)
  refine va_copyi (ty := .byte) hx hb (hml.trans hl.1.symm) hown (hts (.methodLink RJ5 309 arraycopyName) (List.mem_of_getElem? (i := 4) rfl)) (hts (.native arraycopyName) (List.mem_of_getElem? (i := 5) rfl)) (hts (.static arraycopyName) (List.mem_of_getElem? (i := 6) rfl)) (hts (.initialized "java/lang/System") (List.mem_of_getElem? (i := 7) rfl)) hK hP hD hS 1 1 0 0 rfl rfl rfl rfl rfl (sp := 0) (dp := 1) (n := 4) (by decide) (by decide) (by decide) (by decide) (by decide) (fun i _ => hfb _) (Nat.le_of_ble_eq_true rfl) (Nat.le_of_ble_eq_true rfl) dJ5_shift_df160_33 (fun H locs hP hD hS => ?_)
  have hP : va_P (dC, dI) vwCl [(y, .inr (1, [.ref bv, .int 0, .int 0, .int 4])), (bv, .inl (kB, 16, .inl (va_cpy fb fb (0 : Int32).toNatClampNeg (1 : Int32).toNatClampNeg (4 : Int32).toNatClampNeg)))] H := hP
  have hD : va_D A [(y, .inr (1, [.ref bv, .int 0, .int 0, .int 4])), (bv, .inl (kB, 16, .inl (va_cpy fb fb (0 : Int32).toNatClampNeg (1 : Int32).toNatClampNeg (4 : Int32).toNatClampNeg)))] := hD
  have ha_6 : sb_Fit (va_cpy fb fb (0 : Int32).toNatClampNeg (1 : Int32).toNatClampNeg (4 : Int32).toNatClampNeg) := sb_fitC hfb hfb
  generalize (va_cpy fb fb (0 : Int32).toNatClampNeg (1 : Int32).toNatClampNeg (4 : Int32).toNatClampNeg) = a_6 at hP hD ha_6
  have hP9 := hP.sub (ws' := [(y, .inr (1, [.ref bv, .int 0, .int 0, .int 4])), (bv, .inl (kB, 16, .inl a_6))]) [0, 1] rfl
  have hD9 := hD.sub (ws' := [(y, .inr (1, [.ref bv, .int 0, .int 0, .int 4])), (bv, .inl (kB, 16, .inl a_6))]) [0, 1] (by decide) rfl
  have hK9 := hK.sub (tys' := [(kB, .byte)]) [0] rfl
  exact W.vret hx hb hr (fun t ht hW => ⟨⟨(), rfl, trivial, a_6, by rw [ht]; exact hP9, va_K.moved hW.alike hK9, hD9, ha_6⟩, hS.F ht⟩) hS.2.2 dJ5_shift_df160_36

set_option maxHeartbeats 4000000 in
set_option maxRecDepth 100000 in
theorem c_SB_insA4 (l : Launch) (dC : Nat → ClassId) (dI : Nat → Nat → Nat) (d : Nat) (tc : Nat) (ad : Nat → Nat) (y : Nat) (bv : Nat) (kB : ClassId) (fb : Nat → Int32) (ch : Int32) (sz : Nat) (hfb : sb_Fit fb) (hce : ¬ sp_J_canEncode ch = 0) : Met l yJ5_insert_00e82 wsJ5_insert_00e82 ({ frames := 2, cells := 0, slots := 0, locals := 102 }) (va_Pc [.ref y, .int 0, .int ch] (PZ dC dI d tc ad sz [(y, .inr (1, [.ref bv, .int 0, .int 0, .int 4])), (bv, .inl (kB, 16, .inl fb))] [(kB, .byte)])) (va_Qr (fun _ : Unit => True) (fun _ ra t => ∃ (fz : Nat → Int32), va_P (dC, dI) vwCl [(y, .inr (1, [.ref bv, .int 0, .int 0, .int 5])), (bv, .inl (kB, 16, .inl fz))] t.heap ∧ va_K (dC, dI) vwCl [(kB, .byte)] t ∧ va_D (va_A [(y, .inr (1, [.ref bv, .int 0, .int 0, .int 4])), (bv, .inl (kB, 16, .inl fb))] sz) [(y, .inr (1, [.ref bv, .int 0, .int 0, .int 5])), (bv, .inl (kB, 16, .inl fz))] ∧ ra = y ∧ sb_Fit fz) (va_A [(y, .inr (1, [.ref bv, .int 0, .int 0, .int 4])), (bv, .inl (kB, 16, .inl fb))] sz)) 0 0 (va_A [(y, .inr (1, [.ref bv, .int 0, .int 0, .int 4])), (bv, .inl (kB, 16, .inl fb))] sz) := by
  refine Met.ofW (cc := cJ5_insert_00e82) (maxL := 3) (ret := (some (.object "java/lang/AbstractStringBuilder"))) (by decide) rfl ?_
  intro p e s m args below meth c s₁ B hml hv
  obtain ⟨rfl, hsz, hP, hK, hD0, hF, hZ⟩ := hv
  have hx := B.exec
  have hb := B.bytes
  have hr := B.returns
  have hts := atoms_spec (ws := wsJ5_insert_00e82) B.pre
  have hown : s.vm.findClass RJ5 = some m.cls := findClass_of_methodNamed B.named
  have hlocks := B.notSynchronized
  subst hsz
  have hD := hD0.self (sz := s.heap.size)
  generalize hAe : va_A [(y, .inr (1, [.ref bv, .int 0, .int 0, .int 4])), (bv, .inl (kB, 16, .inl fb))] s.heap.size = A at hD hZ ⊢
  have hA : ∀ q : Nat, s.heap.size ≤ q → A q := fun q h => by rw [← hAe]; exact Or.inr h
  have hS : va_S A s.heap s.heap [] := va_S.rf
  have hl := lv_entry ([.ref y, .int 0, .int ch]) (n := 3) (Nat.le_of_ble_eq_true rfl)
  rw [lg_entry_eq]
  generalize (lg_sl ([.ref y, .int 0, .int ch]) ++ List.replicate (3 - (lg_sl ([.ref y, .int 0, .int ch])).length) Slot.unset).toArray = ls at hl ⊢
  have hl : lv_has ls 3 [(0, .ref y), (1, .int 0), (2, .int ch)] := hl
  refine lv_iload_n hx hb dJ5_insert_00e82_0 rfl (lv_at hl 1 rfl) ?_
  refine lv_aload_n hx hb dJ5_insert_00e82_1 rfl (lv_at hl 0 rfl) ?_
  refine va_get (D := (dC, dI)) (ci := 1) (v := .int 4) (C := RJ4) (T := TJ4) (N := 4) hx hb hts (fun _ h9 => List.mem_cons_of_mem _ (List.mem_append_right _ (h9))) hown hK hP 0 rfl rfl 3 (by decide) (hts (.fieldLink RJ5 79 "java/lang/AbstractStringBuilder" "count" "I") (List.mem_of_getElem? (i := 1) rfl)) (fun _ h9 => h9) rfl dJ5_insert_00e82_2 ?_
  refine va_csv (va_Run.run (va_runS (As := [.int 0, .int 4]) (rest := []) ⟨hx, hb, hml, hown, hts⟩ (c_Str_checkOffset l dC dI d tc ad 4 (by decide)) (va_cwS 2 hts gJ5_insert_00e82_J0_checkOffset_df160 rfl rfl rfl (by decide +kernel) ⟨Nat.le_of_ble_eq_true rfl, Nat.le_of_ble_eq_true rfl⟩) ⟨PY_blind, PY_pre (hP.sub (ws' := []) [] rfl) (hK.sub (tys' := []) [] rfl) hF hZ hS⟩ rfl rfl hl.1 rfl (lv_room (Nat.le_of_ble_eq_true rfl)) dJ5_insert_00e82_5 ⟨Nat.le_of_ble_eq_true rfl, Nat.le_of_ble_eq_true rfl⟩)) (fun _ => ?_)
  refine lv_aload_n hx hb dJ5_insert_00e82_8 rfl (lv_at hl 0 rfl) ?_
  refine lv_aload_n hx hb dJ5_insert_00e82_9 rfl (lv_at hl 0 rfl) ?_
  refine va_get (D := (dC, dI)) (ci := 1) (v := .int 4) (C := RJ4) (T := TJ4) (N := 4) hx hb hts (fun _ h9 => List.mem_cons_of_mem _ (List.mem_append_right _ (h9))) hown hK hP 0 rfl rfl 3 (by decide) (hts (.fieldLink RJ5 79 "java/lang/AbstractStringBuilder" "count" "I") (List.mem_of_getElem? (i := 1) rfl)) (fun _ h9 => h9) rfl dJ5_insert_00e82_10 ?_
  refine lv_iconst (v := 1) hx hb dJ5_insert_00e82_13 (by decide) ?_
  refine lv_iadd hx hb dJ5_insert_00e82_14 ?_
  refine lv_topi (fun f_2 ef_2 => ?_)
  obtain rfl : f_2 = 5 := ef_2.trans (by decide)
  refine va_csv (va_Run.run (va_runU (As := [.int 5]) (rest := []) ⟨hx, hb, hml, hown, hts⟩ (c_SB_ensure l dC dI y bv kB fb 4 5 (by decide)) (va_cwU 1 hts gJ5_insert_00e82_J5_ensureCapacityInternal_d00df_u100J4 rfl rfl rfl rfl (by decide +kernel) ⟨Nat.le_of_ble_eq_true rfl, Nat.le_of_ble_eq_true rfl⟩) ⟨PS_blind, va_recv hK hP (ci := 1) (q0 := 0) rfl rfl, PS_pre hP hK hF⟩ rfl rfl hl.1 rfl (lv_room (Nat.le_of_ble_eq_true rfl)) dJ5_insert_00e82_15 ⟨Nat.le_of_ble_eq_true rfl, Nat.le_of_ble_eq_true rfl⟩)) (fun _ => ?_)
  refine lv_aload_n hx hb dJ5_insert_00e82_18 rfl (lv_at hl 0 rfl) ?_
  refine lv_iload_n hx hb dJ5_insert_00e82_19 rfl (lv_at hl 1 rfl) ?_
  refine lv_iconst (v := 1) hx hb dJ5_insert_00e82_20 (by decide) ?_
  have hPc := hP.sub (ws' := [(y, .inr (1, [.ref bv, .int 0, .int 0, .int 4])), (bv, .inl (kB, 16, .inl fb))]) [0, 1] rfl
  have hDc := hD.sub (ws' := [(y, .inr (1, [.ref bv, .int 0, .int 0, .int 4])), (bv, .inl (kB, 16, .inl fb))]) [0, 1] (by decide) rfl
  have hKc := hK.sub (tys' := [(kB, .byte)]) [0] rfl
  have hFc := va_free (wc := [(y, .inr (1, [.ref bv, .int 0, .int 0, .int 4])), (bv, .inl (kB, 16, .inl fb))]) hD hS hA [0, 1] rfl
  refine va_callv (va_runU (As := [.int 0, .int 1]) (rest := []) ⟨hx, hb, hml, hown, hts⟩ (c_SB_shift4 l dC dI y bv kB fb s.heap.size hfb) (va_cwU 2 hts gJ5_insert_00e82_J5_shift_df160_u283J4 rfl rfl rfl rfl (by decide +kernel) ⟨Nat.le_of_ble_eq_true rfl, Nat.le_of_ble_eq_true rfl⟩) ⟨PQ_blind, va_recv hK hP (ci := 1) (q0 := 0) rfl rfl, PQ_pre hPc hKc hDc hF⟩ rfl rfl hl.1 rfl (lv_room (Nat.le_of_ble_eq_true rfl)) dJ5_insert_00e82_21 ⟨Nat.le_of_ble_eq_true rfl, Nat.le_of_ble_eq_true rfl⟩) hS (fun q _ h => hFc q h) hFc (fun u t H1 locs ht hvm hw hB hz1 hk1 hS => ?_)
  obtain ⟨fz_5, hP1, hK1, hD1, hx_6⟩ := hB
  rw [ht] at hP1
  have hK1 := va_K.moved hvm.symm hK1
  obtain ⟨hP, hD⟩ := va_join (wr := []) (w1 := [(y, .inr (1, [.ref bv, .int 0, .int 0, .int 4])), (bv, .inl (kB, 16, .inl fz_5))]) hP hD [0, 1] [] rfl rfl (by decide) (by decide) hk1 hFc hP1 hD1
  have hK := hK.app hK1
  generalize H1 = H at hP hS ⊢
  have hP : va_P (dC, dI) vwCl [(y, .inr (1, [.ref bv, .int 0, .int 0, .int 4])), (bv, .inl (kB, 16, .inl fz_5))] H := hP
  have hD : va_D A [(y, .inr (1, [.ref bv, .int 0, .int 0, .int 4])), (bv, .inl (kB, 16, .inl fz_5))] := hD
  have hK : va_K (dC, dI) vwCl [(kB, .byte), (kB, .byte)] s := hK
  refine W.widen (k := 0) (n := 0) (Nat.le_of_ble_eq_true rfl) (Nat.le_of_ble_eq_true rfl) ?_
  refine lv_aload_n hx hb dJ5_insert_00e82_24 rfl (lv_at hl 0 rfl) ?_
  refine lv_dup hx hb dJ5_insert_00e82_25 rfl ?_
  refine va_get (D := (dC, dI)) (ci := 1) (v := .int 4) (C := RJ4) (T := TJ4) (N := 4) hx hb hts (fun _ h9 => List.mem_cons_of_mem _ (List.mem_append_right _ (h9))) hown hK hP 0 rfl rfl 3 (by decide) (hts (.fieldLink RJ5 79 "java/lang/AbstractStringBuilder" "count" "I") (List.mem_of_getElem? (i := 1) rfl)) (fun _ h9 => h9) rfl dJ5_insert_00e82_26 ?_
  refine lv_iconst (v := 1) hx hb dJ5_insert_00e82_29 (by decide) ?_
  refine lv_iadd hx hb dJ5_insert_00e82_30 ?_
  refine lv_topi (fun f_7 ef_7 => ?_)
  obtain rfl : f_7 = 5 := ef_7.trans (by decide)
  refine va_put (D := (dC, dI)) (ci := 1) (v := .int 5) (ty := .int) (C := RJ4) (T := TJ4) (N := 4) hx hb hts (fun _ h9 => List.mem_cons_of_mem _ (List.mem_append_right _ (h9))) tyJ4 tyJ4_ok nmJ4 hown hK hP hD hS 0 rfl rfl 3 (by decide) (hts (.fieldLink RJ5 79 "java/lang/AbstractStringBuilder" "count" "I") (List.mem_of_getElem? (i := 1) rfl)) (fun _ h9 => h9) rfl (by decide +kernel) rfl rfl (Nat.le_of_ble_eq_true rfl) dJ5_insert_00e82_31 (fun H locs hP hD hS => ?_)
  have hP : va_P (dC, dI) vwCl [(y, .inr (1, [.ref bv, .int 0, .int 0, .int 5])), (bv, .inl (kB, 16, .inl fz_5))] H := hP
  have hD : va_D A [(y, .inr (1, [.ref bv, .int 0, .int 0, .int 5])), (bv, .inl (kB, 16, .inl fz_5))] := hD
  refine lv_aload_n hx hb dJ5_insert_00e82_34 rfl (lv_at hl 0 rfl) ?_
  refine vp_callSi (va_Run.run (va_runU (As := []) (rest := []) ⟨hx, hb, hml, hown, hts⟩ (c_SB_isLatin1 l dC dI d tc ad y bv 5) (va_cwU 0 hts gJ5_insert_00e82_J5_isLatin1_aae02_u83J4 rfl rfl rfl rfl (by decide +kernel) ⟨Nat.le_of_ble_eq_true rfl, Nat.le_of_ble_eq_true rfl⟩) ⟨PY_blind, va_recv hK hP (ci := 1) (q0 := 0) rfl rfl, PY_pre (hP.sub (ws' := [(y, .inr (1, [.ref bv, .int 0, .int 0, .int 5]))]) [0] rfl) (hK.sub (tys' := []) [] rfl) hF hZ hS⟩ rfl rfl hl.1 rfl (lv_room (Nat.le_of_ble_eq_true rfl)) dJ5_insert_00e82_35 ⟨Nat.le_of_ble_eq_true rfl, Nat.le_of_ble_eq_true rfl⟩)) (fun r_8 hr_8 => ?_)
  subst hr_8
  refine lv_if_eq (tgt := 59) hx hb dJ5_insert_00e82_38 (by decide) (fun c_9 => absurd c_9 (by decide)) (fun _ => ?_)
  refine lv_iload_n hx hb dJ5_insert_00e82_41 rfl (lv_at hl 2 rfl) ?_
  refine vp_callSi (va_Run.run (va_runS (As := [.int ch]) (rest := []) ⟨hx, hb, hml, hown, hts⟩ (c_J_canEncode l dC dI ch) (va_cwS 1 hts gJ5_insert_00e82_J1_canEncode_fc78d rfl rfl rfl (by decide +kernel) ⟨Nat.le_of_ble_eq_true rfl, Nat.le_of_ble_eq_true rfl⟩) ⟨PS_blind, PS_pre (hP.sub (ws' := []) [] rfl) (hK.sub (tys' := []) [] rfl) hF⟩ rfl rfl hl.1 rfl (lv_room (Nat.le_of_ble_eq_true rfl)) dJ5_insert_00e82_42 ⟨Nat.le_of_ble_eq_true rfl, Nat.le_of_ble_eq_true rfl⟩)) (fun r_10 hr_10 => ?_)
  subst hr_10
  refine lv_if_eq (tgt := 59) hx hb dJ5_insert_00e82_45 (by decide) (fun c_11 => absurd c_11 hce) (fun _ => ?_)
  refine lv_aload_n hx hb dJ5_insert_00e82_48 rfl (lv_at hl 0 rfl) ?_
  refine va_get (D := (dC, dI)) (ci := 1) (v := .ref bv) (C := RJ4) (T := TJ4) (N := 4) hx hb hts (fun _ h9 => List.mem_cons_of_mem _ (List.mem_append_right _ (h9))) hown hK hP 0 rfl rfl 0 (by decide) (hts (.fieldLink RJ5 15 "java/lang/AbstractStringBuilder" "value" "[B") (List.mem_of_getElem? (i := 2) rfl)) (fun _ h9 => h9) rfl dJ5_insert_00e82_49 ?_
  refine lv_iload_n hx hb dJ5_insert_00e82_52 rfl (lv_at hl 1 rfl) ?_
  refine lv_iload_n hx hb dJ5_insert_00e82_53 rfl (lv_at hl 2 rfl) ?_
  refine lv_i2b hx hb dJ5_insert_00e82_54 rfl ?_
  refine va_bast hx hb hK hP hD hS 1 0 rfl rfl (by unfold vp_in; decide) dJ5_insert_00e82_55 (fun H locs hP hD hS => ?_)
  have hP : va_P (dC, dI) vwCl [(y, .inr (1, [.ref bv, .int 0, .int 0, .int 5])), (bv, .inl (kB, 16, .inl (upd fz_5 (0 : Int32).toNatClampNeg (vp_nar .byte ((ch).toInt8.toInt32)))))] H := hP
  have hD : va_D A [(y, .inr (1, [.ref bv, .int 0, .int 0, .int 5])), (bv, .inl (kB, 16, .inl (upd fz_5 (0 : Int32).toNatClampNeg (vp_nar .byte ((ch).toInt8.toInt32)))))] := hD
  have ha_12 : sb_Fit (upd fz_5 (0 : Int32).toNatClampNeg (vp_nar .byte ((ch).toInt8.toInt32))) := sb_fitU hx_6 (by rw [vp_nar_byte]; exact pk_fb _)
  generalize (upd fz_5 (0 : Int32).toNatClampNeg (vp_nar .byte ((ch).toInt8.toInt32))) = a_12 at hP hD ha_12
  refine lv_goto (tgt := 79) hx hb dJ5_insert_00e82_56 (by decide) ?_
  refine lv_aload_n hx hb dJ5_insert_00e82_79 rfl (lv_at hl 0 rfl) ?_
  have hP9 := hP.sub (ws' := [(y, .inr (1, [.ref bv, .int 0, .int 0, .int 5])), (bv, .inl (kB, 16, .inl a_12))]) [0, 1] rfl
  have hD9 := hD.sub (ws' := [(y, .inr (1, [.ref bv, .int 0, .int 0, .int 5])), (bv, .inl (kB, 16, .inl a_12))]) [0, 1] (by decide) rfl
  have hK9 := hK.sub (tys' := [(kB, .byte)]) [0] rfl
  exact W.aret (v := .ref y) hx hb hr (Or.inl ⟨_, rfl⟩) (Or.inr ⟨_, rfl⟩) (fun t ht hW => ⟨⟨(), _, rfl, trivial, a_12, by rw [ht]; exact hP9, va_K.moved hW.alike hK9, hD9, rfl, ha_12⟩, hS.F ht⟩) hS.2.2 dJ5_insert_00e82_80

set_option maxHeartbeats 4000000 in
set_option maxRecDepth 100000 in
theorem c_SB_ins4 (l : Launch) (dC : Nat → ClassId) (dI : Nat → Nat → Nat) (d : Nat) (tc : Nat) (ad : Nat → Nat) (y : Nat) (bv : Nat) (kB : ClassId) (fb : Nat → Int32) (ch : Int32) (sz : Nat) (hfb : sb_Fit fb) (hce : ¬ sp_J_canEncode ch = 0) : Met l yJ4_insert_a3ee8 wsJ4_insert_a3ee8 ({ frames := 3, cells := 0, slots := 0, locals := 124 }) (va_Pc [.ref y, .int 0, .int ch] (PZ dC dI d tc ad sz [(y, .inr (1, [.ref bv, .int 0, .int 0, .int 4])), (bv, .inl (kB, 16, .inl fb))] [(kB, .byte)])) (va_Qr (fun _ : Unit => True) (fun _ ra t => ∃ (fz : Nat → Int32), va_P (dC, dI) vwCl [(y, .inr (1, [.ref bv, .int 0, .int 0, .int 5])), (bv, .inl (kB, 16, .inl fz))] t.heap ∧ va_K (dC, dI) vwCl [(kB, .byte)] t ∧ va_D (va_A [(y, .inr (1, [.ref bv, .int 0, .int 0, .int 4])), (bv, .inl (kB, 16, .inl fb))] sz) [(y, .inr (1, [.ref bv, .int 0, .int 0, .int 5])), (bv, .inl (kB, 16, .inl fz))] ∧ ra = y ∧ sb_Fit fz) (va_A [(y, .inr (1, [.ref bv, .int 0, .int 0, .int 4])), (bv, .inl (kB, 16, .inl fb))] sz)) 0 0 (va_A [(y, .inr (1, [.ref bv, .int 0, .int 0, .int 4])), (bv, .inl (kB, 16, .inl fb))] sz) := by
  refine Met.ofW (cc := cJ4_insert_a3ee8) (maxL := 3) (ret := (some (.object "java/lang/StringBuilder"))) (by decide) rfl ?_
  intro p e s m args below meth c s₁ B hml hv
  obtain ⟨rfl, hsz, hP, hK, hD0, hF, hZ⟩ := hv
  have hx := B.exec
  have hb := B.bytes
  have hr := B.returns
  have hts := atoms_spec (ws := wsJ4_insert_a3ee8) B.pre
  have hown : s.vm.findClass RJ4 = some m.cls := findClass_of_methodNamed B.named
  have hlocks := B.notSynchronized
  subst hsz
  have hD := hD0.self (sz := s.heap.size)
  generalize hAe : va_A [(y, .inr (1, [.ref bv, .int 0, .int 0, .int 4])), (bv, .inl (kB, 16, .inl fb))] s.heap.size = A at hD hZ ⊢
  have hA : ∀ q : Nat, s.heap.size ≤ q → A q := fun q h => by rw [← hAe]; exact Or.inr h
  have hS : va_S A s.heap s.heap [] := va_S.rf
  have hl := lv_entry ([.ref y, .int 0, .int ch]) (n := 3) (Nat.le_of_ble_eq_true rfl)
  rw [lg_entry_eq]
  generalize (lg_sl ([.ref y, .int 0, .int ch]) ++ List.replicate (3 - (lg_sl ([.ref y, .int 0, .int ch])).length) Slot.unset).toArray = ls at hl ⊢
  have hl : lv_has ls 3 [(0, .ref y), (1, .int 0), (2, .int ch)] := hl
  refine lv_aload_n hx hb dJ4_insert_a3ee8_0 rfl (lv_at hl 0 rfl) ?_
  refine lv_iload_n hx hb dJ4_insert_a3ee8_1 rfl (lv_at hl 1 rfl) ?_
  refine lv_iload_n hx hb dJ4_insert_a3ee8_2 rfl (lv_at hl 2 rfl) ?_
  have hPc := hP.sub (ws' := [(y, .inr (1, [.ref bv, .int 0, .int 0, .int 4])), (bv, .inl (kB, 16, .inl fb))]) [0, 1] rfl
  have hDc := hD.sub (ws' := [(y, .inr (1, [.ref bv, .int 0, .int 0, .int 4])), (bv, .inl (kB, 16, .inl fb))]) [0, 1] (by decide) rfl
  have hKc := hK.sub (tys' := [(kB, .byte)]) [0] rfl
  have hFc := va_free (wc := [(y, .inr (1, [.ref bv, .int 0, .int 0, .int 4])), (bv, .inl (kB, 16, .inl fb))]) hD hS hA [0, 1] rfl
  refine va_callr (va_runSU (hK.1 1 _ rfl).2 (As := [.int 0, .int ch]) (rest := []) ⟨hx, hb, hml, hown, hts⟩ (c_SB_insA4 l dC dI d tc ad y bv kB fb ch s.heap.size hfb hce) (va_cwSU 2 hts gJ4_insert_a3ee8_J5_insert_00e82_s101 rfl rfl rfl (by decide +kernel) ⟨Nat.le_of_ble_eq_true rfl, Nat.le_of_ble_eq_true rfl⟩) ⟨PZ_blind, va_recv hK hP (ci := 1) (q0 := 0) rfl rfl, PZ_pre hPc hKc hDc hF hZ hS hFc⟩ rfl rfl hl.1 rfl (lv_room (Nat.le_of_ble_eq_true rfl)) dJ4_insert_a3ee8_3 ⟨Nat.le_of_ble_eq_true rfl, Nat.le_of_ble_eq_true rfl⟩) hS (fun q _ h => hFc q h) hFc (fun u r_1 t H1 locs ht hvm hw hB hz1 hk1 hS => ?_)
  obtain ⟨fz_2, hP1, hK1, hD1, hx_3, hx_4⟩ := hB
  rw [ht] at hP1
  have hK1 := va_K.moved hvm.symm hK1
  obtain ⟨hP, hD⟩ := va_join (wr := []) (w1 := [(y, .inr (1, [.ref bv, .int 0, .int 0, .int 5])), (bv, .inl (kB, 16, .inl fz_2))]) hP hD [0, 1] [] rfl rfl (by decide) (by decide) hk1 hFc hP1 hD1
  have hK := hK.app hK1
  generalize H1 = H at hP hS ⊢
  have hP : va_P (dC, dI) vwCl [(y, .inr (1, [.ref bv, .int 0, .int 0, .int 5])), (bv, .inl (kB, 16, .inl fz_2))] H := hP
  have hD : va_D A [(y, .inr (1, [.ref bv, .int 0, .int 0, .int 5])), (bv, .inl (kB, 16, .inl fz_2))] := hD
  have hK : va_K (dC, dI) vwCl [(kB, .byte), (kB, .byte)] s := hK
  refine W.widen (k := 0) (n := 0) (Nat.le_of_ble_eq_true rfl) (Nat.le_of_ble_eq_true rfl) ?_
  refine lv_pop hx hb dJ4_insert_a3ee8_6 rfl ?_
  refine lv_aload_n hx hb dJ4_insert_a3ee8_7 rfl (lv_at hl 0 rfl) ?_
  have hP9 := hP.sub (ws' := [(y, .inr (1, [.ref bv, .int 0, .int 0, .int 5])), (bv, .inl (kB, 16, .inl fz_2))]) [0, 1] rfl
  have hD9 := hD.sub (ws' := [(y, .inr (1, [.ref bv, .int 0, .int 0, .int 5])), (bv, .inl (kB, 16, .inl fz_2))]) [0, 1] (by decide) rfl
  have hK9 := hK.sub (tys' := [(kB, .byte)]) [0] rfl
  exact W.aret (v := .ref y) hx hb hr (Or.inl ⟨_, rfl⟩) (Or.inr ⟨_, rfl⟩) (fun t ht hW => ⟨⟨(), _, rfl, trivial, fz_2, by rw [ht]; exact hP9, va_K.moved hW.alike hK9, hD9, rfl, hx_4⟩, hS.F ht⟩) hS.2.2 dJ4_insert_a3ee8_8

set_option maxHeartbeats 4000000 in
set_option maxRecDepth 100000 in
theorem c_SB_shift5 (l : Launch) (dC : Nat → ClassId) (dI : Nat → Nat → Nat) (y : Nat) (bv : Nat) (kB : ClassId) (fb : Nat → Int32) (sz : Nat) (hfb : sb_Fit fb) : Met l yJ5_shift_df160 wsJ5_shift_df160 ({ frames := 1, cells := 0, slots := 0, locals := 80 }) (va_Pc [.ref y, .int 0, .int 1] (PQ dC dI sz [(y, .inr (1, [.ref bv, .int 0, .int 0, .int 5])), (bv, .inl (kB, 16, .inl fb))] [(kB, .byte)])) (va_Qv (fun _ : Unit => True) (fun _ t => ∃ (fz : Nat → Int32), va_P (dC, dI) vwCl [(y, .inr (1, [.ref bv, .int 0, .int 0, .int 5])), (bv, .inl (kB, 16, .inl fz))] t.heap ∧ va_K (dC, dI) vwCl [(kB, .byte)] t ∧ va_D (va_A [(y, .inr (1, [.ref bv, .int 0, .int 0, .int 5])), (bv, .inl (kB, 16, .inl fb))] sz) [(y, .inr (1, [.ref bv, .int 0, .int 0, .int 5])), (bv, .inl (kB, 16, .inl fz))] ∧ sb_Fit fz) (va_A [(y, .inr (1, [.ref bv, .int 0, .int 0, .int 5])), (bv, .inl (kB, 16, .inl fb))] sz)) 0 0 (va_A [(y, .inr (1, [.ref bv, .int 0, .int 0, .int 5])), (bv, .inl (kB, 16, .inl fb))] sz) := by
  refine Met.ofW (cc := cJ5_shift_df160) (maxL := 3) (ret := none) (by decide) rfl ?_
  intro p e s m args below meth c s₁ B hml hv
  obtain ⟨rfl, hsz, hP, hK, hD0, hF⟩ := hv
  have hx := B.exec
  have hb := B.bytes
  have hr := B.returns
  have hts := atoms_spec (ws := wsJ5_shift_df160) B.pre
  have hown : s.vm.findClass RJ5 = some m.cls := findClass_of_methodNamed B.named
  have hlocks := B.notSynchronized
  subst hsz
  have hD := hD0.self (sz := s.heap.size)
  generalize hAe : va_A [(y, .inr (1, [.ref bv, .int 0, .int 0, .int 5])), (bv, .inl (kB, 16, .inl fb))] s.heap.size = A at hD ⊢
  have hA : ∀ q : Nat, s.heap.size ≤ q → A q := fun q h => by rw [← hAe]; exact Or.inr h
  have hS : va_S A s.heap s.heap [] := va_S.rf
  have hl := lv_entry ([.ref y, .int 0, .int 1]) (n := 3) (Nat.le_of_ble_eq_true rfl)
  rw [lg_entry_eq]
  generalize (lg_sl ([.ref y, .int 0, .int 1]) ++ List.replicate (3 - (lg_sl ([.ref y, .int 0, .int 1])).length) Slot.unset).toArray = ls at hl ⊢
  have hl : lv_has ls 3 [(0, .ref y), (1, .int 0), (2, .int 1)] := hl
  refine lv_aload_n hx hb dJ5_shift_df160_0 rfl (lv_at hl 0 rfl) ?_
  refine va_get (D := (dC, dI)) (ci := 1) (v := .ref bv) (C := RJ4) (T := TJ4) (N := 4) hx hb hts (fun _ h9 => List.mem_cons_of_mem _ (List.mem_append_right _ (h9))) hown hK hP 0 rfl rfl 0 (by decide) (hts (.fieldLink RJ5 15 "java/lang/AbstractStringBuilder" "value" "[B") (List.mem_of_getElem? (i := 1) rfl)) (fun _ h9 => h9) rfl dJ5_shift_df160_1 ?_
  refine lv_iload_n hx hb dJ5_shift_df160_4 rfl (lv_at hl 1 rfl) ?_
  refine lv_aload_n hx hb dJ5_shift_df160_5 rfl (lv_at hl 0 rfl) ?_
  refine va_get (D := (dC, dI)) (ci := 1) (v := .int 0) (C := RJ4) (T := TJ4) (N := 4) hx hb hts (fun _ h9 => List.mem_cons_of_mem _ (List.mem_append_right _ (h9))) hown hK hP 0 rfl rfl 1 (by decide) (hts (.fieldLink RJ5 22 "java/lang/AbstractStringBuilder" "coder" "B") (List.mem_of_getElem? (i := 2) rfl)) (fun _ h9 => h9) rfl dJ5_shift_df160_6 ?_
  refine lv_ishl hx hb dJ5_shift_df160_9 ?_
  refine lv_topi (fun f_1 ef_1 => ?_)
  obtain rfl : f_1 = 0 := ef_1.trans (by decide)
  refine lv_aload_n hx hb dJ5_shift_df160_10 rfl (lv_at hl 0 rfl) ?_
  refine va_get (D := (dC, dI)) (ci := 1) (v := .ref bv) (C := RJ4) (T := TJ4) (N := 4) hx hb hts (fun _ h9 => List.mem_cons_of_mem _ (List.mem_append_right _ (h9))) hown hK hP 0 rfl rfl 0 (by decide) (hts (.fieldLink RJ5 15 "java/lang/AbstractStringBuilder" "value" "[B") (List.mem_of_getElem? (i := 1) rfl)) (fun _ h9 => h9) rfl dJ5_shift_df160_11 ?_
  refine lv_iload_n hx hb dJ5_shift_df160_14 rfl (lv_at hl 1 rfl) ?_
  refine lv_iload_n hx hb dJ5_shift_df160_15 rfl (lv_at hl 2 rfl) ?_
  refine lv_iadd hx hb dJ5_shift_df160_16 ?_
  refine lv_topi (fun f_2 ef_2 => ?_)
  obtain rfl : f_2 = 1 := ef_2.trans (by decide)
  refine lv_aload_n hx hb dJ5_shift_df160_17 rfl (lv_at hl 0 rfl) ?_
  refine va_get (D := (dC, dI)) (ci := 1) (v := .int 0) (C := RJ4) (T := TJ4) (N := 4) hx hb hts (fun _ h9 => List.mem_cons_of_mem _ (List.mem_append_right _ (h9))) hown hK hP 0 rfl rfl 1 (by decide) (hts (.fieldLink RJ5 22 "java/lang/AbstractStringBuilder" "coder" "B") (List.mem_of_getElem? (i := 2) rfl)) (fun _ h9 => h9) rfl dJ5_shift_df160_18 ?_
  refine lv_ishl hx hb dJ5_shift_df160_21 ?_
  refine lv_topi (fun f_3 ef_3 => ?_)
  obtain rfl : f_3 = 1 := ef_3.trans (by decide)
  refine lv_aload_n hx hb dJ5_shift_df160_22 rfl (lv_at hl 0 rfl) ?_
  refine va_get (D := (dC, dI)) (ci := 1) (v := .int 5) (C := RJ4) (T := TJ4) (N := 4) hx hb hts (fun _ h9 => List.mem_cons_of_mem _ (List.mem_append_right _ (h9))) hown hK hP 0 rfl rfl 3 (by decide) (hts (.fieldLink RJ5 79 "java/lang/AbstractStringBuilder" "count" "I") (List.mem_of_getElem? (i := 3) rfl)) (fun _ h9 => h9) rfl dJ5_shift_df160_23 ?_
  refine lv_iload_n hx hb dJ5_shift_df160_26 rfl (lv_at hl 1 rfl) ?_
  refine lv_isub hx hb dJ5_shift_df160_27 ?_
  refine lv_topi (fun f_4 ef_4 => ?_)
  obtain rfl : f_4 = 5 := ef_4.trans (by decide)
  refine lv_aload_n hx hb dJ5_shift_df160_28 rfl (lv_at hl 0 rfl) ?_
  refine va_get (D := (dC, dI)) (ci := 1) (v := .int 0) (C := RJ4) (T := TJ4) (N := 4) hx hb hts (fun _ h9 => List.mem_cons_of_mem _ (List.mem_append_right _ (h9))) hown hK hP 0 rfl rfl 1 (by decide) (hts (.fieldLink RJ5 22 "java/lang/AbstractStringBuilder" "coder" "B") (List.mem_of_getElem? (i := 2) rfl)) (fun _ h9 => h9) rfl dJ5_shift_df160_29 ?_
  refine lv_ishl hx hb dJ5_shift_df160_32 ?_
  refine lv_topi (fun f_5 ef_5 => ?_)
  obtain rfl : f_5 = 5 := ef_5.trans (by decide)
  refine va_copyi (ty := .byte) hx hb (hml.trans hl.1.symm) hown (hts (.methodLink RJ5 309 arraycopyName) (List.mem_of_getElem? (i := 4) rfl)) (hts (.native arraycopyName) (List.mem_of_getElem? (i := 5) rfl)) (hts (.static arraycopyName) (List.mem_of_getElem? (i := 6) rfl)) (hts (.initialized "java/lang/System") (List.mem_of_getElem? (i := 7) rfl)) hK hP hD hS 1 1 0 0 rfl rfl rfl rfl rfl (sp := 0) (dp := 1) (n := 5) (by decide) (by decide) (by decide) (by decide) (by decide) (fun i _ => hfb _) (Nat.le_of_ble_eq_true rfl) (Nat.le_of_ble_eq_true rfl) dJ5_shift_df160_33 (fun H locs hP hD hS => ?_)
  have hP : va_P (dC, dI) vwCl [(y, .inr (1, [.ref bv, .int 0, .int 0, .int 5])), (bv, .inl (kB, 16, .inl (va_cpy fb fb (0 : Int32).toNatClampNeg (1 : Int32).toNatClampNeg (5 : Int32).toNatClampNeg)))] H := hP
  have hD : va_D A [(y, .inr (1, [.ref bv, .int 0, .int 0, .int 5])), (bv, .inl (kB, 16, .inl (va_cpy fb fb (0 : Int32).toNatClampNeg (1 : Int32).toNatClampNeg (5 : Int32).toNatClampNeg)))] := hD
  have ha_6 : sb_Fit (va_cpy fb fb (0 : Int32).toNatClampNeg (1 : Int32).toNatClampNeg (5 : Int32).toNatClampNeg) := sb_fitC hfb hfb
  generalize (va_cpy fb fb (0 : Int32).toNatClampNeg (1 : Int32).toNatClampNeg (5 : Int32).toNatClampNeg) = a_6 at hP hD ha_6
  have hP9 := hP.sub (ws' := [(y, .inr (1, [.ref bv, .int 0, .int 0, .int 5])), (bv, .inl (kB, 16, .inl a_6))]) [0, 1] rfl
  have hD9 := hD.sub (ws' := [(y, .inr (1, [.ref bv, .int 0, .int 0, .int 5])), (bv, .inl (kB, 16, .inl a_6))]) [0, 1] (by decide) rfl
  have hK9 := hK.sub (tys' := [(kB, .byte)]) [0] rfl
  exact W.vret hx hb hr (fun t ht hW => ⟨⟨(), rfl, trivial, a_6, by rw [ht]; exact hP9, va_K.moved hW.alike hK9, hD9, ha_6⟩, hS.F ht⟩) hS.2.2 dJ5_shift_df160_36

set_option maxHeartbeats 4000000 in
set_option maxRecDepth 100000 in
theorem c_SB_insA5 (l : Launch) (dC : Nat → ClassId) (dI : Nat → Nat → Nat) (d : Nat) (tc : Nat) (ad : Nat → Nat) (y : Nat) (bv : Nat) (kB : ClassId) (fb : Nat → Int32) (ch : Int32) (sz : Nat) (hfb : sb_Fit fb) (hce : ¬ sp_J_canEncode ch = 0) : Met l yJ5_insert_00e82 wsJ5_insert_00e82 ({ frames := 2, cells := 0, slots := 0, locals := 102 }) (va_Pc [.ref y, .int 0, .int ch] (PZ dC dI d tc ad sz [(y, .inr (1, [.ref bv, .int 0, .int 0, .int 5])), (bv, .inl (kB, 16, .inl fb))] [(kB, .byte)])) (va_Qr (fun _ : Unit => True) (fun _ ra t => ∃ (fz : Nat → Int32), va_P (dC, dI) vwCl [(y, .inr (1, [.ref bv, .int 0, .int 0, .int 6])), (bv, .inl (kB, 16, .inl fz))] t.heap ∧ va_K (dC, dI) vwCl [(kB, .byte)] t ∧ va_D (va_A [(y, .inr (1, [.ref bv, .int 0, .int 0, .int 5])), (bv, .inl (kB, 16, .inl fb))] sz) [(y, .inr (1, [.ref bv, .int 0, .int 0, .int 6])), (bv, .inl (kB, 16, .inl fz))] ∧ ra = y ∧ sb_Fit fz) (va_A [(y, .inr (1, [.ref bv, .int 0, .int 0, .int 5])), (bv, .inl (kB, 16, .inl fb))] sz)) 0 0 (va_A [(y, .inr (1, [.ref bv, .int 0, .int 0, .int 5])), (bv, .inl (kB, 16, .inl fb))] sz) := by
  refine Met.ofW (cc := cJ5_insert_00e82) (maxL := 3) (ret := (some (.object "java/lang/AbstractStringBuilder"))) (by decide) rfl ?_
  intro p e s m args below meth c s₁ B hml hv
  obtain ⟨rfl, hsz, hP, hK, hD0, hF, hZ⟩ := hv
  have hx := B.exec
  have hb := B.bytes
  have hr := B.returns
  have hts := atoms_spec (ws := wsJ5_insert_00e82) B.pre
  have hown : s.vm.findClass RJ5 = some m.cls := findClass_of_methodNamed B.named
  have hlocks := B.notSynchronized
  subst hsz
  have hD := hD0.self (sz := s.heap.size)
  generalize hAe : va_A [(y, .inr (1, [.ref bv, .int 0, .int 0, .int 5])), (bv, .inl (kB, 16, .inl fb))] s.heap.size = A at hD hZ ⊢
  have hA : ∀ q : Nat, s.heap.size ≤ q → A q := fun q h => by rw [← hAe]; exact Or.inr h
  have hS : va_S A s.heap s.heap [] := va_S.rf
  have hl := lv_entry ([.ref y, .int 0, .int ch]) (n := 3) (Nat.le_of_ble_eq_true rfl)
  rw [lg_entry_eq]
  generalize (lg_sl ([.ref y, .int 0, .int ch]) ++ List.replicate (3 - (lg_sl ([.ref y, .int 0, .int ch])).length) Slot.unset).toArray = ls at hl ⊢
  have hl : lv_has ls 3 [(0, .ref y), (1, .int 0), (2, .int ch)] := hl
  refine lv_iload_n hx hb dJ5_insert_00e82_0 rfl (lv_at hl 1 rfl) ?_
  refine lv_aload_n hx hb dJ5_insert_00e82_1 rfl (lv_at hl 0 rfl) ?_
  refine va_get (D := (dC, dI)) (ci := 1) (v := .int 5) (C := RJ4) (T := TJ4) (N := 4) hx hb hts (fun _ h9 => List.mem_cons_of_mem _ (List.mem_append_right _ (h9))) hown hK hP 0 rfl rfl 3 (by decide) (hts (.fieldLink RJ5 79 "java/lang/AbstractStringBuilder" "count" "I") (List.mem_of_getElem? (i := 1) rfl)) (fun _ h9 => h9) rfl dJ5_insert_00e82_2 ?_
  refine va_csv (va_Run.run (va_runS (As := [.int 0, .int 5]) (rest := []) ⟨hx, hb, hml, hown, hts⟩ (c_Str_checkOffset l dC dI d tc ad 5 (by decide)) (va_cwS 2 hts gJ5_insert_00e82_J0_checkOffset_df160 rfl rfl rfl (by decide +kernel) ⟨Nat.le_of_ble_eq_true rfl, Nat.le_of_ble_eq_true rfl⟩) ⟨PY_blind, PY_pre (hP.sub (ws' := []) [] rfl) (hK.sub (tys' := []) [] rfl) hF hZ hS⟩ rfl rfl hl.1 rfl (lv_room (Nat.le_of_ble_eq_true rfl)) dJ5_insert_00e82_5 ⟨Nat.le_of_ble_eq_true rfl, Nat.le_of_ble_eq_true rfl⟩)) (fun _ => ?_)
  refine lv_aload_n hx hb dJ5_insert_00e82_8 rfl (lv_at hl 0 rfl) ?_
  refine lv_aload_n hx hb dJ5_insert_00e82_9 rfl (lv_at hl 0 rfl) ?_
  refine va_get (D := (dC, dI)) (ci := 1) (v := .int 5) (C := RJ4) (T := TJ4) (N := 4) hx hb hts (fun _ h9 => List.mem_cons_of_mem _ (List.mem_append_right _ (h9))) hown hK hP 0 rfl rfl 3 (by decide) (hts (.fieldLink RJ5 79 "java/lang/AbstractStringBuilder" "count" "I") (List.mem_of_getElem? (i := 1) rfl)) (fun _ h9 => h9) rfl dJ5_insert_00e82_10 ?_
  refine lv_iconst (v := 1) hx hb dJ5_insert_00e82_13 (by decide) ?_
  refine lv_iadd hx hb dJ5_insert_00e82_14 ?_
  refine lv_topi (fun f_2 ef_2 => ?_)
  obtain rfl : f_2 = 6 := ef_2.trans (by decide)
  refine va_csv (va_Run.run (va_runU (As := [.int 6]) (rest := []) ⟨hx, hb, hml, hown, hts⟩ (c_SB_ensure l dC dI y bv kB fb 5 6 (by decide)) (va_cwU 1 hts gJ5_insert_00e82_J5_ensureCapacityInternal_d00df_u100J4 rfl rfl rfl rfl (by decide +kernel) ⟨Nat.le_of_ble_eq_true rfl, Nat.le_of_ble_eq_true rfl⟩) ⟨PS_blind, va_recv hK hP (ci := 1) (q0 := 0) rfl rfl, PS_pre hP hK hF⟩ rfl rfl hl.1 rfl (lv_room (Nat.le_of_ble_eq_true rfl)) dJ5_insert_00e82_15 ⟨Nat.le_of_ble_eq_true rfl, Nat.le_of_ble_eq_true rfl⟩)) (fun _ => ?_)
  refine lv_aload_n hx hb dJ5_insert_00e82_18 rfl (lv_at hl 0 rfl) ?_
  refine lv_iload_n hx hb dJ5_insert_00e82_19 rfl (lv_at hl 1 rfl) ?_
  refine lv_iconst (v := 1) hx hb dJ5_insert_00e82_20 (by decide) ?_
  have hPc := hP.sub (ws' := [(y, .inr (1, [.ref bv, .int 0, .int 0, .int 5])), (bv, .inl (kB, 16, .inl fb))]) [0, 1] rfl
  have hDc := hD.sub (ws' := [(y, .inr (1, [.ref bv, .int 0, .int 0, .int 5])), (bv, .inl (kB, 16, .inl fb))]) [0, 1] (by decide) rfl
  have hKc := hK.sub (tys' := [(kB, .byte)]) [0] rfl
  have hFc := va_free (wc := [(y, .inr (1, [.ref bv, .int 0, .int 0, .int 5])), (bv, .inl (kB, 16, .inl fb))]) hD hS hA [0, 1] rfl
  refine va_callv (va_runU (As := [.int 0, .int 1]) (rest := []) ⟨hx, hb, hml, hown, hts⟩ (c_SB_shift5 l dC dI y bv kB fb s.heap.size hfb) (va_cwU 2 hts gJ5_insert_00e82_J5_shift_df160_u283J4 rfl rfl rfl rfl (by decide +kernel) ⟨Nat.le_of_ble_eq_true rfl, Nat.le_of_ble_eq_true rfl⟩) ⟨PQ_blind, va_recv hK hP (ci := 1) (q0 := 0) rfl rfl, PQ_pre hPc hKc hDc hF⟩ rfl rfl hl.1 rfl (lv_room (Nat.le_of_ble_eq_true rfl)) dJ5_insert_00e82_21 ⟨Nat.le_of_ble_eq_true rfl, Nat.le_of_ble_eq_true rfl⟩) hS (fun q _ h => hFc q h) hFc (fun u t H1 locs ht hvm hw hB hz1 hk1 hS => ?_)
  obtain ⟨fz_5, hP1, hK1, hD1, hx_6⟩ := hB
  rw [ht] at hP1
  have hK1 := va_K.moved hvm.symm hK1
  obtain ⟨hP, hD⟩ := va_join (wr := []) (w1 := [(y, .inr (1, [.ref bv, .int 0, .int 0, .int 5])), (bv, .inl (kB, 16, .inl fz_5))]) hP hD [0, 1] [] rfl rfl (by decide) (by decide) hk1 hFc hP1 hD1
  have hK := hK.app hK1
  generalize H1 = H at hP hS ⊢
  have hP : va_P (dC, dI) vwCl [(y, .inr (1, [.ref bv, .int 0, .int 0, .int 5])), (bv, .inl (kB, 16, .inl fz_5))] H := hP
  have hD : va_D A [(y, .inr (1, [.ref bv, .int 0, .int 0, .int 5])), (bv, .inl (kB, 16, .inl fz_5))] := hD
  have hK : va_K (dC, dI) vwCl [(kB, .byte), (kB, .byte)] s := hK
  refine W.widen (k := 0) (n := 0) (Nat.le_of_ble_eq_true rfl) (Nat.le_of_ble_eq_true rfl) ?_
  refine lv_aload_n hx hb dJ5_insert_00e82_24 rfl (lv_at hl 0 rfl) ?_
  refine lv_dup hx hb dJ5_insert_00e82_25 rfl ?_
  refine va_get (D := (dC, dI)) (ci := 1) (v := .int 5) (C := RJ4) (T := TJ4) (N := 4) hx hb hts (fun _ h9 => List.mem_cons_of_mem _ (List.mem_append_right _ (h9))) hown hK hP 0 rfl rfl 3 (by decide) (hts (.fieldLink RJ5 79 "java/lang/AbstractStringBuilder" "count" "I") (List.mem_of_getElem? (i := 1) rfl)) (fun _ h9 => h9) rfl dJ5_insert_00e82_26 ?_
  refine lv_iconst (v := 1) hx hb dJ5_insert_00e82_29 (by decide) ?_
  refine lv_iadd hx hb dJ5_insert_00e82_30 ?_
  refine lv_topi (fun f_7 ef_7 => ?_)
  obtain rfl : f_7 = 6 := ef_7.trans (by decide)
  refine va_put (D := (dC, dI)) (ci := 1) (v := .int 6) (ty := .int) (C := RJ4) (T := TJ4) (N := 4) hx hb hts (fun _ h9 => List.mem_cons_of_mem _ (List.mem_append_right _ (h9))) tyJ4 tyJ4_ok nmJ4 hown hK hP hD hS 0 rfl rfl 3 (by decide) (hts (.fieldLink RJ5 79 "java/lang/AbstractStringBuilder" "count" "I") (List.mem_of_getElem? (i := 1) rfl)) (fun _ h9 => h9) rfl (by decide +kernel) rfl rfl (Nat.le_of_ble_eq_true rfl) dJ5_insert_00e82_31 (fun H locs hP hD hS => ?_)
  have hP : va_P (dC, dI) vwCl [(y, .inr (1, [.ref bv, .int 0, .int 0, .int 6])), (bv, .inl (kB, 16, .inl fz_5))] H := hP
  have hD : va_D A [(y, .inr (1, [.ref bv, .int 0, .int 0, .int 6])), (bv, .inl (kB, 16, .inl fz_5))] := hD
  refine lv_aload_n hx hb dJ5_insert_00e82_34 rfl (lv_at hl 0 rfl) ?_
  refine vp_callSi (va_Run.run (va_runU (As := []) (rest := []) ⟨hx, hb, hml, hown, hts⟩ (c_SB_isLatin1 l dC dI d tc ad y bv 6) (va_cwU 0 hts gJ5_insert_00e82_J5_isLatin1_aae02_u83J4 rfl rfl rfl rfl (by decide +kernel) ⟨Nat.le_of_ble_eq_true rfl, Nat.le_of_ble_eq_true rfl⟩) ⟨PY_blind, va_recv hK hP (ci := 1) (q0 := 0) rfl rfl, PY_pre (hP.sub (ws' := [(y, .inr (1, [.ref bv, .int 0, .int 0, .int 6]))]) [0] rfl) (hK.sub (tys' := []) [] rfl) hF hZ hS⟩ rfl rfl hl.1 rfl (lv_room (Nat.le_of_ble_eq_true rfl)) dJ5_insert_00e82_35 ⟨Nat.le_of_ble_eq_true rfl, Nat.le_of_ble_eq_true rfl⟩)) (fun r_8 hr_8 => ?_)
  subst hr_8
  refine lv_if_eq (tgt := 59) hx hb dJ5_insert_00e82_38 (by decide) (fun c_9 => absurd c_9 (by decide)) (fun _ => ?_)
  refine lv_iload_n hx hb dJ5_insert_00e82_41 rfl (lv_at hl 2 rfl) ?_
  refine vp_callSi (va_Run.run (va_runS (As := [.int ch]) (rest := []) ⟨hx, hb, hml, hown, hts⟩ (c_J_canEncode l dC dI ch) (va_cwS 1 hts gJ5_insert_00e82_J1_canEncode_fc78d rfl rfl rfl (by decide +kernel) ⟨Nat.le_of_ble_eq_true rfl, Nat.le_of_ble_eq_true rfl⟩) ⟨PS_blind, PS_pre (hP.sub (ws' := []) [] rfl) (hK.sub (tys' := []) [] rfl) hF⟩ rfl rfl hl.1 rfl (lv_room (Nat.le_of_ble_eq_true rfl)) dJ5_insert_00e82_42 ⟨Nat.le_of_ble_eq_true rfl, Nat.le_of_ble_eq_true rfl⟩)) (fun r_10 hr_10 => ?_)
  subst hr_10
  refine lv_if_eq (tgt := 59) hx hb dJ5_insert_00e82_45 (by decide) (fun c_11 => absurd c_11 hce) (fun _ => ?_)
  refine lv_aload_n hx hb dJ5_insert_00e82_48 rfl (lv_at hl 0 rfl) ?_
  refine va_get (D := (dC, dI)) (ci := 1) (v := .ref bv) (C := RJ4) (T := TJ4) (N := 4) hx hb hts (fun _ h9 => List.mem_cons_of_mem _ (List.mem_append_right _ (h9))) hown hK hP 0 rfl rfl 0 (by decide) (hts (.fieldLink RJ5 15 "java/lang/AbstractStringBuilder" "value" "[B") (List.mem_of_getElem? (i := 2) rfl)) (fun _ h9 => h9) rfl dJ5_insert_00e82_49 ?_
  refine lv_iload_n hx hb dJ5_insert_00e82_52 rfl (lv_at hl 1 rfl) ?_
  refine lv_iload_n hx hb dJ5_insert_00e82_53 rfl (lv_at hl 2 rfl) ?_
  refine lv_i2b hx hb dJ5_insert_00e82_54 rfl ?_
  refine va_bast hx hb hK hP hD hS 1 0 rfl rfl (by unfold vp_in; decide) dJ5_insert_00e82_55 (fun H locs hP hD hS => ?_)
  have hP : va_P (dC, dI) vwCl [(y, .inr (1, [.ref bv, .int 0, .int 0, .int 6])), (bv, .inl (kB, 16, .inl (upd fz_5 (0 : Int32).toNatClampNeg (vp_nar .byte ((ch).toInt8.toInt32)))))] H := hP
  have hD : va_D A [(y, .inr (1, [.ref bv, .int 0, .int 0, .int 6])), (bv, .inl (kB, 16, .inl (upd fz_5 (0 : Int32).toNatClampNeg (vp_nar .byte ((ch).toInt8.toInt32)))))] := hD
  have ha_12 : sb_Fit (upd fz_5 (0 : Int32).toNatClampNeg (vp_nar .byte ((ch).toInt8.toInt32))) := sb_fitU hx_6 (by rw [vp_nar_byte]; exact pk_fb _)
  generalize (upd fz_5 (0 : Int32).toNatClampNeg (vp_nar .byte ((ch).toInt8.toInt32))) = a_12 at hP hD ha_12
  refine lv_goto (tgt := 79) hx hb dJ5_insert_00e82_56 (by decide) ?_
  refine lv_aload_n hx hb dJ5_insert_00e82_79 rfl (lv_at hl 0 rfl) ?_
  have hP9 := hP.sub (ws' := [(y, .inr (1, [.ref bv, .int 0, .int 0, .int 6])), (bv, .inl (kB, 16, .inl a_12))]) [0, 1] rfl
  have hD9 := hD.sub (ws' := [(y, .inr (1, [.ref bv, .int 0, .int 0, .int 6])), (bv, .inl (kB, 16, .inl a_12))]) [0, 1] (by decide) rfl
  have hK9 := hK.sub (tys' := [(kB, .byte)]) [0] rfl
  exact W.aret (v := .ref y) hx hb hr (Or.inl ⟨_, rfl⟩) (Or.inr ⟨_, rfl⟩) (fun t ht hW => ⟨⟨(), _, rfl, trivial, a_12, by rw [ht]; exact hP9, va_K.moved hW.alike hK9, hD9, rfl, ha_12⟩, hS.F ht⟩) hS.2.2 dJ5_insert_00e82_80

set_option maxHeartbeats 4000000 in
set_option maxRecDepth 100000 in
theorem c_SB_ins5 (l : Launch) (dC : Nat → ClassId) (dI : Nat → Nat → Nat) (d : Nat) (tc : Nat) (ad : Nat → Nat) (y : Nat) (bv : Nat) (kB : ClassId) (fb : Nat → Int32) (ch : Int32) (sz : Nat) (hfb : sb_Fit fb) (hce : ¬ sp_J_canEncode ch = 0) : Met l yJ4_insert_a3ee8 wsJ4_insert_a3ee8 ({ frames := 3, cells := 0, slots := 0, locals := 124 }) (va_Pc [.ref y, .int 0, .int ch] (PZ dC dI d tc ad sz [(y, .inr (1, [.ref bv, .int 0, .int 0, .int 5])), (bv, .inl (kB, 16, .inl fb))] [(kB, .byte)])) (va_Qr (fun _ : Unit => True) (fun _ ra t => ∃ (fz : Nat → Int32), va_P (dC, dI) vwCl [(y, .inr (1, [.ref bv, .int 0, .int 0, .int 6])), (bv, .inl (kB, 16, .inl fz))] t.heap ∧ va_K (dC, dI) vwCl [(kB, .byte)] t ∧ va_D (va_A [(y, .inr (1, [.ref bv, .int 0, .int 0, .int 5])), (bv, .inl (kB, 16, .inl fb))] sz) [(y, .inr (1, [.ref bv, .int 0, .int 0, .int 6])), (bv, .inl (kB, 16, .inl fz))] ∧ ra = y ∧ sb_Fit fz) (va_A [(y, .inr (1, [.ref bv, .int 0, .int 0, .int 5])), (bv, .inl (kB, 16, .inl fb))] sz)) 0 0 (va_A [(y, .inr (1, [.ref bv, .int 0, .int 0, .int 5])), (bv, .inl (kB, 16, .inl fb))] sz) := by
  refine Met.ofW (cc := cJ4_insert_a3ee8) (maxL := 3) (ret := (some (.object "java/lang/StringBuilder"))) (by decide) rfl ?_
  intro p e s m args below meth c s₁ B hml hv
  obtain ⟨rfl, hsz, hP, hK, hD0, hF, hZ⟩ := hv
  have hx := B.exec
  have hb := B.bytes
  have hr := B.returns
  have hts := atoms_spec (ws := wsJ4_insert_a3ee8) B.pre
  have hown : s.vm.findClass RJ4 = some m.cls := findClass_of_methodNamed B.named
  have hlocks := B.notSynchronized
  subst hsz
  have hD := hD0.self (sz := s.heap.size)
  generalize hAe : va_A [(y, .inr (1, [.ref bv, .int 0, .int 0, .int 5])), (bv, .inl (kB, 16, .inl fb))] s.heap.size = A at hD hZ ⊢
  have hA : ∀ q : Nat, s.heap.size ≤ q → A q := fun q h => by rw [← hAe]; exact Or.inr h
  have hS : va_S A s.heap s.heap [] := va_S.rf
  have hl := lv_entry ([.ref y, .int 0, .int ch]) (n := 3) (Nat.le_of_ble_eq_true rfl)
  rw [lg_entry_eq]
  generalize (lg_sl ([.ref y, .int 0, .int ch]) ++ List.replicate (3 - (lg_sl ([.ref y, .int 0, .int ch])).length) Slot.unset).toArray = ls at hl ⊢
  have hl : lv_has ls 3 [(0, .ref y), (1, .int 0), (2, .int ch)] := hl
  refine lv_aload_n hx hb dJ4_insert_a3ee8_0 rfl (lv_at hl 0 rfl) ?_
  refine lv_iload_n hx hb dJ4_insert_a3ee8_1 rfl (lv_at hl 1 rfl) ?_
  refine lv_iload_n hx hb dJ4_insert_a3ee8_2 rfl (lv_at hl 2 rfl) ?_
  have hPc := hP.sub (ws' := [(y, .inr (1, [.ref bv, .int 0, .int 0, .int 5])), (bv, .inl (kB, 16, .inl fb))]) [0, 1] rfl
  have hDc := hD.sub (ws' := [(y, .inr (1, [.ref bv, .int 0, .int 0, .int 5])), (bv, .inl (kB, 16, .inl fb))]) [0, 1] (by decide) rfl
  have hKc := hK.sub (tys' := [(kB, .byte)]) [0] rfl
  have hFc := va_free (wc := [(y, .inr (1, [.ref bv, .int 0, .int 0, .int 5])), (bv, .inl (kB, 16, .inl fb))]) hD hS hA [0, 1] rfl
  refine va_callr (va_runSU (hK.1 1 _ rfl).2 (As := [.int 0, .int ch]) (rest := []) ⟨hx, hb, hml, hown, hts⟩ (c_SB_insA5 l dC dI d tc ad y bv kB fb ch s.heap.size hfb hce) (va_cwSU 2 hts gJ4_insert_a3ee8_J5_insert_00e82_s101 rfl rfl rfl (by decide +kernel) ⟨Nat.le_of_ble_eq_true rfl, Nat.le_of_ble_eq_true rfl⟩) ⟨PZ_blind, va_recv hK hP (ci := 1) (q0 := 0) rfl rfl, PZ_pre hPc hKc hDc hF hZ hS hFc⟩ rfl rfl hl.1 rfl (lv_room (Nat.le_of_ble_eq_true rfl)) dJ4_insert_a3ee8_3 ⟨Nat.le_of_ble_eq_true rfl, Nat.le_of_ble_eq_true rfl⟩) hS (fun q _ h => hFc q h) hFc (fun u r_1 t H1 locs ht hvm hw hB hz1 hk1 hS => ?_)
  obtain ⟨fz_2, hP1, hK1, hD1, hx_3, hx_4⟩ := hB
  rw [ht] at hP1
  have hK1 := va_K.moved hvm.symm hK1
  obtain ⟨hP, hD⟩ := va_join (wr := []) (w1 := [(y, .inr (1, [.ref bv, .int 0, .int 0, .int 6])), (bv, .inl (kB, 16, .inl fz_2))]) hP hD [0, 1] [] rfl rfl (by decide) (by decide) hk1 hFc hP1 hD1
  have hK := hK.app hK1
  generalize H1 = H at hP hS ⊢
  have hP : va_P (dC, dI) vwCl [(y, .inr (1, [.ref bv, .int 0, .int 0, .int 6])), (bv, .inl (kB, 16, .inl fz_2))] H := hP
  have hD : va_D A [(y, .inr (1, [.ref bv, .int 0, .int 0, .int 6])), (bv, .inl (kB, 16, .inl fz_2))] := hD
  have hK : va_K (dC, dI) vwCl [(kB, .byte), (kB, .byte)] s := hK
  refine W.widen (k := 0) (n := 0) (Nat.le_of_ble_eq_true rfl) (Nat.le_of_ble_eq_true rfl) ?_
  refine lv_pop hx hb dJ4_insert_a3ee8_6 rfl ?_
  refine lv_aload_n hx hb dJ4_insert_a3ee8_7 rfl (lv_at hl 0 rfl) ?_
  have hP9 := hP.sub (ws' := [(y, .inr (1, [.ref bv, .int 0, .int 0, .int 6])), (bv, .inl (kB, 16, .inl fz_2))]) [0, 1] rfl
  have hD9 := hD.sub (ws' := [(y, .inr (1, [.ref bv, .int 0, .int 0, .int 6])), (bv, .inl (kB, 16, .inl fz_2))]) [0, 1] (by decide) rfl
  have hK9 := hK.sub (tys' := [(kB, .byte)]) [0] rfl
  exact W.aret (v := .ref y) hx hb hr (Or.inl ⟨_, rfl⟩) (Or.inr ⟨_, rfl⟩) (fun t ht hW => ⟨⟨(), _, rfl, trivial, fz_2, by rw [ht]; exact hP9, va_K.moved hW.alike hK9, hD9, rfl, hx_4⟩, hS.F ht⟩) hS.2.2 dJ4_insert_a3ee8_8

set_option maxHeartbeats 4000000 in
set_option maxRecDepth 100000 in
theorem c_SB_shift6 (l : Launch) (dC : Nat → ClassId) (dI : Nat → Nat → Nat) (y : Nat) (bv : Nat) (kB : ClassId) (fb : Nat → Int32) (sz : Nat) (hfb : sb_Fit fb) : Met l yJ5_shift_df160 wsJ5_shift_df160 ({ frames := 1, cells := 0, slots := 0, locals := 80 }) (va_Pc [.ref y, .int 0, .int 1] (PQ dC dI sz [(y, .inr (1, [.ref bv, .int 0, .int 0, .int 6])), (bv, .inl (kB, 16, .inl fb))] [(kB, .byte)])) (va_Qv (fun _ : Unit => True) (fun _ t => ∃ (fz : Nat → Int32), va_P (dC, dI) vwCl [(y, .inr (1, [.ref bv, .int 0, .int 0, .int 6])), (bv, .inl (kB, 16, .inl fz))] t.heap ∧ va_K (dC, dI) vwCl [(kB, .byte)] t ∧ va_D (va_A [(y, .inr (1, [.ref bv, .int 0, .int 0, .int 6])), (bv, .inl (kB, 16, .inl fb))] sz) [(y, .inr (1, [.ref bv, .int 0, .int 0, .int 6])), (bv, .inl (kB, 16, .inl fz))] ∧ sb_Fit fz) (va_A [(y, .inr (1, [.ref bv, .int 0, .int 0, .int 6])), (bv, .inl (kB, 16, .inl fb))] sz)) 0 0 (va_A [(y, .inr (1, [.ref bv, .int 0, .int 0, .int 6])), (bv, .inl (kB, 16, .inl fb))] sz) := by
  refine Met.ofW (cc := cJ5_shift_df160) (maxL := 3) (ret := none) (by decide) rfl ?_
  intro p e s m args below meth c s₁ B hml hv
  obtain ⟨rfl, hsz, hP, hK, hD0, hF⟩ := hv
  have hx := B.exec
  have hb := B.bytes
  have hr := B.returns
  have hts := atoms_spec (ws := wsJ5_shift_df160) B.pre
  have hown : s.vm.findClass RJ5 = some m.cls := findClass_of_methodNamed B.named
  have hlocks := B.notSynchronized
  subst hsz
  have hD := hD0.self (sz := s.heap.size)
  generalize hAe : va_A [(y, .inr (1, [.ref bv, .int 0, .int 0, .int 6])), (bv, .inl (kB, 16, .inl fb))] s.heap.size = A at hD ⊢
  have hA : ∀ q : Nat, s.heap.size ≤ q → A q := fun q h => by rw [← hAe]; exact Or.inr h
  have hS : va_S A s.heap s.heap [] := va_S.rf
  have hl := lv_entry ([.ref y, .int 0, .int 1]) (n := 3) (Nat.le_of_ble_eq_true rfl)
  rw [lg_entry_eq]
  generalize (lg_sl ([.ref y, .int 0, .int 1]) ++ List.replicate (3 - (lg_sl ([.ref y, .int 0, .int 1])).length) Slot.unset).toArray = ls at hl ⊢
  have hl : lv_has ls 3 [(0, .ref y), (1, .int 0), (2, .int 1)] := hl
  refine lv_aload_n hx hb dJ5_shift_df160_0 rfl (lv_at hl 0 rfl) ?_
  refine va_get (D := (dC, dI)) (ci := 1) (v := .ref bv) (C := RJ4) (T := TJ4) (N := 4) hx hb hts (fun _ h9 => List.mem_cons_of_mem _ (List.mem_append_right _ (h9))) hown hK hP 0 rfl rfl 0 (by decide) (hts (.fieldLink RJ5 15 "java/lang/AbstractStringBuilder" "value" "[B") (List.mem_of_getElem? (i := 1) rfl)) (fun _ h9 => h9) rfl dJ5_shift_df160_1 ?_
  refine lv_iload_n hx hb dJ5_shift_df160_4 rfl (lv_at hl 1 rfl) ?_
  refine lv_aload_n hx hb dJ5_shift_df160_5 rfl (lv_at hl 0 rfl) ?_
  refine va_get (D := (dC, dI)) (ci := 1) (v := .int 0) (C := RJ4) (T := TJ4) (N := 4) hx hb hts (fun _ h9 => List.mem_cons_of_mem _ (List.mem_append_right _ (h9))) hown hK hP 0 rfl rfl 1 (by decide) (hts (.fieldLink RJ5 22 "java/lang/AbstractStringBuilder" "coder" "B") (List.mem_of_getElem? (i := 2) rfl)) (fun _ h9 => h9) rfl dJ5_shift_df160_6 ?_
  refine lv_ishl hx hb dJ5_shift_df160_9 ?_
  refine lv_topi (fun f_1 ef_1 => ?_)
  obtain rfl : f_1 = 0 := ef_1.trans (by decide)
  refine lv_aload_n hx hb dJ5_shift_df160_10 rfl (lv_at hl 0 rfl) ?_
  refine va_get (D := (dC, dI)) (ci := 1) (v := .ref bv) (C := RJ4) (T := TJ4) (N := 4) hx hb hts (fun _ h9 => List.mem_cons_of_mem _ (List.mem_append_right _ (h9))) hown hK hP 0 rfl rfl 0 (by decide) (hts (.fieldLink RJ5 15 "java/lang/AbstractStringBuilder" "value" "[B") (List.mem_of_getElem? (i := 1) rfl)) (fun _ h9 => h9) rfl dJ5_shift_df160_11 ?_
  refine lv_iload_n hx hb dJ5_shift_df160_14 rfl (lv_at hl 1 rfl) ?_
  refine lv_iload_n hx hb dJ5_shift_df160_15 rfl (lv_at hl 2 rfl) ?_
  refine lv_iadd hx hb dJ5_shift_df160_16 ?_
  refine lv_topi (fun f_2 ef_2 => ?_)
  obtain rfl : f_2 = 1 := ef_2.trans (by decide)
  refine lv_aload_n hx hb dJ5_shift_df160_17 rfl (lv_at hl 0 rfl) ?_
  refine va_get (D := (dC, dI)) (ci := 1) (v := .int 0) (C := RJ4) (T := TJ4) (N := 4) hx hb hts (fun _ h9 => List.mem_cons_of_mem _ (List.mem_append_right _ (h9))) hown hK hP 0 rfl rfl 1 (by decide) (hts (.fieldLink RJ5 22 "java/lang/AbstractStringBuilder" "coder" "B") (List.mem_of_getElem? (i := 2) rfl)) (fun _ h9 => h9) rfl dJ5_shift_df160_18 ?_
  refine lv_ishl hx hb dJ5_shift_df160_21 ?_
  refine lv_topi (fun f_3 ef_3 => ?_)
  obtain rfl : f_3 = 1 := ef_3.trans (by decide)
  refine lv_aload_n hx hb dJ5_shift_df160_22 rfl (lv_at hl 0 rfl) ?_
  refine va_get (D := (dC, dI)) (ci := 1) (v := .int 6) (C := RJ4) (T := TJ4) (N := 4) hx hb hts (fun _ h9 => List.mem_cons_of_mem _ (List.mem_append_right _ (h9))) hown hK hP 0 rfl rfl 3 (by decide) (hts (.fieldLink RJ5 79 "java/lang/AbstractStringBuilder" "count" "I") (List.mem_of_getElem? (i := 3) rfl)) (fun _ h9 => h9) rfl dJ5_shift_df160_23 ?_
  refine lv_iload_n hx hb dJ5_shift_df160_26 rfl (lv_at hl 1 rfl) ?_
  refine lv_isub hx hb dJ5_shift_df160_27 ?_
  refine lv_topi (fun f_4 ef_4 => ?_)
  obtain rfl : f_4 = 6 := ef_4.trans (by decide)
  refine lv_aload_n hx hb dJ5_shift_df160_28 rfl (lv_at hl 0 rfl) ?_
  refine va_get (D := (dC, dI)) (ci := 1) (v := .int 0) (C := RJ4) (T := TJ4) (N := 4) hx hb hts (fun _ h9 => List.mem_cons_of_mem _ (List.mem_append_right _ (h9))) hown hK hP 0 rfl rfl 1 (by decide) (hts (.fieldLink RJ5 22 "java/lang/AbstractStringBuilder" "coder" "B") (List.mem_of_getElem? (i := 2) rfl)) (fun _ h9 => h9) rfl dJ5_shift_df160_29 ?_
  refine lv_ishl hx hb dJ5_shift_df160_32 ?_
  refine lv_topi (fun f_5 ef_5 => ?_)
  obtain rfl : f_5 = 6 := ef_5.trans (by decide)
  refine va_copyi (ty := .byte) hx hb (hml.trans hl.1.symm) hown (hts (.methodLink RJ5 309 arraycopyName) (List.mem_of_getElem? (i := 4) rfl)) (hts (.native arraycopyName) (List.mem_of_getElem? (i := 5) rfl)) (hts (.static arraycopyName) (List.mem_of_getElem? (i := 6) rfl)) (hts (.initialized "java/lang/System") (List.mem_of_getElem? (i := 7) rfl)) hK hP hD hS 1 1 0 0 rfl rfl rfl rfl rfl (sp := 0) (dp := 1) (n := 6) (by decide) (by decide) (by decide) (by decide) (by decide) (fun i _ => hfb _) (Nat.le_of_ble_eq_true rfl) (Nat.le_of_ble_eq_true rfl) dJ5_shift_df160_33 (fun H locs hP hD hS => ?_)
  have hP : va_P (dC, dI) vwCl [(y, .inr (1, [.ref bv, .int 0, .int 0, .int 6])), (bv, .inl (kB, 16, .inl (va_cpy fb fb (0 : Int32).toNatClampNeg (1 : Int32).toNatClampNeg (6 : Int32).toNatClampNeg)))] H := hP
  have hD : va_D A [(y, .inr (1, [.ref bv, .int 0, .int 0, .int 6])), (bv, .inl (kB, 16, .inl (va_cpy fb fb (0 : Int32).toNatClampNeg (1 : Int32).toNatClampNeg (6 : Int32).toNatClampNeg)))] := hD
  have ha_6 : sb_Fit (va_cpy fb fb (0 : Int32).toNatClampNeg (1 : Int32).toNatClampNeg (6 : Int32).toNatClampNeg) := sb_fitC hfb hfb
  generalize (va_cpy fb fb (0 : Int32).toNatClampNeg (1 : Int32).toNatClampNeg (6 : Int32).toNatClampNeg) = a_6 at hP hD ha_6
  have hP9 := hP.sub (ws' := [(y, .inr (1, [.ref bv, .int 0, .int 0, .int 6])), (bv, .inl (kB, 16, .inl a_6))]) [0, 1] rfl
  have hD9 := hD.sub (ws' := [(y, .inr (1, [.ref bv, .int 0, .int 0, .int 6])), (bv, .inl (kB, 16, .inl a_6))]) [0, 1] (by decide) rfl
  have hK9 := hK.sub (tys' := [(kB, .byte)]) [0] rfl
  exact W.vret hx hb hr (fun t ht hW => ⟨⟨(), rfl, trivial, a_6, by rw [ht]; exact hP9, va_K.moved hW.alike hK9, hD9, ha_6⟩, hS.F ht⟩) hS.2.2 dJ5_shift_df160_36

set_option maxHeartbeats 4000000 in
set_option maxRecDepth 100000 in
theorem c_SB_insA6 (l : Launch) (dC : Nat → ClassId) (dI : Nat → Nat → Nat) (d : Nat) (tc : Nat) (ad : Nat → Nat) (y : Nat) (bv : Nat) (kB : ClassId) (fb : Nat → Int32) (ch : Int32) (sz : Nat) (hfb : sb_Fit fb) (hce : ¬ sp_J_canEncode ch = 0) : Met l yJ5_insert_00e82 wsJ5_insert_00e82 ({ frames := 2, cells := 0, slots := 0, locals := 102 }) (va_Pc [.ref y, .int 0, .int ch] (PZ dC dI d tc ad sz [(y, .inr (1, [.ref bv, .int 0, .int 0, .int 6])), (bv, .inl (kB, 16, .inl fb))] [(kB, .byte)])) (va_Qr (fun _ : Unit => True) (fun _ ra t => ∃ (fz : Nat → Int32), va_P (dC, dI) vwCl [(y, .inr (1, [.ref bv, .int 0, .int 0, .int 7])), (bv, .inl (kB, 16, .inl fz))] t.heap ∧ va_K (dC, dI) vwCl [(kB, .byte)] t ∧ va_D (va_A [(y, .inr (1, [.ref bv, .int 0, .int 0, .int 6])), (bv, .inl (kB, 16, .inl fb))] sz) [(y, .inr (1, [.ref bv, .int 0, .int 0, .int 7])), (bv, .inl (kB, 16, .inl fz))] ∧ ra = y ∧ sb_Fit fz) (va_A [(y, .inr (1, [.ref bv, .int 0, .int 0, .int 6])), (bv, .inl (kB, 16, .inl fb))] sz)) 0 0 (va_A [(y, .inr (1, [.ref bv, .int 0, .int 0, .int 6])), (bv, .inl (kB, 16, .inl fb))] sz) := by
  refine Met.ofW (cc := cJ5_insert_00e82) (maxL := 3) (ret := (some (.object "java/lang/AbstractStringBuilder"))) (by decide) rfl ?_
  intro p e s m args below meth c s₁ B hml hv
  obtain ⟨rfl, hsz, hP, hK, hD0, hF, hZ⟩ := hv
  have hx := B.exec
  have hb := B.bytes
  have hr := B.returns
  have hts := atoms_spec (ws := wsJ5_insert_00e82) B.pre
  have hown : s.vm.findClass RJ5 = some m.cls := findClass_of_methodNamed B.named
  have hlocks := B.notSynchronized
  subst hsz
  have hD := hD0.self (sz := s.heap.size)
  generalize hAe : va_A [(y, .inr (1, [.ref bv, .int 0, .int 0, .int 6])), (bv, .inl (kB, 16, .inl fb))] s.heap.size = A at hD hZ ⊢
  have hA : ∀ q : Nat, s.heap.size ≤ q → A q := fun q h => by rw [← hAe]; exact Or.inr h
  have hS : va_S A s.heap s.heap [] := va_S.rf
  have hl := lv_entry ([.ref y, .int 0, .int ch]) (n := 3) (Nat.le_of_ble_eq_true rfl)
  rw [lg_entry_eq]
  generalize (lg_sl ([.ref y, .int 0, .int ch]) ++ List.replicate (3 - (lg_sl ([.ref y, .int 0, .int ch])).length) Slot.unset).toArray = ls at hl ⊢
  have hl : lv_has ls 3 [(0, .ref y), (1, .int 0), (2, .int ch)] := hl
  refine lv_iload_n hx hb dJ5_insert_00e82_0 rfl (lv_at hl 1 rfl) ?_
  refine lv_aload_n hx hb dJ5_insert_00e82_1 rfl (lv_at hl 0 rfl) ?_
  refine va_get (D := (dC, dI)) (ci := 1) (v := .int 6) (C := RJ4) (T := TJ4) (N := 4) hx hb hts (fun _ h9 => List.mem_cons_of_mem _ (List.mem_append_right _ (h9))) hown hK hP 0 rfl rfl 3 (by decide) (hts (.fieldLink RJ5 79 "java/lang/AbstractStringBuilder" "count" "I") (List.mem_of_getElem? (i := 1) rfl)) (fun _ h9 => h9) rfl dJ5_insert_00e82_2 ?_
  refine va_csv (va_Run.run (va_runS (As := [.int 0, .int 6]) (rest := []) ⟨hx, hb, hml, hown, hts⟩ (c_Str_checkOffset l dC dI d tc ad 6 (by decide)) (va_cwS 2 hts gJ5_insert_00e82_J0_checkOffset_df160 rfl rfl rfl (by decide +kernel) ⟨Nat.le_of_ble_eq_true rfl, Nat.le_of_ble_eq_true rfl⟩) ⟨PY_blind, PY_pre (hP.sub (ws' := []) [] rfl) (hK.sub (tys' := []) [] rfl) hF hZ hS⟩ rfl rfl hl.1 rfl (lv_room (Nat.le_of_ble_eq_true rfl)) dJ5_insert_00e82_5 ⟨Nat.le_of_ble_eq_true rfl, Nat.le_of_ble_eq_true rfl⟩)) (fun _ => ?_)
  refine lv_aload_n hx hb dJ5_insert_00e82_8 rfl (lv_at hl 0 rfl) ?_
  refine lv_aload_n hx hb dJ5_insert_00e82_9 rfl (lv_at hl 0 rfl) ?_
  refine va_get (D := (dC, dI)) (ci := 1) (v := .int 6) (C := RJ4) (T := TJ4) (N := 4) hx hb hts (fun _ h9 => List.mem_cons_of_mem _ (List.mem_append_right _ (h9))) hown hK hP 0 rfl rfl 3 (by decide) (hts (.fieldLink RJ5 79 "java/lang/AbstractStringBuilder" "count" "I") (List.mem_of_getElem? (i := 1) rfl)) (fun _ h9 => h9) rfl dJ5_insert_00e82_10 ?_
  refine lv_iconst (v := 1) hx hb dJ5_insert_00e82_13 (by decide) ?_
  refine lv_iadd hx hb dJ5_insert_00e82_14 ?_
  refine lv_topi (fun f_2 ef_2 => ?_)
  obtain rfl : f_2 = 7 := ef_2.trans (by decide)
  refine va_csv (va_Run.run (va_runU (As := [.int 7]) (rest := []) ⟨hx, hb, hml, hown, hts⟩ (c_SB_ensure l dC dI y bv kB fb 6 7 (by decide)) (va_cwU 1 hts gJ5_insert_00e82_J5_ensureCapacityInternal_d00df_u100J4 rfl rfl rfl rfl (by decide +kernel) ⟨Nat.le_of_ble_eq_true rfl, Nat.le_of_ble_eq_true rfl⟩) ⟨PS_blind, va_recv hK hP (ci := 1) (q0 := 0) rfl rfl, PS_pre hP hK hF⟩ rfl rfl hl.1 rfl (lv_room (Nat.le_of_ble_eq_true rfl)) dJ5_insert_00e82_15 ⟨Nat.le_of_ble_eq_true rfl, Nat.le_of_ble_eq_true rfl⟩)) (fun _ => ?_)
  refine lv_aload_n hx hb dJ5_insert_00e82_18 rfl (lv_at hl 0 rfl) ?_
  refine lv_iload_n hx hb dJ5_insert_00e82_19 rfl (lv_at hl 1 rfl) ?_
  refine lv_iconst (v := 1) hx hb dJ5_insert_00e82_20 (by decide) ?_
  have hPc := hP.sub (ws' := [(y, .inr (1, [.ref bv, .int 0, .int 0, .int 6])), (bv, .inl (kB, 16, .inl fb))]) [0, 1] rfl
  have hDc := hD.sub (ws' := [(y, .inr (1, [.ref bv, .int 0, .int 0, .int 6])), (bv, .inl (kB, 16, .inl fb))]) [0, 1] (by decide) rfl
  have hKc := hK.sub (tys' := [(kB, .byte)]) [0] rfl
  have hFc := va_free (wc := [(y, .inr (1, [.ref bv, .int 0, .int 0, .int 6])), (bv, .inl (kB, 16, .inl fb))]) hD hS hA [0, 1] rfl
  refine va_callv (va_runU (As := [.int 0, .int 1]) (rest := []) ⟨hx, hb, hml, hown, hts⟩ (c_SB_shift6 l dC dI y bv kB fb s.heap.size hfb) (va_cwU 2 hts gJ5_insert_00e82_J5_shift_df160_u283J4 rfl rfl rfl rfl (by decide +kernel) ⟨Nat.le_of_ble_eq_true rfl, Nat.le_of_ble_eq_true rfl⟩) ⟨PQ_blind, va_recv hK hP (ci := 1) (q0 := 0) rfl rfl, PQ_pre hPc hKc hDc hF⟩ rfl rfl hl.1 rfl (lv_room (Nat.le_of_ble_eq_true rfl)) dJ5_insert_00e82_21 ⟨Nat.le_of_ble_eq_true rfl, Nat.le_of_ble_eq_true rfl⟩) hS (fun q _ h => hFc q h) hFc (fun u t H1 locs ht hvm hw hB hz1 hk1 hS => ?_)
  obtain ⟨fz_5, hP1, hK1, hD1, hx_6⟩ := hB
  rw [ht] at hP1
  have hK1 := va_K.moved hvm.symm hK1
  obtain ⟨hP, hD⟩ := va_join (wr := []) (w1 := [(y, .inr (1, [.ref bv, .int 0, .int 0, .int 6])), (bv, .inl (kB, 16, .inl fz_5))]) hP hD [0, 1] [] rfl rfl (by decide) (by decide) hk1 hFc hP1 hD1
  have hK := hK.app hK1
  generalize H1 = H at hP hS ⊢
  have hP : va_P (dC, dI) vwCl [(y, .inr (1, [.ref bv, .int 0, .int 0, .int 6])), (bv, .inl (kB, 16, .inl fz_5))] H := hP
  have hD : va_D A [(y, .inr (1, [.ref bv, .int 0, .int 0, .int 6])), (bv, .inl (kB, 16, .inl fz_5))] := hD
  have hK : va_K (dC, dI) vwCl [(kB, .byte), (kB, .byte)] s := hK
  refine W.widen (k := 0) (n := 0) (Nat.le_of_ble_eq_true rfl) (Nat.le_of_ble_eq_true rfl) ?_
  refine lv_aload_n hx hb dJ5_insert_00e82_24 rfl (lv_at hl 0 rfl) ?_
  refine lv_dup hx hb dJ5_insert_00e82_25 rfl ?_
  refine va_get (D := (dC, dI)) (ci := 1) (v := .int 6) (C := RJ4) (T := TJ4) (N := 4) hx hb hts (fun _ h9 => List.mem_cons_of_mem _ (List.mem_append_right _ (h9))) hown hK hP 0 rfl rfl 3 (by decide) (hts (.fieldLink RJ5 79 "java/lang/AbstractStringBuilder" "count" "I") (List.mem_of_getElem? (i := 1) rfl)) (fun _ h9 => h9) rfl dJ5_insert_00e82_26 ?_
  refine lv_iconst (v := 1) hx hb dJ5_insert_00e82_29 (by decide) ?_
  refine lv_iadd hx hb dJ5_insert_00e82_30 ?_
  refine lv_topi (fun f_7 ef_7 => ?_)
  obtain rfl : f_7 = 7 := ef_7.trans (by decide)
  refine va_put (D := (dC, dI)) (ci := 1) (v := .int 7) (ty := .int) (C := RJ4) (T := TJ4) (N := 4) hx hb hts (fun _ h9 => List.mem_cons_of_mem _ (List.mem_append_right _ (h9))) tyJ4 tyJ4_ok nmJ4 hown hK hP hD hS 0 rfl rfl 3 (by decide) (hts (.fieldLink RJ5 79 "java/lang/AbstractStringBuilder" "count" "I") (List.mem_of_getElem? (i := 1) rfl)) (fun _ h9 => h9) rfl (by decide +kernel) rfl rfl (Nat.le_of_ble_eq_true rfl) dJ5_insert_00e82_31 (fun H locs hP hD hS => ?_)
  have hP : va_P (dC, dI) vwCl [(y, .inr (1, [.ref bv, .int 0, .int 0, .int 7])), (bv, .inl (kB, 16, .inl fz_5))] H := hP
  have hD : va_D A [(y, .inr (1, [.ref bv, .int 0, .int 0, .int 7])), (bv, .inl (kB, 16, .inl fz_5))] := hD
  refine lv_aload_n hx hb dJ5_insert_00e82_34 rfl (lv_at hl 0 rfl) ?_
  refine vp_callSi (va_Run.run (va_runU (As := []) (rest := []) ⟨hx, hb, hml, hown, hts⟩ (c_SB_isLatin1 l dC dI d tc ad y bv 7) (va_cwU 0 hts gJ5_insert_00e82_J5_isLatin1_aae02_u83J4 rfl rfl rfl rfl (by decide +kernel) ⟨Nat.le_of_ble_eq_true rfl, Nat.le_of_ble_eq_true rfl⟩) ⟨PY_blind, va_recv hK hP (ci := 1) (q0 := 0) rfl rfl, PY_pre (hP.sub (ws' := [(y, .inr (1, [.ref bv, .int 0, .int 0, .int 7]))]) [0] rfl) (hK.sub (tys' := []) [] rfl) hF hZ hS⟩ rfl rfl hl.1 rfl (lv_room (Nat.le_of_ble_eq_true rfl)) dJ5_insert_00e82_35 ⟨Nat.le_of_ble_eq_true rfl, Nat.le_of_ble_eq_true rfl⟩)) (fun r_8 hr_8 => ?_)
  subst hr_8
  refine lv_if_eq (tgt := 59) hx hb dJ5_insert_00e82_38 (by decide) (fun c_9 => absurd c_9 (by decide)) (fun _ => ?_)
  refine lv_iload_n hx hb dJ5_insert_00e82_41 rfl (lv_at hl 2 rfl) ?_
  refine vp_callSi (va_Run.run (va_runS (As := [.int ch]) (rest := []) ⟨hx, hb, hml, hown, hts⟩ (c_J_canEncode l dC dI ch) (va_cwS 1 hts gJ5_insert_00e82_J1_canEncode_fc78d rfl rfl rfl (by decide +kernel) ⟨Nat.le_of_ble_eq_true rfl, Nat.le_of_ble_eq_true rfl⟩) ⟨PS_blind, PS_pre (hP.sub (ws' := []) [] rfl) (hK.sub (tys' := []) [] rfl) hF⟩ rfl rfl hl.1 rfl (lv_room (Nat.le_of_ble_eq_true rfl)) dJ5_insert_00e82_42 ⟨Nat.le_of_ble_eq_true rfl, Nat.le_of_ble_eq_true rfl⟩)) (fun r_10 hr_10 => ?_)
  subst hr_10
  refine lv_if_eq (tgt := 59) hx hb dJ5_insert_00e82_45 (by decide) (fun c_11 => absurd c_11 hce) (fun _ => ?_)
  refine lv_aload_n hx hb dJ5_insert_00e82_48 rfl (lv_at hl 0 rfl) ?_
  refine va_get (D := (dC, dI)) (ci := 1) (v := .ref bv) (C := RJ4) (T := TJ4) (N := 4) hx hb hts (fun _ h9 => List.mem_cons_of_mem _ (List.mem_append_right _ (h9))) hown hK hP 0 rfl rfl 0 (by decide) (hts (.fieldLink RJ5 15 "java/lang/AbstractStringBuilder" "value" "[B") (List.mem_of_getElem? (i := 2) rfl)) (fun _ h9 => h9) rfl dJ5_insert_00e82_49 ?_
  refine lv_iload_n hx hb dJ5_insert_00e82_52 rfl (lv_at hl 1 rfl) ?_
  refine lv_iload_n hx hb dJ5_insert_00e82_53 rfl (lv_at hl 2 rfl) ?_
  refine lv_i2b hx hb dJ5_insert_00e82_54 rfl ?_
  refine va_bast hx hb hK hP hD hS 1 0 rfl rfl (by unfold vp_in; decide) dJ5_insert_00e82_55 (fun H locs hP hD hS => ?_)
  have hP : va_P (dC, dI) vwCl [(y, .inr (1, [.ref bv, .int 0, .int 0, .int 7])), (bv, .inl (kB, 16, .inl (upd fz_5 (0 : Int32).toNatClampNeg (vp_nar .byte ((ch).toInt8.toInt32)))))] H := hP
  have hD : va_D A [(y, .inr (1, [.ref bv, .int 0, .int 0, .int 7])), (bv, .inl (kB, 16, .inl (upd fz_5 (0 : Int32).toNatClampNeg (vp_nar .byte ((ch).toInt8.toInt32)))))] := hD
  have ha_12 : sb_Fit (upd fz_5 (0 : Int32).toNatClampNeg (vp_nar .byte ((ch).toInt8.toInt32))) := sb_fitU hx_6 (by rw [vp_nar_byte]; exact pk_fb _)
  generalize (upd fz_5 (0 : Int32).toNatClampNeg (vp_nar .byte ((ch).toInt8.toInt32))) = a_12 at hP hD ha_12
  refine lv_goto (tgt := 79) hx hb dJ5_insert_00e82_56 (by decide) ?_
  refine lv_aload_n hx hb dJ5_insert_00e82_79 rfl (lv_at hl 0 rfl) ?_
  have hP9 := hP.sub (ws' := [(y, .inr (1, [.ref bv, .int 0, .int 0, .int 7])), (bv, .inl (kB, 16, .inl a_12))]) [0, 1] rfl
  have hD9 := hD.sub (ws' := [(y, .inr (1, [.ref bv, .int 0, .int 0, .int 7])), (bv, .inl (kB, 16, .inl a_12))]) [0, 1] (by decide) rfl
  have hK9 := hK.sub (tys' := [(kB, .byte)]) [0] rfl
  exact W.aret (v := .ref y) hx hb hr (Or.inl ⟨_, rfl⟩) (Or.inr ⟨_, rfl⟩) (fun t ht hW => ⟨⟨(), _, rfl, trivial, a_12, by rw [ht]; exact hP9, va_K.moved hW.alike hK9, hD9, rfl, ha_12⟩, hS.F ht⟩) hS.2.2 dJ5_insert_00e82_80

set_option maxHeartbeats 4000000 in
set_option maxRecDepth 100000 in
theorem c_SB_ins6 (l : Launch) (dC : Nat → ClassId) (dI : Nat → Nat → Nat) (d : Nat) (tc : Nat) (ad : Nat → Nat) (y : Nat) (bv : Nat) (kB : ClassId) (fb : Nat → Int32) (ch : Int32) (sz : Nat) (hfb : sb_Fit fb) (hce : ¬ sp_J_canEncode ch = 0) : Met l yJ4_insert_a3ee8 wsJ4_insert_a3ee8 ({ frames := 3, cells := 0, slots := 0, locals := 124 }) (va_Pc [.ref y, .int 0, .int ch] (PZ dC dI d tc ad sz [(y, .inr (1, [.ref bv, .int 0, .int 0, .int 6])), (bv, .inl (kB, 16, .inl fb))] [(kB, .byte)])) (va_Qr (fun _ : Unit => True) (fun _ ra t => ∃ (fz : Nat → Int32), va_P (dC, dI) vwCl [(y, .inr (1, [.ref bv, .int 0, .int 0, .int 7])), (bv, .inl (kB, 16, .inl fz))] t.heap ∧ va_K (dC, dI) vwCl [(kB, .byte)] t ∧ va_D (va_A [(y, .inr (1, [.ref bv, .int 0, .int 0, .int 6])), (bv, .inl (kB, 16, .inl fb))] sz) [(y, .inr (1, [.ref bv, .int 0, .int 0, .int 7])), (bv, .inl (kB, 16, .inl fz))] ∧ ra = y ∧ sb_Fit fz) (va_A [(y, .inr (1, [.ref bv, .int 0, .int 0, .int 6])), (bv, .inl (kB, 16, .inl fb))] sz)) 0 0 (va_A [(y, .inr (1, [.ref bv, .int 0, .int 0, .int 6])), (bv, .inl (kB, 16, .inl fb))] sz) := by
  refine Met.ofW (cc := cJ4_insert_a3ee8) (maxL := 3) (ret := (some (.object "java/lang/StringBuilder"))) (by decide) rfl ?_
  intro p e s m args below meth c s₁ B hml hv
  obtain ⟨rfl, hsz, hP, hK, hD0, hF, hZ⟩ := hv
  have hx := B.exec
  have hb := B.bytes
  have hr := B.returns
  have hts := atoms_spec (ws := wsJ4_insert_a3ee8) B.pre
  have hown : s.vm.findClass RJ4 = some m.cls := findClass_of_methodNamed B.named
  have hlocks := B.notSynchronized
  subst hsz
  have hD := hD0.self (sz := s.heap.size)
  generalize hAe : va_A [(y, .inr (1, [.ref bv, .int 0, .int 0, .int 6])), (bv, .inl (kB, 16, .inl fb))] s.heap.size = A at hD hZ ⊢
  have hA : ∀ q : Nat, s.heap.size ≤ q → A q := fun q h => by rw [← hAe]; exact Or.inr h
  have hS : va_S A s.heap s.heap [] := va_S.rf
  have hl := lv_entry ([.ref y, .int 0, .int ch]) (n := 3) (Nat.le_of_ble_eq_true rfl)
  rw [lg_entry_eq]
  generalize (lg_sl ([.ref y, .int 0, .int ch]) ++ List.replicate (3 - (lg_sl ([.ref y, .int 0, .int ch])).length) Slot.unset).toArray = ls at hl ⊢
  have hl : lv_has ls 3 [(0, .ref y), (1, .int 0), (2, .int ch)] := hl
  refine lv_aload_n hx hb dJ4_insert_a3ee8_0 rfl (lv_at hl 0 rfl) ?_
  refine lv_iload_n hx hb dJ4_insert_a3ee8_1 rfl (lv_at hl 1 rfl) ?_
  refine lv_iload_n hx hb dJ4_insert_a3ee8_2 rfl (lv_at hl 2 rfl) ?_
  have hPc := hP.sub (ws' := [(y, .inr (1, [.ref bv, .int 0, .int 0, .int 6])), (bv, .inl (kB, 16, .inl fb))]) [0, 1] rfl
  have hDc := hD.sub (ws' := [(y, .inr (1, [.ref bv, .int 0, .int 0, .int 6])), (bv, .inl (kB, 16, .inl fb))]) [0, 1] (by decide) rfl
  have hKc := hK.sub (tys' := [(kB, .byte)]) [0] rfl
  have hFc := va_free (wc := [(y, .inr (1, [.ref bv, .int 0, .int 0, .int 6])), (bv, .inl (kB, 16, .inl fb))]) hD hS hA [0, 1] rfl
  refine va_callr (va_runSU (hK.1 1 _ rfl).2 (As := [.int 0, .int ch]) (rest := []) ⟨hx, hb, hml, hown, hts⟩ (c_SB_insA6 l dC dI d tc ad y bv kB fb ch s.heap.size hfb hce) (va_cwSU 2 hts gJ4_insert_a3ee8_J5_insert_00e82_s101 rfl rfl rfl (by decide +kernel) ⟨Nat.le_of_ble_eq_true rfl, Nat.le_of_ble_eq_true rfl⟩) ⟨PZ_blind, va_recv hK hP (ci := 1) (q0 := 0) rfl rfl, PZ_pre hPc hKc hDc hF hZ hS hFc⟩ rfl rfl hl.1 rfl (lv_room (Nat.le_of_ble_eq_true rfl)) dJ4_insert_a3ee8_3 ⟨Nat.le_of_ble_eq_true rfl, Nat.le_of_ble_eq_true rfl⟩) hS (fun q _ h => hFc q h) hFc (fun u r_1 t H1 locs ht hvm hw hB hz1 hk1 hS => ?_)
  obtain ⟨fz_2, hP1, hK1, hD1, hx_3, hx_4⟩ := hB
  rw [ht] at hP1
  have hK1 := va_K.moved hvm.symm hK1
  obtain ⟨hP, hD⟩ := va_join (wr := []) (w1 := [(y, .inr (1, [.ref bv, .int 0, .int 0, .int 7])), (bv, .inl (kB, 16, .inl fz_2))]) hP hD [0, 1] [] rfl rfl (by decide) (by decide) hk1 hFc hP1 hD1
  have hK := hK.app hK1
  generalize H1 = H at hP hS ⊢
  have hP : va_P (dC, dI) vwCl [(y, .inr (1, [.ref bv, .int 0, .int 0, .int 7])), (bv, .inl (kB, 16, .inl fz_2))] H := hP
  have hD : va_D A [(y, .inr (1, [.ref bv, .int 0, .int 0, .int 7])), (bv, .inl (kB, 16, .inl fz_2))] := hD
  have hK : va_K (dC, dI) vwCl [(kB, .byte), (kB, .byte)] s := hK
  refine W.widen (k := 0) (n := 0) (Nat.le_of_ble_eq_true rfl) (Nat.le_of_ble_eq_true rfl) ?_
  refine lv_pop hx hb dJ4_insert_a3ee8_6 rfl ?_
  refine lv_aload_n hx hb dJ4_insert_a3ee8_7 rfl (lv_at hl 0 rfl) ?_
  have hP9 := hP.sub (ws' := [(y, .inr (1, [.ref bv, .int 0, .int 0, .int 7])), (bv, .inl (kB, 16, .inl fz_2))]) [0, 1] rfl
  have hD9 := hD.sub (ws' := [(y, .inr (1, [.ref bv, .int 0, .int 0, .int 7])), (bv, .inl (kB, 16, .inl fz_2))]) [0, 1] (by decide) rfl
  have hK9 := hK.sub (tys' := [(kB, .byte)]) [0] rfl
  exact W.aret (v := .ref y) hx hb hr (Or.inl ⟨_, rfl⟩) (Or.inr ⟨_, rfl⟩) (fun t ht hW => ⟨⟨(), _, rfl, trivial, fz_2, by rw [ht]; exact hP9, va_K.moved hW.alike hK9, hD9, rfl, hx_4⟩, hS.F ht⟩) hS.2.2 dJ4_insert_a3ee8_8

set_option maxHeartbeats 4000000 in
set_option maxRecDepth 100000 in
theorem c_SB_shift7 (l : Launch) (dC : Nat → ClassId) (dI : Nat → Nat → Nat) (y : Nat) (bv : Nat) (kB : ClassId) (fb : Nat → Int32) (sz : Nat) (hfb : sb_Fit fb) : Met l yJ5_shift_df160 wsJ5_shift_df160 ({ frames := 1, cells := 0, slots := 0, locals := 80 }) (va_Pc [.ref y, .int 0, .int 1] (PQ dC dI sz [(y, .inr (1, [.ref bv, .int 0, .int 0, .int 7])), (bv, .inl (kB, 16, .inl fb))] [(kB, .byte)])) (va_Qv (fun _ : Unit => True) (fun _ t => ∃ (fz : Nat → Int32), va_P (dC, dI) vwCl [(y, .inr (1, [.ref bv, .int 0, .int 0, .int 7])), (bv, .inl (kB, 16, .inl fz))] t.heap ∧ va_K (dC, dI) vwCl [(kB, .byte)] t ∧ va_D (va_A [(y, .inr (1, [.ref bv, .int 0, .int 0, .int 7])), (bv, .inl (kB, 16, .inl fb))] sz) [(y, .inr (1, [.ref bv, .int 0, .int 0, .int 7])), (bv, .inl (kB, 16, .inl fz))] ∧ sb_Fit fz) (va_A [(y, .inr (1, [.ref bv, .int 0, .int 0, .int 7])), (bv, .inl (kB, 16, .inl fb))] sz)) 0 0 (va_A [(y, .inr (1, [.ref bv, .int 0, .int 0, .int 7])), (bv, .inl (kB, 16, .inl fb))] sz) := by
  refine Met.ofW (cc := cJ5_shift_df160) (maxL := 3) (ret := none) (by decide) rfl ?_
  intro p e s m args below meth c s₁ B hml hv
  obtain ⟨rfl, hsz, hP, hK, hD0, hF⟩ := hv
  have hx := B.exec
  have hb := B.bytes
  have hr := B.returns
  have hts := atoms_spec (ws := wsJ5_shift_df160) B.pre
  have hown : s.vm.findClass RJ5 = some m.cls := findClass_of_methodNamed B.named
  have hlocks := B.notSynchronized
  subst hsz
  have hD := hD0.self (sz := s.heap.size)
  generalize hAe : va_A [(y, .inr (1, [.ref bv, .int 0, .int 0, .int 7])), (bv, .inl (kB, 16, .inl fb))] s.heap.size = A at hD ⊢
  have hA : ∀ q : Nat, s.heap.size ≤ q → A q := fun q h => by rw [← hAe]; exact Or.inr h
  have hS : va_S A s.heap s.heap [] := va_S.rf
  have hl := lv_entry ([.ref y, .int 0, .int 1]) (n := 3) (Nat.le_of_ble_eq_true rfl)
  rw [lg_entry_eq]
  generalize (lg_sl ([.ref y, .int 0, .int 1]) ++ List.replicate (3 - (lg_sl ([.ref y, .int 0, .int 1])).length) Slot.unset).toArray = ls at hl ⊢
  have hl : lv_has ls 3 [(0, .ref y), (1, .int 0), (2, .int 1)] := hl
  refine lv_aload_n hx hb dJ5_shift_df160_0 rfl (lv_at hl 0 rfl) ?_
  refine va_get (D := (dC, dI)) (ci := 1) (v := .ref bv) (C := RJ4) (T := TJ4) (N := 4) hx hb hts (fun _ h9 => List.mem_cons_of_mem _ (List.mem_append_right _ (h9))) hown hK hP 0 rfl rfl 0 (by decide) (hts (.fieldLink RJ5 15 "java/lang/AbstractStringBuilder" "value" "[B") (List.mem_of_getElem? (i := 1) rfl)) (fun _ h9 => h9) rfl dJ5_shift_df160_1 ?_
  refine lv_iload_n hx hb dJ5_shift_df160_4 rfl (lv_at hl 1 rfl) ?_
  refine lv_aload_n hx hb dJ5_shift_df160_5 rfl (lv_at hl 0 rfl) ?_
  refine va_get (D := (dC, dI)) (ci := 1) (v := .int 0) (C := RJ4) (T := TJ4) (N := 4) hx hb hts (fun _ h9 => List.mem_cons_of_mem _ (List.mem_append_right _ (h9))) hown hK hP 0 rfl rfl 1 (by decide) (hts (.fieldLink RJ5 22 "java/lang/AbstractStringBuilder" "coder" "B") (List.mem_of_getElem? (i := 2) rfl)) (fun _ h9 => h9) rfl dJ5_shift_df160_6 ?_
  refine lv_ishl hx hb dJ5_shift_df160_9 ?_
  refine lv_topi (fun f_1 ef_1 => ?_)
  obtain rfl : f_1 = 0 := ef_1.trans (by decide)
  refine lv_aload_n hx hb dJ5_shift_df160_10 rfl (lv_at hl 0 rfl) ?_
  refine va_get (D := (dC, dI)) (ci := 1) (v := .ref bv) (C := RJ4) (T := TJ4) (N := 4) hx hb hts (fun _ h9 => List.mem_cons_of_mem _ (List.mem_append_right _ (h9))) hown hK hP 0 rfl rfl 0 (by decide) (hts (.fieldLink RJ5 15 "java/lang/AbstractStringBuilder" "value" "[B") (List.mem_of_getElem? (i := 1) rfl)) (fun _ h9 => h9) rfl dJ5_shift_df160_11 ?_
  refine lv_iload_n hx hb dJ5_shift_df160_14 rfl (lv_at hl 1 rfl) ?_
  refine lv_iload_n hx hb dJ5_shift_df160_15 rfl (lv_at hl 2 rfl) ?_
  refine lv_iadd hx hb dJ5_shift_df160_16 ?_
  refine lv_topi (fun f_2 ef_2 => ?_)
  obtain rfl : f_2 = 1 := ef_2.trans (by decide)
  refine lv_aload_n hx hb dJ5_shift_df160_17 rfl (lv_at hl 0 rfl) ?_
  refine va_get (D := (dC, dI)) (ci := 1) (v := .int 0) (C := RJ4) (T := TJ4) (N := 4) hx hb hts (fun _ h9 => List.mem_cons_of_mem _ (List.mem_append_right _ (h9))) hown hK hP 0 rfl rfl 1 (by decide) (hts (.fieldLink RJ5 22 "java/lang/AbstractStringBuilder" "coder" "B") (List.mem_of_getElem? (i := 2) rfl)) (fun _ h9 => h9) rfl dJ5_shift_df160_18 ?_
  refine lv_ishl hx hb dJ5_shift_df160_21 ?_
  refine lv_topi (fun f_3 ef_3 => ?_)
  obtain rfl : f_3 = 1 := ef_3.trans (by decide)
  refine lv_aload_n hx hb dJ5_shift_df160_22 rfl (lv_at hl 0 rfl) ?_
  refine va_get (D := (dC, dI)) (ci := 1) (v := .int 7) (C := RJ4) (T := TJ4) (N := 4) hx hb hts (fun _ h9 => List.mem_cons_of_mem _ (List.mem_append_right _ (h9))) hown hK hP 0 rfl rfl 3 (by decide) (hts (.fieldLink RJ5 79 "java/lang/AbstractStringBuilder" "count" "I") (List.mem_of_getElem? (i := 3) rfl)) (fun _ h9 => h9) rfl dJ5_shift_df160_23 ?_
  refine lv_iload_n hx hb dJ5_shift_df160_26 rfl (lv_at hl 1 rfl) ?_
  refine lv_isub hx hb dJ5_shift_df160_27 ?_
  refine lv_topi (fun f_4 ef_4 => ?_)
  obtain rfl : f_4 = 7 := ef_4.trans (by decide)
  refine lv_aload_n hx hb dJ5_shift_df160_28 rfl (lv_at hl 0 rfl) ?_
  refine va_get (D := (dC, dI)) (ci := 1) (v := .int 0) (C := RJ4) (T := TJ4) (N := 4) hx hb hts (fun _ h9 => List.mem_cons_of_mem _ (List.mem_append_right _ (h9))) hown hK hP 0 rfl rfl 1 (by decide) (hts (.fieldLink RJ5 22 "java/lang/AbstractStringBuilder" "coder" "B") (List.mem_of_getElem? (i := 2) rfl)) (fun _ h9 => h9) rfl dJ5_shift_df160_29 ?_
  refine lv_ishl hx hb dJ5_shift_df160_32 ?_
  refine lv_topi (fun f_5 ef_5 => ?_)
  obtain rfl : f_5 = 7 := ef_5.trans (by decide)
  refine va_copyi (ty := .byte) hx hb (hml.trans hl.1.symm) hown (hts (.methodLink RJ5 309 arraycopyName) (List.mem_of_getElem? (i := 4) rfl)) (hts (.native arraycopyName) (List.mem_of_getElem? (i := 5) rfl)) (hts (.static arraycopyName) (List.mem_of_getElem? (i := 6) rfl)) (hts (.initialized "java/lang/System") (List.mem_of_getElem? (i := 7) rfl)) hK hP hD hS 1 1 0 0 rfl rfl rfl rfl rfl (sp := 0) (dp := 1) (n := 7) (by decide) (by decide) (by decide) (by decide) (by decide) (fun i _ => hfb _) (Nat.le_of_ble_eq_true rfl) (Nat.le_of_ble_eq_true rfl) dJ5_shift_df160_33 (fun H locs hP hD hS => ?_)
  have hP : va_P (dC, dI) vwCl [(y, .inr (1, [.ref bv, .int 0, .int 0, .int 7])), (bv, .inl (kB, 16, .inl (va_cpy fb fb (0 : Int32).toNatClampNeg (1 : Int32).toNatClampNeg (7 : Int32).toNatClampNeg)))] H := hP
  have hD : va_D A [(y, .inr (1, [.ref bv, .int 0, .int 0, .int 7])), (bv, .inl (kB, 16, .inl (va_cpy fb fb (0 : Int32).toNatClampNeg (1 : Int32).toNatClampNeg (7 : Int32).toNatClampNeg)))] := hD
  have ha_6 : sb_Fit (va_cpy fb fb (0 : Int32).toNatClampNeg (1 : Int32).toNatClampNeg (7 : Int32).toNatClampNeg) := sb_fitC hfb hfb
  generalize (va_cpy fb fb (0 : Int32).toNatClampNeg (1 : Int32).toNatClampNeg (7 : Int32).toNatClampNeg) = a_6 at hP hD ha_6
  have hP9 := hP.sub (ws' := [(y, .inr (1, [.ref bv, .int 0, .int 0, .int 7])), (bv, .inl (kB, 16, .inl a_6))]) [0, 1] rfl
  have hD9 := hD.sub (ws' := [(y, .inr (1, [.ref bv, .int 0, .int 0, .int 7])), (bv, .inl (kB, 16, .inl a_6))]) [0, 1] (by decide) rfl
  have hK9 := hK.sub (tys' := [(kB, .byte)]) [0] rfl
  exact W.vret hx hb hr (fun t ht hW => ⟨⟨(), rfl, trivial, a_6, by rw [ht]; exact hP9, va_K.moved hW.alike hK9, hD9, ha_6⟩, hS.F ht⟩) hS.2.2 dJ5_shift_df160_36

set_option maxHeartbeats 4000000 in
set_option maxRecDepth 100000 in
theorem c_SB_insA7 (l : Launch) (dC : Nat → ClassId) (dI : Nat → Nat → Nat) (d : Nat) (tc : Nat) (ad : Nat → Nat) (y : Nat) (bv : Nat) (kB : ClassId) (fb : Nat → Int32) (ch : Int32) (sz : Nat) (hfb : sb_Fit fb) (hce : ¬ sp_J_canEncode ch = 0) : Met l yJ5_insert_00e82 wsJ5_insert_00e82 ({ frames := 2, cells := 0, slots := 0, locals := 102 }) (va_Pc [.ref y, .int 0, .int ch] (PZ dC dI d tc ad sz [(y, .inr (1, [.ref bv, .int 0, .int 0, .int 7])), (bv, .inl (kB, 16, .inl fb))] [(kB, .byte)])) (va_Qr (fun _ : Unit => True) (fun _ ra t => ∃ (fz : Nat → Int32), va_P (dC, dI) vwCl [(y, .inr (1, [.ref bv, .int 0, .int 0, .int 8])), (bv, .inl (kB, 16, .inl fz))] t.heap ∧ va_K (dC, dI) vwCl [(kB, .byte)] t ∧ va_D (va_A [(y, .inr (1, [.ref bv, .int 0, .int 0, .int 7])), (bv, .inl (kB, 16, .inl fb))] sz) [(y, .inr (1, [.ref bv, .int 0, .int 0, .int 8])), (bv, .inl (kB, 16, .inl fz))] ∧ ra = y ∧ sb_Fit fz) (va_A [(y, .inr (1, [.ref bv, .int 0, .int 0, .int 7])), (bv, .inl (kB, 16, .inl fb))] sz)) 0 0 (va_A [(y, .inr (1, [.ref bv, .int 0, .int 0, .int 7])), (bv, .inl (kB, 16, .inl fb))] sz) := by
  refine Met.ofW (cc := cJ5_insert_00e82) (maxL := 3) (ret := (some (.object "java/lang/AbstractStringBuilder"))) (by decide) rfl ?_
  intro p e s m args below meth c s₁ B hml hv
  obtain ⟨rfl, hsz, hP, hK, hD0, hF, hZ⟩ := hv
  have hx := B.exec
  have hb := B.bytes
  have hr := B.returns
  have hts := atoms_spec (ws := wsJ5_insert_00e82) B.pre
  have hown : s.vm.findClass RJ5 = some m.cls := findClass_of_methodNamed B.named
  have hlocks := B.notSynchronized
  subst hsz
  have hD := hD0.self (sz := s.heap.size)
  generalize hAe : va_A [(y, .inr (1, [.ref bv, .int 0, .int 0, .int 7])), (bv, .inl (kB, 16, .inl fb))] s.heap.size = A at hD hZ ⊢
  have hA : ∀ q : Nat, s.heap.size ≤ q → A q := fun q h => by rw [← hAe]; exact Or.inr h
  have hS : va_S A s.heap s.heap [] := va_S.rf
  have hl := lv_entry ([.ref y, .int 0, .int ch]) (n := 3) (Nat.le_of_ble_eq_true rfl)
  rw [lg_entry_eq]
  generalize (lg_sl ([.ref y, .int 0, .int ch]) ++ List.replicate (3 - (lg_sl ([.ref y, .int 0, .int ch])).length) Slot.unset).toArray = ls at hl ⊢
  have hl : lv_has ls 3 [(0, .ref y), (1, .int 0), (2, .int ch)] := hl
  refine lv_iload_n hx hb dJ5_insert_00e82_0 rfl (lv_at hl 1 rfl) ?_
  refine lv_aload_n hx hb dJ5_insert_00e82_1 rfl (lv_at hl 0 rfl) ?_
  refine va_get (D := (dC, dI)) (ci := 1) (v := .int 7) (C := RJ4) (T := TJ4) (N := 4) hx hb hts (fun _ h9 => List.mem_cons_of_mem _ (List.mem_append_right _ (h9))) hown hK hP 0 rfl rfl 3 (by decide) (hts (.fieldLink RJ5 79 "java/lang/AbstractStringBuilder" "count" "I") (List.mem_of_getElem? (i := 1) rfl)) (fun _ h9 => h9) rfl dJ5_insert_00e82_2 ?_
  refine va_csv (va_Run.run (va_runS (As := [.int 0, .int 7]) (rest := []) ⟨hx, hb, hml, hown, hts⟩ (c_Str_checkOffset l dC dI d tc ad 7 (by decide)) (va_cwS 2 hts gJ5_insert_00e82_J0_checkOffset_df160 rfl rfl rfl (by decide +kernel) ⟨Nat.le_of_ble_eq_true rfl, Nat.le_of_ble_eq_true rfl⟩) ⟨PY_blind, PY_pre (hP.sub (ws' := []) [] rfl) (hK.sub (tys' := []) [] rfl) hF hZ hS⟩ rfl rfl hl.1 rfl (lv_room (Nat.le_of_ble_eq_true rfl)) dJ5_insert_00e82_5 ⟨Nat.le_of_ble_eq_true rfl, Nat.le_of_ble_eq_true rfl⟩)) (fun _ => ?_)
  refine lv_aload_n hx hb dJ5_insert_00e82_8 rfl (lv_at hl 0 rfl) ?_
  refine lv_aload_n hx hb dJ5_insert_00e82_9 rfl (lv_at hl 0 rfl) ?_
  refine va_get (D := (dC, dI)) (ci := 1) (v := .int 7) (C := RJ4) (T := TJ4) (N := 4) hx hb hts (fun _ h9 => List.mem_cons_of_mem _ (List.mem_append_right _ (h9))) hown hK hP 0 rfl rfl 3 (by decide) (hts (.fieldLink RJ5 79 "java/lang/AbstractStringBuilder" "count" "I") (List.mem_of_getElem? (i := 1) rfl)) (fun _ h9 => h9) rfl dJ5_insert_00e82_10 ?_
  refine lv_iconst (v := 1) hx hb dJ5_insert_00e82_13 (by decide) ?_
  refine lv_iadd hx hb dJ5_insert_00e82_14 ?_
  refine lv_topi (fun f_2 ef_2 => ?_)
  obtain rfl : f_2 = 8 := ef_2.trans (by decide)
  refine va_csv (va_Run.run (va_runU (As := [.int 8]) (rest := []) ⟨hx, hb, hml, hown, hts⟩ (c_SB_ensure l dC dI y bv kB fb 7 8 (by decide)) (va_cwU 1 hts gJ5_insert_00e82_J5_ensureCapacityInternal_d00df_u100J4 rfl rfl rfl rfl (by decide +kernel) ⟨Nat.le_of_ble_eq_true rfl, Nat.le_of_ble_eq_true rfl⟩) ⟨PS_blind, va_recv hK hP (ci := 1) (q0 := 0) rfl rfl, PS_pre hP hK hF⟩ rfl rfl hl.1 rfl (lv_room (Nat.le_of_ble_eq_true rfl)) dJ5_insert_00e82_15 ⟨Nat.le_of_ble_eq_true rfl, Nat.le_of_ble_eq_true rfl⟩)) (fun _ => ?_)
  refine lv_aload_n hx hb dJ5_insert_00e82_18 rfl (lv_at hl 0 rfl) ?_
  refine lv_iload_n hx hb dJ5_insert_00e82_19 rfl (lv_at hl 1 rfl) ?_
  refine lv_iconst (v := 1) hx hb dJ5_insert_00e82_20 (by decide) ?_
  have hPc := hP.sub (ws' := [(y, .inr (1, [.ref bv, .int 0, .int 0, .int 7])), (bv, .inl (kB, 16, .inl fb))]) [0, 1] rfl
  have hDc := hD.sub (ws' := [(y, .inr (1, [.ref bv, .int 0, .int 0, .int 7])), (bv, .inl (kB, 16, .inl fb))]) [0, 1] (by decide) rfl
  have hKc := hK.sub (tys' := [(kB, .byte)]) [0] rfl
  have hFc := va_free (wc := [(y, .inr (1, [.ref bv, .int 0, .int 0, .int 7])), (bv, .inl (kB, 16, .inl fb))]) hD hS hA [0, 1] rfl
  refine va_callv (va_runU (As := [.int 0, .int 1]) (rest := []) ⟨hx, hb, hml, hown, hts⟩ (c_SB_shift7 l dC dI y bv kB fb s.heap.size hfb) (va_cwU 2 hts gJ5_insert_00e82_J5_shift_df160_u283J4 rfl rfl rfl rfl (by decide +kernel) ⟨Nat.le_of_ble_eq_true rfl, Nat.le_of_ble_eq_true rfl⟩) ⟨PQ_blind, va_recv hK hP (ci := 1) (q0 := 0) rfl rfl, PQ_pre hPc hKc hDc hF⟩ rfl rfl hl.1 rfl (lv_room (Nat.le_of_ble_eq_true rfl)) dJ5_insert_00e82_21 ⟨Nat.le_of_ble_eq_true rfl, Nat.le_of_ble_eq_true rfl⟩) hS (fun q _ h => hFc q h) hFc (fun u t H1 locs ht hvm hw hB hz1 hk1 hS => ?_)
  obtain ⟨fz_5, hP1, hK1, hD1, hx_6⟩ := hB
  rw [ht] at hP1
  have hK1 := va_K.moved hvm.symm hK1
  obtain ⟨hP, hD⟩ := va_join (wr := []) (w1 := [(y, .inr (1, [.ref bv, .int 0, .int 0, .int 7])), (bv, .inl (kB, 16, .inl fz_5))]) hP hD [0, 1] [] rfl rfl (by decide) (by decide) hk1 hFc hP1 hD1
  have hK := hK.app hK1
  generalize H1 = H at hP hS ⊢
  have hP : va_P (dC, dI) vwCl [(y, .inr (1, [.ref bv, .int 0, .int 0, .int 7])), (bv, .inl (kB, 16, .inl fz_5))] H := hP
  have hD : va_D A [(y, .inr (1, [.ref bv, .int 0, .int 0, .int 7])), (bv, .inl (kB, 16, .inl fz_5))] := hD
  have hK : va_K (dC, dI) vwCl [(kB, .byte), (kB, .byte)] s := hK
  refine W.widen (k := 0) (n := 0) (Nat.le_of_ble_eq_true rfl) (Nat.le_of_ble_eq_true rfl) ?_
  refine lv_aload_n hx hb dJ5_insert_00e82_24 rfl (lv_at hl 0 rfl) ?_
  refine lv_dup hx hb dJ5_insert_00e82_25 rfl ?_
  refine va_get (D := (dC, dI)) (ci := 1) (v := .int 7) (C := RJ4) (T := TJ4) (N := 4) hx hb hts (fun _ h9 => List.mem_cons_of_mem _ (List.mem_append_right _ (h9))) hown hK hP 0 rfl rfl 3 (by decide) (hts (.fieldLink RJ5 79 "java/lang/AbstractStringBuilder" "count" "I") (List.mem_of_getElem? (i := 1) rfl)) (fun _ h9 => h9) rfl dJ5_insert_00e82_26 ?_
  refine lv_iconst (v := 1) hx hb dJ5_insert_00e82_29 (by decide) ?_
  refine lv_iadd hx hb dJ5_insert_00e82_30 ?_
  refine lv_topi (fun f_7 ef_7 => ?_)
  obtain rfl : f_7 = 8 := ef_7.trans (by decide)
  refine va_put (D := (dC, dI)) (ci := 1) (v := .int 8) (ty := .int) (C := RJ4) (T := TJ4) (N := 4) hx hb hts (fun _ h9 => List.mem_cons_of_mem _ (List.mem_append_right _ (h9))) tyJ4 tyJ4_ok nmJ4 hown hK hP hD hS 0 rfl rfl 3 (by decide) (hts (.fieldLink RJ5 79 "java/lang/AbstractStringBuilder" "count" "I") (List.mem_of_getElem? (i := 1) rfl)) (fun _ h9 => h9) rfl (by decide +kernel) rfl rfl (Nat.le_of_ble_eq_true rfl) dJ5_insert_00e82_31 (fun H locs hP hD hS => ?_)
  have hP : va_P (dC, dI) vwCl [(y, .inr (1, [.ref bv, .int 0, .int 0, .int 8])), (bv, .inl (kB, 16, .inl fz_5))] H := hP
  have hD : va_D A [(y, .inr (1, [.ref bv, .int 0, .int 0, .int 8])), (bv, .inl (kB, 16, .inl fz_5))] := hD
  refine lv_aload_n hx hb dJ5_insert_00e82_34 rfl (lv_at hl 0 rfl) ?_
  refine vp_callSi (va_Run.run (va_runU (As := []) (rest := []) ⟨hx, hb, hml, hown, hts⟩ (c_SB_isLatin1 l dC dI d tc ad y bv 8) (va_cwU 0 hts gJ5_insert_00e82_J5_isLatin1_aae02_u83J4 rfl rfl rfl rfl (by decide +kernel) ⟨Nat.le_of_ble_eq_true rfl, Nat.le_of_ble_eq_true rfl⟩) ⟨PY_blind, va_recv hK hP (ci := 1) (q0 := 0) rfl rfl, PY_pre (hP.sub (ws' := [(y, .inr (1, [.ref bv, .int 0, .int 0, .int 8]))]) [0] rfl) (hK.sub (tys' := []) [] rfl) hF hZ hS⟩ rfl rfl hl.1 rfl (lv_room (Nat.le_of_ble_eq_true rfl)) dJ5_insert_00e82_35 ⟨Nat.le_of_ble_eq_true rfl, Nat.le_of_ble_eq_true rfl⟩)) (fun r_8 hr_8 => ?_)
  subst hr_8
  refine lv_if_eq (tgt := 59) hx hb dJ5_insert_00e82_38 (by decide) (fun c_9 => absurd c_9 (by decide)) (fun _ => ?_)
  refine lv_iload_n hx hb dJ5_insert_00e82_41 rfl (lv_at hl 2 rfl) ?_
  refine vp_callSi (va_Run.run (va_runS (As := [.int ch]) (rest := []) ⟨hx, hb, hml, hown, hts⟩ (c_J_canEncode l dC dI ch) (va_cwS 1 hts gJ5_insert_00e82_J1_canEncode_fc78d rfl rfl rfl (by decide +kernel) ⟨Nat.le_of_ble_eq_true rfl, Nat.le_of_ble_eq_true rfl⟩) ⟨PS_blind, PS_pre (hP.sub (ws' := []) [] rfl) (hK.sub (tys' := []) [] rfl) hF⟩ rfl rfl hl.1 rfl (lv_room (Nat.le_of_ble_eq_true rfl)) dJ5_insert_00e82_42 ⟨Nat.le_of_ble_eq_true rfl, Nat.le_of_ble_eq_true rfl⟩)) (fun r_10 hr_10 => ?_)
  subst hr_10
  refine lv_if_eq (tgt := 59) hx hb dJ5_insert_00e82_45 (by decide) (fun c_11 => absurd c_11 hce) (fun _ => ?_)
  refine lv_aload_n hx hb dJ5_insert_00e82_48 rfl (lv_at hl 0 rfl) ?_
  refine va_get (D := (dC, dI)) (ci := 1) (v := .ref bv) (C := RJ4) (T := TJ4) (N := 4) hx hb hts (fun _ h9 => List.mem_cons_of_mem _ (List.mem_append_right _ (h9))) hown hK hP 0 rfl rfl 0 (by decide) (hts (.fieldLink RJ5 15 "java/lang/AbstractStringBuilder" "value" "[B") (List.mem_of_getElem? (i := 2) rfl)) (fun _ h9 => h9) rfl dJ5_insert_00e82_49 ?_
  refine lv_iload_n hx hb dJ5_insert_00e82_52 rfl (lv_at hl 1 rfl) ?_
  refine lv_iload_n hx hb dJ5_insert_00e82_53 rfl (lv_at hl 2 rfl) ?_
  refine lv_i2b hx hb dJ5_insert_00e82_54 rfl ?_
  refine va_bast hx hb hK hP hD hS 1 0 rfl rfl (by unfold vp_in; decide) dJ5_insert_00e82_55 (fun H locs hP hD hS => ?_)
  have hP : va_P (dC, dI) vwCl [(y, .inr (1, [.ref bv, .int 0, .int 0, .int 8])), (bv, .inl (kB, 16, .inl (upd fz_5 (0 : Int32).toNatClampNeg (vp_nar .byte ((ch).toInt8.toInt32)))))] H := hP
  have hD : va_D A [(y, .inr (1, [.ref bv, .int 0, .int 0, .int 8])), (bv, .inl (kB, 16, .inl (upd fz_5 (0 : Int32).toNatClampNeg (vp_nar .byte ((ch).toInt8.toInt32)))))] := hD
  have ha_12 : sb_Fit (upd fz_5 (0 : Int32).toNatClampNeg (vp_nar .byte ((ch).toInt8.toInt32))) := sb_fitU hx_6 (by rw [vp_nar_byte]; exact pk_fb _)
  generalize (upd fz_5 (0 : Int32).toNatClampNeg (vp_nar .byte ((ch).toInt8.toInt32))) = a_12 at hP hD ha_12
  refine lv_goto (tgt := 79) hx hb dJ5_insert_00e82_56 (by decide) ?_
  refine lv_aload_n hx hb dJ5_insert_00e82_79 rfl (lv_at hl 0 rfl) ?_
  have hP9 := hP.sub (ws' := [(y, .inr (1, [.ref bv, .int 0, .int 0, .int 8])), (bv, .inl (kB, 16, .inl a_12))]) [0, 1] rfl
  have hD9 := hD.sub (ws' := [(y, .inr (1, [.ref bv, .int 0, .int 0, .int 8])), (bv, .inl (kB, 16, .inl a_12))]) [0, 1] (by decide) rfl
  have hK9 := hK.sub (tys' := [(kB, .byte)]) [0] rfl
  exact W.aret (v := .ref y) hx hb hr (Or.inl ⟨_, rfl⟩) (Or.inr ⟨_, rfl⟩) (fun t ht hW => ⟨⟨(), _, rfl, trivial, a_12, by rw [ht]; exact hP9, va_K.moved hW.alike hK9, hD9, rfl, ha_12⟩, hS.F ht⟩) hS.2.2 dJ5_insert_00e82_80

set_option maxHeartbeats 4000000 in
set_option maxRecDepth 100000 in
theorem c_SB_ins7 (l : Launch) (dC : Nat → ClassId) (dI : Nat → Nat → Nat) (d : Nat) (tc : Nat) (ad : Nat → Nat) (y : Nat) (bv : Nat) (kB : ClassId) (fb : Nat → Int32) (ch : Int32) (sz : Nat) (hfb : sb_Fit fb) (hce : ¬ sp_J_canEncode ch = 0) : Met l yJ4_insert_a3ee8 wsJ4_insert_a3ee8 ({ frames := 3, cells := 0, slots := 0, locals := 124 }) (va_Pc [.ref y, .int 0, .int ch] (PZ dC dI d tc ad sz [(y, .inr (1, [.ref bv, .int 0, .int 0, .int 7])), (bv, .inl (kB, 16, .inl fb))] [(kB, .byte)])) (va_Qr (fun _ : Unit => True) (fun _ ra t => ∃ (fz : Nat → Int32), va_P (dC, dI) vwCl [(y, .inr (1, [.ref bv, .int 0, .int 0, .int 8])), (bv, .inl (kB, 16, .inl fz))] t.heap ∧ va_K (dC, dI) vwCl [(kB, .byte)] t ∧ va_D (va_A [(y, .inr (1, [.ref bv, .int 0, .int 0, .int 7])), (bv, .inl (kB, 16, .inl fb))] sz) [(y, .inr (1, [.ref bv, .int 0, .int 0, .int 8])), (bv, .inl (kB, 16, .inl fz))] ∧ ra = y ∧ sb_Fit fz) (va_A [(y, .inr (1, [.ref bv, .int 0, .int 0, .int 7])), (bv, .inl (kB, 16, .inl fb))] sz)) 0 0 (va_A [(y, .inr (1, [.ref bv, .int 0, .int 0, .int 7])), (bv, .inl (kB, 16, .inl fb))] sz) := by
  refine Met.ofW (cc := cJ4_insert_a3ee8) (maxL := 3) (ret := (some (.object "java/lang/StringBuilder"))) (by decide) rfl ?_
  intro p e s m args below meth c s₁ B hml hv
  obtain ⟨rfl, hsz, hP, hK, hD0, hF, hZ⟩ := hv
  have hx := B.exec
  have hb := B.bytes
  have hr := B.returns
  have hts := atoms_spec (ws := wsJ4_insert_a3ee8) B.pre
  have hown : s.vm.findClass RJ4 = some m.cls := findClass_of_methodNamed B.named
  have hlocks := B.notSynchronized
  subst hsz
  have hD := hD0.self (sz := s.heap.size)
  generalize hAe : va_A [(y, .inr (1, [.ref bv, .int 0, .int 0, .int 7])), (bv, .inl (kB, 16, .inl fb))] s.heap.size = A at hD hZ ⊢
  have hA : ∀ q : Nat, s.heap.size ≤ q → A q := fun q h => by rw [← hAe]; exact Or.inr h
  have hS : va_S A s.heap s.heap [] := va_S.rf
  have hl := lv_entry ([.ref y, .int 0, .int ch]) (n := 3) (Nat.le_of_ble_eq_true rfl)
  rw [lg_entry_eq]
  generalize (lg_sl ([.ref y, .int 0, .int ch]) ++ List.replicate (3 - (lg_sl ([.ref y, .int 0, .int ch])).length) Slot.unset).toArray = ls at hl ⊢
  have hl : lv_has ls 3 [(0, .ref y), (1, .int 0), (2, .int ch)] := hl
  refine lv_aload_n hx hb dJ4_insert_a3ee8_0 rfl (lv_at hl 0 rfl) ?_
  refine lv_iload_n hx hb dJ4_insert_a3ee8_1 rfl (lv_at hl 1 rfl) ?_
  refine lv_iload_n hx hb dJ4_insert_a3ee8_2 rfl (lv_at hl 2 rfl) ?_
  have hPc := hP.sub (ws' := [(y, .inr (1, [.ref bv, .int 0, .int 0, .int 7])), (bv, .inl (kB, 16, .inl fb))]) [0, 1] rfl
  have hDc := hD.sub (ws' := [(y, .inr (1, [.ref bv, .int 0, .int 0, .int 7])), (bv, .inl (kB, 16, .inl fb))]) [0, 1] (by decide) rfl
  have hKc := hK.sub (tys' := [(kB, .byte)]) [0] rfl
  have hFc := va_free (wc := [(y, .inr (1, [.ref bv, .int 0, .int 0, .int 7])), (bv, .inl (kB, 16, .inl fb))]) hD hS hA [0, 1] rfl
  refine va_callr (va_runSU (hK.1 1 _ rfl).2 (As := [.int 0, .int ch]) (rest := []) ⟨hx, hb, hml, hown, hts⟩ (c_SB_insA7 l dC dI d tc ad y bv kB fb ch s.heap.size hfb hce) (va_cwSU 2 hts gJ4_insert_a3ee8_J5_insert_00e82_s101 rfl rfl rfl (by decide +kernel) ⟨Nat.le_of_ble_eq_true rfl, Nat.le_of_ble_eq_true rfl⟩) ⟨PZ_blind, va_recv hK hP (ci := 1) (q0 := 0) rfl rfl, PZ_pre hPc hKc hDc hF hZ hS hFc⟩ rfl rfl hl.1 rfl (lv_room (Nat.le_of_ble_eq_true rfl)) dJ4_insert_a3ee8_3 ⟨Nat.le_of_ble_eq_true rfl, Nat.le_of_ble_eq_true rfl⟩) hS (fun q _ h => hFc q h) hFc (fun u r_1 t H1 locs ht hvm hw hB hz1 hk1 hS => ?_)
  obtain ⟨fz_2, hP1, hK1, hD1, hx_3, hx_4⟩ := hB
  rw [ht] at hP1
  have hK1 := va_K.moved hvm.symm hK1
  obtain ⟨hP, hD⟩ := va_join (wr := []) (w1 := [(y, .inr (1, [.ref bv, .int 0, .int 0, .int 8])), (bv, .inl (kB, 16, .inl fz_2))]) hP hD [0, 1] [] rfl rfl (by decide) (by decide) hk1 hFc hP1 hD1
  have hK := hK.app hK1
  generalize H1 = H at hP hS ⊢
  have hP : va_P (dC, dI) vwCl [(y, .inr (1, [.ref bv, .int 0, .int 0, .int 8])), (bv, .inl (kB, 16, .inl fz_2))] H := hP
  have hD : va_D A [(y, .inr (1, [.ref bv, .int 0, .int 0, .int 8])), (bv, .inl (kB, 16, .inl fz_2))] := hD
  have hK : va_K (dC, dI) vwCl [(kB, .byte), (kB, .byte)] s := hK
  refine W.widen (k := 0) (n := 0) (Nat.le_of_ble_eq_true rfl) (Nat.le_of_ble_eq_true rfl) ?_
  refine lv_pop hx hb dJ4_insert_a3ee8_6 rfl ?_
  refine lv_aload_n hx hb dJ4_insert_a3ee8_7 rfl (lv_at hl 0 rfl) ?_
  have hP9 := hP.sub (ws' := [(y, .inr (1, [.ref bv, .int 0, .int 0, .int 8])), (bv, .inl (kB, 16, .inl fz_2))]) [0, 1] rfl
  have hD9 := hD.sub (ws' := [(y, .inr (1, [.ref bv, .int 0, .int 0, .int 8])), (bv, .inl (kB, 16, .inl fz_2))]) [0, 1] (by decide) rfl
  have hK9 := hK.sub (tys' := [(kB, .byte)]) [0] rfl
  exact W.aret (v := .ref y) hx hb hr (Or.inl ⟨_, rfl⟩) (Or.inr ⟨_, rfl⟩) (fun t ht hW => ⟨⟨(), _, rfl, trivial, fz_2, by rw [ht]; exact hP9, va_K.moved hW.alike hK9, hD9, rfl, hx_4⟩, hS.F ht⟩) hS.2.2 dJ4_insert_a3ee8_8

set_option maxHeartbeats 4000000 in
set_option maxRecDepth 100000 in
theorem c_Arr_corb1 (l : Launch) (dC : Nat → ClassId) (dI : Nat → Nat → Nat) (bv : Nat) (kB : ClassId) (fb : Nat → Int32) (sz : Nat) (hfb : sb_Fit fb) : Met l yJ7_copyOfRangeByte_39247 wsJ7_copyOfRangeByte_39247 ({ frames := 1, cells := 1, slots := 1, locals := 80 }) (va_Pc [.ref bv, .int 0, .int 1] (PQ dC dI sz [(bv, .inl (kB, 16, .inl fb))] [(kB, .byte)])) (va_Qr (fun _ : Unit => True) (fun _ ra t => ∃ (kN : ClassId) (fz : Nat → Int32), va_P (dC, dI) vwCl [(bv, .inl (kB, 16, .inl fb)), (ra, .inl (kN, 1, .inl fz))] t.heap ∧ va_K (dC, dI) vwCl [(kB, .byte), (kN, .byte)] t ∧ va_D (va_A [(bv, .inl (kB, 16, .inl fb))] sz) [(bv, .inl (kB, 16, .inl fb)), (ra, .inl (kN, 1, .inl fz))]) (va_A [(bv, .inl (kB, 16, .inl fb))] sz)) 1 1 (va_A [(bv, .inl (kB, 16, .inl fb))] sz) := by
  refine Met.ofW (cc := cJ7_copyOfRangeByte_39247) (maxL := 5) (ret := (some (.array .byte))) (by decide) rfl ?_
  intro p e s m args below meth c s₁ B hml hv
  obtain ⟨rfl, hsz, hP, hK, hD0, hF⟩ := hv
  have hx := B.exec
  have hb := B.bytes
  have hr := B.returns
  have hts := atoms_spec (ws := wsJ7_copyOfRangeByte_39247) B.pre
  have hown : s.vm.findClass RJ7 = some m.cls := findClass_of_methodNamed B.named
  have hlocks := B.notSynchronized
  subst hsz
  have hD := hD0.self (sz := s.heap.size)
  generalize hAe : va_A [(bv, .inl (kB, 16, .inl fb))] s.heap.size = A at hD ⊢
  have hA : ∀ q : Nat, s.heap.size ≤ q → A q := fun q h => by rw [← hAe]; exact Or.inr h
  have hS : va_S A s.heap s.heap [] := va_S.rf
  have hl := lv_entry ([.ref bv, .int 0, .int 1]) (n := 5) (Nat.le_of_ble_eq_true rfl)
  rw [lg_entry_eq]
  generalize (lg_sl ([.ref bv, .int 0, .int 1]) ++ List.replicate (5 - (lg_sl ([.ref bv, .int 0, .int 1])).length) Slot.unset).toArray = ls at hl ⊢
  have hl : lv_has ls 5 [(0, .ref bv), (1, .int 0), (2, .int 1)] := hl
  refine lv_iload_n hx hb dJ7_copyOfRangeByte_39247_0 rfl (lv_at hl 1 rfl) ?_
  refine lv_iload_n hx hb dJ7_copyOfRangeByte_39247_1 rfl (lv_at hl 2 rfl) ?_
  refine va_csv (va_Run.run (va_runS (As := [.int 0, .int 1]) (rest := []) ⟨hx, hb, hml, hown, hts⟩ (c_Arr_checkLength l dC dI 0 1 (by decide)) (va_cwS 2 hts gJ7_copyOfRangeByte_39247_J7_checkLength_df160 rfl rfl rfl (by decide +kernel) ⟨Nat.le_of_ble_eq_true rfl, Nat.le_of_ble_eq_true rfl⟩) ⟨PS_blind, PS_pre (hP.sub (ws' := []) [] rfl) (hK.sub (tys' := []) [] rfl) hF⟩ rfl rfl hl.1 rfl (lv_room (Nat.le_of_ble_eq_true rfl)) dJ7_copyOfRangeByte_39247_2 ⟨Nat.le_of_ble_eq_true rfl, Nat.le_of_ble_eq_true rfl⟩)) (fun _ => ?_)
  refine lv_iload_n hx hb dJ7_copyOfRangeByte_39247_5 rfl (lv_at hl 2 rfl) ?_
  refine lv_iload_n hx hb dJ7_copyOfRangeByte_39247_6 rfl (lv_at hl 1 rfl) ?_
  refine lv_isub hx hb dJ7_copyOfRangeByte_39247_7 ?_
  refine lv_topi (fun f_2 ef_2 => ?_)
  obtain rfl : f_2 = 1 := ef_2.trans (by decide)
  refine lv_istore_n (lv' := [(3, .int 1), (0, .ref bv), (1, .int 0), (2, .int 1)]) hx hb dJ7_copyOfRangeByte_39247_8 rfl hl (by decide) rfl (fun ls hl => ?_)
  refine lv_iload_n hx hb dJ7_copyOfRangeByte_39247_9 rfl (lv_at hl 0 rfl) ?_
  refine va_newa (atype := .byte) (ty := .byte) (a0 := (1, (.inl (fun _ => 0)))) hx hb (hts (.arrayClass .byte) (List.mem_of_getElem? (i := 1) rfl)) rfl hK hP hD hS hA (fun _ => rfl) (by decide) (by decide) (Nat.le_of_ble_eq_true rfl) (Nat.le_of_ble_eq_true rfl) (Nat.le_of_ble_eq_true rfl) dJ7_copyOfRangeByte_39247_10 (fun q_3 k_4 H hK hP hD hS => ?_)
  have hP : va_P (dC, dI) vwCl [(bv, .inl (kB, 16, .inl fb)), (q_3, .inl (k_4, 1, .inl (fun _ => 0)))] H := hP
  have hD : va_D A [(bv, .inl (kB, 16, .inl fb)), (q_3, .inl (k_4, 1, .inl (fun _ => 0)))] := hD
  have hK : va_K (dC, dI) vwCl [(kB, .byte), (k_4, .byte)] s := hK
  refine W.widen (k := 1) (n := 1) (Nat.le_of_ble_eq_true rfl) (Nat.le_of_ble_eq_true rfl) ?_
  refine lv_astore (lv' := [(4, .ref q_3), (3, .int 1), (0, .ref bv), (1, .int 0), (2, .int 1)]) hx hb dJ7_copyOfRangeByte_39247_12 hl (by decide) rfl (fun ls hl => ?_)
  refine lv_aload_n hx hb dJ7_copyOfRangeByte_39247_14 rfl (lv_at hl 2 rfl) ?_
  refine lv_iload_n hx hb dJ7_copyOfRangeByte_39247_15 rfl (lv_at hl 3 rfl) ?_
  refine lv_aload hx hb dJ7_copyOfRangeByte_39247_16 (lv_at hl 0 rfl) ?_
  refine lv_iconst (v := 0) hx hb dJ7_copyOfRangeByte_39247_18 (by decide) ?_
  refine lv_aload_n hx hb dJ7_copyOfRangeByte_39247_19 rfl (lv_at hl 2 rfl) ?_
  refine va_alen hx hb hK hP 0 0 rfl rfl (v := 16) rfl dJ7_copyOfRangeByte_39247_20 ?_
  refine lv_iload_n hx hb dJ7_copyOfRangeByte_39247_21 rfl (lv_at hl 3 rfl) ?_
  refine lv_isub hx hb dJ7_copyOfRangeByte_39247_22 ?_
  refine lv_topi (fun f_5 ef_5 => ?_)
  obtain rfl : f_5 = 16 := ef_5.trans (by decide)
  refine lv_iload_n hx hb dJ7_copyOfRangeByte_39247_23 rfl (lv_at hl 1 rfl) ?_
  refine va_mmin hx hb (hml.trans hl.1.symm) hown (hts (.methodLink RJ7 304 Lib.Math.min.name) (List.mem_of_getElem? (i := 2) rfl)) (hts (.static Lib.Math.min.name) (List.mem_of_getElem? (i := 3) rfl)) (hts (.initialized "java/lang/Math") (List.mem_of_getElem? (i := 4) rfl)) (hts (.code Lib.Math.min.name Lib.Math.min.code 2 (some .int)) (List.mem_of_getElem? (i := 5) rfl)) (Nat.le_of_ble_eq_true rfl) (Nat.le_of_ble_eq_true rfl) (Nat.le_of_ble_eq_true rfl) (Nat.le_of_ble_eq_true rfl) dJ7_copyOfRangeByte_39247_24 ?_
  refine lv_topi (fun f_6 ef_6 => ?_)
  obtain rfl : f_6 = 1 := ef_6.trans (by decide)
  refine va_copyi (ty := .byte) hx hb (hml.trans hl.1.symm) hown (hts (.methodLink RJ7 150 arraycopyName) (List.mem_of_getElem? (i := 6) rfl)) (hts (.native arraycopyName) (List.mem_of_getElem? (i := 7) rfl)) (hts (.static arraycopyName) (List.mem_of_getElem? (i := 8) rfl)) (hts (.initialized "java/lang/System") (List.mem_of_getElem? (i := 9) rfl)) hK hP hD hS 0 1 0 1 rfl rfl rfl rfl rfl (sp := 0) (dp := 0) (n := 1) (by decide) (by decide) (by decide) (by decide) (by decide) (fun i _ => hfb _) (Nat.le_of_ble_eq_true rfl) (Nat.le_of_ble_eq_true rfl) dJ7_copyOfRangeByte_39247_27 (fun H locs hP hD hS => ?_)
  have hP : va_P (dC, dI) vwCl [(bv, .inl (kB, 16, .inl fb)), (q_3, .inl (k_4, 1, .inl (va_cpy fb (fun _ => 0) (0 : Int32).toNatClampNeg (0 : Int32).toNatClampNeg (1 : Int32).toNatClampNeg)))] H := hP
  have hD : va_D A [(bv, .inl (kB, 16, .inl fb)), (q_3, .inl (k_4, 1, .inl (va_cpy fb (fun _ => 0) (0 : Int32).toNatClampNeg (0 : Int32).toNatClampNeg (1 : Int32).toNatClampNeg)))] := hD
  have ha_7 : sb_Fit (va_cpy fb (fun _ => 0) (0 : Int32).toNatClampNeg (0 : Int32).toNatClampNeg (1 : Int32).toNatClampNeg) := sb_fitC hfb sb_fit0
  generalize (va_cpy fb (fun _ => 0) (0 : Int32).toNatClampNeg (0 : Int32).toNatClampNeg (1 : Int32).toNatClampNeg) = a_7 at hP hD ha_7
  refine lv_aload hx hb dJ7_copyOfRangeByte_39247_30 (lv_at hl 0 rfl) ?_
  have hP9 := hP.sub (ws' := [(bv, .inl (kB, 16, .inl fb)), (q_3, .inl (k_4, 1, .inl a_7))]) [0, 1] rfl
  have hD9 := hD.sub (ws' := [(bv, .inl (kB, 16, .inl fb)), (q_3, .inl (k_4, 1, .inl a_7))]) [0, 1] (by decide) rfl
  have hK9 := hK.sub (tys' := [(kB, .byte), (k_4, .byte)]) [0, 1] rfl
  exact W.aret (v := .ref q_3) hx hb hr (Or.inr ⟨_, rfl⟩) (Or.inr ⟨_, rfl⟩) (fun t ht hW => ⟨⟨(), _, rfl, trivial, k_4, a_7, by rw [ht]; exact hP9, va_K.moved hW.alike hK9, hD9⟩, hS.F ht⟩) hS.2.2 dJ7_copyOfRangeByte_39247_32

set_option maxHeartbeats 4000000 in
set_option maxRecDepth 100000 in
theorem c_Arr_cor1 (l : Launch) (dC : Nat → ClassId) (dI : Nat → Nat → Nat) (bv : Nat) (kB : ClassId) (fb : Nat → Int32) (sz : Nat) (hfb : sb_Fit fb) : Met l yJ7_copyOfRange_39247 wsJ7_copyOfRange_39247 ({ frames := 2, cells := 1, slots := 1, locals := 104 }) (va_Pc [.ref bv, .int 0, .int 1] (PQ dC dI sz [(bv, .inl (kB, 16, .inl fb))] [(kB, .byte)])) (va_Qr (fun _ : Unit => True) (fun _ ra t => ∃ (kN : ClassId) (fz : Nat → Int32), va_P (dC, dI) vwCl [(bv, .inl (kB, 16, .inl fb)), (ra, .inl (kN, 1, .inl fz))] t.heap ∧ va_K (dC, dI) vwCl [(kB, .byte), (kN, .byte)] t ∧ va_D (va_A [(bv, .inl (kB, 16, .inl fb))] sz) [(bv, .inl (kB, 16, .inl fb)), (ra, .inl (kN, 1, .inl fz))]) (va_A [(bv, .inl (kB, 16, .inl fb))] sz)) 1 1 (va_A [(bv, .inl (kB, 16, .inl fb))] sz) := by
  refine Met.ofW (cc := cJ7_copyOfRange_39247) (maxL := 3) (ret := (some (.array .byte))) (by decide) rfl ?_
  intro p e s m args below meth c s₁ B hml hv
  obtain ⟨rfl, hsz, hP, hK, hD0, hF⟩ := hv
  have hx := B.exec
  have hb := B.bytes
  have hr := B.returns
  have hts := atoms_spec (ws := wsJ7_copyOfRange_39247) B.pre
  have hown : s.vm.findClass RJ7 = some m.cls := findClass_of_methodNamed B.named
  have hlocks := B.notSynchronized
  subst hsz
  have hD := hD0.self (sz := s.heap.size)
  generalize hAe : va_A [(bv, .inl (kB, 16, .inl fb))] s.heap.size = A at hD ⊢
  have hA : ∀ q : Nat, s.heap.size ≤ q → A q := fun q h => by rw [← hAe]; exact Or.inr h
  have hS : va_S A s.heap s.heap [] := va_S.rf
  have hl := lv_entry ([.ref bv, .int 0, .int 1]) (n := 3) (Nat.le_of_ble_eq_true rfl)
  rw [lg_entry_eq]
  generalize (lg_sl ([.ref bv, .int 0, .int 1]) ++ List.replicate (3 - (lg_sl ([.ref bv, .int 0, .int 1])).length) Slot.unset).toArray = ls at hl ⊢
  have hl : lv_has ls 3 [(0, .ref bv), (1, .int 0), (2, .int 1)] := hl
  refine lv_iload_n hx hb dJ7_copyOfRange_39247_0 rfl (lv_at hl 1 rfl) ?_
  refine lv_if_ne (tgt := 10) hx hb dJ7_copyOfRange_39247_1 (by decide) (fun c_1 => absurd (by decide) c_1) (fun _ => ?_)
  refine lv_iload_n hx hb dJ7_copyOfRange_39247_4 rfl (lv_at hl 2 rfl) ?_
  refine lv_aload_n hx hb dJ7_copyOfRange_39247_5 rfl (lv_at hl 0 rfl) ?_
  refine va_alen hx hb hK hP 0 0 rfl rfl (v := 16) rfl dJ7_copyOfRange_39247_6 ?_
  refine lv_icmp_eq (tgt := 17) hx hb dJ7_copyOfRange_39247_7 (by decide) (fun c_2 => absurd c_2 (by decide)) (fun _ => ?_)
  refine lv_aload_n hx hb dJ7_copyOfRange_39247_10 rfl (lv_at hl 0 rfl) ?_
  refine lv_iload_n hx hb dJ7_copyOfRange_39247_11 rfl (lv_at hl 1 rfl) ?_
  refine lv_iload_n hx hb dJ7_copyOfRange_39247_12 rfl (lv_at hl 2 rfl) ?_
  have hPc := hP.sub (ws' := [(bv, .inl (kB, 16, .inl fb))]) [0] rfl
  have hDc := hD.sub (ws' := [(bv, .inl (kB, 16, .inl fb))]) [0] (by decide) rfl
  have hKc := hK.sub (tys' := [(kB, .byte)]) [0] rfl
  have hFc := va_free (wc := [(bv, .inl (kB, 16, .inl fb))]) hD hS hA [0] rfl
  refine va_callr (va_runS (As := [.ref bv, .int 0, .int 1]) (rest := []) ⟨hx, hb, hml, hown, hts⟩ (c_Arr_corb1 l dC dI bv kB fb s.heap.size hfb) (va_cwS 3 hts gJ7_copyOfRange_39247_J7_copyOfRangeByte_39247 rfl rfl rfl (by decide +kernel) ⟨Nat.le_of_ble_eq_true rfl, Nat.le_of_ble_eq_true rfl⟩) ⟨PQ_blind, PQ_pre hPc hKc hDc hF⟩ rfl rfl hl.1 rfl (lv_room (Nat.le_of_ble_eq_true rfl)) dJ7_copyOfRange_39247_13 ⟨Nat.le_of_ble_eq_true rfl, Nat.le_of_ble_eq_true rfl⟩) hS (fun q _ h => hFc q h) hFc (fun u r_3 t H1 locs ht hvm hw hB hz1 hk1 hS => ?_)
  obtain ⟨kN_4, fz_5, hP1, hK1, hD1⟩ := hB
  rw [ht] at hP1
  have hK1 := va_K.moved hvm.symm hK1
  obtain ⟨hP, hD⟩ := va_join (wr := []) (w1 := [(bv, .inl (kB, 16, .inl fb)), (r_3, .inl (kN_4, 1, .inl fz_5))]) hP hD [0] [] rfl rfl (by decide) (by decide) hk1 hFc hP1 hD1
  have hK := hK.app hK1
  generalize H1 = H at hP hS ⊢
  have hP : va_P (dC, dI) vwCl [(bv, .inl (kB, 16, .inl fb)), (r_3, .inl (kN_4, 1, .inl fz_5))] H := hP
  have hD : va_D A [(bv, .inl (kB, 16, .inl fb)), (r_3, .inl (kN_4, 1, .inl fz_5))] := hD
  have hK : va_K (dC, dI) vwCl [(kB, .byte), (kB, .byte), (kN_4, .byte)] s := hK
  refine W.widen (k := 1) (n := 1) (Nat.le_of_ble_eq_true rfl) (Nat.le_of_ble_eq_true rfl) ?_
  have hP9 := hP.sub (ws' := [(bv, .inl (kB, 16, .inl fb)), (r_3, .inl (kN_4, 1, .inl fz_5))]) [0, 1] rfl
  have hD9 := hD.sub (ws' := [(bv, .inl (kB, 16, .inl fb)), (r_3, .inl (kN_4, 1, .inl fz_5))]) [0, 1] (by decide) rfl
  have hK9 := hK.sub (tys' := [(kB, .byte), (kN_4, .byte)]) [0, 2] rfl
  exact W.aret (v := .ref r_3) hx hb hr (Or.inr ⟨_, rfl⟩) (Or.inr ⟨_, rfl⟩) (fun t ht hW => ⟨⟨(), _, rfl, trivial, kN_4, fz_5, by rw [ht]; exact hP9, va_K.moved hW.alike hK9, hD9⟩, hS.F ht⟩) hS.2.2 dJ7_copyOfRange_39247_16

set_option maxHeartbeats 4000000 in
set_option maxRecDepth 100000 in
theorem c_Str_initV1 (l : Launch) (dC : Nat → ClassId) (dI : Nat → Nat → Nat) (d : Nat) (tc : Nat) (ad : Nat → Nat) (zs : Nat) (y : Nat) (bv : Nat) (kB : ClassId) (fb : Nat → Int32) (sz : Nat) (hfb : sb_Fit fb) : Met l yJ0_init_db425 wsJ0_init_db425 ({ frames := 3, cells := 1, slots := 1, locals := 126 }) (va_Pc [.ref zs, .ref y, .null] (PZ dC dI d tc ad sz [(zs, .inr (0, [.null, .int 0, .int 0, .int 0])), (y, .inr (1, [.ref bv, .int 0, .int 0, .int 1])), (bv, .inl (kB, 16, .inl fb))] [(kB, .byte)])) (va_Qv (fun _ : Unit => True) (fun _ t => ∃ (g2 : Nat), va_P (dC, dI) vwCl [(zs, .inr (0, [.ref g2, .int 0, .int 0, .int 0]))] t.heap ∧ va_K (dC, dI) vwCl [] t ∧ va_D (va_A [(zs, .inr (0, [.null, .int 0, .int 0, .int 0])), (y, .inr (1, [.ref bv, .int 0, .int 0, .int 1])), (bv, .inl (kB, 16, .inl fb))] sz) [(zs, .inr (0, [.ref g2, .int 0, .int 0, .int 0]))]) (va_A [(zs, .inr (0, [.null, .int 0, .int 0, .int 0])), (y, .inr (1, [.ref bv, .int 0, .int 0, .int 1])), (bv, .inl (kB, 16, .inl fb))] sz)) 1 1 (va_A [(zs, .inr (0, [.null, .int 0, .int 0, .int 0])), (y, .inr (1, [.ref bv, .int 0, .int 0, .int 1])), (bv, .inl (kB, 16, .inl fb))] sz) := by
  refine Met.ofW (cc := cJ0_init_db425) (maxL := 5) (ret := none) (by decide) rfl ?_
  intro p e s m args below meth c s₁ B hml hv
  obtain ⟨rfl, hsz, hP, hK, hD0, hF, hZ⟩ := hv
  have hx := B.exec
  have hb := B.bytes
  have hr := B.returns
  have hts := atoms_spec (ws := wsJ0_init_db425) B.pre
  have hown : s.vm.findClass RJ0 = some m.cls := findClass_of_methodNamed B.named
  have hlocks := B.notSynchronized
  have hin : meth.name = "<init>" := (name_of_methodNamed B.named B.method).1
  subst hsz
  have hD := hD0.self (sz := s.heap.size)
  generalize hAe : va_A [(zs, .inr (0, [.null, .int 0, .int 0, .int 0])), (y, .inr (1, [.ref bv, .int 0, .int 0, .int 1])), (bv, .inl (kB, 16, .inl fb))] s.heap.size = A at hD hZ ⊢
  have hA : ∀ q : Nat, s.heap.size ≤ q → A q := fun q h => by rw [← hAe]; exact Or.inr h
  have hS : va_S A s.heap s.heap [] := va_S.rf
  have hl := lv_entry ([.ref zs, .ref y, .null]) (n := 5) (Nat.le_of_ble_eq_true rfl)
  rw [lg_entry_eq]
  generalize (lg_sl ([.ref zs, .ref y, .null]) ++ List.replicate (5 - (lg_sl ([.ref zs, .ref y, .null])).length) Slot.unset).toArray = ls at hl ⊢
  have hl : lv_has ls 5 [(0, .ref zs), (1, .ref y), (2, .null)] := hl
  refine lv_aload_n hx hb dJ0_init_db425_0 rfl (lv_at hl 0 rfl) ?_
  refine W.objInit hx hb hown (hts (.methodLink RJ0 1 objectInit) (List.mem_of_getElem? (i := 1) rfl)) (hts (.instanceMethod objectInit) (List.mem_of_getElem? (i := 2) rfl)) (hts _ (List.mem_of_getElem? (i := 3) rfl)) rfl (by rw [hml]; exact hl.1) rfl dJ0_init_db425_1 (Nat.le_of_ble_eq_true rfl) (Nat.le_of_ble_eq_true rfl) ?_
  refine W.eq (g2 := F0 m 4 ls []) rfl ?_
  refine lv_aload_n hx hb dJ0_init_db425_4 rfl (lv_at hl 1 rfl) ?_
  refine va_csq (va_Run.run (va_runU (As := []) (rest := []) ⟨hx, hb, hml, hown, hts⟩ (c_SB_getValue l dC dI y bv 1) (va_cwU 0 hts gJ0_init_db425_J5_getValue_6d5f1_u552J4 rfl rfl rfl rfl (by decide +kernel) ⟨Nat.le_of_ble_eq_true rfl, Nat.le_of_ble_eq_true rfl⟩) ⟨PS_blind, va_recv hK hP (ci := 1) (q0 := 1) rfl rfl, PS_pre (hP.sub (ws' := [(y, .inr (1, [.ref bv, .int 0, .int 0, .int 1]))]) [1] rfl) (hK.sub (tys' := []) [] rfl) hF⟩ rfl rfl hl.1 rfl (lv_room (Nat.le_of_ble_eq_true rfl)) dJ0_init_db425_5 ⟨Nat.le_of_ble_eq_true rfl, Nat.le_of_ble_eq_true rfl⟩)) (fun r_1 hr_1 => ?_)
  subst hr_1
  refine W.eq (g2 := F0 m 8 ls [.ref bv]) rfl ?_
  refine lv_astore_n (lv' := [(3, .ref bv), (0, .ref zs), (1, .ref y), (2, .null)]) hx hb dJ0_init_db425_8 rfl hl (by decide) rfl (fun ls hl => ?_)
  refine lv_aload_n hx hb dJ0_init_db425_9 rfl (lv_at hl 2 rfl) ?_
  refine vp_callSi (va_Run.run (va_runU (As := []) (rest := []) ⟨hx, hb, hml, hown, hts⟩ (c_SB_length l dC dI y bv 1) (va_cwO 0 hts gJ0_init_db425_J4_length_8abf5_u549J4 rfl rfl rfl (List.mem_of_getElem? (i := 25) rfl : (Cond.code yJ5_length_8abf5 cJ5_length_8abf5 1 (some .int)) ∈ wsJ0_init_db425) (by decide +kernel) ⟨Nat.le_of_ble_eq_true rfl, Nat.le_of_ble_eq_true rfl⟩) ⟨PS_blind, va_recv hK hP (ci := 1) (q0 := 1) rfl rfl, PS_pre (hP.sub (ws' := [(y, .inr (1, [.ref bv, .int 0, .int 0, .int 1]))]) [1] rfl) (hK.sub (tys' := []) [] rfl) hF⟩ rfl rfl hl.1 rfl (lv_room (Nat.le_of_ble_eq_true rfl)) dJ0_init_db425_10 ⟨Nat.le_of_ble_eq_true rfl, Nat.le_of_ble_eq_true rfl⟩)) (fun r_2 hr_2 => ?_)
  subst hr_2
  refine lv_istore (lv' := [(4, .int 1), (3, .ref bv), (0, .ref zs), (1, .ref y), (2, .null)]) hx hb dJ0_init_db425_13 hl (by decide) rfl (fun ls hl => ?_)
  refine lv_aload_n hx hb dJ0_init_db425_15 rfl (lv_at hl 3 rfl) ?_
  refine vp_callSi (va_Run.run (va_runU (As := []) (rest := []) ⟨hx, hb, hml, hown, hts⟩ (c_SB_isLatin1 l dC dI d tc ad y bv 1) (va_cwU 0 hts gJ0_init_db425_J5_isLatin1_aae02_u1047J4 rfl rfl rfl rfl (by decide +kernel) ⟨Nat.le_of_ble_eq_true rfl, Nat.le_of_ble_eq_true rfl⟩) ⟨PY_blind, va_recv hK hP (ci := 1) (q0 := 1) rfl rfl, PY_pre (hP.sub (ws' := [(y, .inr (1, [.ref bv, .int 0, .int 0, .int 1]))]) [1] rfl) (hK.sub (tys' := []) [] rfl) hF hZ hS⟩ rfl rfl hl.1 rfl (lv_room (Nat.le_of_ble_eq_true rfl)) dJ0_init_db425_16 ⟨Nat.le_of_ble_eq_true rfl, Nat.le_of_ble_eq_true rfl⟩)) (fun r_3 hr_3 => ?_)
  subst hr_3
  refine lv_if_eq (tgt := 41) hx hb dJ0_init_db425_19 (by decide) (fun c_4 => absurd c_4 (by decide)) (fun _ => ?_)
  refine lv_aload_n hx hb dJ0_init_db425_22 rfl (lv_at hl 2 rfl) ?_
  refine lv_iconst (v := 0) hx hb dJ0_init_db425_23 (by decide) ?_
  refine va_putF (D := (dC, dI)) (ci := 0) (v := .int 0) (ty := .byte) (C := RJ0) (T := TJ0) (N := 4) hx hb hts (fun _ h9 => List.mem_cons_of_mem _ (List.mem_append_left _ (List.mem_append_right _ (h9)))) tyJ0 tyJ0_ok nmJ0 hown hK hP hD hS 0 rfl rfl 1 (by decide) (hts (.fieldLink RJ0 15 "java/lang/String" "coder" "B") (List.mem_of_getElem? (i := 4) rfl)) (fun _ h9 => h9) rfl hin rfl (by decide +kernel) (by decide) (by decide) (Nat.le_of_ble_eq_true rfl) dJ0_init_db425_24 (fun H locs hP hD hS => ?_)
  have hP : va_P (dC, dI) vwCl [(zs, .inr (0, [.null, .int 0, .int 0, .int 0])), (y, .inr (1, [.ref bv, .int 0, .int 0, .int 1])), (bv, .inl (kB, 16, .inl fb))] H := hP
  have hD : va_D A [(zs, .inr (0, [.null, .int 0, .int 0, .int 0])), (y, .inr (1, [.ref bv, .int 0, .int 0, .int 1])), (bv, .inl (kB, 16, .inl fb))] := hD
  refine lv_aload_n hx hb dJ0_init_db425_27 rfl (lv_at hl 2 rfl) ?_
  refine lv_aload_n hx hb dJ0_init_db425_28 rfl (lv_at hl 1 rfl) ?_
  refine lv_iconst (v := 0) hx hb dJ0_init_db425_29 (by decide) ?_
  refine lv_iload hx hb dJ0_init_db425_30 (lv_at hl 0 rfl) ?_
  have hPc := hP.sub (ws' := [(bv, .inl (kB, 16, .inl fb))]) [2] rfl
  have hDc := hD.sub (ws' := [(bv, .inl (kB, 16, .inl fb))]) [2] (by decide) rfl
  have hKc := hK.sub (tys' := [(kB, .byte)]) [0] rfl
  have hFc := va_free (wc := [(bv, .inl (kB, 16, .inl fb))]) hD hS hA [2] rfl
  refine va_callr (va_runS (As := [.ref bv, .int 0, .int 1]) (rest := [.ref zs]) ⟨hx, hb, hml, hown, hts⟩ (c_Arr_cor1 l dC dI bv kB fb H.size hfb) (va_cwS 3 hts gJ0_init_db425_J7_copyOfRange_39247 rfl rfl rfl (by decide +kernel) ⟨Nat.le_of_ble_eq_true rfl, Nat.le_of_ble_eq_true rfl⟩) ⟨PQ_blind, PQ_pre hPc hKc hDc hF⟩ rfl rfl hl.1 rfl (lv_room (Nat.le_of_ble_eq_true rfl)) dJ0_init_db425_32 ⟨Nat.le_of_ble_eq_true rfl, Nat.le_of_ble_eq_true rfl⟩) hS (fun q _ h => hFc q h) hFc (fun u r_5 t H1 locs ht hvm hw hB hz1 hk1 hS => ?_)
  obtain ⟨kN_6, fz_7, hP1, hK1, hD1⟩ := hB
  rw [ht] at hP1
  have hK1 := va_K.moved hvm.symm hK1
  obtain ⟨hP, hD⟩ := va_join (wr := [(zs, .inr (0, [.null, .int 0, .int 0, .int 0])), (y, .inr (1, [.ref bv, .int 0, .int 0, .int 1]))]) (w1 := [(bv, .inl (kB, 16, .inl fb)), (r_5, .inl (kN_6, 1, .inl fz_7))]) hP hD [2] [0, 1] rfl rfl (by decide) (by decide) hk1 hFc hP1 hD1
  have hK := hK.app hK1
  generalize H1 = H at hP hS ⊢
  have hP : va_P (dC, dI) vwCl [(zs, .inr (0, [.null, .int 0, .int 0, .int 0])), (y, .inr (1, [.ref bv, .int 0, .int 0, .int 1])), (bv, .inl (kB, 16, .inl fb)), (r_5, .inl (kN_6, 1, .inl fz_7))] H := hP
  have hD : va_D A [(zs, .inr (0, [.null, .int 0, .int 0, .int 0])), (y, .inr (1, [.ref bv, .int 0, .int 0, .int 1])), (bv, .inl (kB, 16, .inl fb)), (r_5, .inl (kN_6, 1, .inl fz_7))] := hD
  have hK : va_K (dC, dI) vwCl [(kB, .byte), (kB, .byte), (kN_6, .byte)] s := hK
  refine W.widen (k := 1) (n := 1) (Nat.le_of_ble_eq_true rfl) (Nat.le_of_ble_eq_true rfl) ?_
  refine va_putF (D := (dC, dI)) (ci := 0) (v := .ref r_5) (ty := .array .byte) (C := RJ0) (T := TJ0) (N := 4) hx hb hts (fun _ h9 => List.mem_cons_of_mem _ (List.mem_append_left _ (List.mem_append_right _ (h9)))) tyJ0 tyJ0_ok nmJ0 hown hK hP hD hS 0 rfl rfl 0 (by decide) (hts (.fieldLink RJ0 9 "java/lang/String" "value" "[B") (List.mem_of_getElem? (i := 5) rfl)) (fun _ h9 => h9) rfl hin rfl (by decide +kernel) rfl rfl (Nat.le_of_ble_eq_true rfl) dJ0_init_db425_35 (fun H locs hP hD hS => ?_)
  have hP : va_P (dC, dI) vwCl [(zs, .inr (0, [.ref r_5, .int 0, .int 0, .int 0])), (y, .inr (1, [.ref bv, .int 0, .int 0, .int 1])), (bv, .inl (kB, 16, .inl fb)), (r_5, .inl (kN_6, 1, .inl fz_7))] H := hP
  have hD : va_D A [(zs, .inr (0, [.ref r_5, .int 0, .int 0, .int 0])), (y, .inr (1, [.ref bv, .int 0, .int 0, .int 1])), (bv, .inl (kB, 16, .inl fb)), (r_5, .inl (kN_6, 1, .inl fz_7))] := hD
  refine lv_goto (tgt := 97) hx hb dJ0_init_db425_38 (by decide) ?_
  have hP9 := hP.sub (ws' := [(zs, .inr (0, [.ref r_5, .int 0, .int 0, .int 0]))]) [0] rfl
  have hD9 := hD.sub (ws' := [(zs, .inr (0, [.ref r_5, .int 0, .int 0, .int 0]))]) [0] (by decide) rfl
  have hK9 := hK.sub (tys' := []) [] rfl
  exact W.vret hx hb hr (fun t ht hW => ⟨⟨(), rfl, trivial, r_5, by rw [ht]; exact hP9, va_K.moved hW.alike hK9, hD9⟩, hS.F ht⟩) hS.2.2 dJ0_init_db425_97

set_option maxHeartbeats 4000000 in
set_option maxRecDepth 100000 in
theorem c_Str_init1 (l : Launch) (dC : Nat → ClassId) (dI : Nat → Nat → Nat) (d : Nat) (tc : Nat) (ad : Nat → Nat) (zs : Nat) (y : Nat) (bv : Nat) (kB : ClassId) (fb : Nat → Int32) (sz : Nat) (hfb : sb_Fit fb) : Met l yJ0_init_81219 wsJ0_init_81219 ({ frames := 4, cells := 1, slots := 1, locals := 150 }) (va_Pc [.ref zs, .ref y] (PZ dC dI d tc ad sz [(zs, .inr (0, [.null, .int 0, .int 0, .int 0])), (y, .inr (1, [.ref bv, .int 0, .int 0, .int 1])), (bv, .inl (kB, 16, .inl fb))] [(kB, .byte)])) (va_Qv (fun _ : Unit => True) (fun _ t => ∃ (g2 : Nat), va_P (dC, dI) vwCl [(zs, .inr (0, [.ref g2, .int 0, .int 0, .int 0]))] t.heap ∧ va_K (dC, dI) vwCl [] t ∧ va_D (va_A [(zs, .inr (0, [.null, .int 0, .int 0, .int 0])), (y, .inr (1, [.ref bv, .int 0, .int 0, .int 1])), (bv, .inl (kB, 16, .inl fb))] sz) [(zs, .inr (0, [.ref g2, .int 0, .int 0, .int 0]))]) (va_A [(zs, .inr (0, [.null, .int 0, .int 0, .int 0])), (y, .inr (1, [.ref bv, .int 0, .int 0, .int 1])), (bv, .inl (kB, 16, .inl fb))] sz)) 1 1 (va_A [(zs, .inr (0, [.null, .int 0, .int 0, .int 0])), (y, .inr (1, [.ref bv, .int 0, .int 0, .int 1])), (bv, .inl (kB, 16, .inl fb))] sz) := by
  refine Met.ofW (cc := cJ0_init_81219) (maxL := 2) (ret := none) (by decide) rfl ?_
  intro p e s m args below meth c s₁ B hml hv
  obtain ⟨rfl, hsz, hP, hK, hD0, hF, hZ⟩ := hv
  have hx := B.exec
  have hb := B.bytes
  have hr := B.returns
  have hts := atoms_spec (ws := wsJ0_init_81219) B.pre
  have hown : s.vm.findClass RJ0 = some m.cls := findClass_of_methodNamed B.named
  have hlocks := B.notSynchronized
  have hin : meth.name = "<init>" := (name_of_methodNamed B.named B.method).1
  subst hsz
  have hD := hD0.self (sz := s.heap.size)
  generalize hAe : va_A [(zs, .inr (0, [.null, .int 0, .int 0, .int 0])), (y, .inr (1, [.ref bv, .int 0, .int 0, .int 1])), (bv, .inl (kB, 16, .inl fb))] s.heap.size = A at hD hZ ⊢
  have hA : ∀ q : Nat, s.heap.size ≤ q → A q := fun q h => by rw [← hAe]; exact Or.inr h
  have hS : va_S A s.heap s.heap [] := va_S.rf
  have hl := lv_entry ([.ref zs, .ref y]) (n := 2) (Nat.le_of_ble_eq_true rfl)
  rw [lg_entry_eq]
  generalize (lg_sl ([.ref zs, .ref y]) ++ List.replicate (2 - (lg_sl ([.ref zs, .ref y])).length) Slot.unset).toArray = ls at hl ⊢
  have hl : lv_has ls 2 [(0, .ref zs), (1, .ref y)] := hl
  refine lv_aload_n hx hb dJ0_init_81219_0 rfl (lv_at hl 0 rfl) ?_
  refine lv_aload_n hx hb dJ0_init_81219_1 rfl (lv_at hl 1 rfl) ?_
  refine lv_null hx hb dJ0_init_81219_2 ?_
  have hPc := hP.sub (ws' := [(zs, .inr (0, [.null, .int 0, .int 0, .int 0])), (y, .inr (1, [.ref bv, .int 0, .int 0, .int 1])), (bv, .inl (kB, 16, .inl fb))]) [0, 1, 2] rfl
  have hDc := hD.sub (ws' := [(zs, .inr (0, [.null, .int 0, .int 0, .int 0])), (y, .inr (1, [.ref bv, .int 0, .int 0, .int 1])), (bv, .inl (kB, 16, .inl fb))]) [0, 1, 2] (by decide) rfl
  have hKc := hK.sub (tys' := [(kB, .byte)]) [0] rfl
  have hFc := va_free (wc := [(zs, .inr (0, [.null, .int 0, .int 0, .int 0])), (y, .inr (1, [.ref bv, .int 0, .int 0, .int 1])), (bv, .inl (kB, 16, .inl fb))]) hD hS hA [0, 1, 2] rfl
  refine va_callv (va_runI (As := [.ref y, .null]) (rest := []) ⟨hx, hb, hml, hown, hts⟩ (c_Str_initV1 l dC dI d tc ad zs y bv kB fb s.heap.size hfb) (cwI 2 hts gJ0_init_81219_J0_init_db425 rfl rfl rfl (hts (.initialized RJ0) (List.mem_of_getElem? (i := 3) rfl)) (hts (.methodLink RJ0 489 yJ0_init_db425) (List.mem_of_getElem? (i := 1) rfl)) (hts (.instanceMethod yJ0_init_db425) (List.mem_of_getElem? (i := 2) rfl)) rfl (by decide +kernel) ⟨Nat.le_of_ble_eq_true rfl, Nat.le_of_ble_eq_true rfl⟩) ⟨PZ_blind, PZ_pre hPc hKc hDc hF hZ hS hFc⟩ rfl rfl hl.1 rfl (lv_room (Nat.le_of_ble_eq_true rfl)) dJ0_init_81219_3 ⟨Nat.le_of_ble_eq_true rfl, Nat.le_of_ble_eq_true rfl⟩) hS (fun q _ h => hFc q h) hFc (fun u t H1 locs ht hvm hw hB hz1 hk1 hS => ?_)
  obtain ⟨g2_2, hP1, hK1, hD1⟩ := hB
  rw [ht] at hP1
  have hK1 := va_K.moved hvm.symm hK1
  obtain ⟨hP, hD⟩ := va_join (wr := []) (w1 := [(zs, .inr (0, [.ref g2_2, .int 0, .int 0, .int 0]))]) hP hD [0, 1, 2] [] rfl rfl (by decide) (by decide) hk1 hFc hP1 hD1
  have hK := hK.app hK1
  generalize H1 = H at hP hS ⊢
  have hP : va_P (dC, dI) vwCl [(zs, .inr (0, [.ref g2_2, .int 0, .int 0, .int 0]))] H := hP
  have hD : va_D A [(zs, .inr (0, [.ref g2_2, .int 0, .int 0, .int 0]))] := hD
  have hK : va_K (dC, dI) vwCl [(kB, .byte)] s := hK
  refine W.widen (k := 1) (n := 1) (Nat.le_of_ble_eq_true rfl) (Nat.le_of_ble_eq_true rfl) ?_
  have hP9 := hP.sub (ws' := [(zs, .inr (0, [.ref g2_2, .int 0, .int 0, .int 0]))]) [0] rfl
  have hD9 := hD.sub (ws' := [(zs, .inr (0, [.ref g2_2, .int 0, .int 0, .int 0]))]) [0] (by decide) rfl
  have hK9 := hK.sub (tys' := []) [] rfl
  exact W.vret hx hb hr (fun t ht hW => ⟨⟨(), rfl, trivial, g2_2, by rw [ht]; exact hP9, va_K.moved hW.alike hK9, hD9⟩, hS.F ht⟩) hS.2.2 dJ0_init_81219_6

set_option maxHeartbeats 4000000 in
set_option maxRecDepth 100000 in
theorem c_SB_toString1 (l : Launch) (dC : Nat → ClassId) (dI : Nat → Nat → Nat) (d : Nat) (tc : Nat) (ad : Nat → Nat) (y : Nat) (bv : Nat) (kB : ClassId) (fb : Nat → Int32) (sz : Nat) (hfb : sb_Fit fb) : Met l yJ4_toString_0e30d wsJ4_toString_0e30d ({ frames := 5, cells := 2, slots := 5, locals := 171 }) (va_Pc [.ref y] (PZ dC dI d tc ad sz [(y, .inr (1, [.ref bv, .int 0, .int 0, .int 1])), (bv, .inl (kB, 16, .inl fb))] [(kB, .byte)])) (va_Qr (fun _ : Unit => True) (fun _ ra t => ∃ (g2 : Nat), va_P (dC, dI) vwCl [(ra, .inr (0, [.ref g2, .int 0, .int 0, .int 0]))] t.heap ∧ va_K (dC, dI) vwCl [] t ∧ va_D (va_A [(y, .inr (1, [.ref bv, .int 0, .int 0, .int 1])), (bv, .inl (kB, 16, .inl fb))] sz) [(ra, .inr (0, [.ref g2, .int 0, .int 0, .int 0]))]) (va_A [(y, .inr (1, [.ref bv, .int 0, .int 0, .int 1])), (bv, .inl (kB, 16, .inl fb))] sz)) 2 5 (va_A [(y, .inr (1, [.ref bv, .int 0, .int 0, .int 1])), (bv, .inl (kB, 16, .inl fb))] sz) := by
  refine Met.ofW (cc := cJ4_toString_0e30d) (maxL := 1) (ret := (some (.object "java/lang/String"))) (by decide) rfl ?_
  intro p e s m args below meth c s₁ B hml hv
  obtain ⟨rfl, hsz, hP, hK, hD0, hF, hZ⟩ := hv
  have hx := B.exec
  have hb := B.bytes
  have hr := B.returns
  have hts := atoms_spec (ws := wsJ4_toString_0e30d) B.pre
  have hown : s.vm.findClass RJ4 = some m.cls := findClass_of_methodNamed B.named
  have hlocks := B.notSynchronized
  subst hsz
  have hD := hD0.self (sz := s.heap.size)
  generalize hAe : va_A [(y, .inr (1, [.ref bv, .int 0, .int 0, .int 1])), (bv, .inl (kB, 16, .inl fb))] s.heap.size = A at hD hZ ⊢
  have hA : ∀ q : Nat, s.heap.size ≤ q → A q := fun q h => by rw [← hAe]; exact Or.inr h
  have hS : va_S A s.heap s.heap [] := va_S.rf
  have hl := lv_entry ([.ref y]) (n := 1) (Nat.le_of_ble_eq_true rfl)
  rw [lg_entry_eq]
  generalize (lg_sl ([.ref y]) ++ List.replicate (1 - (lg_sl ([.ref y])).length) Slot.unset).toArray = ls at hl ⊢
  have hl : lv_has ls 1 [(0, .ref y)] := hl
  refine va_new (ci := 0) (fs := [.null, .int 0, .int 0, .int 0]) (C := RJ0) (T := TJ0) (N := 4) hx hb hts (fun _ h9 => List.mem_cons_of_mem _ (List.mem_append_left _ (List.mem_append_right _ (h9)))) tyJ0 tyJ0_ok hown (hts (.classLink RJ4 18 RJ0) (List.mem_of_getElem? (i := 1) rfl)) (hts (.instantiable RJ0 4) (List.mem_of_getElem? (i := 2) rfl)) (hts (.initialized RJ0) (List.mem_of_getElem? (i := 3) rfl)) hK hP hD hS hA rfl dfJ0 (Nat.le_of_ble_eq_true rfl) (Nat.le_of_ble_eq_true rfl) dJ4_toString_0e30d_0 (fun q_1 H hP hD hS => ?_)
  have hP : va_P (dC, dI) vwCl [(y, .inr (1, [.ref bv, .int 0, .int 0, .int 1])), (bv, .inl (kB, 16, .inl fb)), (q_1, .inr (0, [.null, .int 0, .int 0, .int 0]))] H := hP
  have hD : va_D A [(y, .inr (1, [.ref bv, .int 0, .int 0, .int 1])), (bv, .inl (kB, 16, .inl fb)), (q_1, .inr (0, [.null, .int 0, .int 0, .int 0]))] := hD
  refine W.widen (k := 1) (n := 4) (Nat.le_of_ble_eq_true rfl) (Nat.le_of_ble_eq_true rfl) ?_
  refine lv_dup hx hb dJ4_toString_0e30d_3 rfl ?_
  refine lv_aload_n hx hb dJ4_toString_0e30d_4 rfl (lv_at hl 0 rfl) ?_
  have hPc := hP.sub (ws' := [(q_1, .inr (0, [.null, .int 0, .int 0, .int 0])), (y, .inr (1, [.ref bv, .int 0, .int 0, .int 1])), (bv, .inl (kB, 16, .inl fb))]) [2, 0, 1] rfl
  have hDc := hD.sub (ws' := [(q_1, .inr (0, [.null, .int 0, .int 0, .int 0])), (y, .inr (1, [.ref bv, .int 0, .int 0, .int 1])), (bv, .inl (kB, 16, .inl fb))]) [2, 0, 1] (by decide) rfl
  have hKc := hK.sub (tys' := [(kB, .byte)]) [0] rfl
  have hFc := va_free (wc := [(q_1, .inr (0, [.null, .int 0, .int 0, .int 0])), (y, .inr (1, [.ref bv, .int 0, .int 0, .int 1])), (bv, .inl (kB, 16, .inl fb))]) hD hS hA [2, 0, 1] rfl
  refine va_callv (va_runI (As := [.ref y]) (rest := [.ref q_1]) ⟨hx, hb, hml, hown, hts⟩ (c_Str_init1 l dC dI d tc ad q_1 y bv kB fb H.size hfb) (cwI 1 hts gJ4_toString_0e30d_J0_init_81219 rfl rfl rfl (hts (.initialized RJ0) (List.mem_of_getElem? (i := 3) rfl)) (hts (.methodLink RJ4 137 yJ0_init_81219) (List.mem_of_getElem? (i := 4) rfl)) (hts (.instanceMethod yJ0_init_81219) (List.mem_of_getElem? (i := 5) rfl)) rfl (by decide +kernel) ⟨Nat.le_of_ble_eq_true rfl, Nat.le_of_ble_eq_true rfl⟩) ⟨PZ_blind, PZ_pre hPc hKc hDc hF hZ hS hFc⟩ rfl rfl hl.1 rfl (lv_room (Nat.le_of_ble_eq_true rfl)) dJ4_toString_0e30d_5 ⟨Nat.le_of_ble_eq_true rfl, Nat.le_of_ble_eq_true rfl⟩) hS (fun q _ h => hFc q h) hFc (fun u t H1 locs ht hvm hw hB hz1 hk1 hS => ?_)
  obtain ⟨g2_3, hP1, hK1, hD1⟩ := hB
  rw [ht] at hP1
  have hK1 := va_K.moved hvm.symm hK1
  obtain ⟨hP, hD⟩ := va_join (wr := []) (w1 := [(q_1, .inr (0, [.ref g2_3, .int 0, .int 0, .int 0]))]) hP hD [2, 0, 1] [] rfl rfl (by decide) (by decide) hk1 hFc hP1 hD1
  have hK := hK.app hK1
  generalize H1 = H at hP hS ⊢
  have hP : va_P (dC, dI) vwCl [(q_1, .inr (0, [.ref g2_3, .int 0, .int 0, .int 0]))] H := hP
  have hD : va_D A [(q_1, .inr (0, [.ref g2_3, .int 0, .int 0, .int 0]))] := hD
  have hK : va_K (dC, dI) vwCl [(kB, .byte)] s := hK
  refine W.widen (k := 2) (n := 5) (Nat.le_of_ble_eq_true rfl) (Nat.le_of_ble_eq_true rfl) ?_
  have hP9 := hP.sub (ws' := [(q_1, .inr (0, [.ref g2_3, .int 0, .int 0, .int 0]))]) [0] rfl
  have hD9 := hD.sub (ws' := [(q_1, .inr (0, [.ref g2_3, .int 0, .int 0, .int 0]))]) [0] (by decide) rfl
  have hK9 := hK.sub (tys' := []) [] rfl
  exact W.aret (v := .ref q_1) hx hb hr (Or.inl ⟨_, rfl⟩) (Or.inr ⟨_, rfl⟩) (fun t ht hW => ⟨⟨(), _, rfl, trivial, g2_3, by rw [ht]; exact hP9, va_K.moved hW.alike hK9, hD9⟩, hS.F ht⟩) hS.2.2 dJ4_toString_0e30d_8

set_option maxHeartbeats 4000000 in
set_option maxRecDepth 100000 in
theorem c_Arr_corb2 (l : Launch) (dC : Nat → ClassId) (dI : Nat → Nat → Nat) (bv : Nat) (kB : ClassId) (fb : Nat → Int32) (sz : Nat) (hfb : sb_Fit fb) : Met l yJ7_copyOfRangeByte_39247 wsJ7_copyOfRangeByte_39247 ({ frames := 1, cells := 1, slots := 2, locals := 80 }) (va_Pc [.ref bv, .int 0, .int 2] (PQ dC dI sz [(bv, .inl (kB, 16, .inl fb))] [(kB, .byte)])) (va_Qr (fun _ : Unit => True) (fun _ ra t => ∃ (kN : ClassId) (fz : Nat → Int32), va_P (dC, dI) vwCl [(bv, .inl (kB, 16, .inl fb)), (ra, .inl (kN, 2, .inl fz))] t.heap ∧ va_K (dC, dI) vwCl [(kB, .byte), (kN, .byte)] t ∧ va_D (va_A [(bv, .inl (kB, 16, .inl fb))] sz) [(bv, .inl (kB, 16, .inl fb)), (ra, .inl (kN, 2, .inl fz))]) (va_A [(bv, .inl (kB, 16, .inl fb))] sz)) 1 2 (va_A [(bv, .inl (kB, 16, .inl fb))] sz) := by
  refine Met.ofW (cc := cJ7_copyOfRangeByte_39247) (maxL := 5) (ret := (some (.array .byte))) (by decide) rfl ?_
  intro p e s m args below meth c s₁ B hml hv
  obtain ⟨rfl, hsz, hP, hK, hD0, hF⟩ := hv
  have hx := B.exec
  have hb := B.bytes
  have hr := B.returns
  have hts := atoms_spec (ws := wsJ7_copyOfRangeByte_39247) B.pre
  have hown : s.vm.findClass RJ7 = some m.cls := findClass_of_methodNamed B.named
  have hlocks := B.notSynchronized
  subst hsz
  have hD := hD0.self (sz := s.heap.size)
  generalize hAe : va_A [(bv, .inl (kB, 16, .inl fb))] s.heap.size = A at hD ⊢
  have hA : ∀ q : Nat, s.heap.size ≤ q → A q := fun q h => by rw [← hAe]; exact Or.inr h
  have hS : va_S A s.heap s.heap [] := va_S.rf
  have hl := lv_entry ([.ref bv, .int 0, .int 2]) (n := 5) (Nat.le_of_ble_eq_true rfl)
  rw [lg_entry_eq]
  generalize (lg_sl ([.ref bv, .int 0, .int 2]) ++ List.replicate (5 - (lg_sl ([.ref bv, .int 0, .int 2])).length) Slot.unset).toArray = ls at hl ⊢
  have hl : lv_has ls 5 [(0, .ref bv), (1, .int 0), (2, .int 2)] := hl
  refine lv_iload_n hx hb dJ7_copyOfRangeByte_39247_0 rfl (lv_at hl 1 rfl) ?_
  refine lv_iload_n hx hb dJ7_copyOfRangeByte_39247_1 rfl (lv_at hl 2 rfl) ?_
  refine va_csv (va_Run.run (va_runS (As := [.int 0, .int 2]) (rest := []) ⟨hx, hb, hml, hown, hts⟩ (c_Arr_checkLength l dC dI 0 2 (by decide)) (va_cwS 2 hts gJ7_copyOfRangeByte_39247_J7_checkLength_df160 rfl rfl rfl (by decide +kernel) ⟨Nat.le_of_ble_eq_true rfl, Nat.le_of_ble_eq_true rfl⟩) ⟨PS_blind, PS_pre (hP.sub (ws' := []) [] rfl) (hK.sub (tys' := []) [] rfl) hF⟩ rfl rfl hl.1 rfl (lv_room (Nat.le_of_ble_eq_true rfl)) dJ7_copyOfRangeByte_39247_2 ⟨Nat.le_of_ble_eq_true rfl, Nat.le_of_ble_eq_true rfl⟩)) (fun _ => ?_)
  refine lv_iload_n hx hb dJ7_copyOfRangeByte_39247_5 rfl (lv_at hl 2 rfl) ?_
  refine lv_iload_n hx hb dJ7_copyOfRangeByte_39247_6 rfl (lv_at hl 1 rfl) ?_
  refine lv_isub hx hb dJ7_copyOfRangeByte_39247_7 ?_
  refine lv_topi (fun f_2 ef_2 => ?_)
  obtain rfl : f_2 = 2 := ef_2.trans (by decide)
  refine lv_istore_n (lv' := [(3, .int 2), (0, .ref bv), (1, .int 0), (2, .int 2)]) hx hb dJ7_copyOfRangeByte_39247_8 rfl hl (by decide) rfl (fun ls hl => ?_)
  refine lv_iload_n hx hb dJ7_copyOfRangeByte_39247_9 rfl (lv_at hl 0 rfl) ?_
  refine va_newa (atype := .byte) (ty := .byte) (a0 := (2, (.inl (fun _ => 0)))) hx hb (hts (.arrayClass .byte) (List.mem_of_getElem? (i := 1) rfl)) rfl hK hP hD hS hA (fun _ => rfl) (by decide) (by decide) (Nat.le_of_ble_eq_true rfl) (Nat.le_of_ble_eq_true rfl) (Nat.le_of_ble_eq_true rfl) dJ7_copyOfRangeByte_39247_10 (fun q_3 k_4 H hK hP hD hS => ?_)
  have hP : va_P (dC, dI) vwCl [(bv, .inl (kB, 16, .inl fb)), (q_3, .inl (k_4, 2, .inl (fun _ => 0)))] H := hP
  have hD : va_D A [(bv, .inl (kB, 16, .inl fb)), (q_3, .inl (k_4, 2, .inl (fun _ => 0)))] := hD
  have hK : va_K (dC, dI) vwCl [(kB, .byte), (k_4, .byte)] s := hK
  refine W.widen (k := 1) (n := 2) (Nat.le_of_ble_eq_true rfl) (Nat.le_of_ble_eq_true rfl) ?_
  refine lv_astore (lv' := [(4, .ref q_3), (3, .int 2), (0, .ref bv), (1, .int 0), (2, .int 2)]) hx hb dJ7_copyOfRangeByte_39247_12 hl (by decide) rfl (fun ls hl => ?_)
  refine lv_aload_n hx hb dJ7_copyOfRangeByte_39247_14 rfl (lv_at hl 2 rfl) ?_
  refine lv_iload_n hx hb dJ7_copyOfRangeByte_39247_15 rfl (lv_at hl 3 rfl) ?_
  refine lv_aload hx hb dJ7_copyOfRangeByte_39247_16 (lv_at hl 0 rfl) ?_
  refine lv_iconst (v := 0) hx hb dJ7_copyOfRangeByte_39247_18 (by decide) ?_
  refine lv_aload_n hx hb dJ7_copyOfRangeByte_39247_19 rfl (lv_at hl 2 rfl) ?_
  refine va_alen hx hb hK hP 0 0 rfl rfl (v := 16) rfl dJ7_copyOfRangeByte_39247_20 ?_
  refine lv_iload_n hx hb dJ7_copyOfRangeByte_39247_21 rfl (lv_at hl 3 rfl) ?_
  refine lv_isub hx hb dJ7_copyOfRangeByte_39247_22 ?_
  refine lv_topi (fun f_5 ef_5 => ?_)
  obtain rfl : f_5 = 16 := ef_5.trans (by decide)
  refine lv_iload_n hx hb dJ7_copyOfRangeByte_39247_23 rfl (lv_at hl 1 rfl) ?_
  refine va_mmin hx hb (hml.trans hl.1.symm) hown (hts (.methodLink RJ7 304 Lib.Math.min.name) (List.mem_of_getElem? (i := 2) rfl)) (hts (.static Lib.Math.min.name) (List.mem_of_getElem? (i := 3) rfl)) (hts (.initialized "java/lang/Math") (List.mem_of_getElem? (i := 4) rfl)) (hts (.code Lib.Math.min.name Lib.Math.min.code 2 (some .int)) (List.mem_of_getElem? (i := 5) rfl)) (Nat.le_of_ble_eq_true rfl) (Nat.le_of_ble_eq_true rfl) (Nat.le_of_ble_eq_true rfl) (Nat.le_of_ble_eq_true rfl) dJ7_copyOfRangeByte_39247_24 ?_
  refine lv_topi (fun f_6 ef_6 => ?_)
  obtain rfl : f_6 = 2 := ef_6.trans (by decide)
  refine va_copyi (ty := .byte) hx hb (hml.trans hl.1.symm) hown (hts (.methodLink RJ7 150 arraycopyName) (List.mem_of_getElem? (i := 6) rfl)) (hts (.native arraycopyName) (List.mem_of_getElem? (i := 7) rfl)) (hts (.static arraycopyName) (List.mem_of_getElem? (i := 8) rfl)) (hts (.initialized "java/lang/System") (List.mem_of_getElem? (i := 9) rfl)) hK hP hD hS 0 1 0 1 rfl rfl rfl rfl rfl (sp := 0) (dp := 0) (n := 2) (by decide) (by decide) (by decide) (by decide) (by decide) (fun i _ => hfb _) (Nat.le_of_ble_eq_true rfl) (Nat.le_of_ble_eq_true rfl) dJ7_copyOfRangeByte_39247_27 (fun H locs hP hD hS => ?_)
  have hP : va_P (dC, dI) vwCl [(bv, .inl (kB, 16, .inl fb)), (q_3, .inl (k_4, 2, .inl (va_cpy fb (fun _ => 0) (0 : Int32).toNatClampNeg (0 : Int32).toNatClampNeg (2 : Int32).toNatClampNeg)))] H := hP
  have hD : va_D A [(bv, .inl (kB, 16, .inl fb)), (q_3, .inl (k_4, 2, .inl (va_cpy fb (fun _ => 0) (0 : Int32).toNatClampNeg (0 : Int32).toNatClampNeg (2 : Int32).toNatClampNeg)))] := hD
  have ha_7 : sb_Fit (va_cpy fb (fun _ => 0) (0 : Int32).toNatClampNeg (0 : Int32).toNatClampNeg (2 : Int32).toNatClampNeg) := sb_fitC hfb sb_fit0
  generalize (va_cpy fb (fun _ => 0) (0 : Int32).toNatClampNeg (0 : Int32).toNatClampNeg (2 : Int32).toNatClampNeg) = a_7 at hP hD ha_7
  refine lv_aload hx hb dJ7_copyOfRangeByte_39247_30 (lv_at hl 0 rfl) ?_
  have hP9 := hP.sub (ws' := [(bv, .inl (kB, 16, .inl fb)), (q_3, .inl (k_4, 2, .inl a_7))]) [0, 1] rfl
  have hD9 := hD.sub (ws' := [(bv, .inl (kB, 16, .inl fb)), (q_3, .inl (k_4, 2, .inl a_7))]) [0, 1] (by decide) rfl
  have hK9 := hK.sub (tys' := [(kB, .byte), (k_4, .byte)]) [0, 1] rfl
  exact W.aret (v := .ref q_3) hx hb hr (Or.inr ⟨_, rfl⟩) (Or.inr ⟨_, rfl⟩) (fun t ht hW => ⟨⟨(), _, rfl, trivial, k_4, a_7, by rw [ht]; exact hP9, va_K.moved hW.alike hK9, hD9⟩, hS.F ht⟩) hS.2.2 dJ7_copyOfRangeByte_39247_32

set_option maxHeartbeats 4000000 in
set_option maxRecDepth 100000 in
theorem c_Arr_cor2 (l : Launch) (dC : Nat → ClassId) (dI : Nat → Nat → Nat) (bv : Nat) (kB : ClassId) (fb : Nat → Int32) (sz : Nat) (hfb : sb_Fit fb) : Met l yJ7_copyOfRange_39247 wsJ7_copyOfRange_39247 ({ frames := 2, cells := 1, slots := 2, locals := 104 }) (va_Pc [.ref bv, .int 0, .int 2] (PQ dC dI sz [(bv, .inl (kB, 16, .inl fb))] [(kB, .byte)])) (va_Qr (fun _ : Unit => True) (fun _ ra t => ∃ (kN : ClassId) (fz : Nat → Int32), va_P (dC, dI) vwCl [(bv, .inl (kB, 16, .inl fb)), (ra, .inl (kN, 2, .inl fz))] t.heap ∧ va_K (dC, dI) vwCl [(kB, .byte), (kN, .byte)] t ∧ va_D (va_A [(bv, .inl (kB, 16, .inl fb))] sz) [(bv, .inl (kB, 16, .inl fb)), (ra, .inl (kN, 2, .inl fz))]) (va_A [(bv, .inl (kB, 16, .inl fb))] sz)) 1 2 (va_A [(bv, .inl (kB, 16, .inl fb))] sz) := by
  refine Met.ofW (cc := cJ7_copyOfRange_39247) (maxL := 3) (ret := (some (.array .byte))) (by decide) rfl ?_
  intro p e s m args below meth c s₁ B hml hv
  obtain ⟨rfl, hsz, hP, hK, hD0, hF⟩ := hv
  have hx := B.exec
  have hb := B.bytes
  have hr := B.returns
  have hts := atoms_spec (ws := wsJ7_copyOfRange_39247) B.pre
  have hown : s.vm.findClass RJ7 = some m.cls := findClass_of_methodNamed B.named
  have hlocks := B.notSynchronized
  subst hsz
  have hD := hD0.self (sz := s.heap.size)
  generalize hAe : va_A [(bv, .inl (kB, 16, .inl fb))] s.heap.size = A at hD ⊢
  have hA : ∀ q : Nat, s.heap.size ≤ q → A q := fun q h => by rw [← hAe]; exact Or.inr h
  have hS : va_S A s.heap s.heap [] := va_S.rf
  have hl := lv_entry ([.ref bv, .int 0, .int 2]) (n := 3) (Nat.le_of_ble_eq_true rfl)
  rw [lg_entry_eq]
  generalize (lg_sl ([.ref bv, .int 0, .int 2]) ++ List.replicate (3 - (lg_sl ([.ref bv, .int 0, .int 2])).length) Slot.unset).toArray = ls at hl ⊢
  have hl : lv_has ls 3 [(0, .ref bv), (1, .int 0), (2, .int 2)] := hl
  refine lv_iload_n hx hb dJ7_copyOfRange_39247_0 rfl (lv_at hl 1 rfl) ?_
  refine lv_if_ne (tgt := 10) hx hb dJ7_copyOfRange_39247_1 (by decide) (fun c_1 => absurd (by decide) c_1) (fun _ => ?_)
  refine lv_iload_n hx hb dJ7_copyOfRange_39247_4 rfl (lv_at hl 2 rfl) ?_
  refine lv_aload_n hx hb dJ7_copyOfRange_39247_5 rfl (lv_at hl 0 rfl) ?_
  refine va_alen hx hb hK hP 0 0 rfl rfl (v := 16) rfl dJ7_copyOfRange_39247_6 ?_
  refine lv_icmp_eq (tgt := 17) hx hb dJ7_copyOfRange_39247_7 (by decide) (fun c_2 => absurd c_2 (by decide)) (fun _ => ?_)
  refine lv_aload_n hx hb dJ7_copyOfRange_39247_10 rfl (lv_at hl 0 rfl) ?_
  refine lv_iload_n hx hb dJ7_copyOfRange_39247_11 rfl (lv_at hl 1 rfl) ?_
  refine lv_iload_n hx hb dJ7_copyOfRange_39247_12 rfl (lv_at hl 2 rfl) ?_
  have hPc := hP.sub (ws' := [(bv, .inl (kB, 16, .inl fb))]) [0] rfl
  have hDc := hD.sub (ws' := [(bv, .inl (kB, 16, .inl fb))]) [0] (by decide) rfl
  have hKc := hK.sub (tys' := [(kB, .byte)]) [0] rfl
  have hFc := va_free (wc := [(bv, .inl (kB, 16, .inl fb))]) hD hS hA [0] rfl
  refine va_callr (va_runS (As := [.ref bv, .int 0, .int 2]) (rest := []) ⟨hx, hb, hml, hown, hts⟩ (c_Arr_corb2 l dC dI bv kB fb s.heap.size hfb) (va_cwS 3 hts gJ7_copyOfRange_39247_J7_copyOfRangeByte_39247 rfl rfl rfl (by decide +kernel) ⟨Nat.le_of_ble_eq_true rfl, Nat.le_of_ble_eq_true rfl⟩) ⟨PQ_blind, PQ_pre hPc hKc hDc hF⟩ rfl rfl hl.1 rfl (lv_room (Nat.le_of_ble_eq_true rfl)) dJ7_copyOfRange_39247_13 ⟨Nat.le_of_ble_eq_true rfl, Nat.le_of_ble_eq_true rfl⟩) hS (fun q _ h => hFc q h) hFc (fun u r_3 t H1 locs ht hvm hw hB hz1 hk1 hS => ?_)
  obtain ⟨kN_4, fz_5, hP1, hK1, hD1⟩ := hB
  rw [ht] at hP1
  have hK1 := va_K.moved hvm.symm hK1
  obtain ⟨hP, hD⟩ := va_join (wr := []) (w1 := [(bv, .inl (kB, 16, .inl fb)), (r_3, .inl (kN_4, 2, .inl fz_5))]) hP hD [0] [] rfl rfl (by decide) (by decide) hk1 hFc hP1 hD1
  have hK := hK.app hK1
  generalize H1 = H at hP hS ⊢
  have hP : va_P (dC, dI) vwCl [(bv, .inl (kB, 16, .inl fb)), (r_3, .inl (kN_4, 2, .inl fz_5))] H := hP
  have hD : va_D A [(bv, .inl (kB, 16, .inl fb)), (r_3, .inl (kN_4, 2, .inl fz_5))] := hD
  have hK : va_K (dC, dI) vwCl [(kB, .byte), (kB, .byte), (kN_4, .byte)] s := hK
  refine W.widen (k := 1) (n := 2) (Nat.le_of_ble_eq_true rfl) (Nat.le_of_ble_eq_true rfl) ?_
  have hP9 := hP.sub (ws' := [(bv, .inl (kB, 16, .inl fb)), (r_3, .inl (kN_4, 2, .inl fz_5))]) [0, 1] rfl
  have hD9 := hD.sub (ws' := [(bv, .inl (kB, 16, .inl fb)), (r_3, .inl (kN_4, 2, .inl fz_5))]) [0, 1] (by decide) rfl
  have hK9 := hK.sub (tys' := [(kB, .byte), (kN_4, .byte)]) [0, 2] rfl
  exact W.aret (v := .ref r_3) hx hb hr (Or.inr ⟨_, rfl⟩) (Or.inr ⟨_, rfl⟩) (fun t ht hW => ⟨⟨(), _, rfl, trivial, kN_4, fz_5, by rw [ht]; exact hP9, va_K.moved hW.alike hK9, hD9⟩, hS.F ht⟩) hS.2.2 dJ7_copyOfRange_39247_16

set_option maxHeartbeats 4000000 in
set_option maxRecDepth 100000 in
theorem c_Str_initV2 (l : Launch) (dC : Nat → ClassId) (dI : Nat → Nat → Nat) (d : Nat) (tc : Nat) (ad : Nat → Nat) (zs : Nat) (y : Nat) (bv : Nat) (kB : ClassId) (fb : Nat → Int32) (sz : Nat) (hfb : sb_Fit fb) : Met l yJ0_init_db425 wsJ0_init_db425 ({ frames := 3, cells := 1, slots := 2, locals := 126 }) (va_Pc [.ref zs, .ref y, .null] (PZ dC dI d tc ad sz [(zs, .inr (0, [.null, .int 0, .int 0, .int 0])), (y, .inr (1, [.ref bv, .int 0, .int 0, .int 2])), (bv, .inl (kB, 16, .inl fb))] [(kB, .byte)])) (va_Qv (fun _ : Unit => True) (fun _ t => ∃ (g2 : Nat), va_P (dC, dI) vwCl [(zs, .inr (0, [.ref g2, .int 0, .int 0, .int 0]))] t.heap ∧ va_K (dC, dI) vwCl [] t ∧ va_D (va_A [(zs, .inr (0, [.null, .int 0, .int 0, .int 0])), (y, .inr (1, [.ref bv, .int 0, .int 0, .int 2])), (bv, .inl (kB, 16, .inl fb))] sz) [(zs, .inr (0, [.ref g2, .int 0, .int 0, .int 0]))]) (va_A [(zs, .inr (0, [.null, .int 0, .int 0, .int 0])), (y, .inr (1, [.ref bv, .int 0, .int 0, .int 2])), (bv, .inl (kB, 16, .inl fb))] sz)) 1 2 (va_A [(zs, .inr (0, [.null, .int 0, .int 0, .int 0])), (y, .inr (1, [.ref bv, .int 0, .int 0, .int 2])), (bv, .inl (kB, 16, .inl fb))] sz) := by
  refine Met.ofW (cc := cJ0_init_db425) (maxL := 5) (ret := none) (by decide) rfl ?_
  intro p e s m args below meth c s₁ B hml hv
  obtain ⟨rfl, hsz, hP, hK, hD0, hF, hZ⟩ := hv
  have hx := B.exec
  have hb := B.bytes
  have hr := B.returns
  have hts := atoms_spec (ws := wsJ0_init_db425) B.pre
  have hown : s.vm.findClass RJ0 = some m.cls := findClass_of_methodNamed B.named
  have hlocks := B.notSynchronized
  have hin : meth.name = "<init>" := (name_of_methodNamed B.named B.method).1
  subst hsz
  have hD := hD0.self (sz := s.heap.size)
  generalize hAe : va_A [(zs, .inr (0, [.null, .int 0, .int 0, .int 0])), (y, .inr (1, [.ref bv, .int 0, .int 0, .int 2])), (bv, .inl (kB, 16, .inl fb))] s.heap.size = A at hD hZ ⊢
  have hA : ∀ q : Nat, s.heap.size ≤ q → A q := fun q h => by rw [← hAe]; exact Or.inr h
  have hS : va_S A s.heap s.heap [] := va_S.rf
  have hl := lv_entry ([.ref zs, .ref y, .null]) (n := 5) (Nat.le_of_ble_eq_true rfl)
  rw [lg_entry_eq]
  generalize (lg_sl ([.ref zs, .ref y, .null]) ++ List.replicate (5 - (lg_sl ([.ref zs, .ref y, .null])).length) Slot.unset).toArray = ls at hl ⊢
  have hl : lv_has ls 5 [(0, .ref zs), (1, .ref y), (2, .null)] := hl
  refine lv_aload_n hx hb dJ0_init_db425_0 rfl (lv_at hl 0 rfl) ?_
  refine W.objInit hx hb hown (hts (.methodLink RJ0 1 objectInit) (List.mem_of_getElem? (i := 1) rfl)) (hts (.instanceMethod objectInit) (List.mem_of_getElem? (i := 2) rfl)) (hts _ (List.mem_of_getElem? (i := 3) rfl)) rfl (by rw [hml]; exact hl.1) rfl dJ0_init_db425_1 (Nat.le_of_ble_eq_true rfl) (Nat.le_of_ble_eq_true rfl) ?_
  refine W.eq (g2 := F0 m 4 ls []) rfl ?_
  refine lv_aload_n hx hb dJ0_init_db425_4 rfl (lv_at hl 1 rfl) ?_
  refine va_csq (va_Run.run (va_runU (As := []) (rest := []) ⟨hx, hb, hml, hown, hts⟩ (c_SB_getValue l dC dI y bv 2) (va_cwU 0 hts gJ0_init_db425_J5_getValue_6d5f1_u552J4 rfl rfl rfl rfl (by decide +kernel) ⟨Nat.le_of_ble_eq_true rfl, Nat.le_of_ble_eq_true rfl⟩) ⟨PS_blind, va_recv hK hP (ci := 1) (q0 := 1) rfl rfl, PS_pre (hP.sub (ws' := [(y, .inr (1, [.ref bv, .int 0, .int 0, .int 2]))]) [1] rfl) (hK.sub (tys' := []) [] rfl) hF⟩ rfl rfl hl.1 rfl (lv_room (Nat.le_of_ble_eq_true rfl)) dJ0_init_db425_5 ⟨Nat.le_of_ble_eq_true rfl, Nat.le_of_ble_eq_true rfl⟩)) (fun r_1 hr_1 => ?_)
  subst hr_1
  refine W.eq (g2 := F0 m 8 ls [.ref bv]) rfl ?_
  refine lv_astore_n (lv' := [(3, .ref bv), (0, .ref zs), (1, .ref y), (2, .null)]) hx hb dJ0_init_db425_8 rfl hl (by decide) rfl (fun ls hl => ?_)
  refine lv_aload_n hx hb dJ0_init_db425_9 rfl (lv_at hl 2 rfl) ?_
  refine vp_callSi (va_Run.run (va_runU (As := []) (rest := []) ⟨hx, hb, hml, hown, hts⟩ (c_SB_length l dC dI y bv 2) (va_cwO 0 hts gJ0_init_db425_J4_length_8abf5_u549J4 rfl rfl rfl (List.mem_of_getElem? (i := 25) rfl : (Cond.code yJ5_length_8abf5 cJ5_length_8abf5 1 (some .int)) ∈ wsJ0_init_db425) (by decide +kernel) ⟨Nat.le_of_ble_eq_true rfl, Nat.le_of_ble_eq_true rfl⟩) ⟨PS_blind, va_recv hK hP (ci := 1) (q0 := 1) rfl rfl, PS_pre (hP.sub (ws' := [(y, .inr (1, [.ref bv, .int 0, .int 0, .int 2]))]) [1] rfl) (hK.sub (tys' := []) [] rfl) hF⟩ rfl rfl hl.1 rfl (lv_room (Nat.le_of_ble_eq_true rfl)) dJ0_init_db425_10 ⟨Nat.le_of_ble_eq_true rfl, Nat.le_of_ble_eq_true rfl⟩)) (fun r_2 hr_2 => ?_)
  subst hr_2
  refine lv_istore (lv' := [(4, .int 2), (3, .ref bv), (0, .ref zs), (1, .ref y), (2, .null)]) hx hb dJ0_init_db425_13 hl (by decide) rfl (fun ls hl => ?_)
  refine lv_aload_n hx hb dJ0_init_db425_15 rfl (lv_at hl 3 rfl) ?_
  refine vp_callSi (va_Run.run (va_runU (As := []) (rest := []) ⟨hx, hb, hml, hown, hts⟩ (c_SB_isLatin1 l dC dI d tc ad y bv 2) (va_cwU 0 hts gJ0_init_db425_J5_isLatin1_aae02_u1047J4 rfl rfl rfl rfl (by decide +kernel) ⟨Nat.le_of_ble_eq_true rfl, Nat.le_of_ble_eq_true rfl⟩) ⟨PY_blind, va_recv hK hP (ci := 1) (q0 := 1) rfl rfl, PY_pre (hP.sub (ws' := [(y, .inr (1, [.ref bv, .int 0, .int 0, .int 2]))]) [1] rfl) (hK.sub (tys' := []) [] rfl) hF hZ hS⟩ rfl rfl hl.1 rfl (lv_room (Nat.le_of_ble_eq_true rfl)) dJ0_init_db425_16 ⟨Nat.le_of_ble_eq_true rfl, Nat.le_of_ble_eq_true rfl⟩)) (fun r_3 hr_3 => ?_)
  subst hr_3
  refine lv_if_eq (tgt := 41) hx hb dJ0_init_db425_19 (by decide) (fun c_4 => absurd c_4 (by decide)) (fun _ => ?_)
  refine lv_aload_n hx hb dJ0_init_db425_22 rfl (lv_at hl 2 rfl) ?_
  refine lv_iconst (v := 0) hx hb dJ0_init_db425_23 (by decide) ?_
  refine va_putF (D := (dC, dI)) (ci := 0) (v := .int 0) (ty := .byte) (C := RJ0) (T := TJ0) (N := 4) hx hb hts (fun _ h9 => List.mem_cons_of_mem _ (List.mem_append_left _ (List.mem_append_right _ (h9)))) tyJ0 tyJ0_ok nmJ0 hown hK hP hD hS 0 rfl rfl 1 (by decide) (hts (.fieldLink RJ0 15 "java/lang/String" "coder" "B") (List.mem_of_getElem? (i := 4) rfl)) (fun _ h9 => h9) rfl hin rfl (by decide +kernel) (by decide) (by decide) (Nat.le_of_ble_eq_true rfl) dJ0_init_db425_24 (fun H locs hP hD hS => ?_)
  have hP : va_P (dC, dI) vwCl [(zs, .inr (0, [.null, .int 0, .int 0, .int 0])), (y, .inr (1, [.ref bv, .int 0, .int 0, .int 2])), (bv, .inl (kB, 16, .inl fb))] H := hP
  have hD : va_D A [(zs, .inr (0, [.null, .int 0, .int 0, .int 0])), (y, .inr (1, [.ref bv, .int 0, .int 0, .int 2])), (bv, .inl (kB, 16, .inl fb))] := hD
  refine lv_aload_n hx hb dJ0_init_db425_27 rfl (lv_at hl 2 rfl) ?_
  refine lv_aload_n hx hb dJ0_init_db425_28 rfl (lv_at hl 1 rfl) ?_
  refine lv_iconst (v := 0) hx hb dJ0_init_db425_29 (by decide) ?_
  refine lv_iload hx hb dJ0_init_db425_30 (lv_at hl 0 rfl) ?_
  have hPc := hP.sub (ws' := [(bv, .inl (kB, 16, .inl fb))]) [2] rfl
  have hDc := hD.sub (ws' := [(bv, .inl (kB, 16, .inl fb))]) [2] (by decide) rfl
  have hKc := hK.sub (tys' := [(kB, .byte)]) [0] rfl
  have hFc := va_free (wc := [(bv, .inl (kB, 16, .inl fb))]) hD hS hA [2] rfl
  refine va_callr (va_runS (As := [.ref bv, .int 0, .int 2]) (rest := [.ref zs]) ⟨hx, hb, hml, hown, hts⟩ (c_Arr_cor2 l dC dI bv kB fb H.size hfb) (va_cwS 3 hts gJ0_init_db425_J7_copyOfRange_39247 rfl rfl rfl (by decide +kernel) ⟨Nat.le_of_ble_eq_true rfl, Nat.le_of_ble_eq_true rfl⟩) ⟨PQ_blind, PQ_pre hPc hKc hDc hF⟩ rfl rfl hl.1 rfl (lv_room (Nat.le_of_ble_eq_true rfl)) dJ0_init_db425_32 ⟨Nat.le_of_ble_eq_true rfl, Nat.le_of_ble_eq_true rfl⟩) hS (fun q _ h => hFc q h) hFc (fun u r_5 t H1 locs ht hvm hw hB hz1 hk1 hS => ?_)
  obtain ⟨kN_6, fz_7, hP1, hK1, hD1⟩ := hB
  rw [ht] at hP1
  have hK1 := va_K.moved hvm.symm hK1
  obtain ⟨hP, hD⟩ := va_join (wr := [(zs, .inr (0, [.null, .int 0, .int 0, .int 0])), (y, .inr (1, [.ref bv, .int 0, .int 0, .int 2]))]) (w1 := [(bv, .inl (kB, 16, .inl fb)), (r_5, .inl (kN_6, 2, .inl fz_7))]) hP hD [2] [0, 1] rfl rfl (by decide) (by decide) hk1 hFc hP1 hD1
  have hK := hK.app hK1
  generalize H1 = H at hP hS ⊢
  have hP : va_P (dC, dI) vwCl [(zs, .inr (0, [.null, .int 0, .int 0, .int 0])), (y, .inr (1, [.ref bv, .int 0, .int 0, .int 2])), (bv, .inl (kB, 16, .inl fb)), (r_5, .inl (kN_6, 2, .inl fz_7))] H := hP
  have hD : va_D A [(zs, .inr (0, [.null, .int 0, .int 0, .int 0])), (y, .inr (1, [.ref bv, .int 0, .int 0, .int 2])), (bv, .inl (kB, 16, .inl fb)), (r_5, .inl (kN_6, 2, .inl fz_7))] := hD
  have hK : va_K (dC, dI) vwCl [(kB, .byte), (kB, .byte), (kN_6, .byte)] s := hK
  refine W.widen (k := 1) (n := 2) (Nat.le_of_ble_eq_true rfl) (Nat.le_of_ble_eq_true rfl) ?_
  refine va_putF (D := (dC, dI)) (ci := 0) (v := .ref r_5) (ty := .array .byte) (C := RJ0) (T := TJ0) (N := 4) hx hb hts (fun _ h9 => List.mem_cons_of_mem _ (List.mem_append_left _ (List.mem_append_right _ (h9)))) tyJ0 tyJ0_ok nmJ0 hown hK hP hD hS 0 rfl rfl 0 (by decide) (hts (.fieldLink RJ0 9 "java/lang/String" "value" "[B") (List.mem_of_getElem? (i := 5) rfl)) (fun _ h9 => h9) rfl hin rfl (by decide +kernel) rfl rfl (Nat.le_of_ble_eq_true rfl) dJ0_init_db425_35 (fun H locs hP hD hS => ?_)
  have hP : va_P (dC, dI) vwCl [(zs, .inr (0, [.ref r_5, .int 0, .int 0, .int 0])), (y, .inr (1, [.ref bv, .int 0, .int 0, .int 2])), (bv, .inl (kB, 16, .inl fb)), (r_5, .inl (kN_6, 2, .inl fz_7))] H := hP
  have hD : va_D A [(zs, .inr (0, [.ref r_5, .int 0, .int 0, .int 0])), (y, .inr (1, [.ref bv, .int 0, .int 0, .int 2])), (bv, .inl (kB, 16, .inl fb)), (r_5, .inl (kN_6, 2, .inl fz_7))] := hD
  refine lv_goto (tgt := 97) hx hb dJ0_init_db425_38 (by decide) ?_
  have hP9 := hP.sub (ws' := [(zs, .inr (0, [.ref r_5, .int 0, .int 0, .int 0]))]) [0] rfl
  have hD9 := hD.sub (ws' := [(zs, .inr (0, [.ref r_5, .int 0, .int 0, .int 0]))]) [0] (by decide) rfl
  have hK9 := hK.sub (tys' := []) [] rfl
  exact W.vret hx hb hr (fun t ht hW => ⟨⟨(), rfl, trivial, r_5, by rw [ht]; exact hP9, va_K.moved hW.alike hK9, hD9⟩, hS.F ht⟩) hS.2.2 dJ0_init_db425_97

set_option maxHeartbeats 4000000 in
set_option maxRecDepth 100000 in
theorem c_Str_init2 (l : Launch) (dC : Nat → ClassId) (dI : Nat → Nat → Nat) (d : Nat) (tc : Nat) (ad : Nat → Nat) (zs : Nat) (y : Nat) (bv : Nat) (kB : ClassId) (fb : Nat → Int32) (sz : Nat) (hfb : sb_Fit fb) : Met l yJ0_init_81219 wsJ0_init_81219 ({ frames := 4, cells := 1, slots := 2, locals := 150 }) (va_Pc [.ref zs, .ref y] (PZ dC dI d tc ad sz [(zs, .inr (0, [.null, .int 0, .int 0, .int 0])), (y, .inr (1, [.ref bv, .int 0, .int 0, .int 2])), (bv, .inl (kB, 16, .inl fb))] [(kB, .byte)])) (va_Qv (fun _ : Unit => True) (fun _ t => ∃ (g2 : Nat), va_P (dC, dI) vwCl [(zs, .inr (0, [.ref g2, .int 0, .int 0, .int 0]))] t.heap ∧ va_K (dC, dI) vwCl [] t ∧ va_D (va_A [(zs, .inr (0, [.null, .int 0, .int 0, .int 0])), (y, .inr (1, [.ref bv, .int 0, .int 0, .int 2])), (bv, .inl (kB, 16, .inl fb))] sz) [(zs, .inr (0, [.ref g2, .int 0, .int 0, .int 0]))]) (va_A [(zs, .inr (0, [.null, .int 0, .int 0, .int 0])), (y, .inr (1, [.ref bv, .int 0, .int 0, .int 2])), (bv, .inl (kB, 16, .inl fb))] sz)) 1 2 (va_A [(zs, .inr (0, [.null, .int 0, .int 0, .int 0])), (y, .inr (1, [.ref bv, .int 0, .int 0, .int 2])), (bv, .inl (kB, 16, .inl fb))] sz) := by
  refine Met.ofW (cc := cJ0_init_81219) (maxL := 2) (ret := none) (by decide) rfl ?_
  intro p e s m args below meth c s₁ B hml hv
  obtain ⟨rfl, hsz, hP, hK, hD0, hF, hZ⟩ := hv
  have hx := B.exec
  have hb := B.bytes
  have hr := B.returns
  have hts := atoms_spec (ws := wsJ0_init_81219) B.pre
  have hown : s.vm.findClass RJ0 = some m.cls := findClass_of_methodNamed B.named
  have hlocks := B.notSynchronized
  have hin : meth.name = "<init>" := (name_of_methodNamed B.named B.method).1
  subst hsz
  have hD := hD0.self (sz := s.heap.size)
  generalize hAe : va_A [(zs, .inr (0, [.null, .int 0, .int 0, .int 0])), (y, .inr (1, [.ref bv, .int 0, .int 0, .int 2])), (bv, .inl (kB, 16, .inl fb))] s.heap.size = A at hD hZ ⊢
  have hA : ∀ q : Nat, s.heap.size ≤ q → A q := fun q h => by rw [← hAe]; exact Or.inr h
  have hS : va_S A s.heap s.heap [] := va_S.rf
  have hl := lv_entry ([.ref zs, .ref y]) (n := 2) (Nat.le_of_ble_eq_true rfl)
  rw [lg_entry_eq]
  generalize (lg_sl ([.ref zs, .ref y]) ++ List.replicate (2 - (lg_sl ([.ref zs, .ref y])).length) Slot.unset).toArray = ls at hl ⊢
  have hl : lv_has ls 2 [(0, .ref zs), (1, .ref y)] := hl
  refine lv_aload_n hx hb dJ0_init_81219_0 rfl (lv_at hl 0 rfl) ?_
  refine lv_aload_n hx hb dJ0_init_81219_1 rfl (lv_at hl 1 rfl) ?_
  refine lv_null hx hb dJ0_init_81219_2 ?_
  have hPc := hP.sub (ws' := [(zs, .inr (0, [.null, .int 0, .int 0, .int 0])), (y, .inr (1, [.ref bv, .int 0, .int 0, .int 2])), (bv, .inl (kB, 16, .inl fb))]) [0, 1, 2] rfl
  have hDc := hD.sub (ws' := [(zs, .inr (0, [.null, .int 0, .int 0, .int 0])), (y, .inr (1, [.ref bv, .int 0, .int 0, .int 2])), (bv, .inl (kB, 16, .inl fb))]) [0, 1, 2] (by decide) rfl
  have hKc := hK.sub (tys' := [(kB, .byte)]) [0] rfl
  have hFc := va_free (wc := [(zs, .inr (0, [.null, .int 0, .int 0, .int 0])), (y, .inr (1, [.ref bv, .int 0, .int 0, .int 2])), (bv, .inl (kB, 16, .inl fb))]) hD hS hA [0, 1, 2] rfl
  refine va_callv (va_runI (As := [.ref y, .null]) (rest := []) ⟨hx, hb, hml, hown, hts⟩ (c_Str_initV2 l dC dI d tc ad zs y bv kB fb s.heap.size hfb) (cwI 2 hts gJ0_init_81219_J0_init_db425 rfl rfl rfl (hts (.initialized RJ0) (List.mem_of_getElem? (i := 3) rfl)) (hts (.methodLink RJ0 489 yJ0_init_db425) (List.mem_of_getElem? (i := 1) rfl)) (hts (.instanceMethod yJ0_init_db425) (List.mem_of_getElem? (i := 2) rfl)) rfl (by decide +kernel) ⟨Nat.le_of_ble_eq_true rfl, Nat.le_of_ble_eq_true rfl⟩) ⟨PZ_blind, PZ_pre hPc hKc hDc hF hZ hS hFc⟩ rfl rfl hl.1 rfl (lv_room (Nat.le_of_ble_eq_true rfl)) dJ0_init_81219_3 ⟨Nat.le_of_ble_eq_true rfl, Nat.le_of_ble_eq_true rfl⟩) hS (fun q _ h => hFc q h) hFc (fun u t H1 locs ht hvm hw hB hz1 hk1 hS => ?_)
  obtain ⟨g2_2, hP1, hK1, hD1⟩ := hB
  rw [ht] at hP1
  have hK1 := va_K.moved hvm.symm hK1
  obtain ⟨hP, hD⟩ := va_join (wr := []) (w1 := [(zs, .inr (0, [.ref g2_2, .int 0, .int 0, .int 0]))]) hP hD [0, 1, 2] [] rfl rfl (by decide) (by decide) hk1 hFc hP1 hD1
  have hK := hK.app hK1
  generalize H1 = H at hP hS ⊢
  have hP : va_P (dC, dI) vwCl [(zs, .inr (0, [.ref g2_2, .int 0, .int 0, .int 0]))] H := hP
  have hD : va_D A [(zs, .inr (0, [.ref g2_2, .int 0, .int 0, .int 0]))] := hD
  have hK : va_K (dC, dI) vwCl [(kB, .byte)] s := hK
  refine W.widen (k := 1) (n := 2) (Nat.le_of_ble_eq_true rfl) (Nat.le_of_ble_eq_true rfl) ?_
  have hP9 := hP.sub (ws' := [(zs, .inr (0, [.ref g2_2, .int 0, .int 0, .int 0]))]) [0] rfl
  have hD9 := hD.sub (ws' := [(zs, .inr (0, [.ref g2_2, .int 0, .int 0, .int 0]))]) [0] (by decide) rfl
  have hK9 := hK.sub (tys' := []) [] rfl
  exact W.vret hx hb hr (fun t ht hW => ⟨⟨(), rfl, trivial, g2_2, by rw [ht]; exact hP9, va_K.moved hW.alike hK9, hD9⟩, hS.F ht⟩) hS.2.2 dJ0_init_81219_6

set_option maxHeartbeats 4000000 in
set_option maxRecDepth 100000 in
theorem c_SB_toString2 (l : Launch) (dC : Nat → ClassId) (dI : Nat → Nat → Nat) (d : Nat) (tc : Nat) (ad : Nat → Nat) (y : Nat) (bv : Nat) (kB : ClassId) (fb : Nat → Int32) (sz : Nat) (hfb : sb_Fit fb) : Met l yJ4_toString_0e30d wsJ4_toString_0e30d ({ frames := 5, cells := 2, slots := 6, locals := 171 }) (va_Pc [.ref y] (PZ dC dI d tc ad sz [(y, .inr (1, [.ref bv, .int 0, .int 0, .int 2])), (bv, .inl (kB, 16, .inl fb))] [(kB, .byte)])) (va_Qr (fun _ : Unit => True) (fun _ ra t => ∃ (g2 : Nat), va_P (dC, dI) vwCl [(ra, .inr (0, [.ref g2, .int 0, .int 0, .int 0]))] t.heap ∧ va_K (dC, dI) vwCl [] t ∧ va_D (va_A [(y, .inr (1, [.ref bv, .int 0, .int 0, .int 2])), (bv, .inl (kB, 16, .inl fb))] sz) [(ra, .inr (0, [.ref g2, .int 0, .int 0, .int 0]))]) (va_A [(y, .inr (1, [.ref bv, .int 0, .int 0, .int 2])), (bv, .inl (kB, 16, .inl fb))] sz)) 2 6 (va_A [(y, .inr (1, [.ref bv, .int 0, .int 0, .int 2])), (bv, .inl (kB, 16, .inl fb))] sz) := by
  refine Met.ofW (cc := cJ4_toString_0e30d) (maxL := 1) (ret := (some (.object "java/lang/String"))) (by decide) rfl ?_
  intro p e s m args below meth c s₁ B hml hv
  obtain ⟨rfl, hsz, hP, hK, hD0, hF, hZ⟩ := hv
  have hx := B.exec
  have hb := B.bytes
  have hr := B.returns
  have hts := atoms_spec (ws := wsJ4_toString_0e30d) B.pre
  have hown : s.vm.findClass RJ4 = some m.cls := findClass_of_methodNamed B.named
  have hlocks := B.notSynchronized
  subst hsz
  have hD := hD0.self (sz := s.heap.size)
  generalize hAe : va_A [(y, .inr (1, [.ref bv, .int 0, .int 0, .int 2])), (bv, .inl (kB, 16, .inl fb))] s.heap.size = A at hD hZ ⊢
  have hA : ∀ q : Nat, s.heap.size ≤ q → A q := fun q h => by rw [← hAe]; exact Or.inr h
  have hS : va_S A s.heap s.heap [] := va_S.rf
  have hl := lv_entry ([.ref y]) (n := 1) (Nat.le_of_ble_eq_true rfl)
  rw [lg_entry_eq]
  generalize (lg_sl ([.ref y]) ++ List.replicate (1 - (lg_sl ([.ref y])).length) Slot.unset).toArray = ls at hl ⊢
  have hl : lv_has ls 1 [(0, .ref y)] := hl
  refine va_new (ci := 0) (fs := [.null, .int 0, .int 0, .int 0]) (C := RJ0) (T := TJ0) (N := 4) hx hb hts (fun _ h9 => List.mem_cons_of_mem _ (List.mem_append_left _ (List.mem_append_right _ (h9)))) tyJ0 tyJ0_ok hown (hts (.classLink RJ4 18 RJ0) (List.mem_of_getElem? (i := 1) rfl)) (hts (.instantiable RJ0 4) (List.mem_of_getElem? (i := 2) rfl)) (hts (.initialized RJ0) (List.mem_of_getElem? (i := 3) rfl)) hK hP hD hS hA rfl dfJ0 (Nat.le_of_ble_eq_true rfl) (Nat.le_of_ble_eq_true rfl) dJ4_toString_0e30d_0 (fun q_1 H hP hD hS => ?_)
  have hP : va_P (dC, dI) vwCl [(y, .inr (1, [.ref bv, .int 0, .int 0, .int 2])), (bv, .inl (kB, 16, .inl fb)), (q_1, .inr (0, [.null, .int 0, .int 0, .int 0]))] H := hP
  have hD : va_D A [(y, .inr (1, [.ref bv, .int 0, .int 0, .int 2])), (bv, .inl (kB, 16, .inl fb)), (q_1, .inr (0, [.null, .int 0, .int 0, .int 0]))] := hD
  refine W.widen (k := 1) (n := 4) (Nat.le_of_ble_eq_true rfl) (Nat.le_of_ble_eq_true rfl) ?_
  refine lv_dup hx hb dJ4_toString_0e30d_3 rfl ?_
  refine lv_aload_n hx hb dJ4_toString_0e30d_4 rfl (lv_at hl 0 rfl) ?_
  have hPc := hP.sub (ws' := [(q_1, .inr (0, [.null, .int 0, .int 0, .int 0])), (y, .inr (1, [.ref bv, .int 0, .int 0, .int 2])), (bv, .inl (kB, 16, .inl fb))]) [2, 0, 1] rfl
  have hDc := hD.sub (ws' := [(q_1, .inr (0, [.null, .int 0, .int 0, .int 0])), (y, .inr (1, [.ref bv, .int 0, .int 0, .int 2])), (bv, .inl (kB, 16, .inl fb))]) [2, 0, 1] (by decide) rfl
  have hKc := hK.sub (tys' := [(kB, .byte)]) [0] rfl
  have hFc := va_free (wc := [(q_1, .inr (0, [.null, .int 0, .int 0, .int 0])), (y, .inr (1, [.ref bv, .int 0, .int 0, .int 2])), (bv, .inl (kB, 16, .inl fb))]) hD hS hA [2, 0, 1] rfl
  refine va_callv (va_runI (As := [.ref y]) (rest := [.ref q_1]) ⟨hx, hb, hml, hown, hts⟩ (c_Str_init2 l dC dI d tc ad q_1 y bv kB fb H.size hfb) (cwI 1 hts gJ4_toString_0e30d_J0_init_81219 rfl rfl rfl (hts (.initialized RJ0) (List.mem_of_getElem? (i := 3) rfl)) (hts (.methodLink RJ4 137 yJ0_init_81219) (List.mem_of_getElem? (i := 4) rfl)) (hts (.instanceMethod yJ0_init_81219) (List.mem_of_getElem? (i := 5) rfl)) rfl (by decide +kernel) ⟨Nat.le_of_ble_eq_true rfl, Nat.le_of_ble_eq_true rfl⟩) ⟨PZ_blind, PZ_pre hPc hKc hDc hF hZ hS hFc⟩ rfl rfl hl.1 rfl (lv_room (Nat.le_of_ble_eq_true rfl)) dJ4_toString_0e30d_5 ⟨Nat.le_of_ble_eq_true rfl, Nat.le_of_ble_eq_true rfl⟩) hS (fun q _ h => hFc q h) hFc (fun u t H1 locs ht hvm hw hB hz1 hk1 hS => ?_)
  obtain ⟨g2_3, hP1, hK1, hD1⟩ := hB
  rw [ht] at hP1
  have hK1 := va_K.moved hvm.symm hK1
  obtain ⟨hP, hD⟩ := va_join (wr := []) (w1 := [(q_1, .inr (0, [.ref g2_3, .int 0, .int 0, .int 0]))]) hP hD [2, 0, 1] [] rfl rfl (by decide) (by decide) hk1 hFc hP1 hD1
  have hK := hK.app hK1
  generalize H1 = H at hP hS ⊢
  have hP : va_P (dC, dI) vwCl [(q_1, .inr (0, [.ref g2_3, .int 0, .int 0, .int 0]))] H := hP
  have hD : va_D A [(q_1, .inr (0, [.ref g2_3, .int 0, .int 0, .int 0]))] := hD
  have hK : va_K (dC, dI) vwCl [(kB, .byte)] s := hK
  refine W.widen (k := 2) (n := 6) (Nat.le_of_ble_eq_true rfl) (Nat.le_of_ble_eq_true rfl) ?_
  have hP9 := hP.sub (ws' := [(q_1, .inr (0, [.ref g2_3, .int 0, .int 0, .int 0]))]) [0] rfl
  have hD9 := hD.sub (ws' := [(q_1, .inr (0, [.ref g2_3, .int 0, .int 0, .int 0]))]) [0] (by decide) rfl
  have hK9 := hK.sub (tys' := []) [] rfl
  exact W.aret (v := .ref q_1) hx hb hr (Or.inl ⟨_, rfl⟩) (Or.inr ⟨_, rfl⟩) (fun t ht hW => ⟨⟨(), _, rfl, trivial, g2_3, by rw [ht]; exact hP9, va_K.moved hW.alike hK9, hD9⟩, hS.F ht⟩) hS.2.2 dJ4_toString_0e30d_8

set_option maxHeartbeats 4000000 in
set_option maxRecDepth 100000 in
theorem c_Arr_corb3 (l : Launch) (dC : Nat → ClassId) (dI : Nat → Nat → Nat) (bv : Nat) (kB : ClassId) (fb : Nat → Int32) (sz : Nat) (hfb : sb_Fit fb) : Met l yJ7_copyOfRangeByte_39247 wsJ7_copyOfRangeByte_39247 ({ frames := 1, cells := 1, slots := 3, locals := 80 }) (va_Pc [.ref bv, .int 0, .int 3] (PQ dC dI sz [(bv, .inl (kB, 16, .inl fb))] [(kB, .byte)])) (va_Qr (fun _ : Unit => True) (fun _ ra t => ∃ (kN : ClassId) (fz : Nat → Int32), va_P (dC, dI) vwCl [(bv, .inl (kB, 16, .inl fb)), (ra, .inl (kN, 3, .inl fz))] t.heap ∧ va_K (dC, dI) vwCl [(kB, .byte), (kN, .byte)] t ∧ va_D (va_A [(bv, .inl (kB, 16, .inl fb))] sz) [(bv, .inl (kB, 16, .inl fb)), (ra, .inl (kN, 3, .inl fz))]) (va_A [(bv, .inl (kB, 16, .inl fb))] sz)) 1 3 (va_A [(bv, .inl (kB, 16, .inl fb))] sz) := by
  refine Met.ofW (cc := cJ7_copyOfRangeByte_39247) (maxL := 5) (ret := (some (.array .byte))) (by decide) rfl ?_
  intro p e s m args below meth c s₁ B hml hv
  obtain ⟨rfl, hsz, hP, hK, hD0, hF⟩ := hv
  have hx := B.exec
  have hb := B.bytes
  have hr := B.returns
  have hts := atoms_spec (ws := wsJ7_copyOfRangeByte_39247) B.pre
  have hown : s.vm.findClass RJ7 = some m.cls := findClass_of_methodNamed B.named
  have hlocks := B.notSynchronized
  subst hsz
  have hD := hD0.self (sz := s.heap.size)
  generalize hAe : va_A [(bv, .inl (kB, 16, .inl fb))] s.heap.size = A at hD ⊢
  have hA : ∀ q : Nat, s.heap.size ≤ q → A q := fun q h => by rw [← hAe]; exact Or.inr h
  have hS : va_S A s.heap s.heap [] := va_S.rf
  have hl := lv_entry ([.ref bv, .int 0, .int 3]) (n := 5) (Nat.le_of_ble_eq_true rfl)
  rw [lg_entry_eq]
  generalize (lg_sl ([.ref bv, .int 0, .int 3]) ++ List.replicate (5 - (lg_sl ([.ref bv, .int 0, .int 3])).length) Slot.unset).toArray = ls at hl ⊢
  have hl : lv_has ls 5 [(0, .ref bv), (1, .int 0), (2, .int 3)] := hl
  refine lv_iload_n hx hb dJ7_copyOfRangeByte_39247_0 rfl (lv_at hl 1 rfl) ?_
  refine lv_iload_n hx hb dJ7_copyOfRangeByte_39247_1 rfl (lv_at hl 2 rfl) ?_
  refine va_csv (va_Run.run (va_runS (As := [.int 0, .int 3]) (rest := []) ⟨hx, hb, hml, hown, hts⟩ (c_Arr_checkLength l dC dI 0 3 (by decide)) (va_cwS 2 hts gJ7_copyOfRangeByte_39247_J7_checkLength_df160 rfl rfl rfl (by decide +kernel) ⟨Nat.le_of_ble_eq_true rfl, Nat.le_of_ble_eq_true rfl⟩) ⟨PS_blind, PS_pre (hP.sub (ws' := []) [] rfl) (hK.sub (tys' := []) [] rfl) hF⟩ rfl rfl hl.1 rfl (lv_room (Nat.le_of_ble_eq_true rfl)) dJ7_copyOfRangeByte_39247_2 ⟨Nat.le_of_ble_eq_true rfl, Nat.le_of_ble_eq_true rfl⟩)) (fun _ => ?_)
  refine lv_iload_n hx hb dJ7_copyOfRangeByte_39247_5 rfl (lv_at hl 2 rfl) ?_
  refine lv_iload_n hx hb dJ7_copyOfRangeByte_39247_6 rfl (lv_at hl 1 rfl) ?_
  refine lv_isub hx hb dJ7_copyOfRangeByte_39247_7 ?_
  refine lv_topi (fun f_2 ef_2 => ?_)
  obtain rfl : f_2 = 3 := ef_2.trans (by decide)
  refine lv_istore_n (lv' := [(3, .int 3), (0, .ref bv), (1, .int 0), (2, .int 3)]) hx hb dJ7_copyOfRangeByte_39247_8 rfl hl (by decide) rfl (fun ls hl => ?_)
  refine lv_iload_n hx hb dJ7_copyOfRangeByte_39247_9 rfl (lv_at hl 0 rfl) ?_
  refine va_newa (atype := .byte) (ty := .byte) (a0 := (3, (.inl (fun _ => 0)))) hx hb (hts (.arrayClass .byte) (List.mem_of_getElem? (i := 1) rfl)) rfl hK hP hD hS hA (fun _ => rfl) (by decide) (by decide) (Nat.le_of_ble_eq_true rfl) (Nat.le_of_ble_eq_true rfl) (Nat.le_of_ble_eq_true rfl) dJ7_copyOfRangeByte_39247_10 (fun q_3 k_4 H hK hP hD hS => ?_)
  have hP : va_P (dC, dI) vwCl [(bv, .inl (kB, 16, .inl fb)), (q_3, .inl (k_4, 3, .inl (fun _ => 0)))] H := hP
  have hD : va_D A [(bv, .inl (kB, 16, .inl fb)), (q_3, .inl (k_4, 3, .inl (fun _ => 0)))] := hD
  have hK : va_K (dC, dI) vwCl [(kB, .byte), (k_4, .byte)] s := hK
  refine W.widen (k := 1) (n := 3) (Nat.le_of_ble_eq_true rfl) (Nat.le_of_ble_eq_true rfl) ?_
  refine lv_astore (lv' := [(4, .ref q_3), (3, .int 3), (0, .ref bv), (1, .int 0), (2, .int 3)]) hx hb dJ7_copyOfRangeByte_39247_12 hl (by decide) rfl (fun ls hl => ?_)
  refine lv_aload_n hx hb dJ7_copyOfRangeByte_39247_14 rfl (lv_at hl 2 rfl) ?_
  refine lv_iload_n hx hb dJ7_copyOfRangeByte_39247_15 rfl (lv_at hl 3 rfl) ?_
  refine lv_aload hx hb dJ7_copyOfRangeByte_39247_16 (lv_at hl 0 rfl) ?_
  refine lv_iconst (v := 0) hx hb dJ7_copyOfRangeByte_39247_18 (by decide) ?_
  refine lv_aload_n hx hb dJ7_copyOfRangeByte_39247_19 rfl (lv_at hl 2 rfl) ?_
  refine va_alen hx hb hK hP 0 0 rfl rfl (v := 16) rfl dJ7_copyOfRangeByte_39247_20 ?_
  refine lv_iload_n hx hb dJ7_copyOfRangeByte_39247_21 rfl (lv_at hl 3 rfl) ?_
  refine lv_isub hx hb dJ7_copyOfRangeByte_39247_22 ?_
  refine lv_topi (fun f_5 ef_5 => ?_)
  obtain rfl : f_5 = 16 := ef_5.trans (by decide)
  refine lv_iload_n hx hb dJ7_copyOfRangeByte_39247_23 rfl (lv_at hl 1 rfl) ?_
  refine va_mmin hx hb (hml.trans hl.1.symm) hown (hts (.methodLink RJ7 304 Lib.Math.min.name) (List.mem_of_getElem? (i := 2) rfl)) (hts (.static Lib.Math.min.name) (List.mem_of_getElem? (i := 3) rfl)) (hts (.initialized "java/lang/Math") (List.mem_of_getElem? (i := 4) rfl)) (hts (.code Lib.Math.min.name Lib.Math.min.code 2 (some .int)) (List.mem_of_getElem? (i := 5) rfl)) (Nat.le_of_ble_eq_true rfl) (Nat.le_of_ble_eq_true rfl) (Nat.le_of_ble_eq_true rfl) (Nat.le_of_ble_eq_true rfl) dJ7_copyOfRangeByte_39247_24 ?_
  refine lv_topi (fun f_6 ef_6 => ?_)
  obtain rfl : f_6 = 3 := ef_6.trans (by decide)
  refine va_copyi (ty := .byte) hx hb (hml.trans hl.1.symm) hown (hts (.methodLink RJ7 150 arraycopyName) (List.mem_of_getElem? (i := 6) rfl)) (hts (.native arraycopyName) (List.mem_of_getElem? (i := 7) rfl)) (hts (.static arraycopyName) (List.mem_of_getElem? (i := 8) rfl)) (hts (.initialized "java/lang/System") (List.mem_of_getElem? (i := 9) rfl)) hK hP hD hS 0 1 0 1 rfl rfl rfl rfl rfl (sp := 0) (dp := 0) (n := 3) (by decide) (by decide) (by decide) (by decide) (by decide) (fun i _ => hfb _) (Nat.le_of_ble_eq_true rfl) (Nat.le_of_ble_eq_true rfl) dJ7_copyOfRangeByte_39247_27 (fun H locs hP hD hS => ?_)
  have hP : va_P (dC, dI) vwCl [(bv, .inl (kB, 16, .inl fb)), (q_3, .inl (k_4, 3, .inl (va_cpy fb (fun _ => 0) (0 : Int32).toNatClampNeg (0 : Int32).toNatClampNeg (3 : Int32).toNatClampNeg)))] H := hP
  have hD : va_D A [(bv, .inl (kB, 16, .inl fb)), (q_3, .inl (k_4, 3, .inl (va_cpy fb (fun _ => 0) (0 : Int32).toNatClampNeg (0 : Int32).toNatClampNeg (3 : Int32).toNatClampNeg)))] := hD
  have ha_7 : sb_Fit (va_cpy fb (fun _ => 0) (0 : Int32).toNatClampNeg (0 : Int32).toNatClampNeg (3 : Int32).toNatClampNeg) := sb_fitC hfb sb_fit0
  generalize (va_cpy fb (fun _ => 0) (0 : Int32).toNatClampNeg (0 : Int32).toNatClampNeg (3 : Int32).toNatClampNeg) = a_7 at hP hD ha_7
  refine lv_aload hx hb dJ7_copyOfRangeByte_39247_30 (lv_at hl 0 rfl) ?_
  have hP9 := hP.sub (ws' := [(bv, .inl (kB, 16, .inl fb)), (q_3, .inl (k_4, 3, .inl a_7))]) [0, 1] rfl
  have hD9 := hD.sub (ws' := [(bv, .inl (kB, 16, .inl fb)), (q_3, .inl (k_4, 3, .inl a_7))]) [0, 1] (by decide) rfl
  have hK9 := hK.sub (tys' := [(kB, .byte), (k_4, .byte)]) [0, 1] rfl
  exact W.aret (v := .ref q_3) hx hb hr (Or.inr ⟨_, rfl⟩) (Or.inr ⟨_, rfl⟩) (fun t ht hW => ⟨⟨(), _, rfl, trivial, k_4, a_7, by rw [ht]; exact hP9, va_K.moved hW.alike hK9, hD9⟩, hS.F ht⟩) hS.2.2 dJ7_copyOfRangeByte_39247_32

set_option maxHeartbeats 4000000 in
set_option maxRecDepth 100000 in
theorem c_Arr_cor3 (l : Launch) (dC : Nat → ClassId) (dI : Nat → Nat → Nat) (bv : Nat) (kB : ClassId) (fb : Nat → Int32) (sz : Nat) (hfb : sb_Fit fb) : Met l yJ7_copyOfRange_39247 wsJ7_copyOfRange_39247 ({ frames := 2, cells := 1, slots := 3, locals := 104 }) (va_Pc [.ref bv, .int 0, .int 3] (PQ dC dI sz [(bv, .inl (kB, 16, .inl fb))] [(kB, .byte)])) (va_Qr (fun _ : Unit => True) (fun _ ra t => ∃ (kN : ClassId) (fz : Nat → Int32), va_P (dC, dI) vwCl [(bv, .inl (kB, 16, .inl fb)), (ra, .inl (kN, 3, .inl fz))] t.heap ∧ va_K (dC, dI) vwCl [(kB, .byte), (kN, .byte)] t ∧ va_D (va_A [(bv, .inl (kB, 16, .inl fb))] sz) [(bv, .inl (kB, 16, .inl fb)), (ra, .inl (kN, 3, .inl fz))]) (va_A [(bv, .inl (kB, 16, .inl fb))] sz)) 1 3 (va_A [(bv, .inl (kB, 16, .inl fb))] sz) := by
  refine Met.ofW (cc := cJ7_copyOfRange_39247) (maxL := 3) (ret := (some (.array .byte))) (by decide) rfl ?_
  intro p e s m args below meth c s₁ B hml hv
  obtain ⟨rfl, hsz, hP, hK, hD0, hF⟩ := hv
  have hx := B.exec
  have hb := B.bytes
  have hr := B.returns
  have hts := atoms_spec (ws := wsJ7_copyOfRange_39247) B.pre
  have hown : s.vm.findClass RJ7 = some m.cls := findClass_of_methodNamed B.named
  have hlocks := B.notSynchronized
  subst hsz
  have hD := hD0.self (sz := s.heap.size)
  generalize hAe : va_A [(bv, .inl (kB, 16, .inl fb))] s.heap.size = A at hD ⊢
  have hA : ∀ q : Nat, s.heap.size ≤ q → A q := fun q h => by rw [← hAe]; exact Or.inr h
  have hS : va_S A s.heap s.heap [] := va_S.rf
  have hl := lv_entry ([.ref bv, .int 0, .int 3]) (n := 3) (Nat.le_of_ble_eq_true rfl)
  rw [lg_entry_eq]
  generalize (lg_sl ([.ref bv, .int 0, .int 3]) ++ List.replicate (3 - (lg_sl ([.ref bv, .int 0, .int 3])).length) Slot.unset).toArray = ls at hl ⊢
  have hl : lv_has ls 3 [(0, .ref bv), (1, .int 0), (2, .int 3)] := hl
  refine lv_iload_n hx hb dJ7_copyOfRange_39247_0 rfl (lv_at hl 1 rfl) ?_
  refine lv_if_ne (tgt := 10) hx hb dJ7_copyOfRange_39247_1 (by decide) (fun c_1 => absurd (by decide) c_1) (fun _ => ?_)
  refine lv_iload_n hx hb dJ7_copyOfRange_39247_4 rfl (lv_at hl 2 rfl) ?_
  refine lv_aload_n hx hb dJ7_copyOfRange_39247_5 rfl (lv_at hl 0 rfl) ?_
  refine va_alen hx hb hK hP 0 0 rfl rfl (v := 16) rfl dJ7_copyOfRange_39247_6 ?_
  refine lv_icmp_eq (tgt := 17) hx hb dJ7_copyOfRange_39247_7 (by decide) (fun c_2 => absurd c_2 (by decide)) (fun _ => ?_)
  refine lv_aload_n hx hb dJ7_copyOfRange_39247_10 rfl (lv_at hl 0 rfl) ?_
  refine lv_iload_n hx hb dJ7_copyOfRange_39247_11 rfl (lv_at hl 1 rfl) ?_
  refine lv_iload_n hx hb dJ7_copyOfRange_39247_12 rfl (lv_at hl 2 rfl) ?_
  have hPc := hP.sub (ws' := [(bv, .inl (kB, 16, .inl fb))]) [0] rfl
  have hDc := hD.sub (ws' := [(bv, .inl (kB, 16, .inl fb))]) [0] (by decide) rfl
  have hKc := hK.sub (tys' := [(kB, .byte)]) [0] rfl
  have hFc := va_free (wc := [(bv, .inl (kB, 16, .inl fb))]) hD hS hA [0] rfl
  refine va_callr (va_runS (As := [.ref bv, .int 0, .int 3]) (rest := []) ⟨hx, hb, hml, hown, hts⟩ (c_Arr_corb3 l dC dI bv kB fb s.heap.size hfb) (va_cwS 3 hts gJ7_copyOfRange_39247_J7_copyOfRangeByte_39247 rfl rfl rfl (by decide +kernel) ⟨Nat.le_of_ble_eq_true rfl, Nat.le_of_ble_eq_true rfl⟩) ⟨PQ_blind, PQ_pre hPc hKc hDc hF⟩ rfl rfl hl.1 rfl (lv_room (Nat.le_of_ble_eq_true rfl)) dJ7_copyOfRange_39247_13 ⟨Nat.le_of_ble_eq_true rfl, Nat.le_of_ble_eq_true rfl⟩) hS (fun q _ h => hFc q h) hFc (fun u r_3 t H1 locs ht hvm hw hB hz1 hk1 hS => ?_)
  obtain ⟨kN_4, fz_5, hP1, hK1, hD1⟩ := hB
  rw [ht] at hP1
  have hK1 := va_K.moved hvm.symm hK1
  obtain ⟨hP, hD⟩ := va_join (wr := []) (w1 := [(bv, .inl (kB, 16, .inl fb)), (r_3, .inl (kN_4, 3, .inl fz_5))]) hP hD [0] [] rfl rfl (by decide) (by decide) hk1 hFc hP1 hD1
  have hK := hK.app hK1
  generalize H1 = H at hP hS ⊢
  have hP : va_P (dC, dI) vwCl [(bv, .inl (kB, 16, .inl fb)), (r_3, .inl (kN_4, 3, .inl fz_5))] H := hP
  have hD : va_D A [(bv, .inl (kB, 16, .inl fb)), (r_3, .inl (kN_4, 3, .inl fz_5))] := hD
  have hK : va_K (dC, dI) vwCl [(kB, .byte), (kB, .byte), (kN_4, .byte)] s := hK
  refine W.widen (k := 1) (n := 3) (Nat.le_of_ble_eq_true rfl) (Nat.le_of_ble_eq_true rfl) ?_
  have hP9 := hP.sub (ws' := [(bv, .inl (kB, 16, .inl fb)), (r_3, .inl (kN_4, 3, .inl fz_5))]) [0, 1] rfl
  have hD9 := hD.sub (ws' := [(bv, .inl (kB, 16, .inl fb)), (r_3, .inl (kN_4, 3, .inl fz_5))]) [0, 1] (by decide) rfl
  have hK9 := hK.sub (tys' := [(kB, .byte), (kN_4, .byte)]) [0, 2] rfl
  exact W.aret (v := .ref r_3) hx hb hr (Or.inr ⟨_, rfl⟩) (Or.inr ⟨_, rfl⟩) (fun t ht hW => ⟨⟨(), _, rfl, trivial, kN_4, fz_5, by rw [ht]; exact hP9, va_K.moved hW.alike hK9, hD9⟩, hS.F ht⟩) hS.2.2 dJ7_copyOfRange_39247_16

set_option maxHeartbeats 4000000 in
set_option maxRecDepth 100000 in
theorem c_Str_initV3 (l : Launch) (dC : Nat → ClassId) (dI : Nat → Nat → Nat) (d : Nat) (tc : Nat) (ad : Nat → Nat) (zs : Nat) (y : Nat) (bv : Nat) (kB : ClassId) (fb : Nat → Int32) (sz : Nat) (hfb : sb_Fit fb) : Met l yJ0_init_db425 wsJ0_init_db425 ({ frames := 3, cells := 1, slots := 3, locals := 126 }) (va_Pc [.ref zs, .ref y, .null] (PZ dC dI d tc ad sz [(zs, .inr (0, [.null, .int 0, .int 0, .int 0])), (y, .inr (1, [.ref bv, .int 0, .int 0, .int 3])), (bv, .inl (kB, 16, .inl fb))] [(kB, .byte)])) (va_Qv (fun _ : Unit => True) (fun _ t => ∃ (g2 : Nat), va_P (dC, dI) vwCl [(zs, .inr (0, [.ref g2, .int 0, .int 0, .int 0]))] t.heap ∧ va_K (dC, dI) vwCl [] t ∧ va_D (va_A [(zs, .inr (0, [.null, .int 0, .int 0, .int 0])), (y, .inr (1, [.ref bv, .int 0, .int 0, .int 3])), (bv, .inl (kB, 16, .inl fb))] sz) [(zs, .inr (0, [.ref g2, .int 0, .int 0, .int 0]))]) (va_A [(zs, .inr (0, [.null, .int 0, .int 0, .int 0])), (y, .inr (1, [.ref bv, .int 0, .int 0, .int 3])), (bv, .inl (kB, 16, .inl fb))] sz)) 1 3 (va_A [(zs, .inr (0, [.null, .int 0, .int 0, .int 0])), (y, .inr (1, [.ref bv, .int 0, .int 0, .int 3])), (bv, .inl (kB, 16, .inl fb))] sz) := by
  refine Met.ofW (cc := cJ0_init_db425) (maxL := 5) (ret := none) (by decide) rfl ?_
  intro p e s m args below meth c s₁ B hml hv
  obtain ⟨rfl, hsz, hP, hK, hD0, hF, hZ⟩ := hv
  have hx := B.exec
  have hb := B.bytes
  have hr := B.returns
  have hts := atoms_spec (ws := wsJ0_init_db425) B.pre
  have hown : s.vm.findClass RJ0 = some m.cls := findClass_of_methodNamed B.named
  have hlocks := B.notSynchronized
  have hin : meth.name = "<init>" := (name_of_methodNamed B.named B.method).1
  subst hsz
  have hD := hD0.self (sz := s.heap.size)
  generalize hAe : va_A [(zs, .inr (0, [.null, .int 0, .int 0, .int 0])), (y, .inr (1, [.ref bv, .int 0, .int 0, .int 3])), (bv, .inl (kB, 16, .inl fb))] s.heap.size = A at hD hZ ⊢
  have hA : ∀ q : Nat, s.heap.size ≤ q → A q := fun q h => by rw [← hAe]; exact Or.inr h
  have hS : va_S A s.heap s.heap [] := va_S.rf
  have hl := lv_entry ([.ref zs, .ref y, .null]) (n := 5) (Nat.le_of_ble_eq_true rfl)
  rw [lg_entry_eq]
  generalize (lg_sl ([.ref zs, .ref y, .null]) ++ List.replicate (5 - (lg_sl ([.ref zs, .ref y, .null])).length) Slot.unset).toArray = ls at hl ⊢
  have hl : lv_has ls 5 [(0, .ref zs), (1, .ref y), (2, .null)] := hl
  refine lv_aload_n hx hb dJ0_init_db425_0 rfl (lv_at hl 0 rfl) ?_
  refine W.objInit hx hb hown (hts (.methodLink RJ0 1 objectInit) (List.mem_of_getElem? (i := 1) rfl)) (hts (.instanceMethod objectInit) (List.mem_of_getElem? (i := 2) rfl)) (hts _ (List.mem_of_getElem? (i := 3) rfl)) rfl (by rw [hml]; exact hl.1) rfl dJ0_init_db425_1 (Nat.le_of_ble_eq_true rfl) (Nat.le_of_ble_eq_true rfl) ?_
  refine W.eq (g2 := F0 m 4 ls []) rfl ?_
  refine lv_aload_n hx hb dJ0_init_db425_4 rfl (lv_at hl 1 rfl) ?_
  refine va_csq (va_Run.run (va_runU (As := []) (rest := []) ⟨hx, hb, hml, hown, hts⟩ (c_SB_getValue l dC dI y bv 3) (va_cwU 0 hts gJ0_init_db425_J5_getValue_6d5f1_u552J4 rfl rfl rfl rfl (by decide +kernel) ⟨Nat.le_of_ble_eq_true rfl, Nat.le_of_ble_eq_true rfl⟩) ⟨PS_blind, va_recv hK hP (ci := 1) (q0 := 1) rfl rfl, PS_pre (hP.sub (ws' := [(y, .inr (1, [.ref bv, .int 0, .int 0, .int 3]))]) [1] rfl) (hK.sub (tys' := []) [] rfl) hF⟩ rfl rfl hl.1 rfl (lv_room (Nat.le_of_ble_eq_true rfl)) dJ0_init_db425_5 ⟨Nat.le_of_ble_eq_true rfl, Nat.le_of_ble_eq_true rfl⟩)) (fun r_1 hr_1 => ?_)
  subst hr_1
  refine W.eq (g2 := F0 m 8 ls [.ref bv]) rfl ?_
  refine lv_astore_n (lv' := [(3, .ref bv), (0, .ref zs), (1, .ref y), (2, .null)]) hx hb dJ0_init_db425_8 rfl hl (by decide) rfl (fun ls hl => ?_)
  refine lv_aload_n hx hb dJ0_init_db425_9 rfl (lv_at hl 2 rfl) ?_
  refine vp_callSi (va_Run.run (va_runU (As := []) (rest := []) ⟨hx, hb, hml, hown, hts⟩ (c_SB_length l dC dI y bv 3) (va_cwO 0 hts gJ0_init_db425_J4_length_8abf5_u549J4 rfl rfl rfl (List.mem_of_getElem? (i := 25) rfl : (Cond.code yJ5_length_8abf5 cJ5_length_8abf5 1 (some .int)) ∈ wsJ0_init_db425) (by decide +kernel) ⟨Nat.le_of_ble_eq_true rfl, Nat.le_of_ble_eq_true rfl⟩) ⟨PS_blind, va_recv hK hP (ci := 1) (q0 := 1) rfl rfl, PS_pre (hP.sub (ws' := [(y, .inr (1, [.ref bv, .int 0, .int 0, .int 3]))]) [1] rfl) (hK.sub (tys' := []) [] rfl) hF⟩ rfl rfl hl.1 rfl (lv_room (Nat.le_of_ble_eq_true rfl)) dJ0_init_db425_10 ⟨Nat.le_of_ble_eq_true rfl, Nat.le_of_ble_eq_true rfl⟩)) (fun r_2 hr_2 => ?_)
  subst hr_2
  refine lv_istore (lv' := [(4, .int 3), (3, .ref bv), (0, .ref zs), (1, .ref y), (2, .null)]) hx hb dJ0_init_db425_13 hl (by decide) rfl (fun ls hl => ?_)
  refine lv_aload_n hx hb dJ0_init_db425_15 rfl (lv_at hl 3 rfl) ?_
  refine vp_callSi (va_Run.run (va_runU (As := []) (rest := []) ⟨hx, hb, hml, hown, hts⟩ (c_SB_isLatin1 l dC dI d tc ad y bv 3) (va_cwU 0 hts gJ0_init_db425_J5_isLatin1_aae02_u1047J4 rfl rfl rfl rfl (by decide +kernel) ⟨Nat.le_of_ble_eq_true rfl, Nat.le_of_ble_eq_true rfl⟩) ⟨PY_blind, va_recv hK hP (ci := 1) (q0 := 1) rfl rfl, PY_pre (hP.sub (ws' := [(y, .inr (1, [.ref bv, .int 0, .int 0, .int 3]))]) [1] rfl) (hK.sub (tys' := []) [] rfl) hF hZ hS⟩ rfl rfl hl.1 rfl (lv_room (Nat.le_of_ble_eq_true rfl)) dJ0_init_db425_16 ⟨Nat.le_of_ble_eq_true rfl, Nat.le_of_ble_eq_true rfl⟩)) (fun r_3 hr_3 => ?_)
  subst hr_3
  refine lv_if_eq (tgt := 41) hx hb dJ0_init_db425_19 (by decide) (fun c_4 => absurd c_4 (by decide)) (fun _ => ?_)
  refine lv_aload_n hx hb dJ0_init_db425_22 rfl (lv_at hl 2 rfl) ?_
  refine lv_iconst (v := 0) hx hb dJ0_init_db425_23 (by decide) ?_
  refine va_putF (D := (dC, dI)) (ci := 0) (v := .int 0) (ty := .byte) (C := RJ0) (T := TJ0) (N := 4) hx hb hts (fun _ h9 => List.mem_cons_of_mem _ (List.mem_append_left _ (List.mem_append_right _ (h9)))) tyJ0 tyJ0_ok nmJ0 hown hK hP hD hS 0 rfl rfl 1 (by decide) (hts (.fieldLink RJ0 15 "java/lang/String" "coder" "B") (List.mem_of_getElem? (i := 4) rfl)) (fun _ h9 => h9) rfl hin rfl (by decide +kernel) (by decide) (by decide) (Nat.le_of_ble_eq_true rfl) dJ0_init_db425_24 (fun H locs hP hD hS => ?_)
  have hP : va_P (dC, dI) vwCl [(zs, .inr (0, [.null, .int 0, .int 0, .int 0])), (y, .inr (1, [.ref bv, .int 0, .int 0, .int 3])), (bv, .inl (kB, 16, .inl fb))] H := hP
  have hD : va_D A [(zs, .inr (0, [.null, .int 0, .int 0, .int 0])), (y, .inr (1, [.ref bv, .int 0, .int 0, .int 3])), (bv, .inl (kB, 16, .inl fb))] := hD
  refine lv_aload_n hx hb dJ0_init_db425_27 rfl (lv_at hl 2 rfl) ?_
  refine lv_aload_n hx hb dJ0_init_db425_28 rfl (lv_at hl 1 rfl) ?_
  refine lv_iconst (v := 0) hx hb dJ0_init_db425_29 (by decide) ?_
  refine lv_iload hx hb dJ0_init_db425_30 (lv_at hl 0 rfl) ?_
  have hPc := hP.sub (ws' := [(bv, .inl (kB, 16, .inl fb))]) [2] rfl
  have hDc := hD.sub (ws' := [(bv, .inl (kB, 16, .inl fb))]) [2] (by decide) rfl
  have hKc := hK.sub (tys' := [(kB, .byte)]) [0] rfl
  have hFc := va_free (wc := [(bv, .inl (kB, 16, .inl fb))]) hD hS hA [2] rfl
  refine va_callr (va_runS (As := [.ref bv, .int 0, .int 3]) (rest := [.ref zs]) ⟨hx, hb, hml, hown, hts⟩ (c_Arr_cor3 l dC dI bv kB fb H.size hfb) (va_cwS 3 hts gJ0_init_db425_J7_copyOfRange_39247 rfl rfl rfl (by decide +kernel) ⟨Nat.le_of_ble_eq_true rfl, Nat.le_of_ble_eq_true rfl⟩) ⟨PQ_blind, PQ_pre hPc hKc hDc hF⟩ rfl rfl hl.1 rfl (lv_room (Nat.le_of_ble_eq_true rfl)) dJ0_init_db425_32 ⟨Nat.le_of_ble_eq_true rfl, Nat.le_of_ble_eq_true rfl⟩) hS (fun q _ h => hFc q h) hFc (fun u r_5 t H1 locs ht hvm hw hB hz1 hk1 hS => ?_)
  obtain ⟨kN_6, fz_7, hP1, hK1, hD1⟩ := hB
  rw [ht] at hP1
  have hK1 := va_K.moved hvm.symm hK1
  obtain ⟨hP, hD⟩ := va_join (wr := [(zs, .inr (0, [.null, .int 0, .int 0, .int 0])), (y, .inr (1, [.ref bv, .int 0, .int 0, .int 3]))]) (w1 := [(bv, .inl (kB, 16, .inl fb)), (r_5, .inl (kN_6, 3, .inl fz_7))]) hP hD [2] [0, 1] rfl rfl (by decide) (by decide) hk1 hFc hP1 hD1
  have hK := hK.app hK1
  generalize H1 = H at hP hS ⊢
  have hP : va_P (dC, dI) vwCl [(zs, .inr (0, [.null, .int 0, .int 0, .int 0])), (y, .inr (1, [.ref bv, .int 0, .int 0, .int 3])), (bv, .inl (kB, 16, .inl fb)), (r_5, .inl (kN_6, 3, .inl fz_7))] H := hP
  have hD : va_D A [(zs, .inr (0, [.null, .int 0, .int 0, .int 0])), (y, .inr (1, [.ref bv, .int 0, .int 0, .int 3])), (bv, .inl (kB, 16, .inl fb)), (r_5, .inl (kN_6, 3, .inl fz_7))] := hD
  have hK : va_K (dC, dI) vwCl [(kB, .byte), (kB, .byte), (kN_6, .byte)] s := hK
  refine W.widen (k := 1) (n := 3) (Nat.le_of_ble_eq_true rfl) (Nat.le_of_ble_eq_true rfl) ?_
  refine va_putF (D := (dC, dI)) (ci := 0) (v := .ref r_5) (ty := .array .byte) (C := RJ0) (T := TJ0) (N := 4) hx hb hts (fun _ h9 => List.mem_cons_of_mem _ (List.mem_append_left _ (List.mem_append_right _ (h9)))) tyJ0 tyJ0_ok nmJ0 hown hK hP hD hS 0 rfl rfl 0 (by decide) (hts (.fieldLink RJ0 9 "java/lang/String" "value" "[B") (List.mem_of_getElem? (i := 5) rfl)) (fun _ h9 => h9) rfl hin rfl (by decide +kernel) rfl rfl (Nat.le_of_ble_eq_true rfl) dJ0_init_db425_35 (fun H locs hP hD hS => ?_)
  have hP : va_P (dC, dI) vwCl [(zs, .inr (0, [.ref r_5, .int 0, .int 0, .int 0])), (y, .inr (1, [.ref bv, .int 0, .int 0, .int 3])), (bv, .inl (kB, 16, .inl fb)), (r_5, .inl (kN_6, 3, .inl fz_7))] H := hP
  have hD : va_D A [(zs, .inr (0, [.ref r_5, .int 0, .int 0, .int 0])), (y, .inr (1, [.ref bv, .int 0, .int 0, .int 3])), (bv, .inl (kB, 16, .inl fb)), (r_5, .inl (kN_6, 3, .inl fz_7))] := hD
  refine lv_goto (tgt := 97) hx hb dJ0_init_db425_38 (by decide) ?_
  have hP9 := hP.sub (ws' := [(zs, .inr (0, [.ref r_5, .int 0, .int 0, .int 0]))]) [0] rfl
  have hD9 := hD.sub (ws' := [(zs, .inr (0, [.ref r_5, .int 0, .int 0, .int 0]))]) [0] (by decide) rfl
  have hK9 := hK.sub (tys' := []) [] rfl
  exact W.vret hx hb hr (fun t ht hW => ⟨⟨(), rfl, trivial, r_5, by rw [ht]; exact hP9, va_K.moved hW.alike hK9, hD9⟩, hS.F ht⟩) hS.2.2 dJ0_init_db425_97

set_option maxHeartbeats 4000000 in
set_option maxRecDepth 100000 in
theorem c_Str_init3 (l : Launch) (dC : Nat → ClassId) (dI : Nat → Nat → Nat) (d : Nat) (tc : Nat) (ad : Nat → Nat) (zs : Nat) (y : Nat) (bv : Nat) (kB : ClassId) (fb : Nat → Int32) (sz : Nat) (hfb : sb_Fit fb) : Met l yJ0_init_81219 wsJ0_init_81219 ({ frames := 4, cells := 1, slots := 3, locals := 150 }) (va_Pc [.ref zs, .ref y] (PZ dC dI d tc ad sz [(zs, .inr (0, [.null, .int 0, .int 0, .int 0])), (y, .inr (1, [.ref bv, .int 0, .int 0, .int 3])), (bv, .inl (kB, 16, .inl fb))] [(kB, .byte)])) (va_Qv (fun _ : Unit => True) (fun _ t => ∃ (g2 : Nat), va_P (dC, dI) vwCl [(zs, .inr (0, [.ref g2, .int 0, .int 0, .int 0]))] t.heap ∧ va_K (dC, dI) vwCl [] t ∧ va_D (va_A [(zs, .inr (0, [.null, .int 0, .int 0, .int 0])), (y, .inr (1, [.ref bv, .int 0, .int 0, .int 3])), (bv, .inl (kB, 16, .inl fb))] sz) [(zs, .inr (0, [.ref g2, .int 0, .int 0, .int 0]))]) (va_A [(zs, .inr (0, [.null, .int 0, .int 0, .int 0])), (y, .inr (1, [.ref bv, .int 0, .int 0, .int 3])), (bv, .inl (kB, 16, .inl fb))] sz)) 1 3 (va_A [(zs, .inr (0, [.null, .int 0, .int 0, .int 0])), (y, .inr (1, [.ref bv, .int 0, .int 0, .int 3])), (bv, .inl (kB, 16, .inl fb))] sz) := by
  refine Met.ofW (cc := cJ0_init_81219) (maxL := 2) (ret := none) (by decide) rfl ?_
  intro p e s m args below meth c s₁ B hml hv
  obtain ⟨rfl, hsz, hP, hK, hD0, hF, hZ⟩ := hv
  have hx := B.exec
  have hb := B.bytes
  have hr := B.returns
  have hts := atoms_spec (ws := wsJ0_init_81219) B.pre
  have hown : s.vm.findClass RJ0 = some m.cls := findClass_of_methodNamed B.named
  have hlocks := B.notSynchronized
  have hin : meth.name = "<init>" := (name_of_methodNamed B.named B.method).1
  subst hsz
  have hD := hD0.self (sz := s.heap.size)
  generalize hAe : va_A [(zs, .inr (0, [.null, .int 0, .int 0, .int 0])), (y, .inr (1, [.ref bv, .int 0, .int 0, .int 3])), (bv, .inl (kB, 16, .inl fb))] s.heap.size = A at hD hZ ⊢
  have hA : ∀ q : Nat, s.heap.size ≤ q → A q := fun q h => by rw [← hAe]; exact Or.inr h
  have hS : va_S A s.heap s.heap [] := va_S.rf
  have hl := lv_entry ([.ref zs, .ref y]) (n := 2) (Nat.le_of_ble_eq_true rfl)
  rw [lg_entry_eq]
  generalize (lg_sl ([.ref zs, .ref y]) ++ List.replicate (2 - (lg_sl ([.ref zs, .ref y])).length) Slot.unset).toArray = ls at hl ⊢
  have hl : lv_has ls 2 [(0, .ref zs), (1, .ref y)] := hl
  refine lv_aload_n hx hb dJ0_init_81219_0 rfl (lv_at hl 0 rfl) ?_
  refine lv_aload_n hx hb dJ0_init_81219_1 rfl (lv_at hl 1 rfl) ?_
  refine lv_null hx hb dJ0_init_81219_2 ?_
  have hPc := hP.sub (ws' := [(zs, .inr (0, [.null, .int 0, .int 0, .int 0])), (y, .inr (1, [.ref bv, .int 0, .int 0, .int 3])), (bv, .inl (kB, 16, .inl fb))]) [0, 1, 2] rfl
  have hDc := hD.sub (ws' := [(zs, .inr (0, [.null, .int 0, .int 0, .int 0])), (y, .inr (1, [.ref bv, .int 0, .int 0, .int 3])), (bv, .inl (kB, 16, .inl fb))]) [0, 1, 2] (by decide) rfl
  have hKc := hK.sub (tys' := [(kB, .byte)]) [0] rfl
  have hFc := va_free (wc := [(zs, .inr (0, [.null, .int 0, .int 0, .int 0])), (y, .inr (1, [.ref bv, .int 0, .int 0, .int 3])), (bv, .inl (kB, 16, .inl fb))]) hD hS hA [0, 1, 2] rfl
  refine va_callv (va_runI (As := [.ref y, .null]) (rest := []) ⟨hx, hb, hml, hown, hts⟩ (c_Str_initV3 l dC dI d tc ad zs y bv kB fb s.heap.size hfb) (cwI 2 hts gJ0_init_81219_J0_init_db425 rfl rfl rfl (hts (.initialized RJ0) (List.mem_of_getElem? (i := 3) rfl)) (hts (.methodLink RJ0 489 yJ0_init_db425) (List.mem_of_getElem? (i := 1) rfl)) (hts (.instanceMethod yJ0_init_db425) (List.mem_of_getElem? (i := 2) rfl)) rfl (by decide +kernel) ⟨Nat.le_of_ble_eq_true rfl, Nat.le_of_ble_eq_true rfl⟩) ⟨PZ_blind, PZ_pre hPc hKc hDc hF hZ hS hFc⟩ rfl rfl hl.1 rfl (lv_room (Nat.le_of_ble_eq_true rfl)) dJ0_init_81219_3 ⟨Nat.le_of_ble_eq_true rfl, Nat.le_of_ble_eq_true rfl⟩) hS (fun q _ h => hFc q h) hFc (fun u t H1 locs ht hvm hw hB hz1 hk1 hS => ?_)
  obtain ⟨g2_2, hP1, hK1, hD1⟩ := hB
  rw [ht] at hP1
  have hK1 := va_K.moved hvm.symm hK1
  obtain ⟨hP, hD⟩ := va_join (wr := []) (w1 := [(zs, .inr (0, [.ref g2_2, .int 0, .int 0, .int 0]))]) hP hD [0, 1, 2] [] rfl rfl (by decide) (by decide) hk1 hFc hP1 hD1
  have hK := hK.app hK1
  generalize H1 = H at hP hS ⊢
  have hP : va_P (dC, dI) vwCl [(zs, .inr (0, [.ref g2_2, .int 0, .int 0, .int 0]))] H := hP
  have hD : va_D A [(zs, .inr (0, [.ref g2_2, .int 0, .int 0, .int 0]))] := hD
  have hK : va_K (dC, dI) vwCl [(kB, .byte)] s := hK
  refine W.widen (k := 1) (n := 3) (Nat.le_of_ble_eq_true rfl) (Nat.le_of_ble_eq_true rfl) ?_
  have hP9 := hP.sub (ws' := [(zs, .inr (0, [.ref g2_2, .int 0, .int 0, .int 0]))]) [0] rfl
  have hD9 := hD.sub (ws' := [(zs, .inr (0, [.ref g2_2, .int 0, .int 0, .int 0]))]) [0] (by decide) rfl
  have hK9 := hK.sub (tys' := []) [] rfl
  exact W.vret hx hb hr (fun t ht hW => ⟨⟨(), rfl, trivial, g2_2, by rw [ht]; exact hP9, va_K.moved hW.alike hK9, hD9⟩, hS.F ht⟩) hS.2.2 dJ0_init_81219_6

set_option maxHeartbeats 4000000 in
set_option maxRecDepth 100000 in
theorem c_SB_toString3 (l : Launch) (dC : Nat → ClassId) (dI : Nat → Nat → Nat) (d : Nat) (tc : Nat) (ad : Nat → Nat) (y : Nat) (bv : Nat) (kB : ClassId) (fb : Nat → Int32) (sz : Nat) (hfb : sb_Fit fb) : Met l yJ4_toString_0e30d wsJ4_toString_0e30d ({ frames := 5, cells := 2, slots := 7, locals := 171 }) (va_Pc [.ref y] (PZ dC dI d tc ad sz [(y, .inr (1, [.ref bv, .int 0, .int 0, .int 3])), (bv, .inl (kB, 16, .inl fb))] [(kB, .byte)])) (va_Qr (fun _ : Unit => True) (fun _ ra t => ∃ (g2 : Nat), va_P (dC, dI) vwCl [(ra, .inr (0, [.ref g2, .int 0, .int 0, .int 0]))] t.heap ∧ va_K (dC, dI) vwCl [] t ∧ va_D (va_A [(y, .inr (1, [.ref bv, .int 0, .int 0, .int 3])), (bv, .inl (kB, 16, .inl fb))] sz) [(ra, .inr (0, [.ref g2, .int 0, .int 0, .int 0]))]) (va_A [(y, .inr (1, [.ref bv, .int 0, .int 0, .int 3])), (bv, .inl (kB, 16, .inl fb))] sz)) 2 7 (va_A [(y, .inr (1, [.ref bv, .int 0, .int 0, .int 3])), (bv, .inl (kB, 16, .inl fb))] sz) := by
  refine Met.ofW (cc := cJ4_toString_0e30d) (maxL := 1) (ret := (some (.object "java/lang/String"))) (by decide) rfl ?_
  intro p e s m args below meth c s₁ B hml hv
  obtain ⟨rfl, hsz, hP, hK, hD0, hF, hZ⟩ := hv
  have hx := B.exec
  have hb := B.bytes
  have hr := B.returns
  have hts := atoms_spec (ws := wsJ4_toString_0e30d) B.pre
  have hown : s.vm.findClass RJ4 = some m.cls := findClass_of_methodNamed B.named
  have hlocks := B.notSynchronized
  subst hsz
  have hD := hD0.self (sz := s.heap.size)
  generalize hAe : va_A [(y, .inr (1, [.ref bv, .int 0, .int 0, .int 3])), (bv, .inl (kB, 16, .inl fb))] s.heap.size = A at hD hZ ⊢
  have hA : ∀ q : Nat, s.heap.size ≤ q → A q := fun q h => by rw [← hAe]; exact Or.inr h
  have hS : va_S A s.heap s.heap [] := va_S.rf
  have hl := lv_entry ([.ref y]) (n := 1) (Nat.le_of_ble_eq_true rfl)
  rw [lg_entry_eq]
  generalize (lg_sl ([.ref y]) ++ List.replicate (1 - (lg_sl ([.ref y])).length) Slot.unset).toArray = ls at hl ⊢
  have hl : lv_has ls 1 [(0, .ref y)] := hl
  refine va_new (ci := 0) (fs := [.null, .int 0, .int 0, .int 0]) (C := RJ0) (T := TJ0) (N := 4) hx hb hts (fun _ h9 => List.mem_cons_of_mem _ (List.mem_append_left _ (List.mem_append_right _ (h9)))) tyJ0 tyJ0_ok hown (hts (.classLink RJ4 18 RJ0) (List.mem_of_getElem? (i := 1) rfl)) (hts (.instantiable RJ0 4) (List.mem_of_getElem? (i := 2) rfl)) (hts (.initialized RJ0) (List.mem_of_getElem? (i := 3) rfl)) hK hP hD hS hA rfl dfJ0 (Nat.le_of_ble_eq_true rfl) (Nat.le_of_ble_eq_true rfl) dJ4_toString_0e30d_0 (fun q_1 H hP hD hS => ?_)
  have hP : va_P (dC, dI) vwCl [(y, .inr (1, [.ref bv, .int 0, .int 0, .int 3])), (bv, .inl (kB, 16, .inl fb)), (q_1, .inr (0, [.null, .int 0, .int 0, .int 0]))] H := hP
  have hD : va_D A [(y, .inr (1, [.ref bv, .int 0, .int 0, .int 3])), (bv, .inl (kB, 16, .inl fb)), (q_1, .inr (0, [.null, .int 0, .int 0, .int 0]))] := hD
  refine W.widen (k := 1) (n := 4) (Nat.le_of_ble_eq_true rfl) (Nat.le_of_ble_eq_true rfl) ?_
  refine lv_dup hx hb dJ4_toString_0e30d_3 rfl ?_
  refine lv_aload_n hx hb dJ4_toString_0e30d_4 rfl (lv_at hl 0 rfl) ?_
  have hPc := hP.sub (ws' := [(q_1, .inr (0, [.null, .int 0, .int 0, .int 0])), (y, .inr (1, [.ref bv, .int 0, .int 0, .int 3])), (bv, .inl (kB, 16, .inl fb))]) [2, 0, 1] rfl
  have hDc := hD.sub (ws' := [(q_1, .inr (0, [.null, .int 0, .int 0, .int 0])), (y, .inr (1, [.ref bv, .int 0, .int 0, .int 3])), (bv, .inl (kB, 16, .inl fb))]) [2, 0, 1] (by decide) rfl
  have hKc := hK.sub (tys' := [(kB, .byte)]) [0] rfl
  have hFc := va_free (wc := [(q_1, .inr (0, [.null, .int 0, .int 0, .int 0])), (y, .inr (1, [.ref bv, .int 0, .int 0, .int 3])), (bv, .inl (kB, 16, .inl fb))]) hD hS hA [2, 0, 1] rfl
  refine va_callv (va_runI (As := [.ref y]) (rest := [.ref q_1]) ⟨hx, hb, hml, hown, hts⟩ (c_Str_init3 l dC dI d tc ad q_1 y bv kB fb H.size hfb) (cwI 1 hts gJ4_toString_0e30d_J0_init_81219 rfl rfl rfl (hts (.initialized RJ0) (List.mem_of_getElem? (i := 3) rfl)) (hts (.methodLink RJ4 137 yJ0_init_81219) (List.mem_of_getElem? (i := 4) rfl)) (hts (.instanceMethod yJ0_init_81219) (List.mem_of_getElem? (i := 5) rfl)) rfl (by decide +kernel) ⟨Nat.le_of_ble_eq_true rfl, Nat.le_of_ble_eq_true rfl⟩) ⟨PZ_blind, PZ_pre hPc hKc hDc hF hZ hS hFc⟩ rfl rfl hl.1 rfl (lv_room (Nat.le_of_ble_eq_true rfl)) dJ4_toString_0e30d_5 ⟨Nat.le_of_ble_eq_true rfl, Nat.le_of_ble_eq_true rfl⟩) hS (fun q _ h => hFc q h) hFc (fun u t H1 locs ht hvm hw hB hz1 hk1 hS => ?_)
  obtain ⟨g2_3, hP1, hK1, hD1⟩ := hB
  rw [ht] at hP1
  have hK1 := va_K.moved hvm.symm hK1
  obtain ⟨hP, hD⟩ := va_join (wr := []) (w1 := [(q_1, .inr (0, [.ref g2_3, .int 0, .int 0, .int 0]))]) hP hD [2, 0, 1] [] rfl rfl (by decide) (by decide) hk1 hFc hP1 hD1
  have hK := hK.app hK1
  generalize H1 = H at hP hS ⊢
  have hP : va_P (dC, dI) vwCl [(q_1, .inr (0, [.ref g2_3, .int 0, .int 0, .int 0]))] H := hP
  have hD : va_D A [(q_1, .inr (0, [.ref g2_3, .int 0, .int 0, .int 0]))] := hD
  have hK : va_K (dC, dI) vwCl [(kB, .byte)] s := hK
  refine W.widen (k := 2) (n := 7) (Nat.le_of_ble_eq_true rfl) (Nat.le_of_ble_eq_true rfl) ?_
  have hP9 := hP.sub (ws' := [(q_1, .inr (0, [.ref g2_3, .int 0, .int 0, .int 0]))]) [0] rfl
  have hD9 := hD.sub (ws' := [(q_1, .inr (0, [.ref g2_3, .int 0, .int 0, .int 0]))]) [0] (by decide) rfl
  have hK9 := hK.sub (tys' := []) [] rfl
  exact W.aret (v := .ref q_1) hx hb hr (Or.inl ⟨_, rfl⟩) (Or.inr ⟨_, rfl⟩) (fun t ht hW => ⟨⟨(), _, rfl, trivial, g2_3, by rw [ht]; exact hP9, va_K.moved hW.alike hK9, hD9⟩, hS.F ht⟩) hS.2.2 dJ4_toString_0e30d_8

set_option maxHeartbeats 4000000 in
set_option maxRecDepth 100000 in
theorem c_Arr_corb4 (l : Launch) (dC : Nat → ClassId) (dI : Nat → Nat → Nat) (bv : Nat) (kB : ClassId) (fb : Nat → Int32) (sz : Nat) (hfb : sb_Fit fb) : Met l yJ7_copyOfRangeByte_39247 wsJ7_copyOfRangeByte_39247 ({ frames := 1, cells := 1, slots := 4, locals := 80 }) (va_Pc [.ref bv, .int 0, .int 4] (PQ dC dI sz [(bv, .inl (kB, 16, .inl fb))] [(kB, .byte)])) (va_Qr (fun _ : Unit => True) (fun _ ra t => ∃ (kN : ClassId) (fz : Nat → Int32), va_P (dC, dI) vwCl [(bv, .inl (kB, 16, .inl fb)), (ra, .inl (kN, 4, .inl fz))] t.heap ∧ va_K (dC, dI) vwCl [(kB, .byte), (kN, .byte)] t ∧ va_D (va_A [(bv, .inl (kB, 16, .inl fb))] sz) [(bv, .inl (kB, 16, .inl fb)), (ra, .inl (kN, 4, .inl fz))]) (va_A [(bv, .inl (kB, 16, .inl fb))] sz)) 1 4 (va_A [(bv, .inl (kB, 16, .inl fb))] sz) := by
  refine Met.ofW (cc := cJ7_copyOfRangeByte_39247) (maxL := 5) (ret := (some (.array .byte))) (by decide) rfl ?_
  intro p e s m args below meth c s₁ B hml hv
  obtain ⟨rfl, hsz, hP, hK, hD0, hF⟩ := hv
  have hx := B.exec
  have hb := B.bytes
  have hr := B.returns
  have hts := atoms_spec (ws := wsJ7_copyOfRangeByte_39247) B.pre
  have hown : s.vm.findClass RJ7 = some m.cls := findClass_of_methodNamed B.named
  have hlocks := B.notSynchronized
  subst hsz
  have hD := hD0.self (sz := s.heap.size)
  generalize hAe : va_A [(bv, .inl (kB, 16, .inl fb))] s.heap.size = A at hD ⊢
  have hA : ∀ q : Nat, s.heap.size ≤ q → A q := fun q h => by rw [← hAe]; exact Or.inr h
  have hS : va_S A s.heap s.heap [] := va_S.rf
  have hl := lv_entry ([.ref bv, .int 0, .int 4]) (n := 5) (Nat.le_of_ble_eq_true rfl)
  rw [lg_entry_eq]
  generalize (lg_sl ([.ref bv, .int 0, .int 4]) ++ List.replicate (5 - (lg_sl ([.ref bv, .int 0, .int 4])).length) Slot.unset).toArray = ls at hl ⊢
  have hl : lv_has ls 5 [(0, .ref bv), (1, .int 0), (2, .int 4)] := hl
  refine lv_iload_n hx hb dJ7_copyOfRangeByte_39247_0 rfl (lv_at hl 1 rfl) ?_
  refine lv_iload_n hx hb dJ7_copyOfRangeByte_39247_1 rfl (lv_at hl 2 rfl) ?_
  refine va_csv (va_Run.run (va_runS (As := [.int 0, .int 4]) (rest := []) ⟨hx, hb, hml, hown, hts⟩ (c_Arr_checkLength l dC dI 0 4 (by decide)) (va_cwS 2 hts gJ7_copyOfRangeByte_39247_J7_checkLength_df160 rfl rfl rfl (by decide +kernel) ⟨Nat.le_of_ble_eq_true rfl, Nat.le_of_ble_eq_true rfl⟩) ⟨PS_blind, PS_pre (hP.sub (ws' := []) [] rfl) (hK.sub (tys' := []) [] rfl) hF⟩ rfl rfl hl.1 rfl (lv_room (Nat.le_of_ble_eq_true rfl)) dJ7_copyOfRangeByte_39247_2 ⟨Nat.le_of_ble_eq_true rfl, Nat.le_of_ble_eq_true rfl⟩)) (fun _ => ?_)
  refine lv_iload_n hx hb dJ7_copyOfRangeByte_39247_5 rfl (lv_at hl 2 rfl) ?_
  refine lv_iload_n hx hb dJ7_copyOfRangeByte_39247_6 rfl (lv_at hl 1 rfl) ?_
  refine lv_isub hx hb dJ7_copyOfRangeByte_39247_7 ?_
  refine lv_topi (fun f_2 ef_2 => ?_)
  obtain rfl : f_2 = 4 := ef_2.trans (by decide)
  refine lv_istore_n (lv' := [(3, .int 4), (0, .ref bv), (1, .int 0), (2, .int 4)]) hx hb dJ7_copyOfRangeByte_39247_8 rfl hl (by decide) rfl (fun ls hl => ?_)
  refine lv_iload_n hx hb dJ7_copyOfRangeByte_39247_9 rfl (lv_at hl 0 rfl) ?_
  refine va_newa (atype := .byte) (ty := .byte) (a0 := (4, (.inl (fun _ => 0)))) hx hb (hts (.arrayClass .byte) (List.mem_of_getElem? (i := 1) rfl)) rfl hK hP hD hS hA (fun _ => rfl) (by decide) (by decide) (Nat.le_of_ble_eq_true rfl) (Nat.le_of_ble_eq_true rfl) (Nat.le_of_ble_eq_true rfl) dJ7_copyOfRangeByte_39247_10 (fun q_3 k_4 H hK hP hD hS => ?_)
  have hP : va_P (dC, dI) vwCl [(bv, .inl (kB, 16, .inl fb)), (q_3, .inl (k_4, 4, .inl (fun _ => 0)))] H := hP
  have hD : va_D A [(bv, .inl (kB, 16, .inl fb)), (q_3, .inl (k_4, 4, .inl (fun _ => 0)))] := hD
  have hK : va_K (dC, dI) vwCl [(kB, .byte), (k_4, .byte)] s := hK
  refine W.widen (k := 1) (n := 4) (Nat.le_of_ble_eq_true rfl) (Nat.le_of_ble_eq_true rfl) ?_
  refine lv_astore (lv' := [(4, .ref q_3), (3, .int 4), (0, .ref bv), (1, .int 0), (2, .int 4)]) hx hb dJ7_copyOfRangeByte_39247_12 hl (by decide) rfl (fun ls hl => ?_)
  refine lv_aload_n hx hb dJ7_copyOfRangeByte_39247_14 rfl (lv_at hl 2 rfl) ?_
  refine lv_iload_n hx hb dJ7_copyOfRangeByte_39247_15 rfl (lv_at hl 3 rfl) ?_
  refine lv_aload hx hb dJ7_copyOfRangeByte_39247_16 (lv_at hl 0 rfl) ?_
  refine lv_iconst (v := 0) hx hb dJ7_copyOfRangeByte_39247_18 (by decide) ?_
  refine lv_aload_n hx hb dJ7_copyOfRangeByte_39247_19 rfl (lv_at hl 2 rfl) ?_
  refine va_alen hx hb hK hP 0 0 rfl rfl (v := 16) rfl dJ7_copyOfRangeByte_39247_20 ?_
  refine lv_iload_n hx hb dJ7_copyOfRangeByte_39247_21 rfl (lv_at hl 3 rfl) ?_
  refine lv_isub hx hb dJ7_copyOfRangeByte_39247_22 ?_
  refine lv_topi (fun f_5 ef_5 => ?_)
  obtain rfl : f_5 = 16 := ef_5.trans (by decide)
  refine lv_iload_n hx hb dJ7_copyOfRangeByte_39247_23 rfl (lv_at hl 1 rfl) ?_
  refine va_mmin hx hb (hml.trans hl.1.symm) hown (hts (.methodLink RJ7 304 Lib.Math.min.name) (List.mem_of_getElem? (i := 2) rfl)) (hts (.static Lib.Math.min.name) (List.mem_of_getElem? (i := 3) rfl)) (hts (.initialized "java/lang/Math") (List.mem_of_getElem? (i := 4) rfl)) (hts (.code Lib.Math.min.name Lib.Math.min.code 2 (some .int)) (List.mem_of_getElem? (i := 5) rfl)) (Nat.le_of_ble_eq_true rfl) (Nat.le_of_ble_eq_true rfl) (Nat.le_of_ble_eq_true rfl) (Nat.le_of_ble_eq_true rfl) dJ7_copyOfRangeByte_39247_24 ?_
  refine lv_topi (fun f_6 ef_6 => ?_)
  obtain rfl : f_6 = 4 := ef_6.trans (by decide)
  refine va_copyi (ty := .byte) hx hb (hml.trans hl.1.symm) hown (hts (.methodLink RJ7 150 arraycopyName) (List.mem_of_getElem? (i := 6) rfl)) (hts (.native arraycopyName) (List.mem_of_getElem? (i := 7) rfl)) (hts (.static arraycopyName) (List.mem_of_getElem? (i := 8) rfl)) (hts (.initialized "java/lang/System") (List.mem_of_getElem? (i := 9) rfl)) hK hP hD hS 0 1 0 1 rfl rfl rfl rfl rfl (sp := 0) (dp := 0) (n := 4) (by decide) (by decide) (by decide) (by decide) (by decide) (fun i _ => hfb _) (Nat.le_of_ble_eq_true rfl) (Nat.le_of_ble_eq_true rfl) dJ7_copyOfRangeByte_39247_27 (fun H locs hP hD hS => ?_)
  have hP : va_P (dC, dI) vwCl [(bv, .inl (kB, 16, .inl fb)), (q_3, .inl (k_4, 4, .inl (va_cpy fb (fun _ => 0) (0 : Int32).toNatClampNeg (0 : Int32).toNatClampNeg (4 : Int32).toNatClampNeg)))] H := hP
  have hD : va_D A [(bv, .inl (kB, 16, .inl fb)), (q_3, .inl (k_4, 4, .inl (va_cpy fb (fun _ => 0) (0 : Int32).toNatClampNeg (0 : Int32).toNatClampNeg (4 : Int32).toNatClampNeg)))] := hD
  have ha_7 : sb_Fit (va_cpy fb (fun _ => 0) (0 : Int32).toNatClampNeg (0 : Int32).toNatClampNeg (4 : Int32).toNatClampNeg) := sb_fitC hfb sb_fit0
  generalize (va_cpy fb (fun _ => 0) (0 : Int32).toNatClampNeg (0 : Int32).toNatClampNeg (4 : Int32).toNatClampNeg) = a_7 at hP hD ha_7
  refine lv_aload hx hb dJ7_copyOfRangeByte_39247_30 (lv_at hl 0 rfl) ?_
  have hP9 := hP.sub (ws' := [(bv, .inl (kB, 16, .inl fb)), (q_3, .inl (k_4, 4, .inl a_7))]) [0, 1] rfl
  have hD9 := hD.sub (ws' := [(bv, .inl (kB, 16, .inl fb)), (q_3, .inl (k_4, 4, .inl a_7))]) [0, 1] (by decide) rfl
  have hK9 := hK.sub (tys' := [(kB, .byte), (k_4, .byte)]) [0, 1] rfl
  exact W.aret (v := .ref q_3) hx hb hr (Or.inr ⟨_, rfl⟩) (Or.inr ⟨_, rfl⟩) (fun t ht hW => ⟨⟨(), _, rfl, trivial, k_4, a_7, by rw [ht]; exact hP9, va_K.moved hW.alike hK9, hD9⟩, hS.F ht⟩) hS.2.2 dJ7_copyOfRangeByte_39247_32

set_option maxHeartbeats 4000000 in
set_option maxRecDepth 100000 in
theorem c_Arr_cor4 (l : Launch) (dC : Nat → ClassId) (dI : Nat → Nat → Nat) (bv : Nat) (kB : ClassId) (fb : Nat → Int32) (sz : Nat) (hfb : sb_Fit fb) : Met l yJ7_copyOfRange_39247 wsJ7_copyOfRange_39247 ({ frames := 2, cells := 1, slots := 4, locals := 104 }) (va_Pc [.ref bv, .int 0, .int 4] (PQ dC dI sz [(bv, .inl (kB, 16, .inl fb))] [(kB, .byte)])) (va_Qr (fun _ : Unit => True) (fun _ ra t => ∃ (kN : ClassId) (fz : Nat → Int32), va_P (dC, dI) vwCl [(bv, .inl (kB, 16, .inl fb)), (ra, .inl (kN, 4, .inl fz))] t.heap ∧ va_K (dC, dI) vwCl [(kB, .byte), (kN, .byte)] t ∧ va_D (va_A [(bv, .inl (kB, 16, .inl fb))] sz) [(bv, .inl (kB, 16, .inl fb)), (ra, .inl (kN, 4, .inl fz))]) (va_A [(bv, .inl (kB, 16, .inl fb))] sz)) 1 4 (va_A [(bv, .inl (kB, 16, .inl fb))] sz) := by
  refine Met.ofW (cc := cJ7_copyOfRange_39247) (maxL := 3) (ret := (some (.array .byte))) (by decide) rfl ?_
  intro p e s m args below meth c s₁ B hml hv
  obtain ⟨rfl, hsz, hP, hK, hD0, hF⟩ := hv
  have hx := B.exec
  have hb := B.bytes
  have hr := B.returns
  have hts := atoms_spec (ws := wsJ7_copyOfRange_39247) B.pre
  have hown : s.vm.findClass RJ7 = some m.cls := findClass_of_methodNamed B.named
  have hlocks := B.notSynchronized
  subst hsz
  have hD := hD0.self (sz := s.heap.size)
  generalize hAe : va_A [(bv, .inl (kB, 16, .inl fb))] s.heap.size = A at hD ⊢
  have hA : ∀ q : Nat, s.heap.size ≤ q → A q := fun q h => by rw [← hAe]; exact Or.inr h
  have hS : va_S A s.heap s.heap [] := va_S.rf
  have hl := lv_entry ([.ref bv, .int 0, .int 4]) (n := 3) (Nat.le_of_ble_eq_true rfl)
  rw [lg_entry_eq]
  generalize (lg_sl ([.ref bv, .int 0, .int 4]) ++ List.replicate (3 - (lg_sl ([.ref bv, .int 0, .int 4])).length) Slot.unset).toArray = ls at hl ⊢
  have hl : lv_has ls 3 [(0, .ref bv), (1, .int 0), (2, .int 4)] := hl
  refine lv_iload_n hx hb dJ7_copyOfRange_39247_0 rfl (lv_at hl 1 rfl) ?_
  refine lv_if_ne (tgt := 10) hx hb dJ7_copyOfRange_39247_1 (by decide) (fun c_1 => absurd (by decide) c_1) (fun _ => ?_)
  refine lv_iload_n hx hb dJ7_copyOfRange_39247_4 rfl (lv_at hl 2 rfl) ?_
  refine lv_aload_n hx hb dJ7_copyOfRange_39247_5 rfl (lv_at hl 0 rfl) ?_
  refine va_alen hx hb hK hP 0 0 rfl rfl (v := 16) rfl dJ7_copyOfRange_39247_6 ?_
  refine lv_icmp_eq (tgt := 17) hx hb dJ7_copyOfRange_39247_7 (by decide) (fun c_2 => absurd c_2 (by decide)) (fun _ => ?_)
  refine lv_aload_n hx hb dJ7_copyOfRange_39247_10 rfl (lv_at hl 0 rfl) ?_
  refine lv_iload_n hx hb dJ7_copyOfRange_39247_11 rfl (lv_at hl 1 rfl) ?_
  refine lv_iload_n hx hb dJ7_copyOfRange_39247_12 rfl (lv_at hl 2 rfl) ?_
  have hPc := hP.sub (ws' := [(bv, .inl (kB, 16, .inl fb))]) [0] rfl
  have hDc := hD.sub (ws' := [(bv, .inl (kB, 16, .inl fb))]) [0] (by decide) rfl
  have hKc := hK.sub (tys' := [(kB, .byte)]) [0] rfl
  have hFc := va_free (wc := [(bv, .inl (kB, 16, .inl fb))]) hD hS hA [0] rfl
  refine va_callr (va_runS (As := [.ref bv, .int 0, .int 4]) (rest := []) ⟨hx, hb, hml, hown, hts⟩ (c_Arr_corb4 l dC dI bv kB fb s.heap.size hfb) (va_cwS 3 hts gJ7_copyOfRange_39247_J7_copyOfRangeByte_39247 rfl rfl rfl (by decide +kernel) ⟨Nat.le_of_ble_eq_true rfl, Nat.le_of_ble_eq_true rfl⟩) ⟨PQ_blind, PQ_pre hPc hKc hDc hF⟩ rfl rfl hl.1 rfl (lv_room (Nat.le_of_ble_eq_true rfl)) dJ7_copyOfRange_39247_13 ⟨Nat.le_of_ble_eq_true rfl, Nat.le_of_ble_eq_true rfl⟩) hS (fun q _ h => hFc q h) hFc (fun u r_3 t H1 locs ht hvm hw hB hz1 hk1 hS => ?_)
  obtain ⟨kN_4, fz_5, hP1, hK1, hD1⟩ := hB
  rw [ht] at hP1
  have hK1 := va_K.moved hvm.symm hK1
  obtain ⟨hP, hD⟩ := va_join (wr := []) (w1 := [(bv, .inl (kB, 16, .inl fb)), (r_3, .inl (kN_4, 4, .inl fz_5))]) hP hD [0] [] rfl rfl (by decide) (by decide) hk1 hFc hP1 hD1
  have hK := hK.app hK1
  generalize H1 = H at hP hS ⊢
  have hP : va_P (dC, dI) vwCl [(bv, .inl (kB, 16, .inl fb)), (r_3, .inl (kN_4, 4, .inl fz_5))] H := hP
  have hD : va_D A [(bv, .inl (kB, 16, .inl fb)), (r_3, .inl (kN_4, 4, .inl fz_5))] := hD
  have hK : va_K (dC, dI) vwCl [(kB, .byte), (kB, .byte), (kN_4, .byte)] s := hK
  refine W.widen (k := 1) (n := 4) (Nat.le_of_ble_eq_true rfl) (Nat.le_of_ble_eq_true rfl) ?_
  have hP9 := hP.sub (ws' := [(bv, .inl (kB, 16, .inl fb)), (r_3, .inl (kN_4, 4, .inl fz_5))]) [0, 1] rfl
  have hD9 := hD.sub (ws' := [(bv, .inl (kB, 16, .inl fb)), (r_3, .inl (kN_4, 4, .inl fz_5))]) [0, 1] (by decide) rfl
  have hK9 := hK.sub (tys' := [(kB, .byte), (kN_4, .byte)]) [0, 2] rfl
  exact W.aret (v := .ref r_3) hx hb hr (Or.inr ⟨_, rfl⟩) (Or.inr ⟨_, rfl⟩) (fun t ht hW => ⟨⟨(), _, rfl, trivial, kN_4, fz_5, by rw [ht]; exact hP9, va_K.moved hW.alike hK9, hD9⟩, hS.F ht⟩) hS.2.2 dJ7_copyOfRange_39247_16

set_option maxHeartbeats 4000000 in
set_option maxRecDepth 100000 in
theorem c_Str_initV4 (l : Launch) (dC : Nat → ClassId) (dI : Nat → Nat → Nat) (d : Nat) (tc : Nat) (ad : Nat → Nat) (zs : Nat) (y : Nat) (bv : Nat) (kB : ClassId) (fb : Nat → Int32) (sz : Nat) (hfb : sb_Fit fb) : Met l yJ0_init_db425 wsJ0_init_db425 ({ frames := 3, cells := 1, slots := 4, locals := 126 }) (va_Pc [.ref zs, .ref y, .null] (PZ dC dI d tc ad sz [(zs, .inr (0, [.null, .int 0, .int 0, .int 0])), (y, .inr (1, [.ref bv, .int 0, .int 0, .int 4])), (bv, .inl (kB, 16, .inl fb))] [(kB, .byte)])) (va_Qv (fun _ : Unit => True) (fun _ t => ∃ (g2 : Nat), va_P (dC, dI) vwCl [(zs, .inr (0, [.ref g2, .int 0, .int 0, .int 0]))] t.heap ∧ va_K (dC, dI) vwCl [] t ∧ va_D (va_A [(zs, .inr (0, [.null, .int 0, .int 0, .int 0])), (y, .inr (1, [.ref bv, .int 0, .int 0, .int 4])), (bv, .inl (kB, 16, .inl fb))] sz) [(zs, .inr (0, [.ref g2, .int 0, .int 0, .int 0]))]) (va_A [(zs, .inr (0, [.null, .int 0, .int 0, .int 0])), (y, .inr (1, [.ref bv, .int 0, .int 0, .int 4])), (bv, .inl (kB, 16, .inl fb))] sz)) 1 4 (va_A [(zs, .inr (0, [.null, .int 0, .int 0, .int 0])), (y, .inr (1, [.ref bv, .int 0, .int 0, .int 4])), (bv, .inl (kB, 16, .inl fb))] sz) := by
  refine Met.ofW (cc := cJ0_init_db425) (maxL := 5) (ret := none) (by decide) rfl ?_
  intro p e s m args below meth c s₁ B hml hv
  obtain ⟨rfl, hsz, hP, hK, hD0, hF, hZ⟩ := hv
  have hx := B.exec
  have hb := B.bytes
  have hr := B.returns
  have hts := atoms_spec (ws := wsJ0_init_db425) B.pre
  have hown : s.vm.findClass RJ0 = some m.cls := findClass_of_methodNamed B.named
  have hlocks := B.notSynchronized
  have hin : meth.name = "<init>" := (name_of_methodNamed B.named B.method).1
  subst hsz
  have hD := hD0.self (sz := s.heap.size)
  generalize hAe : va_A [(zs, .inr (0, [.null, .int 0, .int 0, .int 0])), (y, .inr (1, [.ref bv, .int 0, .int 0, .int 4])), (bv, .inl (kB, 16, .inl fb))] s.heap.size = A at hD hZ ⊢
  have hA : ∀ q : Nat, s.heap.size ≤ q → A q := fun q h => by rw [← hAe]; exact Or.inr h
  have hS : va_S A s.heap s.heap [] := va_S.rf
  have hl := lv_entry ([.ref zs, .ref y, .null]) (n := 5) (Nat.le_of_ble_eq_true rfl)
  rw [lg_entry_eq]
  generalize (lg_sl ([.ref zs, .ref y, .null]) ++ List.replicate (5 - (lg_sl ([.ref zs, .ref y, .null])).length) Slot.unset).toArray = ls at hl ⊢
  have hl : lv_has ls 5 [(0, .ref zs), (1, .ref y), (2, .null)] := hl
  refine lv_aload_n hx hb dJ0_init_db425_0 rfl (lv_at hl 0 rfl) ?_
  refine W.objInit hx hb hown (hts (.methodLink RJ0 1 objectInit) (List.mem_of_getElem? (i := 1) rfl)) (hts (.instanceMethod objectInit) (List.mem_of_getElem? (i := 2) rfl)) (hts _ (List.mem_of_getElem? (i := 3) rfl)) rfl (by rw [hml]; exact hl.1) rfl dJ0_init_db425_1 (Nat.le_of_ble_eq_true rfl) (Nat.le_of_ble_eq_true rfl) ?_
  refine W.eq (g2 := F0 m 4 ls []) rfl ?_
  refine lv_aload_n hx hb dJ0_init_db425_4 rfl (lv_at hl 1 rfl) ?_
  refine va_csq (va_Run.run (va_runU (As := []) (rest := []) ⟨hx, hb, hml, hown, hts⟩ (c_SB_getValue l dC dI y bv 4) (va_cwU 0 hts gJ0_init_db425_J5_getValue_6d5f1_u552J4 rfl rfl rfl rfl (by decide +kernel) ⟨Nat.le_of_ble_eq_true rfl, Nat.le_of_ble_eq_true rfl⟩) ⟨PS_blind, va_recv hK hP (ci := 1) (q0 := 1) rfl rfl, PS_pre (hP.sub (ws' := [(y, .inr (1, [.ref bv, .int 0, .int 0, .int 4]))]) [1] rfl) (hK.sub (tys' := []) [] rfl) hF⟩ rfl rfl hl.1 rfl (lv_room (Nat.le_of_ble_eq_true rfl)) dJ0_init_db425_5 ⟨Nat.le_of_ble_eq_true rfl, Nat.le_of_ble_eq_true rfl⟩)) (fun r_1 hr_1 => ?_)
  subst hr_1
  refine W.eq (g2 := F0 m 8 ls [.ref bv]) rfl ?_
  refine lv_astore_n (lv' := [(3, .ref bv), (0, .ref zs), (1, .ref y), (2, .null)]) hx hb dJ0_init_db425_8 rfl hl (by decide) rfl (fun ls hl => ?_)
  refine lv_aload_n hx hb dJ0_init_db425_9 rfl (lv_at hl 2 rfl) ?_
  refine vp_callSi (va_Run.run (va_runU (As := []) (rest := []) ⟨hx, hb, hml, hown, hts⟩ (c_SB_length l dC dI y bv 4) (va_cwO 0 hts gJ0_init_db425_J4_length_8abf5_u549J4 rfl rfl rfl (List.mem_of_getElem? (i := 25) rfl : (Cond.code yJ5_length_8abf5 cJ5_length_8abf5 1 (some .int)) ∈ wsJ0_init_db425) (by decide +kernel) ⟨Nat.le_of_ble_eq_true rfl, Nat.le_of_ble_eq_true rfl⟩) ⟨PS_blind, va_recv hK hP (ci := 1) (q0 := 1) rfl rfl, PS_pre (hP.sub (ws' := [(y, .inr (1, [.ref bv, .int 0, .int 0, .int 4]))]) [1] rfl) (hK.sub (tys' := []) [] rfl) hF⟩ rfl rfl hl.1 rfl (lv_room (Nat.le_of_ble_eq_true rfl)) dJ0_init_db425_10 ⟨Nat.le_of_ble_eq_true rfl, Nat.le_of_ble_eq_true rfl⟩)) (fun r_2 hr_2 => ?_)
  subst hr_2
  refine lv_istore (lv' := [(4, .int 4), (3, .ref bv), (0, .ref zs), (1, .ref y), (2, .null)]) hx hb dJ0_init_db425_13 hl (by decide) rfl (fun ls hl => ?_)
  refine lv_aload_n hx hb dJ0_init_db425_15 rfl (lv_at hl 3 rfl) ?_
  refine vp_callSi (va_Run.run (va_runU (As := []) (rest := []) ⟨hx, hb, hml, hown, hts⟩ (c_SB_isLatin1 l dC dI d tc ad y bv 4) (va_cwU 0 hts gJ0_init_db425_J5_isLatin1_aae02_u1047J4 rfl rfl rfl rfl (by decide +kernel) ⟨Nat.le_of_ble_eq_true rfl, Nat.le_of_ble_eq_true rfl⟩) ⟨PY_blind, va_recv hK hP (ci := 1) (q0 := 1) rfl rfl, PY_pre (hP.sub (ws' := [(y, .inr (1, [.ref bv, .int 0, .int 0, .int 4]))]) [1] rfl) (hK.sub (tys' := []) [] rfl) hF hZ hS⟩ rfl rfl hl.1 rfl (lv_room (Nat.le_of_ble_eq_true rfl)) dJ0_init_db425_16 ⟨Nat.le_of_ble_eq_true rfl, Nat.le_of_ble_eq_true rfl⟩)) (fun r_3 hr_3 => ?_)
  subst hr_3
  refine lv_if_eq (tgt := 41) hx hb dJ0_init_db425_19 (by decide) (fun c_4 => absurd c_4 (by decide)) (fun _ => ?_)
  refine lv_aload_n hx hb dJ0_init_db425_22 rfl (lv_at hl 2 rfl) ?_
  refine lv_iconst (v := 0) hx hb dJ0_init_db425_23 (by decide) ?_
  refine va_putF (D := (dC, dI)) (ci := 0) (v := .int 0) (ty := .byte) (C := RJ0) (T := TJ0) (N := 4) hx hb hts (fun _ h9 => List.mem_cons_of_mem _ (List.mem_append_left _ (List.mem_append_right _ (h9)))) tyJ0 tyJ0_ok nmJ0 hown hK hP hD hS 0 rfl rfl 1 (by decide) (hts (.fieldLink RJ0 15 "java/lang/String" "coder" "B") (List.mem_of_getElem? (i := 4) rfl)) (fun _ h9 => h9) rfl hin rfl (by decide +kernel) (by decide) (by decide) (Nat.le_of_ble_eq_true rfl) dJ0_init_db425_24 (fun H locs hP hD hS => ?_)
  have hP : va_P (dC, dI) vwCl [(zs, .inr (0, [.null, .int 0, .int 0, .int 0])), (y, .inr (1, [.ref bv, .int 0, .int 0, .int 4])), (bv, .inl (kB, 16, .inl fb))] H := hP
  have hD : va_D A [(zs, .inr (0, [.null, .int 0, .int 0, .int 0])), (y, .inr (1, [.ref bv, .int 0, .int 0, .int 4])), (bv, .inl (kB, 16, .inl fb))] := hD
  refine lv_aload_n hx hb dJ0_init_db425_27 rfl (lv_at hl 2 rfl) ?_
  refine lv_aload_n hx hb dJ0_init_db425_28 rfl (lv_at hl 1 rfl) ?_
  refine lv_iconst (v := 0) hx hb dJ0_init_db425_29 (by decide) ?_
  refine lv_iload hx hb dJ0_init_db425_30 (lv_at hl 0 rfl) ?_
  have hPc := hP.sub (ws' := [(bv, .inl (kB, 16, .inl fb))]) [2] rfl
  have hDc := hD.sub (ws' := [(bv, .inl (kB, 16, .inl fb))]) [2] (by decide) rfl
  have hKc := hK.sub (tys' := [(kB, .byte)]) [0] rfl
  have hFc := va_free (wc := [(bv, .inl (kB, 16, .inl fb))]) hD hS hA [2] rfl
  refine va_callr (va_runS (As := [.ref bv, .int 0, .int 4]) (rest := [.ref zs]) ⟨hx, hb, hml, hown, hts⟩ (c_Arr_cor4 l dC dI bv kB fb H.size hfb) (va_cwS 3 hts gJ0_init_db425_J7_copyOfRange_39247 rfl rfl rfl (by decide +kernel) ⟨Nat.le_of_ble_eq_true rfl, Nat.le_of_ble_eq_true rfl⟩) ⟨PQ_blind, PQ_pre hPc hKc hDc hF⟩ rfl rfl hl.1 rfl (lv_room (Nat.le_of_ble_eq_true rfl)) dJ0_init_db425_32 ⟨Nat.le_of_ble_eq_true rfl, Nat.le_of_ble_eq_true rfl⟩) hS (fun q _ h => hFc q h) hFc (fun u r_5 t H1 locs ht hvm hw hB hz1 hk1 hS => ?_)
  obtain ⟨kN_6, fz_7, hP1, hK1, hD1⟩ := hB
  rw [ht] at hP1
  have hK1 := va_K.moved hvm.symm hK1
  obtain ⟨hP, hD⟩ := va_join (wr := [(zs, .inr (0, [.null, .int 0, .int 0, .int 0])), (y, .inr (1, [.ref bv, .int 0, .int 0, .int 4]))]) (w1 := [(bv, .inl (kB, 16, .inl fb)), (r_5, .inl (kN_6, 4, .inl fz_7))]) hP hD [2] [0, 1] rfl rfl (by decide) (by decide) hk1 hFc hP1 hD1
  have hK := hK.app hK1
  generalize H1 = H at hP hS ⊢
  have hP : va_P (dC, dI) vwCl [(zs, .inr (0, [.null, .int 0, .int 0, .int 0])), (y, .inr (1, [.ref bv, .int 0, .int 0, .int 4])), (bv, .inl (kB, 16, .inl fb)), (r_5, .inl (kN_6, 4, .inl fz_7))] H := hP
  have hD : va_D A [(zs, .inr (0, [.null, .int 0, .int 0, .int 0])), (y, .inr (1, [.ref bv, .int 0, .int 0, .int 4])), (bv, .inl (kB, 16, .inl fb)), (r_5, .inl (kN_6, 4, .inl fz_7))] := hD
  have hK : va_K (dC, dI) vwCl [(kB, .byte), (kB, .byte), (kN_6, .byte)] s := hK
  refine W.widen (k := 1) (n := 4) (Nat.le_of_ble_eq_true rfl) (Nat.le_of_ble_eq_true rfl) ?_
  refine va_putF (D := (dC, dI)) (ci := 0) (v := .ref r_5) (ty := .array .byte) (C := RJ0) (T := TJ0) (N := 4) hx hb hts (fun _ h9 => List.mem_cons_of_mem _ (List.mem_append_left _ (List.mem_append_right _ (h9)))) tyJ0 tyJ0_ok nmJ0 hown hK hP hD hS 0 rfl rfl 0 (by decide) (hts (.fieldLink RJ0 9 "java/lang/String" "value" "[B") (List.mem_of_getElem? (i := 5) rfl)) (fun _ h9 => h9) rfl hin rfl (by decide +kernel) rfl rfl (Nat.le_of_ble_eq_true rfl) dJ0_init_db425_35 (fun H locs hP hD hS => ?_)
  have hP : va_P (dC, dI) vwCl [(zs, .inr (0, [.ref r_5, .int 0, .int 0, .int 0])), (y, .inr (1, [.ref bv, .int 0, .int 0, .int 4])), (bv, .inl (kB, 16, .inl fb)), (r_5, .inl (kN_6, 4, .inl fz_7))] H := hP
  have hD : va_D A [(zs, .inr (0, [.ref r_5, .int 0, .int 0, .int 0])), (y, .inr (1, [.ref bv, .int 0, .int 0, .int 4])), (bv, .inl (kB, 16, .inl fb)), (r_5, .inl (kN_6, 4, .inl fz_7))] := hD
  refine lv_goto (tgt := 97) hx hb dJ0_init_db425_38 (by decide) ?_
  have hP9 := hP.sub (ws' := [(zs, .inr (0, [.ref r_5, .int 0, .int 0, .int 0]))]) [0] rfl
  have hD9 := hD.sub (ws' := [(zs, .inr (0, [.ref r_5, .int 0, .int 0, .int 0]))]) [0] (by decide) rfl
  have hK9 := hK.sub (tys' := []) [] rfl
  exact W.vret hx hb hr (fun t ht hW => ⟨⟨(), rfl, trivial, r_5, by rw [ht]; exact hP9, va_K.moved hW.alike hK9, hD9⟩, hS.F ht⟩) hS.2.2 dJ0_init_db425_97

set_option maxHeartbeats 4000000 in
set_option maxRecDepth 100000 in
theorem c_Str_init4 (l : Launch) (dC : Nat → ClassId) (dI : Nat → Nat → Nat) (d : Nat) (tc : Nat) (ad : Nat → Nat) (zs : Nat) (y : Nat) (bv : Nat) (kB : ClassId) (fb : Nat → Int32) (sz : Nat) (hfb : sb_Fit fb) : Met l yJ0_init_81219 wsJ0_init_81219 ({ frames := 4, cells := 1, slots := 4, locals := 150 }) (va_Pc [.ref zs, .ref y] (PZ dC dI d tc ad sz [(zs, .inr (0, [.null, .int 0, .int 0, .int 0])), (y, .inr (1, [.ref bv, .int 0, .int 0, .int 4])), (bv, .inl (kB, 16, .inl fb))] [(kB, .byte)])) (va_Qv (fun _ : Unit => True) (fun _ t => ∃ (g2 : Nat), va_P (dC, dI) vwCl [(zs, .inr (0, [.ref g2, .int 0, .int 0, .int 0]))] t.heap ∧ va_K (dC, dI) vwCl [] t ∧ va_D (va_A [(zs, .inr (0, [.null, .int 0, .int 0, .int 0])), (y, .inr (1, [.ref bv, .int 0, .int 0, .int 4])), (bv, .inl (kB, 16, .inl fb))] sz) [(zs, .inr (0, [.ref g2, .int 0, .int 0, .int 0]))]) (va_A [(zs, .inr (0, [.null, .int 0, .int 0, .int 0])), (y, .inr (1, [.ref bv, .int 0, .int 0, .int 4])), (bv, .inl (kB, 16, .inl fb))] sz)) 1 4 (va_A [(zs, .inr (0, [.null, .int 0, .int 0, .int 0])), (y, .inr (1, [.ref bv, .int 0, .int 0, .int 4])), (bv, .inl (kB, 16, .inl fb))] sz) := by
  refine Met.ofW (cc := cJ0_init_81219) (maxL := 2) (ret := none) (by decide) rfl ?_
  intro p e s m args below meth c s₁ B hml hv
  obtain ⟨rfl, hsz, hP, hK, hD0, hF, hZ⟩ := hv
  have hx := B.exec
  have hb := B.bytes
  have hr := B.returns
  have hts := atoms_spec (ws := wsJ0_init_81219) B.pre
  have hown : s.vm.findClass RJ0 = some m.cls := findClass_of_methodNamed B.named
  have hlocks := B.notSynchronized
  have hin : meth.name = "<init>" := (name_of_methodNamed B.named B.method).1
  subst hsz
  have hD := hD0.self (sz := s.heap.size)
  generalize hAe : va_A [(zs, .inr (0, [.null, .int 0, .int 0, .int 0])), (y, .inr (1, [.ref bv, .int 0, .int 0, .int 4])), (bv, .inl (kB, 16, .inl fb))] s.heap.size = A at hD hZ ⊢
  have hA : ∀ q : Nat, s.heap.size ≤ q → A q := fun q h => by rw [← hAe]; exact Or.inr h
  have hS : va_S A s.heap s.heap [] := va_S.rf
  have hl := lv_entry ([.ref zs, .ref y]) (n := 2) (Nat.le_of_ble_eq_true rfl)
  rw [lg_entry_eq]
  generalize (lg_sl ([.ref zs, .ref y]) ++ List.replicate (2 - (lg_sl ([.ref zs, .ref y])).length) Slot.unset).toArray = ls at hl ⊢
  have hl : lv_has ls 2 [(0, .ref zs), (1, .ref y)] := hl
  refine lv_aload_n hx hb dJ0_init_81219_0 rfl (lv_at hl 0 rfl) ?_
  refine lv_aload_n hx hb dJ0_init_81219_1 rfl (lv_at hl 1 rfl) ?_
  refine lv_null hx hb dJ0_init_81219_2 ?_
  have hPc := hP.sub (ws' := [(zs, .inr (0, [.null, .int 0, .int 0, .int 0])), (y, .inr (1, [.ref bv, .int 0, .int 0, .int 4])), (bv, .inl (kB, 16, .inl fb))]) [0, 1, 2] rfl
  have hDc := hD.sub (ws' := [(zs, .inr (0, [.null, .int 0, .int 0, .int 0])), (y, .inr (1, [.ref bv, .int 0, .int 0, .int 4])), (bv, .inl (kB, 16, .inl fb))]) [0, 1, 2] (by decide) rfl
  have hKc := hK.sub (tys' := [(kB, .byte)]) [0] rfl
  have hFc := va_free (wc := [(zs, .inr (0, [.null, .int 0, .int 0, .int 0])), (y, .inr (1, [.ref bv, .int 0, .int 0, .int 4])), (bv, .inl (kB, 16, .inl fb))]) hD hS hA [0, 1, 2] rfl
  refine va_callv (va_runI (As := [.ref y, .null]) (rest := []) ⟨hx, hb, hml, hown, hts⟩ (c_Str_initV4 l dC dI d tc ad zs y bv kB fb s.heap.size hfb) (cwI 2 hts gJ0_init_81219_J0_init_db425 rfl rfl rfl (hts (.initialized RJ0) (List.mem_of_getElem? (i := 3) rfl)) (hts (.methodLink RJ0 489 yJ0_init_db425) (List.mem_of_getElem? (i := 1) rfl)) (hts (.instanceMethod yJ0_init_db425) (List.mem_of_getElem? (i := 2) rfl)) rfl (by decide +kernel) ⟨Nat.le_of_ble_eq_true rfl, Nat.le_of_ble_eq_true rfl⟩) ⟨PZ_blind, PZ_pre hPc hKc hDc hF hZ hS hFc⟩ rfl rfl hl.1 rfl (lv_room (Nat.le_of_ble_eq_true rfl)) dJ0_init_81219_3 ⟨Nat.le_of_ble_eq_true rfl, Nat.le_of_ble_eq_true rfl⟩) hS (fun q _ h => hFc q h) hFc (fun u t H1 locs ht hvm hw hB hz1 hk1 hS => ?_)
  obtain ⟨g2_2, hP1, hK1, hD1⟩ := hB
  rw [ht] at hP1
  have hK1 := va_K.moved hvm.symm hK1
  obtain ⟨hP, hD⟩ := va_join (wr := []) (w1 := [(zs, .inr (0, [.ref g2_2, .int 0, .int 0, .int 0]))]) hP hD [0, 1, 2] [] rfl rfl (by decide) (by decide) hk1 hFc hP1 hD1
  have hK := hK.app hK1
  generalize H1 = H at hP hS ⊢
  have hP : va_P (dC, dI) vwCl [(zs, .inr (0, [.ref g2_2, .int 0, .int 0, .int 0]))] H := hP
  have hD : va_D A [(zs, .inr (0, [.ref g2_2, .int 0, .int 0, .int 0]))] := hD
  have hK : va_K (dC, dI) vwCl [(kB, .byte)] s := hK
  refine W.widen (k := 1) (n := 4) (Nat.le_of_ble_eq_true rfl) (Nat.le_of_ble_eq_true rfl) ?_
  have hP9 := hP.sub (ws' := [(zs, .inr (0, [.ref g2_2, .int 0, .int 0, .int 0]))]) [0] rfl
  have hD9 := hD.sub (ws' := [(zs, .inr (0, [.ref g2_2, .int 0, .int 0, .int 0]))]) [0] (by decide) rfl
  have hK9 := hK.sub (tys' := []) [] rfl
  exact W.vret hx hb hr (fun t ht hW => ⟨⟨(), rfl, trivial, g2_2, by rw [ht]; exact hP9, va_K.moved hW.alike hK9, hD9⟩, hS.F ht⟩) hS.2.2 dJ0_init_81219_6

set_option maxHeartbeats 4000000 in
set_option maxRecDepth 100000 in
theorem c_SB_toString4 (l : Launch) (dC : Nat → ClassId) (dI : Nat → Nat → Nat) (d : Nat) (tc : Nat) (ad : Nat → Nat) (y : Nat) (bv : Nat) (kB : ClassId) (fb : Nat → Int32) (sz : Nat) (hfb : sb_Fit fb) : Met l yJ4_toString_0e30d wsJ4_toString_0e30d ({ frames := 5, cells := 2, slots := 8, locals := 171 }) (va_Pc [.ref y] (PZ dC dI d tc ad sz [(y, .inr (1, [.ref bv, .int 0, .int 0, .int 4])), (bv, .inl (kB, 16, .inl fb))] [(kB, .byte)])) (va_Qr (fun _ : Unit => True) (fun _ ra t => ∃ (g2 : Nat), va_P (dC, dI) vwCl [(ra, .inr (0, [.ref g2, .int 0, .int 0, .int 0]))] t.heap ∧ va_K (dC, dI) vwCl [] t ∧ va_D (va_A [(y, .inr (1, [.ref bv, .int 0, .int 0, .int 4])), (bv, .inl (kB, 16, .inl fb))] sz) [(ra, .inr (0, [.ref g2, .int 0, .int 0, .int 0]))]) (va_A [(y, .inr (1, [.ref bv, .int 0, .int 0, .int 4])), (bv, .inl (kB, 16, .inl fb))] sz)) 2 8 (va_A [(y, .inr (1, [.ref bv, .int 0, .int 0, .int 4])), (bv, .inl (kB, 16, .inl fb))] sz) := by
  refine Met.ofW (cc := cJ4_toString_0e30d) (maxL := 1) (ret := (some (.object "java/lang/String"))) (by decide) rfl ?_
  intro p e s m args below meth c s₁ B hml hv
  obtain ⟨rfl, hsz, hP, hK, hD0, hF, hZ⟩ := hv
  have hx := B.exec
  have hb := B.bytes
  have hr := B.returns
  have hts := atoms_spec (ws := wsJ4_toString_0e30d) B.pre
  have hown : s.vm.findClass RJ4 = some m.cls := findClass_of_methodNamed B.named
  have hlocks := B.notSynchronized
  subst hsz
  have hD := hD0.self (sz := s.heap.size)
  generalize hAe : va_A [(y, .inr (1, [.ref bv, .int 0, .int 0, .int 4])), (bv, .inl (kB, 16, .inl fb))] s.heap.size = A at hD hZ ⊢
  have hA : ∀ q : Nat, s.heap.size ≤ q → A q := fun q h => by rw [← hAe]; exact Or.inr h
  have hS : va_S A s.heap s.heap [] := va_S.rf
  have hl := lv_entry ([.ref y]) (n := 1) (Nat.le_of_ble_eq_true rfl)
  rw [lg_entry_eq]
  generalize (lg_sl ([.ref y]) ++ List.replicate (1 - (lg_sl ([.ref y])).length) Slot.unset).toArray = ls at hl ⊢
  have hl : lv_has ls 1 [(0, .ref y)] := hl
  refine va_new (ci := 0) (fs := [.null, .int 0, .int 0, .int 0]) (C := RJ0) (T := TJ0) (N := 4) hx hb hts (fun _ h9 => List.mem_cons_of_mem _ (List.mem_append_left _ (List.mem_append_right _ (h9)))) tyJ0 tyJ0_ok hown (hts (.classLink RJ4 18 RJ0) (List.mem_of_getElem? (i := 1) rfl)) (hts (.instantiable RJ0 4) (List.mem_of_getElem? (i := 2) rfl)) (hts (.initialized RJ0) (List.mem_of_getElem? (i := 3) rfl)) hK hP hD hS hA rfl dfJ0 (Nat.le_of_ble_eq_true rfl) (Nat.le_of_ble_eq_true rfl) dJ4_toString_0e30d_0 (fun q_1 H hP hD hS => ?_)
  have hP : va_P (dC, dI) vwCl [(y, .inr (1, [.ref bv, .int 0, .int 0, .int 4])), (bv, .inl (kB, 16, .inl fb)), (q_1, .inr (0, [.null, .int 0, .int 0, .int 0]))] H := hP
  have hD : va_D A [(y, .inr (1, [.ref bv, .int 0, .int 0, .int 4])), (bv, .inl (kB, 16, .inl fb)), (q_1, .inr (0, [.null, .int 0, .int 0, .int 0]))] := hD
  refine W.widen (k := 1) (n := 4) (Nat.le_of_ble_eq_true rfl) (Nat.le_of_ble_eq_true rfl) ?_
  refine lv_dup hx hb dJ4_toString_0e30d_3 rfl ?_
  refine lv_aload_n hx hb dJ4_toString_0e30d_4 rfl (lv_at hl 0 rfl) ?_
  have hPc := hP.sub (ws' := [(q_1, .inr (0, [.null, .int 0, .int 0, .int 0])), (y, .inr (1, [.ref bv, .int 0, .int 0, .int 4])), (bv, .inl (kB, 16, .inl fb))]) [2, 0, 1] rfl
  have hDc := hD.sub (ws' := [(q_1, .inr (0, [.null, .int 0, .int 0, .int 0])), (y, .inr (1, [.ref bv, .int 0, .int 0, .int 4])), (bv, .inl (kB, 16, .inl fb))]) [2, 0, 1] (by decide) rfl
  have hKc := hK.sub (tys' := [(kB, .byte)]) [0] rfl
  have hFc := va_free (wc := [(q_1, .inr (0, [.null, .int 0, .int 0, .int 0])), (y, .inr (1, [.ref bv, .int 0, .int 0, .int 4])), (bv, .inl (kB, 16, .inl fb))]) hD hS hA [2, 0, 1] rfl
  refine va_callv (va_runI (As := [.ref y]) (rest := [.ref q_1]) ⟨hx, hb, hml, hown, hts⟩ (c_Str_init4 l dC dI d tc ad q_1 y bv kB fb H.size hfb) (cwI 1 hts gJ4_toString_0e30d_J0_init_81219 rfl rfl rfl (hts (.initialized RJ0) (List.mem_of_getElem? (i := 3) rfl)) (hts (.methodLink RJ4 137 yJ0_init_81219) (List.mem_of_getElem? (i := 4) rfl)) (hts (.instanceMethod yJ0_init_81219) (List.mem_of_getElem? (i := 5) rfl)) rfl (by decide +kernel) ⟨Nat.le_of_ble_eq_true rfl, Nat.le_of_ble_eq_true rfl⟩) ⟨PZ_blind, PZ_pre hPc hKc hDc hF hZ hS hFc⟩ rfl rfl hl.1 rfl (lv_room (Nat.le_of_ble_eq_true rfl)) dJ4_toString_0e30d_5 ⟨Nat.le_of_ble_eq_true rfl, Nat.le_of_ble_eq_true rfl⟩) hS (fun q _ h => hFc q h) hFc (fun u t H1 locs ht hvm hw hB hz1 hk1 hS => ?_)
  obtain ⟨g2_3, hP1, hK1, hD1⟩ := hB
  rw [ht] at hP1
  have hK1 := va_K.moved hvm.symm hK1
  obtain ⟨hP, hD⟩ := va_join (wr := []) (w1 := [(q_1, .inr (0, [.ref g2_3, .int 0, .int 0, .int 0]))]) hP hD [2, 0, 1] [] rfl rfl (by decide) (by decide) hk1 hFc hP1 hD1
  have hK := hK.app hK1
  generalize H1 = H at hP hS ⊢
  have hP : va_P (dC, dI) vwCl [(q_1, .inr (0, [.ref g2_3, .int 0, .int 0, .int 0]))] H := hP
  have hD : va_D A [(q_1, .inr (0, [.ref g2_3, .int 0, .int 0, .int 0]))] := hD
  have hK : va_K (dC, dI) vwCl [(kB, .byte)] s := hK
  refine W.widen (k := 2) (n := 8) (Nat.le_of_ble_eq_true rfl) (Nat.le_of_ble_eq_true rfl) ?_
  have hP9 := hP.sub (ws' := [(q_1, .inr (0, [.ref g2_3, .int 0, .int 0, .int 0]))]) [0] rfl
  have hD9 := hD.sub (ws' := [(q_1, .inr (0, [.ref g2_3, .int 0, .int 0, .int 0]))]) [0] (by decide) rfl
  have hK9 := hK.sub (tys' := []) [] rfl
  exact W.aret (v := .ref q_1) hx hb hr (Or.inl ⟨_, rfl⟩) (Or.inr ⟨_, rfl⟩) (fun t ht hW => ⟨⟨(), _, rfl, trivial, g2_3, by rw [ht]; exact hP9, va_K.moved hW.alike hK9, hD9⟩, hS.F ht⟩) hS.2.2 dJ4_toString_0e30d_8

set_option maxHeartbeats 4000000 in
set_option maxRecDepth 100000 in
theorem c_Arr_corb5 (l : Launch) (dC : Nat → ClassId) (dI : Nat → Nat → Nat) (bv : Nat) (kB : ClassId) (fb : Nat → Int32) (sz : Nat) (hfb : sb_Fit fb) : Met l yJ7_copyOfRangeByte_39247 wsJ7_copyOfRangeByte_39247 ({ frames := 1, cells := 1, slots := 5, locals := 80 }) (va_Pc [.ref bv, .int 0, .int 5] (PQ dC dI sz [(bv, .inl (kB, 16, .inl fb))] [(kB, .byte)])) (va_Qr (fun _ : Unit => True) (fun _ ra t => ∃ (kN : ClassId) (fz : Nat → Int32), va_P (dC, dI) vwCl [(bv, .inl (kB, 16, .inl fb)), (ra, .inl (kN, 5, .inl fz))] t.heap ∧ va_K (dC, dI) vwCl [(kB, .byte), (kN, .byte)] t ∧ va_D (va_A [(bv, .inl (kB, 16, .inl fb))] sz) [(bv, .inl (kB, 16, .inl fb)), (ra, .inl (kN, 5, .inl fz))]) (va_A [(bv, .inl (kB, 16, .inl fb))] sz)) 1 5 (va_A [(bv, .inl (kB, 16, .inl fb))] sz) := by
  refine Met.ofW (cc := cJ7_copyOfRangeByte_39247) (maxL := 5) (ret := (some (.array .byte))) (by decide) rfl ?_
  intro p e s m args below meth c s₁ B hml hv
  obtain ⟨rfl, hsz, hP, hK, hD0, hF⟩ := hv
  have hx := B.exec
  have hb := B.bytes
  have hr := B.returns
  have hts := atoms_spec (ws := wsJ7_copyOfRangeByte_39247) B.pre
  have hown : s.vm.findClass RJ7 = some m.cls := findClass_of_methodNamed B.named
  have hlocks := B.notSynchronized
  subst hsz
  have hD := hD0.self (sz := s.heap.size)
  generalize hAe : va_A [(bv, .inl (kB, 16, .inl fb))] s.heap.size = A at hD ⊢
  have hA : ∀ q : Nat, s.heap.size ≤ q → A q := fun q h => by rw [← hAe]; exact Or.inr h
  have hS : va_S A s.heap s.heap [] := va_S.rf
  have hl := lv_entry ([.ref bv, .int 0, .int 5]) (n := 5) (Nat.le_of_ble_eq_true rfl)
  rw [lg_entry_eq]
  generalize (lg_sl ([.ref bv, .int 0, .int 5]) ++ List.replicate (5 - (lg_sl ([.ref bv, .int 0, .int 5])).length) Slot.unset).toArray = ls at hl ⊢
  have hl : lv_has ls 5 [(0, .ref bv), (1, .int 0), (2, .int 5)] := hl
  refine lv_iload_n hx hb dJ7_copyOfRangeByte_39247_0 rfl (lv_at hl 1 rfl) ?_
  refine lv_iload_n hx hb dJ7_copyOfRangeByte_39247_1 rfl (lv_at hl 2 rfl) ?_
  refine va_csv (va_Run.run (va_runS (As := [.int 0, .int 5]) (rest := []) ⟨hx, hb, hml, hown, hts⟩ (c_Arr_checkLength l dC dI 0 5 (by decide)) (va_cwS 2 hts gJ7_copyOfRangeByte_39247_J7_checkLength_df160 rfl rfl rfl (by decide +kernel) ⟨Nat.le_of_ble_eq_true rfl, Nat.le_of_ble_eq_true rfl⟩) ⟨PS_blind, PS_pre (hP.sub (ws' := []) [] rfl) (hK.sub (tys' := []) [] rfl) hF⟩ rfl rfl hl.1 rfl (lv_room (Nat.le_of_ble_eq_true rfl)) dJ7_copyOfRangeByte_39247_2 ⟨Nat.le_of_ble_eq_true rfl, Nat.le_of_ble_eq_true rfl⟩)) (fun _ => ?_)
  refine lv_iload_n hx hb dJ7_copyOfRangeByte_39247_5 rfl (lv_at hl 2 rfl) ?_
  refine lv_iload_n hx hb dJ7_copyOfRangeByte_39247_6 rfl (lv_at hl 1 rfl) ?_
  refine lv_isub hx hb dJ7_copyOfRangeByte_39247_7 ?_
  refine lv_topi (fun f_2 ef_2 => ?_)
  obtain rfl : f_2 = 5 := ef_2.trans (by decide)
  refine lv_istore_n (lv' := [(3, .int 5), (0, .ref bv), (1, .int 0), (2, .int 5)]) hx hb dJ7_copyOfRangeByte_39247_8 rfl hl (by decide) rfl (fun ls hl => ?_)
  refine lv_iload_n hx hb dJ7_copyOfRangeByte_39247_9 rfl (lv_at hl 0 rfl) ?_
  refine va_newa (atype := .byte) (ty := .byte) (a0 := (5, (.inl (fun _ => 0)))) hx hb (hts (.arrayClass .byte) (List.mem_of_getElem? (i := 1) rfl)) rfl hK hP hD hS hA (fun _ => rfl) (by decide) (by decide) (Nat.le_of_ble_eq_true rfl) (Nat.le_of_ble_eq_true rfl) (Nat.le_of_ble_eq_true rfl) dJ7_copyOfRangeByte_39247_10 (fun q_3 k_4 H hK hP hD hS => ?_)
  have hP : va_P (dC, dI) vwCl [(bv, .inl (kB, 16, .inl fb)), (q_3, .inl (k_4, 5, .inl (fun _ => 0)))] H := hP
  have hD : va_D A [(bv, .inl (kB, 16, .inl fb)), (q_3, .inl (k_4, 5, .inl (fun _ => 0)))] := hD
  have hK : va_K (dC, dI) vwCl [(kB, .byte), (k_4, .byte)] s := hK
  refine W.widen (k := 1) (n := 5) (Nat.le_of_ble_eq_true rfl) (Nat.le_of_ble_eq_true rfl) ?_
  refine lv_astore (lv' := [(4, .ref q_3), (3, .int 5), (0, .ref bv), (1, .int 0), (2, .int 5)]) hx hb dJ7_copyOfRangeByte_39247_12 hl (by decide) rfl (fun ls hl => ?_)
  refine lv_aload_n hx hb dJ7_copyOfRangeByte_39247_14 rfl (lv_at hl 2 rfl) ?_
  refine lv_iload_n hx hb dJ7_copyOfRangeByte_39247_15 rfl (lv_at hl 3 rfl) ?_
  refine lv_aload hx hb dJ7_copyOfRangeByte_39247_16 (lv_at hl 0 rfl) ?_
  refine lv_iconst (v := 0) hx hb dJ7_copyOfRangeByte_39247_18 (by decide) ?_
  refine lv_aload_n hx hb dJ7_copyOfRangeByte_39247_19 rfl (lv_at hl 2 rfl) ?_
  refine va_alen hx hb hK hP 0 0 rfl rfl (v := 16) rfl dJ7_copyOfRangeByte_39247_20 ?_
  refine lv_iload_n hx hb dJ7_copyOfRangeByte_39247_21 rfl (lv_at hl 3 rfl) ?_
  refine lv_isub hx hb dJ7_copyOfRangeByte_39247_22 ?_
  refine lv_topi (fun f_5 ef_5 => ?_)
  obtain rfl : f_5 = 16 := ef_5.trans (by decide)
  refine lv_iload_n hx hb dJ7_copyOfRangeByte_39247_23 rfl (lv_at hl 1 rfl) ?_
  refine va_mmin hx hb (hml.trans hl.1.symm) hown (hts (.methodLink RJ7 304 Lib.Math.min.name) (List.mem_of_getElem? (i := 2) rfl)) (hts (.static Lib.Math.min.name) (List.mem_of_getElem? (i := 3) rfl)) (hts (.initialized "java/lang/Math") (List.mem_of_getElem? (i := 4) rfl)) (hts (.code Lib.Math.min.name Lib.Math.min.code 2 (some .int)) (List.mem_of_getElem? (i := 5) rfl)) (Nat.le_of_ble_eq_true rfl) (Nat.le_of_ble_eq_true rfl) (Nat.le_of_ble_eq_true rfl) (Nat.le_of_ble_eq_true rfl) dJ7_copyOfRangeByte_39247_24 ?_
  refine lv_topi (fun f_6 ef_6 => ?_)
  obtain rfl : f_6 = 5 := ef_6.trans (by decide)
  refine va_copyi (ty := .byte) hx hb (hml.trans hl.1.symm) hown (hts (.methodLink RJ7 150 arraycopyName) (List.mem_of_getElem? (i := 6) rfl)) (hts (.native arraycopyName) (List.mem_of_getElem? (i := 7) rfl)) (hts (.static arraycopyName) (List.mem_of_getElem? (i := 8) rfl)) (hts (.initialized "java/lang/System") (List.mem_of_getElem? (i := 9) rfl)) hK hP hD hS 0 1 0 1 rfl rfl rfl rfl rfl (sp := 0) (dp := 0) (n := 5) (by decide) (by decide) (by decide) (by decide) (by decide) (fun i _ => hfb _) (Nat.le_of_ble_eq_true rfl) (Nat.le_of_ble_eq_true rfl) dJ7_copyOfRangeByte_39247_27 (fun H locs hP hD hS => ?_)
  have hP : va_P (dC, dI) vwCl [(bv, .inl (kB, 16, .inl fb)), (q_3, .inl (k_4, 5, .inl (va_cpy fb (fun _ => 0) (0 : Int32).toNatClampNeg (0 : Int32).toNatClampNeg (5 : Int32).toNatClampNeg)))] H := hP
  have hD : va_D A [(bv, .inl (kB, 16, .inl fb)), (q_3, .inl (k_4, 5, .inl (va_cpy fb (fun _ => 0) (0 : Int32).toNatClampNeg (0 : Int32).toNatClampNeg (5 : Int32).toNatClampNeg)))] := hD
  have ha_7 : sb_Fit (va_cpy fb (fun _ => 0) (0 : Int32).toNatClampNeg (0 : Int32).toNatClampNeg (5 : Int32).toNatClampNeg) := sb_fitC hfb sb_fit0
  generalize (va_cpy fb (fun _ => 0) (0 : Int32).toNatClampNeg (0 : Int32).toNatClampNeg (5 : Int32).toNatClampNeg) = a_7 at hP hD ha_7
  refine lv_aload hx hb dJ7_copyOfRangeByte_39247_30 (lv_at hl 0 rfl) ?_
  have hP9 := hP.sub (ws' := [(bv, .inl (kB, 16, .inl fb)), (q_3, .inl (k_4, 5, .inl a_7))]) [0, 1] rfl
  have hD9 := hD.sub (ws' := [(bv, .inl (kB, 16, .inl fb)), (q_3, .inl (k_4, 5, .inl a_7))]) [0, 1] (by decide) rfl
  have hK9 := hK.sub (tys' := [(kB, .byte), (k_4, .byte)]) [0, 1] rfl
  exact W.aret (v := .ref q_3) hx hb hr (Or.inr ⟨_, rfl⟩) (Or.inr ⟨_, rfl⟩) (fun t ht hW => ⟨⟨(), _, rfl, trivial, k_4, a_7, by rw [ht]; exact hP9, va_K.moved hW.alike hK9, hD9⟩, hS.F ht⟩) hS.2.2 dJ7_copyOfRangeByte_39247_32

set_option maxHeartbeats 4000000 in
set_option maxRecDepth 100000 in
theorem c_Arr_cor5 (l : Launch) (dC : Nat → ClassId) (dI : Nat → Nat → Nat) (bv : Nat) (kB : ClassId) (fb : Nat → Int32) (sz : Nat) (hfb : sb_Fit fb) : Met l yJ7_copyOfRange_39247 wsJ7_copyOfRange_39247 ({ frames := 2, cells := 1, slots := 5, locals := 104 }) (va_Pc [.ref bv, .int 0, .int 5] (PQ dC dI sz [(bv, .inl (kB, 16, .inl fb))] [(kB, .byte)])) (va_Qr (fun _ : Unit => True) (fun _ ra t => ∃ (kN : ClassId) (fz : Nat → Int32), va_P (dC, dI) vwCl [(bv, .inl (kB, 16, .inl fb)), (ra, .inl (kN, 5, .inl fz))] t.heap ∧ va_K (dC, dI) vwCl [(kB, .byte), (kN, .byte)] t ∧ va_D (va_A [(bv, .inl (kB, 16, .inl fb))] sz) [(bv, .inl (kB, 16, .inl fb)), (ra, .inl (kN, 5, .inl fz))]) (va_A [(bv, .inl (kB, 16, .inl fb))] sz)) 1 5 (va_A [(bv, .inl (kB, 16, .inl fb))] sz) := by
  refine Met.ofW (cc := cJ7_copyOfRange_39247) (maxL := 3) (ret := (some (.array .byte))) (by decide) rfl ?_
  intro p e s m args below meth c s₁ B hml hv
  obtain ⟨rfl, hsz, hP, hK, hD0, hF⟩ := hv
  have hx := B.exec
  have hb := B.bytes
  have hr := B.returns
  have hts := atoms_spec (ws := wsJ7_copyOfRange_39247) B.pre
  have hown : s.vm.findClass RJ7 = some m.cls := findClass_of_methodNamed B.named
  have hlocks := B.notSynchronized
  subst hsz
  have hD := hD0.self (sz := s.heap.size)
  generalize hAe : va_A [(bv, .inl (kB, 16, .inl fb))] s.heap.size = A at hD ⊢
  have hA : ∀ q : Nat, s.heap.size ≤ q → A q := fun q h => by rw [← hAe]; exact Or.inr h
  have hS : va_S A s.heap s.heap [] := va_S.rf
  have hl := lv_entry ([.ref bv, .int 0, .int 5]) (n := 3) (Nat.le_of_ble_eq_true rfl)
  rw [lg_entry_eq]
  generalize (lg_sl ([.ref bv, .int 0, .int 5]) ++ List.replicate (3 - (lg_sl ([.ref bv, .int 0, .int 5])).length) Slot.unset).toArray = ls at hl ⊢
  have hl : lv_has ls 3 [(0, .ref bv), (1, .int 0), (2, .int 5)] := hl
  refine lv_iload_n hx hb dJ7_copyOfRange_39247_0 rfl (lv_at hl 1 rfl) ?_
  refine lv_if_ne (tgt := 10) hx hb dJ7_copyOfRange_39247_1 (by decide) (fun c_1 => absurd (by decide) c_1) (fun _ => ?_)
  refine lv_iload_n hx hb dJ7_copyOfRange_39247_4 rfl (lv_at hl 2 rfl) ?_
  refine lv_aload_n hx hb dJ7_copyOfRange_39247_5 rfl (lv_at hl 0 rfl) ?_
  refine va_alen hx hb hK hP 0 0 rfl rfl (v := 16) rfl dJ7_copyOfRange_39247_6 ?_
  refine lv_icmp_eq (tgt := 17) hx hb dJ7_copyOfRange_39247_7 (by decide) (fun c_2 => absurd c_2 (by decide)) (fun _ => ?_)
  refine lv_aload_n hx hb dJ7_copyOfRange_39247_10 rfl (lv_at hl 0 rfl) ?_
  refine lv_iload_n hx hb dJ7_copyOfRange_39247_11 rfl (lv_at hl 1 rfl) ?_
  refine lv_iload_n hx hb dJ7_copyOfRange_39247_12 rfl (lv_at hl 2 rfl) ?_
  have hPc := hP.sub (ws' := [(bv, .inl (kB, 16, .inl fb))]) [0] rfl
  have hDc := hD.sub (ws' := [(bv, .inl (kB, 16, .inl fb))]) [0] (by decide) rfl
  have hKc := hK.sub (tys' := [(kB, .byte)]) [0] rfl
  have hFc := va_free (wc := [(bv, .inl (kB, 16, .inl fb))]) hD hS hA [0] rfl
  refine va_callr (va_runS (As := [.ref bv, .int 0, .int 5]) (rest := []) ⟨hx, hb, hml, hown, hts⟩ (c_Arr_corb5 l dC dI bv kB fb s.heap.size hfb) (va_cwS 3 hts gJ7_copyOfRange_39247_J7_copyOfRangeByte_39247 rfl rfl rfl (by decide +kernel) ⟨Nat.le_of_ble_eq_true rfl, Nat.le_of_ble_eq_true rfl⟩) ⟨PQ_blind, PQ_pre hPc hKc hDc hF⟩ rfl rfl hl.1 rfl (lv_room (Nat.le_of_ble_eq_true rfl)) dJ7_copyOfRange_39247_13 ⟨Nat.le_of_ble_eq_true rfl, Nat.le_of_ble_eq_true rfl⟩) hS (fun q _ h => hFc q h) hFc (fun u r_3 t H1 locs ht hvm hw hB hz1 hk1 hS => ?_)
  obtain ⟨kN_4, fz_5, hP1, hK1, hD1⟩ := hB
  rw [ht] at hP1
  have hK1 := va_K.moved hvm.symm hK1
  obtain ⟨hP, hD⟩ := va_join (wr := []) (w1 := [(bv, .inl (kB, 16, .inl fb)), (r_3, .inl (kN_4, 5, .inl fz_5))]) hP hD [0] [] rfl rfl (by decide) (by decide) hk1 hFc hP1 hD1
  have hK := hK.app hK1
  generalize H1 = H at hP hS ⊢
  have hP : va_P (dC, dI) vwCl [(bv, .inl (kB, 16, .inl fb)), (r_3, .inl (kN_4, 5, .inl fz_5))] H := hP
  have hD : va_D A [(bv, .inl (kB, 16, .inl fb)), (r_3, .inl (kN_4, 5, .inl fz_5))] := hD
  have hK : va_K (dC, dI) vwCl [(kB, .byte), (kB, .byte), (kN_4, .byte)] s := hK
  refine W.widen (k := 1) (n := 5) (Nat.le_of_ble_eq_true rfl) (Nat.le_of_ble_eq_true rfl) ?_
  have hP9 := hP.sub (ws' := [(bv, .inl (kB, 16, .inl fb)), (r_3, .inl (kN_4, 5, .inl fz_5))]) [0, 1] rfl
  have hD9 := hD.sub (ws' := [(bv, .inl (kB, 16, .inl fb)), (r_3, .inl (kN_4, 5, .inl fz_5))]) [0, 1] (by decide) rfl
  have hK9 := hK.sub (tys' := [(kB, .byte), (kN_4, .byte)]) [0, 2] rfl
  exact W.aret (v := .ref r_3) hx hb hr (Or.inr ⟨_, rfl⟩) (Or.inr ⟨_, rfl⟩) (fun t ht hW => ⟨⟨(), _, rfl, trivial, kN_4, fz_5, by rw [ht]; exact hP9, va_K.moved hW.alike hK9, hD9⟩, hS.F ht⟩) hS.2.2 dJ7_copyOfRange_39247_16

set_option maxHeartbeats 4000000 in
set_option maxRecDepth 100000 in
theorem c_Str_initV5 (l : Launch) (dC : Nat → ClassId) (dI : Nat → Nat → Nat) (d : Nat) (tc : Nat) (ad : Nat → Nat) (zs : Nat) (y : Nat) (bv : Nat) (kB : ClassId) (fb : Nat → Int32) (sz : Nat) (hfb : sb_Fit fb) : Met l yJ0_init_db425 wsJ0_init_db425 ({ frames := 3, cells := 1, slots := 5, locals := 126 }) (va_Pc [.ref zs, .ref y, .null] (PZ dC dI d tc ad sz [(zs, .inr (0, [.null, .int 0, .int 0, .int 0])), (y, .inr (1, [.ref bv, .int 0, .int 0, .int 5])), (bv, .inl (kB, 16, .inl fb))] [(kB, .byte)])) (va_Qv (fun _ : Unit => True) (fun _ t => ∃ (g2 : Nat), va_P (dC, dI) vwCl [(zs, .inr (0, [.ref g2, .int 0, .int 0, .int 0]))] t.heap ∧ va_K (dC, dI) vwCl [] t ∧ va_D (va_A [(zs, .inr (0, [.null, .int 0, .int 0, .int 0])), (y, .inr (1, [.ref bv, .int 0, .int 0, .int 5])), (bv, .inl (kB, 16, .inl fb))] sz) [(zs, .inr (0, [.ref g2, .int 0, .int 0, .int 0]))]) (va_A [(zs, .inr (0, [.null, .int 0, .int 0, .int 0])), (y, .inr (1, [.ref bv, .int 0, .int 0, .int 5])), (bv, .inl (kB, 16, .inl fb))] sz)) 1 5 (va_A [(zs, .inr (0, [.null, .int 0, .int 0, .int 0])), (y, .inr (1, [.ref bv, .int 0, .int 0, .int 5])), (bv, .inl (kB, 16, .inl fb))] sz) := by
  refine Met.ofW (cc := cJ0_init_db425) (maxL := 5) (ret := none) (by decide) rfl ?_
  intro p e s m args below meth c s₁ B hml hv
  obtain ⟨rfl, hsz, hP, hK, hD0, hF, hZ⟩ := hv
  have hx := B.exec
  have hb := B.bytes
  have hr := B.returns
  have hts := atoms_spec (ws := wsJ0_init_db425) B.pre
  have hown : s.vm.findClass RJ0 = some m.cls := findClass_of_methodNamed B.named
  have hlocks := B.notSynchronized
  have hin : meth.name = "<init>" := (name_of_methodNamed B.named B.method).1
  subst hsz
  have hD := hD0.self (sz := s.heap.size)
  generalize hAe : va_A [(zs, .inr (0, [.null, .int 0, .int 0, .int 0])), (y, .inr (1, [.ref bv, .int 0, .int 0, .int 5])), (bv, .inl (kB, 16, .inl fb))] s.heap.size = A at hD hZ ⊢
  have hA : ∀ q : Nat, s.heap.size ≤ q → A q := fun q h => by rw [← hAe]; exact Or.inr h
  have hS : va_S A s.heap s.heap [] := va_S.rf
  have hl := lv_entry ([.ref zs, .ref y, .null]) (n := 5) (Nat.le_of_ble_eq_true rfl)
  rw [lg_entry_eq]
  generalize (lg_sl ([.ref zs, .ref y, .null]) ++ List.replicate (5 - (lg_sl ([.ref zs, .ref y, .null])).length) Slot.unset).toArray = ls at hl ⊢
  have hl : lv_has ls 5 [(0, .ref zs), (1, .ref y), (2, .null)] := hl
  refine lv_aload_n hx hb dJ0_init_db425_0 rfl (lv_at hl 0 rfl) ?_
  refine W.objInit hx hb hown (hts (.methodLink RJ0 1 objectInit) (List.mem_of_getElem? (i := 1) rfl)) (hts (.instanceMethod objectInit) (List.mem_of_getElem? (i := 2) rfl)) (hts _ (List.mem_of_getElem? (i := 3) rfl)) rfl (by rw [hml]; exact hl.1) rfl dJ0_init_db425_1 (Nat.le_of_ble_eq_true rfl) (Nat.le_of_ble_eq_true rfl) ?_
  refine W.eq (g2 := F0 m 4 ls []) rfl ?_
  refine lv_aload_n hx hb dJ0_init_db425_4 rfl (lv_at hl 1 rfl) ?_
  refine va_csq (va_Run.run (va_runU (As := []) (rest := []) ⟨hx, hb, hml, hown, hts⟩ (c_SB_getValue l dC dI y bv 5) (va_cwU 0 hts gJ0_init_db425_J5_getValue_6d5f1_u552J4 rfl rfl rfl rfl (by decide +kernel) ⟨Nat.le_of_ble_eq_true rfl, Nat.le_of_ble_eq_true rfl⟩) ⟨PS_blind, va_recv hK hP (ci := 1) (q0 := 1) rfl rfl, PS_pre (hP.sub (ws' := [(y, .inr (1, [.ref bv, .int 0, .int 0, .int 5]))]) [1] rfl) (hK.sub (tys' := []) [] rfl) hF⟩ rfl rfl hl.1 rfl (lv_room (Nat.le_of_ble_eq_true rfl)) dJ0_init_db425_5 ⟨Nat.le_of_ble_eq_true rfl, Nat.le_of_ble_eq_true rfl⟩)) (fun r_1 hr_1 => ?_)
  subst hr_1
  refine W.eq (g2 := F0 m 8 ls [.ref bv]) rfl ?_
  refine lv_astore_n (lv' := [(3, .ref bv), (0, .ref zs), (1, .ref y), (2, .null)]) hx hb dJ0_init_db425_8 rfl hl (by decide) rfl (fun ls hl => ?_)
  refine lv_aload_n hx hb dJ0_init_db425_9 rfl (lv_at hl 2 rfl) ?_
  refine vp_callSi (va_Run.run (va_runU (As := []) (rest := []) ⟨hx, hb, hml, hown, hts⟩ (c_SB_length l dC dI y bv 5) (va_cwO 0 hts gJ0_init_db425_J4_length_8abf5_u549J4 rfl rfl rfl (List.mem_of_getElem? (i := 25) rfl : (Cond.code yJ5_length_8abf5 cJ5_length_8abf5 1 (some .int)) ∈ wsJ0_init_db425) (by decide +kernel) ⟨Nat.le_of_ble_eq_true rfl, Nat.le_of_ble_eq_true rfl⟩) ⟨PS_blind, va_recv hK hP (ci := 1) (q0 := 1) rfl rfl, PS_pre (hP.sub (ws' := [(y, .inr (1, [.ref bv, .int 0, .int 0, .int 5]))]) [1] rfl) (hK.sub (tys' := []) [] rfl) hF⟩ rfl rfl hl.1 rfl (lv_room (Nat.le_of_ble_eq_true rfl)) dJ0_init_db425_10 ⟨Nat.le_of_ble_eq_true rfl, Nat.le_of_ble_eq_true rfl⟩)) (fun r_2 hr_2 => ?_)
  subst hr_2
  refine lv_istore (lv' := [(4, .int 5), (3, .ref bv), (0, .ref zs), (1, .ref y), (2, .null)]) hx hb dJ0_init_db425_13 hl (by decide) rfl (fun ls hl => ?_)
  refine lv_aload_n hx hb dJ0_init_db425_15 rfl (lv_at hl 3 rfl) ?_
  refine vp_callSi (va_Run.run (va_runU (As := []) (rest := []) ⟨hx, hb, hml, hown, hts⟩ (c_SB_isLatin1 l dC dI d tc ad y bv 5) (va_cwU 0 hts gJ0_init_db425_J5_isLatin1_aae02_u1047J4 rfl rfl rfl rfl (by decide +kernel) ⟨Nat.le_of_ble_eq_true rfl, Nat.le_of_ble_eq_true rfl⟩) ⟨PY_blind, va_recv hK hP (ci := 1) (q0 := 1) rfl rfl, PY_pre (hP.sub (ws' := [(y, .inr (1, [.ref bv, .int 0, .int 0, .int 5]))]) [1] rfl) (hK.sub (tys' := []) [] rfl) hF hZ hS⟩ rfl rfl hl.1 rfl (lv_room (Nat.le_of_ble_eq_true rfl)) dJ0_init_db425_16 ⟨Nat.le_of_ble_eq_true rfl, Nat.le_of_ble_eq_true rfl⟩)) (fun r_3 hr_3 => ?_)
  subst hr_3
  refine lv_if_eq (tgt := 41) hx hb dJ0_init_db425_19 (by decide) (fun c_4 => absurd c_4 (by decide)) (fun _ => ?_)
  refine lv_aload_n hx hb dJ0_init_db425_22 rfl (lv_at hl 2 rfl) ?_
  refine lv_iconst (v := 0) hx hb dJ0_init_db425_23 (by decide) ?_
  refine va_putF (D := (dC, dI)) (ci := 0) (v := .int 0) (ty := .byte) (C := RJ0) (T := TJ0) (N := 4) hx hb hts (fun _ h9 => List.mem_cons_of_mem _ (List.mem_append_left _ (List.mem_append_right _ (h9)))) tyJ0 tyJ0_ok nmJ0 hown hK hP hD hS 0 rfl rfl 1 (by decide) (hts (.fieldLink RJ0 15 "java/lang/String" "coder" "B") (List.mem_of_getElem? (i := 4) rfl)) (fun _ h9 => h9) rfl hin rfl (by decide +kernel) (by decide) (by decide) (Nat.le_of_ble_eq_true rfl) dJ0_init_db425_24 (fun H locs hP hD hS => ?_)
  have hP : va_P (dC, dI) vwCl [(zs, .inr (0, [.null, .int 0, .int 0, .int 0])), (y, .inr (1, [.ref bv, .int 0, .int 0, .int 5])), (bv, .inl (kB, 16, .inl fb))] H := hP
  have hD : va_D A [(zs, .inr (0, [.null, .int 0, .int 0, .int 0])), (y, .inr (1, [.ref bv, .int 0, .int 0, .int 5])), (bv, .inl (kB, 16, .inl fb))] := hD
  refine lv_aload_n hx hb dJ0_init_db425_27 rfl (lv_at hl 2 rfl) ?_
  refine lv_aload_n hx hb dJ0_init_db425_28 rfl (lv_at hl 1 rfl) ?_
  refine lv_iconst (v := 0) hx hb dJ0_init_db425_29 (by decide) ?_
  refine lv_iload hx hb dJ0_init_db425_30 (lv_at hl 0 rfl) ?_
  have hPc := hP.sub (ws' := [(bv, .inl (kB, 16, .inl fb))]) [2] rfl
  have hDc := hD.sub (ws' := [(bv, .inl (kB, 16, .inl fb))]) [2] (by decide) rfl
  have hKc := hK.sub (tys' := [(kB, .byte)]) [0] rfl
  have hFc := va_free (wc := [(bv, .inl (kB, 16, .inl fb))]) hD hS hA [2] rfl
  refine va_callr (va_runS (As := [.ref bv, .int 0, .int 5]) (rest := [.ref zs]) ⟨hx, hb, hml, hown, hts⟩ (c_Arr_cor5 l dC dI bv kB fb H.size hfb) (va_cwS 3 hts gJ0_init_db425_J7_copyOfRange_39247 rfl rfl rfl (by decide +kernel) ⟨Nat.le_of_ble_eq_true rfl, Nat.le_of_ble_eq_true rfl⟩) ⟨PQ_blind, PQ_pre hPc hKc hDc hF⟩ rfl rfl hl.1 rfl (lv_room (Nat.le_of_ble_eq_true rfl)) dJ0_init_db425_32 ⟨Nat.le_of_ble_eq_true rfl, Nat.le_of_ble_eq_true rfl⟩) hS (fun q _ h => hFc q h) hFc (fun u r_5 t H1 locs ht hvm hw hB hz1 hk1 hS => ?_)
  obtain ⟨kN_6, fz_7, hP1, hK1, hD1⟩ := hB
  rw [ht] at hP1
  have hK1 := va_K.moved hvm.symm hK1
  obtain ⟨hP, hD⟩ := va_join (wr := [(zs, .inr (0, [.null, .int 0, .int 0, .int 0])), (y, .inr (1, [.ref bv, .int 0, .int 0, .int 5]))]) (w1 := [(bv, .inl (kB, 16, .inl fb)), (r_5, .inl (kN_6, 5, .inl fz_7))]) hP hD [2] [0, 1] rfl rfl (by decide) (by decide) hk1 hFc hP1 hD1
  have hK := hK.app hK1
  generalize H1 = H at hP hS ⊢
  have hP : va_P (dC, dI) vwCl [(zs, .inr (0, [.null, .int 0, .int 0, .int 0])), (y, .inr (1, [.ref bv, .int 0, .int 0, .int 5])), (bv, .inl (kB, 16, .inl fb)), (r_5, .inl (kN_6, 5, .inl fz_7))] H := hP
  have hD : va_D A [(zs, .inr (0, [.null, .int 0, .int 0, .int 0])), (y, .inr (1, [.ref bv, .int 0, .int 0, .int 5])), (bv, .inl (kB, 16, .inl fb)), (r_5, .inl (kN_6, 5, .inl fz_7))] := hD
  have hK : va_K (dC, dI) vwCl [(kB, .byte), (kB, .byte), (kN_6, .byte)] s := hK
  refine W.widen (k := 1) (n := 5) (Nat.le_of_ble_eq_true rfl) (Nat.le_of_ble_eq_true rfl) ?_
  refine va_putF (D := (dC, dI)) (ci := 0) (v := .ref r_5) (ty := .array .byte) (C := RJ0) (T := TJ0) (N := 4) hx hb hts (fun _ h9 => List.mem_cons_of_mem _ (List.mem_append_left _ (List.mem_append_right _ (h9)))) tyJ0 tyJ0_ok nmJ0 hown hK hP hD hS 0 rfl rfl 0 (by decide) (hts (.fieldLink RJ0 9 "java/lang/String" "value" "[B") (List.mem_of_getElem? (i := 5) rfl)) (fun _ h9 => h9) rfl hin rfl (by decide +kernel) rfl rfl (Nat.le_of_ble_eq_true rfl) dJ0_init_db425_35 (fun H locs hP hD hS => ?_)
  have hP : va_P (dC, dI) vwCl [(zs, .inr (0, [.ref r_5, .int 0, .int 0, .int 0])), (y, .inr (1, [.ref bv, .int 0, .int 0, .int 5])), (bv, .inl (kB, 16, .inl fb)), (r_5, .inl (kN_6, 5, .inl fz_7))] H := hP
  have hD : va_D A [(zs, .inr (0, [.ref r_5, .int 0, .int 0, .int 0])), (y, .inr (1, [.ref bv, .int 0, .int 0, .int 5])), (bv, .inl (kB, 16, .inl fb)), (r_5, .inl (kN_6, 5, .inl fz_7))] := hD
  refine lv_goto (tgt := 97) hx hb dJ0_init_db425_38 (by decide) ?_
  have hP9 := hP.sub (ws' := [(zs, .inr (0, [.ref r_5, .int 0, .int 0, .int 0]))]) [0] rfl
  have hD9 := hD.sub (ws' := [(zs, .inr (0, [.ref r_5, .int 0, .int 0, .int 0]))]) [0] (by decide) rfl
  have hK9 := hK.sub (tys' := []) [] rfl
  exact W.vret hx hb hr (fun t ht hW => ⟨⟨(), rfl, trivial, r_5, by rw [ht]; exact hP9, va_K.moved hW.alike hK9, hD9⟩, hS.F ht⟩) hS.2.2 dJ0_init_db425_97

set_option maxHeartbeats 4000000 in
set_option maxRecDepth 100000 in
theorem c_Str_init5 (l : Launch) (dC : Nat → ClassId) (dI : Nat → Nat → Nat) (d : Nat) (tc : Nat) (ad : Nat → Nat) (zs : Nat) (y : Nat) (bv : Nat) (kB : ClassId) (fb : Nat → Int32) (sz : Nat) (hfb : sb_Fit fb) : Met l yJ0_init_81219 wsJ0_init_81219 ({ frames := 4, cells := 1, slots := 5, locals := 150 }) (va_Pc [.ref zs, .ref y] (PZ dC dI d tc ad sz [(zs, .inr (0, [.null, .int 0, .int 0, .int 0])), (y, .inr (1, [.ref bv, .int 0, .int 0, .int 5])), (bv, .inl (kB, 16, .inl fb))] [(kB, .byte)])) (va_Qv (fun _ : Unit => True) (fun _ t => ∃ (g2 : Nat), va_P (dC, dI) vwCl [(zs, .inr (0, [.ref g2, .int 0, .int 0, .int 0]))] t.heap ∧ va_K (dC, dI) vwCl [] t ∧ va_D (va_A [(zs, .inr (0, [.null, .int 0, .int 0, .int 0])), (y, .inr (1, [.ref bv, .int 0, .int 0, .int 5])), (bv, .inl (kB, 16, .inl fb))] sz) [(zs, .inr (0, [.ref g2, .int 0, .int 0, .int 0]))]) (va_A [(zs, .inr (0, [.null, .int 0, .int 0, .int 0])), (y, .inr (1, [.ref bv, .int 0, .int 0, .int 5])), (bv, .inl (kB, 16, .inl fb))] sz)) 1 5 (va_A [(zs, .inr (0, [.null, .int 0, .int 0, .int 0])), (y, .inr (1, [.ref bv, .int 0, .int 0, .int 5])), (bv, .inl (kB, 16, .inl fb))] sz) := by
  refine Met.ofW (cc := cJ0_init_81219) (maxL := 2) (ret := none) (by decide) rfl ?_
  intro p e s m args below meth c s₁ B hml hv
  obtain ⟨rfl, hsz, hP, hK, hD0, hF, hZ⟩ := hv
  have hx := B.exec
  have hb := B.bytes
  have hr := B.returns
  have hts := atoms_spec (ws := wsJ0_init_81219) B.pre
  have hown : s.vm.findClass RJ0 = some m.cls := findClass_of_methodNamed B.named
  have hlocks := B.notSynchronized
  have hin : meth.name = "<init>" := (name_of_methodNamed B.named B.method).1
  subst hsz
  have hD := hD0.self (sz := s.heap.size)
  generalize hAe : va_A [(zs, .inr (0, [.null, .int 0, .int 0, .int 0])), (y, .inr (1, [.ref bv, .int 0, .int 0, .int 5])), (bv, .inl (kB, 16, .inl fb))] s.heap.size = A at hD hZ ⊢
  have hA : ∀ q : Nat, s.heap.size ≤ q → A q := fun q h => by rw [← hAe]; exact Or.inr h
  have hS : va_S A s.heap s.heap [] := va_S.rf
  have hl := lv_entry ([.ref zs, .ref y]) (n := 2) (Nat.le_of_ble_eq_true rfl)
  rw [lg_entry_eq]
  generalize (lg_sl ([.ref zs, .ref y]) ++ List.replicate (2 - (lg_sl ([.ref zs, .ref y])).length) Slot.unset).toArray = ls at hl ⊢
  have hl : lv_has ls 2 [(0, .ref zs), (1, .ref y)] := hl
  refine lv_aload_n hx hb dJ0_init_81219_0 rfl (lv_at hl 0 rfl) ?_
  refine lv_aload_n hx hb dJ0_init_81219_1 rfl (lv_at hl 1 rfl) ?_
  refine lv_null hx hb dJ0_init_81219_2 ?_
  have hPc := hP.sub (ws' := [(zs, .inr (0, [.null, .int 0, .int 0, .int 0])), (y, .inr (1, [.ref bv, .int 0, .int 0, .int 5])), (bv, .inl (kB, 16, .inl fb))]) [0, 1, 2] rfl
  have hDc := hD.sub (ws' := [(zs, .inr (0, [.null, .int 0, .int 0, .int 0])), (y, .inr (1, [.ref bv, .int 0, .int 0, .int 5])), (bv, .inl (kB, 16, .inl fb))]) [0, 1, 2] (by decide) rfl
  have hKc := hK.sub (tys' := [(kB, .byte)]) [0] rfl
  have hFc := va_free (wc := [(zs, .inr (0, [.null, .int 0, .int 0, .int 0])), (y, .inr (1, [.ref bv, .int 0, .int 0, .int 5])), (bv, .inl (kB, 16, .inl fb))]) hD hS hA [0, 1, 2] rfl
  refine va_callv (va_runI (As := [.ref y, .null]) (rest := []) ⟨hx, hb, hml, hown, hts⟩ (c_Str_initV5 l dC dI d tc ad zs y bv kB fb s.heap.size hfb) (cwI 2 hts gJ0_init_81219_J0_init_db425 rfl rfl rfl (hts (.initialized RJ0) (List.mem_of_getElem? (i := 3) rfl)) (hts (.methodLink RJ0 489 yJ0_init_db425) (List.mem_of_getElem? (i := 1) rfl)) (hts (.instanceMethod yJ0_init_db425) (List.mem_of_getElem? (i := 2) rfl)) rfl (by decide +kernel) ⟨Nat.le_of_ble_eq_true rfl, Nat.le_of_ble_eq_true rfl⟩) ⟨PZ_blind, PZ_pre hPc hKc hDc hF hZ hS hFc⟩ rfl rfl hl.1 rfl (lv_room (Nat.le_of_ble_eq_true rfl)) dJ0_init_81219_3 ⟨Nat.le_of_ble_eq_true rfl, Nat.le_of_ble_eq_true rfl⟩) hS (fun q _ h => hFc q h) hFc (fun u t H1 locs ht hvm hw hB hz1 hk1 hS => ?_)
  obtain ⟨g2_2, hP1, hK1, hD1⟩ := hB
  rw [ht] at hP1
  have hK1 := va_K.moved hvm.symm hK1
  obtain ⟨hP, hD⟩ := va_join (wr := []) (w1 := [(zs, .inr (0, [.ref g2_2, .int 0, .int 0, .int 0]))]) hP hD [0, 1, 2] [] rfl rfl (by decide) (by decide) hk1 hFc hP1 hD1
  have hK := hK.app hK1
  generalize H1 = H at hP hS ⊢
  have hP : va_P (dC, dI) vwCl [(zs, .inr (0, [.ref g2_2, .int 0, .int 0, .int 0]))] H := hP
  have hD : va_D A [(zs, .inr (0, [.ref g2_2, .int 0, .int 0, .int 0]))] := hD
  have hK : va_K (dC, dI) vwCl [(kB, .byte)] s := hK
  refine W.widen (k := 1) (n := 5) (Nat.le_of_ble_eq_true rfl) (Nat.le_of_ble_eq_true rfl) ?_
  have hP9 := hP.sub (ws' := [(zs, .inr (0, [.ref g2_2, .int 0, .int 0, .int 0]))]) [0] rfl
  have hD9 := hD.sub (ws' := [(zs, .inr (0, [.ref g2_2, .int 0, .int 0, .int 0]))]) [0] (by decide) rfl
  have hK9 := hK.sub (tys' := []) [] rfl
  exact W.vret hx hb hr (fun t ht hW => ⟨⟨(), rfl, trivial, g2_2, by rw [ht]; exact hP9, va_K.moved hW.alike hK9, hD9⟩, hS.F ht⟩) hS.2.2 dJ0_init_81219_6

set_option maxHeartbeats 4000000 in
set_option maxRecDepth 100000 in
theorem c_SB_toString5 (l : Launch) (dC : Nat → ClassId) (dI : Nat → Nat → Nat) (d : Nat) (tc : Nat) (ad : Nat → Nat) (y : Nat) (bv : Nat) (kB : ClassId) (fb : Nat → Int32) (sz : Nat) (hfb : sb_Fit fb) : Met l yJ4_toString_0e30d wsJ4_toString_0e30d ({ frames := 5, cells := 2, slots := 9, locals := 171 }) (va_Pc [.ref y] (PZ dC dI d tc ad sz [(y, .inr (1, [.ref bv, .int 0, .int 0, .int 5])), (bv, .inl (kB, 16, .inl fb))] [(kB, .byte)])) (va_Qr (fun _ : Unit => True) (fun _ ra t => ∃ (g2 : Nat), va_P (dC, dI) vwCl [(ra, .inr (0, [.ref g2, .int 0, .int 0, .int 0]))] t.heap ∧ va_K (dC, dI) vwCl [] t ∧ va_D (va_A [(y, .inr (1, [.ref bv, .int 0, .int 0, .int 5])), (bv, .inl (kB, 16, .inl fb))] sz) [(ra, .inr (0, [.ref g2, .int 0, .int 0, .int 0]))]) (va_A [(y, .inr (1, [.ref bv, .int 0, .int 0, .int 5])), (bv, .inl (kB, 16, .inl fb))] sz)) 2 9 (va_A [(y, .inr (1, [.ref bv, .int 0, .int 0, .int 5])), (bv, .inl (kB, 16, .inl fb))] sz) := by
  refine Met.ofW (cc := cJ4_toString_0e30d) (maxL := 1) (ret := (some (.object "java/lang/String"))) (by decide) rfl ?_
  intro p e s m args below meth c s₁ B hml hv
  obtain ⟨rfl, hsz, hP, hK, hD0, hF, hZ⟩ := hv
  have hx := B.exec
  have hb := B.bytes
  have hr := B.returns
  have hts := atoms_spec (ws := wsJ4_toString_0e30d) B.pre
  have hown : s.vm.findClass RJ4 = some m.cls := findClass_of_methodNamed B.named
  have hlocks := B.notSynchronized
  subst hsz
  have hD := hD0.self (sz := s.heap.size)
  generalize hAe : va_A [(y, .inr (1, [.ref bv, .int 0, .int 0, .int 5])), (bv, .inl (kB, 16, .inl fb))] s.heap.size = A at hD hZ ⊢
  have hA : ∀ q : Nat, s.heap.size ≤ q → A q := fun q h => by rw [← hAe]; exact Or.inr h
  have hS : va_S A s.heap s.heap [] := va_S.rf
  have hl := lv_entry ([.ref y]) (n := 1) (Nat.le_of_ble_eq_true rfl)
  rw [lg_entry_eq]
  generalize (lg_sl ([.ref y]) ++ List.replicate (1 - (lg_sl ([.ref y])).length) Slot.unset).toArray = ls at hl ⊢
  have hl : lv_has ls 1 [(0, .ref y)] := hl
  refine va_new (ci := 0) (fs := [.null, .int 0, .int 0, .int 0]) (C := RJ0) (T := TJ0) (N := 4) hx hb hts (fun _ h9 => List.mem_cons_of_mem _ (List.mem_append_left _ (List.mem_append_right _ (h9)))) tyJ0 tyJ0_ok hown (hts (.classLink RJ4 18 RJ0) (List.mem_of_getElem? (i := 1) rfl)) (hts (.instantiable RJ0 4) (List.mem_of_getElem? (i := 2) rfl)) (hts (.initialized RJ0) (List.mem_of_getElem? (i := 3) rfl)) hK hP hD hS hA rfl dfJ0 (Nat.le_of_ble_eq_true rfl) (Nat.le_of_ble_eq_true rfl) dJ4_toString_0e30d_0 (fun q_1 H hP hD hS => ?_)
  have hP : va_P (dC, dI) vwCl [(y, .inr (1, [.ref bv, .int 0, .int 0, .int 5])), (bv, .inl (kB, 16, .inl fb)), (q_1, .inr (0, [.null, .int 0, .int 0, .int 0]))] H := hP
  have hD : va_D A [(y, .inr (1, [.ref bv, .int 0, .int 0, .int 5])), (bv, .inl (kB, 16, .inl fb)), (q_1, .inr (0, [.null, .int 0, .int 0, .int 0]))] := hD
  refine W.widen (k := 1) (n := 4) (Nat.le_of_ble_eq_true rfl) (Nat.le_of_ble_eq_true rfl) ?_
  refine lv_dup hx hb dJ4_toString_0e30d_3 rfl ?_
  refine lv_aload_n hx hb dJ4_toString_0e30d_4 rfl (lv_at hl 0 rfl) ?_
  have hPc := hP.sub (ws' := [(q_1, .inr (0, [.null, .int 0, .int 0, .int 0])), (y, .inr (1, [.ref bv, .int 0, .int 0, .int 5])), (bv, .inl (kB, 16, .inl fb))]) [2, 0, 1] rfl
  have hDc := hD.sub (ws' := [(q_1, .inr (0, [.null, .int 0, .int 0, .int 0])), (y, .inr (1, [.ref bv, .int 0, .int 0, .int 5])), (bv, .inl (kB, 16, .inl fb))]) [2, 0, 1] (by decide) rfl
  have hKc := hK.sub (tys' := [(kB, .byte)]) [0] rfl
  have hFc := va_free (wc := [(q_1, .inr (0, [.null, .int 0, .int 0, .int 0])), (y, .inr (1, [.ref bv, .int 0, .int 0, .int 5])), (bv, .inl (kB, 16, .inl fb))]) hD hS hA [2, 0, 1] rfl
  refine va_callv (va_runI (As := [.ref y]) (rest := [.ref q_1]) ⟨hx, hb, hml, hown, hts⟩ (c_Str_init5 l dC dI d tc ad q_1 y bv kB fb H.size hfb) (cwI 1 hts gJ4_toString_0e30d_J0_init_81219 rfl rfl rfl (hts (.initialized RJ0) (List.mem_of_getElem? (i := 3) rfl)) (hts (.methodLink RJ4 137 yJ0_init_81219) (List.mem_of_getElem? (i := 4) rfl)) (hts (.instanceMethod yJ0_init_81219) (List.mem_of_getElem? (i := 5) rfl)) rfl (by decide +kernel) ⟨Nat.le_of_ble_eq_true rfl, Nat.le_of_ble_eq_true rfl⟩) ⟨PZ_blind, PZ_pre hPc hKc hDc hF hZ hS hFc⟩ rfl rfl hl.1 rfl (lv_room (Nat.le_of_ble_eq_true rfl)) dJ4_toString_0e30d_5 ⟨Nat.le_of_ble_eq_true rfl, Nat.le_of_ble_eq_true rfl⟩) hS (fun q _ h => hFc q h) hFc (fun u t H1 locs ht hvm hw hB hz1 hk1 hS => ?_)
  obtain ⟨g2_3, hP1, hK1, hD1⟩ := hB
  rw [ht] at hP1
  have hK1 := va_K.moved hvm.symm hK1
  obtain ⟨hP, hD⟩ := va_join (wr := []) (w1 := [(q_1, .inr (0, [.ref g2_3, .int 0, .int 0, .int 0]))]) hP hD [2, 0, 1] [] rfl rfl (by decide) (by decide) hk1 hFc hP1 hD1
  have hK := hK.app hK1
  generalize H1 = H at hP hS ⊢
  have hP : va_P (dC, dI) vwCl [(q_1, .inr (0, [.ref g2_3, .int 0, .int 0, .int 0]))] H := hP
  have hD : va_D A [(q_1, .inr (0, [.ref g2_3, .int 0, .int 0, .int 0]))] := hD
  have hK : va_K (dC, dI) vwCl [(kB, .byte)] s := hK
  refine W.widen (k := 2) (n := 9) (Nat.le_of_ble_eq_true rfl) (Nat.le_of_ble_eq_true rfl) ?_
  have hP9 := hP.sub (ws' := [(q_1, .inr (0, [.ref g2_3, .int 0, .int 0, .int 0]))]) [0] rfl
  have hD9 := hD.sub (ws' := [(q_1, .inr (0, [.ref g2_3, .int 0, .int 0, .int 0]))]) [0] (by decide) rfl
  have hK9 := hK.sub (tys' := []) [] rfl
  exact W.aret (v := .ref q_1) hx hb hr (Or.inl ⟨_, rfl⟩) (Or.inr ⟨_, rfl⟩) (fun t ht hW => ⟨⟨(), _, rfl, trivial, g2_3, by rw [ht]; exact hP9, va_K.moved hW.alike hK9, hD9⟩, hS.F ht⟩) hS.2.2 dJ4_toString_0e30d_8

set_option maxHeartbeats 4000000 in
set_option maxRecDepth 100000 in
theorem c_Arr_corb6 (l : Launch) (dC : Nat → ClassId) (dI : Nat → Nat → Nat) (bv : Nat) (kB : ClassId) (fb : Nat → Int32) (sz : Nat) (hfb : sb_Fit fb) : Met l yJ7_copyOfRangeByte_39247 wsJ7_copyOfRangeByte_39247 ({ frames := 1, cells := 1, slots := 6, locals := 80 }) (va_Pc [.ref bv, .int 0, .int 6] (PQ dC dI sz [(bv, .inl (kB, 16, .inl fb))] [(kB, .byte)])) (va_Qr (fun _ : Unit => True) (fun _ ra t => ∃ (kN : ClassId) (fz : Nat → Int32), va_P (dC, dI) vwCl [(bv, .inl (kB, 16, .inl fb)), (ra, .inl (kN, 6, .inl fz))] t.heap ∧ va_K (dC, dI) vwCl [(kB, .byte), (kN, .byte)] t ∧ va_D (va_A [(bv, .inl (kB, 16, .inl fb))] sz) [(bv, .inl (kB, 16, .inl fb)), (ra, .inl (kN, 6, .inl fz))]) (va_A [(bv, .inl (kB, 16, .inl fb))] sz)) 1 6 (va_A [(bv, .inl (kB, 16, .inl fb))] sz) := by
  refine Met.ofW (cc := cJ7_copyOfRangeByte_39247) (maxL := 5) (ret := (some (.array .byte))) (by decide) rfl ?_
  intro p e s m args below meth c s₁ B hml hv
  obtain ⟨rfl, hsz, hP, hK, hD0, hF⟩ := hv
  have hx := B.exec
  have hb := B.bytes
  have hr := B.returns
  have hts := atoms_spec (ws := wsJ7_copyOfRangeByte_39247) B.pre
  have hown : s.vm.findClass RJ7 = some m.cls := findClass_of_methodNamed B.named
  have hlocks := B.notSynchronized
  subst hsz
  have hD := hD0.self (sz := s.heap.size)
  generalize hAe : va_A [(bv, .inl (kB, 16, .inl fb))] s.heap.size = A at hD ⊢
  have hA : ∀ q : Nat, s.heap.size ≤ q → A q := fun q h => by rw [← hAe]; exact Or.inr h
  have hS : va_S A s.heap s.heap [] := va_S.rf
  have hl := lv_entry ([.ref bv, .int 0, .int 6]) (n := 5) (Nat.le_of_ble_eq_true rfl)
  rw [lg_entry_eq]
  generalize (lg_sl ([.ref bv, .int 0, .int 6]) ++ List.replicate (5 - (lg_sl ([.ref bv, .int 0, .int 6])).length) Slot.unset).toArray = ls at hl ⊢
  have hl : lv_has ls 5 [(0, .ref bv), (1, .int 0), (2, .int 6)] := hl
  refine lv_iload_n hx hb dJ7_copyOfRangeByte_39247_0 rfl (lv_at hl 1 rfl) ?_
  refine lv_iload_n hx hb dJ7_copyOfRangeByte_39247_1 rfl (lv_at hl 2 rfl) ?_
  refine va_csv (va_Run.run (va_runS (As := [.int 0, .int 6]) (rest := []) ⟨hx, hb, hml, hown, hts⟩ (c_Arr_checkLength l dC dI 0 6 (by decide)) (va_cwS 2 hts gJ7_copyOfRangeByte_39247_J7_checkLength_df160 rfl rfl rfl (by decide +kernel) ⟨Nat.le_of_ble_eq_true rfl, Nat.le_of_ble_eq_true rfl⟩) ⟨PS_blind, PS_pre (hP.sub (ws' := []) [] rfl) (hK.sub (tys' := []) [] rfl) hF⟩ rfl rfl hl.1 rfl (lv_room (Nat.le_of_ble_eq_true rfl)) dJ7_copyOfRangeByte_39247_2 ⟨Nat.le_of_ble_eq_true rfl, Nat.le_of_ble_eq_true rfl⟩)) (fun _ => ?_)
  refine lv_iload_n hx hb dJ7_copyOfRangeByte_39247_5 rfl (lv_at hl 2 rfl) ?_
  refine lv_iload_n hx hb dJ7_copyOfRangeByte_39247_6 rfl (lv_at hl 1 rfl) ?_
  refine lv_isub hx hb dJ7_copyOfRangeByte_39247_7 ?_
  refine lv_topi (fun f_2 ef_2 => ?_)
  obtain rfl : f_2 = 6 := ef_2.trans (by decide)
  refine lv_istore_n (lv' := [(3, .int 6), (0, .ref bv), (1, .int 0), (2, .int 6)]) hx hb dJ7_copyOfRangeByte_39247_8 rfl hl (by decide) rfl (fun ls hl => ?_)
  refine lv_iload_n hx hb dJ7_copyOfRangeByte_39247_9 rfl (lv_at hl 0 rfl) ?_
  refine va_newa (atype := .byte) (ty := .byte) (a0 := (6, (.inl (fun _ => 0)))) hx hb (hts (.arrayClass .byte) (List.mem_of_getElem? (i := 1) rfl)) rfl hK hP hD hS hA (fun _ => rfl) (by decide) (by decide) (Nat.le_of_ble_eq_true rfl) (Nat.le_of_ble_eq_true rfl) (Nat.le_of_ble_eq_true rfl) dJ7_copyOfRangeByte_39247_10 (fun q_3 k_4 H hK hP hD hS => ?_)
  have hP : va_P (dC, dI) vwCl [(bv, .inl (kB, 16, .inl fb)), (q_3, .inl (k_4, 6, .inl (fun _ => 0)))] H := hP
  have hD : va_D A [(bv, .inl (kB, 16, .inl fb)), (q_3, .inl (k_4, 6, .inl (fun _ => 0)))] := hD
  have hK : va_K (dC, dI) vwCl [(kB, .byte), (k_4, .byte)] s := hK
  refine W.widen (k := 1) (n := 6) (Nat.le_of_ble_eq_true rfl) (Nat.le_of_ble_eq_true rfl) ?_
  refine lv_astore (lv' := [(4, .ref q_3), (3, .int 6), (0, .ref bv), (1, .int 0), (2, .int 6)]) hx hb dJ7_copyOfRangeByte_39247_12 hl (by decide) rfl (fun ls hl => ?_)
  refine lv_aload_n hx hb dJ7_copyOfRangeByte_39247_14 rfl (lv_at hl 2 rfl) ?_
  refine lv_iload_n hx hb dJ7_copyOfRangeByte_39247_15 rfl (lv_at hl 3 rfl) ?_
  refine lv_aload hx hb dJ7_copyOfRangeByte_39247_16 (lv_at hl 0 rfl) ?_
  refine lv_iconst (v := 0) hx hb dJ7_copyOfRangeByte_39247_18 (by decide) ?_
  refine lv_aload_n hx hb dJ7_copyOfRangeByte_39247_19 rfl (lv_at hl 2 rfl) ?_
  refine va_alen hx hb hK hP 0 0 rfl rfl (v := 16) rfl dJ7_copyOfRangeByte_39247_20 ?_
  refine lv_iload_n hx hb dJ7_copyOfRangeByte_39247_21 rfl (lv_at hl 3 rfl) ?_
  refine lv_isub hx hb dJ7_copyOfRangeByte_39247_22 ?_
  refine lv_topi (fun f_5 ef_5 => ?_)
  obtain rfl : f_5 = 16 := ef_5.trans (by decide)
  refine lv_iload_n hx hb dJ7_copyOfRangeByte_39247_23 rfl (lv_at hl 1 rfl) ?_
  refine va_mmin hx hb (hml.trans hl.1.symm) hown (hts (.methodLink RJ7 304 Lib.Math.min.name) (List.mem_of_getElem? (i := 2) rfl)) (hts (.static Lib.Math.min.name) (List.mem_of_getElem? (i := 3) rfl)) (hts (.initialized "java/lang/Math") (List.mem_of_getElem? (i := 4) rfl)) (hts (.code Lib.Math.min.name Lib.Math.min.code 2 (some .int)) (List.mem_of_getElem? (i := 5) rfl)) (Nat.le_of_ble_eq_true rfl) (Nat.le_of_ble_eq_true rfl) (Nat.le_of_ble_eq_true rfl) (Nat.le_of_ble_eq_true rfl) dJ7_copyOfRangeByte_39247_24 ?_
  refine lv_topi (fun f_6 ef_6 => ?_)
  obtain rfl : f_6 = 6 := ef_6.trans (by decide)
  refine va_copyi (ty := .byte) hx hb (hml.trans hl.1.symm) hown (hts (.methodLink RJ7 150 arraycopyName) (List.mem_of_getElem? (i := 6) rfl)) (hts (.native arraycopyName) (List.mem_of_getElem? (i := 7) rfl)) (hts (.static arraycopyName) (List.mem_of_getElem? (i := 8) rfl)) (hts (.initialized "java/lang/System") (List.mem_of_getElem? (i := 9) rfl)) hK hP hD hS 0 1 0 1 rfl rfl rfl rfl rfl (sp := 0) (dp := 0) (n := 6) (by decide) (by decide) (by decide) (by decide) (by decide) (fun i _ => hfb _) (Nat.le_of_ble_eq_true rfl) (Nat.le_of_ble_eq_true rfl) dJ7_copyOfRangeByte_39247_27 (fun H locs hP hD hS => ?_)
  have hP : va_P (dC, dI) vwCl [(bv, .inl (kB, 16, .inl fb)), (q_3, .inl (k_4, 6, .inl (va_cpy fb (fun _ => 0) (0 : Int32).toNatClampNeg (0 : Int32).toNatClampNeg (6 : Int32).toNatClampNeg)))] H := hP
  have hD : va_D A [(bv, .inl (kB, 16, .inl fb)), (q_3, .inl (k_4, 6, .inl (va_cpy fb (fun _ => 0) (0 : Int32).toNatClampNeg (0 : Int32).toNatClampNeg (6 : Int32).toNatClampNeg)))] := hD
  have ha_7 : sb_Fit (va_cpy fb (fun _ => 0) (0 : Int32).toNatClampNeg (0 : Int32).toNatClampNeg (6 : Int32).toNatClampNeg) := sb_fitC hfb sb_fit0
  generalize (va_cpy fb (fun _ => 0) (0 : Int32).toNatClampNeg (0 : Int32).toNatClampNeg (6 : Int32).toNatClampNeg) = a_7 at hP hD ha_7
  refine lv_aload hx hb dJ7_copyOfRangeByte_39247_30 (lv_at hl 0 rfl) ?_
  have hP9 := hP.sub (ws' := [(bv, .inl (kB, 16, .inl fb)), (q_3, .inl (k_4, 6, .inl a_7))]) [0, 1] rfl
  have hD9 := hD.sub (ws' := [(bv, .inl (kB, 16, .inl fb)), (q_3, .inl (k_4, 6, .inl a_7))]) [0, 1] (by decide) rfl
  have hK9 := hK.sub (tys' := [(kB, .byte), (k_4, .byte)]) [0, 1] rfl
  exact W.aret (v := .ref q_3) hx hb hr (Or.inr ⟨_, rfl⟩) (Or.inr ⟨_, rfl⟩) (fun t ht hW => ⟨⟨(), _, rfl, trivial, k_4, a_7, by rw [ht]; exact hP9, va_K.moved hW.alike hK9, hD9⟩, hS.F ht⟩) hS.2.2 dJ7_copyOfRangeByte_39247_32

set_option maxHeartbeats 4000000 in
set_option maxRecDepth 100000 in
theorem c_Arr_cor6 (l : Launch) (dC : Nat → ClassId) (dI : Nat → Nat → Nat) (bv : Nat) (kB : ClassId) (fb : Nat → Int32) (sz : Nat) (hfb : sb_Fit fb) : Met l yJ7_copyOfRange_39247 wsJ7_copyOfRange_39247 ({ frames := 2, cells := 1, slots := 6, locals := 104 }) (va_Pc [.ref bv, .int 0, .int 6] (PQ dC dI sz [(bv, .inl (kB, 16, .inl fb))] [(kB, .byte)])) (va_Qr (fun _ : Unit => True) (fun _ ra t => ∃ (kN : ClassId) (fz : Nat → Int32), va_P (dC, dI) vwCl [(bv, .inl (kB, 16, .inl fb)), (ra, .inl (kN, 6, .inl fz))] t.heap ∧ va_K (dC, dI) vwCl [(kB, .byte), (kN, .byte)] t ∧ va_D (va_A [(bv, .inl (kB, 16, .inl fb))] sz) [(bv, .inl (kB, 16, .inl fb)), (ra, .inl (kN, 6, .inl fz))]) (va_A [(bv, .inl (kB, 16, .inl fb))] sz)) 1 6 (va_A [(bv, .inl (kB, 16, .inl fb))] sz) := by
  refine Met.ofW (cc := cJ7_copyOfRange_39247) (maxL := 3) (ret := (some (.array .byte))) (by decide) rfl ?_
  intro p e s m args below meth c s₁ B hml hv
  obtain ⟨rfl, hsz, hP, hK, hD0, hF⟩ := hv
  have hx := B.exec
  have hb := B.bytes
  have hr := B.returns
  have hts := atoms_spec (ws := wsJ7_copyOfRange_39247) B.pre
  have hown : s.vm.findClass RJ7 = some m.cls := findClass_of_methodNamed B.named
  have hlocks := B.notSynchronized
  subst hsz
  have hD := hD0.self (sz := s.heap.size)
  generalize hAe : va_A [(bv, .inl (kB, 16, .inl fb))] s.heap.size = A at hD ⊢
  have hA : ∀ q : Nat, s.heap.size ≤ q → A q := fun q h => by rw [← hAe]; exact Or.inr h
  have hS : va_S A s.heap s.heap [] := va_S.rf
  have hl := lv_entry ([.ref bv, .int 0, .int 6]) (n := 3) (Nat.le_of_ble_eq_true rfl)
  rw [lg_entry_eq]
  generalize (lg_sl ([.ref bv, .int 0, .int 6]) ++ List.replicate (3 - (lg_sl ([.ref bv, .int 0, .int 6])).length) Slot.unset).toArray = ls at hl ⊢
  have hl : lv_has ls 3 [(0, .ref bv), (1, .int 0), (2, .int 6)] := hl
  refine lv_iload_n hx hb dJ7_copyOfRange_39247_0 rfl (lv_at hl 1 rfl) ?_
  refine lv_if_ne (tgt := 10) hx hb dJ7_copyOfRange_39247_1 (by decide) (fun c_1 => absurd (by decide) c_1) (fun _ => ?_)
  refine lv_iload_n hx hb dJ7_copyOfRange_39247_4 rfl (lv_at hl 2 rfl) ?_
  refine lv_aload_n hx hb dJ7_copyOfRange_39247_5 rfl (lv_at hl 0 rfl) ?_
  refine va_alen hx hb hK hP 0 0 rfl rfl (v := 16) rfl dJ7_copyOfRange_39247_6 ?_
  refine lv_icmp_eq (tgt := 17) hx hb dJ7_copyOfRange_39247_7 (by decide) (fun c_2 => absurd c_2 (by decide)) (fun _ => ?_)
  refine lv_aload_n hx hb dJ7_copyOfRange_39247_10 rfl (lv_at hl 0 rfl) ?_
  refine lv_iload_n hx hb dJ7_copyOfRange_39247_11 rfl (lv_at hl 1 rfl) ?_
  refine lv_iload_n hx hb dJ7_copyOfRange_39247_12 rfl (lv_at hl 2 rfl) ?_
  have hPc := hP.sub (ws' := [(bv, .inl (kB, 16, .inl fb))]) [0] rfl
  have hDc := hD.sub (ws' := [(bv, .inl (kB, 16, .inl fb))]) [0] (by decide) rfl
  have hKc := hK.sub (tys' := [(kB, .byte)]) [0] rfl
  have hFc := va_free (wc := [(bv, .inl (kB, 16, .inl fb))]) hD hS hA [0] rfl
  refine va_callr (va_runS (As := [.ref bv, .int 0, .int 6]) (rest := []) ⟨hx, hb, hml, hown, hts⟩ (c_Arr_corb6 l dC dI bv kB fb s.heap.size hfb) (va_cwS 3 hts gJ7_copyOfRange_39247_J7_copyOfRangeByte_39247 rfl rfl rfl (by decide +kernel) ⟨Nat.le_of_ble_eq_true rfl, Nat.le_of_ble_eq_true rfl⟩) ⟨PQ_blind, PQ_pre hPc hKc hDc hF⟩ rfl rfl hl.1 rfl (lv_room (Nat.le_of_ble_eq_true rfl)) dJ7_copyOfRange_39247_13 ⟨Nat.le_of_ble_eq_true rfl, Nat.le_of_ble_eq_true rfl⟩) hS (fun q _ h => hFc q h) hFc (fun u r_3 t H1 locs ht hvm hw hB hz1 hk1 hS => ?_)
  obtain ⟨kN_4, fz_5, hP1, hK1, hD1⟩ := hB
  rw [ht] at hP1
  have hK1 := va_K.moved hvm.symm hK1
  obtain ⟨hP, hD⟩ := va_join (wr := []) (w1 := [(bv, .inl (kB, 16, .inl fb)), (r_3, .inl (kN_4, 6, .inl fz_5))]) hP hD [0] [] rfl rfl (by decide) (by decide) hk1 hFc hP1 hD1
  have hK := hK.app hK1
  generalize H1 = H at hP hS ⊢
  have hP : va_P (dC, dI) vwCl [(bv, .inl (kB, 16, .inl fb)), (r_3, .inl (kN_4, 6, .inl fz_5))] H := hP
  have hD : va_D A [(bv, .inl (kB, 16, .inl fb)), (r_3, .inl (kN_4, 6, .inl fz_5))] := hD
  have hK : va_K (dC, dI) vwCl [(kB, .byte), (kB, .byte), (kN_4, .byte)] s := hK
  refine W.widen (k := 1) (n := 6) (Nat.le_of_ble_eq_true rfl) (Nat.le_of_ble_eq_true rfl) ?_
  have hP9 := hP.sub (ws' := [(bv, .inl (kB, 16, .inl fb)), (r_3, .inl (kN_4, 6, .inl fz_5))]) [0, 1] rfl
  have hD9 := hD.sub (ws' := [(bv, .inl (kB, 16, .inl fb)), (r_3, .inl (kN_4, 6, .inl fz_5))]) [0, 1] (by decide) rfl
  have hK9 := hK.sub (tys' := [(kB, .byte), (kN_4, .byte)]) [0, 2] rfl
  exact W.aret (v := .ref r_3) hx hb hr (Or.inr ⟨_, rfl⟩) (Or.inr ⟨_, rfl⟩) (fun t ht hW => ⟨⟨(), _, rfl, trivial, kN_4, fz_5, by rw [ht]; exact hP9, va_K.moved hW.alike hK9, hD9⟩, hS.F ht⟩) hS.2.2 dJ7_copyOfRange_39247_16

set_option maxHeartbeats 4000000 in
set_option maxRecDepth 100000 in
theorem c_Str_initV6 (l : Launch) (dC : Nat → ClassId) (dI : Nat → Nat → Nat) (d : Nat) (tc : Nat) (ad : Nat → Nat) (zs : Nat) (y : Nat) (bv : Nat) (kB : ClassId) (fb : Nat → Int32) (sz : Nat) (hfb : sb_Fit fb) : Met l yJ0_init_db425 wsJ0_init_db425 ({ frames := 3, cells := 1, slots := 6, locals := 126 }) (va_Pc [.ref zs, .ref y, .null] (PZ dC dI d tc ad sz [(zs, .inr (0, [.null, .int 0, .int 0, .int 0])), (y, .inr (1, [.ref bv, .int 0, .int 0, .int 6])), (bv, .inl (kB, 16, .inl fb))] [(kB, .byte)])) (va_Qv (fun _ : Unit => True) (fun _ t => ∃ (g2 : Nat), va_P (dC, dI) vwCl [(zs, .inr (0, [.ref g2, .int 0, .int 0, .int 0]))] t.heap ∧ va_K (dC, dI) vwCl [] t ∧ va_D (va_A [(zs, .inr (0, [.null, .int 0, .int 0, .int 0])), (y, .inr (1, [.ref bv, .int 0, .int 0, .int 6])), (bv, .inl (kB, 16, .inl fb))] sz) [(zs, .inr (0, [.ref g2, .int 0, .int 0, .int 0]))]) (va_A [(zs, .inr (0, [.null, .int 0, .int 0, .int 0])), (y, .inr (1, [.ref bv, .int 0, .int 0, .int 6])), (bv, .inl (kB, 16, .inl fb))] sz)) 1 6 (va_A [(zs, .inr (0, [.null, .int 0, .int 0, .int 0])), (y, .inr (1, [.ref bv, .int 0, .int 0, .int 6])), (bv, .inl (kB, 16, .inl fb))] sz) := by
  refine Met.ofW (cc := cJ0_init_db425) (maxL := 5) (ret := none) (by decide) rfl ?_
  intro p e s m args below meth c s₁ B hml hv
  obtain ⟨rfl, hsz, hP, hK, hD0, hF, hZ⟩ := hv
  have hx := B.exec
  have hb := B.bytes
  have hr := B.returns
  have hts := atoms_spec (ws := wsJ0_init_db425) B.pre
  have hown : s.vm.findClass RJ0 = some m.cls := findClass_of_methodNamed B.named
  have hlocks := B.notSynchronized
  have hin : meth.name = "<init>" := (name_of_methodNamed B.named B.method).1
  subst hsz
  have hD := hD0.self (sz := s.heap.size)
  generalize hAe : va_A [(zs, .inr (0, [.null, .int 0, .int 0, .int 0])), (y, .inr (1, [.ref bv, .int 0, .int 0, .int 6])), (bv, .inl (kB, 16, .inl fb))] s.heap.size = A at hD hZ ⊢
  have hA : ∀ q : Nat, s.heap.size ≤ q → A q := fun q h => by rw [← hAe]; exact Or.inr h
  have hS : va_S A s.heap s.heap [] := va_S.rf
  have hl := lv_entry ([.ref zs, .ref y, .null]) (n := 5) (Nat.le_of_ble_eq_true rfl)
  rw [lg_entry_eq]
  generalize (lg_sl ([.ref zs, .ref y, .null]) ++ List.replicate (5 - (lg_sl ([.ref zs, .ref y, .null])).length) Slot.unset).toArray = ls at hl ⊢
  have hl : lv_has ls 5 [(0, .ref zs), (1, .ref y), (2, .null)] := hl
  refine lv_aload_n hx hb dJ0_init_db425_0 rfl (lv_at hl 0 rfl) ?_
  refine W.objInit hx hb hown (hts (.methodLink RJ0 1 objectInit) (List.mem_of_getElem? (i := 1) rfl)) (hts (.instanceMethod objectInit) (List.mem_of_getElem? (i := 2) rfl)) (hts _ (List.mem_of_getElem? (i := 3) rfl)) rfl (by rw [hml]; exact hl.1) rfl dJ0_init_db425_1 (Nat.le_of_ble_eq_true rfl) (Nat.le_of_ble_eq_true rfl) ?_
  refine W.eq (g2 := F0 m 4 ls []) rfl ?_
  refine lv_aload_n hx hb dJ0_init_db425_4 rfl (lv_at hl 1 rfl) ?_
  refine va_csq (va_Run.run (va_runU (As := []) (rest := []) ⟨hx, hb, hml, hown, hts⟩ (c_SB_getValue l dC dI y bv 6) (va_cwU 0 hts gJ0_init_db425_J5_getValue_6d5f1_u552J4 rfl rfl rfl rfl (by decide +kernel) ⟨Nat.le_of_ble_eq_true rfl, Nat.le_of_ble_eq_true rfl⟩) ⟨PS_blind, va_recv hK hP (ci := 1) (q0 := 1) rfl rfl, PS_pre (hP.sub (ws' := [(y, .inr (1, [.ref bv, .int 0, .int 0, .int 6]))]) [1] rfl) (hK.sub (tys' := []) [] rfl) hF⟩ rfl rfl hl.1 rfl (lv_room (Nat.le_of_ble_eq_true rfl)) dJ0_init_db425_5 ⟨Nat.le_of_ble_eq_true rfl, Nat.le_of_ble_eq_true rfl⟩)) (fun r_1 hr_1 => ?_)
  subst hr_1
  refine W.eq (g2 := F0 m 8 ls [.ref bv]) rfl ?_
  refine lv_astore_n (lv' := [(3, .ref bv), (0, .ref zs), (1, .ref y), (2, .null)]) hx hb dJ0_init_db425_8 rfl hl (by decide) rfl (fun ls hl => ?_)
  refine lv_aload_n hx hb dJ0_init_db425_9 rfl (lv_at hl 2 rfl) ?_
  refine vp_callSi (va_Run.run (va_runU (As := []) (rest := []) ⟨hx, hb, hml, hown, hts⟩ (c_SB_length l dC dI y bv 6) (va_cwO 0 hts gJ0_init_db425_J4_length_8abf5_u549J4 rfl rfl rfl (List.mem_of_getElem? (i := 25) rfl : (Cond.code yJ5_length_8abf5 cJ5_length_8abf5 1 (some .int)) ∈ wsJ0_init_db425) (by decide +kernel) ⟨Nat.le_of_ble_eq_true rfl, Nat.le_of_ble_eq_true rfl⟩) ⟨PS_blind, va_recv hK hP (ci := 1) (q0 := 1) rfl rfl, PS_pre (hP.sub (ws' := [(y, .inr (1, [.ref bv, .int 0, .int 0, .int 6]))]) [1] rfl) (hK.sub (tys' := []) [] rfl) hF⟩ rfl rfl hl.1 rfl (lv_room (Nat.le_of_ble_eq_true rfl)) dJ0_init_db425_10 ⟨Nat.le_of_ble_eq_true rfl, Nat.le_of_ble_eq_true rfl⟩)) (fun r_2 hr_2 => ?_)
  subst hr_2
  refine lv_istore (lv' := [(4, .int 6), (3, .ref bv), (0, .ref zs), (1, .ref y), (2, .null)]) hx hb dJ0_init_db425_13 hl (by decide) rfl (fun ls hl => ?_)
  refine lv_aload_n hx hb dJ0_init_db425_15 rfl (lv_at hl 3 rfl) ?_
  refine vp_callSi (va_Run.run (va_runU (As := []) (rest := []) ⟨hx, hb, hml, hown, hts⟩ (c_SB_isLatin1 l dC dI d tc ad y bv 6) (va_cwU 0 hts gJ0_init_db425_J5_isLatin1_aae02_u1047J4 rfl rfl rfl rfl (by decide +kernel) ⟨Nat.le_of_ble_eq_true rfl, Nat.le_of_ble_eq_true rfl⟩) ⟨PY_blind, va_recv hK hP (ci := 1) (q0 := 1) rfl rfl, PY_pre (hP.sub (ws' := [(y, .inr (1, [.ref bv, .int 0, .int 0, .int 6]))]) [1] rfl) (hK.sub (tys' := []) [] rfl) hF hZ hS⟩ rfl rfl hl.1 rfl (lv_room (Nat.le_of_ble_eq_true rfl)) dJ0_init_db425_16 ⟨Nat.le_of_ble_eq_true rfl, Nat.le_of_ble_eq_true rfl⟩)) (fun r_3 hr_3 => ?_)
  subst hr_3
  refine lv_if_eq (tgt := 41) hx hb dJ0_init_db425_19 (by decide) (fun c_4 => absurd c_4 (by decide)) (fun _ => ?_)
  refine lv_aload_n hx hb dJ0_init_db425_22 rfl (lv_at hl 2 rfl) ?_
  refine lv_iconst (v := 0) hx hb dJ0_init_db425_23 (by decide) ?_
  refine va_putF (D := (dC, dI)) (ci := 0) (v := .int 0) (ty := .byte) (C := RJ0) (T := TJ0) (N := 4) hx hb hts (fun _ h9 => List.mem_cons_of_mem _ (List.mem_append_left _ (List.mem_append_right _ (h9)))) tyJ0 tyJ0_ok nmJ0 hown hK hP hD hS 0 rfl rfl 1 (by decide) (hts (.fieldLink RJ0 15 "java/lang/String" "coder" "B") (List.mem_of_getElem? (i := 4) rfl)) (fun _ h9 => h9) rfl hin rfl (by decide +kernel) (by decide) (by decide) (Nat.le_of_ble_eq_true rfl) dJ0_init_db425_24 (fun H locs hP hD hS => ?_)
  have hP : va_P (dC, dI) vwCl [(zs, .inr (0, [.null, .int 0, .int 0, .int 0])), (y, .inr (1, [.ref bv, .int 0, .int 0, .int 6])), (bv, .inl (kB, 16, .inl fb))] H := hP
  have hD : va_D A [(zs, .inr (0, [.null, .int 0, .int 0, .int 0])), (y, .inr (1, [.ref bv, .int 0, .int 0, .int 6])), (bv, .inl (kB, 16, .inl fb))] := hD
  refine lv_aload_n hx hb dJ0_init_db425_27 rfl (lv_at hl 2 rfl) ?_
  refine lv_aload_n hx hb dJ0_init_db425_28 rfl (lv_at hl 1 rfl) ?_
  refine lv_iconst (v := 0) hx hb dJ0_init_db425_29 (by decide) ?_
  refine lv_iload hx hb dJ0_init_db425_30 (lv_at hl 0 rfl) ?_
  have hPc := hP.sub (ws' := [(bv, .inl (kB, 16, .inl fb))]) [2] rfl
  have hDc := hD.sub (ws' := [(bv, .inl (kB, 16, .inl fb))]) [2] (by decide) rfl
  have hKc := hK.sub (tys' := [(kB, .byte)]) [0] rfl
  have hFc := va_free (wc := [(bv, .inl (kB, 16, .inl fb))]) hD hS hA [2] rfl
  refine va_callr (va_runS (As := [.ref bv, .int 0, .int 6]) (rest := [.ref zs]) ⟨hx, hb, hml, hown, hts⟩ (c_Arr_cor6 l dC dI bv kB fb H.size hfb) (va_cwS 3 hts gJ0_init_db425_J7_copyOfRange_39247 rfl rfl rfl (by decide +kernel) ⟨Nat.le_of_ble_eq_true rfl, Nat.le_of_ble_eq_true rfl⟩) ⟨PQ_blind, PQ_pre hPc hKc hDc hF⟩ rfl rfl hl.1 rfl (lv_room (Nat.le_of_ble_eq_true rfl)) dJ0_init_db425_32 ⟨Nat.le_of_ble_eq_true rfl, Nat.le_of_ble_eq_true rfl⟩) hS (fun q _ h => hFc q h) hFc (fun u r_5 t H1 locs ht hvm hw hB hz1 hk1 hS => ?_)
  obtain ⟨kN_6, fz_7, hP1, hK1, hD1⟩ := hB
  rw [ht] at hP1
  have hK1 := va_K.moved hvm.symm hK1
  obtain ⟨hP, hD⟩ := va_join (wr := [(zs, .inr (0, [.null, .int 0, .int 0, .int 0])), (y, .inr (1, [.ref bv, .int 0, .int 0, .int 6]))]) (w1 := [(bv, .inl (kB, 16, .inl fb)), (r_5, .inl (kN_6, 6, .inl fz_7))]) hP hD [2] [0, 1] rfl rfl (by decide) (by decide) hk1 hFc hP1 hD1
  have hK := hK.app hK1
  generalize H1 = H at hP hS ⊢
  have hP : va_P (dC, dI) vwCl [(zs, .inr (0, [.null, .int 0, .int 0, .int 0])), (y, .inr (1, [.ref bv, .int 0, .int 0, .int 6])), (bv, .inl (kB, 16, .inl fb)), (r_5, .inl (kN_6, 6, .inl fz_7))] H := hP
  have hD : va_D A [(zs, .inr (0, [.null, .int 0, .int 0, .int 0])), (y, .inr (1, [.ref bv, .int 0, .int 0, .int 6])), (bv, .inl (kB, 16, .inl fb)), (r_5, .inl (kN_6, 6, .inl fz_7))] := hD
  have hK : va_K (dC, dI) vwCl [(kB, .byte), (kB, .byte), (kN_6, .byte)] s := hK
  refine W.widen (k := 1) (n := 6) (Nat.le_of_ble_eq_true rfl) (Nat.le_of_ble_eq_true rfl) ?_
  refine va_putF (D := (dC, dI)) (ci := 0) (v := .ref r_5) (ty := .array .byte) (C := RJ0) (T := TJ0) (N := 4) hx hb hts (fun _ h9 => List.mem_cons_of_mem _ (List.mem_append_left _ (List.mem_append_right _ (h9)))) tyJ0 tyJ0_ok nmJ0 hown hK hP hD hS 0 rfl rfl 0 (by decide) (hts (.fieldLink RJ0 9 "java/lang/String" "value" "[B") (List.mem_of_getElem? (i := 5) rfl)) (fun _ h9 => h9) rfl hin rfl (by decide +kernel) rfl rfl (Nat.le_of_ble_eq_true rfl) dJ0_init_db425_35 (fun H locs hP hD hS => ?_)
  have hP : va_P (dC, dI) vwCl [(zs, .inr (0, [.ref r_5, .int 0, .int 0, .int 0])), (y, .inr (1, [.ref bv, .int 0, .int 0, .int 6])), (bv, .inl (kB, 16, .inl fb)), (r_5, .inl (kN_6, 6, .inl fz_7))] H := hP
  have hD : va_D A [(zs, .inr (0, [.ref r_5, .int 0, .int 0, .int 0])), (y, .inr (1, [.ref bv, .int 0, .int 0, .int 6])), (bv, .inl (kB, 16, .inl fb)), (r_5, .inl (kN_6, 6, .inl fz_7))] := hD
  refine lv_goto (tgt := 97) hx hb dJ0_init_db425_38 (by decide) ?_
  have hP9 := hP.sub (ws' := [(zs, .inr (0, [.ref r_5, .int 0, .int 0, .int 0]))]) [0] rfl
  have hD9 := hD.sub (ws' := [(zs, .inr (0, [.ref r_5, .int 0, .int 0, .int 0]))]) [0] (by decide) rfl
  have hK9 := hK.sub (tys' := []) [] rfl
  exact W.vret hx hb hr (fun t ht hW => ⟨⟨(), rfl, trivial, r_5, by rw [ht]; exact hP9, va_K.moved hW.alike hK9, hD9⟩, hS.F ht⟩) hS.2.2 dJ0_init_db425_97

set_option maxHeartbeats 4000000 in
set_option maxRecDepth 100000 in
theorem c_Str_init6 (l : Launch) (dC : Nat → ClassId) (dI : Nat → Nat → Nat) (d : Nat) (tc : Nat) (ad : Nat → Nat) (zs : Nat) (y : Nat) (bv : Nat) (kB : ClassId) (fb : Nat → Int32) (sz : Nat) (hfb : sb_Fit fb) : Met l yJ0_init_81219 wsJ0_init_81219 ({ frames := 4, cells := 1, slots := 6, locals := 150 }) (va_Pc [.ref zs, .ref y] (PZ dC dI d tc ad sz [(zs, .inr (0, [.null, .int 0, .int 0, .int 0])), (y, .inr (1, [.ref bv, .int 0, .int 0, .int 6])), (bv, .inl (kB, 16, .inl fb))] [(kB, .byte)])) (va_Qv (fun _ : Unit => True) (fun _ t => ∃ (g2 : Nat), va_P (dC, dI) vwCl [(zs, .inr (0, [.ref g2, .int 0, .int 0, .int 0]))] t.heap ∧ va_K (dC, dI) vwCl [] t ∧ va_D (va_A [(zs, .inr (0, [.null, .int 0, .int 0, .int 0])), (y, .inr (1, [.ref bv, .int 0, .int 0, .int 6])), (bv, .inl (kB, 16, .inl fb))] sz) [(zs, .inr (0, [.ref g2, .int 0, .int 0, .int 0]))]) (va_A [(zs, .inr (0, [.null, .int 0, .int 0, .int 0])), (y, .inr (1, [.ref bv, .int 0, .int 0, .int 6])), (bv, .inl (kB, 16, .inl fb))] sz)) 1 6 (va_A [(zs, .inr (0, [.null, .int 0, .int 0, .int 0])), (y, .inr (1, [.ref bv, .int 0, .int 0, .int 6])), (bv, .inl (kB, 16, .inl fb))] sz) := by
  refine Met.ofW (cc := cJ0_init_81219) (maxL := 2) (ret := none) (by decide) rfl ?_
  intro p e s m args below meth c s₁ B hml hv
  obtain ⟨rfl, hsz, hP, hK, hD0, hF, hZ⟩ := hv
  have hx := B.exec
  have hb := B.bytes
  have hr := B.returns
  have hts := atoms_spec (ws := wsJ0_init_81219) B.pre
  have hown : s.vm.findClass RJ0 = some m.cls := findClass_of_methodNamed B.named
  have hlocks := B.notSynchronized
  have hin : meth.name = "<init>" := (name_of_methodNamed B.named B.method).1
  subst hsz
  have hD := hD0.self (sz := s.heap.size)
  generalize hAe : va_A [(zs, .inr (0, [.null, .int 0, .int 0, .int 0])), (y, .inr (1, [.ref bv, .int 0, .int 0, .int 6])), (bv, .inl (kB, 16, .inl fb))] s.heap.size = A at hD hZ ⊢
  have hA : ∀ q : Nat, s.heap.size ≤ q → A q := fun q h => by rw [← hAe]; exact Or.inr h
  have hS : va_S A s.heap s.heap [] := va_S.rf
  have hl := lv_entry ([.ref zs, .ref y]) (n := 2) (Nat.le_of_ble_eq_true rfl)
  rw [lg_entry_eq]
  generalize (lg_sl ([.ref zs, .ref y]) ++ List.replicate (2 - (lg_sl ([.ref zs, .ref y])).length) Slot.unset).toArray = ls at hl ⊢
  have hl : lv_has ls 2 [(0, .ref zs), (1, .ref y)] := hl
  refine lv_aload_n hx hb dJ0_init_81219_0 rfl (lv_at hl 0 rfl) ?_
  refine lv_aload_n hx hb dJ0_init_81219_1 rfl (lv_at hl 1 rfl) ?_
  refine lv_null hx hb dJ0_init_81219_2 ?_
  have hPc := hP.sub (ws' := [(zs, .inr (0, [.null, .int 0, .int 0, .int 0])), (y, .inr (1, [.ref bv, .int 0, .int 0, .int 6])), (bv, .inl (kB, 16, .inl fb))]) [0, 1, 2] rfl
  have hDc := hD.sub (ws' := [(zs, .inr (0, [.null, .int 0, .int 0, .int 0])), (y, .inr (1, [.ref bv, .int 0, .int 0, .int 6])), (bv, .inl (kB, 16, .inl fb))]) [0, 1, 2] (by decide) rfl
  have hKc := hK.sub (tys' := [(kB, .byte)]) [0] rfl
  have hFc := va_free (wc := [(zs, .inr (0, [.null, .int 0, .int 0, .int 0])), (y, .inr (1, [.ref bv, .int 0, .int 0, .int 6])), (bv, .inl (kB, 16, .inl fb))]) hD hS hA [0, 1, 2] rfl
  refine va_callv (va_runI (As := [.ref y, .null]) (rest := []) ⟨hx, hb, hml, hown, hts⟩ (c_Str_initV6 l dC dI d tc ad zs y bv kB fb s.heap.size hfb) (cwI 2 hts gJ0_init_81219_J0_init_db425 rfl rfl rfl (hts (.initialized RJ0) (List.mem_of_getElem? (i := 3) rfl)) (hts (.methodLink RJ0 489 yJ0_init_db425) (List.mem_of_getElem? (i := 1) rfl)) (hts (.instanceMethod yJ0_init_db425) (List.mem_of_getElem? (i := 2) rfl)) rfl (by decide +kernel) ⟨Nat.le_of_ble_eq_true rfl, Nat.le_of_ble_eq_true rfl⟩) ⟨PZ_blind, PZ_pre hPc hKc hDc hF hZ hS hFc⟩ rfl rfl hl.1 rfl (lv_room (Nat.le_of_ble_eq_true rfl)) dJ0_init_81219_3 ⟨Nat.le_of_ble_eq_true rfl, Nat.le_of_ble_eq_true rfl⟩) hS (fun q _ h => hFc q h) hFc (fun u t H1 locs ht hvm hw hB hz1 hk1 hS => ?_)
  obtain ⟨g2_2, hP1, hK1, hD1⟩ := hB
  rw [ht] at hP1
  have hK1 := va_K.moved hvm.symm hK1
  obtain ⟨hP, hD⟩ := va_join (wr := []) (w1 := [(zs, .inr (0, [.ref g2_2, .int 0, .int 0, .int 0]))]) hP hD [0, 1, 2] [] rfl rfl (by decide) (by decide) hk1 hFc hP1 hD1
  have hK := hK.app hK1
  generalize H1 = H at hP hS ⊢
  have hP : va_P (dC, dI) vwCl [(zs, .inr (0, [.ref g2_2, .int 0, .int 0, .int 0]))] H := hP
  have hD : va_D A [(zs, .inr (0, [.ref g2_2, .int 0, .int 0, .int 0]))] := hD
  have hK : va_K (dC, dI) vwCl [(kB, .byte)] s := hK
  refine W.widen (k := 1) (n := 6) (Nat.le_of_ble_eq_true rfl) (Nat.le_of_ble_eq_true rfl) ?_
  have hP9 := hP.sub (ws' := [(zs, .inr (0, [.ref g2_2, .int 0, .int 0, .int 0]))]) [0] rfl
  have hD9 := hD.sub (ws' := [(zs, .inr (0, [.ref g2_2, .int 0, .int 0, .int 0]))]) [0] (by decide) rfl
  have hK9 := hK.sub (tys' := []) [] rfl
  exact W.vret hx hb hr (fun t ht hW => ⟨⟨(), rfl, trivial, g2_2, by rw [ht]; exact hP9, va_K.moved hW.alike hK9, hD9⟩, hS.F ht⟩) hS.2.2 dJ0_init_81219_6

set_option maxHeartbeats 4000000 in
set_option maxRecDepth 100000 in
theorem c_SB_toString6 (l : Launch) (dC : Nat → ClassId) (dI : Nat → Nat → Nat) (d : Nat) (tc : Nat) (ad : Nat → Nat) (y : Nat) (bv : Nat) (kB : ClassId) (fb : Nat → Int32) (sz : Nat) (hfb : sb_Fit fb) : Met l yJ4_toString_0e30d wsJ4_toString_0e30d ({ frames := 5, cells := 2, slots := 10, locals := 171 }) (va_Pc [.ref y] (PZ dC dI d tc ad sz [(y, .inr (1, [.ref bv, .int 0, .int 0, .int 6])), (bv, .inl (kB, 16, .inl fb))] [(kB, .byte)])) (va_Qr (fun _ : Unit => True) (fun _ ra t => ∃ (g2 : Nat), va_P (dC, dI) vwCl [(ra, .inr (0, [.ref g2, .int 0, .int 0, .int 0]))] t.heap ∧ va_K (dC, dI) vwCl [] t ∧ va_D (va_A [(y, .inr (1, [.ref bv, .int 0, .int 0, .int 6])), (bv, .inl (kB, 16, .inl fb))] sz) [(ra, .inr (0, [.ref g2, .int 0, .int 0, .int 0]))]) (va_A [(y, .inr (1, [.ref bv, .int 0, .int 0, .int 6])), (bv, .inl (kB, 16, .inl fb))] sz)) 2 10 (va_A [(y, .inr (1, [.ref bv, .int 0, .int 0, .int 6])), (bv, .inl (kB, 16, .inl fb))] sz) := by
  refine Met.ofW (cc := cJ4_toString_0e30d) (maxL := 1) (ret := (some (.object "java/lang/String"))) (by decide) rfl ?_
  intro p e s m args below meth c s₁ B hml hv
  obtain ⟨rfl, hsz, hP, hK, hD0, hF, hZ⟩ := hv
  have hx := B.exec
  have hb := B.bytes
  have hr := B.returns
  have hts := atoms_spec (ws := wsJ4_toString_0e30d) B.pre
  have hown : s.vm.findClass RJ4 = some m.cls := findClass_of_methodNamed B.named
  have hlocks := B.notSynchronized
  subst hsz
  have hD := hD0.self (sz := s.heap.size)
  generalize hAe : va_A [(y, .inr (1, [.ref bv, .int 0, .int 0, .int 6])), (bv, .inl (kB, 16, .inl fb))] s.heap.size = A at hD hZ ⊢
  have hA : ∀ q : Nat, s.heap.size ≤ q → A q := fun q h => by rw [← hAe]; exact Or.inr h
  have hS : va_S A s.heap s.heap [] := va_S.rf
  have hl := lv_entry ([.ref y]) (n := 1) (Nat.le_of_ble_eq_true rfl)
  rw [lg_entry_eq]
  generalize (lg_sl ([.ref y]) ++ List.replicate (1 - (lg_sl ([.ref y])).length) Slot.unset).toArray = ls at hl ⊢
  have hl : lv_has ls 1 [(0, .ref y)] := hl
  refine va_new (ci := 0) (fs := [.null, .int 0, .int 0, .int 0]) (C := RJ0) (T := TJ0) (N := 4) hx hb hts (fun _ h9 => List.mem_cons_of_mem _ (List.mem_append_left _ (List.mem_append_right _ (h9)))) tyJ0 tyJ0_ok hown (hts (.classLink RJ4 18 RJ0) (List.mem_of_getElem? (i := 1) rfl)) (hts (.instantiable RJ0 4) (List.mem_of_getElem? (i := 2) rfl)) (hts (.initialized RJ0) (List.mem_of_getElem? (i := 3) rfl)) hK hP hD hS hA rfl dfJ0 (Nat.le_of_ble_eq_true rfl) (Nat.le_of_ble_eq_true rfl) dJ4_toString_0e30d_0 (fun q_1 H hP hD hS => ?_)
  have hP : va_P (dC, dI) vwCl [(y, .inr (1, [.ref bv, .int 0, .int 0, .int 6])), (bv, .inl (kB, 16, .inl fb)), (q_1, .inr (0, [.null, .int 0, .int 0, .int 0]))] H := hP
  have hD : va_D A [(y, .inr (1, [.ref bv, .int 0, .int 0, .int 6])), (bv, .inl (kB, 16, .inl fb)), (q_1, .inr (0, [.null, .int 0, .int 0, .int 0]))] := hD
  refine W.widen (k := 1) (n := 4) (Nat.le_of_ble_eq_true rfl) (Nat.le_of_ble_eq_true rfl) ?_
  refine lv_dup hx hb dJ4_toString_0e30d_3 rfl ?_
  refine lv_aload_n hx hb dJ4_toString_0e30d_4 rfl (lv_at hl 0 rfl) ?_
  have hPc := hP.sub (ws' := [(q_1, .inr (0, [.null, .int 0, .int 0, .int 0])), (y, .inr (1, [.ref bv, .int 0, .int 0, .int 6])), (bv, .inl (kB, 16, .inl fb))]) [2, 0, 1] rfl
  have hDc := hD.sub (ws' := [(q_1, .inr (0, [.null, .int 0, .int 0, .int 0])), (y, .inr (1, [.ref bv, .int 0, .int 0, .int 6])), (bv, .inl (kB, 16, .inl fb))]) [2, 0, 1] (by decide) rfl
  have hKc := hK.sub (tys' := [(kB, .byte)]) [0] rfl
  have hFc := va_free (wc := [(q_1, .inr (0, [.null, .int 0, .int 0, .int 0])), (y, .inr (1, [.ref bv, .int 0, .int 0, .int 6])), (bv, .inl (kB, 16, .inl fb))]) hD hS hA [2, 0, 1] rfl
  refine va_callv (va_runI (As := [.ref y]) (rest := [.ref q_1]) ⟨hx, hb, hml, hown, hts⟩ (c_Str_init6 l dC dI d tc ad q_1 y bv kB fb H.size hfb) (cwI 1 hts gJ4_toString_0e30d_J0_init_81219 rfl rfl rfl (hts (.initialized RJ0) (List.mem_of_getElem? (i := 3) rfl)) (hts (.methodLink RJ4 137 yJ0_init_81219) (List.mem_of_getElem? (i := 4) rfl)) (hts (.instanceMethod yJ0_init_81219) (List.mem_of_getElem? (i := 5) rfl)) rfl (by decide +kernel) ⟨Nat.le_of_ble_eq_true rfl, Nat.le_of_ble_eq_true rfl⟩) ⟨PZ_blind, PZ_pre hPc hKc hDc hF hZ hS hFc⟩ rfl rfl hl.1 rfl (lv_room (Nat.le_of_ble_eq_true rfl)) dJ4_toString_0e30d_5 ⟨Nat.le_of_ble_eq_true rfl, Nat.le_of_ble_eq_true rfl⟩) hS (fun q _ h => hFc q h) hFc (fun u t H1 locs ht hvm hw hB hz1 hk1 hS => ?_)
  obtain ⟨g2_3, hP1, hK1, hD1⟩ := hB
  rw [ht] at hP1
  have hK1 := va_K.moved hvm.symm hK1
  obtain ⟨hP, hD⟩ := va_join (wr := []) (w1 := [(q_1, .inr (0, [.ref g2_3, .int 0, .int 0, .int 0]))]) hP hD [2, 0, 1] [] rfl rfl (by decide) (by decide) hk1 hFc hP1 hD1
  have hK := hK.app hK1
  generalize H1 = H at hP hS ⊢
  have hP : va_P (dC, dI) vwCl [(q_1, .inr (0, [.ref g2_3, .int 0, .int 0, .int 0]))] H := hP
  have hD : va_D A [(q_1, .inr (0, [.ref g2_3, .int 0, .int 0, .int 0]))] := hD
  have hK : va_K (dC, dI) vwCl [(kB, .byte)] s := hK
  refine W.widen (k := 2) (n := 10) (Nat.le_of_ble_eq_true rfl) (Nat.le_of_ble_eq_true rfl) ?_
  have hP9 := hP.sub (ws' := [(q_1, .inr (0, [.ref g2_3, .int 0, .int 0, .int 0]))]) [0] rfl
  have hD9 := hD.sub (ws' := [(q_1, .inr (0, [.ref g2_3, .int 0, .int 0, .int 0]))]) [0] (by decide) rfl
  have hK9 := hK.sub (tys' := []) [] rfl
  exact W.aret (v := .ref q_1) hx hb hr (Or.inl ⟨_, rfl⟩) (Or.inr ⟨_, rfl⟩) (fun t ht hW => ⟨⟨(), _, rfl, trivial, g2_3, by rw [ht]; exact hP9, va_K.moved hW.alike hK9, hD9⟩, hS.F ht⟩) hS.2.2 dJ4_toString_0e30d_8

set_option maxHeartbeats 4000000 in
set_option maxRecDepth 100000 in
theorem c_Arr_corb7 (l : Launch) (dC : Nat → ClassId) (dI : Nat → Nat → Nat) (bv : Nat) (kB : ClassId) (fb : Nat → Int32) (sz : Nat) (hfb : sb_Fit fb) : Met l yJ7_copyOfRangeByte_39247 wsJ7_copyOfRangeByte_39247 ({ frames := 1, cells := 1, slots := 7, locals := 80 }) (va_Pc [.ref bv, .int 0, .int 7] (PQ dC dI sz [(bv, .inl (kB, 16, .inl fb))] [(kB, .byte)])) (va_Qr (fun _ : Unit => True) (fun _ ra t => ∃ (kN : ClassId) (fz : Nat → Int32), va_P (dC, dI) vwCl [(bv, .inl (kB, 16, .inl fb)), (ra, .inl (kN, 7, .inl fz))] t.heap ∧ va_K (dC, dI) vwCl [(kB, .byte), (kN, .byte)] t ∧ va_D (va_A [(bv, .inl (kB, 16, .inl fb))] sz) [(bv, .inl (kB, 16, .inl fb)), (ra, .inl (kN, 7, .inl fz))]) (va_A [(bv, .inl (kB, 16, .inl fb))] sz)) 1 7 (va_A [(bv, .inl (kB, 16, .inl fb))] sz) := by
  refine Met.ofW (cc := cJ7_copyOfRangeByte_39247) (maxL := 5) (ret := (some (.array .byte))) (by decide) rfl ?_
  intro p e s m args below meth c s₁ B hml hv
  obtain ⟨rfl, hsz, hP, hK, hD0, hF⟩ := hv
  have hx := B.exec
  have hb := B.bytes
  have hr := B.returns
  have hts := atoms_spec (ws := wsJ7_copyOfRangeByte_39247) B.pre
  have hown : s.vm.findClass RJ7 = some m.cls := findClass_of_methodNamed B.named
  have hlocks := B.notSynchronized
  subst hsz
  have hD := hD0.self (sz := s.heap.size)
  generalize hAe : va_A [(bv, .inl (kB, 16, .inl fb))] s.heap.size = A at hD ⊢
  have hA : ∀ q : Nat, s.heap.size ≤ q → A q := fun q h => by rw [← hAe]; exact Or.inr h
  have hS : va_S A s.heap s.heap [] := va_S.rf
  have hl := lv_entry ([.ref bv, .int 0, .int 7]) (n := 5) (Nat.le_of_ble_eq_true rfl)
  rw [lg_entry_eq]
  generalize (lg_sl ([.ref bv, .int 0, .int 7]) ++ List.replicate (5 - (lg_sl ([.ref bv, .int 0, .int 7])).length) Slot.unset).toArray = ls at hl ⊢
  have hl : lv_has ls 5 [(0, .ref bv), (1, .int 0), (2, .int 7)] := hl
  refine lv_iload_n hx hb dJ7_copyOfRangeByte_39247_0 rfl (lv_at hl 1 rfl) ?_
  refine lv_iload_n hx hb dJ7_copyOfRangeByte_39247_1 rfl (lv_at hl 2 rfl) ?_
  refine va_csv (va_Run.run (va_runS (As := [.int 0, .int 7]) (rest := []) ⟨hx, hb, hml, hown, hts⟩ (c_Arr_checkLength l dC dI 0 7 (by decide)) (va_cwS 2 hts gJ7_copyOfRangeByte_39247_J7_checkLength_df160 rfl rfl rfl (by decide +kernel) ⟨Nat.le_of_ble_eq_true rfl, Nat.le_of_ble_eq_true rfl⟩) ⟨PS_blind, PS_pre (hP.sub (ws' := []) [] rfl) (hK.sub (tys' := []) [] rfl) hF⟩ rfl rfl hl.1 rfl (lv_room (Nat.le_of_ble_eq_true rfl)) dJ7_copyOfRangeByte_39247_2 ⟨Nat.le_of_ble_eq_true rfl, Nat.le_of_ble_eq_true rfl⟩)) (fun _ => ?_)
  refine lv_iload_n hx hb dJ7_copyOfRangeByte_39247_5 rfl (lv_at hl 2 rfl) ?_
  refine lv_iload_n hx hb dJ7_copyOfRangeByte_39247_6 rfl (lv_at hl 1 rfl) ?_
  refine lv_isub hx hb dJ7_copyOfRangeByte_39247_7 ?_
  refine lv_topi (fun f_2 ef_2 => ?_)
  obtain rfl : f_2 = 7 := ef_2.trans (by decide)
  refine lv_istore_n (lv' := [(3, .int 7), (0, .ref bv), (1, .int 0), (2, .int 7)]) hx hb dJ7_copyOfRangeByte_39247_8 rfl hl (by decide) rfl (fun ls hl => ?_)
  refine lv_iload_n hx hb dJ7_copyOfRangeByte_39247_9 rfl (lv_at hl 0 rfl) ?_
  refine va_newa (atype := .byte) (ty := .byte) (a0 := (7, (.inl (fun _ => 0)))) hx hb (hts (.arrayClass .byte) (List.mem_of_getElem? (i := 1) rfl)) rfl hK hP hD hS hA (fun _ => rfl) (by decide) (by decide) (Nat.le_of_ble_eq_true rfl) (Nat.le_of_ble_eq_true rfl) (Nat.le_of_ble_eq_true rfl) dJ7_copyOfRangeByte_39247_10 (fun q_3 k_4 H hK hP hD hS => ?_)
  have hP : va_P (dC, dI) vwCl [(bv, .inl (kB, 16, .inl fb)), (q_3, .inl (k_4, 7, .inl (fun _ => 0)))] H := hP
  have hD : va_D A [(bv, .inl (kB, 16, .inl fb)), (q_3, .inl (k_4, 7, .inl (fun _ => 0)))] := hD
  have hK : va_K (dC, dI) vwCl [(kB, .byte), (k_4, .byte)] s := hK
  refine W.widen (k := 1) (n := 7) (Nat.le_of_ble_eq_true rfl) (Nat.le_of_ble_eq_true rfl) ?_
  refine lv_astore (lv' := [(4, .ref q_3), (3, .int 7), (0, .ref bv), (1, .int 0), (2, .int 7)]) hx hb dJ7_copyOfRangeByte_39247_12 hl (by decide) rfl (fun ls hl => ?_)
  refine lv_aload_n hx hb dJ7_copyOfRangeByte_39247_14 rfl (lv_at hl 2 rfl) ?_
  refine lv_iload_n hx hb dJ7_copyOfRangeByte_39247_15 rfl (lv_at hl 3 rfl) ?_
  refine lv_aload hx hb dJ7_copyOfRangeByte_39247_16 (lv_at hl 0 rfl) ?_
  refine lv_iconst (v := 0) hx hb dJ7_copyOfRangeByte_39247_18 (by decide) ?_
  refine lv_aload_n hx hb dJ7_copyOfRangeByte_39247_19 rfl (lv_at hl 2 rfl) ?_
  refine va_alen hx hb hK hP 0 0 rfl rfl (v := 16) rfl dJ7_copyOfRangeByte_39247_20 ?_
  refine lv_iload_n hx hb dJ7_copyOfRangeByte_39247_21 rfl (lv_at hl 3 rfl) ?_
  refine lv_isub hx hb dJ7_copyOfRangeByte_39247_22 ?_
  refine lv_topi (fun f_5 ef_5 => ?_)
  obtain rfl : f_5 = 16 := ef_5.trans (by decide)
  refine lv_iload_n hx hb dJ7_copyOfRangeByte_39247_23 rfl (lv_at hl 1 rfl) ?_
  refine va_mmin hx hb (hml.trans hl.1.symm) hown (hts (.methodLink RJ7 304 Lib.Math.min.name) (List.mem_of_getElem? (i := 2) rfl)) (hts (.static Lib.Math.min.name) (List.mem_of_getElem? (i := 3) rfl)) (hts (.initialized "java/lang/Math") (List.mem_of_getElem? (i := 4) rfl)) (hts (.code Lib.Math.min.name Lib.Math.min.code 2 (some .int)) (List.mem_of_getElem? (i := 5) rfl)) (Nat.le_of_ble_eq_true rfl) (Nat.le_of_ble_eq_true rfl) (Nat.le_of_ble_eq_true rfl) (Nat.le_of_ble_eq_true rfl) dJ7_copyOfRangeByte_39247_24 ?_
  refine lv_topi (fun f_6 ef_6 => ?_)
  obtain rfl : f_6 = 7 := ef_6.trans (by decide)
  refine va_copyi (ty := .byte) hx hb (hml.trans hl.1.symm) hown (hts (.methodLink RJ7 150 arraycopyName) (List.mem_of_getElem? (i := 6) rfl)) (hts (.native arraycopyName) (List.mem_of_getElem? (i := 7) rfl)) (hts (.static arraycopyName) (List.mem_of_getElem? (i := 8) rfl)) (hts (.initialized "java/lang/System") (List.mem_of_getElem? (i := 9) rfl)) hK hP hD hS 0 1 0 1 rfl rfl rfl rfl rfl (sp := 0) (dp := 0) (n := 7) (by decide) (by decide) (by decide) (by decide) (by decide) (fun i _ => hfb _) (Nat.le_of_ble_eq_true rfl) (Nat.le_of_ble_eq_true rfl) dJ7_copyOfRangeByte_39247_27 (fun H locs hP hD hS => ?_)
  have hP : va_P (dC, dI) vwCl [(bv, .inl (kB, 16, .inl fb)), (q_3, .inl (k_4, 7, .inl (va_cpy fb (fun _ => 0) (0 : Int32).toNatClampNeg (0 : Int32).toNatClampNeg (7 : Int32).toNatClampNeg)))] H := hP
  have hD : va_D A [(bv, .inl (kB, 16, .inl fb)), (q_3, .inl (k_4, 7, .inl (va_cpy fb (fun _ => 0) (0 : Int32).toNatClampNeg (0 : Int32).toNatClampNeg (7 : Int32).toNatClampNeg)))] := hD
  have ha_7 : sb_Fit (va_cpy fb (fun _ => 0) (0 : Int32).toNatClampNeg (0 : Int32).toNatClampNeg (7 : Int32).toNatClampNeg) := sb_fitC hfb sb_fit0
  generalize (va_cpy fb (fun _ => 0) (0 : Int32).toNatClampNeg (0 : Int32).toNatClampNeg (7 : Int32).toNatClampNeg) = a_7 at hP hD ha_7
  refine lv_aload hx hb dJ7_copyOfRangeByte_39247_30 (lv_at hl 0 rfl) ?_
  have hP9 := hP.sub (ws' := [(bv, .inl (kB, 16, .inl fb)), (q_3, .inl (k_4, 7, .inl a_7))]) [0, 1] rfl
  have hD9 := hD.sub (ws' := [(bv, .inl (kB, 16, .inl fb)), (q_3, .inl (k_4, 7, .inl a_7))]) [0, 1] (by decide) rfl
  have hK9 := hK.sub (tys' := [(kB, .byte), (k_4, .byte)]) [0, 1] rfl
  exact W.aret (v := .ref q_3) hx hb hr (Or.inr ⟨_, rfl⟩) (Or.inr ⟨_, rfl⟩) (fun t ht hW => ⟨⟨(), _, rfl, trivial, k_4, a_7, by rw [ht]; exact hP9, va_K.moved hW.alike hK9, hD9⟩, hS.F ht⟩) hS.2.2 dJ7_copyOfRangeByte_39247_32

set_option maxHeartbeats 4000000 in
set_option maxRecDepth 100000 in
theorem c_Arr_cor7 (l : Launch) (dC : Nat → ClassId) (dI : Nat → Nat → Nat) (bv : Nat) (kB : ClassId) (fb : Nat → Int32) (sz : Nat) (hfb : sb_Fit fb) : Met l yJ7_copyOfRange_39247 wsJ7_copyOfRange_39247 ({ frames := 2, cells := 1, slots := 7, locals := 104 }) (va_Pc [.ref bv, .int 0, .int 7] (PQ dC dI sz [(bv, .inl (kB, 16, .inl fb))] [(kB, .byte)])) (va_Qr (fun _ : Unit => True) (fun _ ra t => ∃ (kN : ClassId) (fz : Nat → Int32), va_P (dC, dI) vwCl [(bv, .inl (kB, 16, .inl fb)), (ra, .inl (kN, 7, .inl fz))] t.heap ∧ va_K (dC, dI) vwCl [(kB, .byte), (kN, .byte)] t ∧ va_D (va_A [(bv, .inl (kB, 16, .inl fb))] sz) [(bv, .inl (kB, 16, .inl fb)), (ra, .inl (kN, 7, .inl fz))]) (va_A [(bv, .inl (kB, 16, .inl fb))] sz)) 1 7 (va_A [(bv, .inl (kB, 16, .inl fb))] sz) := by
  refine Met.ofW (cc := cJ7_copyOfRange_39247) (maxL := 3) (ret := (some (.array .byte))) (by decide) rfl ?_
  intro p e s m args below meth c s₁ B hml hv
  obtain ⟨rfl, hsz, hP, hK, hD0, hF⟩ := hv
  have hx := B.exec
  have hb := B.bytes
  have hr := B.returns
  have hts := atoms_spec (ws := wsJ7_copyOfRange_39247) B.pre
  have hown : s.vm.findClass RJ7 = some m.cls := findClass_of_methodNamed B.named
  have hlocks := B.notSynchronized
  subst hsz
  have hD := hD0.self (sz := s.heap.size)
  generalize hAe : va_A [(bv, .inl (kB, 16, .inl fb))] s.heap.size = A at hD ⊢
  have hA : ∀ q : Nat, s.heap.size ≤ q → A q := fun q h => by rw [← hAe]; exact Or.inr h
  have hS : va_S A s.heap s.heap [] := va_S.rf
  have hl := lv_entry ([.ref bv, .int 0, .int 7]) (n := 3) (Nat.le_of_ble_eq_true rfl)
  rw [lg_entry_eq]
  generalize (lg_sl ([.ref bv, .int 0, .int 7]) ++ List.replicate (3 - (lg_sl ([.ref bv, .int 0, .int 7])).length) Slot.unset).toArray = ls at hl ⊢
  have hl : lv_has ls 3 [(0, .ref bv), (1, .int 0), (2, .int 7)] := hl
  refine lv_iload_n hx hb dJ7_copyOfRange_39247_0 rfl (lv_at hl 1 rfl) ?_
  refine lv_if_ne (tgt := 10) hx hb dJ7_copyOfRange_39247_1 (by decide) (fun c_1 => absurd (by decide) c_1) (fun _ => ?_)
  refine lv_iload_n hx hb dJ7_copyOfRange_39247_4 rfl (lv_at hl 2 rfl) ?_
  refine lv_aload_n hx hb dJ7_copyOfRange_39247_5 rfl (lv_at hl 0 rfl) ?_
  refine va_alen hx hb hK hP 0 0 rfl rfl (v := 16) rfl dJ7_copyOfRange_39247_6 ?_
  refine lv_icmp_eq (tgt := 17) hx hb dJ7_copyOfRange_39247_7 (by decide) (fun c_2 => absurd c_2 (by decide)) (fun _ => ?_)
  refine lv_aload_n hx hb dJ7_copyOfRange_39247_10 rfl (lv_at hl 0 rfl) ?_
  refine lv_iload_n hx hb dJ7_copyOfRange_39247_11 rfl (lv_at hl 1 rfl) ?_
  refine lv_iload_n hx hb dJ7_copyOfRange_39247_12 rfl (lv_at hl 2 rfl) ?_
  have hPc := hP.sub (ws' := [(bv, .inl (kB, 16, .inl fb))]) [0] rfl
  have hDc := hD.sub (ws' := [(bv, .inl (kB, 16, .inl fb))]) [0] (by decide) rfl
  have hKc := hK.sub (tys' := [(kB, .byte)]) [0] rfl
  have hFc := va_free (wc := [(bv, .inl (kB, 16, .inl fb))]) hD hS hA [0] rfl
  refine va_callr (va_runS (As := [.ref bv, .int 0, .int 7]) (rest := []) ⟨hx, hb, hml, hown, hts⟩ (c_Arr_corb7 l dC dI bv kB fb s.heap.size hfb) (va_cwS 3 hts gJ7_copyOfRange_39247_J7_copyOfRangeByte_39247 rfl rfl rfl (by decide +kernel) ⟨Nat.le_of_ble_eq_true rfl, Nat.le_of_ble_eq_true rfl⟩) ⟨PQ_blind, PQ_pre hPc hKc hDc hF⟩ rfl rfl hl.1 rfl (lv_room (Nat.le_of_ble_eq_true rfl)) dJ7_copyOfRange_39247_13 ⟨Nat.le_of_ble_eq_true rfl, Nat.le_of_ble_eq_true rfl⟩) hS (fun q _ h => hFc q h) hFc (fun u r_3 t H1 locs ht hvm hw hB hz1 hk1 hS => ?_)
  obtain ⟨kN_4, fz_5, hP1, hK1, hD1⟩ := hB
  rw [ht] at hP1
  have hK1 := va_K.moved hvm.symm hK1
  obtain ⟨hP, hD⟩ := va_join (wr := []) (w1 := [(bv, .inl (kB, 16, .inl fb)), (r_3, .inl (kN_4, 7, .inl fz_5))]) hP hD [0] [] rfl rfl (by decide) (by decide) hk1 hFc hP1 hD1
  have hK := hK.app hK1
  generalize H1 = H at hP hS ⊢
  have hP : va_P (dC, dI) vwCl [(bv, .inl (kB, 16, .inl fb)), (r_3, .inl (kN_4, 7, .inl fz_5))] H := hP
  have hD : va_D A [(bv, .inl (kB, 16, .inl fb)), (r_3, .inl (kN_4, 7, .inl fz_5))] := hD
  have hK : va_K (dC, dI) vwCl [(kB, .byte), (kB, .byte), (kN_4, .byte)] s := hK
  refine W.widen (k := 1) (n := 7) (Nat.le_of_ble_eq_true rfl) (Nat.le_of_ble_eq_true rfl) ?_
  have hP9 := hP.sub (ws' := [(bv, .inl (kB, 16, .inl fb)), (r_3, .inl (kN_4, 7, .inl fz_5))]) [0, 1] rfl
  have hD9 := hD.sub (ws' := [(bv, .inl (kB, 16, .inl fb)), (r_3, .inl (kN_4, 7, .inl fz_5))]) [0, 1] (by decide) rfl
  have hK9 := hK.sub (tys' := [(kB, .byte), (kN_4, .byte)]) [0, 2] rfl
  exact W.aret (v := .ref r_3) hx hb hr (Or.inr ⟨_, rfl⟩) (Or.inr ⟨_, rfl⟩) (fun t ht hW => ⟨⟨(), _, rfl, trivial, kN_4, fz_5, by rw [ht]; exact hP9, va_K.moved hW.alike hK9, hD9⟩, hS.F ht⟩) hS.2.2 dJ7_copyOfRange_39247_16

set_option maxHeartbeats 4000000 in
set_option maxRecDepth 100000 in
theorem c_Str_initV7 (l : Launch) (dC : Nat → ClassId) (dI : Nat → Nat → Nat) (d : Nat) (tc : Nat) (ad : Nat → Nat) (zs : Nat) (y : Nat) (bv : Nat) (kB : ClassId) (fb : Nat → Int32) (sz : Nat) (hfb : sb_Fit fb) : Met l yJ0_init_db425 wsJ0_init_db425 ({ frames := 3, cells := 1, slots := 7, locals := 126 }) (va_Pc [.ref zs, .ref y, .null] (PZ dC dI d tc ad sz [(zs, .inr (0, [.null, .int 0, .int 0, .int 0])), (y, .inr (1, [.ref bv, .int 0, .int 0, .int 7])), (bv, .inl (kB, 16, .inl fb))] [(kB, .byte)])) (va_Qv (fun _ : Unit => True) (fun _ t => ∃ (g2 : Nat), va_P (dC, dI) vwCl [(zs, .inr (0, [.ref g2, .int 0, .int 0, .int 0]))] t.heap ∧ va_K (dC, dI) vwCl [] t ∧ va_D (va_A [(zs, .inr (0, [.null, .int 0, .int 0, .int 0])), (y, .inr (1, [.ref bv, .int 0, .int 0, .int 7])), (bv, .inl (kB, 16, .inl fb))] sz) [(zs, .inr (0, [.ref g2, .int 0, .int 0, .int 0]))]) (va_A [(zs, .inr (0, [.null, .int 0, .int 0, .int 0])), (y, .inr (1, [.ref bv, .int 0, .int 0, .int 7])), (bv, .inl (kB, 16, .inl fb))] sz)) 1 7 (va_A [(zs, .inr (0, [.null, .int 0, .int 0, .int 0])), (y, .inr (1, [.ref bv, .int 0, .int 0, .int 7])), (bv, .inl (kB, 16, .inl fb))] sz) := by
  refine Met.ofW (cc := cJ0_init_db425) (maxL := 5) (ret := none) (by decide) rfl ?_
  intro p e s m args below meth c s₁ B hml hv
  obtain ⟨rfl, hsz, hP, hK, hD0, hF, hZ⟩ := hv
  have hx := B.exec
  have hb := B.bytes
  have hr := B.returns
  have hts := atoms_spec (ws := wsJ0_init_db425) B.pre
  have hown : s.vm.findClass RJ0 = some m.cls := findClass_of_methodNamed B.named
  have hlocks := B.notSynchronized
  have hin : meth.name = "<init>" := (name_of_methodNamed B.named B.method).1
  subst hsz
  have hD := hD0.self (sz := s.heap.size)
  generalize hAe : va_A [(zs, .inr (0, [.null, .int 0, .int 0, .int 0])), (y, .inr (1, [.ref bv, .int 0, .int 0, .int 7])), (bv, .inl (kB, 16, .inl fb))] s.heap.size = A at hD hZ ⊢
  have hA : ∀ q : Nat, s.heap.size ≤ q → A q := fun q h => by rw [← hAe]; exact Or.inr h
  have hS : va_S A s.heap s.heap [] := va_S.rf
  have hl := lv_entry ([.ref zs, .ref y, .null]) (n := 5) (Nat.le_of_ble_eq_true rfl)
  rw [lg_entry_eq]
  generalize (lg_sl ([.ref zs, .ref y, .null]) ++ List.replicate (5 - (lg_sl ([.ref zs, .ref y, .null])).length) Slot.unset).toArray = ls at hl ⊢
  have hl : lv_has ls 5 [(0, .ref zs), (1, .ref y), (2, .null)] := hl
  refine lv_aload_n hx hb dJ0_init_db425_0 rfl (lv_at hl 0 rfl) ?_
  refine W.objInit hx hb hown (hts (.methodLink RJ0 1 objectInit) (List.mem_of_getElem? (i := 1) rfl)) (hts (.instanceMethod objectInit) (List.mem_of_getElem? (i := 2) rfl)) (hts _ (List.mem_of_getElem? (i := 3) rfl)) rfl (by rw [hml]; exact hl.1) rfl dJ0_init_db425_1 (Nat.le_of_ble_eq_true rfl) (Nat.le_of_ble_eq_true rfl) ?_
  refine W.eq (g2 := F0 m 4 ls []) rfl ?_
  refine lv_aload_n hx hb dJ0_init_db425_4 rfl (lv_at hl 1 rfl) ?_
  refine va_csq (va_Run.run (va_runU (As := []) (rest := []) ⟨hx, hb, hml, hown, hts⟩ (c_SB_getValue l dC dI y bv 7) (va_cwU 0 hts gJ0_init_db425_J5_getValue_6d5f1_u552J4 rfl rfl rfl rfl (by decide +kernel) ⟨Nat.le_of_ble_eq_true rfl, Nat.le_of_ble_eq_true rfl⟩) ⟨PS_blind, va_recv hK hP (ci := 1) (q0 := 1) rfl rfl, PS_pre (hP.sub (ws' := [(y, .inr (1, [.ref bv, .int 0, .int 0, .int 7]))]) [1] rfl) (hK.sub (tys' := []) [] rfl) hF⟩ rfl rfl hl.1 rfl (lv_room (Nat.le_of_ble_eq_true rfl)) dJ0_init_db425_5 ⟨Nat.le_of_ble_eq_true rfl, Nat.le_of_ble_eq_true rfl⟩)) (fun r_1 hr_1 => ?_)
  subst hr_1
  refine W.eq (g2 := F0 m 8 ls [.ref bv]) rfl ?_
  refine lv_astore_n (lv' := [(3, .ref bv), (0, .ref zs), (1, .ref y), (2, .null)]) hx hb dJ0_init_db425_8 rfl hl (by decide) rfl (fun ls hl => ?_)
  refine lv_aload_n hx hb dJ0_init_db425_9 rfl (lv_at hl 2 rfl) ?_
  refine vp_callSi (va_Run.run (va_runU (As := []) (rest := []) ⟨hx, hb, hml, hown, hts⟩ (c_SB_length l dC dI y bv 7) (va_cwO 0 hts gJ0_init_db425_J4_length_8abf5_u549J4 rfl rfl rfl (List.mem_of_getElem? (i := 25) rfl : (Cond.code yJ5_length_8abf5 cJ5_length_8abf5 1 (some .int)) ∈ wsJ0_init_db425) (by decide +kernel) ⟨Nat.le_of_ble_eq_true rfl, Nat.le_of_ble_eq_true rfl⟩) ⟨PS_blind, va_recv hK hP (ci := 1) (q0 := 1) rfl rfl, PS_pre (hP.sub (ws' := [(y, .inr (1, [.ref bv, .int 0, .int 0, .int 7]))]) [1] rfl) (hK.sub (tys' := []) [] rfl) hF⟩ rfl rfl hl.1 rfl (lv_room (Nat.le_of_ble_eq_true rfl)) dJ0_init_db425_10 ⟨Nat.le_of_ble_eq_true rfl, Nat.le_of_ble_eq_true rfl⟩)) (fun r_2 hr_2 => ?_)
  subst hr_2
  refine lv_istore (lv' := [(4, .int 7), (3, .ref bv), (0, .ref zs), (1, .ref y), (2, .null)]) hx hb dJ0_init_db425_13 hl (by decide) rfl (fun ls hl => ?_)
  refine lv_aload_n hx hb dJ0_init_db425_15 rfl (lv_at hl 3 rfl) ?_
  refine vp_callSi (va_Run.run (va_runU (As := []) (rest := []) ⟨hx, hb, hml, hown, hts⟩ (c_SB_isLatin1 l dC dI d tc ad y bv 7) (va_cwU 0 hts gJ0_init_db425_J5_isLatin1_aae02_u1047J4 rfl rfl rfl rfl (by decide +kernel) ⟨Nat.le_of_ble_eq_true rfl, Nat.le_of_ble_eq_true rfl⟩) ⟨PY_blind, va_recv hK hP (ci := 1) (q0 := 1) rfl rfl, PY_pre (hP.sub (ws' := [(y, .inr (1, [.ref bv, .int 0, .int 0, .int 7]))]) [1] rfl) (hK.sub (tys' := []) [] rfl) hF hZ hS⟩ rfl rfl hl.1 rfl (lv_room (Nat.le_of_ble_eq_true rfl)) dJ0_init_db425_16 ⟨Nat.le_of_ble_eq_true rfl, Nat.le_of_ble_eq_true rfl⟩)) (fun r_3 hr_3 => ?_)
  subst hr_3
  refine lv_if_eq (tgt := 41) hx hb dJ0_init_db425_19 (by decide) (fun c_4 => absurd c_4 (by decide)) (fun _ => ?_)
  refine lv_aload_n hx hb dJ0_init_db425_22 rfl (lv_at hl 2 rfl) ?_
  refine lv_iconst (v := 0) hx hb dJ0_init_db425_23 (by decide) ?_
  refine va_putF (D := (dC, dI)) (ci := 0) (v := .int 0) (ty := .byte) (C := RJ0) (T := TJ0) (N := 4) hx hb hts (fun _ h9 => List.mem_cons_of_mem _ (List.mem_append_left _ (List.mem_append_right _ (h9)))) tyJ0 tyJ0_ok nmJ0 hown hK hP hD hS 0 rfl rfl 1 (by decide) (hts (.fieldLink RJ0 15 "java/lang/String" "coder" "B") (List.mem_of_getElem? (i := 4) rfl)) (fun _ h9 => h9) rfl hin rfl (by decide +kernel) (by decide) (by decide) (Nat.le_of_ble_eq_true rfl) dJ0_init_db425_24 (fun H locs hP hD hS => ?_)
  have hP : va_P (dC, dI) vwCl [(zs, .inr (0, [.null, .int 0, .int 0, .int 0])), (y, .inr (1, [.ref bv, .int 0, .int 0, .int 7])), (bv, .inl (kB, 16, .inl fb))] H := hP
  have hD : va_D A [(zs, .inr (0, [.null, .int 0, .int 0, .int 0])), (y, .inr (1, [.ref bv, .int 0, .int 0, .int 7])), (bv, .inl (kB, 16, .inl fb))] := hD
  refine lv_aload_n hx hb dJ0_init_db425_27 rfl (lv_at hl 2 rfl) ?_
  refine lv_aload_n hx hb dJ0_init_db425_28 rfl (lv_at hl 1 rfl) ?_
  refine lv_iconst (v := 0) hx hb dJ0_init_db425_29 (by decide) ?_
  refine lv_iload hx hb dJ0_init_db425_30 (lv_at hl 0 rfl) ?_
  have hPc := hP.sub (ws' := [(bv, .inl (kB, 16, .inl fb))]) [2] rfl
  have hDc := hD.sub (ws' := [(bv, .inl (kB, 16, .inl fb))]) [2] (by decide) rfl
  have hKc := hK.sub (tys' := [(kB, .byte)]) [0] rfl
  have hFc := va_free (wc := [(bv, .inl (kB, 16, .inl fb))]) hD hS hA [2] rfl
  refine va_callr (va_runS (As := [.ref bv, .int 0, .int 7]) (rest := [.ref zs]) ⟨hx, hb, hml, hown, hts⟩ (c_Arr_cor7 l dC dI bv kB fb H.size hfb) (va_cwS 3 hts gJ0_init_db425_J7_copyOfRange_39247 rfl rfl rfl (by decide +kernel) ⟨Nat.le_of_ble_eq_true rfl, Nat.le_of_ble_eq_true rfl⟩) ⟨PQ_blind, PQ_pre hPc hKc hDc hF⟩ rfl rfl hl.1 rfl (lv_room (Nat.le_of_ble_eq_true rfl)) dJ0_init_db425_32 ⟨Nat.le_of_ble_eq_true rfl, Nat.le_of_ble_eq_true rfl⟩) hS (fun q _ h => hFc q h) hFc (fun u r_5 t H1 locs ht hvm hw hB hz1 hk1 hS => ?_)
  obtain ⟨kN_6, fz_7, hP1, hK1, hD1⟩ := hB
  rw [ht] at hP1
  have hK1 := va_K.moved hvm.symm hK1
  obtain ⟨hP, hD⟩ := va_join (wr := [(zs, .inr (0, [.null, .int 0, .int 0, .int 0])), (y, .inr (1, [.ref bv, .int 0, .int 0, .int 7]))]) (w1 := [(bv, .inl (kB, 16, .inl fb)), (r_5, .inl (kN_6, 7, .inl fz_7))]) hP hD [2] [0, 1] rfl rfl (by decide) (by decide) hk1 hFc hP1 hD1
  have hK := hK.app hK1
  generalize H1 = H at hP hS ⊢
  have hP : va_P (dC, dI) vwCl [(zs, .inr (0, [.null, .int 0, .int 0, .int 0])), (y, .inr (1, [.ref bv, .int 0, .int 0, .int 7])), (bv, .inl (kB, 16, .inl fb)), (r_5, .inl (kN_6, 7, .inl fz_7))] H := hP
  have hD : va_D A [(zs, .inr (0, [.null, .int 0, .int 0, .int 0])), (y, .inr (1, [.ref bv, .int 0, .int 0, .int 7])), (bv, .inl (kB, 16, .inl fb)), (r_5, .inl (kN_6, 7, .inl fz_7))] := hD
  have hK : va_K (dC, dI) vwCl [(kB, .byte), (kB, .byte), (kN_6, .byte)] s := hK
  refine W.widen (k := 1) (n := 7) (Nat.le_of_ble_eq_true rfl) (Nat.le_of_ble_eq_true rfl) ?_
  refine va_putF (D := (dC, dI)) (ci := 0) (v := .ref r_5) (ty := .array .byte) (C := RJ0) (T := TJ0) (N := 4) hx hb hts (fun _ h9 => List.mem_cons_of_mem _ (List.mem_append_left _ (List.mem_append_right _ (h9)))) tyJ0 tyJ0_ok nmJ0 hown hK hP hD hS 0 rfl rfl 0 (by decide) (hts (.fieldLink RJ0 9 "java/lang/String" "value" "[B") (List.mem_of_getElem? (i := 5) rfl)) (fun _ h9 => h9) rfl hin rfl (by decide +kernel) rfl rfl (Nat.le_of_ble_eq_true rfl) dJ0_init_db425_35 (fun H locs hP hD hS => ?_)
  have hP : va_P (dC, dI) vwCl [(zs, .inr (0, [.ref r_5, .int 0, .int 0, .int 0])), (y, .inr (1, [.ref bv, .int 0, .int 0, .int 7])), (bv, .inl (kB, 16, .inl fb)), (r_5, .inl (kN_6, 7, .inl fz_7))] H := hP
  have hD : va_D A [(zs, .inr (0, [.ref r_5, .int 0, .int 0, .int 0])), (y, .inr (1, [.ref bv, .int 0, .int 0, .int 7])), (bv, .inl (kB, 16, .inl fb)), (r_5, .inl (kN_6, 7, .inl fz_7))] := hD
  refine lv_goto (tgt := 97) hx hb dJ0_init_db425_38 (by decide) ?_
  have hP9 := hP.sub (ws' := [(zs, .inr (0, [.ref r_5, .int 0, .int 0, .int 0]))]) [0] rfl
  have hD9 := hD.sub (ws' := [(zs, .inr (0, [.ref r_5, .int 0, .int 0, .int 0]))]) [0] (by decide) rfl
  have hK9 := hK.sub (tys' := []) [] rfl
  exact W.vret hx hb hr (fun t ht hW => ⟨⟨(), rfl, trivial, r_5, by rw [ht]; exact hP9, va_K.moved hW.alike hK9, hD9⟩, hS.F ht⟩) hS.2.2 dJ0_init_db425_97

set_option maxHeartbeats 4000000 in
set_option maxRecDepth 100000 in
theorem c_Str_init7 (l : Launch) (dC : Nat → ClassId) (dI : Nat → Nat → Nat) (d : Nat) (tc : Nat) (ad : Nat → Nat) (zs : Nat) (y : Nat) (bv : Nat) (kB : ClassId) (fb : Nat → Int32) (sz : Nat) (hfb : sb_Fit fb) : Met l yJ0_init_81219 wsJ0_init_81219 ({ frames := 4, cells := 1, slots := 7, locals := 150 }) (va_Pc [.ref zs, .ref y] (PZ dC dI d tc ad sz [(zs, .inr (0, [.null, .int 0, .int 0, .int 0])), (y, .inr (1, [.ref bv, .int 0, .int 0, .int 7])), (bv, .inl (kB, 16, .inl fb))] [(kB, .byte)])) (va_Qv (fun _ : Unit => True) (fun _ t => ∃ (g2 : Nat), va_P (dC, dI) vwCl [(zs, .inr (0, [.ref g2, .int 0, .int 0, .int 0]))] t.heap ∧ va_K (dC, dI) vwCl [] t ∧ va_D (va_A [(zs, .inr (0, [.null, .int 0, .int 0, .int 0])), (y, .inr (1, [.ref bv, .int 0, .int 0, .int 7])), (bv, .inl (kB, 16, .inl fb))] sz) [(zs, .inr (0, [.ref g2, .int 0, .int 0, .int 0]))]) (va_A [(zs, .inr (0, [.null, .int 0, .int 0, .int 0])), (y, .inr (1, [.ref bv, .int 0, .int 0, .int 7])), (bv, .inl (kB, 16, .inl fb))] sz)) 1 7 (va_A [(zs, .inr (0, [.null, .int 0, .int 0, .int 0])), (y, .inr (1, [.ref bv, .int 0, .int 0, .int 7])), (bv, .inl (kB, 16, .inl fb))] sz) := by
  refine Met.ofW (cc := cJ0_init_81219) (maxL := 2) (ret := none) (by decide) rfl ?_
  intro p e s m args below meth c s₁ B hml hv
  obtain ⟨rfl, hsz, hP, hK, hD0, hF, hZ⟩ := hv
  have hx := B.exec
  have hb := B.bytes
  have hr := B.returns
  have hts := atoms_spec (ws := wsJ0_init_81219) B.pre
  have hown : s.vm.findClass RJ0 = some m.cls := findClass_of_methodNamed B.named
  have hlocks := B.notSynchronized
  have hin : meth.name = "<init>" := (name_of_methodNamed B.named B.method).1
  subst hsz
  have hD := hD0.self (sz := s.heap.size)
  generalize hAe : va_A [(zs, .inr (0, [.null, .int 0, .int 0, .int 0])), (y, .inr (1, [.ref bv, .int 0, .int 0, .int 7])), (bv, .inl (kB, 16, .inl fb))] s.heap.size = A at hD hZ ⊢
  have hA : ∀ q : Nat, s.heap.size ≤ q → A q := fun q h => by rw [← hAe]; exact Or.inr h
  have hS : va_S A s.heap s.heap [] := va_S.rf
  have hl := lv_entry ([.ref zs, .ref y]) (n := 2) (Nat.le_of_ble_eq_true rfl)
  rw [lg_entry_eq]
  generalize (lg_sl ([.ref zs, .ref y]) ++ List.replicate (2 - (lg_sl ([.ref zs, .ref y])).length) Slot.unset).toArray = ls at hl ⊢
  have hl : lv_has ls 2 [(0, .ref zs), (1, .ref y)] := hl
  refine lv_aload_n hx hb dJ0_init_81219_0 rfl (lv_at hl 0 rfl) ?_
  refine lv_aload_n hx hb dJ0_init_81219_1 rfl (lv_at hl 1 rfl) ?_
  refine lv_null hx hb dJ0_init_81219_2 ?_
  have hPc := hP.sub (ws' := [(zs, .inr (0, [.null, .int 0, .int 0, .int 0])), (y, .inr (1, [.ref bv, .int 0, .int 0, .int 7])), (bv, .inl (kB, 16, .inl fb))]) [0, 1, 2] rfl
  have hDc := hD.sub (ws' := [(zs, .inr (0, [.null, .int 0, .int 0, .int 0])), (y, .inr (1, [.ref bv, .int 0, .int 0, .int 7])), (bv, .inl (kB, 16, .inl fb))]) [0, 1, 2] (by decide) rfl
  have hKc := hK.sub (tys' := [(kB, .byte)]) [0] rfl
  have hFc := va_free (wc := [(zs, .inr (0, [.null, .int 0, .int 0, .int 0])), (y, .inr (1, [.ref bv, .int 0, .int 0, .int 7])), (bv, .inl (kB, 16, .inl fb))]) hD hS hA [0, 1, 2] rfl
  refine va_callv (va_runI (As := [.ref y, .null]) (rest := []) ⟨hx, hb, hml, hown, hts⟩ (c_Str_initV7 l dC dI d tc ad zs y bv kB fb s.heap.size hfb) (cwI 2 hts gJ0_init_81219_J0_init_db425 rfl rfl rfl (hts (.initialized RJ0) (List.mem_of_getElem? (i := 3) rfl)) (hts (.methodLink RJ0 489 yJ0_init_db425) (List.mem_of_getElem? (i := 1) rfl)) (hts (.instanceMethod yJ0_init_db425) (List.mem_of_getElem? (i := 2) rfl)) rfl (by decide +kernel) ⟨Nat.le_of_ble_eq_true rfl, Nat.le_of_ble_eq_true rfl⟩) ⟨PZ_blind, PZ_pre hPc hKc hDc hF hZ hS hFc⟩ rfl rfl hl.1 rfl (lv_room (Nat.le_of_ble_eq_true rfl)) dJ0_init_81219_3 ⟨Nat.le_of_ble_eq_true rfl, Nat.le_of_ble_eq_true rfl⟩) hS (fun q _ h => hFc q h) hFc (fun u t H1 locs ht hvm hw hB hz1 hk1 hS => ?_)
  obtain ⟨g2_2, hP1, hK1, hD1⟩ := hB
  rw [ht] at hP1
  have hK1 := va_K.moved hvm.symm hK1
  obtain ⟨hP, hD⟩ := va_join (wr := []) (w1 := [(zs, .inr (0, [.ref g2_2, .int 0, .int 0, .int 0]))]) hP hD [0, 1, 2] [] rfl rfl (by decide) (by decide) hk1 hFc hP1 hD1
  have hK := hK.app hK1
  generalize H1 = H at hP hS ⊢
  have hP : va_P (dC, dI) vwCl [(zs, .inr (0, [.ref g2_2, .int 0, .int 0, .int 0]))] H := hP
  have hD : va_D A [(zs, .inr (0, [.ref g2_2, .int 0, .int 0, .int 0]))] := hD
  have hK : va_K (dC, dI) vwCl [(kB, .byte)] s := hK
  refine W.widen (k := 1) (n := 7) (Nat.le_of_ble_eq_true rfl) (Nat.le_of_ble_eq_true rfl) ?_
  have hP9 := hP.sub (ws' := [(zs, .inr (0, [.ref g2_2, .int 0, .int 0, .int 0]))]) [0] rfl
  have hD9 := hD.sub (ws' := [(zs, .inr (0, [.ref g2_2, .int 0, .int 0, .int 0]))]) [0] (by decide) rfl
  have hK9 := hK.sub (tys' := []) [] rfl
  exact W.vret hx hb hr (fun t ht hW => ⟨⟨(), rfl, trivial, g2_2, by rw [ht]; exact hP9, va_K.moved hW.alike hK9, hD9⟩, hS.F ht⟩) hS.2.2 dJ0_init_81219_6

set_option maxHeartbeats 4000000 in
set_option maxRecDepth 100000 in
theorem c_SB_toString7 (l : Launch) (dC : Nat → ClassId) (dI : Nat → Nat → Nat) (d : Nat) (tc : Nat) (ad : Nat → Nat) (y : Nat) (bv : Nat) (kB : ClassId) (fb : Nat → Int32) (sz : Nat) (hfb : sb_Fit fb) : Met l yJ4_toString_0e30d wsJ4_toString_0e30d ({ frames := 5, cells := 2, slots := 11, locals := 171 }) (va_Pc [.ref y] (PZ dC dI d tc ad sz [(y, .inr (1, [.ref bv, .int 0, .int 0, .int 7])), (bv, .inl (kB, 16, .inl fb))] [(kB, .byte)])) (va_Qr (fun _ : Unit => True) (fun _ ra t => ∃ (g2 : Nat), va_P (dC, dI) vwCl [(ra, .inr (0, [.ref g2, .int 0, .int 0, .int 0]))] t.heap ∧ va_K (dC, dI) vwCl [] t ∧ va_D (va_A [(y, .inr (1, [.ref bv, .int 0, .int 0, .int 7])), (bv, .inl (kB, 16, .inl fb))] sz) [(ra, .inr (0, [.ref g2, .int 0, .int 0, .int 0]))]) (va_A [(y, .inr (1, [.ref bv, .int 0, .int 0, .int 7])), (bv, .inl (kB, 16, .inl fb))] sz)) 2 11 (va_A [(y, .inr (1, [.ref bv, .int 0, .int 0, .int 7])), (bv, .inl (kB, 16, .inl fb))] sz) := by
  refine Met.ofW (cc := cJ4_toString_0e30d) (maxL := 1) (ret := (some (.object "java/lang/String"))) (by decide) rfl ?_
  intro p e s m args below meth c s₁ B hml hv
  obtain ⟨rfl, hsz, hP, hK, hD0, hF, hZ⟩ := hv
  have hx := B.exec
  have hb := B.bytes
  have hr := B.returns
  have hts := atoms_spec (ws := wsJ4_toString_0e30d) B.pre
  have hown : s.vm.findClass RJ4 = some m.cls := findClass_of_methodNamed B.named
  have hlocks := B.notSynchronized
  subst hsz
  have hD := hD0.self (sz := s.heap.size)
  generalize hAe : va_A [(y, .inr (1, [.ref bv, .int 0, .int 0, .int 7])), (bv, .inl (kB, 16, .inl fb))] s.heap.size = A at hD hZ ⊢
  have hA : ∀ q : Nat, s.heap.size ≤ q → A q := fun q h => by rw [← hAe]; exact Or.inr h
  have hS : va_S A s.heap s.heap [] := va_S.rf
  have hl := lv_entry ([.ref y]) (n := 1) (Nat.le_of_ble_eq_true rfl)
  rw [lg_entry_eq]
  generalize (lg_sl ([.ref y]) ++ List.replicate (1 - (lg_sl ([.ref y])).length) Slot.unset).toArray = ls at hl ⊢
  have hl : lv_has ls 1 [(0, .ref y)] := hl
  refine va_new (ci := 0) (fs := [.null, .int 0, .int 0, .int 0]) (C := RJ0) (T := TJ0) (N := 4) hx hb hts (fun _ h9 => List.mem_cons_of_mem _ (List.mem_append_left _ (List.mem_append_right _ (h9)))) tyJ0 tyJ0_ok hown (hts (.classLink RJ4 18 RJ0) (List.mem_of_getElem? (i := 1) rfl)) (hts (.instantiable RJ0 4) (List.mem_of_getElem? (i := 2) rfl)) (hts (.initialized RJ0) (List.mem_of_getElem? (i := 3) rfl)) hK hP hD hS hA rfl dfJ0 (Nat.le_of_ble_eq_true rfl) (Nat.le_of_ble_eq_true rfl) dJ4_toString_0e30d_0 (fun q_1 H hP hD hS => ?_)
  have hP : va_P (dC, dI) vwCl [(y, .inr (1, [.ref bv, .int 0, .int 0, .int 7])), (bv, .inl (kB, 16, .inl fb)), (q_1, .inr (0, [.null, .int 0, .int 0, .int 0]))] H := hP
  have hD : va_D A [(y, .inr (1, [.ref bv, .int 0, .int 0, .int 7])), (bv, .inl (kB, 16, .inl fb)), (q_1, .inr (0, [.null, .int 0, .int 0, .int 0]))] := hD
  refine W.widen (k := 1) (n := 4) (Nat.le_of_ble_eq_true rfl) (Nat.le_of_ble_eq_true rfl) ?_
  refine lv_dup hx hb dJ4_toString_0e30d_3 rfl ?_
  refine lv_aload_n hx hb dJ4_toString_0e30d_4 rfl (lv_at hl 0 rfl) ?_
  have hPc := hP.sub (ws' := [(q_1, .inr (0, [.null, .int 0, .int 0, .int 0])), (y, .inr (1, [.ref bv, .int 0, .int 0, .int 7])), (bv, .inl (kB, 16, .inl fb))]) [2, 0, 1] rfl
  have hDc := hD.sub (ws' := [(q_1, .inr (0, [.null, .int 0, .int 0, .int 0])), (y, .inr (1, [.ref bv, .int 0, .int 0, .int 7])), (bv, .inl (kB, 16, .inl fb))]) [2, 0, 1] (by decide) rfl
  have hKc := hK.sub (tys' := [(kB, .byte)]) [0] rfl
  have hFc := va_free (wc := [(q_1, .inr (0, [.null, .int 0, .int 0, .int 0])), (y, .inr (1, [.ref bv, .int 0, .int 0, .int 7])), (bv, .inl (kB, 16, .inl fb))]) hD hS hA [2, 0, 1] rfl
  refine va_callv (va_runI (As := [.ref y]) (rest := [.ref q_1]) ⟨hx, hb, hml, hown, hts⟩ (c_Str_init7 l dC dI d tc ad q_1 y bv kB fb H.size hfb) (cwI 1 hts gJ4_toString_0e30d_J0_init_81219 rfl rfl rfl (hts (.initialized RJ0) (List.mem_of_getElem? (i := 3) rfl)) (hts (.methodLink RJ4 137 yJ0_init_81219) (List.mem_of_getElem? (i := 4) rfl)) (hts (.instanceMethod yJ0_init_81219) (List.mem_of_getElem? (i := 5) rfl)) rfl (by decide +kernel) ⟨Nat.le_of_ble_eq_true rfl, Nat.le_of_ble_eq_true rfl⟩) ⟨PZ_blind, PZ_pre hPc hKc hDc hF hZ hS hFc⟩ rfl rfl hl.1 rfl (lv_room (Nat.le_of_ble_eq_true rfl)) dJ4_toString_0e30d_5 ⟨Nat.le_of_ble_eq_true rfl, Nat.le_of_ble_eq_true rfl⟩) hS (fun q _ h => hFc q h) hFc (fun u t H1 locs ht hvm hw hB hz1 hk1 hS => ?_)
  obtain ⟨g2_3, hP1, hK1, hD1⟩ := hB
  rw [ht] at hP1
  have hK1 := va_K.moved hvm.symm hK1
  obtain ⟨hP, hD⟩ := va_join (wr := []) (w1 := [(q_1, .inr (0, [.ref g2_3, .int 0, .int 0, .int 0]))]) hP hD [2, 0, 1] [] rfl rfl (by decide) (by decide) hk1 hFc hP1 hD1
  have hK := hK.app hK1
  generalize H1 = H at hP hS ⊢
  have hP : va_P (dC, dI) vwCl [(q_1, .inr (0, [.ref g2_3, .int 0, .int 0, .int 0]))] H := hP
  have hD : va_D A [(q_1, .inr (0, [.ref g2_3, .int 0, .int 0, .int 0]))] := hD
  have hK : va_K (dC, dI) vwCl [(kB, .byte)] s := hK
  refine W.widen (k := 2) (n := 11) (Nat.le_of_ble_eq_true rfl) (Nat.le_of_ble_eq_true rfl) ?_
  have hP9 := hP.sub (ws' := [(q_1, .inr (0, [.ref g2_3, .int 0, .int 0, .int 0]))]) [0] rfl
  have hD9 := hD.sub (ws' := [(q_1, .inr (0, [.ref g2_3, .int 0, .int 0, .int 0]))]) [0] (by decide) rfl
  have hK9 := hK.sub (tys' := []) [] rfl
  exact W.aret (v := .ref q_1) hx hb hr (Or.inl ⟨_, rfl⟩) (Or.inr ⟨_, rfl⟩) (fun t ht hW => ⟨⟨(), _, rfl, trivial, g2_3, by rw [ht]; exact hP9, va_K.moved hW.alike hK9, hD9⟩, hS.F ht⟩) hS.2.2 dJ4_toString_0e30d_8

set_option maxHeartbeats 4000000 in
set_option maxRecDepth 100000 in
theorem c_Arr_corb8 (l : Launch) (dC : Nat → ClassId) (dI : Nat → Nat → Nat) (bv : Nat) (kB : ClassId) (fb : Nat → Int32) (sz : Nat) (hfb : sb_Fit fb) : Met l yJ7_copyOfRangeByte_39247 wsJ7_copyOfRangeByte_39247 ({ frames := 1, cells := 1, slots := 8, locals := 80 }) (va_Pc [.ref bv, .int 0, .int 8] (PQ dC dI sz [(bv, .inl (kB, 16, .inl fb))] [(kB, .byte)])) (va_Qr (fun _ : Unit => True) (fun _ ra t => ∃ (kN : ClassId) (fz : Nat → Int32), va_P (dC, dI) vwCl [(bv, .inl (kB, 16, .inl fb)), (ra, .inl (kN, 8, .inl fz))] t.heap ∧ va_K (dC, dI) vwCl [(kB, .byte), (kN, .byte)] t ∧ va_D (va_A [(bv, .inl (kB, 16, .inl fb))] sz) [(bv, .inl (kB, 16, .inl fb)), (ra, .inl (kN, 8, .inl fz))]) (va_A [(bv, .inl (kB, 16, .inl fb))] sz)) 1 8 (va_A [(bv, .inl (kB, 16, .inl fb))] sz) := by
  refine Met.ofW (cc := cJ7_copyOfRangeByte_39247) (maxL := 5) (ret := (some (.array .byte))) (by decide) rfl ?_
  intro p e s m args below meth c s₁ B hml hv
  obtain ⟨rfl, hsz, hP, hK, hD0, hF⟩ := hv
  have hx := B.exec
  have hb := B.bytes
  have hr := B.returns
  have hts := atoms_spec (ws := wsJ7_copyOfRangeByte_39247) B.pre
  have hown : s.vm.findClass RJ7 = some m.cls := findClass_of_methodNamed B.named
  have hlocks := B.notSynchronized
  subst hsz
  have hD := hD0.self (sz := s.heap.size)
  generalize hAe : va_A [(bv, .inl (kB, 16, .inl fb))] s.heap.size = A at hD ⊢
  have hA : ∀ q : Nat, s.heap.size ≤ q → A q := fun q h => by rw [← hAe]; exact Or.inr h
  have hS : va_S A s.heap s.heap [] := va_S.rf
  have hl := lv_entry ([.ref bv, .int 0, .int 8]) (n := 5) (Nat.le_of_ble_eq_true rfl)
  rw [lg_entry_eq]
  generalize (lg_sl ([.ref bv, .int 0, .int 8]) ++ List.replicate (5 - (lg_sl ([.ref bv, .int 0, .int 8])).length) Slot.unset).toArray = ls at hl ⊢
  have hl : lv_has ls 5 [(0, .ref bv), (1, .int 0), (2, .int 8)] := hl
  refine lv_iload_n hx hb dJ7_copyOfRangeByte_39247_0 rfl (lv_at hl 1 rfl) ?_
  refine lv_iload_n hx hb dJ7_copyOfRangeByte_39247_1 rfl (lv_at hl 2 rfl) ?_
  refine va_csv (va_Run.run (va_runS (As := [.int 0, .int 8]) (rest := []) ⟨hx, hb, hml, hown, hts⟩ (c_Arr_checkLength l dC dI 0 8 (by decide)) (va_cwS 2 hts gJ7_copyOfRangeByte_39247_J7_checkLength_df160 rfl rfl rfl (by decide +kernel) ⟨Nat.le_of_ble_eq_true rfl, Nat.le_of_ble_eq_true rfl⟩) ⟨PS_blind, PS_pre (hP.sub (ws' := []) [] rfl) (hK.sub (tys' := []) [] rfl) hF⟩ rfl rfl hl.1 rfl (lv_room (Nat.le_of_ble_eq_true rfl)) dJ7_copyOfRangeByte_39247_2 ⟨Nat.le_of_ble_eq_true rfl, Nat.le_of_ble_eq_true rfl⟩)) (fun _ => ?_)
  refine lv_iload_n hx hb dJ7_copyOfRangeByte_39247_5 rfl (lv_at hl 2 rfl) ?_
  refine lv_iload_n hx hb dJ7_copyOfRangeByte_39247_6 rfl (lv_at hl 1 rfl) ?_
  refine lv_isub hx hb dJ7_copyOfRangeByte_39247_7 ?_
  refine lv_topi (fun f_2 ef_2 => ?_)
  obtain rfl : f_2 = 8 := ef_2.trans (by decide)
  refine lv_istore_n (lv' := [(3, .int 8), (0, .ref bv), (1, .int 0), (2, .int 8)]) hx hb dJ7_copyOfRangeByte_39247_8 rfl hl (by decide) rfl (fun ls hl => ?_)
  refine lv_iload_n hx hb dJ7_copyOfRangeByte_39247_9 rfl (lv_at hl 0 rfl) ?_
  refine va_newa (atype := .byte) (ty := .byte) (a0 := (8, (.inl (fun _ => 0)))) hx hb (hts (.arrayClass .byte) (List.mem_of_getElem? (i := 1) rfl)) rfl hK hP hD hS hA (fun _ => rfl) (by decide) (by decide) (Nat.le_of_ble_eq_true rfl) (Nat.le_of_ble_eq_true rfl) (Nat.le_of_ble_eq_true rfl) dJ7_copyOfRangeByte_39247_10 (fun q_3 k_4 H hK hP hD hS => ?_)
  have hP : va_P (dC, dI) vwCl [(bv, .inl (kB, 16, .inl fb)), (q_3, .inl (k_4, 8, .inl (fun _ => 0)))] H := hP
  have hD : va_D A [(bv, .inl (kB, 16, .inl fb)), (q_3, .inl (k_4, 8, .inl (fun _ => 0)))] := hD
  have hK : va_K (dC, dI) vwCl [(kB, .byte), (k_4, .byte)] s := hK
  refine W.widen (k := 1) (n := 8) (Nat.le_of_ble_eq_true rfl) (Nat.le_of_ble_eq_true rfl) ?_
  refine lv_astore (lv' := [(4, .ref q_3), (3, .int 8), (0, .ref bv), (1, .int 0), (2, .int 8)]) hx hb dJ7_copyOfRangeByte_39247_12 hl (by decide) rfl (fun ls hl => ?_)
  refine lv_aload_n hx hb dJ7_copyOfRangeByte_39247_14 rfl (lv_at hl 2 rfl) ?_
  refine lv_iload_n hx hb dJ7_copyOfRangeByte_39247_15 rfl (lv_at hl 3 rfl) ?_
  refine lv_aload hx hb dJ7_copyOfRangeByte_39247_16 (lv_at hl 0 rfl) ?_
  refine lv_iconst (v := 0) hx hb dJ7_copyOfRangeByte_39247_18 (by decide) ?_
  refine lv_aload_n hx hb dJ7_copyOfRangeByte_39247_19 rfl (lv_at hl 2 rfl) ?_
  refine va_alen hx hb hK hP 0 0 rfl rfl (v := 16) rfl dJ7_copyOfRangeByte_39247_20 ?_
  refine lv_iload_n hx hb dJ7_copyOfRangeByte_39247_21 rfl (lv_at hl 3 rfl) ?_
  refine lv_isub hx hb dJ7_copyOfRangeByte_39247_22 ?_
  refine lv_topi (fun f_5 ef_5 => ?_)
  obtain rfl : f_5 = 16 := ef_5.trans (by decide)
  refine lv_iload_n hx hb dJ7_copyOfRangeByte_39247_23 rfl (lv_at hl 1 rfl) ?_
  refine va_mmin hx hb (hml.trans hl.1.symm) hown (hts (.methodLink RJ7 304 Lib.Math.min.name) (List.mem_of_getElem? (i := 2) rfl)) (hts (.static Lib.Math.min.name) (List.mem_of_getElem? (i := 3) rfl)) (hts (.initialized "java/lang/Math") (List.mem_of_getElem? (i := 4) rfl)) (hts (.code Lib.Math.min.name Lib.Math.min.code 2 (some .int)) (List.mem_of_getElem? (i := 5) rfl)) (Nat.le_of_ble_eq_true rfl) (Nat.le_of_ble_eq_true rfl) (Nat.le_of_ble_eq_true rfl) (Nat.le_of_ble_eq_true rfl) dJ7_copyOfRangeByte_39247_24 ?_
  refine lv_topi (fun f_6 ef_6 => ?_)
  obtain rfl : f_6 = 8 := ef_6.trans (by decide)
  refine va_copyi (ty := .byte) hx hb (hml.trans hl.1.symm) hown (hts (.methodLink RJ7 150 arraycopyName) (List.mem_of_getElem? (i := 6) rfl)) (hts (.native arraycopyName) (List.mem_of_getElem? (i := 7) rfl)) (hts (.static arraycopyName) (List.mem_of_getElem? (i := 8) rfl)) (hts (.initialized "java/lang/System") (List.mem_of_getElem? (i := 9) rfl)) hK hP hD hS 0 1 0 1 rfl rfl rfl rfl rfl (sp := 0) (dp := 0) (n := 8) (by decide) (by decide) (by decide) (by decide) (by decide) (fun i _ => hfb _) (Nat.le_of_ble_eq_true rfl) (Nat.le_of_ble_eq_true rfl) dJ7_copyOfRangeByte_39247_27 (fun H locs hP hD hS => ?_)
  have hP : va_P (dC, dI) vwCl [(bv, .inl (kB, 16, .inl fb)), (q_3, .inl (k_4, 8, .inl (va_cpy fb (fun _ => 0) (0 : Int32).toNatClampNeg (0 : Int32).toNatClampNeg (8 : Int32).toNatClampNeg)))] H := hP
  have hD : va_D A [(bv, .inl (kB, 16, .inl fb)), (q_3, .inl (k_4, 8, .inl (va_cpy fb (fun _ => 0) (0 : Int32).toNatClampNeg (0 : Int32).toNatClampNeg (8 : Int32).toNatClampNeg)))] := hD
  have ha_7 : sb_Fit (va_cpy fb (fun _ => 0) (0 : Int32).toNatClampNeg (0 : Int32).toNatClampNeg (8 : Int32).toNatClampNeg) := sb_fitC hfb sb_fit0
  generalize (va_cpy fb (fun _ => 0) (0 : Int32).toNatClampNeg (0 : Int32).toNatClampNeg (8 : Int32).toNatClampNeg) = a_7 at hP hD ha_7
  refine lv_aload hx hb dJ7_copyOfRangeByte_39247_30 (lv_at hl 0 rfl) ?_
  have hP9 := hP.sub (ws' := [(bv, .inl (kB, 16, .inl fb)), (q_3, .inl (k_4, 8, .inl a_7))]) [0, 1] rfl
  have hD9 := hD.sub (ws' := [(bv, .inl (kB, 16, .inl fb)), (q_3, .inl (k_4, 8, .inl a_7))]) [0, 1] (by decide) rfl
  have hK9 := hK.sub (tys' := [(kB, .byte), (k_4, .byte)]) [0, 1] rfl
  exact W.aret (v := .ref q_3) hx hb hr (Or.inr ⟨_, rfl⟩) (Or.inr ⟨_, rfl⟩) (fun t ht hW => ⟨⟨(), _, rfl, trivial, k_4, a_7, by rw [ht]; exact hP9, va_K.moved hW.alike hK9, hD9⟩, hS.F ht⟩) hS.2.2 dJ7_copyOfRangeByte_39247_32

set_option maxHeartbeats 4000000 in
set_option maxRecDepth 100000 in
theorem c_Arr_cor8 (l : Launch) (dC : Nat → ClassId) (dI : Nat → Nat → Nat) (bv : Nat) (kB : ClassId) (fb : Nat → Int32) (sz : Nat) (hfb : sb_Fit fb) : Met l yJ7_copyOfRange_39247 wsJ7_copyOfRange_39247 ({ frames := 2, cells := 1, slots := 8, locals := 104 }) (va_Pc [.ref bv, .int 0, .int 8] (PQ dC dI sz [(bv, .inl (kB, 16, .inl fb))] [(kB, .byte)])) (va_Qr (fun _ : Unit => True) (fun _ ra t => ∃ (kN : ClassId) (fz : Nat → Int32), va_P (dC, dI) vwCl [(bv, .inl (kB, 16, .inl fb)), (ra, .inl (kN, 8, .inl fz))] t.heap ∧ va_K (dC, dI) vwCl [(kB, .byte), (kN, .byte)] t ∧ va_D (va_A [(bv, .inl (kB, 16, .inl fb))] sz) [(bv, .inl (kB, 16, .inl fb)), (ra, .inl (kN, 8, .inl fz))]) (va_A [(bv, .inl (kB, 16, .inl fb))] sz)) 1 8 (va_A [(bv, .inl (kB, 16, .inl fb))] sz) := by
  refine Met.ofW (cc := cJ7_copyOfRange_39247) (maxL := 3) (ret := (some (.array .byte))) (by decide) rfl ?_
  intro p e s m args below meth c s₁ B hml hv
  obtain ⟨rfl, hsz, hP, hK, hD0, hF⟩ := hv
  have hx := B.exec
  have hb := B.bytes
  have hr := B.returns
  have hts := atoms_spec (ws := wsJ7_copyOfRange_39247) B.pre
  have hown : s.vm.findClass RJ7 = some m.cls := findClass_of_methodNamed B.named
  have hlocks := B.notSynchronized
  subst hsz
  have hD := hD0.self (sz := s.heap.size)
  generalize hAe : va_A [(bv, .inl (kB, 16, .inl fb))] s.heap.size = A at hD ⊢
  have hA : ∀ q : Nat, s.heap.size ≤ q → A q := fun q h => by rw [← hAe]; exact Or.inr h
  have hS : va_S A s.heap s.heap [] := va_S.rf
  have hl := lv_entry ([.ref bv, .int 0, .int 8]) (n := 3) (Nat.le_of_ble_eq_true rfl)
  rw [lg_entry_eq]
  generalize (lg_sl ([.ref bv, .int 0, .int 8]) ++ List.replicate (3 - (lg_sl ([.ref bv, .int 0, .int 8])).length) Slot.unset).toArray = ls at hl ⊢
  have hl : lv_has ls 3 [(0, .ref bv), (1, .int 0), (2, .int 8)] := hl
  refine lv_iload_n hx hb dJ7_copyOfRange_39247_0 rfl (lv_at hl 1 rfl) ?_
  refine lv_if_ne (tgt := 10) hx hb dJ7_copyOfRange_39247_1 (by decide) (fun c_1 => absurd (by decide) c_1) (fun _ => ?_)
  refine lv_iload_n hx hb dJ7_copyOfRange_39247_4 rfl (lv_at hl 2 rfl) ?_
  refine lv_aload_n hx hb dJ7_copyOfRange_39247_5 rfl (lv_at hl 0 rfl) ?_
  refine va_alen hx hb hK hP 0 0 rfl rfl (v := 16) rfl dJ7_copyOfRange_39247_6 ?_
  refine lv_icmp_eq (tgt := 17) hx hb dJ7_copyOfRange_39247_7 (by decide) (fun c_2 => absurd c_2 (by decide)) (fun _ => ?_)
  refine lv_aload_n hx hb dJ7_copyOfRange_39247_10 rfl (lv_at hl 0 rfl) ?_
  refine lv_iload_n hx hb dJ7_copyOfRange_39247_11 rfl (lv_at hl 1 rfl) ?_
  refine lv_iload_n hx hb dJ7_copyOfRange_39247_12 rfl (lv_at hl 2 rfl) ?_
  have hPc := hP.sub (ws' := [(bv, .inl (kB, 16, .inl fb))]) [0] rfl
  have hDc := hD.sub (ws' := [(bv, .inl (kB, 16, .inl fb))]) [0] (by decide) rfl
  have hKc := hK.sub (tys' := [(kB, .byte)]) [0] rfl
  have hFc := va_free (wc := [(bv, .inl (kB, 16, .inl fb))]) hD hS hA [0] rfl
  refine va_callr (va_runS (As := [.ref bv, .int 0, .int 8]) (rest := []) ⟨hx, hb, hml, hown, hts⟩ (c_Arr_corb8 l dC dI bv kB fb s.heap.size hfb) (va_cwS 3 hts gJ7_copyOfRange_39247_J7_copyOfRangeByte_39247 rfl rfl rfl (by decide +kernel) ⟨Nat.le_of_ble_eq_true rfl, Nat.le_of_ble_eq_true rfl⟩) ⟨PQ_blind, PQ_pre hPc hKc hDc hF⟩ rfl rfl hl.1 rfl (lv_room (Nat.le_of_ble_eq_true rfl)) dJ7_copyOfRange_39247_13 ⟨Nat.le_of_ble_eq_true rfl, Nat.le_of_ble_eq_true rfl⟩) hS (fun q _ h => hFc q h) hFc (fun u r_3 t H1 locs ht hvm hw hB hz1 hk1 hS => ?_)
  obtain ⟨kN_4, fz_5, hP1, hK1, hD1⟩ := hB
  rw [ht] at hP1
  have hK1 := va_K.moved hvm.symm hK1
  obtain ⟨hP, hD⟩ := va_join (wr := []) (w1 := [(bv, .inl (kB, 16, .inl fb)), (r_3, .inl (kN_4, 8, .inl fz_5))]) hP hD [0] [] rfl rfl (by decide) (by decide) hk1 hFc hP1 hD1
  have hK := hK.app hK1
  generalize H1 = H at hP hS ⊢
  have hP : va_P (dC, dI) vwCl [(bv, .inl (kB, 16, .inl fb)), (r_3, .inl (kN_4, 8, .inl fz_5))] H := hP
  have hD : va_D A [(bv, .inl (kB, 16, .inl fb)), (r_3, .inl (kN_4, 8, .inl fz_5))] := hD
  have hK : va_K (dC, dI) vwCl [(kB, .byte), (kB, .byte), (kN_4, .byte)] s := hK
  refine W.widen (k := 1) (n := 8) (Nat.le_of_ble_eq_true rfl) (Nat.le_of_ble_eq_true rfl) ?_
  have hP9 := hP.sub (ws' := [(bv, .inl (kB, 16, .inl fb)), (r_3, .inl (kN_4, 8, .inl fz_5))]) [0, 1] rfl
  have hD9 := hD.sub (ws' := [(bv, .inl (kB, 16, .inl fb)), (r_3, .inl (kN_4, 8, .inl fz_5))]) [0, 1] (by decide) rfl
  have hK9 := hK.sub (tys' := [(kB, .byte), (kN_4, .byte)]) [0, 2] rfl
  exact W.aret (v := .ref r_3) hx hb hr (Or.inr ⟨_, rfl⟩) (Or.inr ⟨_, rfl⟩) (fun t ht hW => ⟨⟨(), _, rfl, trivial, kN_4, fz_5, by rw [ht]; exact hP9, va_K.moved hW.alike hK9, hD9⟩, hS.F ht⟩) hS.2.2 dJ7_copyOfRange_39247_16

set_option maxHeartbeats 4000000 in
set_option maxRecDepth 100000 in
theorem c_Str_initV8 (l : Launch) (dC : Nat → ClassId) (dI : Nat → Nat → Nat) (d : Nat) (tc : Nat) (ad : Nat → Nat) (zs : Nat) (y : Nat) (bv : Nat) (kB : ClassId) (fb : Nat → Int32) (sz : Nat) (hfb : sb_Fit fb) : Met l yJ0_init_db425 wsJ0_init_db425 ({ frames := 3, cells := 1, slots := 8, locals := 126 }) (va_Pc [.ref zs, .ref y, .null] (PZ dC dI d tc ad sz [(zs, .inr (0, [.null, .int 0, .int 0, .int 0])), (y, .inr (1, [.ref bv, .int 0, .int 0, .int 8])), (bv, .inl (kB, 16, .inl fb))] [(kB, .byte)])) (va_Qv (fun _ : Unit => True) (fun _ t => ∃ (g2 : Nat), va_P (dC, dI) vwCl [(zs, .inr (0, [.ref g2, .int 0, .int 0, .int 0]))] t.heap ∧ va_K (dC, dI) vwCl [] t ∧ va_D (va_A [(zs, .inr (0, [.null, .int 0, .int 0, .int 0])), (y, .inr (1, [.ref bv, .int 0, .int 0, .int 8])), (bv, .inl (kB, 16, .inl fb))] sz) [(zs, .inr (0, [.ref g2, .int 0, .int 0, .int 0]))]) (va_A [(zs, .inr (0, [.null, .int 0, .int 0, .int 0])), (y, .inr (1, [.ref bv, .int 0, .int 0, .int 8])), (bv, .inl (kB, 16, .inl fb))] sz)) 1 8 (va_A [(zs, .inr (0, [.null, .int 0, .int 0, .int 0])), (y, .inr (1, [.ref bv, .int 0, .int 0, .int 8])), (bv, .inl (kB, 16, .inl fb))] sz) := by
  refine Met.ofW (cc := cJ0_init_db425) (maxL := 5) (ret := none) (by decide) rfl ?_
  intro p e s m args below meth c s₁ B hml hv
  obtain ⟨rfl, hsz, hP, hK, hD0, hF, hZ⟩ := hv
  have hx := B.exec
  have hb := B.bytes
  have hr := B.returns
  have hts := atoms_spec (ws := wsJ0_init_db425) B.pre
  have hown : s.vm.findClass RJ0 = some m.cls := findClass_of_methodNamed B.named
  have hlocks := B.notSynchronized
  have hin : meth.name = "<init>" := (name_of_methodNamed B.named B.method).1
  subst hsz
  have hD := hD0.self (sz := s.heap.size)
  generalize hAe : va_A [(zs, .inr (0, [.null, .int 0, .int 0, .int 0])), (y, .inr (1, [.ref bv, .int 0, .int 0, .int 8])), (bv, .inl (kB, 16, .inl fb))] s.heap.size = A at hD hZ ⊢
  have hA : ∀ q : Nat, s.heap.size ≤ q → A q := fun q h => by rw [← hAe]; exact Or.inr h
  have hS : va_S A s.heap s.heap [] := va_S.rf
  have hl := lv_entry ([.ref zs, .ref y, .null]) (n := 5) (Nat.le_of_ble_eq_true rfl)
  rw [lg_entry_eq]
  generalize (lg_sl ([.ref zs, .ref y, .null]) ++ List.replicate (5 - (lg_sl ([.ref zs, .ref y, .null])).length) Slot.unset).toArray = ls at hl ⊢
  have hl : lv_has ls 5 [(0, .ref zs), (1, .ref y), (2, .null)] := hl
  refine lv_aload_n hx hb dJ0_init_db425_0 rfl (lv_at hl 0 rfl) ?_
  refine W.objInit hx hb hown (hts (.methodLink RJ0 1 objectInit) (List.mem_of_getElem? (i := 1) rfl)) (hts (.instanceMethod objectInit) (List.mem_of_getElem? (i := 2) rfl)) (hts _ (List.mem_of_getElem? (i := 3) rfl)) rfl (by rw [hml]; exact hl.1) rfl dJ0_init_db425_1 (Nat.le_of_ble_eq_true rfl) (Nat.le_of_ble_eq_true rfl) ?_
  refine W.eq (g2 := F0 m 4 ls []) rfl ?_
  refine lv_aload_n hx hb dJ0_init_db425_4 rfl (lv_at hl 1 rfl) ?_
  refine va_csq (va_Run.run (va_runU (As := []) (rest := []) ⟨hx, hb, hml, hown, hts⟩ (c_SB_getValue l dC dI y bv 8) (va_cwU 0 hts gJ0_init_db425_J5_getValue_6d5f1_u552J4 rfl rfl rfl rfl (by decide +kernel) ⟨Nat.le_of_ble_eq_true rfl, Nat.le_of_ble_eq_true rfl⟩) ⟨PS_blind, va_recv hK hP (ci := 1) (q0 := 1) rfl rfl, PS_pre (hP.sub (ws' := [(y, .inr (1, [.ref bv, .int 0, .int 0, .int 8]))]) [1] rfl) (hK.sub (tys' := []) [] rfl) hF⟩ rfl rfl hl.1 rfl (lv_room (Nat.le_of_ble_eq_true rfl)) dJ0_init_db425_5 ⟨Nat.le_of_ble_eq_true rfl, Nat.le_of_ble_eq_true rfl⟩)) (fun r_1 hr_1 => ?_)
  subst hr_1
  refine W.eq (g2 := F0 m 8 ls [.ref bv]) rfl ?_
  refine lv_astore_n (lv' := [(3, .ref bv), (0, .ref zs), (1, .ref y), (2, .null)]) hx hb dJ0_init_db425_8 rfl hl (by decide) rfl (fun ls hl => ?_)
  refine lv_aload_n hx hb dJ0_init_db425_9 rfl (lv_at hl 2 rfl) ?_
  refine vp_callSi (va_Run.run (va_runU (As := []) (rest := []) ⟨hx, hb, hml, hown, hts⟩ (c_SB_length l dC dI y bv 8) (va_cwO 0 hts gJ0_init_db425_J4_length_8abf5_u549J4 rfl rfl rfl (List.mem_of_getElem? (i := 25) rfl : (Cond.code yJ5_length_8abf5 cJ5_length_8abf5 1 (some .int)) ∈ wsJ0_init_db425) (by decide +kernel) ⟨Nat.le_of_ble_eq_true rfl, Nat.le_of_ble_eq_true rfl⟩) ⟨PS_blind, va_recv hK hP (ci := 1) (q0 := 1) rfl rfl, PS_pre (hP.sub (ws' := [(y, .inr (1, [.ref bv, .int 0, .int 0, .int 8]))]) [1] rfl) (hK.sub (tys' := []) [] rfl) hF⟩ rfl rfl hl.1 rfl (lv_room (Nat.le_of_ble_eq_true rfl)) dJ0_init_db425_10 ⟨Nat.le_of_ble_eq_true rfl, Nat.le_of_ble_eq_true rfl⟩)) (fun r_2 hr_2 => ?_)
  subst hr_2
  refine lv_istore (lv' := [(4, .int 8), (3, .ref bv), (0, .ref zs), (1, .ref y), (2, .null)]) hx hb dJ0_init_db425_13 hl (by decide) rfl (fun ls hl => ?_)
  refine lv_aload_n hx hb dJ0_init_db425_15 rfl (lv_at hl 3 rfl) ?_
  refine vp_callSi (va_Run.run (va_runU (As := []) (rest := []) ⟨hx, hb, hml, hown, hts⟩ (c_SB_isLatin1 l dC dI d tc ad y bv 8) (va_cwU 0 hts gJ0_init_db425_J5_isLatin1_aae02_u1047J4 rfl rfl rfl rfl (by decide +kernel) ⟨Nat.le_of_ble_eq_true rfl, Nat.le_of_ble_eq_true rfl⟩) ⟨PY_blind, va_recv hK hP (ci := 1) (q0 := 1) rfl rfl, PY_pre (hP.sub (ws' := [(y, .inr (1, [.ref bv, .int 0, .int 0, .int 8]))]) [1] rfl) (hK.sub (tys' := []) [] rfl) hF hZ hS⟩ rfl rfl hl.1 rfl (lv_room (Nat.le_of_ble_eq_true rfl)) dJ0_init_db425_16 ⟨Nat.le_of_ble_eq_true rfl, Nat.le_of_ble_eq_true rfl⟩)) (fun r_3 hr_3 => ?_)
  subst hr_3
  refine lv_if_eq (tgt := 41) hx hb dJ0_init_db425_19 (by decide) (fun c_4 => absurd c_4 (by decide)) (fun _ => ?_)
  refine lv_aload_n hx hb dJ0_init_db425_22 rfl (lv_at hl 2 rfl) ?_
  refine lv_iconst (v := 0) hx hb dJ0_init_db425_23 (by decide) ?_
  refine va_putF (D := (dC, dI)) (ci := 0) (v := .int 0) (ty := .byte) (C := RJ0) (T := TJ0) (N := 4) hx hb hts (fun _ h9 => List.mem_cons_of_mem _ (List.mem_append_left _ (List.mem_append_right _ (h9)))) tyJ0 tyJ0_ok nmJ0 hown hK hP hD hS 0 rfl rfl 1 (by decide) (hts (.fieldLink RJ0 15 "java/lang/String" "coder" "B") (List.mem_of_getElem? (i := 4) rfl)) (fun _ h9 => h9) rfl hin rfl (by decide +kernel) (by decide) (by decide) (Nat.le_of_ble_eq_true rfl) dJ0_init_db425_24 (fun H locs hP hD hS => ?_)
  have hP : va_P (dC, dI) vwCl [(zs, .inr (0, [.null, .int 0, .int 0, .int 0])), (y, .inr (1, [.ref bv, .int 0, .int 0, .int 8])), (bv, .inl (kB, 16, .inl fb))] H := hP
  have hD : va_D A [(zs, .inr (0, [.null, .int 0, .int 0, .int 0])), (y, .inr (1, [.ref bv, .int 0, .int 0, .int 8])), (bv, .inl (kB, 16, .inl fb))] := hD
  refine lv_aload_n hx hb dJ0_init_db425_27 rfl (lv_at hl 2 rfl) ?_
  refine lv_aload_n hx hb dJ0_init_db425_28 rfl (lv_at hl 1 rfl) ?_
  refine lv_iconst (v := 0) hx hb dJ0_init_db425_29 (by decide) ?_
  refine lv_iload hx hb dJ0_init_db425_30 (lv_at hl 0 rfl) ?_
  have hPc := hP.sub (ws' := [(bv, .inl (kB, 16, .inl fb))]) [2] rfl
  have hDc := hD.sub (ws' := [(bv, .inl (kB, 16, .inl fb))]) [2] (by decide) rfl
  have hKc := hK.sub (tys' := [(kB, .byte)]) [0] rfl
  have hFc := va_free (wc := [(bv, .inl (kB, 16, .inl fb))]) hD hS hA [2] rfl
  refine va_callr (va_runS (As := [.ref bv, .int 0, .int 8]) (rest := [.ref zs]) ⟨hx, hb, hml, hown, hts⟩ (c_Arr_cor8 l dC dI bv kB fb H.size hfb) (va_cwS 3 hts gJ0_init_db425_J7_copyOfRange_39247 rfl rfl rfl (by decide +kernel) ⟨Nat.le_of_ble_eq_true rfl, Nat.le_of_ble_eq_true rfl⟩) ⟨PQ_blind, PQ_pre hPc hKc hDc hF⟩ rfl rfl hl.1 rfl (lv_room (Nat.le_of_ble_eq_true rfl)) dJ0_init_db425_32 ⟨Nat.le_of_ble_eq_true rfl, Nat.le_of_ble_eq_true rfl⟩) hS (fun q _ h => hFc q h) hFc (fun u r_5 t H1 locs ht hvm hw hB hz1 hk1 hS => ?_)
  obtain ⟨kN_6, fz_7, hP1, hK1, hD1⟩ := hB
  rw [ht] at hP1
  have hK1 := va_K.moved hvm.symm hK1
  obtain ⟨hP, hD⟩ := va_join (wr := [(zs, .inr (0, [.null, .int 0, .int 0, .int 0])), (y, .inr (1, [.ref bv, .int 0, .int 0, .int 8]))]) (w1 := [(bv, .inl (kB, 16, .inl fb)), (r_5, .inl (kN_6, 8, .inl fz_7))]) hP hD [2] [0, 1] rfl rfl (by decide) (by decide) hk1 hFc hP1 hD1
  have hK := hK.app hK1
  generalize H1 = H at hP hS ⊢
  have hP : va_P (dC, dI) vwCl [(zs, .inr (0, [.null, .int 0, .int 0, .int 0])), (y, .inr (1, [.ref bv, .int 0, .int 0, .int 8])), (bv, .inl (kB, 16, .inl fb)), (r_5, .inl (kN_6, 8, .inl fz_7))] H := hP
  have hD : va_D A [(zs, .inr (0, [.null, .int 0, .int 0, .int 0])), (y, .inr (1, [.ref bv, .int 0, .int 0, .int 8])), (bv, .inl (kB, 16, .inl fb)), (r_5, .inl (kN_6, 8, .inl fz_7))] := hD
  have hK : va_K (dC, dI) vwCl [(kB, .byte), (kB, .byte), (kN_6, .byte)] s := hK
  refine W.widen (k := 1) (n := 8) (Nat.le_of_ble_eq_true rfl) (Nat.le_of_ble_eq_true rfl) ?_
  refine va_putF (D := (dC, dI)) (ci := 0) (v := .ref r_5) (ty := .array .byte) (C := RJ0) (T := TJ0) (N := 4) hx hb hts (fun _ h9 => List.mem_cons_of_mem _ (List.mem_append_left _ (List.mem_append_right _ (h9)))) tyJ0 tyJ0_ok nmJ0 hown hK hP hD hS 0 rfl rfl 0 (by decide) (hts (.fieldLink RJ0 9 "java/lang/String" "value" "[B") (List.mem_of_getElem? (i := 5) rfl)) (fun _ h9 => h9) rfl hin rfl (by decide +kernel) rfl rfl (Nat.le_of_ble_eq_true rfl) dJ0_init_db425_35 (fun H locs hP hD hS => ?_)
  have hP : va_P (dC, dI) vwCl [(zs, .inr (0, [.ref r_5, .int 0, .int 0, .int 0])), (y, .inr (1, [.ref bv, .int 0, .int 0, .int 8])), (bv, .inl (kB, 16, .inl fb)), (r_5, .inl (kN_6, 8, .inl fz_7))] H := hP
  have hD : va_D A [(zs, .inr (0, [.ref r_5, .int 0, .int 0, .int 0])), (y, .inr (1, [.ref bv, .int 0, .int 0, .int 8])), (bv, .inl (kB, 16, .inl fb)), (r_5, .inl (kN_6, 8, .inl fz_7))] := hD
  refine lv_goto (tgt := 97) hx hb dJ0_init_db425_38 (by decide) ?_
  have hP9 := hP.sub (ws' := [(zs, .inr (0, [.ref r_5, .int 0, .int 0, .int 0]))]) [0] rfl
  have hD9 := hD.sub (ws' := [(zs, .inr (0, [.ref r_5, .int 0, .int 0, .int 0]))]) [0] (by decide) rfl
  have hK9 := hK.sub (tys' := []) [] rfl
  exact W.vret hx hb hr (fun t ht hW => ⟨⟨(), rfl, trivial, r_5, by rw [ht]; exact hP9, va_K.moved hW.alike hK9, hD9⟩, hS.F ht⟩) hS.2.2 dJ0_init_db425_97

set_option maxHeartbeats 4000000 in
set_option maxRecDepth 100000 in
theorem c_Str_init8 (l : Launch) (dC : Nat → ClassId) (dI : Nat → Nat → Nat) (d : Nat) (tc : Nat) (ad : Nat → Nat) (zs : Nat) (y : Nat) (bv : Nat) (kB : ClassId) (fb : Nat → Int32) (sz : Nat) (hfb : sb_Fit fb) : Met l yJ0_init_81219 wsJ0_init_81219 ({ frames := 4, cells := 1, slots := 8, locals := 150 }) (va_Pc [.ref zs, .ref y] (PZ dC dI d tc ad sz [(zs, .inr (0, [.null, .int 0, .int 0, .int 0])), (y, .inr (1, [.ref bv, .int 0, .int 0, .int 8])), (bv, .inl (kB, 16, .inl fb))] [(kB, .byte)])) (va_Qv (fun _ : Unit => True) (fun _ t => ∃ (g2 : Nat), va_P (dC, dI) vwCl [(zs, .inr (0, [.ref g2, .int 0, .int 0, .int 0]))] t.heap ∧ va_K (dC, dI) vwCl [] t ∧ va_D (va_A [(zs, .inr (0, [.null, .int 0, .int 0, .int 0])), (y, .inr (1, [.ref bv, .int 0, .int 0, .int 8])), (bv, .inl (kB, 16, .inl fb))] sz) [(zs, .inr (0, [.ref g2, .int 0, .int 0, .int 0]))]) (va_A [(zs, .inr (0, [.null, .int 0, .int 0, .int 0])), (y, .inr (1, [.ref bv, .int 0, .int 0, .int 8])), (bv, .inl (kB, 16, .inl fb))] sz)) 1 8 (va_A [(zs, .inr (0, [.null, .int 0, .int 0, .int 0])), (y, .inr (1, [.ref bv, .int 0, .int 0, .int 8])), (bv, .inl (kB, 16, .inl fb))] sz) := by
  refine Met.ofW (cc := cJ0_init_81219) (maxL := 2) (ret := none) (by decide) rfl ?_
  intro p e s m args below meth c s₁ B hml hv
  obtain ⟨rfl, hsz, hP, hK, hD0, hF, hZ⟩ := hv
  have hx := B.exec
  have hb := B.bytes
  have hr := B.returns
  have hts := atoms_spec (ws := wsJ0_init_81219) B.pre
  have hown : s.vm.findClass RJ0 = some m.cls := findClass_of_methodNamed B.named
  have hlocks := B.notSynchronized
  have hin : meth.name = "<init>" := (name_of_methodNamed B.named B.method).1
  subst hsz
  have hD := hD0.self (sz := s.heap.size)
  generalize hAe : va_A [(zs, .inr (0, [.null, .int 0, .int 0, .int 0])), (y, .inr (1, [.ref bv, .int 0, .int 0, .int 8])), (bv, .inl (kB, 16, .inl fb))] s.heap.size = A at hD hZ ⊢
  have hA : ∀ q : Nat, s.heap.size ≤ q → A q := fun q h => by rw [← hAe]; exact Or.inr h
  have hS : va_S A s.heap s.heap [] := va_S.rf
  have hl := lv_entry ([.ref zs, .ref y]) (n := 2) (Nat.le_of_ble_eq_true rfl)
  rw [lg_entry_eq]
  generalize (lg_sl ([.ref zs, .ref y]) ++ List.replicate (2 - (lg_sl ([.ref zs, .ref y])).length) Slot.unset).toArray = ls at hl ⊢
  have hl : lv_has ls 2 [(0, .ref zs), (1, .ref y)] := hl
  refine lv_aload_n hx hb dJ0_init_81219_0 rfl (lv_at hl 0 rfl) ?_
  refine lv_aload_n hx hb dJ0_init_81219_1 rfl (lv_at hl 1 rfl) ?_
  refine lv_null hx hb dJ0_init_81219_2 ?_
  have hPc := hP.sub (ws' := [(zs, .inr (0, [.null, .int 0, .int 0, .int 0])), (y, .inr (1, [.ref bv, .int 0, .int 0, .int 8])), (bv, .inl (kB, 16, .inl fb))]) [0, 1, 2] rfl
  have hDc := hD.sub (ws' := [(zs, .inr (0, [.null, .int 0, .int 0, .int 0])), (y, .inr (1, [.ref bv, .int 0, .int 0, .int 8])), (bv, .inl (kB, 16, .inl fb))]) [0, 1, 2] (by decide) rfl
  have hKc := hK.sub (tys' := [(kB, .byte)]) [0] rfl
  have hFc := va_free (wc := [(zs, .inr (0, [.null, .int 0, .int 0, .int 0])), (y, .inr (1, [.ref bv, .int 0, .int 0, .int 8])), (bv, .inl (kB, 16, .inl fb))]) hD hS hA [0, 1, 2] rfl
  refine va_callv (va_runI (As := [.ref y, .null]) (rest := []) ⟨hx, hb, hml, hown, hts⟩ (c_Str_initV8 l dC dI d tc ad zs y bv kB fb s.heap.size hfb) (cwI 2 hts gJ0_init_81219_J0_init_db425 rfl rfl rfl (hts (.initialized RJ0) (List.mem_of_getElem? (i := 3) rfl)) (hts (.methodLink RJ0 489 yJ0_init_db425) (List.mem_of_getElem? (i := 1) rfl)) (hts (.instanceMethod yJ0_init_db425) (List.mem_of_getElem? (i := 2) rfl)) rfl (by decide +kernel) ⟨Nat.le_of_ble_eq_true rfl, Nat.le_of_ble_eq_true rfl⟩) ⟨PZ_blind, PZ_pre hPc hKc hDc hF hZ hS hFc⟩ rfl rfl hl.1 rfl (lv_room (Nat.le_of_ble_eq_true rfl)) dJ0_init_81219_3 ⟨Nat.le_of_ble_eq_true rfl, Nat.le_of_ble_eq_true rfl⟩) hS (fun q _ h => hFc q h) hFc (fun u t H1 locs ht hvm hw hB hz1 hk1 hS => ?_)
  obtain ⟨g2_2, hP1, hK1, hD1⟩ := hB
  rw [ht] at hP1
  have hK1 := va_K.moved hvm.symm hK1
  obtain ⟨hP, hD⟩ := va_join (wr := []) (w1 := [(zs, .inr (0, [.ref g2_2, .int 0, .int 0, .int 0]))]) hP hD [0, 1, 2] [] rfl rfl (by decide) (by decide) hk1 hFc hP1 hD1
  have hK := hK.app hK1
  generalize H1 = H at hP hS ⊢
  have hP : va_P (dC, dI) vwCl [(zs, .inr (0, [.ref g2_2, .int 0, .int 0, .int 0]))] H := hP
  have hD : va_D A [(zs, .inr (0, [.ref g2_2, .int 0, .int 0, .int 0]))] := hD
  have hK : va_K (dC, dI) vwCl [(kB, .byte)] s := hK
  refine W.widen (k := 1) (n := 8) (Nat.le_of_ble_eq_true rfl) (Nat.le_of_ble_eq_true rfl) ?_
  have hP9 := hP.sub (ws' := [(zs, .inr (0, [.ref g2_2, .int 0, .int 0, .int 0]))]) [0] rfl
  have hD9 := hD.sub (ws' := [(zs, .inr (0, [.ref g2_2, .int 0, .int 0, .int 0]))]) [0] (by decide) rfl
  have hK9 := hK.sub (tys' := []) [] rfl
  exact W.vret hx hb hr (fun t ht hW => ⟨⟨(), rfl, trivial, g2_2, by rw [ht]; exact hP9, va_K.moved hW.alike hK9, hD9⟩, hS.F ht⟩) hS.2.2 dJ0_init_81219_6

set_option maxHeartbeats 4000000 in
set_option maxRecDepth 100000 in
theorem c_SB_toString8 (l : Launch) (dC : Nat → ClassId) (dI : Nat → Nat → Nat) (d : Nat) (tc : Nat) (ad : Nat → Nat) (y : Nat) (bv : Nat) (kB : ClassId) (fb : Nat → Int32) (sz : Nat) (hfb : sb_Fit fb) : Met l yJ4_toString_0e30d wsJ4_toString_0e30d ({ frames := 5, cells := 2, slots := 12, locals := 171 }) (va_Pc [.ref y] (PZ dC dI d tc ad sz [(y, .inr (1, [.ref bv, .int 0, .int 0, .int 8])), (bv, .inl (kB, 16, .inl fb))] [(kB, .byte)])) (va_Qr (fun _ : Unit => True) (fun _ ra t => ∃ (g2 : Nat), va_P (dC, dI) vwCl [(ra, .inr (0, [.ref g2, .int 0, .int 0, .int 0]))] t.heap ∧ va_K (dC, dI) vwCl [] t ∧ va_D (va_A [(y, .inr (1, [.ref bv, .int 0, .int 0, .int 8])), (bv, .inl (kB, 16, .inl fb))] sz) [(ra, .inr (0, [.ref g2, .int 0, .int 0, .int 0]))]) (va_A [(y, .inr (1, [.ref bv, .int 0, .int 0, .int 8])), (bv, .inl (kB, 16, .inl fb))] sz)) 2 12 (va_A [(y, .inr (1, [.ref bv, .int 0, .int 0, .int 8])), (bv, .inl (kB, 16, .inl fb))] sz) := by
  refine Met.ofW (cc := cJ4_toString_0e30d) (maxL := 1) (ret := (some (.object "java/lang/String"))) (by decide) rfl ?_
  intro p e s m args below meth c s₁ B hml hv
  obtain ⟨rfl, hsz, hP, hK, hD0, hF, hZ⟩ := hv
  have hx := B.exec
  have hb := B.bytes
  have hr := B.returns
  have hts := atoms_spec (ws := wsJ4_toString_0e30d) B.pre
  have hown : s.vm.findClass RJ4 = some m.cls := findClass_of_methodNamed B.named
  have hlocks := B.notSynchronized
  subst hsz
  have hD := hD0.self (sz := s.heap.size)
  generalize hAe : va_A [(y, .inr (1, [.ref bv, .int 0, .int 0, .int 8])), (bv, .inl (kB, 16, .inl fb))] s.heap.size = A at hD hZ ⊢
  have hA : ∀ q : Nat, s.heap.size ≤ q → A q := fun q h => by rw [← hAe]; exact Or.inr h
  have hS : va_S A s.heap s.heap [] := va_S.rf
  have hl := lv_entry ([.ref y]) (n := 1) (Nat.le_of_ble_eq_true rfl)
  rw [lg_entry_eq]
  generalize (lg_sl ([.ref y]) ++ List.replicate (1 - (lg_sl ([.ref y])).length) Slot.unset).toArray = ls at hl ⊢
  have hl : lv_has ls 1 [(0, .ref y)] := hl
  refine va_new (ci := 0) (fs := [.null, .int 0, .int 0, .int 0]) (C := RJ0) (T := TJ0) (N := 4) hx hb hts (fun _ h9 => List.mem_cons_of_mem _ (List.mem_append_left _ (List.mem_append_right _ (h9)))) tyJ0 tyJ0_ok hown (hts (.classLink RJ4 18 RJ0) (List.mem_of_getElem? (i := 1) rfl)) (hts (.instantiable RJ0 4) (List.mem_of_getElem? (i := 2) rfl)) (hts (.initialized RJ0) (List.mem_of_getElem? (i := 3) rfl)) hK hP hD hS hA rfl dfJ0 (Nat.le_of_ble_eq_true rfl) (Nat.le_of_ble_eq_true rfl) dJ4_toString_0e30d_0 (fun q_1 H hP hD hS => ?_)
  have hP : va_P (dC, dI) vwCl [(y, .inr (1, [.ref bv, .int 0, .int 0, .int 8])), (bv, .inl (kB, 16, .inl fb)), (q_1, .inr (0, [.null, .int 0, .int 0, .int 0]))] H := hP
  have hD : va_D A [(y, .inr (1, [.ref bv, .int 0, .int 0, .int 8])), (bv, .inl (kB, 16, .inl fb)), (q_1, .inr (0, [.null, .int 0, .int 0, .int 0]))] := hD
  refine W.widen (k := 1) (n := 4) (Nat.le_of_ble_eq_true rfl) (Nat.le_of_ble_eq_true rfl) ?_
  refine lv_dup hx hb dJ4_toString_0e30d_3 rfl ?_
  refine lv_aload_n hx hb dJ4_toString_0e30d_4 rfl (lv_at hl 0 rfl) ?_
  have hPc := hP.sub (ws' := [(q_1, .inr (0, [.null, .int 0, .int 0, .int 0])), (y, .inr (1, [.ref bv, .int 0, .int 0, .int 8])), (bv, .inl (kB, 16, .inl fb))]) [2, 0, 1] rfl
  have hDc := hD.sub (ws' := [(q_1, .inr (0, [.null, .int 0, .int 0, .int 0])), (y, .inr (1, [.ref bv, .int 0, .int 0, .int 8])), (bv, .inl (kB, 16, .inl fb))]) [2, 0, 1] (by decide) rfl
  have hKc := hK.sub (tys' := [(kB, .byte)]) [0] rfl
  have hFc := va_free (wc := [(q_1, .inr (0, [.null, .int 0, .int 0, .int 0])), (y, .inr (1, [.ref bv, .int 0, .int 0, .int 8])), (bv, .inl (kB, 16, .inl fb))]) hD hS hA [2, 0, 1] rfl
  refine va_callv (va_runI (As := [.ref y]) (rest := [.ref q_1]) ⟨hx, hb, hml, hown, hts⟩ (c_Str_init8 l dC dI d tc ad q_1 y bv kB fb H.size hfb) (cwI 1 hts gJ4_toString_0e30d_J0_init_81219 rfl rfl rfl (hts (.initialized RJ0) (List.mem_of_getElem? (i := 3) rfl)) (hts (.methodLink RJ4 137 yJ0_init_81219) (List.mem_of_getElem? (i := 4) rfl)) (hts (.instanceMethod yJ0_init_81219) (List.mem_of_getElem? (i := 5) rfl)) rfl (by decide +kernel) ⟨Nat.le_of_ble_eq_true rfl, Nat.le_of_ble_eq_true rfl⟩) ⟨PZ_blind, PZ_pre hPc hKc hDc hF hZ hS hFc⟩ rfl rfl hl.1 rfl (lv_room (Nat.le_of_ble_eq_true rfl)) dJ4_toString_0e30d_5 ⟨Nat.le_of_ble_eq_true rfl, Nat.le_of_ble_eq_true rfl⟩) hS (fun q _ h => hFc q h) hFc (fun u t H1 locs ht hvm hw hB hz1 hk1 hS => ?_)
  obtain ⟨g2_3, hP1, hK1, hD1⟩ := hB
  rw [ht] at hP1
  have hK1 := va_K.moved hvm.symm hK1
  obtain ⟨hP, hD⟩ := va_join (wr := []) (w1 := [(q_1, .inr (0, [.ref g2_3, .int 0, .int 0, .int 0]))]) hP hD [2, 0, 1] [] rfl rfl (by decide) (by decide) hk1 hFc hP1 hD1
  have hK := hK.app hK1
  generalize H1 = H at hP hS ⊢
  have hP : va_P (dC, dI) vwCl [(q_1, .inr (0, [.ref g2_3, .int 0, .int 0, .int 0]))] H := hP
  have hD : va_D A [(q_1, .inr (0, [.ref g2_3, .int 0, .int 0, .int 0]))] := hD
  have hK : va_K (dC, dI) vwCl [(kB, .byte)] s := hK
  refine W.widen (k := 2) (n := 12) (Nat.le_of_ble_eq_true rfl) (Nat.le_of_ble_eq_true rfl) ?_
  have hP9 := hP.sub (ws' := [(q_1, .inr (0, [.ref g2_3, .int 0, .int 0, .int 0]))]) [0] rfl
  have hD9 := hD.sub (ws' := [(q_1, .inr (0, [.ref g2_3, .int 0, .int 0, .int 0]))]) [0] (by decide) rfl
  have hK9 := hK.sub (tys' := []) [] rfl
  exact W.aret (v := .ref q_1) hx hb hr (Or.inl ⟨_, rfl⟩) (Or.inr ⟨_, rfl⟩) (fun t ht hW => ⟨⟨(), _, rfl, trivial, g2_3, by rw [ht]; exact hP9, va_K.moved hW.alike hK9, hD9⟩, hS.F ht⟩) hS.2.2 dJ4_toString_0e30d_8
