theorem dX0_init_0 : decode cX0_init 0 = .ok (.aload_n 0, 1) := by decide +kernel
theorem dX0_init_1 : decode cX0_init 1 = .ok (.invokespecial 3, 3) := by decide +kernel
theorem dX0_init_4 : decode cX0_init 4 = .ok (.aload_n 0, 1) := by decide +kernel
theorem dX0_init_5 : decode cX0_init 5 = .ok (.aconst_null, 1) := by decide +kernel
theorem dX0_init_6 : decode cX0_init 6 = .ok (.putfield 9, 3) := by decide +kernel
theorem dX0_init_9 : decode cX0_init 9 = .ok (.aload_n 0, 1) := by decide +kernel
theorem dX0_init_10 : decode cX0_init 10 = .ok (.iconst (-1), 1) := by decide +kernel
theorem dX0_init_11 : decode cX0_init 11 = .ok (.putfield 15, 3) := by decide +kernel
theorem dX0_init_14 : decode cX0_init 14 = .ok (.aload_n 0, 1) := by decide +kernel
theorem dX0_init_15 : decode cX0_init 15 = .ok (.iconst (-1), 1) := by decide +kernel
theorem dX0_init_16 : decode cX0_init 16 = .ok (.putfield 19, 3) := by decide +kernel
theorem dX0_init_19 : decode cX0_init 19 = .ok (.aload_n 0, 1) := by decide +kernel
theorem dX0_init_20 : decode cX0_init 20 = .ok (.iconst 0, 1) := by decide +kernel
theorem dX0_init_21 : decode cX0_init 21 = .ok (.putfield 22, 3) := by decide +kernel
theorem dX0_init_24 : decode cX0_init 24 = .ok (.aload_n 0, 1) := by decide +kernel
theorem dX0_init_25 : decode cX0_init 25 = .ok (.iconst 0, 1) := by decide +kernel
theorem dX0_init_26 : decode cX0_init 26 = .ok (.putfield 26, 3) := by decide +kernel
theorem dX0_init_29 : decode cX0_init 29 = .ok (.aload_n 0, 1) := by decide +kernel
theorem dX0_init_30 : decode cX0_init 30 = .ok (.bipush 8, 2) := by decide +kernel
theorem dX0_init_32 : decode cX0_init 32 = .ok (.newarray .int, 2) := by decide +kernel
theorem dX0_init_34 : decode cX0_init 34 = .ok (.putfield 29, 3) := by decide +kernel
theorem dX0_init_37 : decode cX0_init 37 = .ok (.aload_n 0, 1) := by decide +kernel
theorem dX0_init_38 : decode cX0_init 38 = .ok (.iconst 3, 1) := by decide +kernel
theorem dX0_init_39 : decode cX0_init 39 = .ok (.newarray .int, 2) := by decide +kernel
theorem dX0_init_41 : decode cX0_init 41 = .ok (.putfield 33, 3) := by decide +kernel
theorem dX0_init_44 : decode cX0_init 44 = .ok (.aload_n 0, 1) := by decide +kernel
theorem dX0_init_45 : decode cX0_init 45 = .ok (.iconst 3, 1) := by decide +kernel
theorem dX0_init_46 : decode cX0_init 46 = .ok (.newarray .int, 2) := by decide +kernel
theorem dX0_init_48 : decode cX0_init 48 = .ok (.putfield 36, 3) := by decide +kernel
theorem dX0_init_51 : decode cX0_init 51 = .ok (.aload_n 0, 1) := by decide +kernel
theorem dX0_init_52 : decode cX0_init 52 = .ok (.iconst 0, 1) := by decide +kernel
theorem dX0_init_53 : decode cX0_init 53 = .ok (.putfield 39, 3) := by decide +kernel
theorem dX0_init_56 : decode cX0_init 56 = .ok (.aload_n 0, 1) := by decide +kernel
theorem dX0_init_57 : decode cX0_init 57 = .ok (.iload_n 1, 1) := by decide +kernel
theorem dX0_init_58 : decode cX0_init 58 = .ok (.putfield 42, 3) := by decide +kernel
theorem dX0_init_61 : decode cX0_init 61 = .ok (.return_, 1) := by decide +kernel
theorem dX2_init_0 : decode cX2_init 0 = .ok (.aload_n 0, 1) := by decide +kernel
theorem dX2_init_1 : decode cX2_init 1 = .ok (.invokespecial 3, 3) := by decide +kernel
theorem dX2_init_4 : decode cX2_init 4 = .ok (.aload_n 0, 1) := by decide +kernel
theorem dX2_init_5 : decode cX2_init 5 = .ok (.iconst 1, 1) := by decide +kernel
theorem dX2_init_6 : decode cX2_init 6 = .ok (.putfield 9, 3) := by decide +kernel
theorem dX2_init_9 : decode cX2_init 9 = .ok (.aload_n 0, 1) := by decide +kernel
theorem dX2_init_10 : decode cX2_init 10 = .ok (.bipush 8, 2) := by decide +kernel
theorem dX2_init_12 : decode cX2_init 12 = .ok (.newarray .int, 2) := by decide +kernel
theorem dX2_init_14 : decode cX2_init 14 = .ok (.putfield 15, 3) := by decide +kernel
theorem dX2_init_17 : decode cX2_init 17 = .ok (.aload_n 0, 1) := by decide +kernel
theorem dX2_init_18 : decode cX2_init 18 = .ok (.bipush 8, 2) := by decide +kernel
theorem dX2_init_20 : decode cX2_init 20 = .ok (.newarray .int, 2) := by decide +kernel
theorem dX2_init_22 : decode cX2_init 22 = .ok (.putfield 19, 3) := by decide +kernel
theorem dX2_init_25 : decode cX2_init 25 = .ok (.aload_n 0, 1) := by decide +kernel
theorem dX2_init_26 : decode cX2_init 26 = .ok (.bipush 6, 2) := by decide +kernel
theorem dX2_init_28 : decode cX2_init 28 = .ok (.newarray .int, 2) := by decide +kernel
theorem dX2_init_30 : decode cX2_init 30 = .ok (.putfield 22, 3) := by decide +kernel
theorem dX2_init_33 : decode cX2_init 33 = .ok (.aload_n 0, 1) := by decide +kernel
theorem dX2_init_34 : decode cX2_init 34 = .ok (.bipush 6, 2) := by decide +kernel
theorem dX2_init_36 : decode cX2_init 36 = .ok (.newarray .int, 2) := by decide +kernel
theorem dX2_init_38 : decode cX2_init 38 = .ok (.putfield 25, 3) := by decide +kernel
theorem dX2_init_41 : decode cX2_init 41 = .ok (.aload_n 0, 1) := by decide +kernel
theorem dX2_init_42 : decode cX2_init 42 = .ok (.iconst 0, 1) := by decide +kernel
theorem dX2_init_43 : decode cX2_init 43 = .ok (.putfield 28, 3) := by decide +kernel
theorem dX2_init_46 : decode cX2_init 46 = .ok (.aload_n 0, 1) := by decide +kernel
theorem dX2_init_47 : decode cX2_init 47 = .ok (.bipush 8, 2) := by decide +kernel
theorem dX2_init_49 : decode cX2_init 49 = .ok (.newarray .long, 2) := by decide +kernel
theorem dX2_init_51 : decode cX2_init 51 = .ok (.putfield 31, 3) := by decide +kernel
theorem dX2_init_54 : decode cX2_init 54 = .ok (.aload_n 0, 1) := by decide +kernel
theorem dX2_init_55 : decode cX2_init 55 = .ok (.iconst 0, 1) := by decide +kernel
theorem dX2_init_56 : decode cX2_init 56 = .ok (.putfield 35, 3) := by decide +kernel
theorem dX2_init_59 : decode cX2_init 59 = .ok (.iconst 0, 1) := by decide +kernel
theorem dX2_init_60 : decode cX2_init 60 = .ok (.istore_n 1, 1) := by decide +kernel
theorem dX2_init_61 : decode cX2_init 61 = .ok (.iload_n 1, 1) := by decide +kernel
theorem dX2_init_62 : decode cX2_init 62 = .ok (.bipush 8, 2) := by decide +kernel
theorem dX2_init_64 : decode cX2_init 64 = .ok (.if_icmp .ge 24, 3) := by decide +kernel
theorem dX2_init_67 : decode cX2_init 67 = .ok (.aload_n 0, 1) := by decide +kernel
theorem dX2_init_68 : decode cX2_init 68 = .ok (.getfield 15, 3) := by decide +kernel
theorem dX2_init_71 : decode cX2_init 71 = .ok (.iload_n 1, 1) := by decide +kernel
theorem dX2_init_72 : decode cX2_init 72 = .ok (.iconst 1, 1) := by decide +kernel
theorem dX2_init_73 : decode cX2_init 73 = .ok (.iastore, 1) := by decide +kernel
theorem dX2_init_74 : decode cX2_init 74 = .ok (.aload_n 0, 1) := by decide +kernel
theorem dX2_init_75 : decode cX2_init 75 = .ok (.getfield 19, 3) := by decide +kernel
theorem dX2_init_78 : decode cX2_init 78 = .ok (.iload_n 1, 1) := by decide +kernel
theorem dX2_init_79 : decode cX2_init 79 = .ok (.bipush 12, 2) := by decide +kernel
theorem dX2_init_81 : decode cX2_init 81 = .ok (.iastore, 1) := by decide +kernel
theorem dX2_init_82 : decode cX2_init 82 = .ok (.iinc 1 1, 3) := by decide +kernel
theorem dX2_init_85 : decode cX2_init 85 = .ok (.goto (-24), 3) := by decide +kernel
theorem dX2_init_88 : decode cX2_init 88 = .ok (.return_, 1) := by decide +kernel
theorem dX2_setMeasure_0 : decode cX2_setMeasure 0 = .ok (.iload_n 1, 1) := by decide +kernel
theorem dX2_setMeasure_1 : decode cX2_setMeasure 1 = .ok (.ifCond .lt 23, 3) := by decide +kernel
theorem dX2_setMeasure_4 : decode cX2_setMeasure 4 = .ok (.iload_n 1, 1) := by decide +kernel
theorem dX2_setMeasure_5 : decode cX2_setMeasure 5 = .ok (.bipush 8, 2) := by decide +kernel
theorem dX2_setMeasure_7 : decode cX2_setMeasure 7 = .ok (.if_icmp .ge 17, 3) := by decide +kernel
theorem dX2_setMeasure_10 : decode cX2_setMeasure 10 = .ok (.aload_n 0, 1) := by decide +kernel
theorem dX2_setMeasure_11 : decode cX2_setMeasure 11 = .ok (.getfield 15, 3) := by decide +kernel
theorem dX2_setMeasure_14 : decode cX2_setMeasure 14 = .ok (.iload_n 1, 1) := by decide +kernel
theorem dX2_setMeasure_15 : decode cX2_setMeasure 15 = .ok (.iload_n 2, 1) := by decide +kernel
theorem dX2_setMeasure_16 : decode cX2_setMeasure 16 = .ok (.iastore, 1) := by decide +kernel
theorem dX2_setMeasure_17 : decode cX2_setMeasure 17 = .ok (.aload_n 0, 1) := by decide +kernel
theorem dX2_setMeasure_18 : decode cX2_setMeasure 18 = .ok (.getfield 19, 3) := by decide +kernel
theorem dX2_setMeasure_21 : decode cX2_setMeasure 21 = .ok (.iload_n 1, 1) := by decide +kernel
theorem dX2_setMeasure_22 : decode cX2_setMeasure 22 = .ok (.iload_n 3, 1) := by decide +kernel
theorem dX2_setMeasure_23 : decode cX2_setMeasure 23 = .ok (.iastore, 1) := by decide +kernel
theorem dX2_setMeasure_24 : decode cX2_setMeasure 24 = .ok (.return_, 1) := by decide +kernel
theorem dX2_addParallel_0 : decode cX2_addParallel 0 = .ok (.aload_n 0, 1) := by decide +kernel
theorem dX2_addParallel_1 : decode cX2_addParallel 1 = .ok (.getfield 28, 3) := by decide +kernel
theorem dX2_addParallel_4 : decode cX2_addParallel 4 = .ok (.ifCond .lt 42, 3) := by decide +kernel
theorem dX2_addParallel_7 : decode cX2_addParallel 7 = .ok (.aload_n 0, 1) := by decide +kernel
theorem dX2_addParallel_8 : decode cX2_addParallel 8 = .ok (.getfield 28, 3) := by decide +kernel
theorem dX2_addParallel_11 : decode cX2_addParallel 11 = .ok (.bipush 6, 2) := by decide +kernel
theorem dX2_addParallel_13 : decode cX2_addParallel 13 = .ok (.if_icmp .ge 33, 3) := by decide +kernel
theorem dX2_addParallel_16 : decode cX2_addParallel 16 = .ok (.aload_n 0, 1) := by decide +kernel
theorem dX2_addParallel_17 : decode cX2_addParallel 17 = .ok (.getfield 22, 3) := by decide +kernel
theorem dX2_addParallel_20 : decode cX2_addParallel 20 = .ok (.aload_n 0, 1) := by decide +kernel
theorem dX2_addParallel_21 : decode cX2_addParallel 21 = .ok (.getfield 28, 3) := by decide +kernel
theorem dX2_addParallel_24 : decode cX2_addParallel 24 = .ok (.iload_n 1, 1) := by decide +kernel
theorem dX2_addParallel_25 : decode cX2_addParallel 25 = .ok (.iastore, 1) := by decide +kernel
theorem dX2_addParallel_26 : decode cX2_addParallel 26 = .ok (.aload_n 0, 1) := by decide +kernel
theorem dX2_addParallel_27 : decode cX2_addParallel 27 = .ok (.getfield 25, 3) := by decide +kernel
theorem dX2_addParallel_30 : decode cX2_addParallel 30 = .ok (.aload_n 0, 1) := by decide +kernel
theorem dX2_addParallel_31 : decode cX2_addParallel 31 = .ok (.getfield 28, 3) := by decide +kernel
theorem dX2_addParallel_34 : decode cX2_addParallel 34 = .ok (.iload_n 2, 1) := by decide +kernel
theorem dX2_addParallel_35 : decode cX2_addParallel 35 = .ok (.iastore, 1) := by decide +kernel
theorem dX2_addParallel_36 : decode cX2_addParallel 36 = .ok (.aload_n 0, 1) := by decide +kernel
theorem dX2_addParallel_37 : decode cX2_addParallel 37 = .ok (.dup, 1) := by decide +kernel
theorem dX2_addParallel_38 : decode cX2_addParallel 38 = .ok (.getfield 28, 3) := by decide +kernel
theorem dX2_addParallel_41 : decode cX2_addParallel 41 = .ok (.iconst 1, 1) := by decide +kernel
theorem dX2_addParallel_42 : decode cX2_addParallel 42 = .ok (.iadd, 1) := by decide +kernel
theorem dX2_addParallel_43 : decode cX2_addParallel 43 = .ok (.putfield 28, 3) := by decide +kernel
theorem dX2_addParallel_46 : decode cX2_addParallel 46 = .ok (.return_, 1) := by decide +kernel
theorem dX2_addBarred_0 : decode cX2_addBarred 0 = .ok (.aload_n 0, 1) := by decide +kernel
theorem dX2_addBarred_1 : decode cX2_addBarred 1 = .ok (.getfield 35, 3) := by decide +kernel
theorem dX2_addBarred_4 : decode cX2_addBarred 4 = .ok (.ifCond .lt 32, 3) := by decide +kernel
theorem dX2_addBarred_7 : decode cX2_addBarred 7 = .ok (.aload_n 0, 1) := by decide +kernel
theorem dX2_addBarred_8 : decode cX2_addBarred 8 = .ok (.getfield 35, 3) := by decide +kernel
theorem dX2_addBarred_11 : decode cX2_addBarred 11 = .ok (.bipush 8, 2) := by decide +kernel
theorem dX2_addBarred_13 : decode cX2_addBarred 13 = .ok (.if_icmp .ge 23, 3) := by decide +kernel
theorem dX2_addBarred_16 : decode cX2_addBarred 16 = .ok (.aload_n 0, 1) := by decide +kernel
theorem dX2_addBarred_17 : decode cX2_addBarred 17 = .ok (.getfield 31, 3) := by decide +kernel
theorem dX2_addBarred_20 : decode cX2_addBarred 20 = .ok (.aload_n 0, 1) := by decide +kernel
theorem dX2_addBarred_21 : decode cX2_addBarred 21 = .ok (.getfield 35, 3) := by decide +kernel
theorem dX2_addBarred_24 : decode cX2_addBarred 24 = .ok (.lload_n 1, 1) := by decide +kernel
theorem dX2_addBarred_25 : decode cX2_addBarred 25 = .ok (.lastore, 1) := by decide +kernel
theorem dX2_addBarred_26 : decode cX2_addBarred 26 = .ok (.aload_n 0, 1) := by decide +kernel
theorem dX2_addBarred_27 : decode cX2_addBarred 27 = .ok (.dup, 1) := by decide +kernel
theorem dX2_addBarred_28 : decode cX2_addBarred 28 = .ok (.getfield 35, 3) := by decide +kernel
theorem dX2_addBarred_31 : decode cX2_addBarred 31 = .ok (.iconst 1, 1) := by decide +kernel
theorem dX2_addBarred_32 : decode cX2_addBarred 32 = .ok (.iadd, 1) := by decide +kernel
theorem dX2_addBarred_33 : decode cX2_addBarred 33 = .ok (.putfield 35, 3) := by decide +kernel
theorem dX2_addBarred_36 : decode cX2_addBarred 36 = .ok (.return_, 1) := by decide +kernel
theorem dX2_isBarred_0 : decode cX2_isBarred 0 = .ok (.iconst 0, 1) := by decide +kernel
theorem dX2_isBarred_1 : decode cX2_isBarred 1 = .ok (.istore_n 3, 1) := by decide +kernel
theorem dX2_isBarred_2 : decode cX2_isBarred 2 = .ok (.iload_n 3, 1) := by decide +kernel
theorem dX2_isBarred_3 : decode cX2_isBarred 3 = .ok (.aload_n 0, 1) := by decide +kernel
theorem dX2_isBarred_4 : decode cX2_isBarred 4 = .ok (.getfield 35, 3) := by decide +kernel
theorem dX2_isBarred_7 : decode cX2_isBarred 7 = .ok (.if_icmp .ge 22, 3) := by decide +kernel
theorem dX2_isBarred_29 : decode cX2_isBarred 29 = .ok (.iconst 0, 1) := by decide +kernel
theorem dX2_isBarred_30 : decode cX2_isBarred 30 = .ok (.ireturn, 1) := by decide +kernel
theorem dX3_init_0 : decode cX3_init 0 = .ok (.aload_n 0, 1) := by decide +kernel
theorem dX3_init_1 : decode cX3_init 1 = .ok (.invokespecial 1, 3) := by decide +kernel
theorem dX3_init_4 : decode cX3_init 4 = .ok (.aload_n 0, 1) := by decide +kernel
theorem dX3_init_5 : decode cX3_init 5 = .ok (.iconst 0, 1) := by decide +kernel
theorem dX3_init_6 : decode cX3_init 6 = .ok (.putfield 7, 3) := by decide +kernel
theorem dX3_init_9 : decode cX3_init 9 = .ok (.aload_n 0, 1) := by decide +kernel
theorem dX3_init_10 : decode cX3_init 10 = .ok (.iload_n 1, 1) := by decide +kernel
theorem dX3_init_11 : decode cX3_init 11 = .ok (.putfield 13, 3) := by decide +kernel
theorem dX3_init_14 : decode cX3_init 14 = .ok (.aload_n 0, 1) := by decide +kernel
theorem dX3_init_15 : decode cX3_init 15 = .ok (.iload_n 2, 1) := by decide +kernel
theorem dX3_init_16 : decode cX3_init 16 = .ok (.putfield 16, 3) := by decide +kernel
theorem dX3_init_19 : decode cX3_init 19 = .ok (.return_, 1) := by decide +kernel
theorem dX4_init_0 : decode cX4_init 0 = .ok (.aload_n 0, 1) := by decide +kernel
theorem dX4_init_1 : decode cX4_init 1 = .ok (.invokespecial 3, 3) := by decide +kernel
theorem dX4_init_4 : decode cX4_init 4 = .ok (.aload_n 0, 1) := by decide +kernel
theorem dX4_init_5 : decode cX4_init 5 = .ok (.sipush 250, 3) := by decide +kernel
theorem dX4_init_8 : decode cX4_init 8 = .ok (.newarray .byte, 2) := by decide +kernel
theorem dX4_init_10 : decode cX4_init 10 = .ok (.putfield 9, 3) := by decide +kernel
theorem dX4_init_13 : decode cX4_init 13 = .ok (.aload_n 0, 1) := by decide +kernel
theorem dX4_init_14 : decode cX4_init 14 = .ok (.iconst 0, 1) := by decide +kernel
theorem dX4_init_15 : decode cX4_init 15 = .ok (.putfield 15, 3) := by decide +kernel
theorem dX4_init_18 : decode cX4_init 18 = .ok (.return_, 1) := by decide +kernel
set_option maxRecDepth 20000 in
theorem ggX5_init_X4_init : GoodIn wsX5_init wsX4_init := goodIn_r _ [29, 30, 2, 3, 31, 32, 33, 60, 61] (by decide +kernel) (by decide +kernel)
set_option maxRecDepth 20000 in
theorem gX5_init_X4_init_n30 : GoodIn wsX5_init (wsX4_init) := ggX5_init_X4_init
set_option maxRecDepth 20000 in
theorem ggX5_init_X2_init : GoodIn wsX5_init wsX2_init := goodIn_r _ [35, 36, 2, 3, 37, 19, 38, 39, 40, 41, 42, 43, 44, 45, 62, 63, 64, 65, 66, 67, 68, 69] (by decide +kernel) (by decide +kernel)
set_option maxRecDepth 20000 in
theorem gX5_init_X2_init_n37 : GoodIn wsX5_init (wsX2_init) := ggX5_init_X2_init
theorem dX5_init_0 : decode cX5_init 0 = .ok (.aload_n 0, 1) := by decide +kernel
theorem dX5_init_1 : decode cX5_init 1 = .ok (.invokespecial 1, 3) := by decide +kernel
theorem dX5_init_4 : decode cX5_init 4 = .ok (.aload_n 0, 1) := by decide +kernel
theorem dX5_init_5 : decode cX5_init 5 = .ok (.bipush 24, 2) := by decide +kernel
theorem dX5_init_7 : decode cX5_init 7 = .ok (.anewarray 9, 3) := by decide +kernel
theorem dX5_init_10 : decode cX5_init 10 = .ok (.putfield 11, 3) := by decide +kernel
theorem dX5_init_13 : decode cX5_init 13 = .ok (.aload_n 0, 1) := by decide +kernel
theorem dX5_init_14 : decode cX5_init 14 = .ok (.iconst 0, 1) := by decide +kernel
theorem dX5_init_15 : decode cX5_init 15 = .ok (.putfield 15, 3) := by decide +kernel
theorem dX5_init_18 : decode cX5_init 18 = .ok (.aload_n 0, 1) := by decide +kernel
theorem dX5_init_19 : decode cX5_init 19 = .ok (.bipush 6, 2) := by decide +kernel
theorem dX5_init_21 : decode cX5_init 21 = .ok (.anewarray 19, 3) := by decide +kernel
theorem dX5_init_24 : decode cX5_init 24 = .ok (.putfield 21, 3) := by decide +kernel
theorem dX5_init_27 : decode cX5_init 27 = .ok (.aload_n 0, 1) := by decide +kernel
theorem dX5_init_28 : decode cX5_init 28 = .ok (.iconst 0, 1) := by decide +kernel
theorem dX5_init_29 : decode cX5_init 29 = .ok (.putfield 25, 3) := by decide +kernel
theorem dX5_init_32 : decode cX5_init 32 = .ok (.aload_n 0, 1) := by decide +kernel
theorem dX5_init_33 : decode cX5_init 33 = .ok (.new 28, 3) := by decide +kernel
theorem dX5_init_36 : decode cX5_init 36 = .ok (.dup, 1) := by decide +kernel
theorem dX5_init_37 : decode cX5_init 37 = .ok (.invokespecial 30, 3) := by decide +kernel
theorem dX5_init_40 : decode cX5_init 40 = .ok (.putfield 31, 3) := by decide +kernel
theorem dX5_init_43 : decode cX5_init 43 = .ok (.aload_n 0, 1) := by decide +kernel
theorem dX5_init_44 : decode cX5_init 44 = .ok (.new 35, 3) := by decide +kernel
theorem dX5_init_47 : decode cX5_init 47 = .ok (.dup, 1) := by decide +kernel
theorem dX5_init_48 : decode cX5_init 48 = .ok (.invokespecial 37, 3) := by decide +kernel
theorem dX5_init_51 : decode cX5_init 51 = .ok (.putfield 38, 3) := by decide +kernel
theorem dX5_init_54 : decode cX5_init 54 = .ok (.aload_n 0, 1) := by decide +kernel
theorem dX5_init_55 : decode cX5_init 55 = .ok (.bipush 10, 2) := by decide +kernel
theorem dX5_init_57 : decode cX5_init 57 = .ok (.putfield 42, 3) := by decide +kernel
theorem dX5_init_60 : decode cX5_init 60 = .ok (.aload_n 0, 1) := by decide +kernel
theorem dX5_init_61 : decode cX5_init 61 = .ok (.iconst 4, 1) := by decide +kernel
theorem dX5_init_62 : decode cX5_init 62 = .ok (.newarray .int, 2) := by decide +kernel
theorem dX5_init_64 : decode cX5_init 64 = .ok (.putfield 45, 3) := by decide +kernel
theorem dX5_init_67 : decode cX5_init 67 = .ok (.aload_n 0, 1) := by decide +kernel
theorem dX5_init_68 : decode cX5_init 68 = .ok (.iconst 0, 1) := by decide +kernel
theorem dX5_init_69 : decode cX5_init 69 = .ok (.putfield 49, 3) := by decide +kernel
theorem dX5_init_72 : decode cX5_init 72 = .ok (.aload_n 0, 1) := by decide +kernel
theorem dX5_init_73 : decode cX5_init 73 = .ok (.iconst 0, 1) := by decide +kernel
theorem dX5_init_74 : decode cX5_init 74 = .ok (.putfield 52, 3) := by decide +kernel
theorem dX5_init_77 : decode cX5_init 77 = .ok (.aload_n 0, 1) := by decide +kernel
theorem dX5_init_78 : decode cX5_init 78 = .ok (.bipush 6, 2) := by decide +kernel
theorem dX5_init_80 : decode cX5_init 80 = .ok (.newarray .int, 2) := by decide +kernel
theorem dX5_init_82 : decode cX5_init 82 = .ok (.putfield 55, 3) := by decide +kernel
theorem dX5_init_85 : decode cX5_init 85 = .ok (.aload_n 0, 1) := by decide +kernel
theorem dX5_init_86 : decode cX5_init 86 = .ok (.bipush 24, 2) := by decide +kernel
theorem dX5_init_88 : decode cX5_init 88 = .ok (.newarray .int, 2) := by decide +kernel
theorem dX5_init_90 : decode cX5_init 90 = .ok (.putfield 58, 3) := by decide +kernel
theorem dX5_init_93 : decode cX5_init 93 = .ok (.aload_n 0, 1) := by decide +kernel
theorem dX5_init_94 : decode cX5_init 94 = .ok (.bipush 24, 2) := by decide +kernel
theorem dX5_init_96 : decode cX5_init 96 = .ok (.newarray .boolean, 2) := by decide +kernel
theorem dX5_init_98 : decode cX5_init 98 = .ok (.putfield 61, 3) := by decide +kernel
theorem dX5_init_101 : decode cX5_init 101 = .ok (.aload_n 0, 1) := by decide +kernel
theorem dX5_init_102 : decode cX5_init 102 = .ok (.bipush 24, 2) := by decide +kernel
theorem dX5_init_104 : decode cX5_init 104 = .ok (.newarray .boolean, 2) := by decide +kernel
theorem dX5_init_106 : decode cX5_init 106 = .ok (.putfield 65, 3) := by decide +kernel
theorem dX5_init_109 : decode cX5_init 109 = .ok (.return_, 1) := by decide +kernel
set_option maxRecDepth 20000 in
theorem ggX5_candidate_X5_isWithin : GoodIn wsX5_candidate wsX5_isWithin := goodIn_r _ [9] (by decide +kernel) (by decide +kernel)
set_option maxRecDepth 20000 in
theorem gX5_candidate_X5_isWithin : GoodIn wsX5_candidate (va_wsS RX5 68 yX5_isWithin wsX5_isWithin) := goodIn_app (goodIn_of _ (by decide +kernel)) ggX5_candidate_X5_isWithin
set_option maxRecDepth 20000 in
theorem ggX5_candidate_X0_init : GoodIn wsX5_candidate wsX0_init := goodIn_r _ [11, 12, 13, 14, 15, 16, 17, 18, 19, 20, 21, 22, 23, 24, 25, 40, 41, 42, 43, 44, 45, 46, 47, 48, 49] (by decide +kernel) (by decide +kernel)
set_option maxRecDepth 20000 in
theorem gX5_candidate_X0_init_n72 : GoodIn wsX5_candidate (wsX0_init) := ggX5_candidate_X0_init
theorem dX5_candidate_0 : decode cX5_candidate 0 = .ok (.iload_n 1, 1) := by decide +kernel
theorem dX5_candidate_1 : decode cX5_candidate 1 = .ok (.iconst 0, 1) := by decide +kernel
theorem dX5_candidate_2 : decode cX5_candidate 2 = .ok (.iconst 3, 1) := by decide +kernel
theorem dX5_candidate_3 : decode cX5_candidate 3 = .ok (.invokestatic 68, 3) := by decide +kernel
theorem dX5_candidate_6 : decode cX5_candidate 6 = .ok (.ifCond .ne 5, 3) := by decide +kernel
theorem dX5_candidate_9 : decode cX5_candidate 9 = .ok (.iconst (-1), 1) := by decide +kernel
theorem dX5_candidate_10 : decode cX5_candidate 10 = .ok (.ireturn, 1) := by decide +kernel
theorem dX5_candidate_11 : decode cX5_candidate 11 = .ok (.aload_n 0, 1) := by decide +kernel
theorem dX5_candidate_12 : decode cX5_candidate 12 = .ok (.getfield 15, 3) := by decide +kernel
theorem dX5_candidate_15 : decode cX5_candidate 15 = .ok (.ifCond .lt 15, 3) := by decide +kernel
theorem dX5_candidate_18 : decode cX5_candidate 18 = .ok (.aload_n 0, 1) := by decide +kernel
theorem dX5_candidate_19 : decode cX5_candidate 19 = .ok (.getfield 15, 3) := by decide +kernel
theorem dX5_candidate_22 : decode cX5_candidate 22 = .ok (.aload_n 0, 1) := by decide +kernel
theorem dX5_candidate_23 : decode cX5_candidate 23 = .ok (.getfield 11, 3) := by decide +kernel
theorem dX5_candidate_26 : decode cX5_candidate 26 = .ok (.arraylength, 1) := by decide +kernel
theorem dX5_candidate_27 : decode cX5_candidate 27 = .ok (.if_icmp .lt 6, 3) := by decide +kernel
theorem dX5_candidate_33 : decode cX5_candidate 33 = .ok (.aload_n 0, 1) := by decide +kernel
theorem dX5_candidate_34 : decode cX5_candidate 34 = .ok (.getfield 11, 3) := by decide +kernel
theorem dX5_candidate_37 : decode cX5_candidate 37 = .ok (.aload_n 0, 1) := by decide +kernel
theorem dX5_candidate_38 : decode cX5_candidate 38 = .ok (.getfield 15, 3) := by decide +kernel
theorem dX5_candidate_41 : decode cX5_candidate 41 = .ok (.new 9, 3) := by decide +kernel
theorem dX5_candidate_44 : decode cX5_candidate 44 = .ok (.dup, 1) := by decide +kernel
theorem dX5_candidate_45 : decode cX5_candidate 45 = .ok (.iload_n 1, 1) := by decide +kernel
theorem dX5_candidate_46 : decode cX5_candidate 46 = .ok (.invokespecial 72, 3) := by decide +kernel
theorem dX5_candidate_49 : decode cX5_candidate 49 = .ok (.aastore, 1) := by decide +kernel
theorem dX5_candidate_50 : decode cX5_candidate 50 = .ok (.aload_n 0, 1) := by decide +kernel
theorem dX5_candidate_51 : decode cX5_candidate 51 = .ok (.dup, 1) := by decide +kernel
theorem dX5_candidate_52 : decode cX5_candidate 52 = .ok (.getfield 15, 3) := by decide +kernel
theorem dX5_candidate_55 : decode cX5_candidate 55 = .ok (.iconst 1, 1) := by decide +kernel
theorem dX5_candidate_56 : decode cX5_candidate 56 = .ok (.iadd, 1) := by decide +kernel
theorem dX5_candidate_57 : decode cX5_candidate 57 = .ok (.putfield 15, 3) := by decide +kernel
theorem dX5_candidate_60 : decode cX5_candidate 60 = .ok (.aload_n 0, 1) := by decide +kernel
theorem dX5_candidate_61 : decode cX5_candidate 61 = .ok (.getfield 15, 3) := by decide +kernel
theorem dX5_candidate_64 : decode cX5_candidate 64 = .ok (.iconst 1, 1) := by decide +kernel
theorem dX5_candidate_65 : decode cX5_candidate 65 = .ok (.isub, 1) := by decide +kernel
theorem dX5_candidate_66 : decode cX5_candidate 66 = .ok (.ireturn, 1) := by decide +kernel
set_option maxRecDepth 20000 in
theorem ggX5_form_X5_isWithin : GoodIn wsX5_form wsX5_isWithin := goodIn_r _ [5] (by decide +kernel) (by decide +kernel)
set_option maxRecDepth 20000 in
theorem gX5_form_X5_isWithin : GoodIn wsX5_form (va_wsS RX5 68 yX5_isWithin wsX5_isWithin) := goodIn_app (goodIn_of _ (by decide +kernel)) ggX5_form_X5_isWithin
theorem dX5_form_0 : decode cX5_form 0 = .ok (.iload_n 1, 1) := by decide +kernel
theorem dX5_form_1 : decode cX5_form 1 = .ok (.iconst 1, 1) := by decide +kernel
theorem dX5_form_2 : decode cX5_form 2 = .ok (.bipush 8, 2) := by decide +kernel
theorem dX5_form_4 : decode cX5_form 4 = .ok (.invokestatic 68, 3) := by decide +kernel
theorem dX5_form_7 : decode cX5_form 7 = .ok (.ifCond .ne 6, 3) := by decide +kernel
theorem dX5_form_10 : decode cX5_form 10 = .ok (.bipush (-2), 2) := by decide +kernel
theorem dX5_form_12 : decode cX5_form 12 = .ok (.ireturn, 1) := by decide +kernel
theorem dX5_form_13 : decode cX5_form 13 = .ok (.aload_n 0, 1) := by decide +kernel
theorem dX5_form_14 : decode cX5_form 14 = .ok (.getfield 38, 3) := by decide +kernel
theorem dX5_form_17 : decode cX5_form 17 = .ok (.getfield 129, 3) := by decide +kernel
theorem dX5_form_20 : decode cX5_form 20 = .ok (.istore_n 2, 1) := by decide +kernel
theorem dX5_form_21 : decode cX5_form 21 = .ok (.aload_n 0, 1) := by decide +kernel
theorem dX5_form_22 : decode cX5_form 22 = .ok (.getfield 38, 3) := by decide +kernel
theorem dX5_form_25 : decode cX5_form 25 = .ok (.iload_n 1, 1) := by decide +kernel
theorem dX5_form_26 : decode cX5_form 26 = .ok (.putfield 129, 3) := by decide +kernel
theorem dX5_form_29 : decode cX5_form 29 = .ok (.iload_n 2, 1) := by decide +kernel
theorem dX5_form_30 : decode cX5_form 30 = .ok (.ireturn, 1) := by decide +kernel
set_option maxRecDepth 20000 in
theorem ggX5_measure_X5_isWithin : GoodIn wsX5_measure wsX5_isWithin := goodIn_r _ [5] (by decide +kernel) (by decide +kernel)
set_option maxRecDepth 20000 in
theorem gX5_measure_X5_isWithin : GoodIn wsX5_measure (va_wsS RX5 68 yX5_isWithin wsX5_isWithin) := goodIn_app (goodIn_of _ (by decide +kernel)) ggX5_measure_X5_isWithin
set_option maxRecDepth 20000 in
theorem ggX5_measure_X2_setMeasure : GoodIn wsX5_measure wsX2_setMeasure := goodIn_r _ [9, 10, 11, 26, 27, 28, 29, 30, 31, 32, 33] (by decide +kernel) (by decide +kernel)
set_option maxRecDepth 20000 in
theorem gX5_measure_X2_setMeasure_n130 : GoodIn wsX5_measure (wsX2_setMeasure) := ggX5_measure_X2_setMeasure
theorem dX5_measure_0 : decode cX5_measure 0 = .ok (.iload_n 1, 1) := by decide +kernel
theorem dX5_measure_1 : decode cX5_measure 1 = .ok (.iconst 0, 1) := by decide +kernel
theorem dX5_measure_2 : decode cX5_measure 2 = .ok (.bipush 7, 2) := by decide +kernel
theorem dX5_measure_4 : decode cX5_measure 4 = .ok (.invokestatic 68, 3) := by decide +kernel
theorem dX5_measure_7 : decode cX5_measure 7 = .ok (.ifCond .ne 5, 3) := by decide +kernel
theorem dX5_measure_10 : decode cX5_measure 10 = .ok (.iconst (-1), 1) := by decide +kernel
theorem dX5_measure_11 : decode cX5_measure 11 = .ok (.ireturn, 1) := by decide +kernel
theorem dX5_measure_12 : decode cX5_measure 12 = .ok (.iload_n 2, 1) := by decide +kernel
theorem dX5_measure_13 : decode cX5_measure 13 = .ok (.iconst 1, 1) := by decide +kernel
theorem dX5_measure_14 : decode cX5_measure 14 = .ok (.bipush 12, 2) := by decide +kernel
theorem dX5_measure_16 : decode cX5_measure 16 = .ok (.invokestatic 68, 3) := by decide +kernel
theorem dX5_measure_19 : decode cX5_measure 19 = .ok (.ifCond .eq 13, 3) := by decide +kernel
theorem dX5_measure_22 : decode cX5_measure 22 = .ok (.iload_n 3, 1) := by decide +kernel
theorem dX5_measure_23 : decode cX5_measure 23 = .ok (.iload_n 2, 1) := by decide +kernel
theorem dX5_measure_24 : decode cX5_measure 24 = .ok (.bipush 12, 2) := by decide +kernel
theorem dX5_measure_26 : decode cX5_measure 26 = .ok (.invokestatic 68, 3) := by decide +kernel
theorem dX5_measure_29 : decode cX5_measure 29 = .ok (.ifCond .ne 6, 3) := by decide +kernel
theorem dX5_measure_32 : decode cX5_measure 32 = .ok (.bipush (-2), 2) := by decide +kernel
theorem dX5_measure_34 : decode cX5_measure 34 = .ok (.ireturn, 1) := by decide +kernel
theorem dX5_measure_35 : decode cX5_measure 35 = .ok (.aload_n 0, 1) := by decide +kernel
theorem dX5_measure_36 : decode cX5_measure 36 = .ok (.getfield 38, 3) := by decide +kernel
theorem dX5_measure_39 : decode cX5_measure 39 = .ok (.iload_n 1, 1) := by decide +kernel
theorem dX5_measure_40 : decode cX5_measure 40 = .ok (.iload_n 2, 1) := by decide +kernel
theorem dX5_measure_41 : decode cX5_measure 41 = .ok (.iload_n 3, 1) := by decide +kernel
theorem dX5_measure_42 : decode cX5_measure 42 = .ok (.invokevirtual 130, 3) := by decide +kernel
theorem dX5_measure_45 : decode cX5_measure 45 = .ok (.iconst 0, 1) := by decide +kernel
theorem dX5_measure_46 : decode cX5_measure 46 = .ok (.ireturn, 1) := by decide +kernel
set_option maxRecDepth 20000 in
theorem ggX5_parallel_X5_isWithin : GoodIn wsX5_parallel wsX5_isWithin := goodIn_r _ [5] (by decide +kernel) (by decide +kernel)
set_option maxRecDepth 20000 in
theorem gX5_parallel_X5_isWithin : GoodIn wsX5_parallel (va_wsS RX5 68 yX5_isWithin wsX5_isWithin) := goodIn_app (goodIn_of _ (by decide +kernel)) ggX5_parallel_X5_isWithin
set_option maxRecDepth 20000 in
theorem ggX5_parallel_X2_addParallel : GoodIn wsX5_parallel wsX2_addParallel := goodIn_r _ [9, 10, 11, 12, 27, 28, 29, 30, 31, 32, 33, 34] (by decide +kernel) (by decide +kernel)
set_option maxRecDepth 20000 in
theorem gX5_parallel_X2_addParallel_n137 : GoodIn wsX5_parallel (wsX2_addParallel) := ggX5_parallel_X2_addParallel
theorem dX5_parallel_0 : decode cX5_parallel 0 = .ok (.iload_n 1, 1) := by decide +kernel
theorem dX5_parallel_1 : decode cX5_parallel 1 = .ok (.iconst 0, 1) := by decide +kernel
theorem dX5_parallel_2 : decode cX5_parallel 2 = .ok (.bipush 7, 2) := by decide +kernel
theorem dX5_parallel_4 : decode cX5_parallel 4 = .ok (.invokestatic 68, 3) := by decide +kernel
theorem dX5_parallel_7 : decode cX5_parallel 7 = .ok (.ifCond .eq 13, 3) := by decide +kernel
theorem dX5_parallel_10 : decode cX5_parallel 10 = .ok (.iload_n 2, 1) := by decide +kernel
theorem dX5_parallel_11 : decode cX5_parallel 11 = .ok (.iconst 0, 1) := by decide +kernel
theorem dX5_parallel_12 : decode cX5_parallel 12 = .ok (.bipush 7, 2) := by decide +kernel
theorem dX5_parallel_14 : decode cX5_parallel 14 = .ok (.invokestatic 68, 3) := by decide +kernel
theorem dX5_parallel_17 : decode cX5_parallel 17 = .ok (.ifCond .ne 5, 3) := by decide +kernel
theorem dX5_parallel_20 : decode cX5_parallel 20 = .ok (.iconst (-1), 1) := by decide +kernel
theorem dX5_parallel_21 : decode cX5_parallel 21 = .ok (.ireturn, 1) := by decide +kernel
theorem dX5_parallel_22 : decode cX5_parallel 22 = .ok (.iload_n 1, 1) := by decide +kernel
theorem dX5_parallel_23 : decode cX5_parallel 23 = .ok (.iload_n 2, 1) := by decide +kernel
theorem dX5_parallel_24 : decode cX5_parallel 24 = .ok (.if_icmp .ne 6, 3) := by decide +kernel
theorem dX5_parallel_27 : decode cX5_parallel 27 = .ok (.bipush (-2), 2) := by decide +kernel
theorem dX5_parallel_29 : decode cX5_parallel 29 = .ok (.ireturn, 1) := by decide +kernel
theorem dX5_parallel_30 : decode cX5_parallel 30 = .ok (.aload_n 0, 1) := by decide +kernel
theorem dX5_parallel_31 : decode cX5_parallel 31 = .ok (.getfield 38, 3) := by decide +kernel
theorem dX5_parallel_34 : decode cX5_parallel 34 = .ok (.getfield 134, 3) := by decide +kernel
theorem dX5_parallel_37 : decode cX5_parallel 37 = .ok (.bipush 6, 2) := by decide +kernel
theorem dX5_parallel_39 : decode cX5_parallel 39 = .ok (.if_icmp .lt 6, 3) := by decide +kernel
theorem dX5_parallel_45 : decode cX5_parallel 45 = .ok (.aload_n 0, 1) := by decide +kernel
theorem dX5_parallel_46 : decode cX5_parallel 46 = .ok (.getfield 38, 3) := by decide +kernel
theorem dX5_parallel_49 : decode cX5_parallel 49 = .ok (.iload_n 1, 1) := by decide +kernel
theorem dX5_parallel_50 : decode cX5_parallel 50 = .ok (.iload_n 2, 1) := by decide +kernel
theorem dX5_parallel_51 : decode cX5_parallel 51 = .ok (.invokevirtual 137, 3) := by decide +kernel
theorem dX5_parallel_54 : decode cX5_parallel 54 = .ok (.aload_n 0, 1) := by decide +kernel
theorem dX5_parallel_55 : decode cX5_parallel 55 = .ok (.getfield 38, 3) := by decide +kernel
theorem dX5_parallel_58 : decode cX5_parallel 58 = .ok (.getfield 134, 3) := by decide +kernel
theorem dX5_parallel_61 : decode cX5_parallel 61 = .ok (.iconst 1, 1) := by decide +kernel
theorem dX5_parallel_62 : decode cX5_parallel 62 = .ok (.isub, 1) := by decide +kernel
theorem dX5_parallel_63 : decode cX5_parallel 63 = .ok (.ireturn, 1) := by decide +kernel
set_option maxRecDepth 20000 in
theorem ggX5_reader_X5_isWithin : GoodIn wsX5_reader wsX5_isWithin := goodIn_r _ [9] (by decide +kernel) (by decide +kernel)
set_option maxRecDepth 20000 in
theorem gX5_reader_X5_isWithin : GoodIn wsX5_reader (va_wsS RX5 68 yX5_isWithin wsX5_isWithin) := goodIn_app (goodIn_of _ (by decide +kernel)) ggX5_reader_X5_isWithin
set_option maxRecDepth 20000 in
theorem ggX5_reader_X3_init : GoodIn wsX5_reader wsX3_init := goodIn_r _ [11, 12, 13, 14, 15, 16, 17, 32, 33, 34] (by decide +kernel) (by decide +kernel)
set_option maxRecDepth 20000 in
theorem gX5_reader_X3_init_n184 : GoodIn wsX5_reader (wsX3_init) := ggX5_reader_X3_init
theorem dX5_reader_0 : decode cX5_reader 0 = .ok (.iload_n 1, 1) := by decide +kernel
theorem dX5_reader_1 : decode cX5_reader 1 = .ok (.iconst 0, 1) := by decide +kernel
theorem dX5_reader_2 : decode cX5_reader 2 = .ok (.iconst 3, 1) := by decide +kernel
theorem dX5_reader_3 : decode cX5_reader 3 = .ok (.invokestatic 68, 3) := by decide +kernel
theorem dX5_reader_6 : decode cX5_reader 6 = .ok (.ifCond .eq 12, 3) := by decide +kernel
theorem dX5_reader_9 : decode cX5_reader 9 = .ok (.iload_n 2, 1) := by decide +kernel
theorem dX5_reader_10 : decode cX5_reader 10 = .ok (.iconst 0, 1) := by decide +kernel
theorem dX5_reader_11 : decode cX5_reader 11 = .ok (.iconst 3, 1) := by decide +kernel
theorem dX5_reader_12 : decode cX5_reader 12 = .ok (.invokestatic 68, 3) := by decide +kernel
theorem dX5_reader_15 : decode cX5_reader 15 = .ok (.ifCond .ne 5, 3) := by decide +kernel
theorem dX5_reader_18 : decode cX5_reader 18 = .ok (.iconst (-1), 1) := by decide +kernel
theorem dX5_reader_19 : decode cX5_reader 19 = .ok (.ireturn, 1) := by decide +kernel
theorem dX5_reader_20 : decode cX5_reader 20 = .ok (.aload_n 0, 1) := by decide +kernel
theorem dX5_reader_21 : decode cX5_reader 21 = .ok (.getfield 25, 3) := by decide +kernel
theorem dX5_reader_24 : decode cX5_reader 24 = .ok (.ifCond .lt 15, 3) := by decide +kernel
theorem dX5_reader_27 : decode cX5_reader 27 = .ok (.aload_n 0, 1) := by decide +kernel
theorem dX5_reader_28 : decode cX5_reader 28 = .ok (.getfield 25, 3) := by decide +kernel
theorem dX5_reader_31 : decode cX5_reader 31 = .ok (.aload_n 0, 1) := by decide +kernel
theorem dX5_reader_32 : decode cX5_reader 32 = .ok (.getfield 21, 3) := by decide +kernel
theorem dX5_reader_35 : decode cX5_reader 35 = .ok (.arraylength, 1) := by decide +kernel
theorem dX5_reader_36 : decode cX5_reader 36 = .ok (.if_icmp .lt 6, 3) := by decide +kernel
theorem dX5_reader_42 : decode cX5_reader 42 = .ok (.aload_n 0, 1) := by decide +kernel
theorem dX5_reader_43 : decode cX5_reader 43 = .ok (.getfield 21, 3) := by decide +kernel
theorem dX5_reader_46 : decode cX5_reader 46 = .ok (.aload_n 0, 1) := by decide +kernel
theorem dX5_reader_47 : decode cX5_reader 47 = .ok (.getfield 25, 3) := by decide +kernel
theorem dX5_reader_50 : decode cX5_reader 50 = .ok (.new 19, 3) := by decide +kernel
theorem dX5_reader_53 : decode cX5_reader 53 = .ok (.dup, 1) := by decide +kernel
theorem dX5_reader_54 : decode cX5_reader 54 = .ok (.iload_n 1, 1) := by decide +kernel
theorem dX5_reader_55 : decode cX5_reader 55 = .ok (.iload_n 2, 1) := by decide +kernel
theorem dX5_reader_56 : decode cX5_reader 56 = .ok (.invokespecial 184, 3) := by decide +kernel
theorem dX5_reader_59 : decode cX5_reader 59 = .ok (.aastore, 1) := by decide +kernel
theorem dX5_reader_60 : decode cX5_reader 60 = .ok (.aload_n 0, 1) := by decide +kernel
theorem dX5_reader_61 : decode cX5_reader 61 = .ok (.dup, 1) := by decide +kernel
theorem dX5_reader_62 : decode cX5_reader 62 = .ok (.getfield 25, 3) := by decide +kernel
theorem dX5_reader_65 : decode cX5_reader 65 = .ok (.iconst 1, 1) := by decide +kernel
theorem dX5_reader_66 : decode cX5_reader 66 = .ok (.iadd, 1) := by decide +kernel
theorem dX5_reader_67 : decode cX5_reader 67 = .ok (.putfield 25, 3) := by decide +kernel
theorem dX5_reader_70 : decode cX5_reader 70 = .ok (.aload_n 0, 1) := by decide +kernel
theorem dX5_reader_71 : decode cX5_reader 71 = .ok (.getfield 25, 3) := by decide +kernel
theorem dX5_reader_74 : decode cX5_reader 74 = .ok (.iconst 1, 1) := by decide +kernel
theorem dX5_reader_75 : decode cX5_reader 75 = .ok (.isub, 1) := by decide +kernel
theorem dX5_reader_76 : decode cX5_reader 76 = .ok (.ireturn, 1) := by decide +kernel
set_option maxRecDepth 20000 in
theorem ggX5_apart_X5_isWithin : GoodIn wsX5_apart wsX5_isWithin := goodIn_r _ [5] (by decide +kernel) (by decide +kernel)
set_option maxRecDepth 20000 in
theorem gX5_apart_X5_isWithin : GoodIn wsX5_apart (va_wsS RX5 68 yX5_isWithin wsX5_isWithin) := goodIn_app (goodIn_of _ (by decide +kernel)) ggX5_apart_X5_isWithin
theorem dX5_apart_0 : decode cX5_apart 0 = .ok (.iload_n 1, 1) := by decide +kernel
theorem dX5_apart_1 : decode cX5_apart 1 = .ok (.iconst 0, 1) := by decide +kernel
theorem dX5_apart_2 : decode cX5_apart 2 = .ok (.bipush 99, 2) := by decide +kernel
theorem dX5_apart_4 : decode cX5_apart 4 = .ok (.invokestatic 68, 3) := by decide +kernel
theorem dX5_apart_7 : decode cX5_apart 7 = .ok (.ifCond .ne 6, 3) := by decide +kernel
theorem dX5_apart_10 : decode cX5_apart 10 = .ok (.bipush (-2), 2) := by decide +kernel
theorem dX5_apart_12 : decode cX5_apart 12 = .ok (.ireturn, 1) := by decide +kernel
theorem dX5_apart_13 : decode cX5_apart 13 = .ok (.aload_n 0, 1) := by decide +kernel
theorem dX5_apart_14 : decode cX5_apart 14 = .ok (.getfield 42, 3) := by decide +kernel
theorem dX5_apart_17 : decode cX5_apart 17 = .ok (.istore_n 2, 1) := by decide +kernel
theorem dX5_apart_18 : decode cX5_apart 18 = .ok (.aload_n 0, 1) := by decide +kernel
theorem dX5_apart_19 : decode cX5_apart 19 = .ok (.iload_n 1, 1) := by decide +kernel
theorem dX5_apart_20 : decode cX5_apart 20 = .ok (.putfield 42, 3) := by decide +kernel
theorem dX5_apart_23 : decode cX5_apart 23 = .ok (.iload_n 2, 1) := by decide +kernel
theorem dX5_apart_24 : decode cX5_apart 24 = .ok (.ireturn, 1) := by decide +kernel
set_option maxRecDepth 20000 in
theorem ggX5_quota_X5_isWithin : GoodIn wsX5_quota wsX5_isWithin := goodIn_r _ [5] (by decide +kernel) (by decide +kernel)
set_option maxRecDepth 20000 in
theorem gX5_quota_X5_isWithin : GoodIn wsX5_quota (va_wsS RX5 68 yX5_isWithin wsX5_isWithin) := goodIn_app (goodIn_of _ (by decide +kernel)) ggX5_quota_X5_isWithin
theorem dX5_quota_0 : decode cX5_quota 0 = .ok (.iload_n 1, 1) := by decide +kernel
theorem dX5_quota_1 : decode cX5_quota 1 = .ok (.iconst 0, 1) := by decide +kernel
theorem dX5_quota_2 : decode cX5_quota 2 = .ok (.iconst 3, 1) := by decide +kernel
theorem dX5_quota_3 : decode cX5_quota 3 = .ok (.invokestatic 68, 3) := by decide +kernel
theorem dX5_quota_6 : decode cX5_quota 6 = .ok (.ifCond .ne 5, 3) := by decide +kernel
theorem dX5_quota_9 : decode cX5_quota 9 = .ok (.iconst (-1), 1) := by decide +kernel
theorem dX5_quota_10 : decode cX5_quota 10 = .ok (.ireturn, 1) := by decide +kernel
theorem dX5_quota_11 : decode cX5_quota 11 = .ok (.iload_n 2, 1) := by decide +kernel
theorem dX5_quota_12 : decode cX5_quota 12 = .ok (.iconst 0, 1) := by decide +kernel
theorem dX5_quota_13 : decode cX5_quota 13 = .ok (.bipush 24, 2) := by decide +kernel
theorem dX5_quota_15 : decode cX5_quota 15 = .ok (.invokestatic 68, 3) := by decide +kernel
theorem dX5_quota_18 : decode cX5_quota 18 = .ok (.ifCond .ne 6, 3) := by decide +kernel
theorem dX5_quota_21 : decode cX5_quota 21 = .ok (.bipush (-2), 2) := by decide +kernel
theorem dX5_quota_23 : decode cX5_quota 23 = .ok (.ireturn, 1) := by decide +kernel
theorem dX5_quota_24 : decode cX5_quota 24 = .ok (.aload_n 0, 1) := by decide +kernel
theorem dX5_quota_25 : decode cX5_quota 25 = .ok (.getfield 45, 3) := by decide +kernel
theorem dX5_quota_28 : decode cX5_quota 28 = .ok (.iload_n 1, 1) := by decide +kernel
theorem dX5_quota_29 : decode cX5_quota 29 = .ok (.iaload, 1) := by decide +kernel
theorem dX5_quota_30 : decode cX5_quota 30 = .ok (.istore_n 3, 1) := by decide +kernel
theorem dX5_quota_31 : decode cX5_quota 31 = .ok (.aload_n 0, 1) := by decide +kernel
theorem dX5_quota_32 : decode cX5_quota 32 = .ok (.getfield 45, 3) := by decide +kernel
theorem dX5_quota_35 : decode cX5_quota 35 = .ok (.iload_n 1, 1) := by decide +kernel
theorem dX5_quota_36 : decode cX5_quota 36 = .ok (.iload_n 2, 1) := by decide +kernel
theorem dX5_quota_37 : decode cX5_quota 37 = .ok (.iastore, 1) := by decide +kernel
theorem dX5_quota_38 : decode cX5_quota 38 = .ok (.iload_n 3, 1) := by decide +kernel
theorem dX5_quota_39 : decode cX5_quota 39 = .ok (.ireturn, 1) := by decide +kernel
set_option maxRecDepth 20000 in
theorem ggX5_rule_X5_isWithin : GoodIn wsX5_rule wsX5_isWithin := goodIn_r _ [6] (by decide +kernel) (by decide +kernel)
set_option maxRecDepth 20000 in
theorem gX5_rule_X5_isWithin : GoodIn wsX5_rule (va_wsS RX5 68 yX5_isWithin wsX5_isWithin) := goodIn_app (goodIn_of _ (by decide +kernel)) ggX5_rule_X5_isWithin
theorem dX5_rule_0 : decode cX5_rule 0 = .ok (.iload_n 1, 1) := by decide +kernel
theorem dX5_rule_1 : decode cX5_rule 1 = .ok (.iconst 0, 1) := by decide +kernel
theorem dX5_rule_2 : decode cX5_rule 2 = .ok (.iconst 2, 1) := by decide +kernel
theorem dX5_rule_3 : decode cX5_rule 3 = .ok (.invokestatic 68, 3) := by decide +kernel
theorem dX5_rule_6 : decode cX5_rule 6 = .ok (.ifCond .eq 12, 3) := by decide +kernel
theorem dX5_rule_9 : decode cX5_rule 9 = .ok (.iload_n 2, 1) := by decide +kernel
theorem dX5_rule_10 : decode cX5_rule 10 = .ok (.iconst 0, 1) := by decide +kernel
theorem dX5_rule_11 : decode cX5_rule 11 = .ok (.iconst 1, 1) := by decide +kernel
theorem dX5_rule_12 : decode cX5_rule 12 = .ok (.invokestatic 68, 3) := by decide +kernel
theorem dX5_rule_15 : decode cX5_rule 15 = .ok (.ifCond .ne 6, 3) := by decide +kernel
theorem dX5_rule_18 : decode cX5_rule 18 = .ok (.bipush (-2), 2) := by decide +kernel
theorem dX5_rule_20 : decode cX5_rule 20 = .ok (.ireturn, 1) := by decide +kernel
theorem dX5_rule_21 : decode cX5_rule 21 = .ok (.aload_n 0, 1) := by decide +kernel
theorem dX5_rule_22 : decode cX5_rule 22 = .ok (.iload_n 1, 1) := by decide +kernel
theorem dX5_rule_23 : decode cX5_rule 23 = .ok (.putfield 49, 3) := by decide +kernel
theorem dX5_rule_26 : decode cX5_rule 26 = .ok (.aload_n 0, 1) := by decide +kernel
theorem dX5_rule_27 : decode cX5_rule 27 = .ok (.iload_n 2, 1) := by decide +kernel
theorem dX5_rule_28 : decode cX5_rule 28 = .ok (.putfield 52, 3) := by decide +kernel
theorem dX5_rule_31 : decode cX5_rule 31 = .ok (.iconst 0, 1) := by decide +kernel
theorem dX5_rule_32 : decode cX5_rule 32 = .ok (.ireturn, 1) := by decide +kernel
theorem dfX0 : ∀ j, j < 10 → defaultValue (tyX0 j) = vp_V [.int 0, .null, .int 0, .int 0, .int 0, .int 0, .null, .null, .null, .int 0] j := by
  intro j hj
  rcases (show j = 0 ∨ j = 1 ∨ j = 2 ∨ j = 3 ∨ j = 4 ∨ j = 5 ∨ j = 6 ∨ j = 7 ∨ j = 8 ∨ j = 9 by omega) with rfl | rfl | rfl | rfl | rfl | rfl | rfl | rfl | rfl | rfl <;> rfl
theorem dfX2 : ∀ j, j < 8 → defaultValue (tyX2 j) = vp_V [.int 0, .null, .null, .null, .null, .int 0, .null, .int 0] j := by
  intro j hj
  rcases (show j = 0 ∨ j = 1 ∨ j = 2 ∨ j = 3 ∨ j = 4 ∨ j = 5 ∨ j = 6 ∨ j = 7 by omega) with rfl | rfl | rfl | rfl | rfl | rfl | rfl | rfl <;> rfl
theorem dfX3 : ∀ j, j < 3 → defaultValue (tyX3 j) = vp_V [.int 0, .int 0, .int 0] j := by
  intro j hj
  rcases (show j = 0 ∨ j = 1 ∨ j = 2 by omega) with rfl | rfl | rfl <;> rfl
theorem dfX4 : ∀ j, j < 2 → defaultValue (tyX4 j) = vp_V [.null, .int 0] j := by
  intro j hj
  rcases (show j = 0 ∨ j = 1 by omega) with rfl | rfl <;> rfl
set_option maxHeartbeats 4000000 in
set_option maxRecDepth 100000 in
theorem c_X0_init (l : Launch) (dC : Nat → ClassId) (dI : Nat → Nat → Nat) (y : Nat) (v : Int32) (sz : Nat) : Met l yX0_init wsX0_init ({ frames := 1, cells := 3, slots := 14, locals := 12 }) (va_Pc [.ref y, .int v] (PQ dC dI sz [(y, .inr (5, [.int 0, .null, .int 0, .int 0, .int 0, .int 0, .null, .null, .null, .int 0]))] [])) (va_Qv (fun _ : Unit => True) (fun _ t => ∃ (g1 : Nat) (g2 : Nat) (g3 : Nat), va_P (dC, dI) vwCl [(y, .inr (5, [.int v, .null, .int (-1), .int (-1), .int 0, .int 0, .ref g1, .ref g2, .ref g3, .int 0]))] t.heap ∧ va_K (dC, dI) vwCl [] t ∧ va_D (va_A [(y, .inr (5, [.int 0, .null, .int 0, .int 0, .int 0, .int 0, .null, .null, .null, .int 0]))] sz) [(y, .inr (5, [.int v, .null, .int (-1), .int (-1), .int 0, .int 0, .ref g1, .ref g2, .ref g3, .int 0]))]) (va_A [(y, .inr (5, [.int 0, .null, .int 0, .int 0, .int 0, .int 0, .null, .null, .null, .int 0]))] sz)) 3 14 (va_A [(y, .inr (5, [.int 0, .null, .int 0, .int 0, .int 0, .int 0, .null, .null, .null, .int 0]))] sz) := by
  refine Met.ofW (cc := cX0_init) (maxL := 2) (ret := none) (by decide) rfl ?_
  intro p e s m args below meth c s₁ B hml hv
  obtain ⟨rfl, hsz, hP, hK, hD0, hF⟩ := hv
  have hx := B.exec
  have hb := B.bytes
  have hr := B.returns
  have hts := atoms_spec (ws := wsX0_init) B.pre
  have hown : s.vm.findClass RX0 = some m.cls := findClass_of_methodNamed B.named
  have hlocks := B.notSynchronized
  have hin : meth.name = "<init>" := (name_of_methodNamed B.named B.method).1
  subst hsz
  have hD := hD0.self (sz := s.heap.size)
  generalize hAe : va_A [(y, .inr (5, [.int 0, .null, .int 0, .int 0, .int 0, .int 0, .null, .null, .null, .int 0]))] s.heap.size = A at hD ⊢
  have hA : ∀ q : Nat, s.heap.size ≤ q → A q := fun q h => by rw [← hAe]; exact Or.inr h
  have hS : va_S A s.heap s.heap [] := va_S.rf
  have hl := lv_entry ([.ref y, .int v]) (n := 2) (Nat.le_of_ble_eq_true rfl)
  rw [lg_entry_eq]
  generalize (lg_sl ([.ref y, .int v]) ++ List.replicate (2 - (lg_sl ([.ref y, .int v])).length) Slot.unset).toArray = ls at hl ⊢
  have hl : lv_has ls 2 [(0, .ref y), (1, .int v)] := hl
  refine lv_aload_n hx hb dX0_init_0 rfl (lv_at hl 0 rfl) ?_
  refine W.objInit hx hb hown (hts (.methodLink RX0 3 objectInit) (List.mem_of_getElem? (i := 1) rfl)) (hts (.instanceMethod objectInit) (List.mem_of_getElem? (i := 2) rfl)) (hts _ (List.mem_of_getElem? (i := 3) rfl)) rfl (by rw [hml]; exact hl.1) rfl dX0_init_1 (Nat.le_of_ble_eq_true rfl) (Nat.le_of_ble_eq_true rfl) ?_
  refine W.eq (g2 := F0 m 4 ls []) rfl ?_
  refine lv_aload_n hx hb dX0_init_4 rfl (lv_at hl 0 rfl) ?_
  refine lv_null hx hb dX0_init_5 ?_
  refine va_put (D := (dC, dI)) (ci := 5) (v := .null) (ty := .object "ExamHalls$Essay") (C := RX0) (T := TX0) (N := 10) hx hb hts (fun _ h9 => List.mem_cons_of_mem _ (List.mem_append_right _ (h9))) tyX0 tyX0_ok nmX0 hown hK hP hD hS 0 rfl rfl 1 (by decide) (hts (.fieldLink RX0 9 "ExamHalls$Candidate" "text" "LExamHalls$Essay;") (List.mem_of_getElem? (i := 4) rfl)) (fun _ h9 => h9) rfl (by decide +kernel) rfl rfl (Nat.le_of_ble_eq_true rfl) dX0_init_6 (fun H locs hP hD hS => ?_)
  have hP : va_P (dC, dI) vwCl [(y, .inr (5, [.int 0, .null, .int 0, .int 0, .int 0, .int 0, .null, .null, .null, .int 0]))] H := hP
  have hD : va_D A [(y, .inr (5, [.int 0, .null, .int 0, .int 0, .int 0, .int 0, .null, .null, .null, .int 0]))] := hD
  refine lv_aload_n hx hb dX0_init_9 rfl (lv_at hl 0 rfl) ?_
  refine lv_iconst (v := (-1)) hx hb dX0_init_10 (by decide) ?_
  refine va_put (D := (dC, dI)) (ci := 5) (v := .int (-1)) (ty := .int) (C := RX0) (T := TX0) (N := 10) hx hb hts (fun _ h9 => List.mem_cons_of_mem _ (List.mem_append_right _ (h9))) tyX0 tyX0_ok nmX0 hown hK hP hD hS 0 rfl rfl 2 (by decide) (hts (.fieldLink RX0 15 "ExamHalls$Candidate" "number" "I") (List.mem_of_getElem? (i := 5) rfl)) (fun _ h9 => h9) rfl (by decide +kernel) rfl rfl (Nat.le_of_ble_eq_true rfl) dX0_init_11 (fun H locs hP hD hS => ?_)
  have hP : va_P (dC, dI) vwCl [(y, .inr (5, [.int 0, .null, .int (-1), .int 0, .int 0, .int 0, .null, .null, .null, .int 0]))] H := hP
  have hD : va_D A [(y, .inr (5, [.int 0, .null, .int (-1), .int 0, .int 0, .int 0, .null, .null, .null, .int 0]))] := hD
  refine lv_aload_n hx hb dX0_init_14 rfl (lv_at hl 0 rfl) ?_
  refine lv_iconst (v := (-1)) hx hb dX0_init_15 (by decide) ?_
  refine va_put (D := (dC, dI)) (ci := 5) (v := .int (-1)) (ty := .int) (C := RX0) (T := TX0) (N := 10) hx hb hts (fun _ h9 => List.mem_cons_of_mem _ (List.mem_append_right _ (h9))) tyX0 tyX0_ok nmX0 hown hK hP hD hS 0 rfl rfl 3 (by decide) (hts (.fieldLink RX0 19 "ExamHalls$Candidate" "place" "I") (List.mem_of_getElem? (i := 6) rfl)) (fun _ h9 => h9) rfl (by decide +kernel) rfl rfl (Nat.le_of_ble_eq_true rfl) dX0_init_16 (fun H locs hP hD hS => ?_)
  have hP : va_P (dC, dI) vwCl [(y, .inr (5, [.int 0, .null, .int (-1), .int (-1), .int 0, .int 0, .null, .null, .null, .int 0]))] H := hP
  have hD : va_D A [(y, .inr (5, [.int 0, .null, .int (-1), .int (-1), .int 0, .int 0, .null, .null, .null, .int 0]))] := hD
  refine lv_aload_n hx hb dX0_init_19 rfl (lv_at hl 0 rfl) ?_
  refine lv_iconst (v := 0) hx hb dX0_init_20 (by decide) ?_
  refine va_put (D := (dC, dI)) (ci := 5) (v := .int 0) (ty := .boolean) (C := RX0) (T := TX0) (N := 10) hx hb hts (fun _ h9 => List.mem_cons_of_mem _ (List.mem_append_right _ (h9))) tyX0 tyX0_ok nmX0 hown hK hP hD hS 0 rfl rfl 4 (by decide) (hts (.fieldLink RX0 22 "ExamHalls$Candidate" "struck" "Z") (List.mem_of_getElem? (i := 7) rfl)) (fun _ h9 => h9) rfl (by decide +kernel) (by decide) (by decide) (Nat.le_of_ble_eq_true rfl) dX0_init_21 (fun H locs hP hD hS => ?_)
  have hP : va_P (dC, dI) vwCl [(y, .inr (5, [.int 0, .null, .int (-1), .int (-1), .int 0, .int 0, .null, .null, .null, .int 0]))] H := hP
  have hD : va_D A [(y, .inr (5, [.int 0, .null, .int (-1), .int (-1), .int 0, .int 0, .null, .null, .null, .int 0]))] := hD
  refine lv_aload_n hx hb dX0_init_24 rfl (lv_at hl 0 rfl) ?_
  refine lv_iconst (v := 0) hx hb dX0_init_25 (by decide) ?_
  refine va_put (D := (dC, dI)) (ci := 5) (v := .int 0) (ty := .int) (C := RX0) (T := TX0) (N := 10) hx hb hts (fun _ h9 => List.mem_cons_of_mem _ (List.mem_append_right _ (h9))) tyX0 tyX0_ok nmX0 hown hK hP hD hS 0 rfl rfl 5 (by decide) (hts (.fieldLink RX0 26 "ExamHalls$Candidate" "kinBits" "I") (List.mem_of_getElem? (i := 8) rfl)) (fun _ h9 => h9) rfl (by decide +kernel) rfl rfl (Nat.le_of_ble_eq_true rfl) dX0_init_26 (fun H locs hP hD hS => ?_)
  have hP : va_P (dC, dI) vwCl [(y, .inr (5, [.int 0, .null, .int (-1), .int (-1), .int 0, .int 0, .null, .null, .null, .int 0]))] H := hP
  have hD : va_D A [(y, .inr (5, [.int 0, .null, .int (-1), .int (-1), .int 0, .int 0, .null, .null, .null, .int 0]))] := hD
  refine lv_aload_n hx hb dX0_init_29 rfl (lv_at hl 0 rfl) ?_
  refine lv_bipush (v := 8) hx hb dX0_init_30 (by decide) ?_
  refine va_newa (atype := .int) (ty := .int) (a0 := (8, (.inl (fun _ => 0)))) hx hb (hts (.arrayClass .int) (List.mem_of_getElem? (i := 9) rfl)) rfl hK hP hD hS hA (fun _ => rfl) (by decide) (by decide) (Nat.le_of_ble_eq_true rfl) (Nat.le_of_ble_eq_true rfl) (Nat.le_of_ble_eq_true rfl) dX0_init_32 (fun q_1 k_2 H hK hP hD hS => ?_)
  have hP : va_P (dC, dI) vwCl [(y, .inr (5, [.int 0, .null, .int (-1), .int (-1), .int 0, .int 0, .null, .null, .null, .int 0])), (q_1, .inl (k_2, 8, .inl (fun _ => 0)))] H := hP
  have hD : va_D A [(y, .inr (5, [.int 0, .null, .int (-1), .int (-1), .int 0, .int 0, .null, .null, .null, .int 0])), (q_1, .inl (k_2, 8, .inl (fun _ => 0)))] := hD
  have hK : va_K (dC, dI) vwCl [(k_2, .int)] s := hK
  refine W.widen (k := 1) (n := 8) (Nat.le_of_ble_eq_true rfl) (Nat.le_of_ble_eq_true rfl) ?_
  refine va_putF (D := (dC, dI)) (ci := 5) (v := .ref q_1) (ty := .array .int) (C := RX0) (T := TX0) (N := 10) hx hb hts (fun _ h9 => List.mem_cons_of_mem _ (List.mem_append_right _ (h9))) tyX0 tyX0_ok nmX0 hown hK hP hD hS 0 rfl rfl 6 (by decide) (hts (.fieldLink RX0 29 "ExamHalls$Candidate" "seenBits" "[I") (List.mem_of_getElem? (i := 10) rfl)) (fun _ h9 => h9) rfl hin rfl (by decide +kernel) rfl rfl (Nat.le_of_ble_eq_true rfl) dX0_init_34 (fun H locs hP hD hS => ?_)
  have hP : va_P (dC, dI) vwCl [(y, .inr (5, [.int 0, .null, .int (-1), .int (-1), .int 0, .int 0, .ref q_1, .null, .null, .int 0])), (q_1, .inl (k_2, 8, .inl (fun _ => 0)))] H := hP
  have hD : va_D A [(y, .inr (5, [.int 0, .null, .int (-1), .int (-1), .int 0, .int 0, .ref q_1, .null, .null, .int 0])), (q_1, .inl (k_2, 8, .inl (fun _ => 0)))] := hD
  refine lv_aload_n hx hb dX0_init_37 rfl (lv_at hl 0 rfl) ?_
  refine lv_iconst (v := 3) hx hb dX0_init_38 (by decide) ?_
  refine va_newa (atype := .int) (ty := .int) (a0 := (3, (.inl (fun _ => 0)))) hx hb (hts (.arrayClass .int) (List.mem_of_getElem? (i := 9) rfl)) rfl hK hP hD hS hA (fun _ => rfl) (by decide) (by decide) (Nat.le_of_ble_eq_true rfl) (Nat.le_of_ble_eq_true rfl) (Nat.le_of_ble_eq_true rfl) dX0_init_39 (fun q_3 k_4 H hK hP hD hS => ?_)
  have hP : va_P (dC, dI) vwCl [(y, .inr (5, [.int 0, .null, .int (-1), .int (-1), .int 0, .int 0, .ref q_1, .null, .null, .int 0])), (q_1, .inl (k_2, 8, .inl (fun _ => 0))), (q_3, .inl (k_4, 3, .inl (fun _ => 0)))] H := hP
  have hD : va_D A [(y, .inr (5, [.int 0, .null, .int (-1), .int (-1), .int 0, .int 0, .ref q_1, .null, .null, .int 0])), (q_1, .inl (k_2, 8, .inl (fun _ => 0))), (q_3, .inl (k_4, 3, .inl (fun _ => 0)))] := hD
  have hK : va_K (dC, dI) vwCl [(k_2, .int), (k_4, .int)] s := hK
  refine W.widen (k := 2) (n := 11) (Nat.le_of_ble_eq_true rfl) (Nat.le_of_ble_eq_true rfl) ?_
  refine va_putF (D := (dC, dI)) (ci := 5) (v := .ref q_3) (ty := .array .int) (C := RX0) (T := TX0) (N := 10) hx hb hts (fun _ h9 => List.mem_cons_of_mem _ (List.mem_append_right _ (h9))) tyX0 tyX0_ok nmX0 hown hK hP hD hS 0 rfl rfl 7 (by decide) (hts (.fieldLink RX0 33 "ExamHalls$Candidate" "readBy" "[I") (List.mem_of_getElem? (i := 11) rfl)) (fun _ h9 => h9) rfl hin rfl (by decide +kernel) rfl rfl (Nat.le_of_ble_eq_true rfl) dX0_init_41 (fun H locs hP hD hS => ?_)
  have hP : va_P (dC, dI) vwCl [(y, .inr (5, [.int 0, .null, .int (-1), .int (-1), .int 0, .int 0, .ref q_1, .ref q_3, .null, .int 0])), (q_1, .inl (k_2, 8, .inl (fun _ => 0))), (q_3, .inl (k_4, 3, .inl (fun _ => 0)))] H := hP
  have hD : va_D A [(y, .inr (5, [.int 0, .null, .int (-1), .int (-1), .int 0, .int 0, .ref q_1, .ref q_3, .null, .int 0])), (q_1, .inl (k_2, 8, .inl (fun _ => 0))), (q_3, .inl (k_4, 3, .inl (fun _ => 0)))] := hD
  refine lv_aload_n hx hb dX0_init_44 rfl (lv_at hl 0 rfl) ?_
  refine lv_iconst (v := 3) hx hb dX0_init_45 (by decide) ?_
  refine va_newa (atype := .int) (ty := .int) (a0 := (3, (.inl (fun _ => 0)))) hx hb (hts (.arrayClass .int) (List.mem_of_getElem? (i := 9) rfl)) rfl hK hP hD hS hA (fun _ => rfl) (by decide) (by decide) (Nat.le_of_ble_eq_true rfl) (Nat.le_of_ble_eq_true rfl) (Nat.le_of_ble_eq_true rfl) dX0_init_46 (fun q_5 k_6 H hK hP hD hS => ?_)
  have hP : va_P (dC, dI) vwCl [(y, .inr (5, [.int 0, .null, .int (-1), .int (-1), .int 0, .int 0, .ref q_1, .ref q_3, .null, .int 0])), (q_1, .inl (k_2, 8, .inl (fun _ => 0))), (q_3, .inl (k_4, 3, .inl (fun _ => 0))), (q_5, .inl (k_6, 3, .inl (fun _ => 0)))] H := hP
  have hD : va_D A [(y, .inr (5, [.int 0, .null, .int (-1), .int (-1), .int 0, .int 0, .ref q_1, .ref q_3, .null, .int 0])), (q_1, .inl (k_2, 8, .inl (fun _ => 0))), (q_3, .inl (k_4, 3, .inl (fun _ => 0))), (q_5, .inl (k_6, 3, .inl (fun _ => 0)))] := hD
  have hK : va_K (dC, dI) vwCl [(k_2, .int), (k_4, .int), (k_6, .int)] s := hK
  refine W.widen (k := 3) (n := 14) (Nat.le_of_ble_eq_true rfl) (Nat.le_of_ble_eq_true rfl) ?_
  refine va_putF (D := (dC, dI)) (ci := 5) (v := .ref q_5) (ty := .array .int) (C := RX0) (T := TX0) (N := 10) hx hb hts (fun _ h9 => List.mem_cons_of_mem _ (List.mem_append_right _ (h9))) tyX0 tyX0_ok nmX0 hown hK hP hD hS 0 rfl rfl 8 (by decide) (hts (.fieldLink RX0 36 "ExamHalls$Candidate" "marks" "[I") (List.mem_of_getElem? (i := 12) rfl)) (fun _ h9 => h9) rfl hin rfl (by decide +kernel) rfl rfl (Nat.le_of_ble_eq_true rfl) dX0_init_48 (fun H locs hP hD hS => ?_)
  have hP : va_P (dC, dI) vwCl [(y, .inr (5, [.int 0, .null, .int (-1), .int (-1), .int 0, .int 0, .ref q_1, .ref q_3, .ref q_5, .int 0])), (q_1, .inl (k_2, 8, .inl (fun _ => 0))), (q_3, .inl (k_4, 3, .inl (fun _ => 0))), (q_5, .inl (k_6, 3, .inl (fun _ => 0)))] H := hP
  have hD : va_D A [(y, .inr (5, [.int 0, .null, .int (-1), .int (-1), .int 0, .int 0, .ref q_1, .ref q_3, .ref q_5, .int 0])), (q_1, .inl (k_2, 8, .inl (fun _ => 0))), (q_3, .inl (k_4, 3, .inl (fun _ => 0))), (q_5, .inl (k_6, 3, .inl (fun _ => 0)))] := hD
  refine lv_aload_n hx hb dX0_init_51 rfl (lv_at hl 0 rfl) ?_
  refine lv_iconst (v := 0) hx hb dX0_init_52 (by decide) ?_
  refine va_put (D := (dC, dI)) (ci := 5) (v := .int 0) (ty := .int) (C := RX0) (T := TX0) (N := 10) hx hb hts (fun _ h9 => List.mem_cons_of_mem _ (List.mem_append_right _ (h9))) tyX0 tyX0_ok nmX0 hown hK hP hD hS 0 rfl rfl 9 (by decide) (hts (.fieldLink RX0 39 "ExamHalls$Candidate" "readingCount" "I") (List.mem_of_getElem? (i := 13) rfl)) (fun _ h9 => h9) rfl (by decide +kernel) rfl rfl (Nat.le_of_ble_eq_true rfl) dX0_init_53 (fun H locs hP hD hS => ?_)
  have hP : va_P (dC, dI) vwCl [(y, .inr (5, [.int 0, .null, .int (-1), .int (-1), .int 0, .int 0, .ref q_1, .ref q_3, .ref q_5, .int 0])), (q_1, .inl (k_2, 8, .inl (fun _ => 0))), (q_3, .inl (k_4, 3, .inl (fun _ => 0))), (q_5, .inl (k_6, 3, .inl (fun _ => 0)))] H := hP
  have hD : va_D A [(y, .inr (5, [.int 0, .null, .int (-1), .int (-1), .int 0, .int 0, .ref q_1, .ref q_3, .ref q_5, .int 0])), (q_1, .inl (k_2, 8, .inl (fun _ => 0))), (q_3, .inl (k_4, 3, .inl (fun _ => 0))), (q_5, .inl (k_6, 3, .inl (fun _ => 0)))] := hD
  refine lv_aload_n hx hb dX0_init_56 rfl (lv_at hl 0 rfl) ?_
  refine lv_iload_n hx hb dX0_init_57 rfl (lv_at hl 1 rfl) ?_
  refine va_putF (D := (dC, dI)) (ci := 5) (v := .int v) (ty := .int) (C := RX0) (T := TX0) (N := 10) hx hb hts (fun _ h9 => List.mem_cons_of_mem _ (List.mem_append_right _ (h9))) tyX0 tyX0_ok nmX0 hown hK hP hD hS 0 rfl rfl 0 (by decide) (hts (.fieldLink RX0 42 "ExamHalls$Candidate" "province" "I") (List.mem_of_getElem? (i := 14) rfl)) (fun _ h9 => h9) rfl hin rfl (by decide +kernel) rfl rfl (Nat.le_of_ble_eq_true rfl) dX0_init_58 (fun H locs hP hD hS => ?_)
  have hP : va_P (dC, dI) vwCl [(y, .inr (5, [.int v, .null, .int (-1), .int (-1), .int 0, .int 0, .ref q_1, .ref q_3, .ref q_5, .int 0])), (q_1, .inl (k_2, 8, .inl (fun _ => 0))), (q_3, .inl (k_4, 3, .inl (fun _ => 0))), (q_5, .inl (k_6, 3, .inl (fun _ => 0)))] H := hP
  have hD : va_D A [(y, .inr (5, [.int v, .null, .int (-1), .int (-1), .int 0, .int 0, .ref q_1, .ref q_3, .ref q_5, .int 0])), (q_1, .inl (k_2, 8, .inl (fun _ => 0))), (q_3, .inl (k_4, 3, .inl (fun _ => 0))), (q_5, .inl (k_6, 3, .inl (fun _ => 0)))] := hD
  have hP9 := hP.sub (ws' := [(y, .inr (5, [.int v, .null, .int (-1), .int (-1), .int 0, .int 0, .ref q_1, .ref q_3, .ref q_5, .int 0]))]) [0] rfl
  have hD9 := hD.sub (ws' := [(y, .inr (5, [.int v, .null, .int (-1), .int (-1), .int 0, .int 0, .ref q_1, .ref q_3, .ref q_5, .int 0]))]) [0] (by decide) rfl
  have hK9 := hK.sub (tys' := []) [] rfl
  exact W.vret hx hb hr (fun t ht hW => ⟨⟨(), rfl, trivial, q_1, q_3, q_5, by rw [ht]; exact hP9, va_K.moved hW.alike hK9, hD9⟩, hS.F ht⟩) hS.2.2 dX0_init_61

set_option maxHeartbeats 4000000 in
set_option maxRecDepth 100000 in
theorem c_X3_init (l : Launch) (dC : Nat → ClassId) (dI : Nat → Nat → Nat) (y : Nat) (v : Int32) (u1 : Int32) (sz : Nat) : Met l yX3_init wsX3_init ({ frames := 1, cells := 0, slots := 0, locals := 12 }) (va_Pc [.ref y, .int v, .int u1] (PQ dC dI sz [(y, .inr (8, [.int 0, .int 0, .int 0]))] [])) (va_Qv (fun _ : Unit => True) (fun _ t => va_P (dC, dI) vwCl [(y, .inr (8, [.int v, .int u1, .int 0]))] t.heap ∧ va_K (dC, dI) vwCl [] t ∧ va_D (va_A [(y, .inr (8, [.int 0, .int 0, .int 0]))] sz) [(y, .inr (8, [.int v, .int u1, .int 0]))]) (va_A [(y, .inr (8, [.int 0, .int 0, .int 0]))] sz)) 0 0 (va_A [(y, .inr (8, [.int 0, .int 0, .int 0]))] sz) := by
  refine Met.ofW (cc := cX3_init) (maxL := 3) (ret := none) (by decide) rfl ?_
  intro p e s m args below meth c s₁ B hml hv
  obtain ⟨rfl, hsz, hP, hK, hD0, hF⟩ := hv
  have hx := B.exec
  have hb := B.bytes
  have hr := B.returns
  have hts := atoms_spec (ws := wsX3_init) B.pre
  have hown : s.vm.findClass RX3 = some m.cls := findClass_of_methodNamed B.named
  have hlocks := B.notSynchronized
  have hin : meth.name = "<init>" := (name_of_methodNamed B.named B.method).1
  subst hsz
  have hD := hD0.self (sz := s.heap.size)
  generalize hAe : va_A [(y, .inr (8, [.int 0, .int 0, .int 0]))] s.heap.size = A at hD ⊢
  have hA : ∀ q : Nat, s.heap.size ≤ q → A q := fun q h => by rw [← hAe]; exact Or.inr h
  have hS : va_S A s.heap s.heap [] := va_S.rf
  have hl := lv_entry ([.ref y, .int v, .int u1]) (n := 3) (Nat.le_of_ble_eq_true rfl)
  rw [lg_entry_eq]
  generalize (lg_sl ([.ref y, .int v, .int u1]) ++ List.replicate (3 - (lg_sl ([.ref y, .int v, .int u1])).length) Slot.unset).toArray = ls at hl ⊢
  have hl : lv_has ls 3 [(0, .ref y), (1, .int v), (2, .int u1)] := hl
  refine lv_aload_n hx hb dX3_init_0 rfl (lv_at hl 0 rfl) ?_
  refine W.objInit hx hb hown (hts (.methodLink RX3 1 objectInit) (List.mem_of_getElem? (i := 1) rfl)) (hts (.instanceMethod objectInit) (List.mem_of_getElem? (i := 2) rfl)) (hts _ (List.mem_of_getElem? (i := 3) rfl)) rfl (by rw [hml]; exact hl.1) rfl dX3_init_1 (Nat.le_of_ble_eq_true rfl) (Nat.le_of_ble_eq_true rfl) ?_
  refine W.eq (g2 := F0 m 4 ls []) rfl ?_
  refine lv_aload_n hx hb dX3_init_4 rfl (lv_at hl 0 rfl) ?_
  refine lv_iconst (v := 0) hx hb dX3_init_5 (by decide) ?_
  refine va_put (D := (dC, dI)) (ci := 8) (v := .int 0) (ty := .int) (C := RX3) (T := TX3) (N := 3) hx hb hts (fun _ h9 => List.mem_cons_of_mem _ (List.mem_append_right _ (h9))) tyX3 tyX3_ok nmX3 hown hK hP hD hS 0 rfl rfl 2 (by decide) (hts (.fieldLink RX3 7 "ExamHalls$Reader" "readings" "I") (List.mem_of_getElem? (i := 4) rfl)) (fun _ h9 => h9) rfl (by decide +kernel) rfl rfl (Nat.le_of_ble_eq_true rfl) dX3_init_6 (fun H locs hP hD hS => ?_)
  have hP : va_P (dC, dI) vwCl [(y, .inr (8, [.int 0, .int 0, .int 0]))] H := hP
  have hD : va_D A [(y, .inr (8, [.int 0, .int 0, .int 0]))] := hD
  refine lv_aload_n hx hb dX3_init_9 rfl (lv_at hl 0 rfl) ?_
  refine lv_iload_n hx hb dX3_init_10 rfl (lv_at hl 1 rfl) ?_
  refine va_putF (D := (dC, dI)) (ci := 8) (v := .int v) (ty := .int) (C := RX3) (T := TX3) (N := 3) hx hb hts (fun _ h9 => List.mem_cons_of_mem _ (List.mem_append_right _ (h9))) tyX3 tyX3_ok nmX3 hown hK hP hD hS 0 rfl rfl 0 (by decide) (hts (.fieldLink RX3 13 "ExamHalls$Reader" "province" "I") (List.mem_of_getElem? (i := 5) rfl)) (fun _ h9 => h9) rfl hin rfl (by decide +kernel) rfl rfl (Nat.le_of_ble_eq_true rfl) dX3_init_11 (fun H locs hP hD hS => ?_)
  have hP : va_P (dC, dI) vwCl [(y, .inr (8, [.int v, .int 0, .int 0]))] H := hP
  have hD : va_D A [(y, .inr (8, [.int v, .int 0, .int 0]))] := hD
  refine lv_aload_n hx hb dX3_init_14 rfl (lv_at hl 0 rfl) ?_
  refine lv_iload_n hx hb dX3_init_15 rfl (lv_at hl 2 rfl) ?_
  refine va_putF (D := (dC, dI)) (ci := 8) (v := .int u1) (ty := .int) (C := RX3) (T := TX3) (N := 3) hx hb hts (fun _ h9 => List.mem_cons_of_mem _ (List.mem_append_right _ (h9))) tyX3 tyX3_ok nmX3 hown hK hP hD hS 0 rfl rfl 1 (by decide) (hts (.fieldLink RX3 16 "ExamHalls$Reader" "room" "I") (List.mem_of_getElem? (i := 6) rfl)) (fun _ h9 => h9) rfl hin rfl (by decide +kernel) rfl rfl (Nat.le_of_ble_eq_true rfl) dX3_init_16 (fun H locs hP hD hS => ?_)
  have hP : va_P (dC, dI) vwCl [(y, .inr (8, [.int v, .int u1, .int 0]))] H := hP
  have hD : va_D A [(y, .inr (8, [.int v, .int u1, .int 0]))] := hD
  have hP9 := hP.sub (ws' := [(y, .inr (8, [.int v, .int u1, .int 0]))]) [0] rfl
  have hD9 := hD.sub (ws' := [(y, .inr (8, [.int v, .int u1, .int 0]))]) [0] (by decide) rfl
  have hK9 := hK.sub (tys' := []) [] rfl
  exact W.vret hx hb hr (fun t ht hW => ⟨⟨(), rfl, trivial, by rw [ht]; exact hP9, va_K.moved hW.alike hK9, hD9⟩, hS.F ht⟩) hS.2.2 dX3_init_19

set_option maxHeartbeats 4000000 in
set_option maxRecDepth 100000 in
theorem c_X4_init (l : Launch) (dC : Nat → ClassId) (dI : Nat → Nat → Nat) (y : Nat) (sz : Nat) : Met l yX4_init wsX4_init ({ frames := 1, cells := 1, slots := 250, locals := 12 }) (va_Pc [.ref y] (PQ dC dI sz [(y, .inr (9, [.null, .int 0]))] [])) (va_Qv (fun _ : Unit => True) (fun _ t => ∃ (tb : Nat) (kB : ClassId), va_P (dC, dI) vwCl [(y, .inr (9, [.ref tb, .int 0])), (tb, .inl (kB, 250, .inl (fun _ => 0)))] t.heap ∧ va_K (dC, dI) vwCl [(kB, .byte)] t ∧ va_D (va_A [(y, .inr (9, [.null, .int 0]))] sz) [(y, .inr (9, [.ref tb, .int 0])), (tb, .inl (kB, 250, .inl (fun _ => 0)))]) (va_A [(y, .inr (9, [.null, .int 0]))] sz)) 1 250 (va_A [(y, .inr (9, [.null, .int 0]))] sz) := by
  refine Met.ofW (cc := cX4_init) (maxL := 1) (ret := none) (by decide) rfl ?_
  intro p e s m args below meth c s₁ B hml hv
  obtain ⟨rfl, hsz, hP, hK, hD0, hF⟩ := hv
  have hx := B.exec
  have hb := B.bytes
  have hr := B.returns
  have hts := atoms_spec (ws := wsX4_init) B.pre
  have hown : s.vm.findClass RX4 = some m.cls := findClass_of_methodNamed B.named
  have hlocks := B.notSynchronized
  have hin : meth.name = "<init>" := (name_of_methodNamed B.named B.method).1
  subst hsz
  have hD := hD0.self (sz := s.heap.size)
  generalize hAe : va_A [(y, .inr (9, [.null, .int 0]))] s.heap.size = A at hD ⊢
  have hA : ∀ q : Nat, s.heap.size ≤ q → A q := fun q h => by rw [← hAe]; exact Or.inr h
  have hS : va_S A s.heap s.heap [] := va_S.rf
  have hl := lv_entry ([.ref y]) (n := 1) (Nat.le_of_ble_eq_true rfl)
  rw [lg_entry_eq]
  generalize (lg_sl ([.ref y]) ++ List.replicate (1 - (lg_sl ([.ref y])).length) Slot.unset).toArray = ls at hl ⊢
  have hl : lv_has ls 1 [(0, .ref y)] := hl
  refine lv_aload_n hx hb dX4_init_0 rfl (lv_at hl 0 rfl) ?_
  refine W.objInit hx hb hown (hts (.methodLink RX4 3 objectInit) (List.mem_of_getElem? (i := 1) rfl)) (hts (.instanceMethod objectInit) (List.mem_of_getElem? (i := 2) rfl)) (hts _ (List.mem_of_getElem? (i := 3) rfl)) rfl (by rw [hml]; exact hl.1) rfl dX4_init_1 (Nat.le_of_ble_eq_true rfl) (Nat.le_of_ble_eq_true rfl) ?_
  refine W.eq (g2 := F0 m 4 ls []) rfl ?_
  refine lv_aload_n hx hb dX4_init_4 rfl (lv_at hl 0 rfl) ?_
  refine lv_sipush (v := 250) hx hb dX4_init_5 (by decide) ?_
  refine va_newa (atype := .byte) (ty := .byte) (a0 := (250, (.inl (fun _ => 0)))) hx hb (hts (.arrayClass .byte) (List.mem_of_getElem? (i := 4) rfl)) rfl hK hP hD hS hA (fun _ => rfl) (by decide) (by decide) (Nat.le_of_ble_eq_true rfl) (Nat.le_of_ble_eq_true rfl) (Nat.le_of_ble_eq_true rfl) dX4_init_8 (fun q_1 k_2 H hK hP hD hS => ?_)
  have hP : va_P (dC, dI) vwCl [(y, .inr (9, [.null, .int 0])), (q_1, .inl (k_2, 250, .inl (fun _ => 0)))] H := hP
  have hD : va_D A [(y, .inr (9, [.null, .int 0])), (q_1, .inl (k_2, 250, .inl (fun _ => 0)))] := hD
  have hK : va_K (dC, dI) vwCl [(k_2, .byte)] s := hK
  refine W.widen (k := 1) (n := 250) (Nat.le_of_ble_eq_true rfl) (Nat.le_of_ble_eq_true rfl) ?_
  refine va_putF (D := (dC, dI)) (ci := 9) (v := .ref q_1) (ty := .array .byte) (C := RX4) (T := TX4) (N := 2) hx hb hts (fun _ h9 => List.mem_cons_of_mem _ (List.mem_append_right _ (h9))) tyX4 tyX4_ok nmX4 hown hK hP hD hS 0 rfl rfl 0 (by decide) (hts (.fieldLink RX4 9 "ExamHalls$Tape" "bytes" "[B") (List.mem_of_getElem? (i := 5) rfl)) (fun _ h9 => h9) rfl hin rfl (by decide +kernel) rfl rfl (Nat.le_of_ble_eq_true rfl) dX4_init_10 (fun H locs hP hD hS => ?_)
  have hP : va_P (dC, dI) vwCl [(y, .inr (9, [.ref q_1, .int 0])), (q_1, .inl (k_2, 250, .inl (fun _ => 0)))] H := hP
  have hD : va_D A [(y, .inr (9, [.ref q_1, .int 0])), (q_1, .inl (k_2, 250, .inl (fun _ => 0)))] := hD
  refine lv_aload_n hx hb dX4_init_13 rfl (lv_at hl 0 rfl) ?_
  refine lv_iconst (v := 0) hx hb dX4_init_14 (by decide) ?_
  refine va_put (D := (dC, dI)) (ci := 9) (v := .int 0) (ty := .int) (C := RX4) (T := TX4) (N := 2) hx hb hts (fun _ h9 => List.mem_cons_of_mem _ (List.mem_append_right _ (h9))) tyX4 tyX4_ok nmX4 hown hK hP hD hS 0 rfl rfl 1 (by decide) (hts (.fieldLink RX4 15 "ExamHalls$Tape" "size" "I") (List.mem_of_getElem? (i := 6) rfl)) (fun _ h9 => h9) rfl (by decide +kernel) rfl rfl (Nat.le_of_ble_eq_true rfl) dX4_init_15 (fun H locs hP hD hS => ?_)
  have hP : va_P (dC, dI) vwCl [(y, .inr (9, [.ref q_1, .int 0])), (q_1, .inl (k_2, 250, .inl (fun _ => 0)))] H := hP
  have hD : va_D A [(y, .inr (9, [.ref q_1, .int 0])), (q_1, .inl (k_2, 250, .inl (fun _ => 0)))] := hD
  have hP9 := hP.sub (ws' := [(y, .inr (9, [.ref q_1, .int 0])), (q_1, .inl (k_2, 250, .inl (fun _ => 0)))]) [0, 1] rfl
  have hD9 := hD.sub (ws' := [(y, .inr (9, [.ref q_1, .int 0])), (q_1, .inl (k_2, 250, .inl (fun _ => 0)))]) [0, 1] (by decide) rfl
  have hK9 := hK.sub (tys' := [(k_2, .byte)]) [0] rfl
  exact W.vret hx hb hr (fun t ht hW => ⟨⟨(), rfl, trivial, q_1, k_2, by rw [ht]; exact hP9, va_K.moved hW.alike hK9, hD9⟩, hS.F ht⟩) hS.2.2 dX4_init_18

set_option maxHeartbeats 4000000 in
set_option maxRecDepth 100000 in
theorem c_X2_init (l : Launch) (dC : Nat → ClassId) (dI : Nat → Nat → Nat) (fo : Nat) (sz : Nat) : Met l yX2_init wsX2_init ({ frames := 1, cells := 5, slots := 36, locals := 12 }) (va_Pc [.ref fo] (PQ dC dI sz [(fo, .inr (7, [.int 0, .null, .null, .null, .null, .int 0, .null, .int 0]))] [])) (va_Qv (fun _ : Unit => True) (fun _ t => ∃ (le : Nat) (mo : Nat) (os : Nat) (ps : Nat) (br : Nat) (kl : ClassId) (km : ClassId) (ko : ClassId) (kp : ClassId) (kb : ClassId) (fl : Nat → Int32) (fm : Nat → Int32), va_P (dC, dI) vwCl [(fo, .inr (7, [.int 1, .ref le, .ref mo, .ref os, .ref ps, .int 0, .ref br, .int 0])), (le, .inl (kl, 8, .inl fl)), (mo, .inl (km, 8, .inl fm)), (os, .inl (ko, 6, .inl (fun _ => 0))), (ps, .inl (kp, 6, .inl (fun _ => 0))), (br, .inl (kb, 8, .inr (.inl (fun _ => 0))))] t.heap ∧ va_K (dC, dI) vwCl [(kl, .int), (km, .int), (ko, .int), (kp, .int), (kb, .long)] t ∧ va_D (va_A [(fo, .inr (7, [.int 0, .null, .null, .null, .null, .int 0, .null, .int 0]))] sz) [(fo, .inr (7, [.int 1, .ref le, .ref mo, .ref os, .ref ps, .int 0, .ref br, .int 0])), (le, .inl (kl, 8, .inl fl)), (mo, .inl (km, 8, .inl fm)), (os, .inl (ko, 6, .inl (fun _ => 0))), (ps, .inl (kp, 6, .inl (fun _ => 0))), (br, .inl (kb, 8, .inr (.inl (fun _ => 0))))]) (va_A [(fo, .inr (7, [.int 0, .null, .null, .null, .null, .int 0, .null, .int 0]))] sz)) 5 36 (va_A [(fo, .inr (7, [.int 0, .null, .null, .null, .null, .int 0, .null, .int 0]))] sz) := by
  refine Met.ofW (cc := cX2_init) (maxL := 2) (ret := none) (by decide) rfl ?_
  intro p e s m args below meth c s₁ B hml hv
  obtain ⟨rfl, hsz, hP, hK, hD0, hF⟩ := hv
  have hx := B.exec
  have hb := B.bytes
  have hr := B.returns
  have hts := atoms_spec (ws := wsX2_init) B.pre
  have hown : s.vm.findClass RX2 = some m.cls := findClass_of_methodNamed B.named
  have hlocks := B.notSynchronized
  have hin : meth.name = "<init>" := (name_of_methodNamed B.named B.method).1
  subst hsz
  have hD := hD0.self (sz := s.heap.size)
  generalize hAe : va_A [(fo, .inr (7, [.int 0, .null, .null, .null, .null, .int 0, .null, .int 0]))] s.heap.size = A at hD ⊢
  have hA : ∀ q : Nat, s.heap.size ≤ q → A q := fun q h => by rw [← hAe]; exact Or.inr h
  have hS : va_S A s.heap s.heap [] := va_S.rf
  have hl := lv_entry ([.ref fo]) (n := 2) (Nat.le_of_ble_eq_true rfl)
  rw [lg_entry_eq]
  generalize (lg_sl ([.ref fo]) ++ List.replicate (2 - (lg_sl ([.ref fo])).length) Slot.unset).toArray = ls at hl ⊢
  have hl : lv_has ls 2 [(0, .ref fo)] := hl
  refine lv_aload_n hx hb dX2_init_0 rfl (lv_at hl 0 rfl) ?_
  refine W.objInit hx hb hown (hts (.methodLink RX2 3 objectInit) (List.mem_of_getElem? (i := 1) rfl)) (hts (.instanceMethod objectInit) (List.mem_of_getElem? (i := 2) rfl)) (hts _ (List.mem_of_getElem? (i := 3) rfl)) rfl (by rw [hml]; exact hl.1) rfl dX2_init_1 (Nat.le_of_ble_eq_true rfl) (Nat.le_of_ble_eq_true rfl) ?_
  refine W.eq (g2 := F0 m 4 ls []) rfl ?_
  refine lv_aload_n hx hb dX2_init_4 rfl (lv_at hl 0 rfl) ?_
  refine lv_iconst (v := 1) hx hb dX2_init_5 (by decide) ?_
  refine va_put (D := (dC, dI)) (ci := 7) (v := .int 1) (ty := .int) (C := RX2) (T := TX2) (N := 8) hx hb hts (fun _ h9 => List.mem_cons_of_mem _ (List.mem_append_right _ (h9))) tyX2 tyX2_ok nmX2 hown hK hP hD hS 0 rfl rfl 0 (by decide) (hts (.fieldLink RX2 9 "ExamHalls$Form" "legCount" "I") (List.mem_of_getElem? (i := 4) rfl)) (fun _ h9 => h9) rfl (by decide +kernel) rfl rfl (Nat.le_of_ble_eq_true rfl) dX2_init_6 (fun H locs hP hD hS => ?_)
  have hP : va_P (dC, dI) vwCl [(fo, .inr (7, [.int 1, .null, .null, .null, .null, .int 0, .null, .int 0]))] H := hP
  have hD : va_D A [(fo, .inr (7, [.int 1, .null, .null, .null, .null, .int 0, .null, .int 0]))] := hD
  refine lv_aload_n hx hb dX2_init_9 rfl (lv_at hl 0 rfl) ?_
  refine lv_bipush (v := 8) hx hb dX2_init_10 (by decide) ?_
  refine va_newa (atype := .int) (ty := .int) (a0 := (8, (.inl (fun _ => 0)))) hx hb (hts (.arrayClass .int) (List.mem_of_getElem? (i := 5) rfl)) rfl hK hP hD hS hA (fun _ => rfl) (by decide) (by decide) (Nat.le_of_ble_eq_true rfl) (Nat.le_of_ble_eq_true rfl) (Nat.le_of_ble_eq_true rfl) dX2_init_12 (fun q_1 k_2 H hK hP hD hS => ?_)
  have hP : va_P (dC, dI) vwCl [(fo, .inr (7, [.int 1, .null, .null, .null, .null, .int 0, .null, .int 0])), (q_1, .inl (k_2, 8, .inl (fun _ => 0)))] H := hP
  have hD : va_D A [(fo, .inr (7, [.int 1, .null, .null, .null, .null, .int 0, .null, .int 0])), (q_1, .inl (k_2, 8, .inl (fun _ => 0)))] := hD
  have hK : va_K (dC, dI) vwCl [(k_2, .int)] s := hK
  refine W.widen (k := 1) (n := 8) (Nat.le_of_ble_eq_true rfl) (Nat.le_of_ble_eq_true rfl) ?_
  refine va_putF (D := (dC, dI)) (ci := 7) (v := .ref q_1) (ty := .array .int) (C := RX2) (T := TX2) (N := 8) hx hb hts (fun _ h9 => List.mem_cons_of_mem _ (List.mem_append_right _ (h9))) tyX2 tyX2_ok nmX2 hown hK hP hD hS 0 rfl rfl 1 (by decide) (hts (.fieldLink RX2 15 "ExamHalls$Form" "least" "[I") (List.mem_of_getElem? (i := 6) rfl)) (fun _ h9 => h9) rfl hin rfl (by decide +kernel) rfl rfl (Nat.le_of_ble_eq_true rfl) dX2_init_14 (fun H locs hP hD hS => ?_)
  have hP : va_P (dC, dI) vwCl [(fo, .inr (7, [.int 1, .ref q_1, .null, .null, .null, .int 0, .null, .int 0])), (q_1, .inl (k_2, 8, .inl (fun _ => 0)))] H := hP
  have hD : va_D A [(fo, .inr (7, [.int 1, .ref q_1, .null, .null, .null, .int 0, .null, .int 0])), (q_1, .inl (k_2, 8, .inl (fun _ => 0)))] := hD
  refine lv_aload_n hx hb dX2_init_17 rfl (lv_at hl 0 rfl) ?_
  refine lv_bipush (v := 8) hx hb dX2_init_18 (by decide) ?_
  refine va_newa (atype := .int) (ty := .int) (a0 := (8, (.inl (fun _ => 0)))) hx hb (hts (.arrayClass .int) (List.mem_of_getElem? (i := 5) rfl)) rfl hK hP hD hS hA (fun _ => rfl) (by decide) (by decide) (Nat.le_of_ble_eq_true rfl) (Nat.le_of_ble_eq_true rfl) (Nat.le_of_ble_eq_true rfl) dX2_init_20 (fun q_3 k_4 H hK hP hD hS => ?_)
  have hP : va_P (dC, dI) vwCl [(fo, .inr (7, [.int 1, .ref q_1, .null, .null, .null, .int 0, .null, .int 0])), (q_1, .inl (k_2, 8, .inl (fun _ => 0))), (q_3, .inl (k_4, 8, .inl (fun _ => 0)))] H := hP
  have hD : va_D A [(fo, .inr (7, [.int 1, .ref q_1, .null, .null, .null, .int 0, .null, .int 0])), (q_1, .inl (k_2, 8, .inl (fun _ => 0))), (q_3, .inl (k_4, 8, .inl (fun _ => 0)))] := hD
  have hK : va_K (dC, dI) vwCl [(k_2, .int), (k_4, .int)] s := hK
  refine W.widen (k := 2) (n := 16) (Nat.le_of_ble_eq_true rfl) (Nat.le_of_ble_eq_true rfl) ?_
  refine va_putF (D := (dC, dI)) (ci := 7) (v := .ref q_3) (ty := .array .int) (C := RX2) (T := TX2) (N := 8) hx hb hts (fun _ h9 => List.mem_cons_of_mem _ (List.mem_append_right _ (h9))) tyX2 tyX2_ok nmX2 hown hK hP hD hS 0 rfl rfl 2 (by decide) (hts (.fieldLink RX2 19 "ExamHalls$Form" "most" "[I") (List.mem_of_getElem? (i := 7) rfl)) (fun _ h9 => h9) rfl hin rfl (by decide +kernel) rfl rfl (Nat.le_of_ble_eq_true rfl) dX2_init_22 (fun H locs hP hD hS => ?_)
  have hP : va_P (dC, dI) vwCl [(fo, .inr (7, [.int 1, .ref q_1, .ref q_3, .null, .null, .int 0, .null, .int 0])), (q_1, .inl (k_2, 8, .inl (fun _ => 0))), (q_3, .inl (k_4, 8, .inl (fun _ => 0)))] H := hP
  have hD : va_D A [(fo, .inr (7, [.int 1, .ref q_1, .ref q_3, .null, .null, .int 0, .null, .int 0])), (q_1, .inl (k_2, 8, .inl (fun _ => 0))), (q_3, .inl (k_4, 8, .inl (fun _ => 0)))] := hD
  refine lv_aload_n hx hb dX2_init_25 rfl (lv_at hl 0 rfl) ?_
  refine lv_bipush (v := 6) hx hb dX2_init_26 (by decide) ?_
  refine va_newa (atype := .int) (ty := .int) (a0 := (6, (.inl (fun _ => 0)))) hx hb (hts (.arrayClass .int) (List.mem_of_getElem? (i := 5) rfl)) rfl hK hP hD hS hA (fun _ => rfl) (by decide) (by decide) (Nat.le_of_ble_eq_true rfl) (Nat.le_of_ble_eq_true rfl) (Nat.le_of_ble_eq_true rfl) dX2_init_28 (fun q_5 k_6 H hK hP hD hS => ?_)
  have hP : va_P (dC, dI) vwCl [(fo, .inr (7, [.int 1, .ref q_1, .ref q_3, .null, .null, .int 0, .null, .int 0])), (q_1, .inl (k_2, 8, .inl (fun _ => 0))), (q_3, .inl (k_4, 8, .inl (fun _ => 0))), (q_5, .inl (k_6, 6, .inl (fun _ => 0)))] H := hP
  have hD : va_D A [(fo, .inr (7, [.int 1, .ref q_1, .ref q_3, .null, .null, .int 0, .null, .int 0])), (q_1, .inl (k_2, 8, .inl (fun _ => 0))), (q_3, .inl (k_4, 8, .inl (fun _ => 0))), (q_5, .inl (k_6, 6, .inl (fun _ => 0)))] := hD
  have hK : va_K (dC, dI) vwCl [(k_2, .int), (k_4, .int), (k_6, .int)] s := hK
  refine W.widen (k := 3) (n := 22) (Nat.le_of_ble_eq_true rfl) (Nat.le_of_ble_eq_true rfl) ?_
  refine va_putF (D := (dC, dI)) (ci := 7) (v := .ref q_5) (ty := .array .int) (C := RX2) (T := TX2) (N := 8) hx hb hts (fun _ h9 => List.mem_cons_of_mem _ (List.mem_append_right _ (h9))) tyX2 tyX2_ok nmX2 hown hK hP hD hS 0 rfl rfl 3 (by decide) (hts (.fieldLink RX2 22 "ExamHalls$Form" "oneSides" "[I") (List.mem_of_getElem? (i := 8) rfl)) (fun _ h9 => h9) rfl hin rfl (by decide +kernel) rfl rfl (Nat.le_of_ble_eq_true rfl) dX2_init_30 (fun H locs hP hD hS => ?_)
  have hP : va_P (dC, dI) vwCl [(fo, .inr (7, [.int 1, .ref q_1, .ref q_3, .ref q_5, .null, .int 0, .null, .int 0])), (q_1, .inl (k_2, 8, .inl (fun _ => 0))), (q_3, .inl (k_4, 8, .inl (fun _ => 0))), (q_5, .inl (k_6, 6, .inl (fun _ => 0)))] H := hP
  have hD : va_D A [(fo, .inr (7, [.int 1, .ref q_1, .ref q_3, .ref q_5, .null, .int 0, .null, .int 0])), (q_1, .inl (k_2, 8, .inl (fun _ => 0))), (q_3, .inl (k_4, 8, .inl (fun _ => 0))), (q_5, .inl (k_6, 6, .inl (fun _ => 0)))] := hD
  refine lv_aload_n hx hb dX2_init_33 rfl (lv_at hl 0 rfl) ?_
  refine lv_bipush (v := 6) hx hb dX2_init_34 (by decide) ?_
  refine va_newa (atype := .int) (ty := .int) (a0 := (6, (.inl (fun _ => 0)))) hx hb (hts (.arrayClass .int) (List.mem_of_getElem? (i := 5) rfl)) rfl hK hP hD hS hA (fun _ => rfl) (by decide) (by decide) (Nat.le_of_ble_eq_true rfl) (Nat.le_of_ble_eq_true rfl) (Nat.le_of_ble_eq_true rfl) dX2_init_36 (fun q_7 k_8 H hK hP hD hS => ?_)
  have hP : va_P (dC, dI) vwCl [(fo, .inr (7, [.int 1, .ref q_1, .ref q_3, .ref q_5, .null, .int 0, .null, .int 0])), (q_1, .inl (k_2, 8, .inl (fun _ => 0))), (q_3, .inl (k_4, 8, .inl (fun _ => 0))), (q_5, .inl (k_6, 6, .inl (fun _ => 0))), (q_7, .inl (k_8, 6, .inl (fun _ => 0)))] H := hP
  have hD : va_D A [(fo, .inr (7, [.int 1, .ref q_1, .ref q_3, .ref q_5, .null, .int 0, .null, .int 0])), (q_1, .inl (k_2, 8, .inl (fun _ => 0))), (q_3, .inl (k_4, 8, .inl (fun _ => 0))), (q_5, .inl (k_6, 6, .inl (fun _ => 0))), (q_7, .inl (k_8, 6, .inl (fun _ => 0)))] := hD
  have hK : va_K (dC, dI) vwCl [(k_2, .int), (k_4, .int), (k_6, .int), (k_8, .int)] s := hK
  refine W.widen (k := 4) (n := 28) (Nat.le_of_ble_eq_true rfl) (Nat.le_of_ble_eq_true rfl) ?_
  refine va_putF (D := (dC, dI)) (ci := 7) (v := .ref q_7) (ty := .array .int) (C := RX2) (T := TX2) (N := 8) hx hb hts (fun _ h9 => List.mem_cons_of_mem _ (List.mem_append_right _ (h9))) tyX2 tyX2_ok nmX2 hown hK hP hD hS 0 rfl rfl 4 (by decide) (hts (.fieldLink RX2 25 "ExamHalls$Form" "otherSides" "[I") (List.mem_of_getElem? (i := 9) rfl)) (fun _ h9 => h9) rfl hin rfl (by decide +kernel) rfl rfl (Nat.le_of_ble_eq_true rfl) dX2_init_38 (fun H locs hP hD hS => ?_)
  have hP : va_P (dC, dI) vwCl [(fo, .inr (7, [.int 1, .ref q_1, .ref q_3, .ref q_5, .ref q_7, .int 0, .null, .int 0])), (q_1, .inl (k_2, 8, .inl (fun _ => 0))), (q_3, .inl (k_4, 8, .inl (fun _ => 0))), (q_5, .inl (k_6, 6, .inl (fun _ => 0))), (q_7, .inl (k_8, 6, .inl (fun _ => 0)))] H := hP
  have hD : va_D A [(fo, .inr (7, [.int 1, .ref q_1, .ref q_3, .ref q_5, .ref q_7, .int 0, .null, .int 0])), (q_1, .inl (k_2, 8, .inl (fun _ => 0))), (q_3, .inl (k_4, 8, .inl (fun _ => 0))), (q_5, .inl (k_6, 6, .inl (fun _ => 0))), (q_7, .inl (k_8, 6, .inl (fun _ => 0)))] := hD
  refine lv_aload_n hx hb dX2_init_41 rfl (lv_at hl 0 rfl) ?_
  refine lv_iconst (v := 0) hx hb dX2_init_42 (by decide) ?_
  refine va_put (D := (dC, dI)) (ci := 7) (v := .int 0) (ty := .int) (C := RX2) (T := TX2) (N := 8) hx hb hts (fun _ h9 => List.mem_cons_of_mem _ (List.mem_append_right _ (h9))) tyX2 tyX2_ok nmX2 hown hK hP hD hS 0 rfl rfl 5 (by decide) (hts (.fieldLink RX2 28 "ExamHalls$Form" "parallelCount" "I") (List.mem_of_getElem? (i := 10) rfl)) (fun _ h9 => h9) rfl (by decide +kernel) rfl rfl (Nat.le_of_ble_eq_true rfl) dX2_init_43 (fun H locs hP hD hS => ?_)
  have hP : va_P (dC, dI) vwCl [(fo, .inr (7, [.int 1, .ref q_1, .ref q_3, .ref q_5, .ref q_7, .int 0, .null, .int 0])), (q_1, .inl (k_2, 8, .inl (fun _ => 0))), (q_3, .inl (k_4, 8, .inl (fun _ => 0))), (q_5, .inl (k_6, 6, .inl (fun _ => 0))), (q_7, .inl (k_8, 6, .inl (fun _ => 0)))] H := hP
  have hD : va_D A [(fo, .inr (7, [.int 1, .ref q_1, .ref q_3, .ref q_5, .ref q_7, .int 0, .null, .int 0])), (q_1, .inl (k_2, 8, .inl (fun _ => 0))), (q_3, .inl (k_4, 8, .inl (fun _ => 0))), (q_5, .inl (k_6, 6, .inl (fun _ => 0))), (q_7, .inl (k_8, 6, .inl (fun _ => 0)))] := hD
  refine lv_aload_n hx hb dX2_init_46 rfl (lv_at hl 0 rfl) ?_
  refine lv_bipush (v := 8) hx hb dX2_init_47 (by decide) ?_
  refine va_newa (atype := .long) (ty := .long) (a0 := (8, (.inr (.inl (fun _ => 0))))) hx hb (hts (.arrayClass .long) (List.mem_of_getElem? (i := 11) rfl)) rfl hK hP hD hS hA (fun _ => rfl) (by decide) (by decide) (Nat.le_of_ble_eq_true rfl) (Nat.le_of_ble_eq_true rfl) (Nat.le_of_ble_eq_true rfl) dX2_init_49 (fun q_9 k_10 H hK hP hD hS => ?_)
  have hP : va_P (dC, dI) vwCl [(fo, .inr (7, [.int 1, .ref q_1, .ref q_3, .ref q_5, .ref q_7, .int 0, .null, .int 0])), (q_1, .inl (k_2, 8, .inl (fun _ => 0))), (q_3, .inl (k_4, 8, .inl (fun _ => 0))), (q_5, .inl (k_6, 6, .inl (fun _ => 0))), (q_7, .inl (k_8, 6, .inl (fun _ => 0))), (q_9, .inl (k_10, 8, .inr (.inl (fun _ => 0))))] H := hP
  have hD : va_D A [(fo, .inr (7, [.int 1, .ref q_1, .ref q_3, .ref q_5, .ref q_7, .int 0, .null, .int 0])), (q_1, .inl (k_2, 8, .inl (fun _ => 0))), (q_3, .inl (k_4, 8, .inl (fun _ => 0))), (q_5, .inl (k_6, 6, .inl (fun _ => 0))), (q_7, .inl (k_8, 6, .inl (fun _ => 0))), (q_9, .inl (k_10, 8, .inr (.inl (fun _ => 0))))] := hD
  have hK : va_K (dC, dI) vwCl [(k_2, .int), (k_4, .int), (k_6, .int), (k_8, .int), (k_10, .long)] s := hK
  refine W.widen (k := 5) (n := 36) (Nat.le_of_ble_eq_true rfl) (Nat.le_of_ble_eq_true rfl) ?_
  refine va_putF (D := (dC, dI)) (ci := 7) (v := .ref q_9) (ty := .array .long) (C := RX2) (T := TX2) (N := 8) hx hb hts (fun _ h9 => List.mem_cons_of_mem _ (List.mem_append_right _ (h9))) tyX2 tyX2_ok nmX2 hown hK hP hD hS 0 rfl rfl 6 (by decide) (hts (.fieldLink RX2 31 "ExamHalls$Form" "barred" "[J") (List.mem_of_getElem? (i := 12) rfl)) (fun _ h9 => h9) rfl hin rfl (by decide +kernel) rfl rfl (Nat.le_of_ble_eq_true rfl) dX2_init_51 (fun H locs hP hD hS => ?_)
  have hP : va_P (dC, dI) vwCl [(fo, .inr (7, [.int 1, .ref q_1, .ref q_3, .ref q_5, .ref q_7, .int 0, .ref q_9, .int 0])), (q_1, .inl (k_2, 8, .inl (fun _ => 0))), (q_3, .inl (k_4, 8, .inl (fun _ => 0))), (q_5, .inl (k_6, 6, .inl (fun _ => 0))), (q_7, .inl (k_8, 6, .inl (fun _ => 0))), (q_9, .inl (k_10, 8, .inr (.inl (fun _ => 0))))] H := hP
  have hD : va_D A [(fo, .inr (7, [.int 1, .ref q_1, .ref q_3, .ref q_5, .ref q_7, .int 0, .ref q_9, .int 0])), (q_1, .inl (k_2, 8, .inl (fun _ => 0))), (q_3, .inl (k_4, 8, .inl (fun _ => 0))), (q_5, .inl (k_6, 6, .inl (fun _ => 0))), (q_7, .inl (k_8, 6, .inl (fun _ => 0))), (q_9, .inl (k_10, 8, .inr (.inl (fun _ => 0))))] := hD
  refine lv_aload_n hx hb dX2_init_54 rfl (lv_at hl 0 rfl) ?_
  refine lv_iconst (v := 0) hx hb dX2_init_55 (by decide) ?_
  refine va_put (D := (dC, dI)) (ci := 7) (v := .int 0) (ty := .int) (C := RX2) (T := TX2) (N := 8) hx hb hts (fun _ h9 => List.mem_cons_of_mem _ (List.mem_append_right _ (h9))) tyX2 tyX2_ok nmX2 hown hK hP hD hS 0 rfl rfl 7 (by decide) (hts (.fieldLink RX2 35 "ExamHalls$Form" "barredCount" "I") (List.mem_of_getElem? (i := 13) rfl)) (fun _ h9 => h9) rfl (by decide +kernel) rfl rfl (Nat.le_of_ble_eq_true rfl) dX2_init_56 (fun H locs hP hD hS => ?_)
  have hP : va_P (dC, dI) vwCl [(fo, .inr (7, [.int 1, .ref q_1, .ref q_3, .ref q_5, .ref q_7, .int 0, .ref q_9, .int 0])), (q_1, .inl (k_2, 8, .inl (fun _ => 0))), (q_3, .inl (k_4, 8, .inl (fun _ => 0))), (q_5, .inl (k_6, 6, .inl (fun _ => 0))), (q_7, .inl (k_8, 6, .inl (fun _ => 0))), (q_9, .inl (k_10, 8, .inr (.inl (fun _ => 0))))] H := hP
  have hD : va_D A [(fo, .inr (7, [.int 1, .ref q_1, .ref q_3, .ref q_5, .ref q_7, .int 0, .ref q_9, .int 0])), (q_1, .inl (k_2, 8, .inl (fun _ => 0))), (q_3, .inl (k_4, 8, .inl (fun _ => 0))), (q_5, .inl (k_6, 6, .inl (fun _ => 0))), (q_7, .inl (k_8, 6, .inl (fun _ => 0))), (q_9, .inl (k_10, 8, .inr (.inl (fun _ => 0))))] := hD
  refine lv_iconst (v := 0) hx hb dX2_init_59 (by decide) ?_
  refine lv_istore_n (lv' := [(1, .int 0), (0, .ref fo)]) hx hb dX2_init_60 rfl hl (by decide) rfl (fun ls hl => ?_)
  refine lv_iload_n hx hb dX2_init_61 rfl (lv_at hl 0 rfl) ?_
  refine lv_bipush (v := 8) hx hb dX2_init_62 (by decide) ?_
  refine lv_icmp_ge (tgt := 88) hx hb dX2_init_64 (by decide) (fun c_11 => absurd c_11 (by decide)) (fun _ => ?_)
  refine lv_aload_n hx hb dX2_init_67 rfl (lv_at hl 1 rfl) ?_
  refine va_get (D := (dC, dI)) (ci := 7) (v := .ref q_1) (C := RX2) (T := TX2) (N := 8) hx hb hts (fun _ h9 => List.mem_cons_of_mem _ (List.mem_append_right _ (h9))) hown hK hP 0 rfl rfl 1 (by decide) (hts (.fieldLink RX2 15 "ExamHalls$Form" "least" "[I") (List.mem_of_getElem? (i := 6) rfl)) (fun _ h9 => h9) rfl dX2_init_68 ?_
  refine lv_iload_n hx hb dX2_init_71 rfl (lv_at hl 0 rfl) ?_
  refine lv_iconst (v := 1) hx hb dX2_init_72 (by decide) ?_
  refine va_iast hx hb hK hP hD hS 1 0 rfl rfl (by unfold vp_in; decide) dX2_init_73 (fun H locs hP hD hS => ?_)
  have hP : va_P (dC, dI) vwCl [(fo, .inr (7, [.int 1, .ref q_1, .ref q_3, .ref q_5, .ref q_7, .int 0, .ref q_9, .int 0])), (q_1, .inl (k_2, 8, .inl (upd (fun _ => 0) (0 : Int32).toNatClampNeg (1 : Int32)))), (q_3, .inl (k_4, 8, .inl (fun _ => 0))), (q_5, .inl (k_6, 6, .inl (fun _ => 0))), (q_7, .inl (k_8, 6, .inl (fun _ => 0))), (q_9, .inl (k_10, 8, .inr (.inl (fun _ => 0))))] H := hP
  have hD : va_D A [(fo, .inr (7, [.int 1, .ref q_1, .ref q_3, .ref q_5, .ref q_7, .int 0, .ref q_9, .int 0])), (q_1, .inl (k_2, 8, .inl (upd (fun _ => 0) (0 : Int32).toNatClampNeg (1 : Int32)))), (q_3, .inl (k_4, 8, .inl (fun _ => 0))), (q_5, .inl (k_6, 6, .inl (fun _ => 0))), (q_7, .inl (k_8, 6, .inl (fun _ => 0))), (q_9, .inl (k_10, 8, .inr (.inl (fun _ => 0))))] := hD
  generalize (upd (fun _ => 0) (0 : Int32).toNatClampNeg (1 : Int32)) = a_12 at hP hD
  refine lv_aload_n hx hb dX2_init_74 rfl (lv_at hl 1 rfl) ?_
  refine va_get (D := (dC, dI)) (ci := 7) (v := .ref q_3) (C := RX2) (T := TX2) (N := 8) hx hb hts (fun _ h9 => List.mem_cons_of_mem _ (List.mem_append_right _ (h9))) hown hK hP 0 rfl rfl 2 (by decide) (hts (.fieldLink RX2 19 "ExamHalls$Form" "most" "[I") (List.mem_of_getElem? (i := 7) rfl)) (fun _ h9 => h9) rfl dX2_init_75 ?_
  refine lv_iload_n hx hb dX2_init_78 rfl (lv_at hl 0 rfl) ?_
  refine lv_bipush (v := 12) hx hb dX2_init_79 (by decide) ?_
  refine va_iast hx hb hK hP hD hS 2 1 rfl rfl (by unfold vp_in; decide) dX2_init_81 (fun H locs hP hD hS => ?_)
  have hP : va_P (dC, dI) vwCl [(fo, .inr (7, [.int 1, .ref q_1, .ref q_3, .ref q_5, .ref q_7, .int 0, .ref q_9, .int 0])), (q_1, .inl (k_2, 8, .inl a_12)), (q_3, .inl (k_4, 8, .inl (upd (fun _ => 0) (0 : Int32).toNatClampNeg (12 : Int32)))), (q_5, .inl (k_6, 6, .inl (fun _ => 0))), (q_7, .inl (k_8, 6, .inl (fun _ => 0))), (q_9, .inl (k_10, 8, .inr (.inl (fun _ => 0))))] H := hP
  have hD : va_D A [(fo, .inr (7, [.int 1, .ref q_1, .ref q_3, .ref q_5, .ref q_7, .int 0, .ref q_9, .int 0])), (q_1, .inl (k_2, 8, .inl a_12)), (q_3, .inl (k_4, 8, .inl (upd (fun _ => 0) (0 : Int32).toNatClampNeg (12 : Int32)))), (q_5, .inl (k_6, 6, .inl (fun _ => 0))), (q_7, .inl (k_8, 6, .inl (fun _ => 0))), (q_9, .inl (k_10, 8, .inr (.inl (fun _ => 0))))] := hD
  generalize (upd (fun _ => 0) (0 : Int32).toNatClampNeg (12 : Int32)) = a_13 at hP hD
  refine lv_iinc (v := 1) (lv' := [(1, .int 1), (0, .ref fo)]) hx hb dX2_init_82 hl (k := 0) rfl (by decide) (by decide) rfl (fun ls hl => ?_)
  refine lv_goto (tgt := 61) hx hb dX2_init_85 (by decide) ?_
  refine lv_iload_n hx hb dX2_init_61 rfl (lv_at hl 0 rfl) ?_
  refine lv_bipush (v := 8) hx hb dX2_init_62 (by decide) ?_
  refine lv_icmp_ge (tgt := 88) hx hb dX2_init_64 (by decide) (fun c_14 => absurd c_14 (by decide)) (fun _ => ?_)
  refine lv_aload_n hx hb dX2_init_67 rfl (lv_at hl 1 rfl) ?_
  refine va_get (D := (dC, dI)) (ci := 7) (v := .ref q_1) (C := RX2) (T := TX2) (N := 8) hx hb hts (fun _ h9 => List.mem_cons_of_mem _ (List.mem_append_right _ (h9))) hown hK hP 0 rfl rfl 1 (by decide) (hts (.fieldLink RX2 15 "ExamHalls$Form" "least" "[I") (List.mem_of_getElem? (i := 6) rfl)) (fun _ h9 => h9) rfl dX2_init_68 ?_
  refine lv_iload_n hx hb dX2_init_71 rfl (lv_at hl 0 rfl) ?_
  refine lv_iconst (v := 1) hx hb dX2_init_72 (by decide) ?_
  refine va_iast hx hb hK hP hD hS 1 0 rfl rfl (by unfold vp_in; decide) dX2_init_73 (fun H locs hP hD hS => ?_)
  have hP : va_P (dC, dI) vwCl [(fo, .inr (7, [.int 1, .ref q_1, .ref q_3, .ref q_5, .ref q_7, .int 0, .ref q_9, .int 0])), (q_1, .inl (k_2, 8, .inl (upd a_12 (1 : Int32).toNatClampNeg (1 : Int32)))), (q_3, .inl (k_4, 8, .inl a_13)), (q_5, .inl (k_6, 6, .inl (fun _ => 0))), (q_7, .inl (k_8, 6, .inl (fun _ => 0))), (q_9, .inl (k_10, 8, .inr (.inl (fun _ => 0))))] H := hP
  have hD : va_D A [(fo, .inr (7, [.int 1, .ref q_1, .ref q_3, .ref q_5, .ref q_7, .int 0, .ref q_9, .int 0])), (q_1, .inl (k_2, 8, .inl (upd a_12 (1 : Int32).toNatClampNeg (1 : Int32)))), (q_3, .inl (k_4, 8, .inl a_13)), (q_5, .inl (k_6, 6, .inl (fun _ => 0))), (q_7, .inl (k_8, 6, .inl (fun _ => 0))), (q_9, .inl (k_10, 8, .inr (.inl (fun _ => 0))))] := hD
  generalize (upd a_12 (1 : Int32).toNatClampNeg (1 : Int32)) = a_15 at hP hD
  refine lv_aload_n hx hb dX2_init_74 rfl (lv_at hl 1 rfl) ?_
  refine va_get (D := (dC, dI)) (ci := 7) (v := .ref q_3) (C := RX2) (T := TX2) (N := 8) hx hb hts (fun _ h9 => List.mem_cons_of_mem _ (List.mem_append_right _ (h9))) hown hK hP 0 rfl rfl 2 (by decide) (hts (.fieldLink RX2 19 "ExamHalls$Form" "most" "[I") (List.mem_of_getElem? (i := 7) rfl)) (fun _ h9 => h9) rfl dX2_init_75 ?_
  refine lv_iload_n hx hb dX2_init_78 rfl (lv_at hl 0 rfl) ?_
  refine lv_bipush (v := 12) hx hb dX2_init_79 (by decide) ?_
  refine va_iast hx hb hK hP hD hS 2 1 rfl rfl (by unfold vp_in; decide) dX2_init_81 (fun H locs hP hD hS => ?_)
  have hP : va_P (dC, dI) vwCl [(fo, .inr (7, [.int 1, .ref q_1, .ref q_3, .ref q_5, .ref q_7, .int 0, .ref q_9, .int 0])), (q_1, .inl (k_2, 8, .inl a_15)), (q_3, .inl (k_4, 8, .inl (upd a_13 (1 : Int32).toNatClampNeg (12 : Int32)))), (q_5, .inl (k_6, 6, .inl (fun _ => 0))), (q_7, .inl (k_8, 6, .inl (fun _ => 0))), (q_9, .inl (k_10, 8, .inr (.inl (fun _ => 0))))] H := hP
  have hD : va_D A [(fo, .inr (7, [.int 1, .ref q_1, .ref q_3, .ref q_5, .ref q_7, .int 0, .ref q_9, .int 0])), (q_1, .inl (k_2, 8, .inl a_15)), (q_3, .inl (k_4, 8, .inl (upd a_13 (1 : Int32).toNatClampNeg (12 : Int32)))), (q_5, .inl (k_6, 6, .inl (fun _ => 0))), (q_7, .inl (k_8, 6, .inl (fun _ => 0))), (q_9, .inl (k_10, 8, .inr (.inl (fun _ => 0))))] := hD
  generalize (upd a_13 (1 : Int32).toNatClampNeg (12 : Int32)) = a_16 at hP hD
  refine lv_iinc (v := 2) (lv' := [(1, .int 2), (0, .ref fo)]) hx hb dX2_init_82 hl (k := 0) rfl (by decide) (by decide) rfl (fun ls hl => ?_)
  refine lv_goto (tgt := 61) hx hb dX2_init_85 (by decide) ?_
  refine lv_iload_n hx hb dX2_init_61 rfl (lv_at hl 0 rfl) ?_
  refine lv_bipush (v := 8) hx hb dX2_init_62 (by decide) ?_
  refine lv_icmp_ge (tgt := 88) hx hb dX2_init_64 (by decide) (fun c_17 => absurd c_17 (by decide)) (fun _ => ?_)
  refine lv_aload_n hx hb dX2_init_67 rfl (lv_at hl 1 rfl) ?_
  refine va_get (D := (dC, dI)) (ci := 7) (v := .ref q_1) (C := RX2) (T := TX2) (N := 8) hx hb hts (fun _ h9 => List.mem_cons_of_mem _ (List.mem_append_right _ (h9))) hown hK hP 0 rfl rfl 1 (by decide) (hts (.fieldLink RX2 15 "ExamHalls$Form" "least" "[I") (List.mem_of_getElem? (i := 6) rfl)) (fun _ h9 => h9) rfl dX2_init_68 ?_
  refine lv_iload_n hx hb dX2_init_71 rfl (lv_at hl 0 rfl) ?_
  refine lv_iconst (v := 1) hx hb dX2_init_72 (by decide) ?_
  refine va_iast hx hb hK hP hD hS 1 0 rfl rfl (by unfold vp_in; decide) dX2_init_73 (fun H locs hP hD hS => ?_)
  have hP : va_P (dC, dI) vwCl [(fo, .inr (7, [.int 1, .ref q_1, .ref q_3, .ref q_5, .ref q_7, .int 0, .ref q_9, .int 0])), (q_1, .inl (k_2, 8, .inl (upd a_15 (2 : Int32).toNatClampNeg (1 : Int32)))), (q_3, .inl (k_4, 8, .inl a_16)), (q_5, .inl (k_6, 6, .inl (fun _ => 0))), (q_7, .inl (k_8, 6, .inl (fun _ => 0))), (q_9, .inl (k_10, 8, .inr (.inl (fun _ => 0))))] H := hP
  have hD : va_D A [(fo, .inr (7, [.int 1, .ref q_1, .ref q_3, .ref q_5, .ref q_7, .int 0, .ref q_9, .int 0])), (q_1, .inl (k_2, 8, .inl (upd a_15 (2 : Int32).toNatClampNeg (1 : Int32)))), (q_3, .inl (k_4, 8, .inl a_16)), (q_5, .inl (k_6, 6, .inl (fun _ => 0))), (q_7, .inl (k_8, 6, .inl (fun _ => 0))), (q_9, .inl (k_10, 8, .inr (.inl (fun _ => 0))))] := hD
  generalize (upd a_15 (2 : Int32).toNatClampNeg (1 : Int32)) = a_18 at hP hD
  refine lv_aload_n hx hb dX2_init_74 rfl (lv_at hl 1 rfl) ?_
  refine va_get (D := (dC, dI)) (ci := 7) (v := .ref q_3) (C := RX2) (T := TX2) (N := 8) hx hb hts (fun _ h9 => List.mem_cons_of_mem _ (List.mem_append_right _ (h9))) hown hK hP 0 rfl rfl 2 (by decide) (hts (.fieldLink RX2 19 "ExamHalls$Form" "most" "[I") (List.mem_of_getElem? (i := 7) rfl)) (fun _ h9 => h9) rfl dX2_init_75 ?_
  refine lv_iload_n hx hb dX2_init_78 rfl (lv_at hl 0 rfl) ?_
  refine lv_bipush (v := 12) hx hb dX2_init_79 (by decide) ?_
  refine va_iast hx hb hK hP hD hS 2 1 rfl rfl (by unfold vp_in; decide) dX2_init_81 (fun H locs hP hD hS => ?_)
  have hP : va_P (dC, dI) vwCl [(fo, .inr (7, [.int 1, .ref q_1, .ref q_3, .ref q_5, .ref q_7, .int 0, .ref q_9, .int 0])), (q_1, .inl (k_2, 8, .inl a_18)), (q_3, .inl (k_4, 8, .inl (upd a_16 (2 : Int32).toNatClampNeg (12 : Int32)))), (q_5, .inl (k_6, 6, .inl (fun _ => 0))), (q_7, .inl (k_8, 6, .inl (fun _ => 0))), (q_9, .inl (k_10, 8, .inr (.inl (fun _ => 0))))] H := hP
  have hD : va_D A [(fo, .inr (7, [.int 1, .ref q_1, .ref q_3, .ref q_5, .ref q_7, .int 0, .ref q_9, .int 0])), (q_1, .inl (k_2, 8, .inl a_18)), (q_3, .inl (k_4, 8, .inl (upd a_16 (2 : Int32).toNatClampNeg (12 : Int32)))), (q_5, .inl (k_6, 6, .inl (fun _ => 0))), (q_7, .inl (k_8, 6, .inl (fun _ => 0))), (q_9, .inl (k_10, 8, .inr (.inl (fun _ => 0))))] := hD
  generalize (upd a_16 (2 : Int32).toNatClampNeg (12 : Int32)) = a_19 at hP hD
  refine lv_iinc (v := 3) (lv' := [(1, .int 3), (0, .ref fo)]) hx hb dX2_init_82 hl (k := 0) rfl (by decide) (by decide) rfl (fun ls hl => ?_)
  refine lv_goto (tgt := 61) hx hb dX2_init_85 (by decide) ?_
  refine lv_iload_n hx hb dX2_init_61 rfl (lv_at hl 0 rfl) ?_
  refine lv_bipush (v := 8) hx hb dX2_init_62 (by decide) ?_
  refine lv_icmp_ge (tgt := 88) hx hb dX2_init_64 (by decide) (fun c_20 => absurd c_20 (by decide)) (fun _ => ?_)
  refine lv_aload_n hx hb dX2_init_67 rfl (lv_at hl 1 rfl) ?_
  refine va_get (D := (dC, dI)) (ci := 7) (v := .ref q_1) (C := RX2) (T := TX2) (N := 8) hx hb hts (fun _ h9 => List.mem_cons_of_mem _ (List.mem_append_right _ (h9))) hown hK hP 0 rfl rfl 1 (by decide) (hts (.fieldLink RX2 15 "ExamHalls$Form" "least" "[I") (List.mem_of_getElem? (i := 6) rfl)) (fun _ h9 => h9) rfl dX2_init_68 ?_
  refine lv_iload_n hx hb dX2_init_71 rfl (lv_at hl 0 rfl) ?_
  refine lv_iconst (v := 1) hx hb dX2_init_72 (by decide) ?_
  refine va_iast hx hb hK hP hD hS 1 0 rfl rfl (by unfold vp_in; decide) dX2_init_73 (fun H locs hP hD hS => ?_)
  have hP : va_P (dC, dI) vwCl [(fo, .inr (7, [.int 1, .ref q_1, .ref q_3, .ref q_5, .ref q_7, .int 0, .ref q_9, .int 0])), (q_1, .inl (k_2, 8, .inl (upd a_18 (3 : Int32).toNatClampNeg (1 : Int32)))), (q_3, .inl (k_4, 8, .inl a_19)), (q_5, .inl (k_6, 6, .inl (fun _ => 0))), (q_7, .inl (k_8, 6, .inl (fun _ => 0))), (q_9, .inl (k_10, 8, .inr (.inl (fun _ => 0))))] H := hP
  have hD : va_D A [(fo, .inr (7, [.int 1, .ref q_1, .ref q_3, .ref q_5, .ref q_7, .int 0, .ref q_9, .int 0])), (q_1, .inl (k_2, 8, .inl (upd a_18 (3 : Int32).toNatClampNeg (1 : Int32)))), (q_3, .inl (k_4, 8, .inl a_19)), (q_5, .inl (k_6, 6, .inl (fun _ => 0))), (q_7, .inl (k_8, 6, .inl (fun _ => 0))), (q_9, .inl (k_10, 8, .inr (.inl (fun _ => 0))))] := hD
  generalize (upd a_18 (3 : Int32).toNatClampNeg (1 : Int32)) = a_21 at hP hD
  refine lv_aload_n hx hb dX2_init_74 rfl (lv_at hl 1 rfl) ?_
  refine va_get (D := (dC, dI)) (ci := 7) (v := .ref q_3) (C := RX2) (T := TX2) (N := 8) hx hb hts (fun _ h9 => List.mem_cons_of_mem _ (List.mem_append_right _ (h9))) hown hK hP 0 rfl rfl 2 (by decide) (hts (.fieldLink RX2 19 "ExamHalls$Form" "most" "[I") (List.mem_of_getElem? (i := 7) rfl)) (fun _ h9 => h9) rfl dX2_init_75 ?_
  refine lv_iload_n hx hb dX2_init_78 rfl (lv_at hl 0 rfl) ?_
  refine lv_bipush (v := 12) hx hb dX2_init_79 (by decide) ?_
  refine va_iast hx hb hK hP hD hS 2 1 rfl rfl (by unfold vp_in; decide) dX2_init_81 (fun H locs hP hD hS => ?_)
  have hP : va_P (dC, dI) vwCl [(fo, .inr (7, [.int 1, .ref q_1, .ref q_3, .ref q_5, .ref q_7, .int 0, .ref q_9, .int 0])), (q_1, .inl (k_2, 8, .inl a_21)), (q_3, .inl (k_4, 8, .inl (upd a_19 (3 : Int32).toNatClampNeg (12 : Int32)))), (q_5, .inl (k_6, 6, .inl (fun _ => 0))), (q_7, .inl (k_8, 6, .inl (fun _ => 0))), (q_9, .inl (k_10, 8, .inr (.inl (fun _ => 0))))] H := hP
  have hD : va_D A [(fo, .inr (7, [.int 1, .ref q_1, .ref q_3, .ref q_5, .ref q_7, .int 0, .ref q_9, .int 0])), (q_1, .inl (k_2, 8, .inl a_21)), (q_3, .inl (k_4, 8, .inl (upd a_19 (3 : Int32).toNatClampNeg (12 : Int32)))), (q_5, .inl (k_6, 6, .inl (fun _ => 0))), (q_7, .inl (k_8, 6, .inl (fun _ => 0))), (q_9, .inl (k_10, 8, .inr (.inl (fun _ => 0))))] := hD
  generalize (upd a_19 (3 : Int32).toNatClampNeg (12 : Int32)) = a_22 at hP hD
  refine lv_iinc (v := 4) (lv' := [(1, .int 4), (0, .ref fo)]) hx hb dX2_init_82 hl (k := 0) rfl (by decide) (by decide) rfl (fun ls hl => ?_)
  refine lv_goto (tgt := 61) hx hb dX2_init_85 (by decide) ?_
  refine lv_iload_n hx hb dX2_init_61 rfl (lv_at hl 0 rfl) ?_
  refine lv_bipush (v := 8) hx hb dX2_init_62 (by decide) ?_
  refine lv_icmp_ge (tgt := 88) hx hb dX2_init_64 (by decide) (fun c_23 => absurd c_23 (by decide)) (fun _ => ?_)
  refine lv_aload_n hx hb dX2_init_67 rfl (lv_at hl 1 rfl) ?_
  refine va_get (D := (dC, dI)) (ci := 7) (v := .ref q_1) (C := RX2) (T := TX2) (N := 8) hx hb hts (fun _ h9 => List.mem_cons_of_mem _ (List.mem_append_right _ (h9))) hown hK hP 0 rfl rfl 1 (by decide) (hts (.fieldLink RX2 15 "ExamHalls$Form" "least" "[I") (List.mem_of_getElem? (i := 6) rfl)) (fun _ h9 => h9) rfl dX2_init_68 ?_
  refine lv_iload_n hx hb dX2_init_71 rfl (lv_at hl 0 rfl) ?_
  refine lv_iconst (v := 1) hx hb dX2_init_72 (by decide) ?_
  refine va_iast hx hb hK hP hD hS 1 0 rfl rfl (by unfold vp_in; decide) dX2_init_73 (fun H locs hP hD hS => ?_)
  have hP : va_P (dC, dI) vwCl [(fo, .inr (7, [.int 1, .ref q_1, .ref q_3, .ref q_5, .ref q_7, .int 0, .ref q_9, .int 0])), (q_1, .inl (k_2, 8, .inl (upd a_21 (4 : Int32).toNatClampNeg (1 : Int32)))), (q_3, .inl (k_4, 8, .inl a_22)), (q_5, .inl (k_6, 6, .inl (fun _ => 0))), (q_7, .inl (k_8, 6, .inl (fun _ => 0))), (q_9, .inl (k_10, 8, .inr (.inl (fun _ => 0))))] H := hP
  have hD : va_D A [(fo, .inr (7, [.int 1, .ref q_1, .ref q_3, .ref q_5, .ref q_7, .int 0, .ref q_9, .int 0])), (q_1, .inl (k_2, 8, .inl (upd a_21 (4 : Int32).toNatClampNeg (1 : Int32)))), (q_3, .inl (k_4, 8, .inl a_22)), (q_5, .inl (k_6, 6, .inl (fun _ => 0))), (q_7, .inl (k_8, 6, .inl (fun _ => 0))), (q_9, .inl (k_10, 8, .inr (.inl (fun _ => 0))))] := hD
  generalize (upd a_21 (4 : Int32).toNatClampNeg (1 : Int32)) = a_24 at hP hD
  refine lv_aload_n hx hb dX2_init_74 rfl (lv_at hl 1 rfl) ?_
  refine va_get (D := (dC, dI)) (ci := 7) (v := .ref q_3) (C := RX2) (T := TX2) (N := 8) hx hb hts (fun _ h9 => List.mem_cons_of_mem _ (List.mem_append_right _ (h9))) hown hK hP 0 rfl rfl 2 (by decide) (hts (.fieldLink RX2 19 "ExamHalls$Form" "most" "[I") (List.mem_of_getElem? (i := 7) rfl)) (fun _ h9 => h9) rfl dX2_init_75 ?_
  refine lv_iload_n hx hb dX2_init_78 rfl (lv_at hl 0 rfl) ?_
  refine lv_bipush (v := 12) hx hb dX2_init_79 (by decide) ?_
  refine va_iast hx hb hK hP hD hS 2 1 rfl rfl (by unfold vp_in; decide) dX2_init_81 (fun H locs hP hD hS => ?_)
  have hP : va_P (dC, dI) vwCl [(fo, .inr (7, [.int 1, .ref q_1, .ref q_3, .ref q_5, .ref q_7, .int 0, .ref q_9, .int 0])), (q_1, .inl (k_2, 8, .inl a_24)), (q_3, .inl (k_4, 8, .inl (upd a_22 (4 : Int32).toNatClampNeg (12 : Int32)))), (q_5, .inl (k_6, 6, .inl (fun _ => 0))), (q_7, .inl (k_8, 6, .inl (fun _ => 0))), (q_9, .inl (k_10, 8, .inr (.inl (fun _ => 0))))] H := hP
  have hD : va_D A [(fo, .inr (7, [.int 1, .ref q_1, .ref q_3, .ref q_5, .ref q_7, .int 0, .ref q_9, .int 0])), (q_1, .inl (k_2, 8, .inl a_24)), (q_3, .inl (k_4, 8, .inl (upd a_22 (4 : Int32).toNatClampNeg (12 : Int32)))), (q_5, .inl (k_6, 6, .inl (fun _ => 0))), (q_7, .inl (k_8, 6, .inl (fun _ => 0))), (q_9, .inl (k_10, 8, .inr (.inl (fun _ => 0))))] := hD
  generalize (upd a_22 (4 : Int32).toNatClampNeg (12 : Int32)) = a_25 at hP hD
  refine lv_iinc (v := 5) (lv' := [(1, .int 5), (0, .ref fo)]) hx hb dX2_init_82 hl (k := 0) rfl (by decide) (by decide) rfl (fun ls hl => ?_)
  refine lv_goto (tgt := 61) hx hb dX2_init_85 (by decide) ?_
  refine lv_iload_n hx hb dX2_init_61 rfl (lv_at hl 0 rfl) ?_
  refine lv_bipush (v := 8) hx hb dX2_init_62 (by decide) ?_
  refine lv_icmp_ge (tgt := 88) hx hb dX2_init_64 (by decide) (fun c_26 => absurd c_26 (by decide)) (fun _ => ?_)
  refine lv_aload_n hx hb dX2_init_67 rfl (lv_at hl 1 rfl) ?_
  refine va_get (D := (dC, dI)) (ci := 7) (v := .ref q_1) (C := RX2) (T := TX2) (N := 8) hx hb hts (fun _ h9 => List.mem_cons_of_mem _ (List.mem_append_right _ (h9))) hown hK hP 0 rfl rfl 1 (by decide) (hts (.fieldLink RX2 15 "ExamHalls$Form" "least" "[I") (List.mem_of_getElem? (i := 6) rfl)) (fun _ h9 => h9) rfl dX2_init_68 ?_
  refine lv_iload_n hx hb dX2_init_71 rfl (lv_at hl 0 rfl) ?_
  refine lv_iconst (v := 1) hx hb dX2_init_72 (by decide) ?_
  refine va_iast hx hb hK hP hD hS 1 0 rfl rfl (by unfold vp_in; decide) dX2_init_73 (fun H locs hP hD hS => ?_)
  have hP : va_P (dC, dI) vwCl [(fo, .inr (7, [.int 1, .ref q_1, .ref q_3, .ref q_5, .ref q_7, .int 0, .ref q_9, .int 0])), (q_1, .inl (k_2, 8, .inl (upd a_24 (5 : Int32).toNatClampNeg (1 : Int32)))), (q_3, .inl (k_4, 8, .inl a_25)), (q_5, .inl (k_6, 6, .inl (fun _ => 0))), (q_7, .inl (k_8, 6, .inl (fun _ => 0))), (q_9, .inl (k_10, 8, .inr (.inl (fun _ => 0))))] H := hP
  have hD : va_D A [(fo, .inr (7, [.int 1, .ref q_1, .ref q_3, .ref q_5, .ref q_7, .int 0, .ref q_9, .int 0])), (q_1, .inl (k_2, 8, .inl (upd a_24 (5 : Int32).toNatClampNeg (1 : Int32)))), (q_3, .inl (k_4, 8, .inl a_25)), (q_5, .inl (k_6, 6, .inl (fun _ => 0))), (q_7, .inl (k_8, 6, .inl (fun _ => 0))), (q_9, .inl (k_10, 8, .inr (.inl (fun _ => 0))))] := hD
  generalize (upd a_24 (5 : Int32).toNatClampNeg (1 : Int32)) = a_27 at hP hD
  refine lv_aload_n hx hb dX2_init_74 rfl (lv_at hl 1 rfl) ?_
  refine va_get (D := (dC, dI)) (ci := 7) (v := .ref q_3) (C := RX2) (T := TX2) (N := 8) hx hb hts (fun _ h9 => List.mem_cons_of_mem _ (List.mem_append_right _ (h9))) hown hK hP 0 rfl rfl 2 (by decide) (hts (.fieldLink RX2 19 "ExamHalls$Form" "most" "[I") (List.mem_of_getElem? (i := 7) rfl)) (fun _ h9 => h9) rfl dX2_init_75 ?_
  refine lv_iload_n hx hb dX2_init_78 rfl (lv_at hl 0 rfl) ?_
  refine lv_bipush (v := 12) hx hb dX2_init_79 (by decide) ?_
  refine va_iast hx hb hK hP hD hS 2 1 rfl rfl (by unfold vp_in; decide) dX2_init_81 (fun H locs hP hD hS => ?_)
  have hP : va_P (dC, dI) vwCl [(fo, .inr (7, [.int 1, .ref q_1, .ref q_3, .ref q_5, .ref q_7, .int 0, .ref q_9, .int 0])), (q_1, .inl (k_2, 8, .inl a_27)), (q_3, .inl (k_4, 8, .inl (upd a_25 (5 : Int32).toNatClampNeg (12 : Int32)))), (q_5, .inl (k_6, 6, .inl (fun _ => 0))), (q_7, .inl (k_8, 6, .inl (fun _ => 0))), (q_9, .inl (k_10, 8, .inr (.inl (fun _ => 0))))] H := hP
  have hD : va_D A [(fo, .inr (7, [.int 1, .ref q_1, .ref q_3, .ref q_5, .ref q_7, .int 0, .ref q_9, .int 0])), (q_1, .inl (k_2, 8, .inl a_27)), (q_3, .inl (k_4, 8, .inl (upd a_25 (5 : Int32).toNatClampNeg (12 : Int32)))), (q_5, .inl (k_6, 6, .inl (fun _ => 0))), (q_7, .inl (k_8, 6, .inl (fun _ => 0))), (q_9, .inl (k_10, 8, .inr (.inl (fun _ => 0))))] := hD
  generalize (upd a_25 (5 : Int32).toNatClampNeg (12 : Int32)) = a_28 at hP hD
  refine lv_iinc (v := 6) (lv' := [(1, .int 6), (0, .ref fo)]) hx hb dX2_init_82 hl (k := 0) rfl (by decide) (by decide) rfl (fun ls hl => ?_)
  refine lv_goto (tgt := 61) hx hb dX2_init_85 (by decide) ?_
  refine lv_iload_n hx hb dX2_init_61 rfl (lv_at hl 0 rfl) ?_
  refine lv_bipush (v := 8) hx hb dX2_init_62 (by decide) ?_
  refine lv_icmp_ge (tgt := 88) hx hb dX2_init_64 (by decide) (fun c_29 => absurd c_29 (by decide)) (fun _ => ?_)
  refine lv_aload_n hx hb dX2_init_67 rfl (lv_at hl 1 rfl) ?_
  refine va_get (D := (dC, dI)) (ci := 7) (v := .ref q_1) (C := RX2) (T := TX2) (N := 8) hx hb hts (fun _ h9 => List.mem_cons_of_mem _ (List.mem_append_right _ (h9))) hown hK hP 0 rfl rfl 1 (by decide) (hts (.fieldLink RX2 15 "ExamHalls$Form" "least" "[I") (List.mem_of_getElem? (i := 6) rfl)) (fun _ h9 => h9) rfl dX2_init_68 ?_
  refine lv_iload_n hx hb dX2_init_71 rfl (lv_at hl 0 rfl) ?_
  refine lv_iconst (v := 1) hx hb dX2_init_72 (by decide) ?_
  refine va_iast hx hb hK hP hD hS 1 0 rfl rfl (by unfold vp_in; decide) dX2_init_73 (fun H locs hP hD hS => ?_)
  have hP : va_P (dC, dI) vwCl [(fo, .inr (7, [.int 1, .ref q_1, .ref q_3, .ref q_5, .ref q_7, .int 0, .ref q_9, .int 0])), (q_1, .inl (k_2, 8, .inl (upd a_27 (6 : Int32).toNatClampNeg (1 : Int32)))), (q_3, .inl (k_4, 8, .inl a_28)), (q_5, .inl (k_6, 6, .inl (fun _ => 0))), (q_7, .inl (k_8, 6, .inl (fun _ => 0))), (q_9, .inl (k_10, 8, .inr (.inl (fun _ => 0))))] H := hP
  have hD : va_D A [(fo, .inr (7, [.int 1, .ref q_1, .ref q_3, .ref q_5, .ref q_7, .int 0, .ref q_9, .int 0])), (q_1, .inl (k_2, 8, .inl (upd a_27 (6 : Int32).toNatClampNeg (1 : Int32)))), (q_3, .inl (k_4, 8, .inl a_28)), (q_5, .inl (k_6, 6, .inl (fun _ => 0))), (q_7, .inl (k_8, 6, .inl (fun _ => 0))), (q_9, .inl (k_10, 8, .inr (.inl (fun _ => 0))))] := hD
  generalize (upd a_27 (6 : Int32).toNatClampNeg (1 : Int32)) = a_30 at hP hD
  refine lv_aload_n hx hb dX2_init_74 rfl (lv_at hl 1 rfl) ?_
  refine va_get (D := (dC, dI)) (ci := 7) (v := .ref q_3) (C := RX2) (T := TX2) (N := 8) hx hb hts (fun _ h9 => List.mem_cons_of_mem _ (List.mem_append_right _ (h9))) hown hK hP 0 rfl rfl 2 (by decide) (hts (.fieldLink RX2 19 "ExamHalls$Form" "most" "[I") (List.mem_of_getElem? (i := 7) rfl)) (fun _ h9 => h9) rfl dX2_init_75 ?_
  refine lv_iload_n hx hb dX2_init_78 rfl (lv_at hl 0 rfl) ?_
  refine lv_bipush (v := 12) hx hb dX2_init_79 (by decide) ?_
  refine va_iast hx hb hK hP hD hS 2 1 rfl rfl (by unfold vp_in; decide) dX2_init_81 (fun H locs hP hD hS => ?_)
  have hP : va_P (dC, dI) vwCl [(fo, .inr (7, [.int 1, .ref q_1, .ref q_3, .ref q_5, .ref q_7, .int 0, .ref q_9, .int 0])), (q_1, .inl (k_2, 8, .inl a_30)), (q_3, .inl (k_4, 8, .inl (upd a_28 (6 : Int32).toNatClampNeg (12 : Int32)))), (q_5, .inl (k_6, 6, .inl (fun _ => 0))), (q_7, .inl (k_8, 6, .inl (fun _ => 0))), (q_9, .inl (k_10, 8, .inr (.inl (fun _ => 0))))] H := hP
  have hD : va_D A [(fo, .inr (7, [.int 1, .ref q_1, .ref q_3, .ref q_5, .ref q_7, .int 0, .ref q_9, .int 0])), (q_1, .inl (k_2, 8, .inl a_30)), (q_3, .inl (k_4, 8, .inl (upd a_28 (6 : Int32).toNatClampNeg (12 : Int32)))), (q_5, .inl (k_6, 6, .inl (fun _ => 0))), (q_7, .inl (k_8, 6, .inl (fun _ => 0))), (q_9, .inl (k_10, 8, .inr (.inl (fun _ => 0))))] := hD
  generalize (upd a_28 (6 : Int32).toNatClampNeg (12 : Int32)) = a_31 at hP hD
  refine lv_iinc (v := 7) (lv' := [(1, .int 7), (0, .ref fo)]) hx hb dX2_init_82 hl (k := 0) rfl (by decide) (by decide) rfl (fun ls hl => ?_)
  refine lv_goto (tgt := 61) hx hb dX2_init_85 (by decide) ?_
  refine lv_iload_n hx hb dX2_init_61 rfl (lv_at hl 0 rfl) ?_
  refine lv_bipush (v := 8) hx hb dX2_init_62 (by decide) ?_
  refine lv_icmp_ge (tgt := 88) hx hb dX2_init_64 (by decide) (fun c_32 => absurd c_32 (by decide)) (fun _ => ?_)
  refine lv_aload_n hx hb dX2_init_67 rfl (lv_at hl 1 rfl) ?_
  refine va_get (D := (dC, dI)) (ci := 7) (v := .ref q_1) (C := RX2) (T := TX2) (N := 8) hx hb hts (fun _ h9 => List.mem_cons_of_mem _ (List.mem_append_right _ (h9))) hown hK hP 0 rfl rfl 1 (by decide) (hts (.fieldLink RX2 15 "ExamHalls$Form" "least" "[I") (List.mem_of_getElem? (i := 6) rfl)) (fun _ h9 => h9) rfl dX2_init_68 ?_
  refine lv_iload_n hx hb dX2_init_71 rfl (lv_at hl 0 rfl) ?_
  refine lv_iconst (v := 1) hx hb dX2_init_72 (by decide) ?_
  refine va_iast hx hb hK hP hD hS 1 0 rfl rfl (by unfold vp_in; decide) dX2_init_73 (fun H locs hP hD hS => ?_)
  have hP : va_P (dC, dI) vwCl [(fo, .inr (7, [.int 1, .ref q_1, .ref q_3, .ref q_5, .ref q_7, .int 0, .ref q_9, .int 0])), (q_1, .inl (k_2, 8, .inl (upd a_30 (7 : Int32).toNatClampNeg (1 : Int32)))), (q_3, .inl (k_4, 8, .inl a_31)), (q_5, .inl (k_6, 6, .inl (fun _ => 0))), (q_7, .inl (k_8, 6, .inl (fun _ => 0))), (q_9, .inl (k_10, 8, .inr (.inl (fun _ => 0))))] H := hP
  have hD : va_D A [(fo, .inr (7, [.int 1, .ref q_1, .ref q_3, .ref q_5, .ref q_7, .int 0, .ref q_9, .int 0])), (q_1, .inl (k_2, 8, .inl (upd a_30 (7 : Int32).toNatClampNeg (1 : Int32)))), (q_3, .inl (k_4, 8, .inl a_31)), (q_5, .inl (k_6, 6, .inl (fun _ => 0))), (q_7, .inl (k_8, 6, .inl (fun _ => 0))), (q_9, .inl (k_10, 8, .inr (.inl (fun _ => 0))))] := hD
  generalize (upd a_30 (7 : Int32).toNatClampNeg (1 : Int32)) = a_33 at hP hD
  refine lv_aload_n hx hb dX2_init_74 rfl (lv_at hl 1 rfl) ?_
  refine va_get (D := (dC, dI)) (ci := 7) (v := .ref q_3) (C := RX2) (T := TX2) (N := 8) hx hb hts (fun _ h9 => List.mem_cons_of_mem _ (List.mem_append_right _ (h9))) hown hK hP 0 rfl rfl 2 (by decide) (hts (.fieldLink RX2 19 "ExamHalls$Form" "most" "[I") (List.mem_of_getElem? (i := 7) rfl)) (fun _ h9 => h9) rfl dX2_init_75 ?_
  refine lv_iload_n hx hb dX2_init_78 rfl (lv_at hl 0 rfl) ?_
  refine lv_bipush (v := 12) hx hb dX2_init_79 (by decide) ?_
  refine va_iast hx hb hK hP hD hS 2 1 rfl rfl (by unfold vp_in; decide) dX2_init_81 (fun H locs hP hD hS => ?_)
  have hP : va_P (dC, dI) vwCl [(fo, .inr (7, [.int 1, .ref q_1, .ref q_3, .ref q_5, .ref q_7, .int 0, .ref q_9, .int 0])), (q_1, .inl (k_2, 8, .inl a_33)), (q_3, .inl (k_4, 8, .inl (upd a_31 (7 : Int32).toNatClampNeg (12 : Int32)))), (q_5, .inl (k_6, 6, .inl (fun _ => 0))), (q_7, .inl (k_8, 6, .inl (fun _ => 0))), (q_9, .inl (k_10, 8, .inr (.inl (fun _ => 0))))] H := hP
  have hD : va_D A [(fo, .inr (7, [.int 1, .ref q_1, .ref q_3, .ref q_5, .ref q_7, .int 0, .ref q_9, .int 0])), (q_1, .inl (k_2, 8, .inl a_33)), (q_3, .inl (k_4, 8, .inl (upd a_31 (7 : Int32).toNatClampNeg (12 : Int32)))), (q_5, .inl (k_6, 6, .inl (fun _ => 0))), (q_7, .inl (k_8, 6, .inl (fun _ => 0))), (q_9, .inl (k_10, 8, .inr (.inl (fun _ => 0))))] := hD
  generalize (upd a_31 (7 : Int32).toNatClampNeg (12 : Int32)) = a_34 at hP hD
  refine lv_iinc (v := 8) (lv' := [(1, .int 8), (0, .ref fo)]) hx hb dX2_init_82 hl (k := 0) rfl (by decide) (by decide) rfl (fun ls hl => ?_)
  refine lv_goto (tgt := 61) hx hb dX2_init_85 (by decide) ?_
  refine lv_iload_n hx hb dX2_init_61 rfl (lv_at hl 0 rfl) ?_
  refine lv_bipush (v := 8) hx hb dX2_init_62 (by decide) ?_
  refine lv_icmp_ge (tgt := 88) hx hb dX2_init_64 (by decide) (fun _ => ?_) (fun c_35 => absurd (by decide) c_35)
  have hP9 := hP.sub (ws' := [(fo, .inr (7, [.int 1, .ref q_1, .ref q_3, .ref q_5, .ref q_7, .int 0, .ref q_9, .int 0])), (q_1, .inl (k_2, 8, .inl a_33)), (q_3, .inl (k_4, 8, .inl a_34)), (q_5, .inl (k_6, 6, .inl (fun _ => 0))), (q_7, .inl (k_8, 6, .inl (fun _ => 0))), (q_9, .inl (k_10, 8, .inr (.inl (fun _ => 0))))]) [0, 1, 2, 3, 4, 5] rfl
  have hD9 := hD.sub (ws' := [(fo, .inr (7, [.int 1, .ref q_1, .ref q_3, .ref q_5, .ref q_7, .int 0, .ref q_9, .int 0])), (q_1, .inl (k_2, 8, .inl a_33)), (q_3, .inl (k_4, 8, .inl a_34)), (q_5, .inl (k_6, 6, .inl (fun _ => 0))), (q_7, .inl (k_8, 6, .inl (fun _ => 0))), (q_9, .inl (k_10, 8, .inr (.inl (fun _ => 0))))]) [0, 1, 2, 3, 4, 5] (by decide) rfl
  have hK9 := hK.sub (tys' := [(k_2, .int), (k_4, .int), (k_6, .int), (k_8, .int), (k_10, .long)]) [0, 1, 2, 3, 4] rfl
  exact W.vret hx hb hr (fun t ht hW => ⟨⟨(), rfl, trivial, q_1, q_3, q_5, q_7, q_9, k_2, k_4, k_6, k_8, k_10, a_33, a_34, by rw [ht]; exact hP9, va_K.moved hW.alike hK9, hD9⟩, hS.F ht⟩) hS.2.2 dX2_init_88

set_option maxHeartbeats 4000000 in
set_option maxRecDepth 100000 in
theorem c_X5_init (l : Launch) (dC : Nat → ClassId) (dI : Nat → Nat → Nat) (x : Nat) (sz : Nat) : Met l yX5_init wsX5_init ({ frames := 2, cells := 15, slots := 408, locals := 33 }) (va_Pc [.ref x] (PQ dC dI sz [(x, .inr (10, [.null, .int 0, .null, .int 0, .null, .null, .int 0, .null, .int 0, .int 0, .null, .null, .null, .null]))] [])) (va_Qv (fun _ : Unit => True) (fun _ t => ∃ (cd : Nat) (rd : Nat) (tp : Nat) (fo : Nat) (qu : Nat) (sh : Nat) (vs : Nat) (pa : Nat) (pb : Nat) (tb : Nat) (le : Nat) (mo : Nat) (os : Nat) (ps : Nat) (br : Nat) (kl : ClassId) (km : ClassId) (ko : ClassId) (kp : ClassId) (kb : ClassId) (fl : Nat → Int32) (fm : Nat → Int32) (kC : ClassId) (kR : ClassId) (kB : ClassId) (kq : ClassId), va_P (dC, dI) vwCl [(x, .inr (10, [.ref cd, .int 0, .ref rd, .int 0, .ref tp, .ref fo, .int 10, .ref qu, .int 0, .int 0, .ref sh, .ref vs, .ref pa, .ref pb])), (cd, .inl (kC, 24, .inr (.inr (.inr (.inr (fun _ => none)))))), (rd, .inl (kR, 6, .inr (.inr (.inr (.inr (fun _ => none)))))), (tp, .inr (9, [.ref tb, .int 0])), (tb, .inl (kB, 250, .inl (fun _ => 0))), (fo, .inr (7, [.int 1, .ref le, .ref mo, .ref os, .ref ps, .int 0, .ref br, .int 0])), (le, .inl (kl, 8, .inl fl)), (mo, .inl (km, 8, .inl fm)), (os, .inl (ko, 6, .inl (fun _ => 0))), (ps, .inl (kp, 6, .inl (fun _ => 0))), (br, .inl (kb, 8, .inr (.inl (fun _ => 0)))), (qu, .inl (kq, 4, .inl (fun _ => 0)))] t.heap ∧ va_K (dC, dI) vwCl [(kC, .object "ExamHalls$Candidate"), (kR, .object "ExamHalls$Reader"), (kB, .byte), (kl, .int), (km, .int), (ko, .int), (kp, .int), (kb, .long), (kq, .int)] t ∧ va_D (va_A [(x, .inr (10, [.null, .int 0, .null, .int 0, .null, .null, .int 0, .null, .int 0, .int 0, .null, .null, .null, .null]))] sz) [(x, .inr (10, [.ref cd, .int 0, .ref rd, .int 0, .ref tp, .ref fo, .int 10, .ref qu, .int 0, .int 0, .ref sh, .ref vs, .ref pa, .ref pb])), (cd, .inl (kC, 24, .inr (.inr (.inr (.inr (fun _ => none)))))), (rd, .inl (kR, 6, .inr (.inr (.inr (.inr (fun _ => none)))))), (tp, .inr (9, [.ref tb, .int 0])), (tb, .inl (kB, 250, .inl (fun _ => 0))), (fo, .inr (7, [.int 1, .ref le, .ref mo, .ref os, .ref ps, .int 0, .ref br, .int 0])), (le, .inl (kl, 8, .inl fl)), (mo, .inl (km, 8, .inl fm)), (os, .inl (ko, 6, .inl (fun _ => 0))), (ps, .inl (kp, 6, .inl (fun _ => 0))), (br, .inl (kb, 8, .inr (.inl (fun _ => 0)))), (qu, .inl (kq, 4, .inl (fun _ => 0)))]) (va_A [(x, .inr (10, [.null, .int 0, .null, .int 0, .null, .null, .int 0, .null, .int 0, .int 0, .null, .null, .null, .null]))] sz)) 15 408 (va_A [(x, .inr (10, [.null, .int 0, .null, .int 0, .null, .null, .int 0, .null, .int 0, .int 0, .null, .null, .null, .null]))] sz) := by
  refine Met.ofW (cc := cX5_init) (maxL := 1) (ret := none) (by decide) rfl ?_
  intro p e s m args below meth c s₁ B hml hv
  obtain ⟨rfl, hsz, hP, hK, hD0, hF⟩ := hv
  have hx := B.exec
  have hb := B.bytes
  have hr := B.returns
  have hts := atoms_spec (ws := wsX5_init) B.pre
  have hown : s.vm.findClass RX5 = some m.cls := findClass_of_methodNamed B.named
  have hlocks := B.notSynchronized
  have hin : meth.name = "<init>" := (name_of_methodNamed B.named B.method).1
  subst hsz
  have hD := hD0.self (sz := s.heap.size)
  generalize hAe : va_A [(x, .inr (10, [.null, .int 0, .null, .int 0, .null, .null, .int 0, .null, .int 0, .int 0, .null, .null, .null, .null]))] s.heap.size = A at hD ⊢
  have hA : ∀ q : Nat, s.heap.size ≤ q → A q := fun q h => by rw [← hAe]; exact Or.inr h
  have hS : va_S A s.heap s.heap [] := va_S.rf
  have hl := lv_entry ([.ref x]) (n := 1) (Nat.le_of_ble_eq_true rfl)
  rw [lg_entry_eq]
  generalize (lg_sl ([.ref x]) ++ List.replicate (1 - (lg_sl ([.ref x])).length) Slot.unset).toArray = ls at hl ⊢
  have hl : lv_has ls 1 [(0, .ref x)] := hl
  refine lv_aload_n hx hb dX5_init_0 rfl (lv_at hl 0 rfl) ?_
  refine W.objInit hx hb hown (hts (.methodLink RX5 1 objectInit) (List.mem_of_getElem? (i := 1) rfl)) (hts (.instanceMethod objectInit) (List.mem_of_getElem? (i := 2) rfl)) (hts _ (List.mem_of_getElem? (i := 3) rfl)) rfl (by rw [hml]; exact hl.1) rfl dX5_init_1 (Nat.le_of_ble_eq_true rfl) (Nat.le_of_ble_eq_true rfl) ?_
  refine W.eq (g2 := F0 m 4 ls []) rfl ?_
  refine lv_aload_n hx hb dX5_init_4 rfl (lv_at hl 0 rfl) ?_
  refine lv_bipush (v := 24) hx hb dX5_init_5 (by decide) ?_
  refine va_newq hx hb hown (hts (.classLink RX5 9 RX0) (List.mem_of_getElem? (i := 4) rfl)) (Ft.ao hF "ExamHalls$Candidate" (by decide)) hK hP hD hS hA (by decide) (N' := 24) (by decide) (Nat.le_of_ble_eq_true rfl) (Nat.le_of_ble_eq_true rfl) (Nat.le_of_ble_eq_true rfl) dX5_init_7 (fun q_1 k_2 H hK hP hD hS => ?_)
  have hP : va_P (dC, dI) vwCl [(x, .inr (10, [.null, .int 0, .null, .int 0, .null, .null, .int 0, .null, .int 0, .int 0, .null, .null, .null, .null])), (q_1, .inl (k_2, 24, .inr (.inr (.inr (.inr (fun _ => none))))))] H := hP
  have hD : va_D A [(x, .inr (10, [.null, .int 0, .null, .int 0, .null, .null, .int 0, .null, .int 0, .int 0, .null, .null, .null, .null])), (q_1, .inl (k_2, 24, .inr (.inr (.inr (.inr (fun _ => none))))))] := hD
  have hK : va_K (dC, dI) vwCl [(k_2, .object "ExamHalls$Candidate")] s := hK
  refine W.widen (k := 1) (n := 24) (Nat.le_of_ble_eq_true rfl) (Nat.le_of_ble_eq_true rfl) ?_
  refine va_putF (D := (dC, dI)) (ci := 10) (v := .ref q_1) (ty := .array (.object "ExamHalls$Candidate")) (C := RX5) (T := TX5) (N := 14) hx hb hts (fun _ h9 => List.mem_cons_of_mem _ (List.mem_append_left _ (List.mem_append_left _ (List.mem_append_right _ (h9))))) tyX5 tyX5_ok nmX5 hown hK hP hD hS 0 rfl rfl 0 (by decide) (hts (.fieldLink RX5 11 "ExamHalls" "candidates" "[LExamHalls$Candidate;") (List.mem_of_getElem? (i := 5) rfl)) (fun _ h9 => h9) rfl hin rfl (by decide +kernel) rfl rfl (Nat.le_of_ble_eq_true rfl) dX5_init_10 (fun H locs hP hD hS => ?_)
  have hP : va_P (dC, dI) vwCl [(x, .inr (10, [.ref q_1, .int 0, .null, .int 0, .null, .null, .int 0, .null, .int 0, .int 0, .null, .null, .null, .null])), (q_1, .inl (k_2, 24, .inr (.inr (.inr (.inr (fun _ => none))))))] H := hP
  have hD : va_D A [(x, .inr (10, [.ref q_1, .int 0, .null, .int 0, .null, .null, .int 0, .null, .int 0, .int 0, .null, .null, .null, .null])), (q_1, .inl (k_2, 24, .inr (.inr (.inr (.inr (fun _ => none))))))] := hD
  refine lv_aload_n hx hb dX5_init_13 rfl (lv_at hl 0 rfl) ?_
  refine lv_iconst (v := 0) hx hb dX5_init_14 (by decide) ?_
  refine va_put (D := (dC, dI)) (ci := 10) (v := .int 0) (ty := .int) (C := RX5) (T := TX5) (N := 14) hx hb hts (fun _ h9 => List.mem_cons_of_mem _ (List.mem_append_left _ (List.mem_append_left _ (List.mem_append_right _ (h9))))) tyX5 tyX5_ok nmX5 hown hK hP hD hS 0 rfl rfl 1 (by decide) (hts (.fieldLink RX5 15 "ExamHalls" "candidateCount" "I") (List.mem_of_getElem? (i := 6) rfl)) (fun _ h9 => h9) rfl (by decide +kernel) rfl rfl (Nat.le_of_ble_eq_true rfl) dX5_init_15 (fun H locs hP hD hS => ?_)
  have hP : va_P (dC, dI) vwCl [(x, .inr (10, [.ref q_1, .int 0, .null, .int 0, .null, .null, .int 0, .null, .int 0, .int 0, .null, .null, .null, .null])), (q_1, .inl (k_2, 24, .inr (.inr (.inr (.inr (fun _ => none))))))] H := hP
  have hD : va_D A [(x, .inr (10, [.ref q_1, .int 0, .null, .int 0, .null, .null, .int 0, .null, .int 0, .int 0, .null, .null, .null, .null])), (q_1, .inl (k_2, 24, .inr (.inr (.inr (.inr (fun _ => none))))))] := hD
  refine lv_aload_n hx hb dX5_init_18 rfl (lv_at hl 0 rfl) ?_
  refine lv_bipush (v := 6) hx hb dX5_init_19 (by decide) ?_
  refine va_newq hx hb hown (hts (.classLink RX5 19 RX3) (List.mem_of_getElem? (i := 7) rfl)) (Ft.ao hF "ExamHalls$Reader" (by decide)) hK hP hD hS hA (by decide) (N' := 6) (by decide) (Nat.le_of_ble_eq_true rfl) (Nat.le_of_ble_eq_true rfl) (Nat.le_of_ble_eq_true rfl) dX5_init_21 (fun q_3 k_4 H hK hP hD hS => ?_)
  have hP : va_P (dC, dI) vwCl [(x, .inr (10, [.ref q_1, .int 0, .null, .int 0, .null, .null, .int 0, .null, .int 0, .int 0, .null, .null, .null, .null])), (q_1, .inl (k_2, 24, .inr (.inr (.inr (.inr (fun _ => none)))))), (q_3, .inl (k_4, 6, .inr (.inr (.inr (.inr (fun _ => none))))))] H := hP
  have hD : va_D A [(x, .inr (10, [.ref q_1, .int 0, .null, .int 0, .null, .null, .int 0, .null, .int 0, .int 0, .null, .null, .null, .null])), (q_1, .inl (k_2, 24, .inr (.inr (.inr (.inr (fun _ => none)))))), (q_3, .inl (k_4, 6, .inr (.inr (.inr (.inr (fun _ => none))))))] := hD
  have hK : va_K (dC, dI) vwCl [(k_2, .object "ExamHalls$Candidate"), (k_4, .object "ExamHalls$Reader")] s := hK
  refine W.widen (k := 2) (n := 30) (Nat.le_of_ble_eq_true rfl) (Nat.le_of_ble_eq_true rfl) ?_
  refine va_putF (D := (dC, dI)) (ci := 10) (v := .ref q_3) (ty := .array (.object "ExamHalls$Reader")) (C := RX5) (T := TX5) (N := 14) hx hb hts (fun _ h9 => List.mem_cons_of_mem _ (List.mem_append_left _ (List.mem_append_left _ (List.mem_append_right _ (h9))))) tyX5 tyX5_ok nmX5 hown hK hP hD hS 0 rfl rfl 2 (by decide) (hts (.fieldLink RX5 21 "ExamHalls" "readers" "[LExamHalls$Reader;") (List.mem_of_getElem? (i := 8) rfl)) (fun _ h9 => h9) rfl hin rfl (by decide +kernel) rfl rfl (Nat.le_of_ble_eq_true rfl) dX5_init_24 (fun H locs hP hD hS => ?_)
  have hP : va_P (dC, dI) vwCl [(x, .inr (10, [.ref q_1, .int 0, .ref q_3, .int 0, .null, .null, .int 0, .null, .int 0, .int 0, .null, .null, .null, .null])), (q_1, .inl (k_2, 24, .inr (.inr (.inr (.inr (fun _ => none)))))), (q_3, .inl (k_4, 6, .inr (.inr (.inr (.inr (fun _ => none))))))] H := hP
  have hD : va_D A [(x, .inr (10, [.ref q_1, .int 0, .ref q_3, .int 0, .null, .null, .int 0, .null, .int 0, .int 0, .null, .null, .null, .null])), (q_1, .inl (k_2, 24, .inr (.inr (.inr (.inr (fun _ => none)))))), (q_3, .inl (k_4, 6, .inr (.inr (.inr (.inr (fun _ => none))))))] := hD
  refine lv_aload_n hx hb dX5_init_27 rfl (lv_at hl 0 rfl) ?_
  refine lv_iconst (v := 0) hx hb dX5_init_28 (by decide) ?_
  refine va_put (D := (dC, dI)) (ci := 10) (v := .int 0) (ty := .int) (C := RX5) (T := TX5) (N := 14) hx hb hts (fun _ h9 => List.mem_cons_of_mem _ (List.mem_append_left _ (List.mem_append_left _ (List.mem_append_right _ (h9))))) tyX5 tyX5_ok nmX5 hown hK hP hD hS 0 rfl rfl 3 (by decide) (hts (.fieldLink RX5 25 "ExamHalls" "readerCount" "I") (List.mem_of_getElem? (i := 9) rfl)) (fun _ h9 => h9) rfl (by decide +kernel) rfl rfl (Nat.le_of_ble_eq_true rfl) dX5_init_29 (fun H locs hP hD hS => ?_)
  have hP : va_P (dC, dI) vwCl [(x, .inr (10, [.ref q_1, .int 0, .ref q_3, .int 0, .null, .null, .int 0, .null, .int 0, .int 0, .null, .null, .null, .null])), (q_1, .inl (k_2, 24, .inr (.inr (.inr (.inr (fun _ => none)))))), (q_3, .inl (k_4, 6, .inr (.inr (.inr (.inr (fun _ => none))))))] H := hP
  have hD : va_D A [(x, .inr (10, [.ref q_1, .int 0, .ref q_3, .int 0, .null, .null, .int 0, .null, .int 0, .int 0, .null, .null, .null, .null])), (q_1, .inl (k_2, 24, .inr (.inr (.inr (.inr (fun _ => none)))))), (q_3, .inl (k_4, 6, .inr (.inr (.inr (.inr (fun _ => none))))))] := hD
  refine lv_aload_n hx hb dX5_init_32 rfl (lv_at hl 0 rfl) ?_
  refine va_new (ci := 9) (fs := [.null, .int 0]) (C := RX4) (T := TX4) (N := 2) hx hb hts (fun _ h9 => List.mem_cons_of_mem _ (List.mem_append_left _ (List.mem_append_right _ (h9)))) tyX4 tyX4_ok hown (hts (.classLink RX5 28 RX4) (List.mem_of_getElem? (i := 10) rfl)) (hts (.instantiable RX4 2) (List.mem_of_getElem? (i := 11) rfl)) (hts (.initialized RX4) (List.mem_of_getElem? (i := 12) rfl)) hK hP hD hS hA rfl dfX4 (Nat.le_of_ble_eq_true rfl) (Nat.le_of_ble_eq_true rfl) dX5_init_33 (fun q_5 H hP hD hS => ?_)
  have hP : va_P (dC, dI) vwCl [(x, .inr (10, [.ref q_1, .int 0, .ref q_3, .int 0, .null, .null, .int 0, .null, .int 0, .int 0, .null, .null, .null, .null])), (q_1, .inl (k_2, 24, .inr (.inr (.inr (.inr (fun _ => none)))))), (q_3, .inl (k_4, 6, .inr (.inr (.inr (.inr (fun _ => none)))))), (q_5, .inr (9, [.null, .int 0]))] H := hP
  have hD : va_D A [(x, .inr (10, [.ref q_1, .int 0, .ref q_3, .int 0, .null, .null, .int 0, .null, .int 0, .int 0, .null, .null, .null, .null])), (q_1, .inl (k_2, 24, .inr (.inr (.inr (.inr (fun _ => none)))))), (q_3, .inl (k_4, 6, .inr (.inr (.inr (.inr (fun _ => none)))))), (q_5, .inr (9, [.null, .int 0]))] := hD
  refine W.widen (k := 3) (n := 32) (Nat.le_of_ble_eq_true rfl) (Nat.le_of_ble_eq_true rfl) ?_
  refine lv_dup hx hb dX5_init_36 rfl ?_
  have hPc := hP.sub (ws' := [(q_5, .inr (9, [.null, .int 0]))]) [3] rfl
  have hDc := hD.sub (ws' := [(q_5, .inr (9, [.null, .int 0]))]) [3] (by decide) rfl
  have hKc := hK.sub (tys' := []) [] rfl
  have hFc := va_free (wc := [(q_5, .inr (9, [.null, .int 0]))]) hD hS hA [3] rfl
  refine va_callv (va_runIN (As := []) (rest := [.ref q_5, .ref x]) ⟨hx, hb, hml, hown, hts⟩ (c_X4_init l dC dI q_5 H.size) ⟨va_cnB 0 hts gX5_init_X4_init_n30 rfl rfl rfl (Ft.nm hF (RX5, 30, yX4_init, RX5) (by decide +kernel)) (hts (.initialized RX4) (List.mem_of_getElem? (i := 12) rfl)) (by decide +kernel) ⟨Nat.le_of_ble_eq_true rfl, Nat.le_of_ble_eq_true rfl⟩, rfl, (hts (.instanceMethod yX4_init) (List.mem_of_getElem? (i := 28) rfl))⟩ ⟨PQ_blind, PQ_pre hPc hKc hDc hF⟩ rfl rfl hl.1 rfl (lv_room (Nat.le_of_ble_eq_true rfl)) dX5_init_37 ⟨Nat.le_of_ble_eq_true rfl, Nat.le_of_ble_eq_true rfl⟩) hS (fun q _ h => hFc q h) hFc (fun u t H1 locs ht hvm hw hB hz1 hk1 hS => ?_)
  obtain ⟨tb_7, kB_8, hP1, hK1, hD1⟩ := hB
  rw [ht] at hP1
  have hK1 := va_K.moved hvm.symm hK1
  obtain ⟨hP, hD⟩ := va_join (wr := [(x, .inr (10, [.ref q_1, .int 0, .ref q_3, .int 0, .null, .null, .int 0, .null, .int 0, .int 0, .null, .null, .null, .null])), (q_1, .inl (k_2, 24, .inr (.inr (.inr (.inr (fun _ => none)))))), (q_3, .inl (k_4, 6, .inr (.inr (.inr (.inr (fun _ => none))))))]) (w1 := [(q_5, .inr (9, [.ref tb_7, .int 0])), (tb_7, .inl (kB_8, 250, .inl (fun _ => 0)))]) hP hD [3] [0, 1, 2] rfl rfl (by decide) (by decide) hk1 hFc hP1 hD1
  have hK := hK.app hK1
  generalize H1 = H at hP hS ⊢
  have hP : va_P (dC, dI) vwCl [(x, .inr (10, [.ref q_1, .int 0, .ref q_3, .int 0, .null, .null, .int 0, .null, .int 0, .int 0, .null, .null, .null, .null])), (q_1, .inl (k_2, 24, .inr (.inr (.inr (.inr (fun _ => none)))))), (q_3, .inl (k_4, 6, .inr (.inr (.inr (.inr (fun _ => none)))))), (q_5, .inr (9, [.ref tb_7, .int 0])), (tb_7, .inl (kB_8, 250, .inl (fun _ => 0)))] H := hP
  have hD : va_D A [(x, .inr (10, [.ref q_1, .int 0, .ref q_3, .int 0, .null, .null, .int 0, .null, .int 0, .int 0, .null, .null, .null, .null])), (q_1, .inl (k_2, 24, .inr (.inr (.inr (.inr (fun _ => none)))))), (q_3, .inl (k_4, 6, .inr (.inr (.inr (.inr (fun _ => none)))))), (q_5, .inr (9, [.ref tb_7, .int 0])), (tb_7, .inl (kB_8, 250, .inl (fun _ => 0)))] := hD
  have hK : va_K (dC, dI) vwCl [(k_2, .object "ExamHalls$Candidate"), (k_4, .object "ExamHalls$Reader"), (kB_8, .byte)] s := hK
  refine W.widen (k := 4) (n := 282) (Nat.le_of_ble_eq_true rfl) (Nat.le_of_ble_eq_true rfl) ?_
  refine va_putF (D := (dC, dI)) (ci := 10) (v := .ref q_5) (ty := .object "ExamHalls$Tape") (C := RX5) (T := TX5) (N := 14) hx hb hts (fun _ h9 => List.mem_cons_of_mem _ (List.mem_append_left _ (List.mem_append_left _ (List.mem_append_right _ (h9))))) tyX5 tyX5_ok nmX5 hown hK hP hD hS 0 rfl rfl 4 (by decide) (hts (.fieldLink RX5 31 "ExamHalls" "tape" "LExamHalls$Tape;") (List.mem_of_getElem? (i := 13) rfl)) (fun _ h9 => h9) rfl hin rfl (by decide +kernel) rfl rfl (Nat.le_of_ble_eq_true rfl) dX5_init_40 (fun H locs hP hD hS => ?_)
  have hP : va_P (dC, dI) vwCl [(x, .inr (10, [.ref q_1, .int 0, .ref q_3, .int 0, .ref q_5, .null, .int 0, .null, .int 0, .int 0, .null, .null, .null, .null])), (q_1, .inl (k_2, 24, .inr (.inr (.inr (.inr (fun _ => none)))))), (q_3, .inl (k_4, 6, .inr (.inr (.inr (.inr (fun _ => none)))))), (q_5, .inr (9, [.ref tb_7, .int 0])), (tb_7, .inl (kB_8, 250, .inl (fun _ => 0)))] H := hP
  have hD : va_D A [(x, .inr (10, [.ref q_1, .int 0, .ref q_3, .int 0, .ref q_5, .null, .int 0, .null, .int 0, .int 0, .null, .null, .null, .null])), (q_1, .inl (k_2, 24, .inr (.inr (.inr (.inr (fun _ => none)))))), (q_3, .inl (k_4, 6, .inr (.inr (.inr (.inr (fun _ => none)))))), (q_5, .inr (9, [.ref tb_7, .int 0])), (tb_7, .inl (kB_8, 250, .inl (fun _ => 0)))] := hD
  refine lv_aload_n hx hb dX5_init_43 rfl (lv_at hl 0 rfl) ?_
  refine va_new (ci := 7) (fs := [.int 0, .null, .null, .null, .null, .int 0, .null, .int 0]) (C := RX2) (T := TX2) (N := 8) hx hb hts (fun _ h9 => List.mem_cons_of_mem _ (List.mem_append_right _ (h9))) tyX2 tyX2_ok hown (hts (.classLink RX5 35 RX2) (List.mem_of_getElem? (i := 14) rfl)) (hts (.instantiable RX2 8) (List.mem_of_getElem? (i := 15) rfl)) (hts (.initialized RX2) (List.mem_of_getElem? (i := 16) rfl)) hK hP hD hS hA rfl dfX2 (Nat.le_of_ble_eq_true rfl) (Nat.le_of_ble_eq_true rfl) dX5_init_44 (fun q_9 H hP hD hS => ?_)
  have hP : va_P (dC, dI) vwCl [(x, .inr (10, [.ref q_1, .int 0, .ref q_3, .int 0, .ref q_5, .null, .int 0, .null, .int 0, .int 0, .null, .null, .null, .null])), (q_1, .inl (k_2, 24, .inr (.inr (.inr (.inr (fun _ => none)))))), (q_3, .inl (k_4, 6, .inr (.inr (.inr (.inr (fun _ => none)))))), (q_5, .inr (9, [.ref tb_7, .int 0])), (tb_7, .inl (kB_8, 250, .inl (fun _ => 0))), (q_9, .inr (7, [.int 0, .null, .null, .null, .null, .int 0, .null, .int 0]))] H := hP
  have hD : va_D A [(x, .inr (10, [.ref q_1, .int 0, .ref q_3, .int 0, .ref q_5, .null, .int 0, .null, .int 0, .int 0, .null, .null, .null, .null])), (q_1, .inl (k_2, 24, .inr (.inr (.inr (.inr (fun _ => none)))))), (q_3, .inl (k_4, 6, .inr (.inr (.inr (.inr (fun _ => none)))))), (q_5, .inr (9, [.ref tb_7, .int 0])), (tb_7, .inl (kB_8, 250, .inl (fun _ => 0))), (q_9, .inr (7, [.int 0, .null, .null, .null, .null, .int 0, .null, .int 0]))] := hD
  refine W.widen (k := 5) (n := 290) (Nat.le_of_ble_eq_true rfl) (Nat.le_of_ble_eq_true rfl) ?_
  refine lv_dup hx hb dX5_init_47 rfl ?_
  have hPc := hP.sub (ws' := [(q_9, .inr (7, [.int 0, .null, .null, .null, .null, .int 0, .null, .int 0]))]) [5] rfl
  have hDc := hD.sub (ws' := [(q_9, .inr (7, [.int 0, .null, .null, .null, .null, .int 0, .null, .int 0]))]) [5] (by decide) rfl
  have hKc := hK.sub (tys' := []) [] rfl
  have hFc := va_free (wc := [(q_9, .inr (7, [.int 0, .null, .null, .null, .null, .int 0, .null, .int 0]))]) hD hS hA [5] rfl
  refine va_callv (va_runIN (As := []) (rest := [.ref q_9, .ref x]) ⟨hx, hb, hml, hown, hts⟩ (c_X2_init l dC dI q_9 H.size) ⟨va_cnB 0 hts gX5_init_X2_init_n37 rfl rfl rfl (Ft.nm hF (RX5, 37, yX2_init, RX5) (by decide +kernel)) (hts (.initialized RX2) (List.mem_of_getElem? (i := 16) rfl)) (by decide +kernel) ⟨Nat.le_of_ble_eq_true rfl, Nat.le_of_ble_eq_true rfl⟩, rfl, (hts (.instanceMethod yX2_init) (List.mem_of_getElem? (i := 34) rfl))⟩ ⟨PQ_blind, PQ_pre hPc hKc hDc hF⟩ rfl rfl hl.1 rfl (lv_room (Nat.le_of_ble_eq_true rfl)) dX5_init_48 ⟨Nat.le_of_ble_eq_true rfl, Nat.le_of_ble_eq_true rfl⟩) hS (fun q _ h => hFc q h) hFc (fun u t H1 locs ht hvm hw hB hz1 hk1 hS => ?_)
  obtain ⟨le_11, mo_12, os_13, ps_14, br_15, kl_16, km_17, ko_18, kp_19, kb_20, fl_21, fm_22, hP1, hK1, hD1⟩ := hB
  rw [ht] at hP1
  have hK1 := va_K.moved hvm.symm hK1
  obtain ⟨hP, hD⟩ := va_join (wr := [(x, .inr (10, [.ref q_1, .int 0, .ref q_3, .int 0, .ref q_5, .null, .int 0, .null, .int 0, .int 0, .null, .null, .null, .null])), (q_1, .inl (k_2, 24, .inr (.inr (.inr (.inr (fun _ => none)))))), (q_3, .inl (k_4, 6, .inr (.inr (.inr (.inr (fun _ => none)))))), (q_5, .inr (9, [.ref tb_7, .int 0])), (tb_7, .inl (kB_8, 250, .inl (fun _ => 0)))]) (w1 := [(q_9, .inr (7, [.int 1, .ref le_11, .ref mo_12, .ref os_13, .ref ps_14, .int 0, .ref br_15, .int 0])), (le_11, .inl (kl_16, 8, .inl fl_21)), (mo_12, .inl (km_17, 8, .inl fm_22)), (os_13, .inl (ko_18, 6, .inl (fun _ => 0))), (ps_14, .inl (kp_19, 6, .inl (fun _ => 0))), (br_15, .inl (kb_20, 8, .inr (.inl (fun _ => 0))))]) hP hD [5] [0, 1, 2, 3, 4] rfl rfl (by decide) (by decide) hk1 hFc hP1 hD1
  have hK := hK.app hK1
  generalize H1 = H at hP hS ⊢
  have hP : va_P (dC, dI) vwCl [(x, .inr (10, [.ref q_1, .int 0, .ref q_3, .int 0, .ref q_5, .null, .int 0, .null, .int 0, .int 0, .null, .null, .null, .null])), (q_1, .inl (k_2, 24, .inr (.inr (.inr (.inr (fun _ => none)))))), (q_3, .inl (k_4, 6, .inr (.inr (.inr (.inr (fun _ => none)))))), (q_5, .inr (9, [.ref tb_7, .int 0])), (tb_7, .inl (kB_8, 250, .inl (fun _ => 0))), (q_9, .inr (7, [.int 1, .ref le_11, .ref mo_12, .ref os_13, .ref ps_14, .int 0, .ref br_15, .int 0])), (le_11, .inl (kl_16, 8, .inl fl_21)), (mo_12, .inl (km_17, 8, .inl fm_22)), (os_13, .inl (ko_18, 6, .inl (fun _ => 0))), (ps_14, .inl (kp_19, 6, .inl (fun _ => 0))), (br_15, .inl (kb_20, 8, .inr (.inl (fun _ => 0))))] H := hP
  have hD : va_D A [(x, .inr (10, [.ref q_1, .int 0, .ref q_3, .int 0, .ref q_5, .null, .int 0, .null, .int 0, .int 0, .null, .null, .null, .null])), (q_1, .inl (k_2, 24, .inr (.inr (.inr (.inr (fun _ => none)))))), (q_3, .inl (k_4, 6, .inr (.inr (.inr (.inr (fun _ => none)))))), (q_5, .inr (9, [.ref tb_7, .int 0])), (tb_7, .inl (kB_8, 250, .inl (fun _ => 0))), (q_9, .inr (7, [.int 1, .ref le_11, .ref mo_12, .ref os_13, .ref ps_14, .int 0, .ref br_15, .int 0])), (le_11, .inl (kl_16, 8, .inl fl_21)), (mo_12, .inl (km_17, 8, .inl fm_22)), (os_13, .inl (ko_18, 6, .inl (fun _ => 0))), (ps_14, .inl (kp_19, 6, .inl (fun _ => 0))), (br_15, .inl (kb_20, 8, .inr (.inl (fun _ => 0))))] := hD
  have hK : va_K (dC, dI) vwCl [(k_2, .object "ExamHalls$Candidate"), (k_4, .object "ExamHalls$Reader"), (kB_8, .byte), (kl_16, .int), (km_17, .int), (ko_18, .int), (kp_19, .int), (kb_20, .long)] s := hK
  refine W.widen (k := 10) (n := 326) (Nat.le_of_ble_eq_true rfl) (Nat.le_of_ble_eq_true rfl) ?_
  refine va_putF (D := (dC, dI)) (ci := 10) (v := .ref q_9) (ty := .object "ExamHalls$Form") (C := RX5) (T := TX5) (N := 14) hx hb hts (fun _ h9 => List.mem_cons_of_mem _ (List.mem_append_left _ (List.mem_append_left _ (List.mem_append_right _ (h9))))) tyX5 tyX5_ok nmX5 hown hK hP hD hS 0 rfl rfl 5 (by decide) (hts (.fieldLink RX5 38 "ExamHalls" "form" "LExamHalls$Form;") (List.mem_of_getElem? (i := 17) rfl)) (fun _ h9 => h9) rfl hin rfl (by decide +kernel) rfl rfl (Nat.le_of_ble_eq_true rfl) dX5_init_51 (fun H locs hP hD hS => ?_)
  have hP : va_P (dC, dI) vwCl [(x, .inr (10, [.ref q_1, .int 0, .ref q_3, .int 0, .ref q_5, .ref q_9, .int 0, .null, .int 0, .int 0, .null, .null, .null, .null])), (q_1, .inl (k_2, 24, .inr (.inr (.inr (.inr (fun _ => none)))))), (q_3, .inl (k_4, 6, .inr (.inr (.inr (.inr (fun _ => none)))))), (q_5, .inr (9, [.ref tb_7, .int 0])), (tb_7, .inl (kB_8, 250, .inl (fun _ => 0))), (q_9, .inr (7, [.int 1, .ref le_11, .ref mo_12, .ref os_13, .ref ps_14, .int 0, .ref br_15, .int 0])), (le_11, .inl (kl_16, 8, .inl fl_21)), (mo_12, .inl (km_17, 8, .inl fm_22)), (os_13, .inl (ko_18, 6, .inl (fun _ => 0))), (ps_14, .inl (kp_19, 6, .inl (fun _ => 0))), (br_15, .inl (kb_20, 8, .inr (.inl (fun _ => 0))))] H := hP
  have hD : va_D A [(x, .inr (10, [.ref q_1, .int 0, .ref q_3, .int 0, .ref q_5, .ref q_9, .int 0, .null, .int 0, .int 0, .null, .null, .null, .null])), (q_1, .inl (k_2, 24, .inr (.inr (.inr (.inr (fun _ => none)))))), (q_3, .inl (k_4, 6, .inr (.inr (.inr (.inr (fun _ => none)))))), (q_5, .inr (9, [.ref tb_7, .int 0])), (tb_7, .inl (kB_8, 250, .inl (fun _ => 0))), (q_9, .inr (7, [.int 1, .ref le_11, .ref mo_12, .ref os_13, .ref ps_14, .int 0, .ref br_15, .int 0])), (le_11, .inl (kl_16, 8, .inl fl_21)), (mo_12, .inl (km_17, 8, .inl fm_22)), (os_13, .inl (ko_18, 6, .inl (fun _ => 0))), (ps_14, .inl (kp_19, 6, .inl (fun _ => 0))), (br_15, .inl (kb_20, 8, .inr (.inl (fun _ => 0))))] := hD
  refine lv_aload_n hx hb dX5_init_54 rfl (lv_at hl 0 rfl) ?_
  refine lv_bipush (v := 10) hx hb dX5_init_55 (by decide) ?_
  refine va_put (D := (dC, dI)) (ci := 10) (v := .int 10) (ty := .int) (C := RX5) (T := TX5) (N := 14) hx hb hts (fun _ h9 => List.mem_cons_of_mem _ (List.mem_append_left _ (List.mem_append_left _ (List.mem_append_right _ (h9))))) tyX5 tyX5_ok nmX5 hown hK hP hD hS 0 rfl rfl 6 (by decide) (hts (.fieldLink RX5 42 "ExamHalls" "apart" "I") (List.mem_of_getElem? (i := 18) rfl)) (fun _ h9 => h9) rfl (by decide +kernel) rfl rfl (Nat.le_of_ble_eq_true rfl) dX5_init_57 (fun H locs hP hD hS => ?_)
  have hP : va_P (dC, dI) vwCl [(x, .inr (10, [.ref q_1, .int 0, .ref q_3, .int 0, .ref q_5, .ref q_9, .int 10, .null, .int 0, .int 0, .null, .null, .null, .null])), (q_1, .inl (k_2, 24, .inr (.inr (.inr (.inr (fun _ => none)))))), (q_3, .inl (k_4, 6, .inr (.inr (.inr (.inr (fun _ => none)))))), (q_5, .inr (9, [.ref tb_7, .int 0])), (tb_7, .inl (kB_8, 250, .inl (fun _ => 0))), (q_9, .inr (7, [.int 1, .ref le_11, .ref mo_12, .ref os_13, .ref ps_14, .int 0, .ref br_15, .int 0])), (le_11, .inl (kl_16, 8, .inl fl_21)), (mo_12, .inl (km_17, 8, .inl fm_22)), (os_13, .inl (ko_18, 6, .inl (fun _ => 0))), (ps_14, .inl (kp_19, 6, .inl (fun _ => 0))), (br_15, .inl (kb_20, 8, .inr (.inl (fun _ => 0))))] H := hP
  have hD : va_D A [(x, .inr (10, [.ref q_1, .int 0, .ref q_3, .int 0, .ref q_5, .ref q_9, .int 10, .null, .int 0, .int 0, .null, .null, .null, .null])), (q_1, .inl (k_2, 24, .inr (.inr (.inr (.inr (fun _ => none)))))), (q_3, .inl (k_4, 6, .inr (.inr (.inr (.inr (fun _ => none)))))), (q_5, .inr (9, [.ref tb_7, .int 0])), (tb_7, .inl (kB_8, 250, .inl (fun _ => 0))), (q_9, .inr (7, [.int 1, .ref le_11, .ref mo_12, .ref os_13, .ref ps_14, .int 0, .ref br_15, .int 0])), (le_11, .inl (kl_16, 8, .inl fl_21)), (mo_12, .inl (km_17, 8, .inl fm_22)), (os_13, .inl (ko_18, 6, .inl (fun _ => 0))), (ps_14, .inl (kp_19, 6, .inl (fun _ => 0))), (br_15, .inl (kb_20, 8, .inr (.inl (fun _ => 0))))] := hD
  refine lv_aload_n hx hb dX5_init_60 rfl (lv_at hl 0 rfl) ?_
  refine lv_iconst (v := 4) hx hb dX5_init_61 (by decide) ?_
  refine va_newa (atype := .int) (ty := .int) (a0 := (4, (.inl (fun _ => 0)))) hx hb (hts (.arrayClass .int) (List.mem_of_getElem? (i := 19) rfl)) rfl hK hP hD hS hA (fun _ => rfl) (by decide) (by decide) (Nat.le_of_ble_eq_true rfl) (Nat.le_of_ble_eq_true rfl) (Nat.le_of_ble_eq_true rfl) dX5_init_62 (fun q_23 k_24 H hK hP hD hS => ?_)
  have hP : va_P (dC, dI) vwCl [(x, .inr (10, [.ref q_1, .int 0, .ref q_3, .int 0, .ref q_5, .ref q_9, .int 10, .null, .int 0, .int 0, .null, .null, .null, .null])), (q_1, .inl (k_2, 24, .inr (.inr (.inr (.inr (fun _ => none)))))), (q_3, .inl (k_4, 6, .inr (.inr (.inr (.inr (fun _ => none)))))), (q_5, .inr (9, [.ref tb_7, .int 0])), (tb_7, .inl (kB_8, 250, .inl (fun _ => 0))), (q_9, .inr (7, [.int 1, .ref le_11, .ref mo_12, .ref os_13, .ref ps_14, .int 0, .ref br_15, .int 0])), (le_11, .inl (kl_16, 8, .inl fl_21)), (mo_12, .inl (km_17, 8, .inl fm_22)), (os_13, .inl (ko_18, 6, .inl (fun _ => 0))), (ps_14, .inl (kp_19, 6, .inl (fun _ => 0))), (br_15, .inl (kb_20, 8, .inr (.inl (fun _ => 0)))), (q_23, .inl (k_24, 4, .inl (fun _ => 0)))] H := hP
  have hD : va_D A [(x, .inr (10, [.ref q_1, .int 0, .ref q_3, .int 0, .ref q_5, .ref q_9, .int 10, .null, .int 0, .int 0, .null, .null, .null, .null])), (q_1, .inl (k_2, 24, .inr (.inr (.inr (.inr (fun _ => none)))))), (q_3, .inl (k_4, 6, .inr (.inr (.inr (.inr (fun _ => none)))))), (q_5, .inr (9, [.ref tb_7, .int 0])), (tb_7, .inl (kB_8, 250, .inl (fun _ => 0))), (q_9, .inr (7, [.int 1, .ref le_11, .ref mo_12, .ref os_13, .ref ps_14, .int 0, .ref br_15, .int 0])), (le_11, .inl (kl_16, 8, .inl fl_21)), (mo_12, .inl (km_17, 8, .inl fm_22)), (os_13, .inl (ko_18, 6, .inl (fun _ => 0))), (ps_14, .inl (kp_19, 6, .inl (fun _ => 0))), (br_15, .inl (kb_20, 8, .inr (.inl (fun _ => 0)))), (q_23, .inl (k_24, 4, .inl (fun _ => 0)))] := hD
  have hK : va_K (dC, dI) vwCl [(k_2, .object "ExamHalls$Candidate"), (k_4, .object "ExamHalls$Reader"), (kB_8, .byte), (kl_16, .int), (km_17, .int), (ko_18, .int), (kp_19, .int), (kb_20, .long), (k_24, .int)] s := hK
  refine W.widen (k := 11) (n := 330) (Nat.le_of_ble_eq_true rfl) (Nat.le_of_ble_eq_true rfl) ?_
  refine va_putF (D := (dC, dI)) (ci := 10) (v := .ref q_23) (ty := .array .int) (C := RX5) (T := TX5) (N := 14) hx hb hts (fun _ h9 => List.mem_cons_of_mem _ (List.mem_append_left _ (List.mem_append_left _ (List.mem_append_right _ (h9))))) tyX5 tyX5_ok nmX5 hown hK hP hD hS 0 rfl rfl 7 (by decide) (hts (.fieldLink RX5 45 "ExamHalls" "quotas" "[I") (List.mem_of_getElem? (i := 20) rfl)) (fun _ h9 => h9) rfl hin rfl (by decide +kernel) rfl rfl (Nat.le_of_ble_eq_true rfl) dX5_init_64 (fun H locs hP hD hS => ?_)
  have hP : va_P (dC, dI) vwCl [(x, .inr (10, [.ref q_1, .int 0, .ref q_3, .int 0, .ref q_5, .ref q_9, .int 10, .ref q_23, .int 0, .int 0, .null, .null, .null, .null])), (q_1, .inl (k_2, 24, .inr (.inr (.inr (.inr (fun _ => none)))))), (q_3, .inl (k_4, 6, .inr (.inr (.inr (.inr (fun _ => none)))))), (q_5, .inr (9, [.ref tb_7, .int 0])), (tb_7, .inl (kB_8, 250, .inl (fun _ => 0))), (q_9, .inr (7, [.int 1, .ref le_11, .ref mo_12, .ref os_13, .ref ps_14, .int 0, .ref br_15, .int 0])), (le_11, .inl (kl_16, 8, .inl fl_21)), (mo_12, .inl (km_17, 8, .inl fm_22)), (os_13, .inl (ko_18, 6, .inl (fun _ => 0))), (ps_14, .inl (kp_19, 6, .inl (fun _ => 0))), (br_15, .inl (kb_20, 8, .inr (.inl (fun _ => 0)))), (q_23, .inl (k_24, 4, .inl (fun _ => 0)))] H := hP
  have hD : va_D A [(x, .inr (10, [.ref q_1, .int 0, .ref q_3, .int 0, .ref q_5, .ref q_9, .int 10, .ref q_23, .int 0, .int 0, .null, .null, .null, .null])), (q_1, .inl (k_2, 24, .inr (.inr (.inr (.inr (fun _ => none)))))), (q_3, .inl (k_4, 6, .inr (.inr (.inr (.inr (fun _ => none)))))), (q_5, .inr (9, [.ref tb_7, .int 0])), (tb_7, .inl (kB_8, 250, .inl (fun _ => 0))), (q_9, .inr (7, [.int 1, .ref le_11, .ref mo_12, .ref os_13, .ref ps_14, .int 0, .ref br_15, .int 0])), (le_11, .inl (kl_16, 8, .inl fl_21)), (mo_12, .inl (km_17, 8, .inl fm_22)), (os_13, .inl (ko_18, 6, .inl (fun _ => 0))), (ps_14, .inl (kp_19, 6, .inl (fun _ => 0))), (br_15, .inl (kb_20, 8, .inr (.inl (fun _ => 0)))), (q_23, .inl (k_24, 4, .inl (fun _ => 0)))] := hD
  refine lv_aload_n hx hb dX5_init_67 rfl (lv_at hl 0 rfl) ?_
  refine lv_iconst (v := 0) hx hb dX5_init_68 (by decide) ?_
  refine va_put (D := (dC, dI)) (ci := 10) (v := .int 0) (ty := .int) (C := RX5) (T := TX5) (N := 14) hx hb hts (fun _ h9 => List.mem_cons_of_mem _ (List.mem_append_left _ (List.mem_append_left _ (List.mem_append_right _ (h9))))) tyX5 tyX5_ok nmX5 hown hK hP hD hS 0 rfl rfl 8 (by decide) (hts (.fieldLink RX5 49 "ExamHalls" "ties" "I") (List.mem_of_getElem? (i := 21) rfl)) (fun _ h9 => h9) rfl (by decide +kernel) rfl rfl (Nat.le_of_ble_eq_true rfl) dX5_init_69 (fun H locs hP hD hS => ?_)
  have hP : va_P (dC, dI) vwCl [(x, .inr (10, [.ref q_1, .int 0, .ref q_3, .int 0, .ref q_5, .ref q_9, .int 10, .ref q_23, .int 0, .int 0, .null, .null, .null, .null])), (q_1, .inl (k_2, 24, .inr (.inr (.inr (.inr (fun _ => none)))))), (q_3, .inl (k_4, 6, .inr (.inr (.inr (.inr (fun _ => none)))))), (q_5, .inr (9, [.ref tb_7, .int 0])), (tb_7, .inl (kB_8, 250, .inl (fun _ => 0))), (q_9, .inr (7, [.int 1, .ref le_11, .ref mo_12, .ref os_13, .ref ps_14, .int 0, .ref br_15, .int 0])), (le_11, .inl (kl_16, 8, .inl fl_21)), (mo_12, .inl (km_17, 8, .inl fm_22)), (os_13, .inl (ko_18, 6, .inl (fun _ => 0))), (ps_14, .inl (kp_19, 6, .inl (fun _ => 0))), (br_15, .inl (kb_20, 8, .inr (.inl (fun _ => 0)))), (q_23, .inl (k_24, 4, .inl (fun _ => 0)))] H := hP
  have hD : va_D A [(x, .inr (10, [.ref q_1, .int 0, .ref q_3, .int 0, .ref q_5, .ref q_9, .int 10, .ref q_23, .int 0, .int 0, .null, .null, .null, .null])), (q_1, .inl (k_2, 24, .inr (.inr (.inr (.inr (fun _ => none)))))), (q_3, .inl (k_4, 6, .inr (.inr (.inr (.inr (fun _ => none)))))), (q_5, .inr (9, [.ref tb_7, .int 0])), (tb_7, .inl (kB_8, 250, .inl (fun _ => 0))), (q_9, .inr (7, [.int 1, .ref le_11, .ref mo_12, .ref os_13, .ref ps_14, .int 0, .ref br_15, .int 0])), (le_11, .inl (kl_16, 8, .inl fl_21)), (mo_12, .inl (km_17, 8, .inl fm_22)), (os_13, .inl (ko_18, 6, .inl (fun _ => 0))), (ps_14, .inl (kp_19, 6, .inl (fun _ => 0))), (br_15, .inl (kb_20, 8, .inr (.inl (fun _ => 0)))), (q_23, .inl (k_24, 4, .inl (fun _ => 0)))] := hD
  refine lv_aload_n hx hb dX5_init_72 rfl (lv_at hl 0 rfl) ?_
  refine lv_iconst (v := 0) hx hb dX5_init_73 (by decide) ?_
  refine va_put (D := (dC, dI)) (ci := 10) (v := .int 0) (ty := .int) (C := RX5) (T := TX5) (N := 14) hx hb hts (fun _ h9 => List.mem_cons_of_mem _ (List.mem_append_left _ (List.mem_append_left _ (List.mem_append_right _ (h9))))) tyX5 tyX5_ok nmX5 hown hK hP hD hS 0 rfl rfl 9 (by decide) (hts (.fieldLink RX5 52 "ExamHalls" "way" "I") (List.mem_of_getElem? (i := 22) rfl)) (fun _ h9 => h9) rfl (by decide +kernel) rfl rfl (Nat.le_of_ble_eq_true rfl) dX5_init_74 (fun H locs hP hD hS => ?_)
  have hP : va_P (dC, dI) vwCl [(x, .inr (10, [.ref q_1, .int 0, .ref q_3, .int 0, .ref q_5, .ref q_9, .int 10, .ref q_23, .int 0, .int 0, .null, .null, .null, .null])), (q_1, .inl (k_2, 24, .inr (.inr (.inr (.inr (fun _ => none)))))), (q_3, .inl (k_4, 6, .inr (.inr (.inr (.inr (fun _ => none)))))), (q_5, .inr (9, [.ref tb_7, .int 0])), (tb_7, .inl (kB_8, 250, .inl (fun _ => 0))), (q_9, .inr (7, [.int 1, .ref le_11, .ref mo_12, .ref os_13, .ref ps_14, .int 0, .ref br_15, .int 0])), (le_11, .inl (kl_16, 8, .inl fl_21)), (mo_12, .inl (km_17, 8, .inl fm_22)), (os_13, .inl (ko_18, 6, .inl (fun _ => 0))), (ps_14, .inl (kp_19, 6, .inl (fun _ => 0))), (br_15, .inl (kb_20, 8, .inr (.inl (fun _ => 0)))), (q_23, .inl (k_24, 4, .inl (fun _ => 0)))] H := hP
  have hD : va_D A [(x, .inr (10, [.ref q_1, .int 0, .ref q_3, .int 0, .ref q_5, .ref q_9, .int 10, .ref q_23, .int 0, .int 0, .null, .null, .null, .null])), (q_1, .inl (k_2, 24, .inr (.inr (.inr (.inr (fun _ => none)))))), (q_3, .inl (k_4, 6, .inr (.inr (.inr (.inr (fun _ => none)))))), (q_5, .inr (9, [.ref tb_7, .int 0])), (tb_7, .inl (kB_8, 250, .inl (fun _ => 0))), (q_9, .inr (7, [.int 1, .ref le_11, .ref mo_12, .ref os_13, .ref ps_14, .int 0, .ref br_15, .int 0])), (le_11, .inl (kl_16, 8, .inl fl_21)), (mo_12, .inl (km_17, 8, .inl fm_22)), (os_13, .inl (ko_18, 6, .inl (fun _ => 0))), (ps_14, .inl (kp_19, 6, .inl (fun _ => 0))), (br_15, .inl (kb_20, 8, .inr (.inl (fun _ => 0)))), (q_23, .inl (k_24, 4, .inl (fun _ => 0)))] := hD
  refine lv_aload_n hx hb dX5_init_77 rfl (lv_at hl 0 rfl) ?_
  refine lv_bipush (v := 6) hx hb dX5_init_78 (by decide) ?_
  refine va_newa (atype := .int) (ty := .int) (a0 := (6, (.inl (fun _ => 0)))) hx hb (hts (.arrayClass .int) (List.mem_of_getElem? (i := 19) rfl)) rfl hK hP hD hS hA (fun _ => rfl) (by decide) (by decide) (Nat.le_of_ble_eq_true rfl) (Nat.le_of_ble_eq_true rfl) (Nat.le_of_ble_eq_true rfl) dX5_init_80 (fun q_25 k_26 H hK hP hD hS => ?_)
  have hP : va_P (dC, dI) vwCl [(x, .inr (10, [.ref q_1, .int 0, .ref q_3, .int 0, .ref q_5, .ref q_9, .int 10, .ref q_23, .int 0, .int 0, .null, .null, .null, .null])), (q_1, .inl (k_2, 24, .inr (.inr (.inr (.inr (fun _ => none)))))), (q_3, .inl (k_4, 6, .inr (.inr (.inr (.inr (fun _ => none)))))), (q_5, .inr (9, [.ref tb_7, .int 0])), (tb_7, .inl (kB_8, 250, .inl (fun _ => 0))), (q_9, .inr (7, [.int 1, .ref le_11, .ref mo_12, .ref os_13, .ref ps_14, .int 0, .ref br_15, .int 0])), (le_11, .inl (kl_16, 8, .inl fl_21)), (mo_12, .inl (km_17, 8, .inl fm_22)), (os_13, .inl (ko_18, 6, .inl (fun _ => 0))), (ps_14, .inl (kp_19, 6, .inl (fun _ => 0))), (br_15, .inl (kb_20, 8, .inr (.inl (fun _ => 0)))), (q_23, .inl (k_24, 4, .inl (fun _ => 0))), (q_25, .inl (k_26, 6, .inl (fun _ => 0)))] H := hP
  have hD : va_D A [(x, .inr (10, [.ref q_1, .int 0, .ref q_3, .int 0, .ref q_5, .ref q_9, .int 10, .ref q_23, .int 0, .int 0, .null, .null, .null, .null])), (q_1, .inl (k_2, 24, .inr (.inr (.inr (.inr (fun _ => none)))))), (q_3, .inl (k_4, 6, .inr (.inr (.inr (.inr (fun _ => none)))))), (q_5, .inr (9, [.ref tb_7, .int 0])), (tb_7, .inl (kB_8, 250, .inl (fun _ => 0))), (q_9, .inr (7, [.int 1, .ref le_11, .ref mo_12, .ref os_13, .ref ps_14, .int 0, .ref br_15, .int 0])), (le_11, .inl (kl_16, 8, .inl fl_21)), (mo_12, .inl (km_17, 8, .inl fm_22)), (os_13, .inl (ko_18, 6, .inl (fun _ => 0))), (ps_14, .inl (kp_19, 6, .inl (fun _ => 0))), (br_15, .inl (kb_20, 8, .inr (.inl (fun _ => 0)))), (q_23, .inl (k_24, 4, .inl (fun _ => 0))), (q_25, .inl (k_26, 6, .inl (fun _ => 0)))] := hD
  have hK : va_K (dC, dI) vwCl [(k_2, .object "ExamHalls$Candidate"), (k_4, .object "ExamHalls$Reader"), (kB_8, .byte), (kl_16, .int), (km_17, .int), (ko_18, .int), (kp_19, .int), (kb_20, .long), (k_24, .int), (k_26, .int)] s := hK
  refine W.widen (k := 12) (n := 336) (Nat.le_of_ble_eq_true rfl) (Nat.le_of_ble_eq_true rfl) ?_
  refine va_putF (D := (dC, dI)) (ci := 10) (v := .ref q_25) (ty := .array .int) (C := RX5) (T := TX5) (N := 14) hx hb hts (fun _ h9 => List.mem_cons_of_mem _ (List.mem_append_left _ (List.mem_append_left _ (List.mem_append_right _ (h9))))) tyX5 tyX5_ok nmX5 hown hK hP hD hS 0 rfl rfl 10 (by decide) (hts (.fieldLink RX5 55 "ExamHalls" "shifts" "[I") (List.mem_of_getElem? (i := 23) rfl)) (fun _ h9 => h9) rfl hin rfl (by decide +kernel) rfl rfl (Nat.le_of_ble_eq_true rfl) dX5_init_82 (fun H locs hP hD hS => ?_)
  have hP : va_P (dC, dI) vwCl [(x, .inr (10, [.ref q_1, .int 0, .ref q_3, .int 0, .ref q_5, .ref q_9, .int 10, .ref q_23, .int 0, .int 0, .ref q_25, .null, .null, .null])), (q_1, .inl (k_2, 24, .inr (.inr (.inr (.inr (fun _ => none)))))), (q_3, .inl (k_4, 6, .inr (.inr (.inr (.inr (fun _ => none)))))), (q_5, .inr (9, [.ref tb_7, .int 0])), (tb_7, .inl (kB_8, 250, .inl (fun _ => 0))), (q_9, .inr (7, [.int 1, .ref le_11, .ref mo_12, .ref os_13, .ref ps_14, .int 0, .ref br_15, .int 0])), (le_11, .inl (kl_16, 8, .inl fl_21)), (mo_12, .inl (km_17, 8, .inl fm_22)), (os_13, .inl (ko_18, 6, .inl (fun _ => 0))), (ps_14, .inl (kp_19, 6, .inl (fun _ => 0))), (br_15, .inl (kb_20, 8, .inr (.inl (fun _ => 0)))), (q_23, .inl (k_24, 4, .inl (fun _ => 0))), (q_25, .inl (k_26, 6, .inl (fun _ => 0)))] H := hP
  have hD : va_D A [(x, .inr (10, [.ref q_1, .int 0, .ref q_3, .int 0, .ref q_5, .ref q_9, .int 10, .ref q_23, .int 0, .int 0, .ref q_25, .null, .null, .null])), (q_1, .inl (k_2, 24, .inr (.inr (.inr (.inr (fun _ => none)))))), (q_3, .inl (k_4, 6, .inr (.inr (.inr (.inr (fun _ => none)))))), (q_5, .inr (9, [.ref tb_7, .int 0])), (tb_7, .inl (kB_8, 250, .inl (fun _ => 0))), (q_9, .inr (7, [.int 1, .ref le_11, .ref mo_12, .ref os_13, .ref ps_14, .int 0, .ref br_15, .int 0])), (le_11, .inl (kl_16, 8, .inl fl_21)), (mo_12, .inl (km_17, 8, .inl fm_22)), (os_13, .inl (ko_18, 6, .inl (fun _ => 0))), (ps_14, .inl (kp_19, 6, .inl (fun _ => 0))), (br_15, .inl (kb_20, 8, .inr (.inl (fun _ => 0)))), (q_23, .inl (k_24, 4, .inl (fun _ => 0))), (q_25, .inl (k_26, 6, .inl (fun _ => 0)))] := hD
  refine lv_aload_n hx hb dX5_init_85 rfl (lv_at hl 0 rfl) ?_
  refine lv_bipush (v := 24) hx hb dX5_init_86 (by decide) ?_
  refine va_newa (atype := .int) (ty := .int) (a0 := (24, (.inl (fun _ => 0)))) hx hb (hts (.arrayClass .int) (List.mem_of_getElem? (i := 19) rfl)) rfl hK hP hD hS hA (fun _ => rfl) (by decide) (by decide) (Nat.le_of_ble_eq_true rfl) (Nat.le_of_ble_eq_true rfl) (Nat.le_of_ble_eq_true rfl) dX5_init_88 (fun q_27 k_28 H hK hP hD hS => ?_)
  have hP : va_P (dC, dI) vwCl [(x, .inr (10, [.ref q_1, .int 0, .ref q_3, .int 0, .ref q_5, .ref q_9, .int 10, .ref q_23, .int 0, .int 0, .ref q_25, .null, .null, .null])), (q_1, .inl (k_2, 24, .inr (.inr (.inr (.inr (fun _ => none)))))), (q_3, .inl (k_4, 6, .inr (.inr (.inr (.inr (fun _ => none)))))), (q_5, .inr (9, [.ref tb_7, .int 0])), (tb_7, .inl (kB_8, 250, .inl (fun _ => 0))), (q_9, .inr (7, [.int 1, .ref le_11, .ref mo_12, .ref os_13, .ref ps_14, .int 0, .ref br_15, .int 0])), (le_11, .inl (kl_16, 8, .inl fl_21)), (mo_12, .inl (km_17, 8, .inl fm_22)), (os_13, .inl (ko_18, 6, .inl (fun _ => 0))), (ps_14, .inl (kp_19, 6, .inl (fun _ => 0))), (br_15, .inl (kb_20, 8, .inr (.inl (fun _ => 0)))), (q_23, .inl (k_24, 4, .inl (fun _ => 0))), (q_25, .inl (k_26, 6, .inl (fun _ => 0))), (q_27, .inl (k_28, 24, .inl (fun _ => 0)))] H := hP
  have hD : va_D A [(x, .inr (10, [.ref q_1, .int 0, .ref q_3, .int 0, .ref q_5, .ref q_9, .int 10, .ref q_23, .int 0, .int 0, .ref q_25, .null, .null, .null])), (q_1, .inl (k_2, 24, .inr (.inr (.inr (.inr (fun _ => none)))))), (q_3, .inl (k_4, 6, .inr (.inr (.inr (.inr (fun _ => none)))))), (q_5, .inr (9, [.ref tb_7, .int 0])), (tb_7, .inl (kB_8, 250, .inl (fun _ => 0))), (q_9, .inr (7, [.int 1, .ref le_11, .ref mo_12, .ref os_13, .ref ps_14, .int 0, .ref br_15, .int 0])), (le_11, .inl (kl_16, 8, .inl fl_21)), (mo_12, .inl (km_17, 8, .inl fm_22)), (os_13, .inl (ko_18, 6, .inl (fun _ => 0))), (ps_14, .inl (kp_19, 6, .inl (fun _ => 0))), (br_15, .inl (kb_20, 8, .inr (.inl (fun _ => 0)))), (q_23, .inl (k_24, 4, .inl (fun _ => 0))), (q_25, .inl (k_26, 6, .inl (fun _ => 0))), (q_27, .inl (k_28, 24, .inl (fun _ => 0)))] := hD
  have hK : va_K (dC, dI) vwCl [(k_2, .object "ExamHalls$Candidate"), (k_4, .object "ExamHalls$Reader"), (kB_8, .byte), (kl_16, .int), (km_17, .int), (ko_18, .int), (kp_19, .int), (kb_20, .long), (k_24, .int), (k_26, .int), (k_28, .int)] s := hK
  refine W.widen (k := 13) (n := 360) (Nat.le_of_ble_eq_true rfl) (Nat.le_of_ble_eq_true rfl) ?_
  refine va_putF (D := (dC, dI)) (ci := 10) (v := .ref q_27) (ty := .array .int) (C := RX5) (T := TX5) (N := 14) hx hb hts (fun _ h9 => List.mem_cons_of_mem _ (List.mem_append_left _ (List.mem_append_left _ (List.mem_append_right _ (h9))))) tyX5 tyX5_ok nmX5 hown hK hP hD hS 0 rfl rfl 11 (by decide) (hts (.fieldLink RX5 58 "ExamHalls" "values" "[I") (List.mem_of_getElem? (i := 24) rfl)) (fun _ h9 => h9) rfl hin rfl (by decide +kernel) rfl rfl (Nat.le_of_ble_eq_true rfl) dX5_init_90 (fun H locs hP hD hS => ?_)
  have hP : va_P (dC, dI) vwCl [(x, .inr (10, [.ref q_1, .int 0, .ref q_3, .int 0, .ref q_5, .ref q_9, .int 10, .ref q_23, .int 0, .int 0, .ref q_25, .ref q_27, .null, .null])), (q_1, .inl (k_2, 24, .inr (.inr (.inr (.inr (fun _ => none)))))), (q_3, .inl (k_4, 6, .inr (.inr (.inr (.inr (fun _ => none)))))), (q_5, .inr (9, [.ref tb_7, .int 0])), (tb_7, .inl (kB_8, 250, .inl (fun _ => 0))), (q_9, .inr (7, [.int 1, .ref le_11, .ref mo_12, .ref os_13, .ref ps_14, .int 0, .ref br_15, .int 0])), (le_11, .inl (kl_16, 8, .inl fl_21)), (mo_12, .inl (km_17, 8, .inl fm_22)), (os_13, .inl (ko_18, 6, .inl (fun _ => 0))), (ps_14, .inl (kp_19, 6, .inl (fun _ => 0))), (br_15, .inl (kb_20, 8, .inr (.inl (fun _ => 0)))), (q_23, .inl (k_24, 4, .inl (fun _ => 0))), (q_25, .inl (k_26, 6, .inl (fun _ => 0))), (q_27, .inl (k_28, 24, .inl (fun _ => 0)))] H := hP
  have hD : va_D A [(x, .inr (10, [.ref q_1, .int 0, .ref q_3, .int 0, .ref q_5, .ref q_9, .int 10, .ref q_23, .int 0, .int 0, .ref q_25, .ref q_27, .null, .null])), (q_1, .inl (k_2, 24, .inr (.inr (.inr (.inr (fun _ => none)))))), (q_3, .inl (k_4, 6, .inr (.inr (.inr (.inr (fun _ => none)))))), (q_5, .inr (9, [.ref tb_7, .int 0])), (tb_7, .inl (kB_8, 250, .inl (fun _ => 0))), (q_9, .inr (7, [.int 1, .ref le_11, .ref mo_12, .ref os_13, .ref ps_14, .int 0, .ref br_15, .int 0])), (le_11, .inl (kl_16, 8, .inl fl_21)), (mo_12, .inl (km_17, 8, .inl fm_22)), (os_13, .inl (ko_18, 6, .inl (fun _ => 0))), (ps_14, .inl (kp_19, 6, .inl (fun _ => 0))), (br_15, .inl (kb_20, 8, .inr (.inl (fun _ => 0)))), (q_23, .inl (k_24, 4, .inl (fun _ => 0))), (q_25, .inl (k_26, 6, .inl (fun _ => 0))), (q_27, .inl (k_28, 24, .inl (fun _ => 0)))] := hD
  refine lv_aload_n hx hb dX5_init_93 rfl (lv_at hl 0 rfl) ?_
  refine lv_bipush (v := 24) hx hb dX5_init_94 (by decide) ?_
  refine va_newa (atype := .boolean) (ty := .boolean) (a0 := (24, (.inl (fun _ => 0)))) hx hb (hts (.arrayClass .boolean) (List.mem_of_getElem? (i := 25) rfl)) rfl hK hP hD hS hA (fun _ => rfl) (by decide) (by decide) (Nat.le_of_ble_eq_true rfl) (Nat.le_of_ble_eq_true rfl) (Nat.le_of_ble_eq_true rfl) dX5_init_96 (fun q_29 k_30 H hK hP hD hS => ?_)
  have hP : va_P (dC, dI) vwCl [(x, .inr (10, [.ref q_1, .int 0, .ref q_3, .int 0, .ref q_5, .ref q_9, .int 10, .ref q_23, .int 0, .int 0, .ref q_25, .ref q_27, .null, .null])), (q_1, .inl (k_2, 24, .inr (.inr (.inr (.inr (fun _ => none)))))), (q_3, .inl (k_4, 6, .inr (.inr (.inr (.inr (fun _ => none)))))), (q_5, .inr (9, [.ref tb_7, .int 0])), (tb_7, .inl (kB_8, 250, .inl (fun _ => 0))), (q_9, .inr (7, [.int 1, .ref le_11, .ref mo_12, .ref os_13, .ref ps_14, .int 0, .ref br_15, .int 0])), (le_11, .inl (kl_16, 8, .inl fl_21)), (mo_12, .inl (km_17, 8, .inl fm_22)), (os_13, .inl (ko_18, 6, .inl (fun _ => 0))), (ps_14, .inl (kp_19, 6, .inl (fun _ => 0))), (br_15, .inl (kb_20, 8, .inr (.inl (fun _ => 0)))), (q_23, .inl (k_24, 4, .inl (fun _ => 0))), (q_25, .inl (k_26, 6, .inl (fun _ => 0))), (q_27, .inl (k_28, 24, .inl (fun _ => 0))), (q_29, .inl (k_30, 24, .inl (fun _ => 0)))] H := hP
  have hD : va_D A [(x, .inr (10, [.ref q_1, .int 0, .ref q_3, .int 0, .ref q_5, .ref q_9, .int 10, .ref q_23, .int 0, .int 0, .ref q_25, .ref q_27, .null, .null])), (q_1, .inl (k_2, 24, .inr (.inr (.inr (.inr (fun _ => none)))))), (q_3, .inl (k_4, 6, .inr (.inr (.inr (.inr (fun _ => none)))))), (q_5, .inr (9, [.ref tb_7, .int 0])), (tb_7, .inl (kB_8, 250, .inl (fun _ => 0))), (q_9, .inr (7, [.int 1, .ref le_11, .ref mo_12, .ref os_13, .ref ps_14, .int 0, .ref br_15, .int 0])), (le_11, .inl (kl_16, 8, .inl fl_21)), (mo_12, .inl (km_17, 8, .inl fm_22)), (os_13, .inl (ko_18, 6, .inl (fun _ => 0))), (ps_14, .inl (kp_19, 6, .inl (fun _ => 0))), (br_15, .inl (kb_20, 8, .inr (.inl (fun _ => 0)))), (q_23, .inl (k_24, 4, .inl (fun _ => 0))), (q_25, .inl (k_26, 6, .inl (fun _ => 0))), (q_27, .inl (k_28, 24, .inl (fun _ => 0))), (q_29, .inl (k_30, 24, .inl (fun _ => 0)))] := hD
  have hK : va_K (dC, dI) vwCl [(k_2, .object "ExamHalls$Candidate"), (k_4, .object "ExamHalls$Reader"), (kB_8, .byte), (kl_16, .int), (km_17, .int), (ko_18, .int), (kp_19, .int), (kb_20, .long), (k_24, .int), (k_26, .int), (k_28, .int), (k_30, .boolean)] s := hK
  refine W.widen (k := 14) (n := 384) (Nat.le_of_ble_eq_true rfl) (Nat.le_of_ble_eq_true rfl) ?_
  refine va_putF (D := (dC, dI)) (ci := 10) (v := .ref q_29) (ty := .array .boolean) (C := RX5) (T := TX5) (N := 14) hx hb hts (fun _ h9 => List.mem_cons_of_mem _ (List.mem_append_left _ (List.mem_append_left _ (List.mem_append_right _ (h9))))) tyX5 tyX5_ok nmX5 hown hK hP hD hS 0 rfl rfl 12 (by decide) (hts (.fieldLink RX5 61 "ExamHalls" "passing" "[Z") (List.mem_of_getElem? (i := 26) rfl)) (fun _ h9 => h9) rfl hin rfl (by decide +kernel) rfl rfl (Nat.le_of_ble_eq_true rfl) dX5_init_98 (fun H locs hP hD hS => ?_)
  have hP : va_P (dC, dI) vwCl [(x, .inr (10, [.ref q_1, .int 0, .ref q_3, .int 0, .ref q_5, .ref q_9, .int 10, .ref q_23, .int 0, .int 0, .ref q_25, .ref q_27, .ref q_29, .null])), (q_1, .inl (k_2, 24, .inr (.inr (.inr (.inr (fun _ => none)))))), (q_3, .inl (k_4, 6, .inr (.inr (.inr (.inr (fun _ => none)))))), (q_5, .inr (9, [.ref tb_7, .int 0])), (tb_7, .inl (kB_8, 250, .inl (fun _ => 0))), (q_9, .inr (7, [.int 1, .ref le_11, .ref mo_12, .ref os_13, .ref ps_14, .int 0, .ref br_15, .int 0])), (le_11, .inl (kl_16, 8, .inl fl_21)), (mo_12, .inl (km_17, 8, .inl fm_22)), (os_13, .inl (ko_18, 6, .inl (fun _ => 0))), (ps_14, .inl (kp_19, 6, .inl (fun _ => 0))), (br_15, .inl (kb_20, 8, .inr (.inl (fun _ => 0)))), (q_23, .inl (k_24, 4, .inl (fun _ => 0))), (q_25, .inl (k_26, 6, .inl (fun _ => 0))), (q_27, .inl (k_28, 24, .inl (fun _ => 0))), (q_29, .inl (k_30, 24, .inl (fun _ => 0)))] H := hP
  have hD : va_D A [(x, .inr (10, [.ref q_1, .int 0, .ref q_3, .int 0, .ref q_5, .ref q_9, .int 10, .ref q_23, .int 0, .int 0, .ref q_25, .ref q_27, .ref q_29, .null])), (q_1, .inl (k_2, 24, .inr (.inr (.inr (.inr (fun _ => none)))))), (q_3, .inl (k_4, 6, .inr (.inr (.inr (.inr (fun _ => none)))))), (q_5, .inr (9, [.ref tb_7, .int 0])), (tb_7, .inl (kB_8, 250, .inl (fun _ => 0))), (q_9, .inr (7, [.int 1, .ref le_11, .ref mo_12, .ref os_13, .ref ps_14, .int 0, .ref br_15, .int 0])), (le_11, .inl (kl_16, 8, .inl fl_21)), (mo_12, .inl (km_17, 8, .inl fm_22)), (os_13, .inl (ko_18, 6, .inl (fun _ => 0))), (ps_14, .inl (kp_19, 6, .inl (fun _ => 0))), (br_15, .inl (kb_20, 8, .inr (.inl (fun _ => 0)))), (q_23, .inl (k_24, 4, .inl (fun _ => 0))), (q_25, .inl (k_26, 6, .inl (fun _ => 0))), (q_27, .inl (k_28, 24, .inl (fun _ => 0))), (q_29, .inl (k_30, 24, .inl (fun _ => 0)))] := hD
  refine lv_aload_n hx hb dX5_init_101 rfl (lv_at hl 0 rfl) ?_
  refine lv_bipush (v := 24) hx hb dX5_init_102 (by decide) ?_
  refine va_newa (atype := .boolean) (ty := .boolean) (a0 := (24, (.inl (fun _ => 0)))) hx hb (hts (.arrayClass .boolean) (List.mem_of_getElem? (i := 25) rfl)) rfl hK hP hD hS hA (fun _ => rfl) (by decide) (by decide) (Nat.le_of_ble_eq_true rfl) (Nat.le_of_ble_eq_true rfl) (Nat.le_of_ble_eq_true rfl) dX5_init_104 (fun q_31 k_32 H hK hP hD hS => ?_)
  have hP : va_P (dC, dI) vwCl [(x, .inr (10, [.ref q_1, .int 0, .ref q_3, .int 0, .ref q_5, .ref q_9, .int 10, .ref q_23, .int 0, .int 0, .ref q_25, .ref q_27, .ref q_29, .null])), (q_1, .inl (k_2, 24, .inr (.inr (.inr (.inr (fun _ => none)))))), (q_3, .inl (k_4, 6, .inr (.inr (.inr (.inr (fun _ => none)))))), (q_5, .inr (9, [.ref tb_7, .int 0])), (tb_7, .inl (kB_8, 250, .inl (fun _ => 0))), (q_9, .inr (7, [.int 1, .ref le_11, .ref mo_12, .ref os_13, .ref ps_14, .int 0, .ref br_15, .int 0])), (le_11, .inl (kl_16, 8, .inl fl_21)), (mo_12, .inl (km_17, 8, .inl fm_22)), (os_13, .inl (ko_18, 6, .inl (fun _ => 0))), (ps_14, .inl (kp_19, 6, .inl (fun _ => 0))), (br_15, .inl (kb_20, 8, .inr (.inl (fun _ => 0)))), (q_23, .inl (k_24, 4, .inl (fun _ => 0))), (q_25, .inl (k_26, 6, .inl (fun _ => 0))), (q_27, .inl (k_28, 24, .inl (fun _ => 0))), (q_29, .inl (k_30, 24, .inl (fun _ => 0))), (q_31, .inl (k_32, 24, .inl (fun _ => 0)))] H := hP
  have hD : va_D A [(x, .inr (10, [.ref q_1, .int 0, .ref q_3, .int 0, .ref q_5, .ref q_9, .int 10, .ref q_23, .int 0, .int 0, .ref q_25, .ref q_27, .ref q_29, .null])), (q_1, .inl (k_2, 24, .inr (.inr (.inr (.inr (fun _ => none)))))), (q_3, .inl (k_4, 6, .inr (.inr (.inr (.inr (fun _ => none)))))), (q_5, .inr (9, [.ref tb_7, .int 0])), (tb_7, .inl (kB_8, 250, .inl (fun _ => 0))), (q_9, .inr (7, [.int 1, .ref le_11, .ref mo_12, .ref os_13, .ref ps_14, .int 0, .ref br_15, .int 0])), (le_11, .inl (kl_16, 8, .inl fl_21)), (mo_12, .inl (km_17, 8, .inl fm_22)), (os_13, .inl (ko_18, 6, .inl (fun _ => 0))), (ps_14, .inl (kp_19, 6, .inl (fun _ => 0))), (br_15, .inl (kb_20, 8, .inr (.inl (fun _ => 0)))), (q_23, .inl (k_24, 4, .inl (fun _ => 0))), (q_25, .inl (k_26, 6, .inl (fun _ => 0))), (q_27, .inl (k_28, 24, .inl (fun _ => 0))), (q_29, .inl (k_30, 24, .inl (fun _ => 0))), (q_31, .inl (k_32, 24, .inl (fun _ => 0)))] := hD
  have hK : va_K (dC, dI) vwCl [(k_2, .object "ExamHalls$Candidate"), (k_4, .object "ExamHalls$Reader"), (kB_8, .byte), (kl_16, .int), (km_17, .int), (ko_18, .int), (kp_19, .int), (kb_20, .long), (k_24, .int), (k_26, .int), (k_28, .int), (k_30, .boolean), (k_32, .boolean)] s := hK
  refine W.widen (k := 15) (n := 408) (Nat.le_of_ble_eq_true rfl) (Nat.le_of_ble_eq_true rfl) ?_
  refine va_putF (D := (dC, dI)) (ci := 10) (v := .ref q_31) (ty := .array .boolean) (C := RX5) (T := TX5) (N := 14) hx hb hts (fun _ h9 => List.mem_cons_of_mem _ (List.mem_append_left _ (List.mem_append_left _ (List.mem_append_right _ (h9))))) tyX5 tyX5_ok nmX5 hown hK hP hD hS 0 rfl rfl 13 (by decide) (hts (.fieldLink RX5 65 "ExamHalls" "passedBefore" "[Z") (List.mem_of_getElem? (i := 27) rfl)) (fun _ h9 => h9) rfl hin rfl (by decide +kernel) rfl rfl (Nat.le_of_ble_eq_true rfl) dX5_init_106 (fun H locs hP hD hS => ?_)
  have hP : va_P (dC, dI) vwCl [(x, .inr (10, [.ref q_1, .int 0, .ref q_3, .int 0, .ref q_5, .ref q_9, .int 10, .ref q_23, .int 0, .int 0, .ref q_25, .ref q_27, .ref q_29, .ref q_31])), (q_1, .inl (k_2, 24, .inr (.inr (.inr (.inr (fun _ => none)))))), (q_3, .inl (k_4, 6, .inr (.inr (.inr (.inr (fun _ => none)))))), (q_5, .inr (9, [.ref tb_7, .int 0])), (tb_7, .inl (kB_8, 250, .inl (fun _ => 0))), (q_9, .inr (7, [.int 1, .ref le_11, .ref mo_12, .ref os_13, .ref ps_14, .int 0, .ref br_15, .int 0])), (le_11, .inl (kl_16, 8, .inl fl_21)), (mo_12, .inl (km_17, 8, .inl fm_22)), (os_13, .inl (ko_18, 6, .inl (fun _ => 0))), (ps_14, .inl (kp_19, 6, .inl (fun _ => 0))), (br_15, .inl (kb_20, 8, .inr (.inl (fun _ => 0)))), (q_23, .inl (k_24, 4, .inl (fun _ => 0))), (q_25, .inl (k_26, 6, .inl (fun _ => 0))), (q_27, .inl (k_28, 24, .inl (fun _ => 0))), (q_29, .inl (k_30, 24, .inl (fun _ => 0))), (q_31, .inl (k_32, 24, .inl (fun _ => 0)))] H := hP
  have hD : va_D A [(x, .inr (10, [.ref q_1, .int 0, .ref q_3, .int 0, .ref q_5, .ref q_9, .int 10, .ref q_23, .int 0, .int 0, .ref q_25, .ref q_27, .ref q_29, .ref q_31])), (q_1, .inl (k_2, 24, .inr (.inr (.inr (.inr (fun _ => none)))))), (q_3, .inl (k_4, 6, .inr (.inr (.inr (.inr (fun _ => none)))))), (q_5, .inr (9, [.ref tb_7, .int 0])), (tb_7, .inl (kB_8, 250, .inl (fun _ => 0))), (q_9, .inr (7, [.int 1, .ref le_11, .ref mo_12, .ref os_13, .ref ps_14, .int 0, .ref br_15, .int 0])), (le_11, .inl (kl_16, 8, .inl fl_21)), (mo_12, .inl (km_17, 8, .inl fm_22)), (os_13, .inl (ko_18, 6, .inl (fun _ => 0))), (ps_14, .inl (kp_19, 6, .inl (fun _ => 0))), (br_15, .inl (kb_20, 8, .inr (.inl (fun _ => 0)))), (q_23, .inl (k_24, 4, .inl (fun _ => 0))), (q_25, .inl (k_26, 6, .inl (fun _ => 0))), (q_27, .inl (k_28, 24, .inl (fun _ => 0))), (q_29, .inl (k_30, 24, .inl (fun _ => 0))), (q_31, .inl (k_32, 24, .inl (fun _ => 0)))] := hD
  have hP9 := hP.sub (ws' := [(x, .inr (10, [.ref q_1, .int 0, .ref q_3, .int 0, .ref q_5, .ref q_9, .int 10, .ref q_23, .int 0, .int 0, .ref q_25, .ref q_27, .ref q_29, .ref q_31])), (q_1, .inl (k_2, 24, .inr (.inr (.inr (.inr (fun _ => none)))))), (q_3, .inl (k_4, 6, .inr (.inr (.inr (.inr (fun _ => none)))))), (q_5, .inr (9, [.ref tb_7, .int 0])), (tb_7, .inl (kB_8, 250, .inl (fun _ => 0))), (q_9, .inr (7, [.int 1, .ref le_11, .ref mo_12, .ref os_13, .ref ps_14, .int 0, .ref br_15, .int 0])), (le_11, .inl (kl_16, 8, .inl fl_21)), (mo_12, .inl (km_17, 8, .inl fm_22)), (os_13, .inl (ko_18, 6, .inl (fun _ => 0))), (ps_14, .inl (kp_19, 6, .inl (fun _ => 0))), (br_15, .inl (kb_20, 8, .inr (.inl (fun _ => 0)))), (q_23, .inl (k_24, 4, .inl (fun _ => 0)))]) [0, 1, 2, 3, 4, 5, 6, 7, 8, 9, 10, 11] rfl
  have hD9 := hD.sub (ws' := [(x, .inr (10, [.ref q_1, .int 0, .ref q_3, .int 0, .ref q_5, .ref q_9, .int 10, .ref q_23, .int 0, .int 0, .ref q_25, .ref q_27, .ref q_29, .ref q_31])), (q_1, .inl (k_2, 24, .inr (.inr (.inr (.inr (fun _ => none)))))), (q_3, .inl (k_4, 6, .inr (.inr (.inr (.inr (fun _ => none)))))), (q_5, .inr (9, [.ref tb_7, .int 0])), (tb_7, .inl (kB_8, 250, .inl (fun _ => 0))), (q_9, .inr (7, [.int 1, .ref le_11, .ref mo_12, .ref os_13, .ref ps_14, .int 0, .ref br_15, .int 0])), (le_11, .inl (kl_16, 8, .inl fl_21)), (mo_12, .inl (km_17, 8, .inl fm_22)), (os_13, .inl (ko_18, 6, .inl (fun _ => 0))), (ps_14, .inl (kp_19, 6, .inl (fun _ => 0))), (br_15, .inl (kb_20, 8, .inr (.inl (fun _ => 0)))), (q_23, .inl (k_24, 4, .inl (fun _ => 0)))]) [0, 1, 2, 3, 4, 5, 6, 7, 8, 9, 10, 11] (by decide) rfl
  have hK9 := hK.sub (tys' := [(k_2, .object "ExamHalls$Candidate"), (k_4, .object "ExamHalls$Reader"), (kB_8, .byte), (kl_16, .int), (km_17, .int), (ko_18, .int), (kp_19, .int), (kb_20, .long), (k_24, .int)]) [0, 1, 2, 3, 4, 5, 6, 7, 8] rfl
  exact W.vret hx hb hr (fun t ht hW => ⟨⟨(), rfl, trivial, q_1, q_3, q_5, q_9, q_23, q_25, q_27, q_29, q_31, tb_7, le_11, mo_12, os_13, ps_14, br_15, kl_16, km_17, ko_18, kp_19, kb_20, fl_21, fm_22, k_2, k_4, kB_8, k_24, by rw [ht]; exact hP9, va_K.moved hW.alike hK9, hD9⟩, hS.F ht⟩) hS.2.2 dX5_init_109

def sp_X_candidate (c1 : Int32) : Int32 := if (sp_X_isWithin c1 0 3) = 0 then (-1) else 0
set_option maxHeartbeats 4000000 in
set_option maxRecDepth 100000 in
theorem c_X_candidate (l : Launch) (dC : Nat → ClassId) (dI : Nat → Nat → Nat) (x : Nat) (cd : Nat) (rd : Nat) (tp : Nat) (fo : Nat) (qu : Nat) (sh : Nat) (vs : Nat) (pa : Nat) (pb : Nat) (kC : ClassId) (c1 : Int32) (sz : Nat) : Met l yX5_candidate wsX5_candidate ({ frames := 2, cells := 4, slots := 24, locals := 33 }) (va_Pc [.ref x, .int c1] (PQ dC dI sz [(x, .inr (10, [.ref cd, .int 0, .ref rd, .int 0, .ref tp, .ref fo, .int 10, .ref qu, .int 0, .int 0, .ref sh, .ref vs, .ref pa, .ref pb])), (cd, .inl (kC, 24, .inr (.inr (.inr (.inr (fun _ => none))))))] [(kC, .object "ExamHalls$Candidate")])) (va_Qi (fun r (_ : Unit) => r = sp_X_candidate c1) (fun _ _ => True) (va_A [(x, .inr (10, [.ref cd, .int 0, .ref rd, .int 0, .ref tp, .ref fo, .int 10, .ref qu, .int 0, .int 0, .ref sh, .ref vs, .ref pa, .ref pb])), (cd, .inl (kC, 24, .inr (.inr (.inr (.inr (fun _ => none))))))] sz)) 4 24 (va_A [(x, .inr (10, [.ref cd, .int 0, .ref rd, .int 0, .ref tp, .ref fo, .int 10, .ref qu, .int 0, .int 0, .ref sh, .ref vs, .ref pa, .ref pb])), (cd, .inl (kC, 24, .inr (.inr (.inr (.inr (fun _ => none))))))] sz) := by
  refine Met.ofW (cc := cX5_candidate) (maxL := 2) (ret := (some .int)) (by decide) rfl ?_
  intro p e s m args below meth c s₁ B hml hv
  obtain ⟨rfl, hsz, hP, hK, hD0, hF⟩ := hv
  have hx := B.exec
  have hb := B.bytes
  have hr := B.returns
  have hts := atoms_spec (ws := wsX5_candidate) B.pre
  have hown : s.vm.findClass RX5 = some m.cls := findClass_of_methodNamed B.named
  have hlocks := B.notSynchronized
  subst hsz
  have hD := hD0.self (sz := s.heap.size)
  generalize hAe : va_A [(x, .inr (10, [.ref cd, .int 0, .ref rd, .int 0, .ref tp, .ref fo, .int 10, .ref qu, .int 0, .int 0, .ref sh, .ref vs, .ref pa, .ref pb])), (cd, .inl (kC, 24, .inr (.inr (.inr (.inr (fun _ => none))))))] s.heap.size = A at hD ⊢
  have hA : ∀ q : Nat, s.heap.size ≤ q → A q := fun q h => by rw [← hAe]; exact Or.inr h
  have hS : va_S A s.heap s.heap [] := va_S.rf
  have hl := lv_entry ([.ref x, .int c1]) (n := 2) (Nat.le_of_ble_eq_true rfl)
  rw [lg_entry_eq]
  generalize (lg_sl ([.ref x, .int c1]) ++ List.replicate (2 - (lg_sl ([.ref x, .int c1])).length) Slot.unset).toArray = ls at hl ⊢
  have hl : lv_has ls 2 [(0, .ref x), (1, .int c1)] := hl
  refine lv_iload_n hx hb dX5_candidate_0 rfl (lv_at hl 1 rfl) ?_
  refine lv_iconst (v := 0) hx hb dX5_candidate_1 (by decide) ?_
  refine lv_iconst (v := 3) hx hb dX5_candidate_2 (by decide) ?_
  refine vp_callSi (va_Run.run (va_runS (As := [.int c1, .int 0, .int 3]) (rest := []) ⟨hx, hb, hml, hown, hts⟩ (c_X_isWithin l dC dI c1 0 3) (va_cwS 3 hts gX5_candidate_X5_isWithin rfl rfl rfl (by decide +kernel) ⟨Nat.le_of_ble_eq_true rfl, Nat.le_of_ble_eq_true rfl⟩) ⟨PS_blind, PS_pre (hP.sub (ws' := []) [] rfl) (hK.sub (tys' := []) [] rfl) hF⟩ rfl rfl hl.1 rfl (lv_room (Nat.le_of_ble_eq_true rfl)) dX5_candidate_3 ⟨Nat.le_of_ble_eq_true rfl, Nat.le_of_ble_eq_true rfl⟩)) (fun r_1 hr_1 => ?_)
  subst hr_1
  refine lv_if_ne (tgt := 11) hx hb dX5_candidate_6 (by decide) (fun c_2 => ?_) (fun c_2 => ?_)
  · skip
    refine lv_aload_n hx hb dX5_candidate_11 rfl (lv_at hl 0 rfl) ?_
    refine va_get (D := (dC, dI)) (ci := 10) (v := .int 0) (C := RX5) (T := TX5) (N := 14) hx hb hts (fun _ h9 => List.mem_cons_of_mem _ (List.mem_append_left _ (List.mem_append_right _ (h9)))) hown hK hP 0 rfl rfl 1 (by decide) (hts (.fieldLink RX5 15 "ExamHalls" "candidateCount" "I") (List.mem_of_getElem? (i := 1) rfl)) (fun _ h9 => h9) rfl dX5_candidate_12 ?_
    refine lv_if_lt (tgt := 30) hx hb dX5_candidate_15 (by decide) (fun c_3 => absurd c_3 (by decide)) (fun _ => ?_)
    refine lv_aload_n hx hb dX5_candidate_18 rfl (lv_at hl 0 rfl) ?_
    refine va_get (D := (dC, dI)) (ci := 10) (v := .int 0) (C := RX5) (T := TX5) (N := 14) hx hb hts (fun _ h9 => List.mem_cons_of_mem _ (List.mem_append_left _ (List.mem_append_right _ (h9)))) hown hK hP 0 rfl rfl 1 (by decide) (hts (.fieldLink RX5 15 "ExamHalls" "candidateCount" "I") (List.mem_of_getElem? (i := 1) rfl)) (fun _ h9 => h9) rfl dX5_candidate_19 ?_
    refine lv_aload_n hx hb dX5_candidate_22 rfl (lv_at hl 0 rfl) ?_
    refine va_get (D := (dC, dI)) (ci := 10) (v := .ref cd) (C := RX5) (T := TX5) (N := 14) hx hb hts (fun _ h9 => List.mem_cons_of_mem _ (List.mem_append_left _ (List.mem_append_right _ (h9)))) hown hK hP 0 rfl rfl 0 (by decide) (hts (.fieldLink RX5 11 "ExamHalls" "candidates" "[LExamHalls$Candidate;") (List.mem_of_getElem? (i := 2) rfl)) (fun _ h9 => h9) rfl dX5_candidate_23 ?_
    refine va_alen hx hb hK hP 1 0 rfl rfl (v := 24) rfl dX5_candidate_26 ?_
    refine lv_icmp_lt (tgt := 33) hx hb dX5_candidate_27 (by decide) (fun _ => ?_) (fun c_4 => absurd (by decide) c_4)
    refine lv_aload_n hx hb dX5_candidate_33 rfl (lv_at hl 0 rfl) ?_
    refine va_get (D := (dC, dI)) (ci := 10) (v := .ref cd) (C := RX5) (T := TX5) (N := 14) hx hb hts (fun _ h9 => List.mem_cons_of_mem _ (List.mem_append_left _ (List.mem_append_right _ (h9)))) hown hK hP 0 rfl rfl 0 (by decide) (hts (.fieldLink RX5 11 "ExamHalls" "candidates" "[LExamHalls$Candidate;") (List.mem_of_getElem? (i := 2) rfl)) (fun _ h9 => h9) rfl dX5_candidate_34 ?_
    refine lv_aload_n hx hb dX5_candidate_37 rfl (lv_at hl 0 rfl) ?_
    refine va_get (D := (dC, dI)) (ci := 10) (v := .int 0) (C := RX5) (T := TX5) (N := 14) hx hb hts (fun _ h9 => List.mem_cons_of_mem _ (List.mem_append_left _ (List.mem_append_right _ (h9)))) hown hK hP 0 rfl rfl 1 (by decide) (hts (.fieldLink RX5 15 "ExamHalls" "candidateCount" "I") (List.mem_of_getElem? (i := 1) rfl)) (fun _ h9 => h9) rfl dX5_candidate_38 ?_
    refine va_new (ci := 5) (fs := [.int 0, .null, .int 0, .int 0, .int 0, .int 0, .null, .null, .null, .int 0]) (C := RX0) (T := TX0) (N := 10) hx hb hts (fun _ h9 => List.mem_cons_of_mem _ (List.mem_append_right _ (h9))) tyX0 tyX0_ok hown (hts (.classLink RX5 9 RX0) (List.mem_of_getElem? (i := 3) rfl)) (hts (.instantiable RX0 10) (List.mem_of_getElem? (i := 4) rfl)) (hts (.initialized RX0) (List.mem_of_getElem? (i := 5) rfl)) hK hP hD hS hA rfl dfX0 (Nat.le_of_ble_eq_true rfl) (Nat.le_of_ble_eq_true rfl) dX5_candidate_41 (fun q_5 H hP hD hS => ?_)
    have hP : va_P (dC, dI) vwCl [(x, .inr (10, [.ref cd, .int 0, .ref rd, .int 0, .ref tp, .ref fo, .int 10, .ref qu, .int 0, .int 0, .ref sh, .ref vs, .ref pa, .ref pb])), (cd, .inl (kC, 24, .inr (.inr (.inr (.inr (fun _ => none)))))), (q_5, .inr (5, [.int 0, .null, .int 0, .int 0, .int 0, .int 0, .null, .null, .null, .int 0]))] H := hP
    have hD : va_D A [(x, .inr (10, [.ref cd, .int 0, .ref rd, .int 0, .ref tp, .ref fo, .int 10, .ref qu, .int 0, .int 0, .ref sh, .ref vs, .ref pa, .ref pb])), (cd, .inl (kC, 24, .inr (.inr (.inr (.inr (fun _ => none)))))), (q_5, .inr (5, [.int 0, .null, .int 0, .int 0, .int 0, .int 0, .null, .null, .null, .int 0]))] := hD
    refine W.widen (k := 1) (n := 10) (Nat.le_of_ble_eq_true rfl) (Nat.le_of_ble_eq_true rfl) ?_
    refine lv_dup hx hb dX5_candidate_44 rfl ?_
    refine lv_iload_n hx hb dX5_candidate_45 rfl (lv_at hl 1 rfl) ?_
    have hPc := hP.sub (ws' := [(q_5, .inr (5, [.int 0, .null, .int 0, .int 0, .int 0, .int 0, .null, .null, .null, .int 0]))]) [2] rfl
    have hDc := hD.sub (ws' := [(q_5, .inr (5, [.int 0, .null, .int 0, .int 0, .int 0, .int 0, .null, .null, .null, .int 0]))]) [2] (by decide) rfl
    have hKc := hK.sub (tys' := []) [] rfl
    have hFc := va_free (wc := [(q_5, .inr (5, [.int 0, .null, .int 0, .int 0, .int 0, .int 0, .null, .null, .null, .int 0]))]) hD hS hA [2] rfl
    refine va_callv (va_runIN (As := [.int c1]) (rest := [.ref q_5, .int 0, .ref cd]) ⟨hx, hb, hml, hown, hts⟩ (c_X0_init l dC dI q_5 c1 H.size) ⟨va_cnB 1 hts gX5_candidate_X0_init_n72 rfl rfl rfl (Ft.nm hF (RX5, 72, yX0_init, RX5) (by decide +kernel)) (hts (.initialized RX0) (List.mem_of_getElem? (i := 5) rfl)) (by decide +kernel) ⟨Nat.le_of_ble_eq_true rfl, Nat.le_of_ble_eq_true rfl⟩, rfl, (hts (.instanceMethod yX0_init) (List.mem_of_getElem? (i := 10) rfl))⟩ ⟨PQ_blind, PQ_pre hPc hKc hDc hF⟩ rfl rfl hl.1 rfl (lv_room (Nat.le_of_ble_eq_true rfl)) dX5_candidate_46 ⟨Nat.le_of_ble_eq_true rfl, Nat.le_of_ble_eq_true rfl⟩) hS (fun q _ h => hFc q h) hFc (fun u t H1 locs ht hvm hw hB hz1 hk1 hS => ?_)
    obtain ⟨g1_7, g2_8, g3_9, hP1, hK1, hD1⟩ := hB
    rw [ht] at hP1
    have hK1 := va_K.moved hvm.symm hK1
    obtain ⟨hP, hD⟩ := va_join (wr := [(x, .inr (10, [.ref cd, .int 0, .ref rd, .int 0, .ref tp, .ref fo, .int 10, .ref qu, .int 0, .int 0, .ref sh, .ref vs, .ref pa, .ref pb])), (cd, .inl (kC, 24, .inr (.inr (.inr (.inr (fun _ => none))))))]) (w1 := [(q_5, .inr (5, [.int c1, .null, .int (-1), .int (-1), .int 0, .int 0, .ref g1_7, .ref g2_8, .ref g3_9, .int 0]))]) hP hD [2] [0, 1] rfl rfl (by decide) (by decide) hk1 hFc hP1 hD1
    have hK := hK.app hK1
    generalize H1 = H at hP hS ⊢
    have hP : va_P (dC, dI) vwCl [(x, .inr (10, [.ref cd, .int 0, .ref rd, .int 0, .ref tp, .ref fo, .int 10, .ref qu, .int 0, .int 0, .ref sh, .ref vs, .ref pa, .ref pb])), (cd, .inl (kC, 24, .inr (.inr (.inr (.inr (fun _ => none)))))), (q_5, .inr (5, [.int c1, .null, .int (-1), .int (-1), .int 0, .int 0, .ref g1_7, .ref g2_8, .ref g3_9, .int 0]))] H := hP
    have hD : va_D A [(x, .inr (10, [.ref cd, .int 0, .ref rd, .int 0, .ref tp, .ref fo, .int 10, .ref qu, .int 0, .int 0, .ref sh, .ref vs, .ref pa, .ref pb])), (cd, .inl (kC, 24, .inr (.inr (.inr (.inr (fun _ => none)))))), (q_5, .inr (5, [.int c1, .null, .int (-1), .int (-1), .int 0, .int 0, .ref g1_7, .ref g2_8, .ref g3_9, .int 0]))] := hD
    have hK : va_K (dC, dI) vwCl [(kC, .object "ExamHalls$Candidate")] s := hK
    refine W.widen (k := 4) (n := 24) (Nat.le_of_ble_eq_true rfl) (Nat.le_of_ble_eq_true rfl) ?_
    refine va_astq hx hb hK hP hD hS 1 0 2 5 (r := (RX0, TX0, 10)) rfl rfl rfl rfl (by unfold vp_in; decide) dX5_candidate_49 (fun H locs hP hD hS => ?_)
    have hP : va_P (dC, dI) vwCl [(x, .inr (10, [.ref cd, .int 0, .ref rd, .int 0, .ref tp, .ref fo, .int 10, .ref qu, .int 0, .int 0, .ref sh, .ref vs, .ref pa, .ref pb])), (cd, .inl (kC, 24, .inr (.inr (.inr (.inr (va_up (fun _ => none) (0 : Int32).toNatClampNeg (some q_5))))))), (q_5, .inr (5, [.int c1, .null, .int (-1), .int (-1), .int 0, .int 0, .ref g1_7, .ref g2_8, .ref g3_9, .int 0]))] H := hP
    have hD : va_D A [(x, .inr (10, [.ref cd, .int 0, .ref rd, .int 0, .ref tp, .ref fo, .int 10, .ref qu, .int 0, .int 0, .ref sh, .ref vs, .ref pa, .ref pb])), (cd, .inl (kC, 24, .inr (.inr (.inr (.inr (va_up (fun _ => none) (0 : Int32).toNatClampNeg (some q_5))))))), (q_5, .inr (5, [.int c1, .null, .int (-1), .int (-1), .int 0, .int 0, .ref g1_7, .ref g2_8, .ref g3_9, .int 0]))] := hD
    generalize (va_up (fun _ => none) (0 : Int32).toNatClampNeg (some q_5)) = a_10 at hP hD
    refine lv_aload_n hx hb dX5_candidate_50 rfl (lv_at hl 0 rfl) ?_
    refine lv_dup hx hb dX5_candidate_51 rfl ?_
    refine va_get (D := (dC, dI)) (ci := 10) (v := .int 0) (C := RX5) (T := TX5) (N := 14) hx hb hts (fun _ h9 => List.mem_cons_of_mem _ (List.mem_append_left _ (List.mem_append_right _ (h9)))) hown hK hP 0 rfl rfl 1 (by decide) (hts (.fieldLink RX5 15 "ExamHalls" "candidateCount" "I") (List.mem_of_getElem? (i := 1) rfl)) (fun _ h9 => h9) rfl dX5_candidate_52 ?_
    refine lv_iconst (v := 1) hx hb dX5_candidate_55 (by decide) ?_
    refine lv_iadd hx hb dX5_candidate_56 ?_
    refine lv_topi (fun f_11 ef_11 => ?_)
    obtain rfl : f_11 = 1 := ef_11.trans (by decide)
    refine va_put (D := (dC, dI)) (ci := 10) (v := .int 1) (ty := .int) (C := RX5) (T := TX5) (N := 14) hx hb hts (fun _ h9 => List.mem_cons_of_mem _ (List.mem_append_left _ (List.mem_append_right _ (h9)))) tyX5 tyX5_ok nmX5 hown hK hP hD hS 0 rfl rfl 1 (by decide) (hts (.fieldLink RX5 15 "ExamHalls" "candidateCount" "I") (List.mem_of_getElem? (i := 1) rfl)) (fun _ h9 => h9) rfl (by decide +kernel) rfl rfl (Nat.le_of_ble_eq_true rfl) dX5_candidate_57 (fun H locs hP hD hS => ?_)
    have hP : va_P (dC, dI) vwCl [(x, .inr (10, [.ref cd, .int 1, .ref rd, .int 0, .ref tp, .ref fo, .int 10, .ref qu, .int 0, .int 0, .ref sh, .ref vs, .ref pa, .ref pb])), (cd, .inl (kC, 24, .inr (.inr (.inr (.inr a_10))))), (q_5, .inr (5, [.int c1, .null, .int (-1), .int (-1), .int 0, .int 0, .ref g1_7, .ref g2_8, .ref g3_9, .int 0]))] H := hP
    have hD : va_D A [(x, .inr (10, [.ref cd, .int 1, .ref rd, .int 0, .ref tp, .ref fo, .int 10, .ref qu, .int 0, .int 0, .ref sh, .ref vs, .ref pa, .ref pb])), (cd, .inl (kC, 24, .inr (.inr (.inr (.inr a_10))))), (q_5, .inr (5, [.int c1, .null, .int (-1), .int (-1), .int 0, .int 0, .ref g1_7, .ref g2_8, .ref g3_9, .int 0]))] := hD
    refine lv_aload_n hx hb dX5_candidate_60 rfl (lv_at hl 0 rfl) ?_
    refine va_get (D := (dC, dI)) (ci := 10) (v := .int 1) (C := RX5) (T := TX5) (N := 14) hx hb hts (fun _ h9 => List.mem_cons_of_mem _ (List.mem_append_left _ (List.mem_append_right _ (h9)))) hown hK hP 0 rfl rfl 1 (by decide) (hts (.fieldLink RX5 15 "ExamHalls" "candidateCount" "I") (List.mem_of_getElem? (i := 1) rfl)) (fun _ h9 => h9) rfl dX5_candidate_61 ?_
    refine lv_iconst (v := 1) hx hb dX5_candidate_64 (by decide) ?_
    refine lv_isub hx hb dX5_candidate_65 ?_
    refine lv_topi (fun f_12 ef_12 => ?_)
    obtain rfl : f_12 = 0 := ef_12.trans (by decide)
    exact W.iret (v := 0) hx hb hr (fun t ht hW => ⟨⟨_, (), rfl, (by simp only [sp_X_candidate, if_neg c_2]), trivial⟩, hS.F ht⟩) hS.2.2 dX5_candidate_66
  · skip
    refine lv_iconst (v := (-1)) hx hb dX5_candidate_9 (by decide) ?_
    refine W.widen (k := 4) (n := 24) (Nat.le_of_ble_eq_true rfl) (Nat.le_of_ble_eq_true rfl) ?_
    exact W.iret (v := (-1)) hx hb hr (fun t ht hW => ⟨⟨_, (), rfl, (by simp only [sp_X_candidate, if_pos c_2]), trivial⟩, hS.F ht⟩) hS.2.2 dX5_candidate_10

def sp_X_form (c1 : Int32) : Int32 := if (sp_X_isWithin c1 1 8) = 0 then (-2) else 1
set_option maxHeartbeats 4000000 in
set_option maxRecDepth 100000 in
theorem c_X_form (l : Launch) (dC : Nat → ClassId) (dI : Nat → Nat → Nat) (x : Nat) (cd : Nat) (rd : Nat) (tp : Nat) (fo : Nat) (qu : Nat) (sh : Nat) (vs : Nat) (pa : Nat) (pb : Nat) (le : Nat) (mo : Nat) (os : Nat) (ps : Nat) (br : Nat) (c1 : Int32) (sz : Nat) : Met l yX5_form wsX5_form ({ frames := 1, cells := 0, slots := 0, locals := 22 }) (va_Pc [.ref x, .int c1] (PQ dC dI sz [(x, .inr (10, [.ref cd, .int 0, .ref rd, .int 0, .ref tp, .ref fo, .int 10, .ref qu, .int 0, .int 0, .ref sh, .ref vs, .ref pa, .ref pb])), (fo, .inr (7, [.int 1, .ref le, .ref mo, .ref os, .ref ps, .int 0, .ref br, .int 0]))] [])) (va_Qi (fun r (_ : Unit) => r = sp_X_form c1) (fun _ _ => True) (va_A [(x, .inr (10, [.ref cd, .int 0, .ref rd, .int 0, .ref tp, .ref fo, .int 10, .ref qu, .int 0, .int 0, .ref sh, .ref vs, .ref pa, .ref pb])), (fo, .inr (7, [.int 1, .ref le, .ref mo, .ref os, .ref ps, .int 0, .ref br, .int 0]))] sz)) 0 0 (va_A [(x, .inr (10, [.ref cd, .int 0, .ref rd, .int 0, .ref tp, .ref fo, .int 10, .ref qu, .int 0, .int 0, .ref sh, .ref vs, .ref pa, .ref pb])), (fo, .inr (7, [.int 1, .ref le, .ref mo, .ref os, .ref ps, .int 0, .ref br, .int 0]))] sz) := by
  refine Met.ofW (cc := cX5_form) (maxL := 3) (ret := (some .int)) (by decide) rfl ?_
  intro p e s m args below meth c s₁ B hml hv
  obtain ⟨rfl, hsz, hP, hK, hD0, hF⟩ := hv
  have hx := B.exec
  have hb := B.bytes
  have hr := B.returns
  have hts := atoms_spec (ws := wsX5_form) B.pre
  have hown : s.vm.findClass RX5 = some m.cls := findClass_of_methodNamed B.named
  have hlocks := B.notSynchronized
  subst hsz
  have hD := hD0.self (sz := s.heap.size)
  generalize hAe : va_A [(x, .inr (10, [.ref cd, .int 0, .ref rd, .int 0, .ref tp, .ref fo, .int 10, .ref qu, .int 0, .int 0, .ref sh, .ref vs, .ref pa, .ref pb])), (fo, .inr (7, [.int 1, .ref le, .ref mo, .ref os, .ref ps, .int 0, .ref br, .int 0]))] s.heap.size = A at hD ⊢
  have hA : ∀ q : Nat, s.heap.size ≤ q → A q := fun q h => by rw [← hAe]; exact Or.inr h
  have hS : va_S A s.heap s.heap [] := va_S.rf
  have hl := lv_entry ([.ref x, .int c1]) (n := 3) (Nat.le_of_ble_eq_true rfl)
  rw [lg_entry_eq]
  generalize (lg_sl ([.ref x, .int c1]) ++ List.replicate (3 - (lg_sl ([.ref x, .int c1])).length) Slot.unset).toArray = ls at hl ⊢
  have hl : lv_has ls 3 [(0, .ref x), (1, .int c1)] := hl
  refine lv_iload_n hx hb dX5_form_0 rfl (lv_at hl 1 rfl) ?_
  refine lv_iconst (v := 1) hx hb dX5_form_1 (by decide) ?_
  refine lv_bipush (v := 8) hx hb dX5_form_2 (by decide) ?_
  refine vp_callSi (va_Run.run (va_runS (As := [.int c1, .int 1, .int 8]) (rest := []) ⟨hx, hb, hml, hown, hts⟩ (c_X_isWithin l dC dI c1 1 8) (va_cwS 3 hts gX5_form_X5_isWithin rfl rfl rfl (by decide +kernel) ⟨Nat.le_of_ble_eq_true rfl, Nat.le_of_ble_eq_true rfl⟩) ⟨PS_blind, PS_pre (hP.sub (ws' := []) [] rfl) hK hF⟩ rfl rfl hl.1 rfl (lv_room (Nat.le_of_ble_eq_true rfl)) dX5_form_4 ⟨Nat.le_of_ble_eq_true rfl, Nat.le_of_ble_eq_true rfl⟩)) (fun r_1 hr_1 => ?_)
  subst hr_1
  refine lv_if_ne (tgt := 13) hx hb dX5_form_7 (by decide) (fun c_2 => ?_) (fun c_2 => ?_)
  · skip
    refine lv_aload_n hx hb dX5_form_13 rfl (lv_at hl 0 rfl) ?_
    refine va_get (D := (dC, dI)) (ci := 10) (v := .ref fo) (C := RX5) (T := TX5) (N := 14) hx hb hts (fun _ h9 => List.mem_cons_of_mem _ (List.mem_append_left _ (List.mem_append_right _ (h9)))) hown hK hP 0 rfl rfl 5 (by decide) (hts (.fieldLink RX5 38 "ExamHalls" "form" "LExamHalls$Form;") (List.mem_of_getElem? (i := 1) rfl)) (fun _ h9 => h9) rfl dX5_form_14 ?_
    refine va_getN (D := (dC, dI)) (ci := 7) (v := .int 1) (C := RX2) (T := TX2) (N := 8) hx hb hts (fun _ h9 => List.mem_cons_of_mem _ (List.mem_append_right _ (h9))) hown hK hP 1 rfl rfl 0 (by decide) (Ft.nf hF (RX5, 129, "ExamHalls$Form", "legCount", "I", RX5) (by decide +kernel)) (fun _ h9 => h9) rfl dX5_form_17 ?_
    refine lv_istore_n (lv' := [(2, .int 1), (0, .ref x), (1, .int c1)]) hx hb dX5_form_20 rfl hl (by decide) rfl (fun ls hl => ?_)
    refine lv_aload_n hx hb dX5_form_21 rfl (lv_at hl 1 rfl) ?_
    refine va_get (D := (dC, dI)) (ci := 10) (v := .ref fo) (C := RX5) (T := TX5) (N := 14) hx hb hts (fun _ h9 => List.mem_cons_of_mem _ (List.mem_append_left _ (List.mem_append_right _ (h9)))) hown hK hP 0 rfl rfl 5 (by decide) (hts (.fieldLink RX5 38 "ExamHalls" "form" "LExamHalls$Form;") (List.mem_of_getElem? (i := 1) rfl)) (fun _ h9 => h9) rfl dX5_form_22 ?_
    refine lv_iload_n hx hb dX5_form_25 rfl (lv_at hl 2 rfl) ?_
    refine va_putN (D := (dC, dI)) (ci := 7) (v := .int c1) (ty := .int) (C := RX2) (T := TX2) (N := 8) hx hb hts (fun _ h9 => List.mem_cons_of_mem _ (List.mem_append_right _ (h9))) tyX2 tyX2_ok nmX2 hown hK hP hD hS 1 rfl rfl 0 (by decide) (Ft.nf hF (RX5, 129, "ExamHalls$Form", "legCount", "I", RX5) (by decide +kernel)) (fun _ h9 => h9) rfl (by decide +kernel) rfl rfl (Nat.le_of_ble_eq_true rfl) dX5_form_26 (fun H locs hP hD hS => ?_)
    have hP : va_P (dC, dI) vwCl [(x, .inr (10, [.ref cd, .int 0, .ref rd, .int 0, .ref tp, .ref fo, .int 10, .ref qu, .int 0, .int 0, .ref sh, .ref vs, .ref pa, .ref pb])), (fo, .inr (7, [.int c1, .ref le, .ref mo, .ref os, .ref ps, .int 0, .ref br, .int 0]))] H := hP
    have hD : va_D A [(x, .inr (10, [.ref cd, .int 0, .ref rd, .int 0, .ref tp, .ref fo, .int 10, .ref qu, .int 0, .int 0, .ref sh, .ref vs, .ref pa, .ref pb])), (fo, .inr (7, [.int c1, .ref le, .ref mo, .ref os, .ref ps, .int 0, .ref br, .int 0]))] := hD
    refine lv_iload_n hx hb dX5_form_29 rfl (lv_at hl 0 rfl) ?_
    exact W.iret (v := 1) hx hb hr (fun t ht hW => ⟨⟨_, (), rfl, (by simp only [sp_X_form, if_neg c_2]), trivial⟩, hS.F ht⟩) hS.2.2 dX5_form_30
  · skip
    refine lv_bipush (v := (-2)) hx hb dX5_form_10 (by decide) ?_
    exact W.iret (v := (-2)) hx hb hr (fun t ht hW => ⟨⟨_, (), rfl, (by simp only [sp_X_form, if_pos c_2]), trivial⟩, hS.F ht⟩) hS.2.2 dX5_form_12

set_option maxHeartbeats 4000000 in
set_option maxRecDepth 100000 in
theorem c_F_setMeasure (l : Launch) (dC : Nat → ClassId) (dI : Nat → Nat → Nat) (fo : Nat) (le : Nat) (mo : Nat) (os : Nat) (ps : Nat) (br : Nat) (kl : ClassId) (km : ClassId) (fl : Nat → Int32) (fm : Nat → Int32) (c1 : Int32) (c2 : Int32) (c3 : Int32) (sz : Nat) : Met l yX2_setMeasure wsX2_setMeasure ({ frames := 0, cells := 0, slots := 0, locals := 0 }) (va_Pc [.ref fo, .int c1, .int c2, .int c3] (PQ dC dI sz [(fo, .inr (7, [.int 1, .ref le, .ref mo, .ref os, .ref ps, .int 0, .ref br, .int 0])), (le, .inl (kl, 8, .inl fl)), (mo, .inl (km, 8, .inl fm))] [(kl, .int), (km, .int)])) (va_Qv (fun _ : Unit => True) (fun _ _ => True) (va_A [(fo, .inr (7, [.int 1, .ref le, .ref mo, .ref os, .ref ps, .int 0, .ref br, .int 0])), (le, .inl (kl, 8, .inl fl)), (mo, .inl (km, 8, .inl fm))] sz)) 0 0 (va_A [(fo, .inr (7, [.int 1, .ref le, .ref mo, .ref os, .ref ps, .int 0, .ref br, .int 0])), (le, .inl (kl, 8, .inl fl)), (mo, .inl (km, 8, .inl fm))] sz) := by
  refine Met.ofW (cc := cX2_setMeasure) (maxL := 4) (ret := none) (by decide) rfl ?_
  intro p e s m args below meth c s₁ B hml hv
  obtain ⟨rfl, hsz, hP, hK, hD0, hF⟩ := hv
  have hx := B.exec
  have hb := B.bytes
  have hr := B.returns
  have hts := atoms_spec (ws := wsX2_setMeasure) B.pre
  have hown : s.vm.findClass RX2 = some m.cls := findClass_of_methodNamed B.named
  have hlocks := B.notSynchronized
  subst hsz
  have hD := hD0.self (sz := s.heap.size)
  generalize hAe : va_A [(fo, .inr (7, [.int 1, .ref le, .ref mo, .ref os, .ref ps, .int 0, .ref br, .int 0])), (le, .inl (kl, 8, .inl fl)), (mo, .inl (km, 8, .inl fm))] s.heap.size = A at hD ⊢
  have hA : ∀ q : Nat, s.heap.size ≤ q → A q := fun q h => by rw [← hAe]; exact Or.inr h
  have hS : va_S A s.heap s.heap [] := va_S.rf
  have hl := lv_entry ([.ref fo, .int c1, .int c2, .int c3]) (n := 4) (Nat.le_of_ble_eq_true rfl)
  rw [lg_entry_eq]
  generalize (lg_sl ([.ref fo, .int c1, .int c2, .int c3]) ++ List.replicate (4 - (lg_sl ([.ref fo, .int c1, .int c2, .int c3])).length) Slot.unset).toArray = ls at hl ⊢
  have hl : lv_has ls 4 [(0, .ref fo), (1, .int c1), (2, .int c2), (3, .int c3)] := hl
  refine lv_iload_n hx hb dX2_setMeasure_0 rfl (lv_at hl 1 rfl) ?_
  refine lv_if_lt (tgt := 24) hx hb dX2_setMeasure_1 (by decide) (fun c_1 => ?_) (fun c_1 => ?_)
  · skip
    exact W.vret hx hb hr (fun t ht hW => ⟨⟨(), rfl, trivial, trivial⟩, hS.F ht⟩) hS.2.2 dX2_setMeasure_24
  · skip
    refine lv_iload_n hx hb dX2_setMeasure_4 rfl (lv_at hl 1 rfl) ?_
    refine lv_bipush (v := 8) hx hb dX2_setMeasure_5 (by decide) ?_
    refine lv_icmp_ge (tgt := 24) hx hb dX2_setMeasure_7 (by decide) (fun c_2 => ?_) (fun c_2 => ?_)
    · skip
      exact W.vret hx hb hr (fun t ht hW => ⟨⟨(), rfl, trivial, trivial⟩, hS.F ht⟩) hS.2.2 dX2_setMeasure_24
    · skip
      refine lv_aload_n hx hb dX2_setMeasure_10 rfl (lv_at hl 0 rfl) ?_
      refine va_get (D := (dC, dI)) (ci := 7) (v := .ref le) (C := RX2) (T := TX2) (N := 8) hx hb hts (fun _ h9 => List.mem_cons_of_mem _ (List.mem_append_right _ (h9))) hown hK hP 0 rfl rfl 1 (by decide) (hts (.fieldLink RX2 15 "ExamHalls$Form" "least" "[I") (List.mem_of_getElem? (i := 1) rfl)) (fun _ h9 => h9) rfl dX2_setMeasure_11 ?_
      refine lv_iload_n hx hb dX2_setMeasure_14 rfl (lv_at hl 1 rfl) ?_
      refine lv_iload_n hx hb dX2_setMeasure_15 rfl (lv_at hl 2 rfl) ?_
      refine va_iast hx hb hK hP hD hS 1 0 rfl rfl (vin_lt (by decide) c_1 (show ¬ nI 8 ≤ c1 from c_2)) dX2_setMeasure_16 (fun H locs hP hD hS => ?_)
      have hP : va_P (dC, dI) vwCl [(fo, .inr (7, [.int 1, .ref le, .ref mo, .ref os, .ref ps, .int 0, .ref br, .int 0])), (le, .inl (kl, 8, .inl (upd fl (c1 : Int32).toNatClampNeg c2))), (mo, .inl (km, 8, .inl fm))] H := hP
      have hD : va_D A [(fo, .inr (7, [.int 1, .ref le, .ref mo, .ref os, .ref ps, .int 0, .ref br, .int 0])), (le, .inl (kl, 8, .inl (upd fl (c1 : Int32).toNatClampNeg c2))), (mo, .inl (km, 8, .inl fm))] := hD
      generalize (upd fl (c1 : Int32).toNatClampNeg c2) = a_3 at hP hD
      refine lv_aload_n hx hb dX2_setMeasure_17 rfl (lv_at hl 0 rfl) ?_
      refine va_get (D := (dC, dI)) (ci := 7) (v := .ref mo) (C := RX2) (T := TX2) (N := 8) hx hb hts (fun _ h9 => List.mem_cons_of_mem _ (List.mem_append_right _ (h9))) hown hK hP 0 rfl rfl 2 (by decide) (hts (.fieldLink RX2 19 "ExamHalls$Form" "most" "[I") (List.mem_of_getElem? (i := 2) rfl)) (fun _ h9 => h9) rfl dX2_setMeasure_18 ?_
      refine lv_iload_n hx hb dX2_setMeasure_21 rfl (lv_at hl 1 rfl) ?_
      refine lv_iload_n hx hb dX2_setMeasure_22 rfl (lv_at hl 3 rfl) ?_
      refine va_iast hx hb hK hP hD hS 2 1 rfl rfl (vin_lt (by decide) c_1 (show ¬ nI 8 ≤ c1 from c_2)) dX2_setMeasure_23 (fun H locs hP hD hS => ?_)
      have hP : va_P (dC, dI) vwCl [(fo, .inr (7, [.int 1, .ref le, .ref mo, .ref os, .ref ps, .int 0, .ref br, .int 0])), (le, .inl (kl, 8, .inl a_3)), (mo, .inl (km, 8, .inl (upd fm (c1 : Int32).toNatClampNeg c3)))] H := hP
      have hD : va_D A [(fo, .inr (7, [.int 1, .ref le, .ref mo, .ref os, .ref ps, .int 0, .ref br, .int 0])), (le, .inl (kl, 8, .inl a_3)), (mo, .inl (km, 8, .inl (upd fm (c1 : Int32).toNatClampNeg c3)))] := hD
      generalize (upd fm (c1 : Int32).toNatClampNeg c3) = a_4 at hP hD
      exact W.vret hx hb hr (fun t ht hW => ⟨⟨(), rfl, trivial, trivial⟩, hS.F ht⟩) hS.2.2 dX2_setMeasure_24

set_option maxHeartbeats 4000000 in
set_option maxRecDepth 100000 in
theorem c_F_addParallel (l : Launch) (dC : Nat → ClassId) (dI : Nat → Nat → Nat) (fo : Nat) (le : Nat) (mo : Nat) (os : Nat) (ps : Nat) (br : Nat) (ko : ClassId) (kp : ClassId) (c1 : Int32) (c2 : Int32) (sz : Nat) : Met l yX2_addParallel wsX2_addParallel ({ frames := 0, cells := 0, slots := 0, locals := 0 }) (va_Pc [.ref fo, .int c1, .int c2] (PQ dC dI sz [(fo, .inr (7, [.int 1, .ref le, .ref mo, .ref os, .ref ps, .int 0, .ref br, .int 0])), (os, .inl (ko, 6, .inl (fun _ => 0))), (ps, .inl (kp, 6, .inl (fun _ => 0)))] [(ko, .int), (kp, .int)])) (va_Qv (fun _ : Unit => True) (fun _ t => va_P (dC, dI) vwCl [(fo, .inr (7, [.int 1, .ref le, .ref mo, .ref os, .ref ps, .int 1, .ref br, .int 0]))] t.heap ∧ va_K (dC, dI) vwCl [] t ∧ va_D (va_A [(fo, .inr (7, [.int 1, .ref le, .ref mo, .ref os, .ref ps, .int 0, .ref br, .int 0])), (os, .inl (ko, 6, .inl (fun _ => 0))), (ps, .inl (kp, 6, .inl (fun _ => 0)))] sz) [(fo, .inr (7, [.int 1, .ref le, .ref mo, .ref os, .ref ps, .int 1, .ref br, .int 0]))]) (va_A [(fo, .inr (7, [.int 1, .ref le, .ref mo, .ref os, .ref ps, .int 0, .ref br, .int 0])), (os, .inl (ko, 6, .inl (fun _ => 0))), (ps, .inl (kp, 6, .inl (fun _ => 0)))] sz)) 0 0 (va_A [(fo, .inr (7, [.int 1, .ref le, .ref mo, .ref os, .ref ps, .int 0, .ref br, .int 0])), (os, .inl (ko, 6, .inl (fun _ => 0))), (ps, .inl (kp, 6, .inl (fun _ => 0)))] sz) := by
  refine Met.ofW (cc := cX2_addParallel) (maxL := 3) (ret := none) (by decide) rfl ?_
  intro p e s m args below meth c s₁ B hml hv
  obtain ⟨rfl, hsz, hP, hK, hD0, hF⟩ := hv
  have hx := B.exec
  have hb := B.bytes
  have hr := B.returns
  have hts := atoms_spec (ws := wsX2_addParallel) B.pre
  have hown : s.vm.findClass RX2 = some m.cls := findClass_of_methodNamed B.named
  have hlocks := B.notSynchronized
  subst hsz
  have hD := hD0.self (sz := s.heap.size)
  generalize hAe : va_A [(fo, .inr (7, [.int 1, .ref le, .ref mo, .ref os, .ref ps, .int 0, .ref br, .int 0])), (os, .inl (ko, 6, .inl (fun _ => 0))), (ps, .inl (kp, 6, .inl (fun _ => 0)))] s.heap.size = A at hD ⊢
  have hA : ∀ q : Nat, s.heap.size ≤ q → A q := fun q h => by rw [← hAe]; exact Or.inr h
  have hS : va_S A s.heap s.heap [] := va_S.rf
  have hl := lv_entry ([.ref fo, .int c1, .int c2]) (n := 3) (Nat.le_of_ble_eq_true rfl)
  rw [lg_entry_eq]
  generalize (lg_sl ([.ref fo, .int c1, .int c2]) ++ List.replicate (3 - (lg_sl ([.ref fo, .int c1, .int c2])).length) Slot.unset).toArray = ls at hl ⊢
  have hl : lv_has ls 3 [(0, .ref fo), (1, .int c1), (2, .int c2)] := hl
  refine lv_aload_n hx hb dX2_addParallel_0 rfl (lv_at hl 0 rfl) ?_
  refine va_get (D := (dC, dI)) (ci := 7) (v := .int 0) (C := RX2) (T := TX2) (N := 8) hx hb hts (fun _ h9 => List.mem_cons_of_mem _ (List.mem_append_right _ (h9))) hown hK hP 0 rfl rfl 5 (by decide) (hts (.fieldLink RX2 28 "ExamHalls$Form" "parallelCount" "I") (List.mem_of_getElem? (i := 1) rfl)) (fun _ h9 => h9) rfl dX2_addParallel_1 ?_
  refine lv_if_lt (tgt := 46) hx hb dX2_addParallel_4 (by decide) (fun c_1 => absurd c_1 (by decide)) (fun _ => ?_)
  refine lv_aload_n hx hb dX2_addParallel_7 rfl (lv_at hl 0 rfl) ?_
  refine va_get (D := (dC, dI)) (ci := 7) (v := .int 0) (C := RX2) (T := TX2) (N := 8) hx hb hts (fun _ h9 => List.mem_cons_of_mem _ (List.mem_append_right _ (h9))) hown hK hP 0 rfl rfl 5 (by decide) (hts (.fieldLink RX2 28 "ExamHalls$Form" "parallelCount" "I") (List.mem_of_getElem? (i := 1) rfl)) (fun _ h9 => h9) rfl dX2_addParallel_8 ?_
  refine lv_bipush (v := 6) hx hb dX2_addParallel_11 (by decide) ?_
  refine lv_icmp_ge (tgt := 46) hx hb dX2_addParallel_13 (by decide) (fun c_2 => absurd c_2 (by decide)) (fun _ => ?_)
  refine lv_aload_n hx hb dX2_addParallel_16 rfl (lv_at hl 0 rfl) ?_
  refine va_get (D := (dC, dI)) (ci := 7) (v := .ref os) (C := RX2) (T := TX2) (N := 8) hx hb hts (fun _ h9 => List.mem_cons_of_mem _ (List.mem_append_right _ (h9))) hown hK hP 0 rfl rfl 3 (by decide) (hts (.fieldLink RX2 22 "ExamHalls$Form" "oneSides" "[I") (List.mem_of_getElem? (i := 2) rfl)) (fun _ h9 => h9) rfl dX2_addParallel_17 ?_
  refine lv_aload_n hx hb dX2_addParallel_20 rfl (lv_at hl 0 rfl) ?_
  refine va_get (D := (dC, dI)) (ci := 7) (v := .int 0) (C := RX2) (T := TX2) (N := 8) hx hb hts (fun _ h9 => List.mem_cons_of_mem _ (List.mem_append_right _ (h9))) hown hK hP 0 rfl rfl 5 (by decide) (hts (.fieldLink RX2 28 "ExamHalls$Form" "parallelCount" "I") (List.mem_of_getElem? (i := 1) rfl)) (fun _ h9 => h9) rfl dX2_addParallel_21 ?_
  refine lv_iload_n hx hb dX2_addParallel_24 rfl (lv_at hl 1 rfl) ?_
  refine va_iast hx hb hK hP hD hS 1 0 rfl rfl (by unfold vp_in; decide) dX2_addParallel_25 (fun H locs hP hD hS => ?_)
  have hP : va_P (dC, dI) vwCl [(fo, .inr (7, [.int 1, .ref le, .ref mo, .ref os, .ref ps, .int 0, .ref br, .int 0])), (os, .inl (ko, 6, .inl (upd (fun _ => 0) (0 : Int32).toNatClampNeg c1))), (ps, .inl (kp, 6, .inl (fun _ => 0)))] H := hP
  have hD : va_D A [(fo, .inr (7, [.int 1, .ref le, .ref mo, .ref os, .ref ps, .int 0, .ref br, .int 0])), (os, .inl (ko, 6, .inl (upd (fun _ => 0) (0 : Int32).toNatClampNeg c1))), (ps, .inl (kp, 6, .inl (fun _ => 0)))] := hD
  generalize (upd (fun _ => 0) (0 : Int32).toNatClampNeg c1) = a_3 at hP hD
  refine lv_aload_n hx hb dX2_addParallel_26 rfl (lv_at hl 0 rfl) ?_
  refine va_get (D := (dC, dI)) (ci := 7) (v := .ref ps) (C := RX2) (T := TX2) (N := 8) hx hb hts (fun _ h9 => List.mem_cons_of_mem _ (List.mem_append_right _ (h9))) hown hK hP 0 rfl rfl 4 (by decide) (hts (.fieldLink RX2 25 "ExamHalls$Form" "otherSides" "[I") (List.mem_of_getElem? (i := 3) rfl)) (fun _ h9 => h9) rfl dX2_addParallel_27 ?_
  refine lv_aload_n hx hb dX2_addParallel_30 rfl (lv_at hl 0 rfl) ?_
  refine va_get (D := (dC, dI)) (ci := 7) (v := .int 0) (C := RX2) (T := TX2) (N := 8) hx hb hts (fun _ h9 => List.mem_cons_of_mem _ (List.mem_append_right _ (h9))) hown hK hP 0 rfl rfl 5 (by decide) (hts (.fieldLink RX2 28 "ExamHalls$Form" "parallelCount" "I") (List.mem_of_getElem? (i := 1) rfl)) (fun _ h9 => h9) rfl dX2_addParallel_31 ?_
  refine lv_iload_n hx hb dX2_addParallel_34 rfl (lv_at hl 2 rfl) ?_
  refine va_iast hx hb hK hP hD hS 2 1 rfl rfl (by unfold vp_in; decide) dX2_addParallel_35 (fun H locs hP hD hS => ?_)
  have hP : va_P (dC, dI) vwCl [(fo, .inr (7, [.int 1, .ref le, .ref mo, .ref os, .ref ps, .int 0, .ref br, .int 0])), (os, .inl (ko, 6, .inl a_3)), (ps, .inl (kp, 6, .inl (upd (fun _ => 0) (0 : Int32).toNatClampNeg c2)))] H := hP
  have hD : va_D A [(fo, .inr (7, [.int 1, .ref le, .ref mo, .ref os, .ref ps, .int 0, .ref br, .int 0])), (os, .inl (ko, 6, .inl a_3)), (ps, .inl (kp, 6, .inl (upd (fun _ => 0) (0 : Int32).toNatClampNeg c2)))] := hD
  generalize (upd (fun _ => 0) (0 : Int32).toNatClampNeg c2) = a_4 at hP hD
  refine lv_aload_n hx hb dX2_addParallel_36 rfl (lv_at hl 0 rfl) ?_
  refine lv_dup hx hb dX2_addParallel_37 rfl ?_
  refine va_get (D := (dC, dI)) (ci := 7) (v := .int 0) (C := RX2) (T := TX2) (N := 8) hx hb hts (fun _ h9 => List.mem_cons_of_mem _ (List.mem_append_right _ (h9))) hown hK hP 0 rfl rfl 5 (by decide) (hts (.fieldLink RX2 28 "ExamHalls$Form" "parallelCount" "I") (List.mem_of_getElem? (i := 1) rfl)) (fun _ h9 => h9) rfl dX2_addParallel_38 ?_
  refine lv_iconst (v := 1) hx hb dX2_addParallel_41 (by decide) ?_
  refine lv_iadd hx hb dX2_addParallel_42 ?_
  refine lv_topi (fun f_5 ef_5 => ?_)
  obtain rfl : f_5 = 1 := ef_5.trans (by decide)
  refine va_put (D := (dC, dI)) (ci := 7) (v := .int 1) (ty := .int) (C := RX2) (T := TX2) (N := 8) hx hb hts (fun _ h9 => List.mem_cons_of_mem _ (List.mem_append_right _ (h9))) tyX2 tyX2_ok nmX2 hown hK hP hD hS 0 rfl rfl 5 (by decide) (hts (.fieldLink RX2 28 "ExamHalls$Form" "parallelCount" "I") (List.mem_of_getElem? (i := 1) rfl)) (fun _ h9 => h9) rfl (by decide +kernel) rfl rfl (Nat.le_of_ble_eq_true rfl) dX2_addParallel_43 (fun H locs hP hD hS => ?_)
  have hP : va_P (dC, dI) vwCl [(fo, .inr (7, [.int 1, .ref le, .ref mo, .ref os, .ref ps, .int 1, .ref br, .int 0])), (os, .inl (ko, 6, .inl a_3)), (ps, .inl (kp, 6, .inl a_4))] H := hP
  have hD : va_D A [(fo, .inr (7, [.int 1, .ref le, .ref mo, .ref os, .ref ps, .int 1, .ref br, .int 0])), (os, .inl (ko, 6, .inl a_3)), (ps, .inl (kp, 6, .inl a_4))] := hD
  have hP9 := hP.sub (ws' := [(fo, .inr (7, [.int 1, .ref le, .ref mo, .ref os, .ref ps, .int 1, .ref br, .int 0]))]) [0] rfl
  have hD9 := hD.sub (ws' := [(fo, .inr (7, [.int 1, .ref le, .ref mo, .ref os, .ref ps, .int 1, .ref br, .int 0]))]) [0] (by decide) rfl
  have hK9 := hK.sub (tys' := []) [] rfl
  exact W.vret hx hb hr (fun t ht hW => ⟨⟨(), rfl, trivial, by rw [ht]; exact hP9, va_K.moved hW.alike hK9, hD9⟩, hS.F ht⟩) hS.2.2 dX2_addParallel_46

set_option maxHeartbeats 4000000 in
set_option maxRecDepth 100000 in
theorem c_F_isBarred (l : Launch) (dC : Nat → ClassId) (dI : Nat → Nat → Nat) (fo : Nat) (le : Nat) (mo : Nat) (os : Nat) (ps : Nat) (br : Nat) (c1 : Int64) : Met l yX2_isBarred wsX2_isBarred ({ frames := 0, cells := 0, slots := 0, locals := 0 }) (va_Pc [.ref fo, .long c1] (PS dC dI [(fo, .inr (7, [.int 1, .ref le, .ref mo, .ref os, .ref ps, .int 0, .ref br, .int 0]))] [])) (vp_Si (fun r => r = 0)) 0 0 (fun _ => False) := by
  refine Met.ofW (cc := cX2_isBarred) (maxL := 4) (ret := (some .boolean)) (by decide) rfl ?_
  intro p e s m args below meth c s₁ B hml hv
  obtain ⟨rfl, hP, hK, hF⟩ := hv
  have hx := B.exec
  have hb := B.bytes
  have hr := B.returns
  have hts := atoms_spec (ws := wsX2_isBarred) B.pre
  have hown : s.vm.findClass RX2 = some m.cls := findClass_of_methodNamed B.named
  have hlocks := B.notSynchronized
  have hl := lv_entry ([.ref fo, .long c1]) (n := 4) (Nat.le_of_ble_eq_true rfl)
  rw [lg_entry_eq]
  generalize (lg_sl ([.ref fo, .long c1]) ++ List.replicate (4 - (lg_sl ([.ref fo, .long c1])).length) Slot.unset).toArray = ls at hl ⊢
  have hl : lv_has ls 4 [(0, .ref fo), (1, .long c1)] := hl
  refine lv_iconst (v := 0) hx hb dX2_isBarred_0 (by decide) ?_
  refine lv_istore_n (lv' := [(3, .int 0), (0, .ref fo), (1, .long c1)]) hx hb dX2_isBarred_1 rfl hl (by decide) rfl (fun ls hl => ?_)
  refine lv_iload_n hx hb dX2_isBarred_2 rfl (lv_at hl 0 rfl) ?_
  refine lv_aload_n hx hb dX2_isBarred_3 rfl (lv_at hl 1 rfl) ?_
  refine va_get (D := (dC, dI)) (ci := 7) (v := .int 0) (C := RX2) (T := TX2) (N := 8) hx hb hts (fun _ h9 => List.mem_cons_of_mem _ (List.mem_append_right _ (h9))) hown hK hP 0 rfl rfl 7 (by decide) (hts (.fieldLink RX2 35 "ExamHalls$Form" "barredCount" "I") (List.mem_of_getElem? (i := 1) rfl)) (fun _ h9 => h9) rfl dX2_isBarred_4 ?_
  refine lv_icmp_ge (tgt := 29) hx hb dX2_isBarred_7 (by decide) (fun _ => ?_) (fun c_1 => absurd (by decide) c_1)
  refine lv_iconst (v := 0) hx hb dX2_isBarred_29 (by decide) ?_
  exact W.zret (v := 0) hx hb hr (by decide) (fun t ht hW => ⟨_, rfl, rfl, ht⟩) (fun _ h9 => absurd h9 List.not_mem_nil) dX2_isBarred_30

set_option maxHeartbeats 4000000 in
set_option maxRecDepth 100000 in
theorem c_F_addBarred (l : Launch) (dC : Nat → ClassId) (dI : Nat → Nat → Nat) (fo : Nat) (le : Nat) (mo : Nat) (os : Nat) (ps : Nat) (br : Nat) (kb : ClassId) (c1 : Int64) (sz : Nat) : Met l yX2_addBarred wsX2_addBarred ({ frames := 0, cells := 0, slots := 0, locals := 0 }) (va_Pc [.ref fo, .long c1] (PQ dC dI sz [(fo, .inr (7, [.int 1, .ref le, .ref mo, .ref os, .ref ps, .int 0, .ref br, .int 0])), (br, .inl (kb, 8, .inr (.inl (fun _ => 0))))] [(kb, .long)])) (va_Qv (fun _ : Unit => True) (fun _ t => va_P (dC, dI) vwCl [(fo, .inr (7, [.int 1, .ref le, .ref mo, .ref os, .ref ps, .int 0, .ref br, .int 1]))] t.heap ∧ va_K (dC, dI) vwCl [] t ∧ va_D (va_A [(fo, .inr (7, [.int 1, .ref le, .ref mo, .ref os, .ref ps, .int 0, .ref br, .int 0])), (br, .inl (kb, 8, .inr (.inl (fun _ => 0))))] sz) [(fo, .inr (7, [.int 1, .ref le, .ref mo, .ref os, .ref ps, .int 0, .ref br, .int 1]))]) (va_A [(fo, .inr (7, [.int 1, .ref le, .ref mo, .ref os, .ref ps, .int 0, .ref br, .int 0])), (br, .inl (kb, 8, .inr (.inl (fun _ => 0))))] sz)) 0 0 (va_A [(fo, .inr (7, [.int 1, .ref le, .ref mo, .ref os, .ref ps, .int 0, .ref br, .int 0])), (br, .inl (kb, 8, .inr (.inl (fun _ => 0))))] sz) := by
  refine Met.ofW (cc := cX2_addBarred) (maxL := 3) (ret := none) (by decide) rfl ?_
  intro p e s m args below meth c s₁ B hml hv
  obtain ⟨rfl, hsz, hP, hK, hD0, hF⟩ := hv
  have hx := B.exec
  have hb := B.bytes
  have hr := B.returns
  have hts := atoms_spec (ws := wsX2_addBarred) B.pre
  have hown : s.vm.findClass RX2 = some m.cls := findClass_of_methodNamed B.named
  have hlocks := B.notSynchronized
  subst hsz
  have hD := hD0.self (sz := s.heap.size)
  generalize hAe : va_A [(fo, .inr (7, [.int 1, .ref le, .ref mo, .ref os, .ref ps, .int 0, .ref br, .int 0])), (br, .inl (kb, 8, .inr (.inl (fun _ => 0))))] s.heap.size = A at hD ⊢
  have hA : ∀ q : Nat, s.heap.size ≤ q → A q := fun q h => by rw [← hAe]; exact Or.inr h
  have hS : va_S A s.heap s.heap [] := va_S.rf
  have hl := lv_entry ([.ref fo, .long c1]) (n := 3) (Nat.le_of_ble_eq_true rfl)
  rw [lg_entry_eq]
  generalize (lg_sl ([.ref fo, .long c1]) ++ List.replicate (3 - (lg_sl ([.ref fo, .long c1])).length) Slot.unset).toArray = ls at hl ⊢
  have hl : lv_has ls 3 [(0, .ref fo), (1, .long c1)] := hl
  refine lv_aload_n hx hb dX2_addBarred_0 rfl (lv_at hl 0 rfl) ?_
  refine va_get (D := (dC, dI)) (ci := 7) (v := .int 0) (C := RX2) (T := TX2) (N := 8) hx hb hts (fun _ h9 => List.mem_cons_of_mem _ (List.mem_append_right _ (h9))) hown hK hP 0 rfl rfl 7 (by decide) (hts (.fieldLink RX2 35 "ExamHalls$Form" "barredCount" "I") (List.mem_of_getElem? (i := 1) rfl)) (fun _ h9 => h9) rfl dX2_addBarred_1 ?_
  refine lv_if_lt (tgt := 36) hx hb dX2_addBarred_4 (by decide) (fun c_1 => absurd c_1 (by decide)) (fun _ => ?_)
  refine lv_aload_n hx hb dX2_addBarred_7 rfl (lv_at hl 0 rfl) ?_
  refine va_get (D := (dC, dI)) (ci := 7) (v := .int 0) (C := RX2) (T := TX2) (N := 8) hx hb hts (fun _ h9 => List.mem_cons_of_mem _ (List.mem_append_right _ (h9))) hown hK hP 0 rfl rfl 7 (by decide) (hts (.fieldLink RX2 35 "ExamHalls$Form" "barredCount" "I") (List.mem_of_getElem? (i := 1) rfl)) (fun _ h9 => h9) rfl dX2_addBarred_8 ?_
  refine lv_bipush (v := 8) hx hb dX2_addBarred_11 (by decide) ?_
  refine lv_icmp_ge (tgt := 36) hx hb dX2_addBarred_13 (by decide) (fun c_2 => absurd c_2 (by decide)) (fun _ => ?_)
  refine lv_aload_n hx hb dX2_addBarred_16 rfl (lv_at hl 0 rfl) ?_
  refine va_get (D := (dC, dI)) (ci := 7) (v := .ref br) (C := RX2) (T := TX2) (N := 8) hx hb hts (fun _ h9 => List.mem_cons_of_mem _ (List.mem_append_right _ (h9))) hown hK hP 0 rfl rfl 6 (by decide) (hts (.fieldLink RX2 31 "ExamHalls$Form" "barred" "[J") (List.mem_of_getElem? (i := 2) rfl)) (fun _ h9 => h9) rfl dX2_addBarred_17 ?_
  refine lv_aload_n hx hb dX2_addBarred_20 rfl (lv_at hl 0 rfl) ?_
  refine va_get (D := (dC, dI)) (ci := 7) (v := .int 0) (C := RX2) (T := TX2) (N := 8) hx hb hts (fun _ h9 => List.mem_cons_of_mem _ (List.mem_append_right _ (h9))) hown hK hP 0 rfl rfl 7 (by decide) (hts (.fieldLink RX2 35 "ExamHalls$Form" "barredCount" "I") (List.mem_of_getElem? (i := 1) rfl)) (fun _ h9 => h9) rfl dX2_addBarred_21 ?_
  refine lv_lload_n hx hb dX2_addBarred_24 rfl (lv_at hl 1 rfl) ?_
  refine va_last hx hb hK hP hD hS 1 0 rfl rfl (by unfold vp_in; decide) dX2_addBarred_25 (fun H locs hP hD hS => ?_)
  have hP : va_P (dC, dI) vwCl [(fo, .inr (7, [.int 1, .ref le, .ref mo, .ref os, .ref ps, .int 0, .ref br, .int 0])), (br, .inl (kb, 8, .inr (.inl (vp_updL (fun _ => 0) (0 : Int32).toNatClampNeg c1))))] H := hP
  have hD : va_D A [(fo, .inr (7, [.int 1, .ref le, .ref mo, .ref os, .ref ps, .int 0, .ref br, .int 0])), (br, .inl (kb, 8, .inr (.inl (vp_updL (fun _ => 0) (0 : Int32).toNatClampNeg c1))))] := hD
  generalize (vp_updL (fun _ => 0) (0 : Int32).toNatClampNeg c1) = a_3 at hP hD
  refine lv_aload_n hx hb dX2_addBarred_26 rfl (lv_at hl 0 rfl) ?_
  refine lv_dup hx hb dX2_addBarred_27 rfl ?_
  refine va_get (D := (dC, dI)) (ci := 7) (v := .int 0) (C := RX2) (T := TX2) (N := 8) hx hb hts (fun _ h9 => List.mem_cons_of_mem _ (List.mem_append_right _ (h9))) hown hK hP 0 rfl rfl 7 (by decide) (hts (.fieldLink RX2 35 "ExamHalls$Form" "barredCount" "I") (List.mem_of_getElem? (i := 1) rfl)) (fun _ h9 => h9) rfl dX2_addBarred_28 ?_
  refine lv_iconst (v := 1) hx hb dX2_addBarred_31 (by decide) ?_
  refine lv_iadd hx hb dX2_addBarred_32 ?_
  refine lv_topi (fun f_4 ef_4 => ?_)
  obtain rfl : f_4 = 1 := ef_4.trans (by decide)
  refine va_put (D := (dC, dI)) (ci := 7) (v := .int 1) (ty := .int) (C := RX2) (T := TX2) (N := 8) hx hb hts (fun _ h9 => List.mem_cons_of_mem _ (List.mem_append_right _ (h9))) tyX2 tyX2_ok nmX2 hown hK hP hD hS 0 rfl rfl 7 (by decide) (hts (.fieldLink RX2 35 "ExamHalls$Form" "barredCount" "I") (List.mem_of_getElem? (i := 1) rfl)) (fun _ h9 => h9) rfl (by decide +kernel) rfl rfl (Nat.le_of_ble_eq_true rfl) dX2_addBarred_33 (fun H locs hP hD hS => ?_)
  have hP : va_P (dC, dI) vwCl [(fo, .inr (7, [.int 1, .ref le, .ref mo, .ref os, .ref ps, .int 0, .ref br, .int 1])), (br, .inl (kb, 8, .inr (.inl a_3)))] H := hP
  have hD : va_D A [(fo, .inr (7, [.int 1, .ref le, .ref mo, .ref os, .ref ps, .int 0, .ref br, .int 1])), (br, .inl (kb, 8, .inr (.inl a_3)))] := hD
  have hP9 := hP.sub (ws' := [(fo, .inr (7, [.int 1, .ref le, .ref mo, .ref os, .ref ps, .int 0, .ref br, .int 1]))]) [0] rfl
  have hD9 := hD.sub (ws' := [(fo, .inr (7, [.int 1, .ref le, .ref mo, .ref os, .ref ps, .int 0, .ref br, .int 1]))]) [0] (by decide) rfl
  have hK9 := hK.sub (tys' := []) [] rfl
  exact W.vret hx hb hr (fun t ht hW => ⟨⟨(), rfl, trivial, by rw [ht]; exact hP9, va_K.moved hW.alike hK9, hD9⟩, hS.F ht⟩) hS.2.2 dX2_addBarred_36

def sp_X_measure (c1 : Int32) (c2 : Int32) (c3 : Int32) : Int32 := if (sp_X_isWithin c1 0 7) = 0 then (-1) else if (sp_X_isWithin c2 1 12) = 0 then (-2) else if (sp_X_isWithin c3 c2 12) = 0 then (-2) else 0
set_option maxHeartbeats 4000000 in
set_option maxRecDepth 100000 in
theorem c_X_measure (l : Launch) (dC : Nat → ClassId) (dI : Nat → Nat → Nat) (x : Nat) (cd : Nat) (rd : Nat) (tp : Nat) (fo : Nat) (qu : Nat) (sh : Nat) (vs : Nat) (pa : Nat) (pb : Nat) (le : Nat) (mo : Nat) (os : Nat) (ps : Nat) (br : Nat) (kl : ClassId) (km : ClassId) (fl : Nat → Int32) (fm : Nat → Int32) (c1 : Int32) (c2 : Int32) (c3 : Int32) (sz : Nat) : Met l yX5_measure wsX5_measure ({ frames := 1, cells := 0, slots := 0, locals := 23 }) (va_Pc [.ref x, .int c1, .int c2, .int c3] (PQ dC dI sz [(x, .inr (10, [.ref cd, .int 0, .ref rd, .int 0, .ref tp, .ref fo, .int 10, .ref qu, .int 0, .int 0, .ref sh, .ref vs, .ref pa, .ref pb])), (fo, .inr (7, [.int 1, .ref le, .ref mo, .ref os, .ref ps, .int 0, .ref br, .int 0])), (le, .inl (kl, 8, .inl fl)), (mo, .inl (km, 8, .inl fm))] [(kl, .int), (km, .int)])) (va_Qi (fun r (_ : Unit) => r = sp_X_measure c1 c2 c3) (fun _ _ => True) (va_A [(x, .inr (10, [.ref cd, .int 0, .ref rd, .int 0, .ref tp, .ref fo, .int 10, .ref qu, .int 0, .int 0, .ref sh, .ref vs, .ref pa, .ref pb])), (fo, .inr (7, [.int 1, .ref le, .ref mo, .ref os, .ref ps, .int 0, .ref br, .int 0])), (le, .inl (kl, 8, .inl fl)), (mo, .inl (km, 8, .inl fm))] sz)) 0 0 (va_A [(x, .inr (10, [.ref cd, .int 0, .ref rd, .int 0, .ref tp, .ref fo, .int 10, .ref qu, .int 0, .int 0, .ref sh, .ref vs, .ref pa, .ref pb])), (fo, .inr (7, [.int 1, .ref le, .ref mo, .ref os, .ref ps, .int 0, .ref br, .int 0])), (le, .inl (kl, 8, .inl fl)), (mo, .inl (km, 8, .inl fm))] sz) := by
  refine Met.ofW (cc := cX5_measure) (maxL := 4) (ret := (some .int)) (by decide) rfl ?_
  intro p e s m args below meth c s₁ B hml hv
  obtain ⟨rfl, hsz, hP, hK, hD0, hF⟩ := hv
  have hx := B.exec
  have hb := B.bytes
  have hr := B.returns
  have hts := atoms_spec (ws := wsX5_measure) B.pre
  have hown : s.vm.findClass RX5 = some m.cls := findClass_of_methodNamed B.named
  have hlocks := B.notSynchronized
  subst hsz
  have hD := hD0.self (sz := s.heap.size)
  generalize hAe : va_A [(x, .inr (10, [.ref cd, .int 0, .ref rd, .int 0, .ref tp, .ref fo, .int 10, .ref qu, .int 0, .int 0, .ref sh, .ref vs, .ref pa, .ref pb])), (fo, .inr (7, [.int 1, .ref le, .ref mo, .ref os, .ref ps, .int 0, .ref br, .int 0])), (le, .inl (kl, 8, .inl fl)), (mo, .inl (km, 8, .inl fm))] s.heap.size = A at hD ⊢
  have hA : ∀ q : Nat, s.heap.size ≤ q → A q := fun q h => by rw [← hAe]; exact Or.inr h
  have hS : va_S A s.heap s.heap [] := va_S.rf
  have hl := lv_entry ([.ref x, .int c1, .int c2, .int c3]) (n := 4) (Nat.le_of_ble_eq_true rfl)
  rw [lg_entry_eq]
  generalize (lg_sl ([.ref x, .int c1, .int c2, .int c3]) ++ List.replicate (4 - (lg_sl ([.ref x, .int c1, .int c2, .int c3])).length) Slot.unset).toArray = ls at hl ⊢
  have hl : lv_has ls 4 [(0, .ref x), (1, .int c1), (2, .int c2), (3, .int c3)] := hl
  refine lv_iload_n hx hb dX5_measure_0 rfl (lv_at hl 1 rfl) ?_
  refine lv_iconst (v := 0) hx hb dX5_measure_1 (by decide) ?_
  refine lv_bipush (v := 7) hx hb dX5_measure_2 (by decide) ?_
  refine vp_callSi (va_Run.run (va_runS (As := [.int c1, .int 0, .int 7]) (rest := []) ⟨hx, hb, hml, hown, hts⟩ (c_X_isWithin l dC dI c1 0 7) (va_cwS 3 hts gX5_measure_X5_isWithin rfl rfl rfl (by decide +kernel) ⟨Nat.le_of_ble_eq_true rfl, Nat.le_of_ble_eq_true rfl⟩) ⟨PS_blind, PS_pre (hP.sub (ws' := []) [] rfl) (hK.sub (tys' := []) [] rfl) hF⟩ rfl rfl hl.1 rfl (lv_room (Nat.le_of_ble_eq_true rfl)) dX5_measure_4 ⟨Nat.le_of_ble_eq_true rfl, Nat.le_of_ble_eq_true rfl⟩)) (fun r_1 hr_1 => ?_)
  subst hr_1
  refine lv_if_ne (tgt := 12) hx hb dX5_measure_7 (by decide) (fun c_2 => ?_) (fun c_2 => ?_)
  · skip
    refine lv_iload_n hx hb dX5_measure_12 rfl (lv_at hl 2 rfl) ?_
    refine lv_iconst (v := 1) hx hb dX5_measure_13 (by decide) ?_
    refine lv_bipush (v := 12) hx hb dX5_measure_14 (by decide) ?_
    refine vp_callSi (va_Run.run (va_runS (As := [.int c2, .int 1, .int 12]) (rest := []) ⟨hx, hb, hml, hown, hts⟩ (c_X_isWithin l dC dI c2 1 12) (va_cwS 3 hts gX5_measure_X5_isWithin rfl rfl rfl (by decide +kernel) ⟨Nat.le_of_ble_eq_true rfl, Nat.le_of_ble_eq_true rfl⟩) ⟨PS_blind, PS_pre (hP.sub (ws' := []) [] rfl) (hK.sub (tys' := []) [] rfl) hF⟩ rfl rfl hl.1 rfl (lv_room (Nat.le_of_ble_eq_true rfl)) dX5_measure_16 ⟨Nat.le_of_ble_eq_true rfl, Nat.le_of_ble_eq_true rfl⟩)) (fun r_3 hr_3 => ?_)
    subst hr_3
    refine lv_if_eq (tgt := 32) hx hb dX5_measure_19 (by decide) (fun c_4 => ?_) (fun c_4 => ?_)
    · skip
      refine lv_bipush (v := (-2)) hx hb dX5_measure_32 (by decide) ?_
      exact W.iret (v := (-2)) hx hb hr (fun t ht hW => ⟨⟨_, (), rfl, (by simp only [sp_X_measure, if_neg c_2, if_pos c_4]), trivial⟩, hS.F ht⟩) hS.2.2 dX5_measure_34
    · skip
      refine lv_iload_n hx hb dX5_measure_22 rfl (lv_at hl 3 rfl) ?_
      refine lv_iload_n hx hb dX5_measure_23 rfl (lv_at hl 2 rfl) ?_
      refine lv_bipush (v := 12) hx hb dX5_measure_24 (by decide) ?_
      refine vp_callSi (va_Run.run (va_runS (As := [.int c3, .int c2, .int 12]) (rest := []) ⟨hx, hb, hml, hown, hts⟩ (c_X_isWithin l dC dI c3 c2 12) (va_cwS 3 hts gX5_measure_X5_isWithin rfl rfl rfl (by decide +kernel) ⟨Nat.le_of_ble_eq_true rfl, Nat.le_of_ble_eq_true rfl⟩) ⟨PS_blind, PS_pre (hP.sub (ws' := []) [] rfl) (hK.sub (tys' := []) [] rfl) hF⟩ rfl rfl hl.1 rfl (lv_room (Nat.le_of_ble_eq_true rfl)) dX5_measure_26 ⟨Nat.le_of_ble_eq_true rfl, Nat.le_of_ble_eq_true rfl⟩)) (fun r_5 hr_5 => ?_)
      subst hr_5
      refine lv_if_ne (tgt := 35) hx hb dX5_measure_29 (by decide) (fun c_6 => ?_) (fun c_6 => ?_)
      · skip
        refine lv_aload_n hx hb dX5_measure_35 rfl (lv_at hl 0 rfl) ?_
        refine va_get (D := (dC, dI)) (ci := 10) (v := .ref fo) (C := RX5) (T := TX5) (N := 14) hx hb hts (fun _ h9 => List.mem_cons_of_mem _ (List.mem_append_left _ (List.mem_append_right _ (h9)))) hown hK hP 0 rfl rfl 5 (by decide) (hts (.fieldLink RX5 38 "ExamHalls" "form" "LExamHalls$Form;") (List.mem_of_getElem? (i := 1) rfl)) (fun _ h9 => h9) rfl dX5_measure_36 ?_
        refine lv_iload_n hx hb dX5_measure_39 rfl (lv_at hl 1 rfl) ?_
        refine lv_iload_n hx hb dX5_measure_40 rfl (lv_at hl 2 rfl) ?_
        refine lv_iload_n hx hb dX5_measure_41 rfl (lv_at hl 3 rfl) ?_
        have hPc := hP.sub (ws' := [(fo, .inr (7, [.int 1, .ref le, .ref mo, .ref os, .ref ps, .int 0, .ref br, .int 0])), (le, .inl (kl, 8, .inl fl)), (mo, .inl (km, 8, .inl fm))]) [1, 2, 3] rfl
        have hDc := hD.sub (ws' := [(fo, .inr (7, [.int 1, .ref le, .ref mo, .ref os, .ref ps, .int 0, .ref br, .int 0])), (le, .inl (kl, 8, .inl fl)), (mo, .inl (km, 8, .inl fm))]) [1, 2, 3] (by decide) rfl
        have hKc := hK.sub (tys' := [(kl, .int), (km, .int)]) [0, 1] rfl
        have hFc := va_free (wc := [(fo, .inr (7, [.int 1, .ref le, .ref mo, .ref os, .ref ps, .int 0, .ref br, .int 0])), (le, .inl (kl, 8, .inl fl)), (mo, .inl (km, 8, .inl fm))]) hD hS hA [1, 2, 3] rfl
        refine va_callv (va_runVN (As := [.int c1, .int c2, .int c3]) (rest := []) ⟨hx, hb, hml, hown, hts⟩ (c_F_setMeasure l dC dI fo le mo os ps br kl km fl fm c1 c2 c3 s.heap.size) ⟨va_cnB 3 hts gX5_measure_X2_setMeasure_n130 rfl rfl rfl (Ft.nm hF (RX5, 130, yX2_setMeasure, RX5) (by decide +kernel)) (hts (.initialized RX2) (List.mem_of_getElem? (i := 7) rfl)) (by decide +kernel) ⟨Nat.le_of_ble_eq_true rfl, Nat.le_of_ble_eq_true rfl⟩, (hts (.instanceMethod yX2_setMeasure) (List.mem_of_getElem? (i := 6) rfl)), (hts (.selects RX2 yX2_setMeasure yX2_setMeasure) (List.mem_of_getElem? (i := 8) rfl))⟩ ⟨PQ_blind, va_recv hK hP (ci := 7) (q0 := 1) rfl rfl, PQ_pre hPc hKc hDc hF⟩ rfl rfl hl.1 rfl (lv_room (Nat.le_of_ble_eq_true rfl)) dX5_measure_42 ⟨Nat.le_of_ble_eq_true rfl, Nat.le_of_ble_eq_true rfl⟩) hS (fun q _ h => hFc q h) hFc (fun u t H1 locs ht hvm hw hB hz1 hk1 hS => ?_)
        have hP1 : va_P (dC, dI) vwCl [] H1 := fun k q h => by simp at h
        have hD1 : va_D (va_A [(fo, .inr (7, [.int 1, .ref le, .ref mo, .ref os, .ref ps, .int 0, .ref br, .int 0])), (le, .inl (kl, 8, .inl fl)), (mo, .inl (km, 8, .inl fm))] s.heap.size) [] := ⟨fun i j p q h => by simp at h, fun k q h => by simp at h⟩
        obtain ⟨hP, hD⟩ := va_join (wr := [(x, .inr (10, [.ref cd, .int 0, .ref rd, .int 0, .ref tp, .ref fo, .int 10, .ref qu, .int 0, .int 0, .ref sh, .ref vs, .ref pa, .ref pb]))]) (w1 := []) hP hD [1, 2, 3] [0] rfl rfl (by decide) (by decide) hk1 hFc hP1 hD1
        generalize H1 = H at hP hS ⊢
        have hP : va_P (dC, dI) vwCl [(x, .inr (10, [.ref cd, .int 0, .ref rd, .int 0, .ref tp, .ref fo, .int 10, .ref qu, .int 0, .int 0, .ref sh, .ref vs, .ref pa, .ref pb]))] H := hP
        have hD : va_D A [(x, .inr (10, [.ref cd, .int 0, .ref rd, .int 0, .ref tp, .ref fo, .int 10, .ref qu, .int 0, .int 0, .ref sh, .ref vs, .ref pa, .ref pb]))] := hD
        have hK : va_K (dC, dI) vwCl [(kl, .int), (km, .int)] s := hK
        refine W.widen (k := 0) (n := 0) (Nat.le_of_ble_eq_true rfl) (Nat.le_of_ble_eq_true rfl) ?_
        refine lv_iconst (v := 0) hx hb dX5_measure_45 (by decide) ?_
        exact W.iret (v := 0) hx hb hr (fun t ht hW => ⟨⟨_, (), rfl, (by simp only [sp_X_measure, if_neg c_2, if_neg c_4, if_neg c_6]), trivial⟩, hS.F ht⟩) hS.2.2 dX5_measure_46
      · skip
        refine lv_bipush (v := (-2)) hx hb dX5_measure_32 (by decide) ?_
        exact W.iret (v := (-2)) hx hb hr (fun t ht hW => ⟨⟨_, (), rfl, (by simp only [sp_X_measure, if_neg c_2, if_neg c_4, if_pos c_6]), trivial⟩, hS.F ht⟩) hS.2.2 dX5_measure_34
  · skip
    refine lv_iconst (v := (-1)) hx hb dX5_measure_10 (by decide) ?_
    exact W.iret (v := (-1)) hx hb hr (fun t ht hW => ⟨⟨_, (), rfl, (by simp only [sp_X_measure, if_pos c_2]), trivial⟩, hS.F ht⟩) hS.2.2 dX5_measure_11

def sp_X_parallel (c1 : Int32) (c2 : Int32) : Int32 := if (sp_X_isWithin c1 0 7) = 0 then (-1) else if (sp_X_isWithin c2 0 7) = 0 then (-1) else if c1 = c2 then (-2) else 0
set_option maxHeartbeats 4000000 in
set_option maxRecDepth 100000 in
theorem c_X_parallel (l : Launch) (dC : Nat → ClassId) (dI : Nat → Nat → Nat) (x : Nat) (cd : Nat) (rd : Nat) (tp : Nat) (fo : Nat) (qu : Nat) (sh : Nat) (vs : Nat) (pa : Nat) (pb : Nat) (le : Nat) (mo : Nat) (os : Nat) (ps : Nat) (br : Nat) (ko : ClassId) (kp : ClassId) (c1 : Int32) (c2 : Int32) (sz : Nat) : Met l yX5_parallel wsX5_parallel ({ frames := 1, cells := 0, slots := 0, locals := 22 }) (va_Pc [.ref x, .int c1, .int c2] (PQ dC dI sz [(x, .inr (10, [.ref cd, .int 0, .ref rd, .int 0, .ref tp, .ref fo, .int 10, .ref qu, .int 0, .int 0, .ref sh, .ref vs, .ref pa, .ref pb])), (fo, .inr (7, [.int 1, .ref le, .ref mo, .ref os, .ref ps, .int 0, .ref br, .int 0])), (os, .inl (ko, 6, .inl (fun _ => 0))), (ps, .inl (kp, 6, .inl (fun _ => 0)))] [(ko, .int), (kp, .int)])) (va_Qi (fun r (_ : Unit) => r = sp_X_parallel c1 c2) (fun _ _ => True) (va_A [(x, .inr (10, [.ref cd, .int 0, .ref rd, .int 0, .ref tp, .ref fo, .int 10, .ref qu, .int 0, .int 0, .ref sh, .ref vs, .ref pa, .ref pb])), (fo, .inr (7, [.int 1, .ref le, .ref mo, .ref os, .ref ps, .int 0, .ref br, .int 0])), (os, .inl (ko, 6, .inl (fun _ => 0))), (ps, .inl (kp, 6, .inl (fun _ => 0)))] sz)) 0 0 (va_A [(x, .inr (10, [.ref cd, .int 0, .ref rd, .int 0, .ref tp, .ref fo, .int 10, .ref qu, .int 0, .int 0, .ref sh, .ref vs, .ref pa, .ref pb])), (fo, .inr (7, [.int 1, .ref le, .ref mo, .ref os, .ref ps, .int 0, .ref br, .int 0])), (os, .inl (ko, 6, .inl (fun _ => 0))), (ps, .inl (kp, 6, .inl (fun _ => 0)))] sz) := by
  refine Met.ofW (cc := cX5_parallel) (maxL := 3) (ret := (some .int)) (by decide) rfl ?_
  intro p e s m args below meth c s₁ B hml hv
  obtain ⟨rfl, hsz, hP, hK, hD0, hF⟩ := hv
  have hx := B.exec
  have hb := B.bytes
  have hr := B.returns
  have hts := atoms_spec (ws := wsX5_parallel) B.pre
  have hown : s.vm.findClass RX5 = some m.cls := findClass_of_methodNamed B.named
  have hlocks := B.notSynchronized
  subst hsz
  have hD := hD0.self (sz := s.heap.size)
  generalize hAe : va_A [(x, .inr (10, [.ref cd, .int 0, .ref rd, .int 0, .ref tp, .ref fo, .int 10, .ref qu, .int 0, .int 0, .ref sh, .ref vs, .ref pa, .ref pb])), (fo, .inr (7, [.int 1, .ref le, .ref mo, .ref os, .ref ps, .int 0, .ref br, .int 0])), (os, .inl (ko, 6, .inl (fun _ => 0))), (ps, .inl (kp, 6, .inl (fun _ => 0)))] s.heap.size = A at hD ⊢
  have hA : ∀ q : Nat, s.heap.size ≤ q → A q := fun q h => by rw [← hAe]; exact Or.inr h
  have hS : va_S A s.heap s.heap [] := va_S.rf
  have hl := lv_entry ([.ref x, .int c1, .int c2]) (n := 3) (Nat.le_of_ble_eq_true rfl)
  rw [lg_entry_eq]
  generalize (lg_sl ([.ref x, .int c1, .int c2]) ++ List.replicate (3 - (lg_sl ([.ref x, .int c1, .int c2])).length) Slot.unset).toArray = ls at hl ⊢
  have hl : lv_has ls 3 [(0, .ref x), (1, .int c1), (2, .int c2)] := hl
  refine lv_iload_n hx hb dX5_parallel_0 rfl (lv_at hl 1 rfl) ?_
  refine lv_iconst (v := 0) hx hb dX5_parallel_1 (by decide) ?_
  refine lv_bipush (v := 7) hx hb dX5_parallel_2 (by decide) ?_
  refine vp_callSi (va_Run.run (va_runS (As := [.int c1, .int 0, .int 7]) (rest := []) ⟨hx, hb, hml, hown, hts⟩ (c_X_isWithin l dC dI c1 0 7) (va_cwS 3 hts gX5_parallel_X5_isWithin rfl rfl rfl (by decide +kernel) ⟨Nat.le_of_ble_eq_true rfl, Nat.le_of_ble_eq_true rfl⟩) ⟨PS_blind, PS_pre (hP.sub (ws' := []) [] rfl) (hK.sub (tys' := []) [] rfl) hF⟩ rfl rfl hl.1 rfl (lv_room (Nat.le_of_ble_eq_true rfl)) dX5_parallel_4 ⟨Nat.le_of_ble_eq_true rfl, Nat.le_of_ble_eq_true rfl⟩)) (fun r_1 hr_1 => ?_)
  subst hr_1
  refine lv_if_eq (tgt := 20) hx hb dX5_parallel_7 (by decide) (fun c_2 => ?_) (fun c_2 => ?_)
  · skip
    refine lv_iconst (v := (-1)) hx hb dX5_parallel_20 (by decide) ?_
    exact W.iret (v := (-1)) hx hb hr (fun t ht hW => ⟨⟨_, (), rfl, (by simp only [sp_X_parallel, if_pos c_2]), trivial⟩, hS.F ht⟩) hS.2.2 dX5_parallel_21
  · skip
    refine lv_iload_n hx hb dX5_parallel_10 rfl (lv_at hl 2 rfl) ?_
    refine lv_iconst (v := 0) hx hb dX5_parallel_11 (by decide) ?_
    refine lv_bipush (v := 7) hx hb dX5_parallel_12 (by decide) ?_
    refine vp_callSi (va_Run.run (va_runS (As := [.int c2, .int 0, .int 7]) (rest := []) ⟨hx, hb, hml, hown, hts⟩ (c_X_isWithin l dC dI c2 0 7) (va_cwS 3 hts gX5_parallel_X5_isWithin rfl rfl rfl (by decide +kernel) ⟨Nat.le_of_ble_eq_true rfl, Nat.le_of_ble_eq_true rfl⟩) ⟨PS_blind, PS_pre (hP.sub (ws' := []) [] rfl) (hK.sub (tys' := []) [] rfl) hF⟩ rfl rfl hl.1 rfl (lv_room (Nat.le_of_ble_eq_true rfl)) dX5_parallel_14 ⟨Nat.le_of_ble_eq_true rfl, Nat.le_of_ble_eq_true rfl⟩)) (fun r_3 hr_3 => ?_)
    subst hr_3
    refine lv_if_ne (tgt := 22) hx hb dX5_parallel_17 (by decide) (fun c_4 => ?_) (fun c_4 => ?_)
    · skip
      refine lv_iload_n hx hb dX5_parallel_22 rfl (lv_at hl 1 rfl) ?_
      refine lv_iload_n hx hb dX5_parallel_23 rfl (lv_at hl 2 rfl) ?_
      refine lv_icmp_ne (tgt := 30) hx hb dX5_parallel_24 (by decide) (fun c_5 => ?_) (fun c_5 => ?_)
      · skip
        refine lv_aload_n hx hb dX5_parallel_30 rfl (lv_at hl 0 rfl) ?_
        refine va_get (D := (dC, dI)) (ci := 10) (v := .ref fo) (C := RX5) (T := TX5) (N := 14) hx hb hts (fun _ h9 => List.mem_cons_of_mem _ (List.mem_append_left _ (List.mem_append_right _ (h9)))) hown hK hP 0 rfl rfl 5 (by decide) (hts (.fieldLink RX5 38 "ExamHalls" "form" "LExamHalls$Form;") (List.mem_of_getElem? (i := 1) rfl)) (fun _ h9 => h9) rfl dX5_parallel_31 ?_
        refine va_getN (D := (dC, dI)) (ci := 7) (v := .int 0) (C := RX2) (T := TX2) (N := 8) hx hb hts (fun _ h9 => List.mem_cons_of_mem _ (List.mem_append_right _ (h9))) hown hK hP 1 rfl rfl 5 (by decide) (Ft.nf hF (RX5, 134, "ExamHalls$Form", "parallelCount", "I", RX5) (by decide +kernel)) (fun _ h9 => h9) rfl dX5_parallel_34 ?_
        refine lv_bipush (v := 6) hx hb dX5_parallel_37 (by decide) ?_
        refine lv_icmp_lt (tgt := 45) hx hb dX5_parallel_39 (by decide) (fun _ => ?_) (fun c_6 => absurd (by decide) c_6)
        refine lv_aload_n hx hb dX5_parallel_45 rfl (lv_at hl 0 rfl) ?_
        refine va_get (D := (dC, dI)) (ci := 10) (v := .ref fo) (C := RX5) (T := TX5) (N := 14) hx hb hts (fun _ h9 => List.mem_cons_of_mem _ (List.mem_append_left _ (List.mem_append_right _ (h9)))) hown hK hP 0 rfl rfl 5 (by decide) (hts (.fieldLink RX5 38 "ExamHalls" "form" "LExamHalls$Form;") (List.mem_of_getElem? (i := 1) rfl)) (fun _ h9 => h9) rfl dX5_parallel_46 ?_
        refine lv_iload_n hx hb dX5_parallel_49 rfl (lv_at hl 1 rfl) ?_
        refine lv_iload_n hx hb dX5_parallel_50 rfl (lv_at hl 2 rfl) ?_
        have hPc := hP.sub (ws' := [(fo, .inr (7, [.int 1, .ref le, .ref mo, .ref os, .ref ps, .int 0, .ref br, .int 0])), (os, .inl (ko, 6, .inl (fun _ => 0))), (ps, .inl (kp, 6, .inl (fun _ => 0)))]) [1, 2, 3] rfl
        have hDc := hD.sub (ws' := [(fo, .inr (7, [.int 1, .ref le, .ref mo, .ref os, .ref ps, .int 0, .ref br, .int 0])), (os, .inl (ko, 6, .inl (fun _ => 0))), (ps, .inl (kp, 6, .inl (fun _ => 0)))]) [1, 2, 3] (by decide) rfl
        have hKc := hK.sub (tys' := [(ko, .int), (kp, .int)]) [0, 1] rfl
        have hFc := va_free (wc := [(fo, .inr (7, [.int 1, .ref le, .ref mo, .ref os, .ref ps, .int 0, .ref br, .int 0])), (os, .inl (ko, 6, .inl (fun _ => 0))), (ps, .inl (kp, 6, .inl (fun _ => 0)))]) hD hS hA [1, 2, 3] rfl
        refine va_callv (va_runVN (As := [.int c1, .int c2]) (rest := []) ⟨hx, hb, hml, hown, hts⟩ (c_F_addParallel l dC dI fo le mo os ps br ko kp c1 c2 s.heap.size) ⟨va_cnB 2 hts gX5_parallel_X2_addParallel_n137 rfl rfl rfl (Ft.nm hF (RX5, 137, yX2_addParallel, RX5) (by decide +kernel)) (hts (.initialized RX2) (List.mem_of_getElem? (i := 7) rfl)) (by decide +kernel) ⟨Nat.le_of_ble_eq_true rfl, Nat.le_of_ble_eq_true rfl⟩, (hts (.instanceMethod yX2_addParallel) (List.mem_of_getElem? (i := 6) rfl)), (hts (.selects RX2 yX2_addParallel yX2_addParallel) (List.mem_of_getElem? (i := 8) rfl))⟩ ⟨PQ_blind, va_recv hK hP (ci := 7) (q0 := 1) rfl rfl, PQ_pre hPc hKc hDc hF⟩ rfl rfl hl.1 rfl (lv_room (Nat.le_of_ble_eq_true rfl)) dX5_parallel_51 ⟨Nat.le_of_ble_eq_true rfl, Nat.le_of_ble_eq_true rfl⟩) hS (fun q _ h => hFc q h) hFc (fun u t H1 locs ht hvm hw hB hz1 hk1 hS => ?_)
        obtain ⟨hP1, hK1, hD1⟩ := hB
        rw [ht] at hP1
        have hK1 := va_K.moved hvm.symm hK1
        obtain ⟨hP, hD⟩ := va_join (wr := [(x, .inr (10, [.ref cd, .int 0, .ref rd, .int 0, .ref tp, .ref fo, .int 10, .ref qu, .int 0, .int 0, .ref sh, .ref vs, .ref pa, .ref pb]))]) (w1 := [(fo, .inr (7, [.int 1, .ref le, .ref mo, .ref os, .ref ps, .int 1, .ref br, .int 0]))]) hP hD [1, 2, 3] [0] rfl rfl (by decide) (by decide) hk1 hFc hP1 hD1
        have hK := hK.app hK1
        generalize H1 = H at hP hS ⊢
        have hP : va_P (dC, dI) vwCl [(x, .inr (10, [.ref cd, .int 0, .ref rd, .int 0, .ref tp, .ref fo, .int 10, .ref qu, .int 0, .int 0, .ref sh, .ref vs, .ref pa, .ref pb])), (fo, .inr (7, [.int 1, .ref le, .ref mo, .ref os, .ref ps, .int 1, .ref br, .int 0]))] H := hP
        have hD : va_D A [(x, .inr (10, [.ref cd, .int 0, .ref rd, .int 0, .ref tp, .ref fo, .int 10, .ref qu, .int 0, .int 0, .ref sh, .ref vs, .ref pa, .ref pb])), (fo, .inr (7, [.int 1, .ref le, .ref mo, .ref os, .ref ps, .int 1, .ref br, .int 0]))] := hD
        have hK : va_K (dC, dI) vwCl [(ko, .int), (kp, .int)] s := hK
        refine W.widen (k := 0) (n := 0) (Nat.le_of_ble_eq_true rfl) (Nat.le_of_ble_eq_true rfl) ?_
        refine lv_aload_n hx hb dX5_parallel_54 rfl (lv_at hl 0 rfl) ?_
        refine va_get (D := (dC, dI)) (ci := 10) (v := .ref fo) (C := RX5) (T := TX5) (N := 14) hx hb hts (fun _ h9 => List.mem_cons_of_mem _ (List.mem_append_left _ (List.mem_append_right _ (h9)))) hown hK hP 0 rfl rfl 5 (by decide) (hts (.fieldLink RX5 38 "ExamHalls" "form" "LExamHalls$Form;") (List.mem_of_getElem? (i := 1) rfl)) (fun _ h9 => h9) rfl dX5_parallel_55 ?_
        refine va_getN (D := (dC, dI)) (ci := 7) (v := .int 1) (C := RX2) (T := TX2) (N := 8) hx hb hts (fun _ h9 => List.mem_cons_of_mem _ (List.mem_append_right _ (h9))) hown hK hP 1 rfl rfl 5 (by decide) (Ft.nf hF (RX5, 134, "ExamHalls$Form", "parallelCount", "I", RX5) (by decide +kernel)) (fun _ h9 => h9) rfl dX5_parallel_58 ?_
        refine lv_iconst (v := 1) hx hb dX5_parallel_61 (by decide) ?_
        refine lv_isub hx hb dX5_parallel_62 ?_
        refine lv_topi (fun f_8 ef_8 => ?_)
        obtain rfl : f_8 = 0 := ef_8.trans (by decide)
        exact W.iret (v := 0) hx hb hr (fun t ht hW => ⟨⟨_, (), rfl, (by simp only [sp_X_parallel, if_neg c_2, if_neg c_4, if_neg c_5]), trivial⟩, hS.F ht⟩) hS.2.2 dX5_parallel_63
      · skip
        refine lv_bipush (v := (-2)) hx hb dX5_parallel_27 (by decide) ?_
        exact W.iret (v := (-2)) hx hb hr (fun t ht hW => ⟨⟨_, (), rfl, (by simp only [sp_X_parallel, if_neg c_2, if_neg c_4, if_pos c_5]), trivial⟩, hS.F ht⟩) hS.2.2 dX5_parallel_29
    · skip
      refine lv_iconst (v := (-1)) hx hb dX5_parallel_20 (by decide) ?_
      exact W.iret (v := (-1)) hx hb hr (fun t ht hW => ⟨⟨_, (), rfl, (by simp only [sp_X_parallel, if_neg c_2, if_pos c_4]), trivial⟩, hS.F ht⟩) hS.2.2 dX5_parallel_21

def sp_X_reader (c1 : Int32) (c2 : Int32) : Int32 := if (sp_X_isWithin c1 0 3) = 0 then (-1) else if (sp_X_isWithin c2 0 3) = 0 then (-1) else 0
set_option maxHeartbeats 4000000 in
set_option maxRecDepth 100000 in
theorem c_X_reader (l : Launch) (dC : Nat → ClassId) (dI : Nat → Nat → Nat) (x : Nat) (cd : Nat) (rd : Nat) (tp : Nat) (fo : Nat) (qu : Nat) (sh : Nat) (vs : Nat) (pa : Nat) (pb : Nat) (kR : ClassId) (c1 : Int32) (c2 : Int32) (sz : Nat) : Met l yX5_reader wsX5_reader ({ frames := 2, cells := 1, slots := 3, locals := 34 }) (va_Pc [.ref x, .int c1, .int c2] (PQ dC dI sz [(x, .inr (10, [.ref cd, .int 0, .ref rd, .int 0, .ref tp, .ref fo, .int 10, .ref qu, .int 0, .int 0, .ref sh, .ref vs, .ref pa, .ref pb])), (rd, .inl (kR, 6, .inr (.inr (.inr (.inr (fun _ => none))))))] [(kR, .object "ExamHalls$Reader")])) (va_Qi (fun r (_ : Unit) => r = sp_X_reader c1 c2) (fun _ _ => True) (va_A [(x, .inr (10, [.ref cd, .int 0, .ref rd, .int 0, .ref tp, .ref fo, .int 10, .ref qu, .int 0, .int 0, .ref sh, .ref vs, .ref pa, .ref pb])), (rd, .inl (kR, 6, .inr (.inr (.inr (.inr (fun _ => none))))))] sz)) 1 3 (va_A [(x, .inr (10, [.ref cd, .int 0, .ref rd, .int 0, .ref tp, .ref fo, .int 10, .ref qu, .int 0, .int 0, .ref sh, .ref vs, .ref pa, .ref pb])), (rd, .inl (kR, 6, .inr (.inr (.inr (.inr (fun _ => none))))))] sz) := by
  refine Met.ofW (cc := cX5_reader) (maxL := 3) (ret := (some .int)) (by decide) rfl ?_
  intro p e s m args below meth c s₁ B hml hv
  obtain ⟨rfl, hsz, hP, hK, hD0, hF⟩ := hv
  have hx := B.exec
  have hb := B.bytes
  have hr := B.returns
  have hts := atoms_spec (ws := wsX5_reader) B.pre
  have hown : s.vm.findClass RX5 = some m.cls := findClass_of_methodNamed B.named
  have hlocks := B.notSynchronized
  subst hsz
  have hD := hD0.self (sz := s.heap.size)
  generalize hAe : va_A [(x, .inr (10, [.ref cd, .int 0, .ref rd, .int 0, .ref tp, .ref fo, .int 10, .ref qu, .int 0, .int 0, .ref sh, .ref vs, .ref pa, .ref pb])), (rd, .inl (kR, 6, .inr (.inr (.inr (.inr (fun _ => none))))))] s.heap.size = A at hD ⊢
  have hA : ∀ q : Nat, s.heap.size ≤ q → A q := fun q h => by rw [← hAe]; exact Or.inr h
  have hS : va_S A s.heap s.heap [] := va_S.rf
  have hl := lv_entry ([.ref x, .int c1, .int c2]) (n := 3) (Nat.le_of_ble_eq_true rfl)
  rw [lg_entry_eq]
  generalize (lg_sl ([.ref x, .int c1, .int c2]) ++ List.replicate (3 - (lg_sl ([.ref x, .int c1, .int c2])).length) Slot.unset).toArray = ls at hl ⊢
  have hl : lv_has ls 3 [(0, .ref x), (1, .int c1), (2, .int c2)] := hl
  refine lv_iload_n hx hb dX5_reader_0 rfl (lv_at hl 1 rfl) ?_
  refine lv_iconst (v := 0) hx hb dX5_reader_1 (by decide) ?_
  refine lv_iconst (v := 3) hx hb dX5_reader_2 (by decide) ?_
  refine vp_callSi (va_Run.run (va_runS (As := [.int c1, .int 0, .int 3]) (rest := []) ⟨hx, hb, hml, hown, hts⟩ (c_X_isWithin l dC dI c1 0 3) (va_cwS 3 hts gX5_reader_X5_isWithin rfl rfl rfl (by decide +kernel) ⟨Nat.le_of_ble_eq_true rfl, Nat.le_of_ble_eq_true rfl⟩) ⟨PS_blind, PS_pre (hP.sub (ws' := []) [] rfl) (hK.sub (tys' := []) [] rfl) hF⟩ rfl rfl hl.1 rfl (lv_room (Nat.le_of_ble_eq_true rfl)) dX5_reader_3 ⟨Nat.le_of_ble_eq_true rfl, Nat.le_of_ble_eq_true rfl⟩)) (fun r_1 hr_1 => ?_)
  subst hr_1
  refine lv_if_eq (tgt := 18) hx hb dX5_reader_6 (by decide) (fun c_2 => ?_) (fun c_2 => ?_)
  · skip
    refine lv_iconst (v := (-1)) hx hb dX5_reader_18 (by decide) ?_
    refine W.widen (k := 1) (n := 3) (Nat.le_of_ble_eq_true rfl) (Nat.le_of_ble_eq_true rfl) ?_
    exact W.iret (v := (-1)) hx hb hr (fun t ht hW => ⟨⟨_, (), rfl, (by simp only [sp_X_reader, if_pos c_2]), trivial⟩, hS.F ht⟩) hS.2.2 dX5_reader_19
  · skip
    refine lv_iload_n hx hb dX5_reader_9 rfl (lv_at hl 2 rfl) ?_
    refine lv_iconst (v := 0) hx hb dX5_reader_10 (by decide) ?_
    refine lv_iconst (v := 3) hx hb dX5_reader_11 (by decide) ?_
    refine vp_callSi (va_Run.run (va_runS (As := [.int c2, .int 0, .int 3]) (rest := []) ⟨hx, hb, hml, hown, hts⟩ (c_X_isWithin l dC dI c2 0 3) (va_cwS 3 hts gX5_reader_X5_isWithin rfl rfl rfl (by decide +kernel) ⟨Nat.le_of_ble_eq_true rfl, Nat.le_of_ble_eq_true rfl⟩) ⟨PS_blind, PS_pre (hP.sub (ws' := []) [] rfl) (hK.sub (tys' := []) [] rfl) hF⟩ rfl rfl hl.1 rfl (lv_room (Nat.le_of_ble_eq_true rfl)) dX5_reader_12 ⟨Nat.le_of_ble_eq_true rfl, Nat.le_of_ble_eq_true rfl⟩)) (fun r_3 hr_3 => ?_)
    subst hr_3
    refine lv_if_ne (tgt := 20) hx hb dX5_reader_15 (by decide) (fun c_4 => ?_) (fun c_4 => ?_)
    · skip
      refine lv_aload_n hx hb dX5_reader_20 rfl (lv_at hl 0 rfl) ?_
      refine va_get (D := (dC, dI)) (ci := 10) (v := .int 0) (C := RX5) (T := TX5) (N := 14) hx hb hts (fun _ h9 => List.mem_cons_of_mem _ (List.mem_append_left _ (List.mem_append_right _ (h9)))) hown hK hP 0 rfl rfl 3 (by decide) (hts (.fieldLink RX5 25 "ExamHalls" "readerCount" "I") (List.mem_of_getElem? (i := 1) rfl)) (fun _ h9 => h9) rfl dX5_reader_21 ?_
      refine lv_if_lt (tgt := 39) hx hb dX5_reader_24 (by decide) (fun c_5 => absurd c_5 (by decide)) (fun _ => ?_)
      refine lv_aload_n hx hb dX5_reader_27 rfl (lv_at hl 0 rfl) ?_
      refine va_get (D := (dC, dI)) (ci := 10) (v := .int 0) (C := RX5) (T := TX5) (N := 14) hx hb hts (fun _ h9 => List.mem_cons_of_mem _ (List.mem_append_left _ (List.mem_append_right _ (h9)))) hown hK hP 0 rfl rfl 3 (by decide) (hts (.fieldLink RX5 25 "ExamHalls" "readerCount" "I") (List.mem_of_getElem? (i := 1) rfl)) (fun _ h9 => h9) rfl dX5_reader_28 ?_
      refine lv_aload_n hx hb dX5_reader_31 rfl (lv_at hl 0 rfl) ?_
      refine va_get (D := (dC, dI)) (ci := 10) (v := .ref rd) (C := RX5) (T := TX5) (N := 14) hx hb hts (fun _ h9 => List.mem_cons_of_mem _ (List.mem_append_left _ (List.mem_append_right _ (h9)))) hown hK hP 0 rfl rfl 2 (by decide) (hts (.fieldLink RX5 21 "ExamHalls" "readers" "[LExamHalls$Reader;") (List.mem_of_getElem? (i := 2) rfl)) (fun _ h9 => h9) rfl dX5_reader_32 ?_
      refine va_alen hx hb hK hP 1 0 rfl rfl (v := 6) rfl dX5_reader_35 ?_
      refine lv_icmp_lt (tgt := 42) hx hb dX5_reader_36 (by decide) (fun _ => ?_) (fun c_6 => absurd (by decide) c_6)
      refine lv_aload_n hx hb dX5_reader_42 rfl (lv_at hl 0 rfl) ?_
      refine va_get (D := (dC, dI)) (ci := 10) (v := .ref rd) (C := RX5) (T := TX5) (N := 14) hx hb hts (fun _ h9 => List.mem_cons_of_mem _ (List.mem_append_left _ (List.mem_append_right _ (h9)))) hown hK hP 0 rfl rfl 2 (by decide) (hts (.fieldLink RX5 21 "ExamHalls" "readers" "[LExamHalls$Reader;") (List.mem_of_getElem? (i := 2) rfl)) (fun _ h9 => h9) rfl dX5_reader_43 ?_
      refine lv_aload_n hx hb dX5_reader_46 rfl (lv_at hl 0 rfl) ?_
      refine va_get (D := (dC, dI)) (ci := 10) (v := .int 0) (C := RX5) (T := TX5) (N := 14) hx hb hts (fun _ h9 => List.mem_cons_of_mem _ (List.mem_append_left _ (List.mem_append_right _ (h9)))) hown hK hP 0 rfl rfl 3 (by decide) (hts (.fieldLink RX5 25 "ExamHalls" "readerCount" "I") (List.mem_of_getElem? (i := 1) rfl)) (fun _ h9 => h9) rfl dX5_reader_47 ?_
      refine va_new (ci := 8) (fs := [.int 0, .int 0, .int 0]) (C := RX3) (T := TX3) (N := 3) hx hb hts (fun _ h9 => List.mem_cons_of_mem _ (List.mem_append_right _ (h9))) tyX3 tyX3_ok hown (hts (.classLink RX5 19 RX3) (List.mem_of_getElem? (i := 3) rfl)) (hts (.instantiable RX3 3) (List.mem_of_getElem? (i := 4) rfl)) (hts (.initialized RX3) (List.mem_of_getElem? (i := 5) rfl)) hK hP hD hS hA rfl dfX3 (Nat.le_of_ble_eq_true rfl) (Nat.le_of_ble_eq_true rfl) dX5_reader_50 (fun q_7 H hP hD hS => ?_)
      have hP : va_P (dC, dI) vwCl [(x, .inr (10, [.ref cd, .int 0, .ref rd, .int 0, .ref tp, .ref fo, .int 10, .ref qu, .int 0, .int 0, .ref sh, .ref vs, .ref pa, .ref pb])), (rd, .inl (kR, 6, .inr (.inr (.inr (.inr (fun _ => none)))))), (q_7, .inr (8, [.int 0, .int 0, .int 0]))] H := hP
      have hD : va_D A [(x, .inr (10, [.ref cd, .int 0, .ref rd, .int 0, .ref tp, .ref fo, .int 10, .ref qu, .int 0, .int 0, .ref sh, .ref vs, .ref pa, .ref pb])), (rd, .inl (kR, 6, .inr (.inr (.inr (.inr (fun _ => none)))))), (q_7, .inr (8, [.int 0, .int 0, .int 0]))] := hD
      refine W.widen (k := 1) (n := 3) (Nat.le_of_ble_eq_true rfl) (Nat.le_of_ble_eq_true rfl) ?_
      refine lv_dup hx hb dX5_reader_53 rfl ?_
      refine lv_iload_n hx hb dX5_reader_54 rfl (lv_at hl 1 rfl) ?_
      refine lv_iload_n hx hb dX5_reader_55 rfl (lv_at hl 2 rfl) ?_
      have hPc := hP.sub (ws' := [(q_7, .inr (8, [.int 0, .int 0, .int 0]))]) [2] rfl
      have hDc := hD.sub (ws' := [(q_7, .inr (8, [.int 0, .int 0, .int 0]))]) [2] (by decide) rfl
      have hKc := hK.sub (tys' := []) [] rfl
      have hFc := va_free (wc := [(q_7, .inr (8, [.int 0, .int 0, .int 0]))]) hD hS hA [2] rfl
      refine va_callv (va_runIN (As := [.int c1, .int c2]) (rest := [.ref q_7, .int 0, .ref rd]) ⟨hx, hb, hml, hown, hts⟩ (c_X3_init l dC dI q_7 c1 c2 H.size) ⟨va_cnB 2 hts gX5_reader_X3_init_n184 rfl rfl rfl (Ft.nm hF (RX5, 184, yX3_init, RX5) (by decide +kernel)) (hts (.initialized RX3) (List.mem_of_getElem? (i := 5) rfl)) (by decide +kernel) ⟨Nat.le_of_ble_eq_true rfl, Nat.le_of_ble_eq_true rfl⟩, rfl, (hts (.instanceMethod yX3_init) (List.mem_of_getElem? (i := 10) rfl))⟩ ⟨PQ_blind, PQ_pre hPc hKc hDc hF⟩ rfl rfl hl.1 rfl (lv_room (Nat.le_of_ble_eq_true rfl)) dX5_reader_56 ⟨Nat.le_of_ble_eq_true rfl, Nat.le_of_ble_eq_true rfl⟩) hS (fun q _ h => hFc q h) hFc (fun u t H1 locs ht hvm hw hB hz1 hk1 hS => ?_)
      obtain ⟨hP1, hK1, hD1⟩ := hB
      rw [ht] at hP1
      have hK1 := va_K.moved hvm.symm hK1
      obtain ⟨hP, hD⟩ := va_join (wr := [(x, .inr (10, [.ref cd, .int 0, .ref rd, .int 0, .ref tp, .ref fo, .int 10, .ref qu, .int 0, .int 0, .ref sh, .ref vs, .ref pa, .ref pb])), (rd, .inl (kR, 6, .inr (.inr (.inr (.inr (fun _ => none))))))]) (w1 := [(q_7, .inr (8, [.int c1, .int c2, .int 0]))]) hP hD [2] [0, 1] rfl rfl (by decide) (by decide) hk1 hFc hP1 hD1
      have hK := hK.app hK1
      generalize H1 = H at hP hS ⊢
      have hP : va_P (dC, dI) vwCl [(x, .inr (10, [.ref cd, .int 0, .ref rd, .int 0, .ref tp, .ref fo, .int 10, .ref qu, .int 0, .int 0, .ref sh, .ref vs, .ref pa, .ref pb])), (rd, .inl (kR, 6, .inr (.inr (.inr (.inr (fun _ => none)))))), (q_7, .inr (8, [.int c1, .int c2, .int 0]))] H := hP
      have hD : va_D A [(x, .inr (10, [.ref cd, .int 0, .ref rd, .int 0, .ref tp, .ref fo, .int 10, .ref qu, .int 0, .int 0, .ref sh, .ref vs, .ref pa, .ref pb])), (rd, .inl (kR, 6, .inr (.inr (.inr (.inr (fun _ => none)))))), (q_7, .inr (8, [.int c1, .int c2, .int 0]))] := hD
      have hK : va_K (dC, dI) vwCl [(kR, .object "ExamHalls$Reader")] s := hK
      refine W.widen (k := 1) (n := 3) (Nat.le_of_ble_eq_true rfl) (Nat.le_of_ble_eq_true rfl) ?_
      refine va_astq hx hb hK hP hD hS 1 0 2 8 (r := (RX3, TX3, 3)) rfl rfl rfl rfl (by unfold vp_in; decide) dX5_reader_59 (fun H locs hP hD hS => ?_)
      have hP : va_P (dC, dI) vwCl [(x, .inr (10, [.ref cd, .int 0, .ref rd, .int 0, .ref tp, .ref fo, .int 10, .ref qu, .int 0, .int 0, .ref sh, .ref vs, .ref pa, .ref pb])), (rd, .inl (kR, 6, .inr (.inr (.inr (.inr (va_up (fun _ => none) (0 : Int32).toNatClampNeg (some q_7))))))), (q_7, .inr (8, [.int c1, .int c2, .int 0]))] H := hP
      have hD : va_D A [(x, .inr (10, [.ref cd, .int 0, .ref rd, .int 0, .ref tp, .ref fo, .int 10, .ref qu, .int 0, .int 0, .ref sh, .ref vs, .ref pa, .ref pb])), (rd, .inl (kR, 6, .inr (.inr (.inr (.inr (va_up (fun _ => none) (0 : Int32).toNatClampNeg (some q_7))))))), (q_7, .inr (8, [.int c1, .int c2, .int 0]))] := hD
      generalize (va_up (fun _ => none) (0 : Int32).toNatClampNeg (some q_7)) = a_9 at hP hD
      refine lv_aload_n hx hb dX5_reader_60 rfl (lv_at hl 0 rfl) ?_
      refine lv_dup hx hb dX5_reader_61 rfl ?_
      refine va_get (D := (dC, dI)) (ci := 10) (v := .int 0) (C := RX5) (T := TX5) (N := 14) hx hb hts (fun _ h9 => List.mem_cons_of_mem _ (List.mem_append_left _ (List.mem_append_right _ (h9)))) hown hK hP 0 rfl rfl 3 (by decide) (hts (.fieldLink RX5 25 "ExamHalls" "readerCount" "I") (List.mem_of_getElem? (i := 1) rfl)) (fun _ h9 => h9) rfl dX5_reader_62 ?_
      refine lv_iconst (v := 1) hx hb dX5_reader_65 (by decide) ?_
      refine lv_iadd hx hb dX5_reader_66 ?_
      refine lv_topi (fun f_10 ef_10 => ?_)
      obtain rfl : f_10 = 1 := ef_10.trans (by decide)
      refine va_put (D := (dC, dI)) (ci := 10) (v := .int 1) (ty := .int) (C := RX5) (T := TX5) (N := 14) hx hb hts (fun _ h9 => List.mem_cons_of_mem _ (List.mem_append_left _ (List.mem_append_right _ (h9)))) tyX5 tyX5_ok nmX5 hown hK hP hD hS 0 rfl rfl 3 (by decide) (hts (.fieldLink RX5 25 "ExamHalls" "readerCount" "I") (List.mem_of_getElem? (i := 1) rfl)) (fun _ h9 => h9) rfl (by decide +kernel) rfl rfl (Nat.le_of_ble_eq_true rfl) dX5_reader_67 (fun H locs hP hD hS => ?_)
      have hP : va_P (dC, dI) vwCl [(x, .inr (10, [.ref cd, .int 0, .ref rd, .int 1, .ref tp, .ref fo, .int 10, .ref qu, .int 0, .int 0, .ref sh, .ref vs, .ref pa, .ref pb])), (rd, .inl (kR, 6, .inr (.inr (.inr (.inr a_9))))), (q_7, .inr (8, [.int c1, .int c2, .int 0]))] H := hP
      have hD : va_D A [(x, .inr (10, [.ref cd, .int 0, .ref rd, .int 1, .ref tp, .ref fo, .int 10, .ref qu, .int 0, .int 0, .ref sh, .ref vs, .ref pa, .ref pb])), (rd, .inl (kR, 6, .inr (.inr (.inr (.inr a_9))))), (q_7, .inr (8, [.int c1, .int c2, .int 0]))] := hD
      refine lv_aload_n hx hb dX5_reader_70 rfl (lv_at hl 0 rfl) ?_
      refine va_get (D := (dC, dI)) (ci := 10) (v := .int 1) (C := RX5) (T := TX5) (N := 14) hx hb hts (fun _ h9 => List.mem_cons_of_mem _ (List.mem_append_left _ (List.mem_append_right _ (h9)))) hown hK hP 0 rfl rfl 3 (by decide) (hts (.fieldLink RX5 25 "ExamHalls" "readerCount" "I") (List.mem_of_getElem? (i := 1) rfl)) (fun _ h9 => h9) rfl dX5_reader_71 ?_
      refine lv_iconst (v := 1) hx hb dX5_reader_74 (by decide) ?_
      refine lv_isub hx hb dX5_reader_75 ?_
      refine lv_topi (fun f_11 ef_11 => ?_)
      obtain rfl : f_11 = 0 := ef_11.trans (by decide)
      exact W.iret (v := 0) hx hb hr (fun t ht hW => ⟨⟨_, (), rfl, (by simp only [sp_X_reader, if_neg c_2, if_neg c_4]), trivial⟩, hS.F ht⟩) hS.2.2 dX5_reader_76
    · skip
      refine lv_iconst (v := (-1)) hx hb dX5_reader_18 (by decide) ?_
      refine W.widen (k := 1) (n := 3) (Nat.le_of_ble_eq_true rfl) (Nat.le_of_ble_eq_true rfl) ?_
      exact W.iret (v := (-1)) hx hb hr (fun t ht hW => ⟨⟨_, (), rfl, (by simp only [sp_X_reader, if_neg c_2, if_pos c_4]), trivial⟩, hS.F ht⟩) hS.2.2 dX5_reader_19

def sp_X_apart (c1 : Int32) : Int32 := if (sp_X_isWithin c1 0 99) = 0 then (-2) else 10
set_option maxHeartbeats 4000000 in
set_option maxRecDepth 100000 in
theorem c_X_apart (l : Launch) (dC : Nat → ClassId) (dI : Nat → Nat → Nat) (x : Nat) (cd : Nat) (rd : Nat) (tp : Nat) (fo : Nat) (qu : Nat) (sh : Nat) (vs : Nat) (pa : Nat) (pb : Nat) (c1 : Int32) (sz : Nat) : Met l yX5_apart wsX5_apart ({ frames := 1, cells := 0, slots := 0, locals := 22 }) (va_Pc [.ref x, .int c1] (PQ dC dI sz [(x, .inr (10, [.ref cd, .int 0, .ref rd, .int 0, .ref tp, .ref fo, .int 10, .ref qu, .int 0, .int 0, .ref sh, .ref vs, .ref pa, .ref pb]))] [])) (va_Qi (fun r (_ : Unit) => r = sp_X_apart c1) (fun _ _ => True) (va_A [(x, .inr (10, [.ref cd, .int 0, .ref rd, .int 0, .ref tp, .ref fo, .int 10, .ref qu, .int 0, .int 0, .ref sh, .ref vs, .ref pa, .ref pb]))] sz)) 0 0 (va_A [(x, .inr (10, [.ref cd, .int 0, .ref rd, .int 0, .ref tp, .ref fo, .int 10, .ref qu, .int 0, .int 0, .ref sh, .ref vs, .ref pa, .ref pb]))] sz) := by
  refine Met.ofW (cc := cX5_apart) (maxL := 3) (ret := (some .int)) (by decide) rfl ?_
  intro p e s m args below meth c s₁ B hml hv
  obtain ⟨rfl, hsz, hP, hK, hD0, hF⟩ := hv
  have hx := B.exec
  have hb := B.bytes
  have hr := B.returns
  have hts := atoms_spec (ws := wsX5_apart) B.pre
  have hown : s.vm.findClass RX5 = some m.cls := findClass_of_methodNamed B.named
  have hlocks := B.notSynchronized
  subst hsz
  have hD := hD0.self (sz := s.heap.size)
  generalize hAe : va_A [(x, .inr (10, [.ref cd, .int 0, .ref rd, .int 0, .ref tp, .ref fo, .int 10, .ref qu, .int 0, .int 0, .ref sh, .ref vs, .ref pa, .ref pb]))] s.heap.size = A at hD ⊢
  have hA : ∀ q : Nat, s.heap.size ≤ q → A q := fun q h => by rw [← hAe]; exact Or.inr h
  have hS : va_S A s.heap s.heap [] := va_S.rf
  have hl := lv_entry ([.ref x, .int c1]) (n := 3) (Nat.le_of_ble_eq_true rfl)
  rw [lg_entry_eq]
  generalize (lg_sl ([.ref x, .int c1]) ++ List.replicate (3 - (lg_sl ([.ref x, .int c1])).length) Slot.unset).toArray = ls at hl ⊢
  have hl : lv_has ls 3 [(0, .ref x), (1, .int c1)] := hl
  refine lv_iload_n hx hb dX5_apart_0 rfl (lv_at hl 1 rfl) ?_
  refine lv_iconst (v := 0) hx hb dX5_apart_1 (by decide) ?_
  refine lv_bipush (v := 99) hx hb dX5_apart_2 (by decide) ?_
  refine vp_callSi (va_Run.run (va_runS (As := [.int c1, .int 0, .int 99]) (rest := []) ⟨hx, hb, hml, hown, hts⟩ (c_X_isWithin l dC dI c1 0 99) (va_cwS 3 hts gX5_apart_X5_isWithin rfl rfl rfl (by decide +kernel) ⟨Nat.le_of_ble_eq_true rfl, Nat.le_of_ble_eq_true rfl⟩) ⟨PS_blind, PS_pre (hP.sub (ws' := []) [] rfl) hK hF⟩ rfl rfl hl.1 rfl (lv_room (Nat.le_of_ble_eq_true rfl)) dX5_apart_4 ⟨Nat.le_of_ble_eq_true rfl, Nat.le_of_ble_eq_true rfl⟩)) (fun r_1 hr_1 => ?_)
  subst hr_1
  refine lv_if_ne (tgt := 13) hx hb dX5_apart_7 (by decide) (fun c_2 => ?_) (fun c_2 => ?_)
  · skip
    refine lv_aload_n hx hb dX5_apart_13 rfl (lv_at hl 0 rfl) ?_
    refine va_get (D := (dC, dI)) (ci := 10) (v := .int 10) (C := RX5) (T := TX5) (N := 14) hx hb hts (fun _ h9 => List.mem_cons_of_mem _ (List.mem_append_right _ (h9))) hown hK hP 0 rfl rfl 6 (by decide) (hts (.fieldLink RX5 42 "ExamHalls" "apart" "I") (List.mem_of_getElem? (i := 1) rfl)) (fun _ h9 => h9) rfl dX5_apart_14 ?_
    refine lv_istore_n (lv' := [(2, .int 10), (0, .ref x), (1, .int c1)]) hx hb dX5_apart_17 rfl hl (by decide) rfl (fun ls hl => ?_)
    refine lv_aload_n hx hb dX5_apart_18 rfl (lv_at hl 1 rfl) ?_
    refine lv_iload_n hx hb dX5_apart_19 rfl (lv_at hl 2 rfl) ?_
    refine va_put (D := (dC, dI)) (ci := 10) (v := .int c1) (ty := .int) (C := RX5) (T := TX5) (N := 14) hx hb hts (fun _ h9 => List.mem_cons_of_mem _ (List.mem_append_right _ (h9))) tyX5 tyX5_ok nmX5 hown hK hP hD hS 0 rfl rfl 6 (by decide) (hts (.fieldLink RX5 42 "ExamHalls" "apart" "I") (List.mem_of_getElem? (i := 1) rfl)) (fun _ h9 => h9) rfl (by decide +kernel) rfl rfl (Nat.le_of_ble_eq_true rfl) dX5_apart_20 (fun H locs hP hD hS => ?_)
    have hP : va_P (dC, dI) vwCl [(x, .inr (10, [.ref cd, .int 0, .ref rd, .int 0, .ref tp, .ref fo, .int c1, .ref qu, .int 0, .int 0, .ref sh, .ref vs, .ref pa, .ref pb]))] H := hP
    have hD : va_D A [(x, .inr (10, [.ref cd, .int 0, .ref rd, .int 0, .ref tp, .ref fo, .int c1, .ref qu, .int 0, .int 0, .ref sh, .ref vs, .ref pa, .ref pb]))] := hD
    refine lv_iload_n hx hb dX5_apart_23 rfl (lv_at hl 0 rfl) ?_
    exact W.iret (v := 10) hx hb hr (fun t ht hW => ⟨⟨_, (), rfl, (by simp only [sp_X_apart, if_neg c_2]), trivial⟩, hS.F ht⟩) hS.2.2 dX5_apart_24
  · skip
    refine lv_bipush (v := (-2)) hx hb dX5_apart_10 (by decide) ?_
    exact W.iret (v := (-2)) hx hb hr (fun t ht hW => ⟨⟨_, (), rfl, (by simp only [sp_X_apart, if_pos c_2]), trivial⟩, hS.F ht⟩) hS.2.2 dX5_apart_12

def sp_X_quota (c1 : Int32) (c2 : Int32) : Int32 := if (sp_X_isWithin c1 0 3) = 0 then (-1) else if (sp_X_isWithin c2 0 24) = 0 then (-2) else 0
set_option maxHeartbeats 4000000 in
set_option maxRecDepth 100000 in
theorem c_X_quota (l : Launch) (dC : Nat → ClassId) (dI : Nat → Nat → Nat) (x : Nat) (cd : Nat) (rd : Nat) (tp : Nat) (fo : Nat) (qu : Nat) (sh : Nat) (vs : Nat) (pa : Nat) (pb : Nat) (kq : ClassId) (c1 : Int32) (c2 : Int32) (sz : Nat) : Met l yX5_quota wsX5_quota ({ frames := 1, cells := 0, slots := 0, locals := 22 }) (va_Pc [.ref x, .int c1, .int c2] (PQ dC dI sz [(x, .inr (10, [.ref cd, .int 0, .ref rd, .int 0, .ref tp, .ref fo, .int 10, .ref qu, .int 0, .int 0, .ref sh, .ref vs, .ref pa, .ref pb])), (qu, .inl (kq, 4, .inl (fun _ => 0)))] [(kq, .int)])) (va_Qi (fun r (_ : Unit) => r = sp_X_quota c1 c2) (fun _ _ => True) (va_A [(x, .inr (10, [.ref cd, .int 0, .ref rd, .int 0, .ref tp, .ref fo, .int 10, .ref qu, .int 0, .int 0, .ref sh, .ref vs, .ref pa, .ref pb])), (qu, .inl (kq, 4, .inl (fun _ => 0)))] sz)) 0 0 (va_A [(x, .inr (10, [.ref cd, .int 0, .ref rd, .int 0, .ref tp, .ref fo, .int 10, .ref qu, .int 0, .int 0, .ref sh, .ref vs, .ref pa, .ref pb])), (qu, .inl (kq, 4, .inl (fun _ => 0)))] sz) := by
  refine Met.ofW (cc := cX5_quota) (maxL := 4) (ret := (some .int)) (by decide) rfl ?_
  intro p e s m args below meth c s₁ B hml hv
  obtain ⟨rfl, hsz, hP, hK, hD0, hF⟩ := hv
  have hx := B.exec
  have hb := B.bytes
  have hr := B.returns
  have hts := atoms_spec (ws := wsX5_quota) B.pre
  have hown : s.vm.findClass RX5 = some m.cls := findClass_of_methodNamed B.named
  have hlocks := B.notSynchronized
  subst hsz
  have hD := hD0.self (sz := s.heap.size)
  generalize hAe : va_A [(x, .inr (10, [.ref cd, .int 0, .ref rd, .int 0, .ref tp, .ref fo, .int 10, .ref qu, .int 0, .int 0, .ref sh, .ref vs, .ref pa, .ref pb])), (qu, .inl (kq, 4, .inl (fun _ => 0)))] s.heap.size = A at hD ⊢
  have hA : ∀ q : Nat, s.heap.size ≤ q → A q := fun q h => by rw [← hAe]; exact Or.inr h
  have hS : va_S A s.heap s.heap [] := va_S.rf
  have hl := lv_entry ([.ref x, .int c1, .int c2]) (n := 4) (Nat.le_of_ble_eq_true rfl)
  rw [lg_entry_eq]
  generalize (lg_sl ([.ref x, .int c1, .int c2]) ++ List.replicate (4 - (lg_sl ([.ref x, .int c1, .int c2])).length) Slot.unset).toArray = ls at hl ⊢
  have hl : lv_has ls 4 [(0, .ref x), (1, .int c1), (2, .int c2)] := hl
  refine lv_iload_n hx hb dX5_quota_0 rfl (lv_at hl 1 rfl) ?_
  refine lv_iconst (v := 0) hx hb dX5_quota_1 (by decide) ?_
  refine lv_iconst (v := 3) hx hb dX5_quota_2 (by decide) ?_
  refine vp_callSi (va_Run.run (va_runS (As := [.int c1, .int 0, .int 3]) (rest := []) ⟨hx, hb, hml, hown, hts⟩ (c_X_isWithin l dC dI c1 0 3) (va_cwS 3 hts gX5_quota_X5_isWithin rfl rfl rfl (by decide +kernel) ⟨Nat.le_of_ble_eq_true rfl, Nat.le_of_ble_eq_true rfl⟩) ⟨PS_blind, PS_pre (hP.sub (ws' := []) [] rfl) (hK.sub (tys' := []) [] rfl) hF⟩ rfl rfl hl.1 rfl (lv_room (Nat.le_of_ble_eq_true rfl)) dX5_quota_3 ⟨Nat.le_of_ble_eq_true rfl, Nat.le_of_ble_eq_true rfl⟩)) (fun r_1 hr_1 => ?_)
  subst hr_1
  refine lv_if_ne (tgt := 11) hx hb dX5_quota_6 (by decide) (fun c_2 => ?_) (fun c_2 => ?_)
  · skip
    refine lv_iload_n hx hb dX5_quota_11 rfl (lv_at hl 2 rfl) ?_
    refine lv_iconst (v := 0) hx hb dX5_quota_12 (by decide) ?_
    refine lv_bipush (v := 24) hx hb dX5_quota_13 (by decide) ?_
    refine vp_callSi (va_Run.run (va_runS (As := [.int c2, .int 0, .int 24]) (rest := []) ⟨hx, hb, hml, hown, hts⟩ (c_X_isWithin l dC dI c2 0 24) (va_cwS 3 hts gX5_quota_X5_isWithin rfl rfl rfl (by decide +kernel) ⟨Nat.le_of_ble_eq_true rfl, Nat.le_of_ble_eq_true rfl⟩) ⟨PS_blind, PS_pre (hP.sub (ws' := []) [] rfl) (hK.sub (tys' := []) [] rfl) hF⟩ rfl rfl hl.1 rfl (lv_room (Nat.le_of_ble_eq_true rfl)) dX5_quota_15 ⟨Nat.le_of_ble_eq_true rfl, Nat.le_of_ble_eq_true rfl⟩)) (fun r_3 hr_3 => ?_)
    subst hr_3
    refine lv_if_ne (tgt := 24) hx hb dX5_quota_18 (by decide) (fun c_4 => ?_) (fun c_4 => ?_)
    · skip
      refine lv_aload_n hx hb dX5_quota_24 rfl (lv_at hl 0 rfl) ?_
      refine va_get (D := (dC, dI)) (ci := 10) (v := .ref qu) (C := RX5) (T := TX5) (N := 14) hx hb hts (fun _ h9 => List.mem_cons_of_mem _ (List.mem_append_right _ (h9))) hown hK hP 0 rfl rfl 7 (by decide) (hts (.fieldLink RX5 45 "ExamHalls" "quotas" "[I") (List.mem_of_getElem? (i := 1) rfl)) (fun _ h9 => h9) rfl dX5_quota_25 ?_
      refine lv_iload_n hx hb dX5_quota_28 rfl (lv_at hl 1 rfl) ?_
      refine va_iald hx hb hK hP 1 0 rfl rfl (vin_w (hi := 3) (by decide) (by decide) c_2) dX5_quota_29 ?_
      refine lv_topi (fun f_5 ef_5 => ?_)
      obtain rfl : f_5 = 0 := ef_5
      refine lv_istore_n (lv' := [(3, .int 0), (0, .ref x), (1, .int c1), (2, .int c2)]) hx hb dX5_quota_30 rfl hl (by decide) rfl (fun ls hl => ?_)
      refine lv_aload_n hx hb dX5_quota_31 rfl (lv_at hl 1 rfl) ?_
      refine va_get (D := (dC, dI)) (ci := 10) (v := .ref qu) (C := RX5) (T := TX5) (N := 14) hx hb hts (fun _ h9 => List.mem_cons_of_mem _ (List.mem_append_right _ (h9))) hown hK hP 0 rfl rfl 7 (by decide) (hts (.fieldLink RX5 45 "ExamHalls" "quotas" "[I") (List.mem_of_getElem? (i := 1) rfl)) (fun _ h9 => h9) rfl dX5_quota_32 ?_
      refine lv_iload_n hx hb dX5_quota_35 rfl (lv_at hl 2 rfl) ?_
      refine lv_iload_n hx hb dX5_quota_36 rfl (lv_at hl 3 rfl) ?_
      refine va_iast hx hb hK hP hD hS 1 0 rfl rfl (vin_w (hi := 3) (by decide) (by decide) c_2) dX5_quota_37 (fun H locs hP hD hS => ?_)
      have hP : va_P (dC, dI) vwCl [(x, .inr (10, [.ref cd, .int 0, .ref rd, .int 0, .ref tp, .ref fo, .int 10, .ref qu, .int 0, .int 0, .ref sh, .ref vs, .ref pa, .ref pb])), (qu, .inl (kq, 4, .inl (upd (fun _ => 0) (c1 : Int32).toNatClampNeg c2)))] H := hP
      have hD : va_D A [(x, .inr (10, [.ref cd, .int 0, .ref rd, .int 0, .ref tp, .ref fo, .int 10, .ref qu, .int 0, .int 0, .ref sh, .ref vs, .ref pa, .ref pb])), (qu, .inl (kq, 4, .inl (upd (fun _ => 0) (c1 : Int32).toNatClampNeg c2)))] := hD
      generalize (upd (fun _ => 0) (c1 : Int32).toNatClampNeg c2) = a_6 at hP hD
      refine lv_iload_n hx hb dX5_quota_38 rfl (lv_at hl 0 rfl) ?_
      exact W.iret (v := 0) hx hb hr (fun t ht hW => ⟨⟨_, (), rfl, (by simp only [sp_X_quota, if_neg c_2, if_neg c_4]), trivial⟩, hS.F ht⟩) hS.2.2 dX5_quota_39
    · skip
      refine lv_bipush (v := (-2)) hx hb dX5_quota_21 (by decide) ?_
      exact W.iret (v := (-2)) hx hb hr (fun t ht hW => ⟨⟨_, (), rfl, (by simp only [sp_X_quota, if_neg c_2, if_pos c_4]), trivial⟩, hS.F ht⟩) hS.2.2 dX5_quota_23
  · skip
    refine lv_iconst (v := (-1)) hx hb dX5_quota_9 (by decide) ?_
    exact W.iret (v := (-1)) hx hb hr (fun t ht hW => ⟨⟨_, (), rfl, (by simp only [sp_X_quota, if_pos c_2]), trivial⟩, hS.F ht⟩) hS.2.2 dX5_quota_10

def sp_X_rule (c1 : Int32) (c2 : Int32) : Int32 := if (sp_X_isWithin c1 0 2) = 0 then (-2) else if (sp_X_isWithin c2 0 1) = 0 then (-2) else 0
set_option maxHeartbeats 4000000 in
set_option maxRecDepth 100000 in
theorem c_X_rule (l : Launch) (dC : Nat → ClassId) (dI : Nat → Nat → Nat) (x : Nat) (cd : Nat) (rd : Nat) (tp : Nat) (fo : Nat) (qu : Nat) (sh : Nat) (vs : Nat) (pa : Nat) (pb : Nat) (c1 : Int32) (c2 : Int32) (sz : Nat) : Met l yX5_rule wsX5_rule ({ frames := 1, cells := 0, slots := 0, locals := 22 }) (va_Pc [.ref x, .int c1, .int c2] (PQ dC dI sz [(x, .inr (10, [.ref cd, .int 0, .ref rd, .int 0, .ref tp, .ref fo, .int 10, .ref qu, .int 0, .int 0, .ref sh, .ref vs, .ref pa, .ref pb]))] [])) (va_Qi (fun r (_ : Unit) => r = sp_X_rule c1 c2) (fun _ _ => True) (va_A [(x, .inr (10, [.ref cd, .int 0, .ref rd, .int 0, .ref tp, .ref fo, .int 10, .ref qu, .int 0, .int 0, .ref sh, .ref vs, .ref pa, .ref pb]))] sz)) 0 0 (va_A [(x, .inr (10, [.ref cd, .int 0, .ref rd, .int 0, .ref tp, .ref fo, .int 10, .ref qu, .int 0, .int 0, .ref sh, .ref vs, .ref pa, .ref pb]))] sz) := by
  refine Met.ofW (cc := cX5_rule) (maxL := 3) (ret := (some .int)) (by decide) rfl ?_
  intro p e s m args below meth c s₁ B hml hv
  obtain ⟨rfl, hsz, hP, hK, hD0, hF⟩ := hv
  have hx := B.exec
  have hb := B.bytes
  have hr := B.returns
  have hts := atoms_spec (ws := wsX5_rule) B.pre
  have hown : s.vm.findClass RX5 = some m.cls := findClass_of_methodNamed B.named
  have hlocks := B.notSynchronized
  subst hsz
  have hD := hD0.self (sz := s.heap.size)
  generalize hAe : va_A [(x, .inr (10, [.ref cd, .int 0, .ref rd, .int 0, .ref tp, .ref fo, .int 10, .ref qu, .int 0, .int 0, .ref sh, .ref vs, .ref pa, .ref pb]))] s.heap.size = A at hD ⊢
  have hA : ∀ q : Nat, s.heap.size ≤ q → A q := fun q h => by rw [← hAe]; exact Or.inr h
  have hS : va_S A s.heap s.heap [] := va_S.rf
  have hl := lv_entry ([.ref x, .int c1, .int c2]) (n := 3) (Nat.le_of_ble_eq_true rfl)
  rw [lg_entry_eq]
  generalize (lg_sl ([.ref x, .int c1, .int c2]) ++ List.replicate (3 - (lg_sl ([.ref x, .int c1, .int c2])).length) Slot.unset).toArray = ls at hl ⊢
  have hl : lv_has ls 3 [(0, .ref x), (1, .int c1), (2, .int c2)] := hl
  refine lv_iload_n hx hb dX5_rule_0 rfl (lv_at hl 1 rfl) ?_
  refine lv_iconst (v := 0) hx hb dX5_rule_1 (by decide) ?_
  refine lv_iconst (v := 2) hx hb dX5_rule_2 (by decide) ?_
  refine vp_callSi (va_Run.run (va_runS (As := [.int c1, .int 0, .int 2]) (rest := []) ⟨hx, hb, hml, hown, hts⟩ (c_X_isWithin l dC dI c1 0 2) (va_cwS 3 hts gX5_rule_X5_isWithin rfl rfl rfl (by decide +kernel) ⟨Nat.le_of_ble_eq_true rfl, Nat.le_of_ble_eq_true rfl⟩) ⟨PS_blind, PS_pre (hP.sub (ws' := []) [] rfl) hK hF⟩ rfl rfl hl.1 rfl (lv_room (Nat.le_of_ble_eq_true rfl)) dX5_rule_3 ⟨Nat.le_of_ble_eq_true rfl, Nat.le_of_ble_eq_true rfl⟩)) (fun r_1 hr_1 => ?_)
  subst hr_1
  refine lv_if_eq (tgt := 18) hx hb dX5_rule_6 (by decide) (fun c_2 => ?_) (fun c_2 => ?_)
  · skip
    refine lv_bipush (v := (-2)) hx hb dX5_rule_18 (by decide) ?_
    exact W.iret (v := (-2)) hx hb hr (fun t ht hW => ⟨⟨_, (), rfl, (by simp only [sp_X_rule, if_pos c_2]), trivial⟩, hS.F ht⟩) hS.2.2 dX5_rule_20
  · skip
    refine lv_iload_n hx hb dX5_rule_9 rfl (lv_at hl 2 rfl) ?_
    refine lv_iconst (v := 0) hx hb dX5_rule_10 (by decide) ?_
    refine lv_iconst (v := 1) hx hb dX5_rule_11 (by decide) ?_
    refine vp_callSi (va_Run.run (va_runS (As := [.int c2, .int 0, .int 1]) (rest := []) ⟨hx, hb, hml, hown, hts⟩ (c_X_isWithin l dC dI c2 0 1) (va_cwS 3 hts gX5_rule_X5_isWithin rfl rfl rfl (by decide +kernel) ⟨Nat.le_of_ble_eq_true rfl, Nat.le_of_ble_eq_true rfl⟩) ⟨PS_blind, PS_pre (hP.sub (ws' := []) [] rfl) hK hF⟩ rfl rfl hl.1 rfl (lv_room (Nat.le_of_ble_eq_true rfl)) dX5_rule_12 ⟨Nat.le_of_ble_eq_true rfl, Nat.le_of_ble_eq_true rfl⟩)) (fun r_3 hr_3 => ?_)
    subst hr_3
    refine lv_if_ne (tgt := 21) hx hb dX5_rule_15 (by decide) (fun c_4 => ?_) (fun c_4 => ?_)
    · skip
      refine lv_aload_n hx hb dX5_rule_21 rfl (lv_at hl 0 rfl) ?_
      refine lv_iload_n hx hb dX5_rule_22 rfl (lv_at hl 1 rfl) ?_
      refine va_put (D := (dC, dI)) (ci := 10) (v := .int c1) (ty := .int) (C := RX5) (T := TX5) (N := 14) hx hb hts (fun _ h9 => List.mem_cons_of_mem _ (List.mem_append_right _ (h9))) tyX5 tyX5_ok nmX5 hown hK hP hD hS 0 rfl rfl 8 (by decide) (hts (.fieldLink RX5 49 "ExamHalls" "ties" "I") (List.mem_of_getElem? (i := 1) rfl)) (fun _ h9 => h9) rfl (by decide +kernel) rfl rfl (Nat.le_of_ble_eq_true rfl) dX5_rule_23 (fun H locs hP hD hS => ?_)
      have hP : va_P (dC, dI) vwCl [(x, .inr (10, [.ref cd, .int 0, .ref rd, .int 0, .ref tp, .ref fo, .int 10, .ref qu, .int c1, .int 0, .ref sh, .ref vs, .ref pa, .ref pb]))] H := hP
      have hD : va_D A [(x, .inr (10, [.ref cd, .int 0, .ref rd, .int 0, .ref tp, .ref fo, .int 10, .ref qu, .int c1, .int 0, .ref sh, .ref vs, .ref pa, .ref pb]))] := hD
      refine lv_aload_n hx hb dX5_rule_26 rfl (lv_at hl 0 rfl) ?_
      refine lv_iload_n hx hb dX5_rule_27 rfl (lv_at hl 2 rfl) ?_
      refine va_put (D := (dC, dI)) (ci := 10) (v := .int c2) (ty := .int) (C := RX5) (T := TX5) (N := 14) hx hb hts (fun _ h9 => List.mem_cons_of_mem _ (List.mem_append_right _ (h9))) tyX5 tyX5_ok nmX5 hown hK hP hD hS 0 rfl rfl 9 (by decide) (hts (.fieldLink RX5 52 "ExamHalls" "way" "I") (List.mem_of_getElem? (i := 2) rfl)) (fun _ h9 => h9) rfl (by decide +kernel) rfl rfl (Nat.le_of_ble_eq_true rfl) dX5_rule_28 (fun H locs hP hD hS => ?_)
      have hP : va_P (dC, dI) vwCl [(x, .inr (10, [.ref cd, .int 0, .ref rd, .int 0, .ref tp, .ref fo, .int 10, .ref qu, .int c1, .int c2, .ref sh, .ref vs, .ref pa, .ref pb]))] H := hP
      have hD : va_D A [(x, .inr (10, [.ref cd, .int 0, .ref rd, .int 0, .ref tp, .ref fo, .int 10, .ref qu, .int c1, .int c2, .ref sh, .ref vs, .ref pa, .ref pb]))] := hD
      refine lv_iconst (v := 0) hx hb dX5_rule_31 (by decide) ?_
      exact W.iret (v := 0) hx hb hr (fun t ht hW => ⟨⟨_, (), rfl, (by simp only [sp_X_rule, if_neg c_2, if_neg c_4]), trivial⟩, hS.F ht⟩) hS.2.2 dX5_rule_32
    · skip
      refine lv_bipush (v := (-2)) hx hb dX5_rule_18 (by decide) ?_
      exact W.iret (v := (-2)) hx hb hr (fun t ht hW => ⟨⟨_, (), rfl, (by simp only [sp_X_rule, if_neg c_2, if_pos c_4]), trivial⟩, hS.F ht⟩) hS.2.2 dX5_rule_20
