set_option maxRecDepth 20000 in
theorem ggX6_init_Jx4a65c_init_da8c8 : GoodIn wsX6_init wsJx4a65c_init_da8c8 := goodIn_r _ [13, 14, 15, 16, 17, 18, 19, 20, 21, 22, 23, 24, 25, 2, 3, 33, 34, 35, 36, 37, 38, 39, 40] (by decide +kernel) (by decide +kernel)
set_option maxRecDepth 20000 in
theorem gX6_init_Jx4a65c_init_da8c8 : GoodIn wsX6_init (wsJx4a65c_init_da8c8) := ggX6_init_Jx4a65c_init_da8c8
theorem dX6_init_0 : decode cX6_init 0 = .ok (.aload_n 0, 1) := by decide +kernel
theorem dX6_init_1 : decode cX6_init 1 = .ok (.invokespecial 3, 3) := by decide +kernel
theorem dX6_init_4 : decode cX6_init 4 = .ok (.aload_n 0, 1) := by decide +kernel
theorem dX6_init_5 : decode cX6_init 5 = .ok (.iconst (-1), 1) := by decide +kernel
theorem dX6_init_6 : decode cX6_init 6 = .ok (.putfield 9, 3) := by decide +kernel
theorem dX6_init_9 : decode cX6_init 9 = .ok (.aload_n 0, 1) := by decide +kernel
theorem dX6_init_10 : decode cX6_init 10 = .ok (.iconst (-1), 1) := by decide +kernel
theorem dX6_init_11 : decode cX6_init 11 = .ok (.putfield 15, 3) := by decide +kernel
theorem dX6_init_14 : decode cX6_init 14 = .ok (.aload_n 0, 1) := by decide +kernel
theorem dX6_init_15 : decode cX6_init 15 = .ok (.bipush 8, 2) := by decide +kernel
theorem dX6_init_17 : decode cX6_init 17 = .ok (.iconst 4, 1) := by decide +kernel
theorem dX6_init_18 : decode cX6_init 18 = .ok (.iconst 4, 1) := by decide +kernel
theorem dX6_init_19 : decode cX6_init 19 = .ok (.multianewarray 18 3, 4) := by decide +kernel
theorem dX6_init_23 : decode cX6_init 23 = .ok (.putfield 20, 3) := by decide +kernel
theorem dX6_init_26 : decode cX6_init 26 = .ok (.aload_n 0, 1) := by decide +kernel
theorem dX6_init_27 : decode cX6_init 27 = .ok (.new 23, 3) := by decide +kernel
theorem dX6_init_30 : decode cX6_init 30 = .ok (.dup, 1) := by decide +kernel
theorem dX6_init_31 : decode cX6_init 31 = .ok (.invokespecial 25, 3) := by decide +kernel
theorem dX6_init_34 : decode cX6_init 34 = .ok (.putfield 26, 3) := by decide +kernel
theorem dX6_init_37 : decode cX6_init 37 = .ok (.return_, 1) := by decide +kernel
theorem dX7_init_0 : decode cX7_init 0 = .ok (.aload_n 0, 1) := by decide +kernel
theorem dX7_init_1 : decode cX7_init 1 = .ok (.invokespecial 1, 3) := by decide +kernel
theorem dX7_init_4 : decode cX7_init 4 = .ok (.return_, 1) := by decide +kernel
set_option maxRecDepth 20000 in
theorem ggX9_init_Jx4a65c_init_da8c8 : GoodIn wsX9_init wsJx4a65c_init_da8c8 := goodIn_r _ [25, 26, 27, 28, 29, 30, 31, 32, 33, 34, 35, 36, 37, 2, 3, 38, 39, 40, 54, 55, 56, 57, 58] (by decide +kernel) (by decide +kernel)
set_option maxRecDepth 20000 in
theorem gX9_init_Jx4a65c_init_da8c8 : GoodIn wsX9_init (wsJx4a65c_init_da8c8) := ggX9_init_Jx4a65c_init_da8c8
theorem dX9_init_0 : decode cX9_init 0 = .ok (.aload_n 0, 1) := by decide +kernel
theorem dX9_init_1 : decode cX9_init 1 = .ok (.invokespecial 1, 3) := by decide +kernel
theorem dX9_init_4 : decode cX9_init 4 = .ok (.aload_n 0, 1) := by decide +kernel
theorem dX9_init_5 : decode cX9_init 5 = .ok (.new 7, 3) := by decide +kernel
theorem dX9_init_8 : decode cX9_init 8 = .ok (.dup, 1) := by decide +kernel
theorem dX9_init_9 : decode cX9_init 9 = .ok (.invokespecial 9, 3) := by decide +kernel
theorem dX9_init_12 : decode cX9_init 12 = .ok (.putfield 10, 3) := by decide +kernel
theorem dX9_init_15 : decode cX9_init 15 = .ok (.aload_n 0, 1) := by decide +kernel
theorem dX9_init_16 : decode cX9_init 16 = .ok (.new 7, 3) := by decide +kernel
theorem dX9_init_19 : decode cX9_init 19 = .ok (.dup, 1) := by decide +kernel
theorem dX9_init_20 : decode cX9_init 20 = .ok (.invokespecial 9, 3) := by decide +kernel
theorem dX9_init_23 : decode cX9_init 23 = .ok (.putfield 16, 3) := by decide +kernel
theorem dX9_init_26 : decode cX9_init 26 = .ok (.aload_n 0, 1) := by decide +kernel
theorem dX9_init_27 : decode cX9_init 27 = .ok (.bipush 24, 2) := by decide +kernel
theorem dX9_init_29 : decode cX9_init 29 = .ok (.bipush 24, 2) := by decide +kernel
theorem dX9_init_31 : decode cX9_init 31 = .ok (.multianewarray 19 2, 4) := by decide +kernel
theorem dX9_init_35 : decode cX9_init 35 = .ok (.putfield 21, 3) := by decide +kernel
theorem dX9_init_38 : decode cX9_init 38 = .ok (.aload_n 0, 1) := by decide +kernel
theorem dX9_init_39 : decode cX9_init 39 = .ok (.new 7, 3) := by decide +kernel
theorem dX9_init_42 : decode cX9_init 42 = .ok (.dup, 1) := by decide +kernel
theorem dX9_init_43 : decode cX9_init 43 = .ok (.invokespecial 9, 3) := by decide +kernel
theorem dX9_init_46 : decode cX9_init 46 = .ok (.putfield 24, 3) := by decide +kernel
theorem dX9_init_49 : decode cX9_init 49 = .ok (.aload_n 0, 1) := by decide +kernel
theorem dX9_init_50 : decode cX9_init 50 = .ok (.bipush 8, 2) := by decide +kernel
theorem dX9_init_52 : decode cX9_init 52 = .ok (.newarray .int, 2) := by decide +kernel
theorem dX9_init_54 : decode cX9_init 54 = .ok (.putfield 27, 3) := by decide +kernel
theorem dX9_init_57 : decode cX9_init 57 = .ok (.aload_n 0, 1) := by decide +kernel
theorem dX9_init_58 : decode cX9_init 58 = .ok (.bipush 8, 2) := by decide +kernel
theorem dX9_init_60 : decode cX9_init 60 = .ok (.newarray .int, 2) := by decide +kernel
theorem dX9_init_62 : decode cX9_init 62 = .ok (.putfield 31, 3) := by decide +kernel
theorem dX9_init_65 : decode cX9_init 65 = .ok (.aload_n 0, 1) := by decide +kernel
theorem dX9_init_66 : decode cX9_init 66 = .ok (.new 7, 3) := by decide +kernel
theorem dX9_init_69 : decode cX9_init 69 = .ok (.dup, 1) := by decide +kernel
theorem dX9_init_70 : decode cX9_init 70 = .ok (.invokespecial 9, 3) := by decide +kernel
theorem dX9_init_73 : decode cX9_init 73 = .ok (.putfield 34, 3) := by decide +kernel
theorem dX9_init_76 : decode cX9_init 76 = .ok (.aload_n 0, 1) := by decide +kernel
theorem dX9_init_77 : decode cX9_init 77 = .ok (.new 7, 3) := by decide +kernel
theorem dX9_init_80 : decode cX9_init 80 = .ok (.dup, 1) := by decide +kernel
theorem dX9_init_81 : decode cX9_init 81 = .ok (.invokespecial 9, 3) := by decide +kernel
theorem dX9_init_84 : decode cX9_init 84 = .ok (.putfield 37, 3) := by decide +kernel
theorem dX9_init_87 : decode cX9_init 87 = .ok (.aload_n 0, 1) := by decide +kernel
theorem dX9_init_88 : decode cX9_init 88 = .ok (.iconst 4, 1) := by decide +kernel
theorem dX9_init_89 : decode cX9_init 89 = .ok (.newarray .int, 2) := by decide +kernel
theorem dX9_init_91 : decode cX9_init 91 = .ok (.putfield 40, 3) := by decide +kernel
theorem dX9_init_94 : decode cX9_init 94 = .ok (.aload_n 0, 1) := by decide +kernel
theorem dX9_init_95 : decode cX9_init 95 = .ok (.iconst 1, 1) := by decide +kernel
theorem dX9_init_96 : decode cX9_init 96 = .ok (.putfield 43, 3) := by decide +kernel
theorem dX9_init_99 : decode cX9_init 99 = .ok (.aload_n 0, 1) := by decide +kernel
theorem dX9_init_100 : decode cX9_init 100 = .ok (.bipush 10, 2) := by decide +kernel
theorem dX9_init_102 : decode cX9_init 102 = .ok (.putfield 47, 3) := by decide +kernel
theorem dX9_init_105 : decode cX9_init 105 = .ok (.aload_n 0, 1) := by decide +kernel
theorem dX9_init_106 : decode cX9_init 106 = .ok (.iconst 0, 1) := by decide +kernel
theorem dX9_init_107 : decode cX9_init 107 = .ok (.putfield 50, 3) := by decide +kernel
theorem dX9_init_110 : decode cX9_init 110 = .ok (.aload_n 0, 1) := by decide +kernel
theorem dX9_init_111 : decode cX9_init 111 = .ok (.iconst 0, 1) := by decide +kernel
theorem dX9_init_112 : decode cX9_init 112 = .ok (.putfield 53, 3) := by decide +kernel
theorem dX9_init_115 : decode cX9_init 115 = .ok (.iconst 0, 1) := by decide +kernel
theorem dX9_init_116 : decode cX9_init 116 = .ok (.istore_n 1, 1) := by decide +kernel
theorem dX9_init_117 : decode cX9_init 117 = .ok (.iload_n 1, 1) := by decide +kernel
theorem dX9_init_118 : decode cX9_init 118 = .ok (.bipush 8, 2) := by decide +kernel
theorem dX9_init_120 : decode cX9_init 120 = .ok (.if_icmp .ge 24, 3) := by decide +kernel
theorem dX9_init_123 : decode cX9_init 123 = .ok (.aload_n 0, 1) := by decide +kernel
theorem dX9_init_124 : decode cX9_init 124 = .ok (.getfield 27, 3) := by decide +kernel
theorem dX9_init_127 : decode cX9_init 127 = .ok (.iload_n 1, 1) := by decide +kernel
theorem dX9_init_128 : decode cX9_init 128 = .ok (.iconst 1, 1) := by decide +kernel
theorem dX9_init_129 : decode cX9_init 129 = .ok (.iastore, 1) := by decide +kernel
theorem dX9_init_130 : decode cX9_init 130 = .ok (.aload_n 0, 1) := by decide +kernel
theorem dX9_init_131 : decode cX9_init 131 = .ok (.getfield 31, 3) := by decide +kernel
theorem dX9_init_134 : decode cX9_init 134 = .ok (.iload_n 1, 1) := by decide +kernel
theorem dX9_init_135 : decode cX9_init 135 = .ok (.bipush 12, 2) := by decide +kernel
theorem dX9_init_137 : decode cX9_init 137 = .ok (.iastore, 1) := by decide +kernel
theorem dX9_init_138 : decode cX9_init 138 = .ok (.iinc 1 1, 3) := by decide +kernel
theorem dX9_init_141 : decode cX9_init 141 = .ok (.goto (-24), 3) := by decide +kernel
theorem dX9_init_144 : decode cX9_init 144 = .ok (.return_, 1) := by decide +kernel
theorem dX9_form_0 : decode cX9_form 0 = .ok (.iload_n 1, 1) := by decide +kernel
theorem dX9_form_1 : decode cX9_form 1 = .ok (.iconst 1, 1) := by decide +kernel
theorem dX9_form_2 : decode cX9_form 2 = .ok (.if_icmp .lt 9, 3) := by decide +kernel
theorem dX9_form_5 : decode cX9_form 5 = .ok (.iload_n 1, 1) := by decide +kernel
theorem dX9_form_6 : decode cX9_form 6 = .ok (.bipush 8, 2) := by decide +kernel
theorem dX9_form_8 : decode cX9_form 8 = .ok (.if_icmp .le 6, 3) := by decide +kernel
theorem dX9_form_11 : decode cX9_form 11 = .ok (.bipush (-2), 2) := by decide +kernel
theorem dX9_form_13 : decode cX9_form 13 = .ok (.ireturn, 1) := by decide +kernel
theorem dX9_form_14 : decode cX9_form 14 = .ok (.aload_n 0, 1) := by decide +kernel
theorem dX9_form_15 : decode cX9_form 15 = .ok (.getfield 43, 3) := by decide +kernel
theorem dX9_form_18 : decode cX9_form 18 = .ok (.istore_n 2, 1) := by decide +kernel
theorem dX9_form_19 : decode cX9_form 19 = .ok (.aload_n 0, 1) := by decide +kernel
theorem dX9_form_20 : decode cX9_form 20 = .ok (.iload_n 1, 1) := by decide +kernel
theorem dX9_form_21 : decode cX9_form 21 = .ok (.putfield 43, 3) := by decide +kernel
theorem dX9_form_24 : decode cX9_form 24 = .ok (.iload_n 2, 1) := by decide +kernel
theorem dX9_form_25 : decode cX9_form 25 = .ok (.ireturn, 1) := by decide +kernel
set_option maxRecDepth 20000 in
theorem ggX9_measure_X9_isLeg : GoodIn wsX9_measure wsX9_isLeg := goodIn_r _ [6] (by decide +kernel) (by decide +kernel)
set_option maxRecDepth 20000 in
theorem gX9_measure_X9_isLeg : GoodIn wsX9_measure (va_wsS RX9 148 yX9_isLeg wsX9_isLeg) := goodIn_app (goodIn_of _ (by decide +kernel)) ggX9_measure_X9_isLeg
theorem dX9_measure_0 : decode cX9_measure 0 = .ok (.iload_n 1, 1) := by decide +kernel
theorem dX9_measure_1 : decode cX9_measure 1 = .ok (.invokestatic 148, 3) := by decide +kernel
theorem dX9_measure_4 : decode cX9_measure 4 = .ok (.ifCond .ne 5, 3) := by decide +kernel
theorem dX9_measure_7 : decode cX9_measure 7 = .ok (.iconst (-1), 1) := by decide +kernel
theorem dX9_measure_8 : decode cX9_measure 8 = .ok (.ireturn, 1) := by decide +kernel
theorem dX9_measure_9 : decode cX9_measure 9 = .ok (.iload_n 2, 1) := by decide +kernel
theorem dX9_measure_10 : decode cX9_measure 10 = .ok (.iconst 1, 1) := by decide +kernel
theorem dX9_measure_11 : decode cX9_measure 11 = .ok (.if_icmp .lt 25, 3) := by decide +kernel
theorem dX9_measure_14 : decode cX9_measure 14 = .ok (.iload_n 2, 1) := by decide +kernel
theorem dX9_measure_15 : decode cX9_measure 15 = .ok (.bipush 12, 2) := by decide +kernel
theorem dX9_measure_17 : decode cX9_measure 17 = .ok (.if_icmp .gt 19, 3) := by decide +kernel
theorem dX9_measure_20 : decode cX9_measure 20 = .ok (.iload_n 3, 1) := by decide +kernel
theorem dX9_measure_21 : decode cX9_measure 21 = .ok (.iconst 1, 1) := by decide +kernel
theorem dX9_measure_22 : decode cX9_measure 22 = .ok (.if_icmp .lt 14, 3) := by decide +kernel
theorem dX9_measure_25 : decode cX9_measure 25 = .ok (.iload_n 3, 1) := by decide +kernel
theorem dX9_measure_26 : decode cX9_measure 26 = .ok (.bipush 12, 2) := by decide +kernel
theorem dX9_measure_28 : decode cX9_measure 28 = .ok (.if_icmp .gt 8, 3) := by decide +kernel
theorem dX9_measure_31 : decode cX9_measure 31 = .ok (.iload_n 2, 1) := by decide +kernel
theorem dX9_measure_32 : decode cX9_measure 32 = .ok (.iload_n 3, 1) := by decide +kernel
theorem dX9_measure_33 : decode cX9_measure 33 = .ok (.if_icmp .le 6, 3) := by decide +kernel
theorem dX9_measure_36 : decode cX9_measure 36 = .ok (.bipush (-2), 2) := by decide +kernel
theorem dX9_measure_38 : decode cX9_measure 38 = .ok (.ireturn, 1) := by decide +kernel
theorem dX9_measure_39 : decode cX9_measure 39 = .ok (.aload_n 0, 1) := by decide +kernel
theorem dX9_measure_40 : decode cX9_measure 40 = .ok (.getfield 27, 3) := by decide +kernel
theorem dX9_measure_43 : decode cX9_measure 43 = .ok (.iload_n 1, 1) := by decide +kernel
theorem dX9_measure_44 : decode cX9_measure 44 = .ok (.iload_n 2, 1) := by decide +kernel
theorem dX9_measure_45 : decode cX9_measure 45 = .ok (.iastore, 1) := by decide +kernel
theorem dX9_measure_46 : decode cX9_measure 46 = .ok (.aload_n 0, 1) := by decide +kernel
theorem dX9_measure_47 : decode cX9_measure 47 = .ok (.getfield 31, 3) := by decide +kernel
theorem dX9_measure_50 : decode cX9_measure 50 = .ok (.iload_n 1, 1) := by decide +kernel
theorem dX9_measure_51 : decode cX9_measure 51 = .ok (.iload_n 3, 1) := by decide +kernel
theorem dX9_measure_52 : decode cX9_measure 52 = .ok (.iastore, 1) := by decide +kernel
theorem dX9_measure_53 : decode cX9_measure 53 = .ok (.iconst 0, 1) := by decide +kernel
theorem dX9_measure_54 : decode cX9_measure 54 = .ok (.ireturn, 1) := by decide +kernel
theorem dX9_apart_0 : decode cX9_apart 0 = .ok (.iload_n 1, 1) := by decide +kernel
theorem dX9_apart_1 : decode cX9_apart 1 = .ok (.ifCond .lt 9, 3) := by decide +kernel
theorem dX9_apart_4 : decode cX9_apart 4 = .ok (.iload_n 1, 1) := by decide +kernel
theorem dX9_apart_5 : decode cX9_apart 5 = .ok (.bipush 99, 2) := by decide +kernel
theorem dX9_apart_7 : decode cX9_apart 7 = .ok (.if_icmp .le 6, 3) := by decide +kernel
theorem dX9_apart_10 : decode cX9_apart 10 = .ok (.bipush (-2), 2) := by decide +kernel
theorem dX9_apart_12 : decode cX9_apart 12 = .ok (.ireturn, 1) := by decide +kernel
theorem dX9_apart_13 : decode cX9_apart 13 = .ok (.aload_n 0, 1) := by decide +kernel
theorem dX9_apart_14 : decode cX9_apart 14 = .ok (.getfield 47, 3) := by decide +kernel
theorem dX9_apart_17 : decode cX9_apart 17 = .ok (.istore_n 2, 1) := by decide +kernel
theorem dX9_apart_18 : decode cX9_apart 18 = .ok (.aload_n 0, 1) := by decide +kernel
theorem dX9_apart_19 : decode cX9_apart 19 = .ok (.iload_n 1, 1) := by decide +kernel
theorem dX9_apart_20 : decode cX9_apart 20 = .ok (.putfield 47, 3) := by decide +kernel
theorem dX9_apart_23 : decode cX9_apart 23 = .ok (.iload_n 2, 1) := by decide +kernel
theorem dX9_apart_24 : decode cX9_apart 24 = .ok (.ireturn, 1) := by decide +kernel
set_option maxRecDepth 20000 in
theorem ggX9_quota_X9_isProvince : GoodIn wsX9_quota wsX9_isProvince := goodIn_r _ [5] (by decide +kernel) (by decide +kernel)
set_option maxRecDepth 20000 in
theorem gX9_quota_X9_isProvince : GoodIn wsX9_quota (va_wsS RX9 62 yX9_isProvince wsX9_isProvince) := goodIn_app (goodIn_of _ (by decide +kernel)) ggX9_quota_X9_isProvince
theorem dX9_quota_0 : decode cX9_quota 0 = .ok (.iload_n 1, 1) := by decide +kernel
theorem dX9_quota_1 : decode cX9_quota 1 = .ok (.invokestatic 62, 3) := by decide +kernel
theorem dX9_quota_4 : decode cX9_quota 4 = .ok (.ifCond .ne 5, 3) := by decide +kernel
theorem dX9_quota_7 : decode cX9_quota 7 = .ok (.iconst (-1), 1) := by decide +kernel
theorem dX9_quota_8 : decode cX9_quota 8 = .ok (.ireturn, 1) := by decide +kernel
theorem dX9_quota_9 : decode cX9_quota 9 = .ok (.iload_n 2, 1) := by decide +kernel
theorem dX9_quota_10 : decode cX9_quota 10 = .ok (.ifCond .lt 9, 3) := by decide +kernel
theorem dX9_quota_13 : decode cX9_quota 13 = .ok (.iload_n 2, 1) := by decide +kernel
theorem dX9_quota_14 : decode cX9_quota 14 = .ok (.bipush 24, 2) := by decide +kernel
theorem dX9_quota_16 : decode cX9_quota 16 = .ok (.if_icmp .le 6, 3) := by decide +kernel
theorem dX9_quota_19 : decode cX9_quota 19 = .ok (.bipush (-2), 2) := by decide +kernel
theorem dX9_quota_21 : decode cX9_quota 21 = .ok (.ireturn, 1) := by decide +kernel
theorem dX9_quota_22 : decode cX9_quota 22 = .ok (.aload_n 0, 1) := by decide +kernel
theorem dX9_quota_23 : decode cX9_quota 23 = .ok (.getfield 40, 3) := by decide +kernel
theorem dX9_quota_26 : decode cX9_quota 26 = .ok (.iload_n 1, 1) := by decide +kernel
theorem dX9_quota_27 : decode cX9_quota 27 = .ok (.iaload, 1) := by decide +kernel
theorem dX9_quota_28 : decode cX9_quota 28 = .ok (.istore_n 3, 1) := by decide +kernel
theorem dX9_quota_29 : decode cX9_quota 29 = .ok (.aload_n 0, 1) := by decide +kernel
theorem dX9_quota_30 : decode cX9_quota 30 = .ok (.getfield 40, 3) := by decide +kernel
theorem dX9_quota_33 : decode cX9_quota 33 = .ok (.iload_n 1, 1) := by decide +kernel
theorem dX9_quota_34 : decode cX9_quota 34 = .ok (.iload_n 2, 1) := by decide +kernel
theorem dX9_quota_35 : decode cX9_quota 35 = .ok (.iastore, 1) := by decide +kernel
theorem dX9_quota_36 : decode cX9_quota 36 = .ok (.iload_n 3, 1) := by decide +kernel
theorem dX9_quota_37 : decode cX9_quota 37 = .ok (.ireturn, 1) := by decide +kernel
theorem dX9_rule_0 : decode cX9_rule 0 = .ok (.iload_n 1, 1) := by decide +kernel
theorem dX9_rule_1 : decode cX9_rule 1 = .ok (.ifCond .lt 17, 3) := by decide +kernel
theorem dX9_rule_4 : decode cX9_rule 4 = .ok (.iload_n 1, 1) := by decide +kernel
theorem dX9_rule_5 : decode cX9_rule 5 = .ok (.iconst 2, 1) := by decide +kernel
theorem dX9_rule_6 : decode cX9_rule 6 = .ok (.if_icmp .gt 12, 3) := by decide +kernel
theorem dX9_rule_9 : decode cX9_rule 9 = .ok (.iload_n 2, 1) := by decide +kernel
theorem dX9_rule_10 : decode cX9_rule 10 = .ok (.ifCond .lt 8, 3) := by decide +kernel
theorem dX9_rule_13 : decode cX9_rule 13 = .ok (.iload_n 2, 1) := by decide +kernel
theorem dX9_rule_14 : decode cX9_rule 14 = .ok (.iconst 1, 1) := by decide +kernel
theorem dX9_rule_15 : decode cX9_rule 15 = .ok (.if_icmp .le 6, 3) := by decide +kernel
theorem dX9_rule_18 : decode cX9_rule 18 = .ok (.bipush (-2), 2) := by decide +kernel
theorem dX9_rule_20 : decode cX9_rule 20 = .ok (.ireturn, 1) := by decide +kernel
theorem dX9_rule_21 : decode cX9_rule 21 = .ok (.aload_n 0, 1) := by decide +kernel
theorem dX9_rule_22 : decode cX9_rule 22 = .ok (.iload_n 1, 1) := by decide +kernel
theorem dX9_rule_23 : decode cX9_rule 23 = .ok (.putfield 50, 3) := by decide +kernel
theorem dX9_rule_26 : decode cX9_rule 26 = .ok (.aload_n 0, 1) := by decide +kernel
theorem dX9_rule_27 : decode cX9_rule 27 = .ok (.iload_n 2, 1) := by decide +kernel
theorem dX9_rule_28 : decode cX9_rule 28 = .ok (.putfield 53, 3) := by decide +kernel
theorem dX9_rule_31 : decode cX9_rule 31 = .ok (.iconst 0, 1) := by decide +kernel
theorem dX9_rule_32 : decode cX9_rule 32 = .ok (.ireturn, 1) := by decide +kernel
set_option maxRecDepth 20000 in
theorem ggX9_allPassing_Jx4a65c_size_8abf5 : GoodIn wsX9_allPassing wsJx4a65c_size_8abf5 := goodIn_r _ [22, 23, 169, 170, 171] (by decide +kernel) (by decide +kernel)
set_option maxRecDepth 20000 in
theorem gX9_allPassing_Jx4a65c_size_8abf5_f56Jx4a65c : GoodIn wsX9_allPassing (va_wsF RX9 56 RJx4a65c ⟨"java/util/List", "size", "()I"⟩ yJx4a65c_size_8abf5 wsJx4a65c_size_8abf5) := goodIn_app (goodIn_of _ (by decide +kernel)) ggX9_allPassing_Jx4a65c_size_8abf5
theorem dX9_allPassing_0 : decode cX9_allPassing 0 = .ok (.aload_n 0, 1) := by decide +kernel
theorem dX9_allPassing_1 : decode cX9_allPassing 1 = .ok (.getfield 10, 3) := by decide +kernel
theorem dX9_allPassing_4 : decode cX9_allPassing 4 = .ok (.invokeinterface 56 1, 5) := by decide +kernel
theorem dX9_allPassing_9 : decode cX9_allPassing 9 = .ok (.newarray .boolean, 2) := by decide +kernel
theorem dX9_allPassing_11 : decode cX9_allPassing 11 = .ok (.astore_n 1, 1) := by decide +kernel
theorem dX9_allPassing_12 : decode cX9_allPassing 12 = .ok (.iconst 0, 1) := by decide +kernel
theorem dX9_allPassing_13 : decode cX9_allPassing 13 = .ok (.istore_n 2, 1) := by decide +kernel
theorem dX9_allPassing_14 : decode cX9_allPassing 14 = .ok (.iload_n 2, 1) := by decide +kernel
theorem dX9_allPassing_15 : decode cX9_allPassing 15 = .ok (.aload_n 1, 1) := by decide +kernel
theorem dX9_allPassing_16 : decode cX9_allPassing 16 = .ok (.arraylength, 1) := by decide +kernel
theorem dX9_allPassing_17 : decode cX9_allPassing 17 = .ok (.if_icmp .ge 29, 3) := by decide +kernel
theorem dX9_allPassing_46 : decode cX9_allPassing 46 = .ok (.aload_n 1, 1) := by decide +kernel
theorem dX9_allPassing_47 : decode cX9_allPassing 47 = .ok (.areturn, 1) := by decide +kernel
set_option maxRecDepth 20000 in
theorem ggX9_passed_X9_isProvince : GoodIn wsX9_passed wsX9_isProvince := goodIn_r _ [7] (by decide +kernel) (by decide +kernel)
set_option maxRecDepth 20000 in
theorem gX9_passed_X9_isProvince : GoodIn wsX9_passed (va_wsS RX9 62 yX9_isProvince wsX9_isProvince) := goodIn_app (goodIn_of _ (by decide +kernel)) ggX9_passed_X9_isProvince
set_option maxRecDepth 20000 in
theorem ggX9_passed_X9_allPassing : GoodIn wsX9_passed wsX9_allPassing := goodIn_r _ [11, 1, 12, 2, 13, 14, 15, 16, 17, 18, 19, 20, 21, 22, 23, 24, 25, 26, 27, 28, 29, 30, 31, 32, 33, 34, 35, 36, 37, 38, 39, 40, 41, 42, 43, 44, 45, 46, 47, 48, 49, 50, 51, 52, 53, 54, 55, 56, 57, 58, 6, 59, 60, 3, 61, 62, 63, 64, 65, 66, 67, 68, 69, 70, 71, 72, 73, 74, 75, 76, 77, 78, 79, 80, 81, 82, 83, 84, 85, 86, 87, 88, 89, 90, 91, 92, 93, 94, 95, 96, 97, 98, 99, 100, 101, 102, 103, 104, 105, 106, 107, 108, 109, 110, 111, 112, 113, 114, 115, 116, 117, 118, 119, 120, 121, 122, 123, 124, 125, 126, 127, 128, 129, 130, 131, 132, 133, 134, 135, 136, 137, 138, 139, 140, 141, 142, 143, 144, 145, 146, 147, 148, 149, 150, 151, 152, 153, 154, 155, 156, 157, 158, 159, 160, 161, 162, 163, 164, 165, 166, 167, 168, 169, 170, 178, 179, 180, 181, 182, 183, 184, 185, 171, 172, 173, 174, 175, 176, 177, 186, 187, 188, 189, 190, 191] (by decide +kernel) (by decide +kernel)
set_option maxRecDepth 20000 in
theorem gX9_passed_X9_allPassing : GoodIn wsX9_passed (wsV RX9 299 RX9 yX9_allPassing wsX9_allPassing) := goodIn_app (goodIn_of _ (by decide +kernel)) ggX9_passed_X9_allPassing
theorem dX9_passed_0 : decode cX9_passed 0 = .ok (.iload_n 1, 1) := by decide +kernel
theorem dX9_passed_1 : decode cX9_passed 1 = .ok (.invokestatic 62, 3) := by decide +kernel
theorem dX9_passed_4 : decode cX9_passed 4 = .ok (.ifCond .ne 5, 3) := by decide +kernel
theorem dX9_passed_7 : decode cX9_passed 7 = .ok (.iconst (-1), 1) := by decide +kernel
theorem dX9_passed_8 : decode cX9_passed 8 = .ok (.ireturn, 1) := by decide +kernel
theorem dX9_passed_9 : decode cX9_passed 9 = .ok (.aload_n 0, 1) := by decide +kernel
theorem dX9_passed_10 : decode cX9_passed 10 = .ok (.invokevirtual 299, 3) := by decide +kernel
theorem dX9_passed_13 : decode cX9_passed 13 = .ok (.astore_n 2, 1) := by decide +kernel
theorem dX9_passed_14 : decode cX9_passed 14 = .ok (.iconst 0, 1) := by decide +kernel
theorem dX9_passed_15 : decode cX9_passed 15 = .ok (.istore_n 3, 1) := by decide +kernel
theorem dX9_passed_16 : decode cX9_passed 16 = .ok (.iconst 0, 1) := by decide +kernel
theorem dX9_passed_17 : decode cX9_passed 17 = .ok (.istore 4, 2) := by decide +kernel
theorem dX9_passed_19 : decode cX9_passed 19 = .ok (.iload 4, 2) := by decide +kernel
theorem dX9_passed_21 : decode cX9_passed 21 = .ok (.aload_n 2, 1) := by decide +kernel
theorem dX9_passed_22 : decode cX9_passed 22 = .ok (.arraylength, 1) := by decide +kernel
theorem dX9_passed_23 : decode cX9_passed 23 = .ok (.if_icmp .ge 40, 3) := by decide +kernel
theorem dX9_passed_63 : decode cX9_passed 63 = .ok (.iload_n 3, 1) := by decide +kernel
theorem dX9_passed_64 : decode cX9_passed 64 = .ok (.ireturn, 1) := by decide +kernel
set_option maxRecDepth 20000 in
theorem ggX9_countPassing_X9_allPassing : GoodIn wsX9_countPassing wsX9_allPassing := goodIn_r _ [5, 6, 7, 8, 9, 10, 11, 12, 13, 14, 15, 16, 17, 18, 19, 20, 21, 22, 23, 24, 25, 26, 27, 28, 29, 30, 31, 32, 33, 34, 35, 36, 37, 38, 39, 40, 41, 42, 43, 44, 45, 46, 47, 48, 49, 50, 51, 52, 53, 54, 4, 55, 56, 57, 58, 59, 60, 61, 62, 63, 64, 65, 66, 67, 68, 69, 70, 71, 72, 73, 74, 75, 76, 77, 78, 79, 80, 81, 82, 83, 84, 85, 86, 87, 88, 89, 90, 91, 92, 93, 94, 95, 96, 97, 98, 99, 100, 101, 102, 103, 104, 105, 106, 107, 108, 109, 110, 111, 112, 113, 114, 115, 116, 117, 118, 119, 120, 121, 122, 123, 124, 125, 126, 127, 128, 129, 130, 131, 132, 133, 134, 135, 136, 137, 138, 139, 140, 141, 142, 143, 144, 145, 146, 147, 148, 149, 150, 151, 152, 153, 154, 155, 156, 157, 158, 159, 160, 161, 162, 163, 164, 165, 166, 167, 168, 169, 170, 171, 172, 173, 174, 175, 176, 177, 178, 179, 180, 181, 182, 183, 184, 185, 186, 187, 188] (by decide +kernel) (by decide +kernel)
set_option maxRecDepth 20000 in
theorem gX9_countPassing_X9_allPassing : GoodIn wsX9_countPassing (wsV RX9 299 RX9 yX9_allPassing wsX9_allPassing) := goodIn_app (goodIn_of _ (by decide +kernel)) ggX9_countPassing_X9_allPassing
theorem dX9_countPassing_0 : decode cX9_countPassing 0 = .ok (.aload_n 0, 1) := by decide +kernel
theorem dX9_countPassing_1 : decode cX9_countPassing 1 = .ok (.invokevirtual 299, 3) := by decide +kernel
theorem dX9_countPassing_4 : decode cX9_countPassing 4 = .ok (.astore_n 1, 1) := by decide +kernel
theorem dX9_countPassing_5 : decode cX9_countPassing 5 = .ok (.iconst 0, 1) := by decide +kernel
theorem dX9_countPassing_6 : decode cX9_countPassing 6 = .ok (.istore_n 2, 1) := by decide +kernel
theorem dX9_countPassing_7 : decode cX9_countPassing 7 = .ok (.iconst 0, 1) := by decide +kernel
theorem dX9_countPassing_8 : decode cX9_countPassing 8 = .ok (.istore_n 3, 1) := by decide +kernel
theorem dX9_countPassing_9 : decode cX9_countPassing 9 = .ok (.iload_n 3, 1) := by decide +kernel
theorem dX9_countPassing_10 : decode cX9_countPassing 10 = .ok (.aload_n 1, 1) := by decide +kernel
theorem dX9_countPassing_11 : decode cX9_countPassing 11 = .ok (.arraylength, 1) := by decide +kernel
theorem dX9_countPassing_12 : decode cX9_countPassing 12 = .ok (.if_icmp .ge 18, 3) := by decide +kernel
theorem dX9_countPassing_30 : decode cX9_countPassing 30 = .ok (.iload_n 2, 1) := by decide +kernel
theorem dX9_countPassing_31 : decode cX9_countPassing 31 = .ok (.ireturn, 1) := by decide +kernel
set_option maxRecDepth 20000 in
theorem ggX9_count_Jx4a65c_size_8abf5 : GoodIn wsX9_count wsJx4a65c_size_8abf5 := goodIn_r _ [24, 25, 187, 188, 189] (by decide +kernel) (by decide +kernel)
set_option maxRecDepth 20000 in
theorem gX9_count_Jx4a65c_size_8abf5_f56Jx4a65c : GoodIn wsX9_count (va_wsF RX9 56 RJx4a65c ⟨"java/util/List", "size", "()I"⟩ yJx4a65c_size_8abf5 wsJx4a65c_size_8abf5) := goodIn_app (goodIn_of _ (by decide +kernel)) ggX9_count_Jx4a65c_size_8abf5
set_option maxRecDepth 20000 in
theorem ggX9_count_X9_countCandidates : GoodIn wsX9_count wsX9_countCandidates := goodIn_r _ [30, 1, 31, 32, 33, 6, 7, 8, 9, 10, 11, 12, 13, 14, 15, 16, 17, 18, 19, 20, 21, 22, 23, 24, 25, 34, 35, 36, 37, 38, 39, 40, 41, 42, 43, 44, 45, 46, 47, 48, 49, 50, 51, 52, 53, 54, 55, 56, 169, 170, 171, 172, 173, 174, 175, 176, 177, 178, 179, 180, 181, 190, 191, 192, 193, 194, 195, 196, 182, 183, 184, 185, 186, 187, 188, 189] (by decide +kernel) (by decide +kernel)
set_option maxRecDepth 20000 in
theorem gX9_count_X9_countCandidates : GoodIn wsX9_count (wsV RX9 309 RX9 yX9_countCandidates wsX9_countCandidates) := goodIn_app (goodIn_of _ (by decide +kernel)) ggX9_count_X9_countCandidates
set_option maxRecDepth 20000 in
theorem ggX9_count_X9_countMarks : GoodIn wsX9_count wsX9_countMarks := goodIn_r _ [60, 1, 31, 61, 62, 63, 6, 7, 8, 9, 10, 11, 12, 13, 14, 15, 16, 17, 18, 19, 20, 21, 22, 23, 24, 25, 34, 35, 36, 37, 38, 39, 40, 41, 42, 43, 44, 45, 46, 47, 48, 49, 50, 51, 52, 53, 54, 55, 56, 169, 170, 171, 172, 173, 174, 175, 176, 177, 178, 179, 180, 181, 190, 191, 192, 193, 194, 195, 196, 197, 198, 182, 183, 184, 185, 186, 187, 188, 189] (by decide +kernel) (by decide +kernel)
set_option maxRecDepth 20000 in
theorem gX9_count_X9_countMarks : GoodIn wsX9_count (wsV RX9 313 RX9 yX9_countMarks wsX9_countMarks) := goodIn_app (goodIn_of _ (by decide +kernel)) ggX9_count_X9_countMarks
set_option maxRecDepth 20000 in
theorem ggX9_count_X9_countPassing : GoodIn wsX9_count wsX9_countPassing := goodIn_r _ [67, 68, 69, 70, 29, 71, 1, 72, 31, 6, 7, 8, 9, 10, 11, 12, 13, 14, 15, 16, 17, 18, 19, 20, 21, 22, 23, 24, 25, 34, 35, 36, 37, 38, 39, 40, 41, 42, 43, 44, 45, 46, 47, 48, 49, 50, 51, 52, 53, 54, 55, 56, 73, 74, 75, 76, 77, 78, 79, 80, 81, 82, 83, 32, 33, 84, 85, 86, 87, 88, 89, 90, 91, 3, 92, 93, 94, 95, 96, 97, 98, 99, 100, 101, 102, 103, 104, 105, 106, 107, 108, 109, 110, 111, 112, 4, 113, 114, 115, 116, 117, 118, 119, 120, 121, 122, 123, 124, 125, 63, 126, 127, 128, 129, 61, 62, 130, 131, 132, 133, 134, 135, 136, 137, 138, 139, 140, 141, 142, 143, 144, 145, 146, 147, 148, 149, 150, 151, 152, 153, 154, 155, 156, 157, 158, 159, 160, 161, 162, 163, 164, 165, 166, 167, 168, 169, 170, 171, 172, 173, 174, 175, 176, 177, 178, 179, 180, 181, 182, 183, 184, 185, 186, 187, 188, 189, 190, 191, 192, 193, 194, 195, 196, 199, 200, 201, 202, 197, 198] (by decide +kernel) (by decide +kernel)
set_option maxRecDepth 20000 in
theorem gX9_count_X9_countPassing : GoodIn wsX9_count (wsV RX9 316 RX9 yX9_countPassing wsX9_countPassing) := goodIn_app (goodIn_of _ (by decide +kernel)) ggX9_count_X9_countPassing
theorem dX9_count_0 : decode cX9_count 0 = .ok (.iload_n 1, 1) := by decide +kernel
theorem dX9_count_1 : decode cX9_count 1 = .ok (.tableswitch 123 0 8 #[51, 61, 71, 77, 87, 97, 107, 113, 118], 51) := by decide +kernel
theorem dX9_count_52 : decode cX9_count 52 = .ok (.aload_n 0, 1) := by decide +kernel
theorem dX9_count_53 : decode cX9_count 53 = .ok (.getfield 10, 3) := by decide +kernel
theorem dX9_count_56 : decode cX9_count 56 = .ok (.invokeinterface 56 1, 5) := by decide +kernel
theorem dX9_count_61 : decode cX9_count 61 = .ok (.ireturn, 1) := by decide +kernel
theorem dX9_count_62 : decode cX9_count 62 = .ok (.aload_n 0, 1) := by decide +kernel
theorem dX9_count_63 : decode cX9_count 63 = .ok (.getfield 16, 3) := by decide +kernel
theorem dX9_count_66 : decode cX9_count 66 = .ok (.invokeinterface 56 1, 5) := by decide +kernel
theorem dX9_count_71 : decode cX9_count 71 = .ok (.ireturn, 1) := by decide +kernel
theorem dX9_count_72 : decode cX9_count 72 = .ok (.aload_n 0, 1) := by decide +kernel
theorem dX9_count_73 : decode cX9_count 73 = .ok (.iconst 0, 1) := by decide +kernel
theorem dX9_count_74 : decode cX9_count 74 = .ok (.invokevirtual 309, 3) := by decide +kernel
theorem dX9_count_77 : decode cX9_count 77 = .ok (.ireturn, 1) := by decide +kernel
theorem dX9_count_78 : decode cX9_count 78 = .ok (.aload_n 0, 1) := by decide +kernel
theorem dX9_count_79 : decode cX9_count 79 = .ok (.getfield 34, 3) := by decide +kernel
theorem dX9_count_82 : decode cX9_count 82 = .ok (.invokeinterface 56 1, 5) := by decide +kernel
theorem dX9_count_87 : decode cX9_count 87 = .ok (.ireturn, 1) := by decide +kernel
theorem dX9_count_88 : decode cX9_count 88 = .ok (.aload_n 0, 1) := by decide +kernel
theorem dX9_count_89 : decode cX9_count 89 = .ok (.getfield 37, 3) := by decide +kernel
theorem dX9_count_92 : decode cX9_count 92 = .ok (.invokeinterface 56 1, 5) := by decide +kernel
theorem dX9_count_97 : decode cX9_count 97 = .ok (.ireturn, 1) := by decide +kernel
theorem dX9_count_98 : decode cX9_count 98 = .ok (.aload_n 0, 1) := by decide +kernel
theorem dX9_count_99 : decode cX9_count 99 = .ok (.getfield 24, 3) := by decide +kernel
theorem dX9_count_102 : decode cX9_count 102 = .ok (.invokeinterface 56 1, 5) := by decide +kernel
theorem dX9_count_107 : decode cX9_count 107 = .ok (.ireturn, 1) := by decide +kernel
theorem dX9_count_108 : decode cX9_count 108 = .ok (.aload_n 0, 1) := by decide +kernel
theorem dX9_count_109 : decode cX9_count 109 = .ok (.iconst 1, 1) := by decide +kernel
theorem dX9_count_110 : decode cX9_count 110 = .ok (.invokevirtual 309, 3) := by decide +kernel
theorem dX9_count_113 : decode cX9_count 113 = .ok (.ireturn, 1) := by decide +kernel
theorem dX9_count_114 : decode cX9_count 114 = .ok (.aload_n 0, 1) := by decide +kernel
theorem dX9_count_115 : decode cX9_count 115 = .ok (.invokevirtual 313, 3) := by decide +kernel
theorem dX9_count_118 : decode cX9_count 118 = .ok (.ireturn, 1) := by decide +kernel
theorem dX9_count_119 : decode cX9_count 119 = .ok (.aload_n 0, 1) := by decide +kernel
theorem dX9_count_120 : decode cX9_count 120 = .ok (.invokevirtual 316, 3) := by decide +kernel
theorem dX9_count_123 : decode cX9_count 123 = .ok (.ireturn, 1) := by decide +kernel
theorem dX9_count_124 : decode cX9_count 124 = .ok (.iconst (-1), 1) := by decide +kernel
theorem dX9_count_125 : decode cX9_count 125 = .ok (.ireturn, 1) := by decide +kernel
theorem dJxa1e45_init_da8c8_0 : decode cJxa1e45_init_da8c8 0 = .ok (.aload_n 0, 1) := by decide +kernel
theorem dJxa1e45_init_da8c8_1 : decode cJxa1e45_init_da8c8 1 = .ok (.invokespecial 1, 3) := by decide +kernel
theorem dJxa1e45_init_da8c8_4 : decode cJxa1e45_init_da8c8 4 = .ok (.return_, 1) := by decide +kernel
set_option maxRecDepth 20000 in
theorem ggJxc12de_init_da8c8_Jxa1e45_init_da8c8 : GoodIn wsJxc12de_init_da8c8 wsJxa1e45_init_da8c8 := goodIn_r _ [5, 6, 7, 8] (by decide +kernel) (by decide +kernel)
set_option maxRecDepth 20000 in
theorem gJxc12de_init_da8c8_Jxa1e45_init_da8c8 : GoodIn wsJxc12de_init_da8c8 (wsJxa1e45_init_da8c8) := ggJxc12de_init_da8c8_Jxa1e45_init_da8c8
theorem dJxc12de_init_da8c8_0 : decode cJxc12de_init_da8c8 0 = .ok (.aload_n 0, 1) := by decide +kernel
theorem dJxc12de_init_da8c8_1 : decode cJxc12de_init_da8c8 1 = .ok (.invokespecial 1, 3) := by decide +kernel
theorem dJxc12de_init_da8c8_4 : decode cJxc12de_init_da8c8 4 = .ok (.aload_n 0, 1) := by decide +kernel
theorem dJxc12de_init_da8c8_5 : decode cJxc12de_init_da8c8 5 = .ok (.iconst 0, 1) := by decide +kernel
theorem dJxc12de_init_da8c8_6 : decode cJxc12de_init_da8c8 6 = .ok (.putfield 7, 3) := by decide +kernel
theorem dJxc12de_init_da8c8_9 : decode cJxc12de_init_da8c8 9 = .ok (.return_, 1) := by decide +kernel
set_option maxRecDepth 20000 in
theorem ggJx4a65c_init_da8c8_Jxc12de_init_da8c8 : GoodIn wsJx4a65c_init_da8c8 wsJxc12de_init_da8c8 := goodIn_r _ [6, 7, 8, 9, 10, 11, 12, 13, 14, 18, 19, 20, 21, 22, 15, 16, 17] (by decide +kernel) (by decide +kernel)
set_option maxRecDepth 20000 in
theorem gJx4a65c_init_da8c8_Jxc12de_init_da8c8 : GoodIn wsJx4a65c_init_da8c8 (wsJxc12de_init_da8c8) := ggJx4a65c_init_da8c8_Jxc12de_init_da8c8
theorem dJx4a65c_init_da8c8_0 : decode cJx4a65c_init_da8c8 0 = .ok (.aload_n 0, 1) := by decide +kernel
theorem dJx4a65c_init_da8c8_1 : decode cJx4a65c_init_da8c8 1 = .ok (.invokespecial 1, 3) := by decide +kernel
theorem dJx4a65c_init_da8c8_4 : decode cJx4a65c_init_da8c8 4 = .ok (.aload_n 0, 1) := by decide +kernel
theorem dJx4a65c_init_da8c8_5 : decode cJx4a65c_init_da8c8 5 = .ok (.getstatic 39, 3) := by decide +kernel
theorem dJx4a65c_init_da8c8_8 : decode cJx4a65c_init_da8c8 8 = .ok (.putfield 9, 3) := by decide +kernel
theorem dJx4a65c_init_da8c8_11 : decode cJx4a65c_init_da8c8 11 = .ok (.return_, 1) := by decide +kernel
theorem dfJx4a65c : ∀ j, j < 3 → defaultValue (tyJx4a65c j) = vp_V [.int 0, .null, .int 0] j := by
  intro j hj
  rcases (show j = 0 ∨ j = 1 ∨ j = 2 by omega) with rfl | rfl | rfl <;> rfl
set_option maxHeartbeats 4000000 in
set_option maxRecDepth 100000 in
theorem c_AC_init (l : Launch) (dC : Nat → ClassId) (dI : Nat → Nat → Nat) (y : Nat) : Met l yJxa1e45_init_da8c8 wsJxa1e45_init_da8c8 ({ frames := 1, cells := 0, slots := 0, locals := 12 }) (va_Pc [.ref y] (PS dC dI [] [])) (va_Sv (fun _ => True)) 0 0 (fun _ => False) := by
  refine Met.ofW (cc := cJxa1e45_init_da8c8) (maxL := 1) (ret := none) (by decide) rfl ?_
  intro p e s m args below meth c s₁ B hml hv
  obtain ⟨rfl, hP, hK, hF⟩ := hv
  have hx := B.exec
  have hb := B.bytes
  have hr := B.returns
  have hts := atoms_spec (ws := wsJxa1e45_init_da8c8) B.pre
  have hown : s.vm.findClass RJxa1e45 = some m.cls := findClass_of_methodNamed B.named
  have hlocks := B.notSynchronized
  have hl := lv_entry ([.ref y]) (n := 1) (Nat.le_of_ble_eq_true rfl)
  rw [lg_entry_eq]
  generalize (lg_sl ([.ref y]) ++ List.replicate (1 - (lg_sl ([.ref y])).length) Slot.unset).toArray = ls at hl ⊢
  have hl : lv_has ls 1 [(0, .ref y)] := hl
  refine lv_aload_n hx hb dJxa1e45_init_da8c8_0 rfl (lv_at hl 0 rfl) ?_
  refine W.objInit hx hb hown (hts (.methodLink RJxa1e45 1 objectInit) (List.mem_of_getElem? (i := 1) rfl)) (hts (.instanceMethod objectInit) (List.mem_of_getElem? (i := 2) rfl)) (hts _ (List.mem_of_getElem? (i := 3) rfl)) rfl (by rw [hml]; exact hl.1) rfl dJxa1e45_init_da8c8_1 (Nat.le_of_ble_eq_true rfl) (Nat.le_of_ble_eq_true rfl) ?_
  refine W.eq (g2 := F0 m 4 ls []) rfl ?_
  exact W.vret hx hb hr (fun t ht hW => ⟨rfl, trivial, ht⟩) (fun _ h9 => absurd h9 List.not_mem_nil) dJxa1e45_init_da8c8_4

set_option maxHeartbeats 4000000 in
set_option maxRecDepth 100000 in
theorem c_ALs_init (l : Launch) (dC : Nat → ClassId) (dI : Nat → Nat → Nat) (y : Nat) (sz : Nat) : Met l yJxc12de_init_da8c8 wsJxc12de_init_da8c8 ({ frames := 2, cells := 0, slots := 0, locals := 32 }) (va_Pc [.ref y] (PQ dC dI sz [(y, .inr (4, [.int 0, .null, .int 0]))] [])) (va_Qv (fun _ : Unit => True) (fun _ t => va_P (dC, dI) vwCl [(y, .inr (4, [.int 0, .null, .int 0]))] t.heap ∧ va_K (dC, dI) vwCl [] t ∧ va_D (va_A [(y, .inr (4, [.int 0, .null, .int 0]))] sz) [(y, .inr (4, [.int 0, .null, .int 0]))]) (va_A [(y, .inr (4, [.int 0, .null, .int 0]))] sz)) 0 0 (va_A [(y, .inr (4, [.int 0, .null, .int 0]))] sz) := by
  refine Met.ofW (cc := cJxc12de_init_da8c8) (maxL := 1) (ret := none) (by decide) rfl ?_
  intro p e s m args below meth c s₁ B hml hv
  obtain ⟨rfl, hsz, hP, hK, hD0, hF⟩ := hv
  have hx := B.exec
  have hb := B.bytes
  have hr := B.returns
  have hts := atoms_spec (ws := wsJxc12de_init_da8c8) B.pre
  have hown : s.vm.findClass RJxc12de = some m.cls := findClass_of_methodNamed B.named
  have hlocks := B.notSynchronized
  have hin : meth.name = "<init>" := (name_of_methodNamed B.named B.method).1
  subst hsz
  have hD := hD0.self (sz := s.heap.size)
  generalize hAe : va_A [(y, .inr (4, [.int 0, .null, .int 0]))] s.heap.size = A at hD ⊢
  have hA : ∀ q : Nat, s.heap.size ≤ q → A q := fun q h => by rw [← hAe]; exact Or.inr h
  have hS : va_S A s.heap s.heap [] := va_S.rf
  have hl := lv_entry ([.ref y]) (n := 1) (Nat.le_of_ble_eq_true rfl)
  rw [lg_entry_eq]
  generalize (lg_sl ([.ref y]) ++ List.replicate (1 - (lg_sl ([.ref y])).length) Slot.unset).toArray = ls at hl ⊢
  have hl : lv_has ls 1 [(0, .ref y)] := hl
  refine lv_aload_n hx hb dJxc12de_init_da8c8_0 rfl (lv_at hl 0 rfl) ?_
  refine va_csv (va_Run.run (va_runI (As := []) (rest := []) ⟨hx, hb, hml, hown, hts⟩ (c_AC_init l dC dI y) (cwI 0 hts gJxc12de_init_da8c8_Jxa1e45_init_da8c8 rfl rfl rfl (hts (.initialized RJxa1e45) (List.mem_of_getElem? (i := 4) rfl)) (hts (.methodLink RJxc12de 1 yJxa1e45_init_da8c8) (List.mem_of_getElem? (i := 2) rfl)) (hts (.instanceMethod yJxa1e45_init_da8c8) (List.mem_of_getElem? (i := 3) rfl)) rfl (by decide +kernel) ⟨Nat.le_of_ble_eq_true rfl, Nat.le_of_ble_eq_true rfl⟩) ⟨PS_blind, PS_pre (hP.sub (ws' := []) [] rfl) hK hF⟩ rfl rfl hl.1 rfl (lv_room (Nat.le_of_ble_eq_true rfl)) dJxc12de_init_da8c8_1 ⟨Nat.le_of_ble_eq_true rfl, Nat.le_of_ble_eq_true rfl⟩)) (fun _ => ?_)
  refine lv_aload_n hx hb dJxc12de_init_da8c8_4 rfl (lv_at hl 0 rfl) ?_
  refine lv_iconst (v := 0) hx hb dJxc12de_init_da8c8_5 (by decide) ?_
  refine va_put (D := (dC, dI)) (ci := 4) (v := .int 0) (ty := .int) (C := RJx4a65c) (T := TJx4a65c) (N := 3) hx hb hts (fun _ h9 => List.mem_cons_of_mem _ (List.mem_append_right _ (h9))) tyJx4a65c tyJx4a65c_ok nmJx4a65c hown hK hP hD hS 0 rfl rfl 0 (by decide) (hts (.fieldLink RJxc12de 7 "java/util/AbstractList" "modCount" "I") (List.mem_of_getElem? (i := 1) rfl)) (fun _ h9 => h9) rfl (by decide +kernel) rfl rfl (Nat.le_of_ble_eq_true rfl) dJxc12de_init_da8c8_6 (fun H locs hP hD hS => ?_)
  have hP : va_P (dC, dI) vwCl [(y, .inr (4, [.int 0, .null, .int 0]))] H := hP
  have hD : va_D A [(y, .inr (4, [.int 0, .null, .int 0]))] := hD
  have hP9 := hP.sub (ws' := [(y, .inr (4, [.int 0, .null, .int 0]))]) [0] rfl
  have hD9 := hD.sub (ws' := [(y, .inr (4, [.int 0, .null, .int 0]))]) [0] (by decide) rfl
  have hK9 := hK.sub (tys' := []) [] rfl
  exact W.vret hx hb hr (fun t ht hW => ⟨⟨(), rfl, trivial, by rw [ht]; exact hP9, va_K.moved hW.alike hK9, hD9⟩, hS.F ht⟩) hS.2.2 dJxc12de_init_da8c8_9

set_option maxHeartbeats 4000000 in
set_option maxRecDepth 100000 in
theorem c_AL_init (l : Launch) (dC : Nat → ClassId) (dI : Nat → Nat → Nat) (d : Nat) (tc : Nat) (ad : Nat → Nat) (y : Nat) (sz : Nat) : Met l yJx4a65c_init_da8c8 wsJx4a65c_init_da8c8 ({ frames := 3, cells := 0, slots := 0, locals := 52 }) (va_Pc [.ref y] (PZ dC dI d tc ad sz [(y, .inr (4, [.int 0, .null, .int 0]))] [])) (va_Qv (fun _ : Unit => True) (fun _ t => va_P (dC, dI) vwCl [(y, .inr (4, [.int 0, .ref d, .int 0]))] t.heap ∧ va_K (dC, dI) vwCl [] t ∧ va_D (va_A [(y, .inr (4, [.int 0, .null, .int 0]))] sz) [(y, .inr (4, [.int 0, .ref d, .int 0]))]) (va_A [(y, .inr (4, [.int 0, .null, .int 0]))] sz)) 0 0 (va_A [(y, .inr (4, [.int 0, .null, .int 0]))] sz) := by
  refine Met.ofW (cc := cJx4a65c_init_da8c8) (maxL := 1) (ret := none) (by decide) rfl ?_
  intro p e s m args below meth c s₁ B hml hv
  obtain ⟨rfl, hsz, hP, hK, hD0, hF, hZ⟩ := hv
  have hx := B.exec
  have hb := B.bytes
  have hr := B.returns
  have hts := atoms_spec (ws := wsJx4a65c_init_da8c8) B.pre
  have hown : s.vm.findClass RJx4a65c = some m.cls := findClass_of_methodNamed B.named
  have hlocks := B.notSynchronized
  have hin : meth.name = "<init>" := (name_of_methodNamed B.named B.method).1
  subst hsz
  have hD := hD0.self (sz := s.heap.size)
  generalize hAe : va_A [(y, .inr (4, [.int 0, .null, .int 0]))] s.heap.size = A at hD hZ ⊢
  have hA : ∀ q : Nat, s.heap.size ≤ q → A q := fun q h => by rw [← hAe]; exact Or.inr h
  have hS : va_S A s.heap s.heap [] := va_S.rf
  have hl := lv_entry ([.ref y]) (n := 1) (Nat.le_of_ble_eq_true rfl)
  rw [lg_entry_eq]
  generalize (lg_sl ([.ref y]) ++ List.replicate (1 - (lg_sl ([.ref y])).length) Slot.unset).toArray = ls at hl ⊢
  have hl : lv_has ls 1 [(0, .ref y)] := hl
  refine lv_aload_n hx hb dJx4a65c_init_da8c8_0 rfl (lv_at hl 0 rfl) ?_
  have hPc := hP.sub (ws' := [(y, .inr (4, [.int 0, .null, .int 0]))]) [0] rfl
  have hDc := hD.sub (ws' := [(y, .inr (4, [.int 0, .null, .int 0]))]) [0] (by decide) rfl
  have hKc := hK.sub (tys' := []) [] rfl
  have hFc := va_free (wc := [(y, .inr (4, [.int 0, .null, .int 0]))]) hD hS hA [0] rfl
  refine va_callv (va_runI (As := []) (rest := []) ⟨hx, hb, hml, hown, hts⟩ (c_ALs_init l dC dI y s.heap.size) (cwI 0 hts gJx4a65c_init_da8c8_Jxc12de_init_da8c8 rfl rfl rfl (hts (.initialized RJxc12de) (List.mem_of_getElem? (i := 5) rfl)) (hts (.methodLink RJx4a65c 1 yJxc12de_init_da8c8) (List.mem_of_getElem? (i := 3) rfl)) (hts (.instanceMethod yJxc12de_init_da8c8) (List.mem_of_getElem? (i := 4) rfl)) rfl (by decide +kernel) ⟨Nat.le_of_ble_eq_true rfl, Nat.le_of_ble_eq_true rfl⟩) ⟨PQ_blind, PQ_pre hPc hKc hDc hF⟩ rfl rfl hl.1 rfl (lv_room (Nat.le_of_ble_eq_true rfl)) dJx4a65c_init_da8c8_1 ⟨Nat.le_of_ble_eq_true rfl, Nat.le_of_ble_eq_true rfl⟩) hS (fun q _ h => hFc q h) hFc (fun u t H1 locs ht hvm hw hB hz1 hk1 hS => ?_)
  obtain ⟨hP1, hK1, hD1⟩ := hB
  rw [ht] at hP1
  have hK1 := va_K.moved hvm.symm hK1
  obtain ⟨hP, hD⟩ := va_join (wr := []) (w1 := [(y, .inr (4, [.int 0, .null, .int 0]))]) hP hD [0] [] rfl rfl (by decide) (by decide) hk1 hFc hP1 hD1
  have hK := hK.app hK1
  generalize H1 = H at hP hS ⊢
  have hP : va_P (dC, dI) vwCl [(y, .inr (4, [.int 0, .null, .int 0]))] H := hP
  have hD : va_D A [(y, .inr (4, [.int 0, .null, .int 0]))] := hD
  have hK : va_K (dC, dI) vwCl [] s := hK
  refine W.widen (k := 0) (n := 0) (Nat.le_of_ble_eq_true rfl) (Nat.le_of_ble_eq_true rfl) ?_
  refine lv_aload_n hx hb dJx4a65c_init_da8c8_4 rfl (lv_at hl 0 rfl) ?_
  refine va_gets hx hb hZ.1 hS hown (hts (.fieldLink RJx4a65c 39 "java/util/ArrayList" "DEFAULTCAPACITY_EMPTY_ELEMENTDATA" "[Ljava/lang/Object;") (List.mem_of_getElem? (i := 1) rfl)) (fun _ h9 => h9) dJx4a65c_init_da8c8_5 ?_
  refine va_put (D := (dC, dI)) (ci := 4) (v := .ref d) (ty := .array (.object "java/lang/Object")) (C := RJx4a65c) (T := TJx4a65c) (N := 3) hx hb hts (fun _ h9 => List.mem_cons_of_mem _ (List.mem_append_left _ (List.mem_append_right _ (h9)))) tyJx4a65c tyJx4a65c_ok nmJx4a65c hown hK hP hD hS 0 rfl rfl 1 (by decide) (hts (.fieldLink RJx4a65c 9 "java/util/ArrayList" "elementData" "[Ljava/lang/Object;") (List.mem_of_getElem? (i := 2) rfl)) (fun _ h9 => h9) rfl (by decide +kernel) rfl rfl (Nat.le_of_ble_eq_true rfl) dJx4a65c_init_da8c8_8 (fun H locs hP hD hS => ?_)
  have hP : va_P (dC, dI) vwCl [(y, .inr (4, [.int 0, .ref d, .int 0]))] H := hP
  have hD : va_D A [(y, .inr (4, [.int 0, .ref d, .int 0]))] := hD
  have hP9 := hP.sub (ws' := [(y, .inr (4, [.int 0, .ref d, .int 0]))]) [0] rfl
  have hD9 := hD.sub (ws' := [(y, .inr (4, [.int 0, .ref d, .int 0]))]) [0] (by decide) rfl
  have hK9 := hK.sub (tys' := []) [] rfl
  exact W.vret hx hb hr (fun t ht hW => ⟨⟨(), rfl, trivial, by rw [ht]; exact hP9, va_K.moved hW.alike hK9, hD9⟩, hS.F ht⟩) hS.2.2 dJx4a65c_init_da8c8_11

set_option maxHeartbeats 4000000 in
set_option maxRecDepth 100000 in
theorem c_X9_init (l : Launch) (dC : Nat → ClassId) (dI : Nat → Nat → Nat) (d : Nat) (tc : Nat) (ad : Nat → Nat) (mx : Nat) (sz : Nat) : Met l yX9_init wsX9_init ({ frames := 4, cells := 33, slots := 635, locals := 72 }) (va_Pc [.ref mx] (PZ dC dI d tc ad sz [(mx, .inr (14, [.null, .null, .null, .null, .null, .null, .null, .null, .null, .int 0, .int 0, .int 0, .int 0]))] [])) (va_Qv (fun _ : Unit => True) (fun _ t => ∃ (lc : Nat) (lr : Nat) (kn : Nat) (lt : Nat) (ml : Nat) (mm : Nat) (lp : Nat) (lb : Nat) (mq : Nat) (kl : ClassId) (km : ClassId) (kq : ClassId) (fl : Nat → Int32) (fm : Nat → Int32), va_P (dC, dI) vwCl [(mx, .inr (14, [.ref lc, .ref lr, .ref kn, .ref lt, .ref ml, .ref mm, .ref lp, .ref lb, .ref mq, .int 1, .int 10, .int 0, .int 0])), (lc, .inr (4, [.int 0, .ref d, .int 0])), (lr, .inr (4, [.int 0, .ref d, .int 0])), (lt, .inr (4, [.int 0, .ref d, .int 0])), (lp, .inr (4, [.int 0, .ref d, .int 0])), (lb, .inr (4, [.int 0, .ref d, .int 0])), (ml, .inl (kl, 8, .inl fl)), (mm, .inl (km, 8, .inl fm)), (mq, .inl (kq, 4, .inl (fun _ => 0)))] t.heap ∧ va_K (dC, dI) vwCl [(kl, .int), (km, .int), (kq, .int)] t ∧ va_D (va_A [(mx, .inr (14, [.null, .null, .null, .null, .null, .null, .null, .null, .null, .int 0, .int 0, .int 0, .int 0]))] sz) [(mx, .inr (14, [.ref lc, .ref lr, .ref kn, .ref lt, .ref ml, .ref mm, .ref lp, .ref lb, .ref mq, .int 1, .int 10, .int 0, .int 0])), (lc, .inr (4, [.int 0, .ref d, .int 0])), (lr, .inr (4, [.int 0, .ref d, .int 0])), (lt, .inr (4, [.int 0, .ref d, .int 0])), (lp, .inr (4, [.int 0, .ref d, .int 0])), (lb, .inr (4, [.int 0, .ref d, .int 0])), (ml, .inl (kl, 8, .inl fl)), (mm, .inl (km, 8, .inl fm)), (mq, .inl (kq, 4, .inl (fun _ => 0)))]) (va_A [(mx, .inr (14, [.null, .null, .null, .null, .null, .null, .null, .null, .null, .int 0, .int 0, .int 0, .int 0]))] sz)) 33 635 (va_A [(mx, .inr (14, [.null, .null, .null, .null, .null, .null, .null, .null, .null, .int 0, .int 0, .int 0, .int 0]))] sz) := by
  refine Met.ofW (cc := cX9_init) (maxL := 2) (ret := none) (by decide) rfl ?_
  intro p e s m args below meth c s₁ B hml hv
  obtain ⟨rfl, hsz, hP, hK, hD0, hF, hZ⟩ := hv
  have hx := B.exec
  have hb := B.bytes
  have hr := B.returns
  have hts := atoms_spec (ws := wsX9_init) B.pre
  have hown : s.vm.findClass RX9 = some m.cls := findClass_of_methodNamed B.named
  have hlocks := B.notSynchronized
  have hin : meth.name = "<init>" := (name_of_methodNamed B.named B.method).1
  subst hsz
  have hD := hD0.self (sz := s.heap.size)
  generalize hAe : va_A [(mx, .inr (14, [.null, .null, .null, .null, .null, .null, .null, .null, .null, .int 0, .int 0, .int 0, .int 0]))] s.heap.size = A at hD hZ ⊢
  have hA : ∀ q : Nat, s.heap.size ≤ q → A q := fun q h => by rw [← hAe]; exact Or.inr h
  have hS : va_S A s.heap s.heap [] := va_S.rf
  have hl := lv_entry ([.ref mx]) (n := 2) (Nat.le_of_ble_eq_true rfl)
  rw [lg_entry_eq]
  generalize (lg_sl ([.ref mx]) ++ List.replicate (2 - (lg_sl ([.ref mx])).length) Slot.unset).toArray = ls at hl ⊢
  have hl : lv_has ls 2 [(0, .ref mx)] := hl
  refine lv_aload_n hx hb dX9_init_0 rfl (lv_at hl 0 rfl) ?_
  refine W.objInit hx hb hown (hts (.methodLink RX9 1 objectInit) (List.mem_of_getElem? (i := 1) rfl)) (hts (.instanceMethod objectInit) (List.mem_of_getElem? (i := 2) rfl)) (hts _ (List.mem_of_getElem? (i := 3) rfl)) rfl (by rw [hml]; exact hl.1) rfl dX9_init_1 (Nat.le_of_ble_eq_true rfl) (Nat.le_of_ble_eq_true rfl) ?_
  refine W.eq (g2 := F0 m 4 ls []) rfl ?_
  refine lv_aload_n hx hb dX9_init_4 rfl (lv_at hl 0 rfl) ?_
  refine va_new (ci := 4) (fs := [.int 0, .null, .int 0]) (C := RJx4a65c) (T := TJx4a65c) (N := 3) hx hb hts (fun _ h9 => List.mem_cons_of_mem _ (List.mem_append_left _ (List.mem_append_left _ (List.mem_append_right _ (h9))))) tyJx4a65c tyJx4a65c_ok hown (hts (.classLink RX9 7 RJx4a65c) (List.mem_of_getElem? (i := 4) rfl)) (hts (.instantiable RJx4a65c 3) (List.mem_of_getElem? (i := 5) rfl)) (hts (.initialized RJx4a65c) (List.mem_of_getElem? (i := 6) rfl)) hK hP hD hS hA rfl dfJx4a65c (Nat.le_of_ble_eq_true rfl) (Nat.le_of_ble_eq_true rfl) dX9_init_5 (fun q_1 H hP hD hS => ?_)
  have hP : va_P (dC, dI) vwCl [(mx, .inr (14, [.null, .null, .null, .null, .null, .null, .null, .null, .null, .int 0, .int 0, .int 0, .int 0])), (q_1, .inr (4, [.int 0, .null, .int 0]))] H := hP
  have hD : va_D A [(mx, .inr (14, [.null, .null, .null, .null, .null, .null, .null, .null, .null, .int 0, .int 0, .int 0, .int 0])), (q_1, .inr (4, [.int 0, .null, .int 0]))] := hD
  refine W.widen (k := 1) (n := 3) (Nat.le_of_ble_eq_true rfl) (Nat.le_of_ble_eq_true rfl) ?_
  refine lv_dup hx hb dX9_init_8 rfl ?_
  have hPc := hP.sub (ws' := [(q_1, .inr (4, [.int 0, .null, .int 0]))]) [1] rfl
  have hDc := hD.sub (ws' := [(q_1, .inr (4, [.int 0, .null, .int 0]))]) [1] (by decide) rfl
  have hKc := hK.sub (tys' := []) [] rfl
  have hFc := va_free (wc := [(q_1, .inr (4, [.int 0, .null, .int 0]))]) hD hS hA [1] rfl
  refine va_callv (va_runI (As := []) (rest := [.ref q_1, .ref mx]) ⟨hx, hb, hml, hown, hts⟩ (c_AL_init l dC dI d tc ad q_1 H.size) (cwI 0 hts gX9_init_Jx4a65c_init_da8c8 rfl rfl rfl (hts (.initialized RJx4a65c) (List.mem_of_getElem? (i := 6) rfl)) (hts (.methodLink RX9 9 yJx4a65c_init_da8c8) (List.mem_of_getElem? (i := 23) rfl)) (hts (.instanceMethod yJx4a65c_init_da8c8) (List.mem_of_getElem? (i := 24) rfl)) rfl (by decide +kernel) ⟨Nat.le_of_ble_eq_true rfl, Nat.le_of_ble_eq_true rfl⟩) ⟨PZ_blind, PZ_pre hPc hKc hDc hF hZ hS hFc⟩ rfl rfl hl.1 rfl (lv_room (Nat.le_of_ble_eq_true rfl)) dX9_init_9 ⟨Nat.le_of_ble_eq_true rfl, Nat.le_of_ble_eq_true rfl⟩) hS (fun q _ h => hFc q h) hFc (fun u t H1 locs ht hvm hw hB hz1 hk1 hS => ?_)
  obtain ⟨hP1, hK1, hD1⟩ := hB
  rw [ht] at hP1
  have hK1 := va_K.moved hvm.symm hK1
  obtain ⟨hP, hD⟩ := va_join (wr := [(mx, .inr (14, [.null, .null, .null, .null, .null, .null, .null, .null, .null, .int 0, .int 0, .int 0, .int 0]))]) (w1 := [(q_1, .inr (4, [.int 0, .ref d, .int 0]))]) hP hD [1] [0] rfl rfl (by decide) (by decide) hk1 hFc hP1 hD1
  have hK := hK.app hK1
  generalize H1 = H at hP hS ⊢
  have hP : va_P (dC, dI) vwCl [(mx, .inr (14, [.null, .null, .null, .null, .null, .null, .null, .null, .null, .int 0, .int 0, .int 0, .int 0])), (q_1, .inr (4, [.int 0, .ref d, .int 0]))] H := hP
  have hD : va_D A [(mx, .inr (14, [.null, .null, .null, .null, .null, .null, .null, .null, .null, .int 0, .int 0, .int 0, .int 0])), (q_1, .inr (4, [.int 0, .ref d, .int 0]))] := hD
  have hK : va_K (dC, dI) vwCl [] s := hK
  refine W.widen (k := 1) (n := 3) (Nat.le_of_ble_eq_true rfl) (Nat.le_of_ble_eq_true rfl) ?_
  refine va_putF (D := (dC, dI)) (ci := 14) (v := .ref q_1) (ty := .object "java/util/List") (C := RX9) (T := TX9) (N := 13) hx hb hts (fun _ h9 => List.mem_cons_of_mem _ (List.mem_append_left _ (List.mem_append_right _ (h9)))) tyX9 tyX9_ok nmX9 hown hK hP hD hS 0 rfl rfl 0 (by decide) (hts (.fieldLink RX9 10 "ExamHallsModel" "candidates" "Ljava/util/List;") (List.mem_of_getElem? (i := 7) rfl)) (fun _ h9 => h9) rfl hin rfl (by decide +kernel) rfl rfl (Nat.le_of_ble_eq_true rfl) dX9_init_12 (fun H locs hP hD hS => ?_)
  have hP : va_P (dC, dI) vwCl [(mx, .inr (14, [.ref q_1, .null, .null, .null, .null, .null, .null, .null, .null, .int 0, .int 0, .int 0, .int 0])), (q_1, .inr (4, [.int 0, .ref d, .int 0]))] H := hP
  have hD : va_D A [(mx, .inr (14, [.ref q_1, .null, .null, .null, .null, .null, .null, .null, .null, .int 0, .int 0, .int 0, .int 0])), (q_1, .inr (4, [.int 0, .ref d, .int 0]))] := hD
  refine lv_aload_n hx hb dX9_init_15 rfl (lv_at hl 0 rfl) ?_
  refine va_new (ci := 4) (fs := [.int 0, .null, .int 0]) (C := RJx4a65c) (T := TJx4a65c) (N := 3) hx hb hts (fun _ h9 => List.mem_cons_of_mem _ (List.mem_append_left _ (List.mem_append_left _ (List.mem_append_right _ (h9))))) tyJx4a65c tyJx4a65c_ok hown (hts (.classLink RX9 7 RJx4a65c) (List.mem_of_getElem? (i := 4) rfl)) (hts (.instantiable RJx4a65c 3) (List.mem_of_getElem? (i := 5) rfl)) (hts (.initialized RJx4a65c) (List.mem_of_getElem? (i := 6) rfl)) hK hP hD hS hA rfl dfJx4a65c (Nat.le_of_ble_eq_true rfl) (Nat.le_of_ble_eq_true rfl) dX9_init_16 (fun q_3 H hP hD hS => ?_)
  have hP : va_P (dC, dI) vwCl [(mx, .inr (14, [.ref q_1, .null, .null, .null, .null, .null, .null, .null, .null, .int 0, .int 0, .int 0, .int 0])), (q_1, .inr (4, [.int 0, .ref d, .int 0])), (q_3, .inr (4, [.int 0, .null, .int 0]))] H := hP
  have hD : va_D A [(mx, .inr (14, [.ref q_1, .null, .null, .null, .null, .null, .null, .null, .null, .int 0, .int 0, .int 0, .int 0])), (q_1, .inr (4, [.int 0, .ref d, .int 0])), (q_3, .inr (4, [.int 0, .null, .int 0]))] := hD
  refine W.widen (k := 2) (n := 6) (Nat.le_of_ble_eq_true rfl) (Nat.le_of_ble_eq_true rfl) ?_
  refine lv_dup hx hb dX9_init_19 rfl ?_
  have hPc := hP.sub (ws' := [(q_3, .inr (4, [.int 0, .null, .int 0]))]) [2] rfl
  have hDc := hD.sub (ws' := [(q_3, .inr (4, [.int 0, .null, .int 0]))]) [2] (by decide) rfl
  have hKc := hK.sub (tys' := []) [] rfl
  have hFc := va_free (wc := [(q_3, .inr (4, [.int 0, .null, .int 0]))]) hD hS hA [2] rfl
  refine va_callv (va_runI (As := []) (rest := [.ref q_3, .ref mx]) ⟨hx, hb, hml, hown, hts⟩ (c_AL_init l dC dI d tc ad q_3 H.size) (cwI 0 hts gX9_init_Jx4a65c_init_da8c8 rfl rfl rfl (hts (.initialized RJx4a65c) (List.mem_of_getElem? (i := 6) rfl)) (hts (.methodLink RX9 9 yJx4a65c_init_da8c8) (List.mem_of_getElem? (i := 23) rfl)) (hts (.instanceMethod yJx4a65c_init_da8c8) (List.mem_of_getElem? (i := 24) rfl)) rfl (by decide +kernel) ⟨Nat.le_of_ble_eq_true rfl, Nat.le_of_ble_eq_true rfl⟩) ⟨PZ_blind, PZ_pre hPc hKc hDc hF hZ hS hFc⟩ rfl rfl hl.1 rfl (lv_room (Nat.le_of_ble_eq_true rfl)) dX9_init_20 ⟨Nat.le_of_ble_eq_true rfl, Nat.le_of_ble_eq_true rfl⟩) hS (fun q _ h => hFc q h) hFc (fun u t H1 locs ht hvm hw hB hz1 hk1 hS => ?_)
  obtain ⟨hP1, hK1, hD1⟩ := hB
  rw [ht] at hP1
  have hK1 := va_K.moved hvm.symm hK1
  obtain ⟨hP, hD⟩ := va_join (wr := [(mx, .inr (14, [.ref q_1, .null, .null, .null, .null, .null, .null, .null, .null, .int 0, .int 0, .int 0, .int 0])), (q_1, .inr (4, [.int 0, .ref d, .int 0]))]) (w1 := [(q_3, .inr (4, [.int 0, .ref d, .int 0]))]) hP hD [2] [0, 1] rfl rfl (by decide) (by decide) hk1 hFc hP1 hD1
  have hK := hK.app hK1
  generalize H1 = H at hP hS ⊢
  have hP : va_P (dC, dI) vwCl [(mx, .inr (14, [.ref q_1, .null, .null, .null, .null, .null, .null, .null, .null, .int 0, .int 0, .int 0, .int 0])), (q_1, .inr (4, [.int 0, .ref d, .int 0])), (q_3, .inr (4, [.int 0, .ref d, .int 0]))] H := hP
  have hD : va_D A [(mx, .inr (14, [.ref q_1, .null, .null, .null, .null, .null, .null, .null, .null, .int 0, .int 0, .int 0, .int 0])), (q_1, .inr (4, [.int 0, .ref d, .int 0])), (q_3, .inr (4, [.int 0, .ref d, .int 0]))] := hD
  have hK : va_K (dC, dI) vwCl [] s := hK
  refine W.widen (k := 2) (n := 6) (Nat.le_of_ble_eq_true rfl) (Nat.le_of_ble_eq_true rfl) ?_
  refine va_putF (D := (dC, dI)) (ci := 14) (v := .ref q_3) (ty := .object "java/util/List") (C := RX9) (T := TX9) (N := 13) hx hb hts (fun _ h9 => List.mem_cons_of_mem _ (List.mem_append_left _ (List.mem_append_right _ (h9)))) tyX9 tyX9_ok nmX9 hown hK hP hD hS 0 rfl rfl 1 (by decide) (hts (.fieldLink RX9 16 "ExamHallsModel" "readers" "Ljava/util/List;") (List.mem_of_getElem? (i := 8) rfl)) (fun _ h9 => h9) rfl hin rfl (by decide +kernel) rfl rfl (Nat.le_of_ble_eq_true rfl) dX9_init_23 (fun H locs hP hD hS => ?_)
  have hP : va_P (dC, dI) vwCl [(mx, .inr (14, [.ref q_1, .ref q_3, .null, .null, .null, .null, .null, .null, .null, .int 0, .int 0, .int 0, .int 0])), (q_1, .inr (4, [.int 0, .ref d, .int 0])), (q_3, .inr (4, [.int 0, .ref d, .int 0]))] H := hP
  have hD : va_D A [(mx, .inr (14, [.ref q_1, .ref q_3, .null, .null, .null, .null, .null, .null, .null, .int 0, .int 0, .int 0, .int 0])), (q_1, .inr (4, [.int 0, .ref d, .int 0])), (q_3, .inr (4, [.int 0, .ref d, .int 0]))] := hD
  refine lv_aload_n hx hb dX9_init_26 rfl (lv_at hl 0 rfl) ?_
  refine lv_bipush (v := 24) hx hb dX9_init_27 (by decide) ?_
  refine lv_bipush (v := 24) hx hb dX9_init_29 (by decide) ?_
  obtain ⟨cy, ca, ka, hcy, hka, hkk, hca⟩ := hF.2.2.2.2.2.1
  obtain ⟨cy2, kyy, cz, hcy2, hky, hkky⟩ := Cond.arrayClass_spec (hts (.arrayClass .boolean) (List.mem_of_getElem? (i := 10) rfl))
  cases hcy2.symm.trans hcy
  refine mk_W2 (n1 := 24) (n2 := 24) (kc := 25) (ns := 600) hx hb hown (hts (.classLink RX9 19 "[[Z") (List.mem_of_getElem? (i := 9) rfl)) hca (fun f V hV => ?_) dX9_init_31 (Nat.le_of_ble_eq_true rfl) (Nat.le_of_ble_eq_true rfl) hP hS hA (fun q_5 H locs hP hS => ?_)
  · obtain ⟨k1, hk1, he1⟩ := hV.2.2 _ _ hka
    obtain ⟨k2, hk2, he2⟩ := hV.2.2 _ _ hky
    exact mk_step (kc := 1) (ns := 24) hk1 (by rw [he1]; exact hkk) rfl (by decide) (by decide) (by decide) (by decide) (mk_one (k := 24) hk2 (by rw [he2]; exact hkky) (by decide) (by decide) rfl rfl (by decide))
  have hP : va_P (dC, dI) vwCl [(mx, .inr (14, [.ref q_1, .ref q_3, .null, .null, .null, .null, .null, .null, .null, .int 0, .int 0, .int 0, .int 0])), (q_1, .inr (4, [.int 0, .ref d, .int 0])), (q_3, .inr (4, [.int 0, .ref d, .int 0]))] H := hP
  refine W.widen (k := 27) (n := 606) (Nat.le_of_ble_eq_true rfl) (Nat.le_of_ble_eq_true rfl) ?_
  refine va_putF (D := (dC, dI)) (ci := 14) (v := .ref q_5) (ty := .array (.array .boolean)) (C := RX9) (T := TX9) (N := 13) hx hb hts (fun _ h9 => List.mem_cons_of_mem _ (List.mem_append_left _ (List.mem_append_right _ (h9)))) tyX9 tyX9_ok nmX9 hown hK hP hD hS 0 rfl rfl 2 (by decide) (hts (.fieldLink RX9 21 "ExamHallsModel" "kin" "[[Z") (List.mem_of_getElem? (i := 11) rfl)) (fun _ h9 => h9) rfl hin rfl (by decide +kernel) rfl rfl (Nat.le_of_ble_eq_true rfl) dX9_init_35 (fun H locs hP hD hS => ?_)
  have hP : va_P (dC, dI) vwCl [(mx, .inr (14, [.ref q_1, .ref q_3, .ref q_5, .null, .null, .null, .null, .null, .null, .int 0, .int 0, .int 0, .int 0])), (q_1, .inr (4, [.int 0, .ref d, .int 0])), (q_3, .inr (4, [.int 0, .ref d, .int 0]))] H := hP
  have hD : va_D A [(mx, .inr (14, [.ref q_1, .ref q_3, .ref q_5, .null, .null, .null, .null, .null, .null, .int 0, .int 0, .int 0, .int 0])), (q_1, .inr (4, [.int 0, .ref d, .int 0])), (q_3, .inr (4, [.int 0, .ref d, .int 0]))] := hD
  refine lv_aload_n hx hb dX9_init_38 rfl (lv_at hl 0 rfl) ?_
  refine va_new (ci := 4) (fs := [.int 0, .null, .int 0]) (C := RJx4a65c) (T := TJx4a65c) (N := 3) hx hb hts (fun _ h9 => List.mem_cons_of_mem _ (List.mem_append_left _ (List.mem_append_left _ (List.mem_append_right _ (h9))))) tyJx4a65c tyJx4a65c_ok hown (hts (.classLink RX9 7 RJx4a65c) (List.mem_of_getElem? (i := 4) rfl)) (hts (.instantiable RJx4a65c 3) (List.mem_of_getElem? (i := 5) rfl)) (hts (.initialized RJx4a65c) (List.mem_of_getElem? (i := 6) rfl)) hK hP hD hS hA rfl dfJx4a65c (Nat.le_of_ble_eq_true rfl) (Nat.le_of_ble_eq_true rfl) dX9_init_39 (fun q_6 H hP hD hS => ?_)
  have hP : va_P (dC, dI) vwCl [(mx, .inr (14, [.ref q_1, .ref q_3, .ref q_5, .null, .null, .null, .null, .null, .null, .int 0, .int 0, .int 0, .int 0])), (q_1, .inr (4, [.int 0, .ref d, .int 0])), (q_3, .inr (4, [.int 0, .ref d, .int 0])), (q_6, .inr (4, [.int 0, .null, .int 0]))] H := hP
  have hD : va_D A [(mx, .inr (14, [.ref q_1, .ref q_3, .ref q_5, .null, .null, .null, .null, .null, .null, .int 0, .int 0, .int 0, .int 0])), (q_1, .inr (4, [.int 0, .ref d, .int 0])), (q_3, .inr (4, [.int 0, .ref d, .int 0])), (q_6, .inr (4, [.int 0, .null, .int 0]))] := hD
  refine W.widen (k := 28) (n := 609) (Nat.le_of_ble_eq_true rfl) (Nat.le_of_ble_eq_true rfl) ?_
  refine lv_dup hx hb dX9_init_42 rfl ?_
  have hPc := hP.sub (ws' := [(q_6, .inr (4, [.int 0, .null, .int 0]))]) [3] rfl
  have hDc := hD.sub (ws' := [(q_6, .inr (4, [.int 0, .null, .int 0]))]) [3] (by decide) rfl
  have hKc := hK.sub (tys' := []) [] rfl
  have hFc := va_free (wc := [(q_6, .inr (4, [.int 0, .null, .int 0]))]) hD hS hA [3] rfl
  refine va_callv (va_runI (As := []) (rest := [.ref q_6, .ref mx]) ⟨hx, hb, hml, hown, hts⟩ (c_AL_init l dC dI d tc ad q_6 H.size) (cwI 0 hts gX9_init_Jx4a65c_init_da8c8 rfl rfl rfl (hts (.initialized RJx4a65c) (List.mem_of_getElem? (i := 6) rfl)) (hts (.methodLink RX9 9 yJx4a65c_init_da8c8) (List.mem_of_getElem? (i := 23) rfl)) (hts (.instanceMethod yJx4a65c_init_da8c8) (List.mem_of_getElem? (i := 24) rfl)) rfl (by decide +kernel) ⟨Nat.le_of_ble_eq_true rfl, Nat.le_of_ble_eq_true rfl⟩) ⟨PZ_blind, PZ_pre hPc hKc hDc hF hZ hS hFc⟩ rfl rfl hl.1 rfl (lv_room (Nat.le_of_ble_eq_true rfl)) dX9_init_43 ⟨Nat.le_of_ble_eq_true rfl, Nat.le_of_ble_eq_true rfl⟩) hS (fun q _ h => hFc q h) hFc (fun u t H1 locs ht hvm hw hB hz1 hk1 hS => ?_)
  obtain ⟨hP1, hK1, hD1⟩ := hB
  rw [ht] at hP1
  have hK1 := va_K.moved hvm.symm hK1
  obtain ⟨hP, hD⟩ := va_join (wr := [(mx, .inr (14, [.ref q_1, .ref q_3, .ref q_5, .null, .null, .null, .null, .null, .null, .int 0, .int 0, .int 0, .int 0])), (q_1, .inr (4, [.int 0, .ref d, .int 0])), (q_3, .inr (4, [.int 0, .ref d, .int 0]))]) (w1 := [(q_6, .inr (4, [.int 0, .ref d, .int 0]))]) hP hD [3] [0, 1, 2] rfl rfl (by decide) (by decide) hk1 hFc hP1 hD1
  have hK := hK.app hK1
  generalize H1 = H at hP hS ⊢
  have hP : va_P (dC, dI) vwCl [(mx, .inr (14, [.ref q_1, .ref q_3, .ref q_5, .null, .null, .null, .null, .null, .null, .int 0, .int 0, .int 0, .int 0])), (q_1, .inr (4, [.int 0, .ref d, .int 0])), (q_3, .inr (4, [.int 0, .ref d, .int 0])), (q_6, .inr (4, [.int 0, .ref d, .int 0]))] H := hP
  have hD : va_D A [(mx, .inr (14, [.ref q_1, .ref q_3, .ref q_5, .null, .null, .null, .null, .null, .null, .int 0, .int 0, .int 0, .int 0])), (q_1, .inr (4, [.int 0, .ref d, .int 0])), (q_3, .inr (4, [.int 0, .ref d, .int 0])), (q_6, .inr (4, [.int 0, .ref d, .int 0]))] := hD
  have hK : va_K (dC, dI) vwCl [] s := hK
  refine W.widen (k := 28) (n := 609) (Nat.le_of_ble_eq_true rfl) (Nat.le_of_ble_eq_true rfl) ?_
  refine va_putF (D := (dC, dI)) (ci := 14) (v := .ref q_6) (ty := .object "java/util/List") (C := RX9) (T := TX9) (N := 13) hx hb hts (fun _ h9 => List.mem_cons_of_mem _ (List.mem_append_left _ (List.mem_append_right _ (h9)))) tyX9 tyX9_ok nmX9 hown hK hP hD hS 0 rfl rfl 3 (by decide) (hts (.fieldLink RX9 24 "ExamHallsModel" "tape" "Ljava/util/List;") (List.mem_of_getElem? (i := 12) rfl)) (fun _ h9 => h9) rfl hin rfl (by decide +kernel) rfl rfl (Nat.le_of_ble_eq_true rfl) dX9_init_46 (fun H locs hP hD hS => ?_)
  have hP : va_P (dC, dI) vwCl [(mx, .inr (14, [.ref q_1, .ref q_3, .ref q_5, .ref q_6, .null, .null, .null, .null, .null, .int 0, .int 0, .int 0, .int 0])), (q_1, .inr (4, [.int 0, .ref d, .int 0])), (q_3, .inr (4, [.int 0, .ref d, .int 0])), (q_6, .inr (4, [.int 0, .ref d, .int 0]))] H := hP
  have hD : va_D A [(mx, .inr (14, [.ref q_1, .ref q_3, .ref q_5, .ref q_6, .null, .null, .null, .null, .null, .int 0, .int 0, .int 0, .int 0])), (q_1, .inr (4, [.int 0, .ref d, .int 0])), (q_3, .inr (4, [.int 0, .ref d, .int 0])), (q_6, .inr (4, [.int 0, .ref d, .int 0]))] := hD
  refine lv_aload_n hx hb dX9_init_49 rfl (lv_at hl 0 rfl) ?_
  refine lv_bipush (v := 8) hx hb dX9_init_50 (by decide) ?_
  refine va_newa (atype := .int) (ty := .int) (a0 := (8, (.inl (fun _ => 0)))) hx hb (hts (.arrayClass .int) (List.mem_of_getElem? (i := 13) rfl)) rfl hK hP hD hS hA (fun _ => rfl) (by decide) (by decide) (Nat.le_of_ble_eq_true rfl) (Nat.le_of_ble_eq_true rfl) (Nat.le_of_ble_eq_true rfl) dX9_init_52 (fun q_8 k_9 H hK hP hD hS => ?_)
  have hP : va_P (dC, dI) vwCl [(mx, .inr (14, [.ref q_1, .ref q_3, .ref q_5, .ref q_6, .null, .null, .null, .null, .null, .int 0, .int 0, .int 0, .int 0])), (q_1, .inr (4, [.int 0, .ref d, .int 0])), (q_3, .inr (4, [.int 0, .ref d, .int 0])), (q_6, .inr (4, [.int 0, .ref d, .int 0])), (q_8, .inl (k_9, 8, .inl (fun _ => 0)))] H := hP
  have hD : va_D A [(mx, .inr (14, [.ref q_1, .ref q_3, .ref q_5, .ref q_6, .null, .null, .null, .null, .null, .int 0, .int 0, .int 0, .int 0])), (q_1, .inr (4, [.int 0, .ref d, .int 0])), (q_3, .inr (4, [.int 0, .ref d, .int 0])), (q_6, .inr (4, [.int 0, .ref d, .int 0])), (q_8, .inl (k_9, 8, .inl (fun _ => 0)))] := hD
  have hK : va_K (dC, dI) vwCl [(k_9, .int)] s := hK
  refine W.widen (k := 29) (n := 617) (Nat.le_of_ble_eq_true rfl) (Nat.le_of_ble_eq_true rfl) ?_
  refine va_putF (D := (dC, dI)) (ci := 14) (v := .ref q_8) (ty := .array .int) (C := RX9) (T := TX9) (N := 13) hx hb hts (fun _ h9 => List.mem_cons_of_mem _ (List.mem_append_left _ (List.mem_append_right _ (h9)))) tyX9 tyX9_ok nmX9 hown hK hP hD hS 0 rfl rfl 4 (by decide) (hts (.fieldLink RX9 27 "ExamHallsModel" "least" "[I") (List.mem_of_getElem? (i := 14) rfl)) (fun _ h9 => h9) rfl hin rfl (by decide +kernel) rfl rfl (Nat.le_of_ble_eq_true rfl) dX9_init_54 (fun H locs hP hD hS => ?_)
  have hP : va_P (dC, dI) vwCl [(mx, .inr (14, [.ref q_1, .ref q_3, .ref q_5, .ref q_6, .ref q_8, .null, .null, .null, .null, .int 0, .int 0, .int 0, .int 0])), (q_1, .inr (4, [.int 0, .ref d, .int 0])), (q_3, .inr (4, [.int 0, .ref d, .int 0])), (q_6, .inr (4, [.int 0, .ref d, .int 0])), (q_8, .inl (k_9, 8, .inl (fun _ => 0)))] H := hP
  have hD : va_D A [(mx, .inr (14, [.ref q_1, .ref q_3, .ref q_5, .ref q_6, .ref q_8, .null, .null, .null, .null, .int 0, .int 0, .int 0, .int 0])), (q_1, .inr (4, [.int 0, .ref d, .int 0])), (q_3, .inr (4, [.int 0, .ref d, .int 0])), (q_6, .inr (4, [.int 0, .ref d, .int 0])), (q_8, .inl (k_9, 8, .inl (fun _ => 0)))] := hD
  refine lv_aload_n hx hb dX9_init_57 rfl (lv_at hl 0 rfl) ?_
  refine lv_bipush (v := 8) hx hb dX9_init_58 (by decide) ?_
  refine va_newa (atype := .int) (ty := .int) (a0 := (8, (.inl (fun _ => 0)))) hx hb (hts (.arrayClass .int) (List.mem_of_getElem? (i := 13) rfl)) rfl hK hP hD hS hA (fun _ => rfl) (by decide) (by decide) (Nat.le_of_ble_eq_true rfl) (Nat.le_of_ble_eq_true rfl) (Nat.le_of_ble_eq_true rfl) dX9_init_60 (fun q_10 k_11 H hK hP hD hS => ?_)
  have hP : va_P (dC, dI) vwCl [(mx, .inr (14, [.ref q_1, .ref q_3, .ref q_5, .ref q_6, .ref q_8, .null, .null, .null, .null, .int 0, .int 0, .int 0, .int 0])), (q_1, .inr (4, [.int 0, .ref d, .int 0])), (q_3, .inr (4, [.int 0, .ref d, .int 0])), (q_6, .inr (4, [.int 0, .ref d, .int 0])), (q_8, .inl (k_9, 8, .inl (fun _ => 0))), (q_10, .inl (k_11, 8, .inl (fun _ => 0)))] H := hP
  have hD : va_D A [(mx, .inr (14, [.ref q_1, .ref q_3, .ref q_5, .ref q_6, .ref q_8, .null, .null, .null, .null, .int 0, .int 0, .int 0, .int 0])), (q_1, .inr (4, [.int 0, .ref d, .int 0])), (q_3, .inr (4, [.int 0, .ref d, .int 0])), (q_6, .inr (4, [.int 0, .ref d, .int 0])), (q_8, .inl (k_9, 8, .inl (fun _ => 0))), (q_10, .inl (k_11, 8, .inl (fun _ => 0)))] := hD
  have hK : va_K (dC, dI) vwCl [(k_9, .int), (k_11, .int)] s := hK
  refine W.widen (k := 30) (n := 625) (Nat.le_of_ble_eq_true rfl) (Nat.le_of_ble_eq_true rfl) ?_
  refine va_putF (D := (dC, dI)) (ci := 14) (v := .ref q_10) (ty := .array .int) (C := RX9) (T := TX9) (N := 13) hx hb hts (fun _ h9 => List.mem_cons_of_mem _ (List.mem_append_left _ (List.mem_append_right _ (h9)))) tyX9 tyX9_ok nmX9 hown hK hP hD hS 0 rfl rfl 5 (by decide) (hts (.fieldLink RX9 31 "ExamHallsModel" "most" "[I") (List.mem_of_getElem? (i := 15) rfl)) (fun _ h9 => h9) rfl hin rfl (by decide +kernel) rfl rfl (Nat.le_of_ble_eq_true rfl) dX9_init_62 (fun H locs hP hD hS => ?_)
  have hP : va_P (dC, dI) vwCl [(mx, .inr (14, [.ref q_1, .ref q_3, .ref q_5, .ref q_6, .ref q_8, .ref q_10, .null, .null, .null, .int 0, .int 0, .int 0, .int 0])), (q_1, .inr (4, [.int 0, .ref d, .int 0])), (q_3, .inr (4, [.int 0, .ref d, .int 0])), (q_6, .inr (4, [.int 0, .ref d, .int 0])), (q_8, .inl (k_9, 8, .inl (fun _ => 0))), (q_10, .inl (k_11, 8, .inl (fun _ => 0)))] H := hP
  have hD : va_D A [(mx, .inr (14, [.ref q_1, .ref q_3, .ref q_5, .ref q_6, .ref q_8, .ref q_10, .null, .null, .null, .int 0, .int 0, .int 0, .int 0])), (q_1, .inr (4, [.int 0, .ref d, .int 0])), (q_3, .inr (4, [.int 0, .ref d, .int 0])), (q_6, .inr (4, [.int 0, .ref d, .int 0])), (q_8, .inl (k_9, 8, .inl (fun _ => 0))), (q_10, .inl (k_11, 8, .inl (fun _ => 0)))] := hD
  refine lv_aload_n hx hb dX9_init_65 rfl (lv_at hl 0 rfl) ?_
  refine va_new (ci := 4) (fs := [.int 0, .null, .int 0]) (C := RJx4a65c) (T := TJx4a65c) (N := 3) hx hb hts (fun _ h9 => List.mem_cons_of_mem _ (List.mem_append_left _ (List.mem_append_left _ (List.mem_append_right _ (h9))))) tyJx4a65c tyJx4a65c_ok hown (hts (.classLink RX9 7 RJx4a65c) (List.mem_of_getElem? (i := 4) rfl)) (hts (.instantiable RJx4a65c 3) (List.mem_of_getElem? (i := 5) rfl)) (hts (.initialized RJx4a65c) (List.mem_of_getElem? (i := 6) rfl)) hK hP hD hS hA rfl dfJx4a65c (Nat.le_of_ble_eq_true rfl) (Nat.le_of_ble_eq_true rfl) dX9_init_66 (fun q_12 H hP hD hS => ?_)
  have hP : va_P (dC, dI) vwCl [(mx, .inr (14, [.ref q_1, .ref q_3, .ref q_5, .ref q_6, .ref q_8, .ref q_10, .null, .null, .null, .int 0, .int 0, .int 0, .int 0])), (q_1, .inr (4, [.int 0, .ref d, .int 0])), (q_3, .inr (4, [.int 0, .ref d, .int 0])), (q_6, .inr (4, [.int 0, .ref d, .int 0])), (q_8, .inl (k_9, 8, .inl (fun _ => 0))), (q_10, .inl (k_11, 8, .inl (fun _ => 0))), (q_12, .inr (4, [.int 0, .null, .int 0]))] H := hP
  have hD : va_D A [(mx, .inr (14, [.ref q_1, .ref q_3, .ref q_5, .ref q_6, .ref q_8, .ref q_10, .null, .null, .null, .int 0, .int 0, .int 0, .int 0])), (q_1, .inr (4, [.int 0, .ref d, .int 0])), (q_3, .inr (4, [.int 0, .ref d, .int 0])), (q_6, .inr (4, [.int 0, .ref d, .int 0])), (q_8, .inl (k_9, 8, .inl (fun _ => 0))), (q_10, .inl (k_11, 8, .inl (fun _ => 0))), (q_12, .inr (4, [.int 0, .null, .int 0]))] := hD
  refine W.widen (k := 31) (n := 628) (Nat.le_of_ble_eq_true rfl) (Nat.le_of_ble_eq_true rfl) ?_
  refine lv_dup hx hb dX9_init_69 rfl ?_
  have hPc := hP.sub (ws' := [(q_12, .inr (4, [.int 0, .null, .int 0]))]) [6] rfl
  have hDc := hD.sub (ws' := [(q_12, .inr (4, [.int 0, .null, .int 0]))]) [6] (by decide) rfl
  have hKc := hK.sub (tys' := []) [] rfl
  have hFc := va_free (wc := [(q_12, .inr (4, [.int 0, .null, .int 0]))]) hD hS hA [6] rfl
  refine va_callv (va_runI (As := []) (rest := [.ref q_12, .ref mx]) ⟨hx, hb, hml, hown, hts⟩ (c_AL_init l dC dI d tc ad q_12 H.size) (cwI 0 hts gX9_init_Jx4a65c_init_da8c8 rfl rfl rfl (hts (.initialized RJx4a65c) (List.mem_of_getElem? (i := 6) rfl)) (hts (.methodLink RX9 9 yJx4a65c_init_da8c8) (List.mem_of_getElem? (i := 23) rfl)) (hts (.instanceMethod yJx4a65c_init_da8c8) (List.mem_of_getElem? (i := 24) rfl)) rfl (by decide +kernel) ⟨Nat.le_of_ble_eq_true rfl, Nat.le_of_ble_eq_true rfl⟩) ⟨PZ_blind, PZ_pre hPc hKc hDc hF hZ hS hFc⟩ rfl rfl hl.1 rfl (lv_room (Nat.le_of_ble_eq_true rfl)) dX9_init_70 ⟨Nat.le_of_ble_eq_true rfl, Nat.le_of_ble_eq_true rfl⟩) hS (fun q _ h => hFc q h) hFc (fun u t H1 locs ht hvm hw hB hz1 hk1 hS => ?_)
  obtain ⟨hP1, hK1, hD1⟩ := hB
  rw [ht] at hP1
  have hK1 := va_K.moved hvm.symm hK1
  obtain ⟨hP, hD⟩ := va_join (wr := [(mx, .inr (14, [.ref q_1, .ref q_3, .ref q_5, .ref q_6, .ref q_8, .ref q_10, .null, .null, .null, .int 0, .int 0, .int 0, .int 0])), (q_1, .inr (4, [.int 0, .ref d, .int 0])), (q_3, .inr (4, [.int 0, .ref d, .int 0])), (q_6, .inr (4, [.int 0, .ref d, .int 0])), (q_8, .inl (k_9, 8, .inl (fun _ => 0))), (q_10, .inl (k_11, 8, .inl (fun _ => 0)))]) (w1 := [(q_12, .inr (4, [.int 0, .ref d, .int 0]))]) hP hD [6] [0, 1, 2, 3, 4, 5] rfl rfl (by decide) (by decide) hk1 hFc hP1 hD1
  have hK := hK.app hK1
  generalize H1 = H at hP hS ⊢
  have hP : va_P (dC, dI) vwCl [(mx, .inr (14, [.ref q_1, .ref q_3, .ref q_5, .ref q_6, .ref q_8, .ref q_10, .null, .null, .null, .int 0, .int 0, .int 0, .int 0])), (q_1, .inr (4, [.int 0, .ref d, .int 0])), (q_3, .inr (4, [.int 0, .ref d, .int 0])), (q_6, .inr (4, [.int 0, .ref d, .int 0])), (q_8, .inl (k_9, 8, .inl (fun _ => 0))), (q_10, .inl (k_11, 8, .inl (fun _ => 0))), (q_12, .inr (4, [.int 0, .ref d, .int 0]))] H := hP
  have hD : va_D A [(mx, .inr (14, [.ref q_1, .ref q_3, .ref q_5, .ref q_6, .ref q_8, .ref q_10, .null, .null, .null, .int 0, .int 0, .int 0, .int 0])), (q_1, .inr (4, [.int 0, .ref d, .int 0])), (q_3, .inr (4, [.int 0, .ref d, .int 0])), (q_6, .inr (4, [.int 0, .ref d, .int 0])), (q_8, .inl (k_9, 8, .inl (fun _ => 0))), (q_10, .inl (k_11, 8, .inl (fun _ => 0))), (q_12, .inr (4, [.int 0, .ref d, .int 0]))] := hD
  have hK : va_K (dC, dI) vwCl [(k_9, .int), (k_11, .int)] s := hK
  refine W.widen (k := 31) (n := 628) (Nat.le_of_ble_eq_true rfl) (Nat.le_of_ble_eq_true rfl) ?_
  refine va_putF (D := (dC, dI)) (ci := 14) (v := .ref q_12) (ty := .object "java/util/List") (C := RX9) (T := TX9) (N := 13) hx hb hts (fun _ h9 => List.mem_cons_of_mem _ (List.mem_append_left _ (List.mem_append_right _ (h9)))) tyX9 tyX9_ok nmX9 hown hK hP hD hS 0 rfl rfl 6 (by decide) (hts (.fieldLink RX9 34 "ExamHallsModel" "parallels" "Ljava/util/List;") (List.mem_of_getElem? (i := 16) rfl)) (fun _ h9 => h9) rfl hin rfl (by decide +kernel) rfl rfl (Nat.le_of_ble_eq_true rfl) dX9_init_73 (fun H locs hP hD hS => ?_)
  have hP : va_P (dC, dI) vwCl [(mx, .inr (14, [.ref q_1, .ref q_3, .ref q_5, .ref q_6, .ref q_8, .ref q_10, .ref q_12, .null, .null, .int 0, .int 0, .int 0, .int 0])), (q_1, .inr (4, [.int 0, .ref d, .int 0])), (q_3, .inr (4, [.int 0, .ref d, .int 0])), (q_6, .inr (4, [.int 0, .ref d, .int 0])), (q_8, .inl (k_9, 8, .inl (fun _ => 0))), (q_10, .inl (k_11, 8, .inl (fun _ => 0))), (q_12, .inr (4, [.int 0, .ref d, .int 0]))] H := hP
  have hD : va_D A [(mx, .inr (14, [.ref q_1, .ref q_3, .ref q_5, .ref q_6, .ref q_8, .ref q_10, .ref q_12, .null, .null, .int 0, .int 0, .int 0, .int 0])), (q_1, .inr (4, [.int 0, .ref d, .int 0])), (q_3, .inr (4, [.int 0, .ref d, .int 0])), (q_6, .inr (4, [.int 0, .ref d, .int 0])), (q_8, .inl (k_9, 8, .inl (fun _ => 0))), (q_10, .inl (k_11, 8, .inl (fun _ => 0))), (q_12, .inr (4, [.int 0, .ref d, .int 0]))] := hD
  refine lv_aload_n hx hb dX9_init_76 rfl (lv_at hl 0 rfl) ?_
  refine va_new (ci := 4) (fs := [.int 0, .null, .int 0]) (C := RJx4a65c) (T := TJx4a65c) (N := 3) hx hb hts (fun _ h9 => List.mem_cons_of_mem _ (List.mem_append_left _ (List.mem_append_left _ (List.mem_append_right _ (h9))))) tyJx4a65c tyJx4a65c_ok hown (hts (.classLink RX9 7 RJx4a65c) (List.mem_of_getElem? (i := 4) rfl)) (hts (.instantiable RJx4a65c 3) (List.mem_of_getElem? (i := 5) rfl)) (hts (.initialized RJx4a65c) (List.mem_of_getElem? (i := 6) rfl)) hK hP hD hS hA rfl dfJx4a65c (Nat.le_of_ble_eq_true rfl) (Nat.le_of_ble_eq_true rfl) dX9_init_77 (fun q_14 H hP hD hS => ?_)
  have hP : va_P (dC, dI) vwCl [(mx, .inr (14, [.ref q_1, .ref q_3, .ref q_5, .ref q_6, .ref q_8, .ref q_10, .ref q_12, .null, .null, .int 0, .int 0, .int 0, .int 0])), (q_1, .inr (4, [.int 0, .ref d, .int 0])), (q_3, .inr (4, [.int 0, .ref d, .int 0])), (q_6, .inr (4, [.int 0, .ref d, .int 0])), (q_8, .inl (k_9, 8, .inl (fun _ => 0))), (q_10, .inl (k_11, 8, .inl (fun _ => 0))), (q_12, .inr (4, [.int 0, .ref d, .int 0])), (q_14, .inr (4, [.int 0, .null, .int 0]))] H := hP
  have hD : va_D A [(mx, .inr (14, [.ref q_1, .ref q_3, .ref q_5, .ref q_6, .ref q_8, .ref q_10, .ref q_12, .null, .null, .int 0, .int 0, .int 0, .int 0])), (q_1, .inr (4, [.int 0, .ref d, .int 0])), (q_3, .inr (4, [.int 0, .ref d, .int 0])), (q_6, .inr (4, [.int 0, .ref d, .int 0])), (q_8, .inl (k_9, 8, .inl (fun _ => 0))), (q_10, .inl (k_11, 8, .inl (fun _ => 0))), (q_12, .inr (4, [.int 0, .ref d, .int 0])), (q_14, .inr (4, [.int 0, .null, .int 0]))] := hD
  refine W.widen (k := 32) (n := 631) (Nat.le_of_ble_eq_true rfl) (Nat.le_of_ble_eq_true rfl) ?_
  refine lv_dup hx hb dX9_init_80 rfl ?_
  have hPc := hP.sub (ws' := [(q_14, .inr (4, [.int 0, .null, .int 0]))]) [7] rfl
  have hDc := hD.sub (ws' := [(q_14, .inr (4, [.int 0, .null, .int 0]))]) [7] (by decide) rfl
  have hKc := hK.sub (tys' := []) [] rfl
  have hFc := va_free (wc := [(q_14, .inr (4, [.int 0, .null, .int 0]))]) hD hS hA [7] rfl
  refine va_callv (va_runI (As := []) (rest := [.ref q_14, .ref mx]) ⟨hx, hb, hml, hown, hts⟩ (c_AL_init l dC dI d tc ad q_14 H.size) (cwI 0 hts gX9_init_Jx4a65c_init_da8c8 rfl rfl rfl (hts (.initialized RJx4a65c) (List.mem_of_getElem? (i := 6) rfl)) (hts (.methodLink RX9 9 yJx4a65c_init_da8c8) (List.mem_of_getElem? (i := 23) rfl)) (hts (.instanceMethod yJx4a65c_init_da8c8) (List.mem_of_getElem? (i := 24) rfl)) rfl (by decide +kernel) ⟨Nat.le_of_ble_eq_true rfl, Nat.le_of_ble_eq_true rfl⟩) ⟨PZ_blind, PZ_pre hPc hKc hDc hF hZ hS hFc⟩ rfl rfl hl.1 rfl (lv_room (Nat.le_of_ble_eq_true rfl)) dX9_init_81 ⟨Nat.le_of_ble_eq_true rfl, Nat.le_of_ble_eq_true rfl⟩) hS (fun q _ h => hFc q h) hFc (fun u t H1 locs ht hvm hw hB hz1 hk1 hS => ?_)
  obtain ⟨hP1, hK1, hD1⟩ := hB
  rw [ht] at hP1
  have hK1 := va_K.moved hvm.symm hK1
  obtain ⟨hP, hD⟩ := va_join (wr := [(mx, .inr (14, [.ref q_1, .ref q_3, .ref q_5, .ref q_6, .ref q_8, .ref q_10, .ref q_12, .null, .null, .int 0, .int 0, .int 0, .int 0])), (q_1, .inr (4, [.int 0, .ref d, .int 0])), (q_3, .inr (4, [.int 0, .ref d, .int 0])), (q_6, .inr (4, [.int 0, .ref d, .int 0])), (q_8, .inl (k_9, 8, .inl (fun _ => 0))), (q_10, .inl (k_11, 8, .inl (fun _ => 0))), (q_12, .inr (4, [.int 0, .ref d, .int 0]))]) (w1 := [(q_14, .inr (4, [.int 0, .ref d, .int 0]))]) hP hD [7] [0, 1, 2, 3, 4, 5, 6] rfl rfl (by decide) (by decide) hk1 hFc hP1 hD1
  have hK := hK.app hK1
  generalize H1 = H at hP hS ⊢
  have hP : va_P (dC, dI) vwCl [(mx, .inr (14, [.ref q_1, .ref q_3, .ref q_5, .ref q_6, .ref q_8, .ref q_10, .ref q_12, .null, .null, .int 0, .int 0, .int 0, .int 0])), (q_1, .inr (4, [.int 0, .ref d, .int 0])), (q_3, .inr (4, [.int 0, .ref d, .int 0])), (q_6, .inr (4, [.int 0, .ref d, .int 0])), (q_8, .inl (k_9, 8, .inl (fun _ => 0))), (q_10, .inl (k_11, 8, .inl (fun _ => 0))), (q_12, .inr (4, [.int 0, .ref d, .int 0])), (q_14, .inr (4, [.int 0, .ref d, .int 0]))] H := hP
  have hD : va_D A [(mx, .inr (14, [.ref q_1, .ref q_3, .ref q_5, .ref q_6, .ref q_8, .ref q_10, .ref q_12, .null, .null, .int 0, .int 0, .int 0, .int 0])), (q_1, .inr (4, [.int 0, .ref d, .int 0])), (q_3, .inr (4, [.int 0, .ref d, .int 0])), (q_6, .inr (4, [.int 0, .ref d, .int 0])), (q_8, .inl (k_9, 8, .inl (fun _ => 0))), (q_10, .inl (k_11, 8, .inl (fun _ => 0))), (q_12, .inr (4, [.int 0, .ref d, .int 0])), (q_14, .inr (4, [.int 0, .ref d, .int 0]))] := hD
  have hK : va_K (dC, dI) vwCl [(k_9, .int), (k_11, .int)] s := hK
  refine W.widen (k := 32) (n := 631) (Nat.le_of_ble_eq_true rfl) (Nat.le_of_ble_eq_true rfl) ?_
  refine va_putF (D := (dC, dI)) (ci := 14) (v := .ref q_14) (ty := .object "java/util/List") (C := RX9) (T := TX9) (N := 13) hx hb hts (fun _ h9 => List.mem_cons_of_mem _ (List.mem_append_left _ (List.mem_append_right _ (h9)))) tyX9 tyX9_ok nmX9 hown hK hP hD hS 0 rfl rfl 7 (by decide) (hts (.fieldLink RX9 37 "ExamHallsModel" "barred" "Ljava/util/List;") (List.mem_of_getElem? (i := 17) rfl)) (fun _ h9 => h9) rfl hin rfl (by decide +kernel) rfl rfl (Nat.le_of_ble_eq_true rfl) dX9_init_84 (fun H locs hP hD hS => ?_)
  have hP : va_P (dC, dI) vwCl [(mx, .inr (14, [.ref q_1, .ref q_3, .ref q_5, .ref q_6, .ref q_8, .ref q_10, .ref q_12, .ref q_14, .null, .int 0, .int 0, .int 0, .int 0])), (q_1, .inr (4, [.int 0, .ref d, .int 0])), (q_3, .inr (4, [.int 0, .ref d, .int 0])), (q_6, .inr (4, [.int 0, .ref d, .int 0])), (q_8, .inl (k_9, 8, .inl (fun _ => 0))), (q_10, .inl (k_11, 8, .inl (fun _ => 0))), (q_12, .inr (4, [.int 0, .ref d, .int 0])), (q_14, .inr (4, [.int 0, .ref d, .int 0]))] H := hP
  have hD : va_D A [(mx, .inr (14, [.ref q_1, .ref q_3, .ref q_5, .ref q_6, .ref q_8, .ref q_10, .ref q_12, .ref q_14, .null, .int 0, .int 0, .int 0, .int 0])), (q_1, .inr (4, [.int 0, .ref d, .int 0])), (q_3, .inr (4, [.int 0, .ref d, .int 0])), (q_6, .inr (4, [.int 0, .ref d, .int 0])), (q_8, .inl (k_9, 8, .inl (fun _ => 0))), (q_10, .inl (k_11, 8, .inl (fun _ => 0))), (q_12, .inr (4, [.int 0, .ref d, .int 0])), (q_14, .inr (4, [.int 0, .ref d, .int 0]))] := hD
  refine lv_aload_n hx hb dX9_init_87 rfl (lv_at hl 0 rfl) ?_
  refine lv_iconst (v := 4) hx hb dX9_init_88 (by decide) ?_
  refine va_newa (atype := .int) (ty := .int) (a0 := (4, (.inl (fun _ => 0)))) hx hb (hts (.arrayClass .int) (List.mem_of_getElem? (i := 13) rfl)) rfl hK hP hD hS hA (fun _ => rfl) (by decide) (by decide) (Nat.le_of_ble_eq_true rfl) (Nat.le_of_ble_eq_true rfl) (Nat.le_of_ble_eq_true rfl) dX9_init_89 (fun q_16 k_17 H hK hP hD hS => ?_)
  have hP : va_P (dC, dI) vwCl [(mx, .inr (14, [.ref q_1, .ref q_3, .ref q_5, .ref q_6, .ref q_8, .ref q_10, .ref q_12, .ref q_14, .null, .int 0, .int 0, .int 0, .int 0])), (q_1, .inr (4, [.int 0, .ref d, .int 0])), (q_3, .inr (4, [.int 0, .ref d, .int 0])), (q_6, .inr (4, [.int 0, .ref d, .int 0])), (q_8, .inl (k_9, 8, .inl (fun _ => 0))), (q_10, .inl (k_11, 8, .inl (fun _ => 0))), (q_12, .inr (4, [.int 0, .ref d, .int 0])), (q_14, .inr (4, [.int 0, .ref d, .int 0])), (q_16, .inl (k_17, 4, .inl (fun _ => 0)))] H := hP
  have hD : va_D A [(mx, .inr (14, [.ref q_1, .ref q_3, .ref q_5, .ref q_6, .ref q_8, .ref q_10, .ref q_12, .ref q_14, .null, .int 0, .int 0, .int 0, .int 0])), (q_1, .inr (4, [.int 0, .ref d, .int 0])), (q_3, .inr (4, [.int 0, .ref d, .int 0])), (q_6, .inr (4, [.int 0, .ref d, .int 0])), (q_8, .inl (k_9, 8, .inl (fun _ => 0))), (q_10, .inl (k_11, 8, .inl (fun _ => 0))), (q_12, .inr (4, [.int 0, .ref d, .int 0])), (q_14, .inr (4, [.int 0, .ref d, .int 0])), (q_16, .inl (k_17, 4, .inl (fun _ => 0)))] := hD
  have hK : va_K (dC, dI) vwCl [(k_9, .int), (k_11, .int), (k_17, .int)] s := hK
  refine W.widen (k := 33) (n := 635) (Nat.le_of_ble_eq_true rfl) (Nat.le_of_ble_eq_true rfl) ?_
  refine va_putF (D := (dC, dI)) (ci := 14) (v := .ref q_16) (ty := .array .int) (C := RX9) (T := TX9) (N := 13) hx hb hts (fun _ h9 => List.mem_cons_of_mem _ (List.mem_append_left _ (List.mem_append_right _ (h9)))) tyX9 tyX9_ok nmX9 hown hK hP hD hS 0 rfl rfl 8 (by decide) (hts (.fieldLink RX9 40 "ExamHallsModel" "quotas" "[I") (List.mem_of_getElem? (i := 18) rfl)) (fun _ h9 => h9) rfl hin rfl (by decide +kernel) rfl rfl (Nat.le_of_ble_eq_true rfl) dX9_init_91 (fun H locs hP hD hS => ?_)
  have hP : va_P (dC, dI) vwCl [(mx, .inr (14, [.ref q_1, .ref q_3, .ref q_5, .ref q_6, .ref q_8, .ref q_10, .ref q_12, .ref q_14, .ref q_16, .int 0, .int 0, .int 0, .int 0])), (q_1, .inr (4, [.int 0, .ref d, .int 0])), (q_3, .inr (4, [.int 0, .ref d, .int 0])), (q_6, .inr (4, [.int 0, .ref d, .int 0])), (q_8, .inl (k_9, 8, .inl (fun _ => 0))), (q_10, .inl (k_11, 8, .inl (fun _ => 0))), (q_12, .inr (4, [.int 0, .ref d, .int 0])), (q_14, .inr (4, [.int 0, .ref d, .int 0])), (q_16, .inl (k_17, 4, .inl (fun _ => 0)))] H := hP
  have hD : va_D A [(mx, .inr (14, [.ref q_1, .ref q_3, .ref q_5, .ref q_6, .ref q_8, .ref q_10, .ref q_12, .ref q_14, .ref q_16, .int 0, .int 0, .int 0, .int 0])), (q_1, .inr (4, [.int 0, .ref d, .int 0])), (q_3, .inr (4, [.int 0, .ref d, .int 0])), (q_6, .inr (4, [.int 0, .ref d, .int 0])), (q_8, .inl (k_9, 8, .inl (fun _ => 0))), (q_10, .inl (k_11, 8, .inl (fun _ => 0))), (q_12, .inr (4, [.int 0, .ref d, .int 0])), (q_14, .inr (4, [.int 0, .ref d, .int 0])), (q_16, .inl (k_17, 4, .inl (fun _ => 0)))] := hD
  refine lv_aload_n hx hb dX9_init_94 rfl (lv_at hl 0 rfl) ?_
  refine lv_iconst (v := 1) hx hb dX9_init_95 (by decide) ?_
  refine va_put (D := (dC, dI)) (ci := 14) (v := .int 1) (ty := .int) (C := RX9) (T := TX9) (N := 13) hx hb hts (fun _ h9 => List.mem_cons_of_mem _ (List.mem_append_left _ (List.mem_append_right _ (h9)))) tyX9 tyX9_ok nmX9 hown hK hP hD hS 0 rfl rfl 9 (by decide) (hts (.fieldLink RX9 43 "ExamHallsModel" "formLegs" "I") (List.mem_of_getElem? (i := 19) rfl)) (fun _ h9 => h9) rfl (by decide +kernel) rfl rfl (Nat.le_of_ble_eq_true rfl) dX9_init_96 (fun H locs hP hD hS => ?_)
  have hP : va_P (dC, dI) vwCl [(mx, .inr (14, [.ref q_1, .ref q_3, .ref q_5, .ref q_6, .ref q_8, .ref q_10, .ref q_12, .ref q_14, .ref q_16, .int 1, .int 0, .int 0, .int 0])), (q_1, .inr (4, [.int 0, .ref d, .int 0])), (q_3, .inr (4, [.int 0, .ref d, .int 0])), (q_6, .inr (4, [.int 0, .ref d, .int 0])), (q_8, .inl (k_9, 8, .inl (fun _ => 0))), (q_10, .inl (k_11, 8, .inl (fun _ => 0))), (q_12, .inr (4, [.int 0, .ref d, .int 0])), (q_14, .inr (4, [.int 0, .ref d, .int 0])), (q_16, .inl (k_17, 4, .inl (fun _ => 0)))] H := hP
  have hD : va_D A [(mx, .inr (14, [.ref q_1, .ref q_3, .ref q_5, .ref q_6, .ref q_8, .ref q_10, .ref q_12, .ref q_14, .ref q_16, .int 1, .int 0, .int 0, .int 0])), (q_1, .inr (4, [.int 0, .ref d, .int 0])), (q_3, .inr (4, [.int 0, .ref d, .int 0])), (q_6, .inr (4, [.int 0, .ref d, .int 0])), (q_8, .inl (k_9, 8, .inl (fun _ => 0))), (q_10, .inl (k_11, 8, .inl (fun _ => 0))), (q_12, .inr (4, [.int 0, .ref d, .int 0])), (q_14, .inr (4, [.int 0, .ref d, .int 0])), (q_16, .inl (k_17, 4, .inl (fun _ => 0)))] := hD
  refine lv_aload_n hx hb dX9_init_99 rfl (lv_at hl 0 rfl) ?_
  refine lv_bipush (v := 10) hx hb dX9_init_100 (by decide) ?_
  refine va_put (D := (dC, dI)) (ci := 14) (v := .int 10) (ty := .int) (C := RX9) (T := TX9) (N := 13) hx hb hts (fun _ h9 => List.mem_cons_of_mem _ (List.mem_append_left _ (List.mem_append_right _ (h9)))) tyX9 tyX9_ok nmX9 hown hK hP hD hS 0 rfl rfl 10 (by decide) (hts (.fieldLink RX9 47 "ExamHallsModel" "apart" "I") (List.mem_of_getElem? (i := 20) rfl)) (fun _ h9 => h9) rfl (by decide +kernel) rfl rfl (Nat.le_of_ble_eq_true rfl) dX9_init_102 (fun H locs hP hD hS => ?_)
  have hP : va_P (dC, dI) vwCl [(mx, .inr (14, [.ref q_1, .ref q_3, .ref q_5, .ref q_6, .ref q_8, .ref q_10, .ref q_12, .ref q_14, .ref q_16, .int 1, .int 10, .int 0, .int 0])), (q_1, .inr (4, [.int 0, .ref d, .int 0])), (q_3, .inr (4, [.int 0, .ref d, .int 0])), (q_6, .inr (4, [.int 0, .ref d, .int 0])), (q_8, .inl (k_9, 8, .inl (fun _ => 0))), (q_10, .inl (k_11, 8, .inl (fun _ => 0))), (q_12, .inr (4, [.int 0, .ref d, .int 0])), (q_14, .inr (4, [.int 0, .ref d, .int 0])), (q_16, .inl (k_17, 4, .inl (fun _ => 0)))] H := hP
  have hD : va_D A [(mx, .inr (14, [.ref q_1, .ref q_3, .ref q_5, .ref q_6, .ref q_8, .ref q_10, .ref q_12, .ref q_14, .ref q_16, .int 1, .int 10, .int 0, .int 0])), (q_1, .inr (4, [.int 0, .ref d, .int 0])), (q_3, .inr (4, [.int 0, .ref d, .int 0])), (q_6, .inr (4, [.int 0, .ref d, .int 0])), (q_8, .inl (k_9, 8, .inl (fun _ => 0))), (q_10, .inl (k_11, 8, .inl (fun _ => 0))), (q_12, .inr (4, [.int 0, .ref d, .int 0])), (q_14, .inr (4, [.int 0, .ref d, .int 0])), (q_16, .inl (k_17, 4, .inl (fun _ => 0)))] := hD
  refine lv_aload_n hx hb dX9_init_105 rfl (lv_at hl 0 rfl) ?_
  refine lv_iconst (v := 0) hx hb dX9_init_106 (by decide) ?_
  refine va_put (D := (dC, dI)) (ci := 14) (v := .int 0) (ty := .int) (C := RX9) (T := TX9) (N := 13) hx hb hts (fun _ h9 => List.mem_cons_of_mem _ (List.mem_append_left _ (List.mem_append_right _ (h9)))) tyX9 tyX9_ok nmX9 hown hK hP hD hS 0 rfl rfl 11 (by decide) (hts (.fieldLink RX9 50 "ExamHallsModel" "ties" "I") (List.mem_of_getElem? (i := 21) rfl)) (fun _ h9 => h9) rfl (by decide +kernel) rfl rfl (Nat.le_of_ble_eq_true rfl) dX9_init_107 (fun H locs hP hD hS => ?_)
  have hP : va_P (dC, dI) vwCl [(mx, .inr (14, [.ref q_1, .ref q_3, .ref q_5, .ref q_6, .ref q_8, .ref q_10, .ref q_12, .ref q_14, .ref q_16, .int 1, .int 10, .int 0, .int 0])), (q_1, .inr (4, [.int 0, .ref d, .int 0])), (q_3, .inr (4, [.int 0, .ref d, .int 0])), (q_6, .inr (4, [.int 0, .ref d, .int 0])), (q_8, .inl (k_9, 8, .inl (fun _ => 0))), (q_10, .inl (k_11, 8, .inl (fun _ => 0))), (q_12, .inr (4, [.int 0, .ref d, .int 0])), (q_14, .inr (4, [.int 0, .ref d, .int 0])), (q_16, .inl (k_17, 4, .inl (fun _ => 0)))] H := hP
  have hD : va_D A [(mx, .inr (14, [.ref q_1, .ref q_3, .ref q_5, .ref q_6, .ref q_8, .ref q_10, .ref q_12, .ref q_14, .ref q_16, .int 1, .int 10, .int 0, .int 0])), (q_1, .inr (4, [.int 0, .ref d, .int 0])), (q_3, .inr (4, [.int 0, .ref d, .int 0])), (q_6, .inr (4, [.int 0, .ref d, .int 0])), (q_8, .inl (k_9, 8, .inl (fun _ => 0))), (q_10, .inl (k_11, 8, .inl (fun _ => 0))), (q_12, .inr (4, [.int 0, .ref d, .int 0])), (q_14, .inr (4, [.int 0, .ref d, .int 0])), (q_16, .inl (k_17, 4, .inl (fun _ => 0)))] := hD
  refine lv_aload_n hx hb dX9_init_110 rfl (lv_at hl 0 rfl) ?_
  refine lv_iconst (v := 0) hx hb dX9_init_111 (by decide) ?_
  refine va_put (D := (dC, dI)) (ci := 14) (v := .int 0) (ty := .int) (C := RX9) (T := TX9) (N := 13) hx hb hts (fun _ h9 => List.mem_cons_of_mem _ (List.mem_append_left _ (List.mem_append_right _ (h9)))) tyX9 tyX9_ok nmX9 hown hK hP hD hS 0 rfl rfl 12 (by decide) (hts (.fieldLink RX9 53 "ExamHallsModel" "way" "I") (List.mem_of_getElem? (i := 22) rfl)) (fun _ h9 => h9) rfl (by decide +kernel) rfl rfl (Nat.le_of_ble_eq_true rfl) dX9_init_112 (fun H locs hP hD hS => ?_)
  have hP : va_P (dC, dI) vwCl [(mx, .inr (14, [.ref q_1, .ref q_3, .ref q_5, .ref q_6, .ref q_8, .ref q_10, .ref q_12, .ref q_14, .ref q_16, .int 1, .int 10, .int 0, .int 0])), (q_1, .inr (4, [.int 0, .ref d, .int 0])), (q_3, .inr (4, [.int 0, .ref d, .int 0])), (q_6, .inr (4, [.int 0, .ref d, .int 0])), (q_8, .inl (k_9, 8, .inl (fun _ => 0))), (q_10, .inl (k_11, 8, .inl (fun _ => 0))), (q_12, .inr (4, [.int 0, .ref d, .int 0])), (q_14, .inr (4, [.int 0, .ref d, .int 0])), (q_16, .inl (k_17, 4, .inl (fun _ => 0)))] H := hP
  have hD : va_D A [(mx, .inr (14, [.ref q_1, .ref q_3, .ref q_5, .ref q_6, .ref q_8, .ref q_10, .ref q_12, .ref q_14, .ref q_16, .int 1, .int 10, .int 0, .int 0])), (q_1, .inr (4, [.int 0, .ref d, .int 0])), (q_3, .inr (4, [.int 0, .ref d, .int 0])), (q_6, .inr (4, [.int 0, .ref d, .int 0])), (q_8, .inl (k_9, 8, .inl (fun _ => 0))), (q_10, .inl (k_11, 8, .inl (fun _ => 0))), (q_12, .inr (4, [.int 0, .ref d, .int 0])), (q_14, .inr (4, [.int 0, .ref d, .int 0])), (q_16, .inl (k_17, 4, .inl (fun _ => 0)))] := hD
  refine lv_iconst (v := 0) hx hb dX9_init_115 (by decide) ?_
  refine lv_istore_n (lv' := [(1, .int 0), (0, .ref mx)]) hx hb dX9_init_116 rfl hl (by decide) rfl (fun ls hl => ?_)
  refine lv_iload_n hx hb dX9_init_117 rfl (lv_at hl 0 rfl) ?_
  refine lv_bipush (v := 8) hx hb dX9_init_118 (by decide) ?_
  refine lv_icmp_ge (tgt := 144) hx hb dX9_init_120 (by decide) (fun c_18 => absurd c_18 (by decide)) (fun _ => ?_)
  refine lv_aload_n hx hb dX9_init_123 rfl (lv_at hl 1 rfl) ?_
  refine va_get (D := (dC, dI)) (ci := 14) (v := .ref q_8) (C := RX9) (T := TX9) (N := 13) hx hb hts (fun _ h9 => List.mem_cons_of_mem _ (List.mem_append_left _ (List.mem_append_right _ (h9)))) hown hK hP 0 rfl rfl 4 (by decide) (hts (.fieldLink RX9 27 "ExamHallsModel" "least" "[I") (List.mem_of_getElem? (i := 14) rfl)) (fun _ h9 => h9) rfl dX9_init_124 ?_
  refine lv_iload_n hx hb dX9_init_127 rfl (lv_at hl 0 rfl) ?_
  refine lv_iconst (v := 1) hx hb dX9_init_128 (by decide) ?_
  refine va_iast hx hb hK hP hD hS 4 0 rfl rfl (by unfold vp_in; decide) dX9_init_129 (fun H locs hP hD hS => ?_)
  have hP : va_P (dC, dI) vwCl [(mx, .inr (14, [.ref q_1, .ref q_3, .ref q_5, .ref q_6, .ref q_8, .ref q_10, .ref q_12, .ref q_14, .ref q_16, .int 1, .int 10, .int 0, .int 0])), (q_1, .inr (4, [.int 0, .ref d, .int 0])), (q_3, .inr (4, [.int 0, .ref d, .int 0])), (q_6, .inr (4, [.int 0, .ref d, .int 0])), (q_8, .inl (k_9, 8, .inl (upd (fun _ => 0) (0 : Int32).toNatClampNeg (1 : Int32)))), (q_10, .inl (k_11, 8, .inl (fun _ => 0))), (q_12, .inr (4, [.int 0, .ref d, .int 0])), (q_14, .inr (4, [.int 0, .ref d, .int 0])), (q_16, .inl (k_17, 4, .inl (fun _ => 0)))] H := hP
  have hD : va_D A [(mx, .inr (14, [.ref q_1, .ref q_3, .ref q_5, .ref q_6, .ref q_8, .ref q_10, .ref q_12, .ref q_14, .ref q_16, .int 1, .int 10, .int 0, .int 0])), (q_1, .inr (4, [.int 0, .ref d, .int 0])), (q_3, .inr (4, [.int 0, .ref d, .int 0])), (q_6, .inr (4, [.int 0, .ref d, .int 0])), (q_8, .inl (k_9, 8, .inl (upd (fun _ => 0) (0 : Int32).toNatClampNeg (1 : Int32)))), (q_10, .inl (k_11, 8, .inl (fun _ => 0))), (q_12, .inr (4, [.int 0, .ref d, .int 0])), (q_14, .inr (4, [.int 0, .ref d, .int 0])), (q_16, .inl (k_17, 4, .inl (fun _ => 0)))] := hD
  generalize (upd (fun _ => 0) (0 : Int32).toNatClampNeg (1 : Int32)) = a_19 at hP hD
  refine lv_aload_n hx hb dX9_init_130 rfl (lv_at hl 1 rfl) ?_
  refine va_get (D := (dC, dI)) (ci := 14) (v := .ref q_10) (C := RX9) (T := TX9) (N := 13) hx hb hts (fun _ h9 => List.mem_cons_of_mem _ (List.mem_append_left _ (List.mem_append_right _ (h9)))) hown hK hP 0 rfl rfl 5 (by decide) (hts (.fieldLink RX9 31 "ExamHallsModel" "most" "[I") (List.mem_of_getElem? (i := 15) rfl)) (fun _ h9 => h9) rfl dX9_init_131 ?_
  refine lv_iload_n hx hb dX9_init_134 rfl (lv_at hl 0 rfl) ?_
  refine lv_bipush (v := 12) hx hb dX9_init_135 (by decide) ?_
  refine va_iast hx hb hK hP hD hS 5 1 rfl rfl (by unfold vp_in; decide) dX9_init_137 (fun H locs hP hD hS => ?_)
  have hP : va_P (dC, dI) vwCl [(mx, .inr (14, [.ref q_1, .ref q_3, .ref q_5, .ref q_6, .ref q_8, .ref q_10, .ref q_12, .ref q_14, .ref q_16, .int 1, .int 10, .int 0, .int 0])), (q_1, .inr (4, [.int 0, .ref d, .int 0])), (q_3, .inr (4, [.int 0, .ref d, .int 0])), (q_6, .inr (4, [.int 0, .ref d, .int 0])), (q_8, .inl (k_9, 8, .inl a_19)), (q_10, .inl (k_11, 8, .inl (upd (fun _ => 0) (0 : Int32).toNatClampNeg (12 : Int32)))), (q_12, .inr (4, [.int 0, .ref d, .int 0])), (q_14, .inr (4, [.int 0, .ref d, .int 0])), (q_16, .inl (k_17, 4, .inl (fun _ => 0)))] H := hP
  have hD : va_D A [(mx, .inr (14, [.ref q_1, .ref q_3, .ref q_5, .ref q_6, .ref q_8, .ref q_10, .ref q_12, .ref q_14, .ref q_16, .int 1, .int 10, .int 0, .int 0])), (q_1, .inr (4, [.int 0, .ref d, .int 0])), (q_3, .inr (4, [.int 0, .ref d, .int 0])), (q_6, .inr (4, [.int 0, .ref d, .int 0])), (q_8, .inl (k_9, 8, .inl a_19)), (q_10, .inl (k_11, 8, .inl (upd (fun _ => 0) (0 : Int32).toNatClampNeg (12 : Int32)))), (q_12, .inr (4, [.int 0, .ref d, .int 0])), (q_14, .inr (4, [.int 0, .ref d, .int 0])), (q_16, .inl (k_17, 4, .inl (fun _ => 0)))] := hD
  generalize (upd (fun _ => 0) (0 : Int32).toNatClampNeg (12 : Int32)) = a_20 at hP hD
  refine lv_iinc (v := 1) (lv' := [(1, .int 1), (0, .ref mx)]) hx hb dX9_init_138 hl (k := 0) rfl (by decide) (by decide) rfl (fun ls hl => ?_)
  refine lv_goto (tgt := 117) hx hb dX9_init_141 (by decide) ?_
  refine lv_iload_n hx hb dX9_init_117 rfl (lv_at hl 0 rfl) ?_
  refine lv_bipush (v := 8) hx hb dX9_init_118 (by decide) ?_
  refine lv_icmp_ge (tgt := 144) hx hb dX9_init_120 (by decide) (fun c_21 => absurd c_21 (by decide)) (fun _ => ?_)
  refine lv_aload_n hx hb dX9_init_123 rfl (lv_at hl 1 rfl) ?_
  refine va_get (D := (dC, dI)) (ci := 14) (v := .ref q_8) (C := RX9) (T := TX9) (N := 13) hx hb hts (fun _ h9 => List.mem_cons_of_mem _ (List.mem_append_left _ (List.mem_append_right _ (h9)))) hown hK hP 0 rfl rfl 4 (by decide) (hts (.fieldLink RX9 27 "ExamHallsModel" "least" "[I") (List.mem_of_getElem? (i := 14) rfl)) (fun _ h9 => h9) rfl dX9_init_124 ?_
  refine lv_iload_n hx hb dX9_init_127 rfl (lv_at hl 0 rfl) ?_
  refine lv_iconst (v := 1) hx hb dX9_init_128 (by decide) ?_
  refine va_iast hx hb hK hP hD hS 4 0 rfl rfl (by unfold vp_in; decide) dX9_init_129 (fun H locs hP hD hS => ?_)
  have hP : va_P (dC, dI) vwCl [(mx, .inr (14, [.ref q_1, .ref q_3, .ref q_5, .ref q_6, .ref q_8, .ref q_10, .ref q_12, .ref q_14, .ref q_16, .int 1, .int 10, .int 0, .int 0])), (q_1, .inr (4, [.int 0, .ref d, .int 0])), (q_3, .inr (4, [.int 0, .ref d, .int 0])), (q_6, .inr (4, [.int 0, .ref d, .int 0])), (q_8, .inl (k_9, 8, .inl (upd a_19 (1 : Int32).toNatClampNeg (1 : Int32)))), (q_10, .inl (k_11, 8, .inl a_20)), (q_12, .inr (4, [.int 0, .ref d, .int 0])), (q_14, .inr (4, [.int 0, .ref d, .int 0])), (q_16, .inl (k_17, 4, .inl (fun _ => 0)))] H := hP
  have hD : va_D A [(mx, .inr (14, [.ref q_1, .ref q_3, .ref q_5, .ref q_6, .ref q_8, .ref q_10, .ref q_12, .ref q_14, .ref q_16, .int 1, .int 10, .int 0, .int 0])), (q_1, .inr (4, [.int 0, .ref d, .int 0])), (q_3, .inr (4, [.int 0, .ref d, .int 0])), (q_6, .inr (4, [.int 0, .ref d, .int 0])), (q_8, .inl (k_9, 8, .inl (upd a_19 (1 : Int32).toNatClampNeg (1 : Int32)))), (q_10, .inl (k_11, 8, .inl a_20)), (q_12, .inr (4, [.int 0, .ref d, .int 0])), (q_14, .inr (4, [.int 0, .ref d, .int 0])), (q_16, .inl (k_17, 4, .inl (fun _ => 0)))] := hD
  generalize (upd a_19 (1 : Int32).toNatClampNeg (1 : Int32)) = a_22 at hP hD
  refine lv_aload_n hx hb dX9_init_130 rfl (lv_at hl 1 rfl) ?_
  refine va_get (D := (dC, dI)) (ci := 14) (v := .ref q_10) (C := RX9) (T := TX9) (N := 13) hx hb hts (fun _ h9 => List.mem_cons_of_mem _ (List.mem_append_left _ (List.mem_append_right _ (h9)))) hown hK hP 0 rfl rfl 5 (by decide) (hts (.fieldLink RX9 31 "ExamHallsModel" "most" "[I") (List.mem_of_getElem? (i := 15) rfl)) (fun _ h9 => h9) rfl dX9_init_131 ?_
  refine lv_iload_n hx hb dX9_init_134 rfl (lv_at hl 0 rfl) ?_
  refine lv_bipush (v := 12) hx hb dX9_init_135 (by decide) ?_
  refine va_iast hx hb hK hP hD hS 5 1 rfl rfl (by unfold vp_in; decide) dX9_init_137 (fun H locs hP hD hS => ?_)
  have hP : va_P (dC, dI) vwCl [(mx, .inr (14, [.ref q_1, .ref q_3, .ref q_5, .ref q_6, .ref q_8, .ref q_10, .ref q_12, .ref q_14, .ref q_16, .int 1, .int 10, .int 0, .int 0])), (q_1, .inr (4, [.int 0, .ref d, .int 0])), (q_3, .inr (4, [.int 0, .ref d, .int 0])), (q_6, .inr (4, [.int 0, .ref d, .int 0])), (q_8, .inl (k_9, 8, .inl a_22)), (q_10, .inl (k_11, 8, .inl (upd a_20 (1 : Int32).toNatClampNeg (12 : Int32)))), (q_12, .inr (4, [.int 0, .ref d, .int 0])), (q_14, .inr (4, [.int 0, .ref d, .int 0])), (q_16, .inl (k_17, 4, .inl (fun _ => 0)))] H := hP
  have hD : va_D A [(mx, .inr (14, [.ref q_1, .ref q_3, .ref q_5, .ref q_6, .ref q_8, .ref q_10, .ref q_12, .ref q_14, .ref q_16, .int 1, .int 10, .int 0, .int 0])), (q_1, .inr (4, [.int 0, .ref d, .int 0])), (q_3, .inr (4, [.int 0, .ref d, .int 0])), (q_6, .inr (4, [.int 0, .ref d, .int 0])), (q_8, .inl (k_9, 8, .inl a_22)), (q_10, .inl (k_11, 8, .inl (upd a_20 (1 : Int32).toNatClampNeg (12 : Int32)))), (q_12, .inr (4, [.int 0, .ref d, .int 0])), (q_14, .inr (4, [.int 0, .ref d, .int 0])), (q_16, .inl (k_17, 4, .inl (fun _ => 0)))] := hD
  generalize (upd a_20 (1 : Int32).toNatClampNeg (12 : Int32)) = a_23 at hP hD
  refine lv_iinc (v := 2) (lv' := [(1, .int 2), (0, .ref mx)]) hx hb dX9_init_138 hl (k := 0) rfl (by decide) (by decide) rfl (fun ls hl => ?_)
  refine lv_goto (tgt := 117) hx hb dX9_init_141 (by decide) ?_
  refine lv_iload_n hx hb dX9_init_117 rfl (lv_at hl 0 rfl) ?_
  refine lv_bipush (v := 8) hx hb dX9_init_118 (by decide) ?_
  refine lv_icmp_ge (tgt := 144) hx hb dX9_init_120 (by decide) (fun c_24 => absurd c_24 (by decide)) (fun _ => ?_)
  refine lv_aload_n hx hb dX9_init_123 rfl (lv_at hl 1 rfl) ?_
  refine va_get (D := (dC, dI)) (ci := 14) (v := .ref q_8) (C := RX9) (T := TX9) (N := 13) hx hb hts (fun _ h9 => List.mem_cons_of_mem _ (List.mem_append_left _ (List.mem_append_right _ (h9)))) hown hK hP 0 rfl rfl 4 (by decide) (hts (.fieldLink RX9 27 "ExamHallsModel" "least" "[I") (List.mem_of_getElem? (i := 14) rfl)) (fun _ h9 => h9) rfl dX9_init_124 ?_
  refine lv_iload_n hx hb dX9_init_127 rfl (lv_at hl 0 rfl) ?_
  refine lv_iconst (v := 1) hx hb dX9_init_128 (by decide) ?_
  refine va_iast hx hb hK hP hD hS 4 0 rfl rfl (by unfold vp_in; decide) dX9_init_129 (fun H locs hP hD hS => ?_)
  have hP : va_P (dC, dI) vwCl [(mx, .inr (14, [.ref q_1, .ref q_3, .ref q_5, .ref q_6, .ref q_8, .ref q_10, .ref q_12, .ref q_14, .ref q_16, .int 1, .int 10, .int 0, .int 0])), (q_1, .inr (4, [.int 0, .ref d, .int 0])), (q_3, .inr (4, [.int 0, .ref d, .int 0])), (q_6, .inr (4, [.int 0, .ref d, .int 0])), (q_8, .inl (k_9, 8, .inl (upd a_22 (2 : Int32).toNatClampNeg (1 : Int32)))), (q_10, .inl (k_11, 8, .inl a_23)), (q_12, .inr (4, [.int 0, .ref d, .int 0])), (q_14, .inr (4, [.int 0, .ref d, .int 0])), (q_16, .inl (k_17, 4, .inl (fun _ => 0)))] H := hP
  have hD : va_D A [(mx, .inr (14, [.ref q_1, .ref q_3, .ref q_5, .ref q_6, .ref q_8, .ref q_10, .ref q_12, .ref q_14, .ref q_16, .int 1, .int 10, .int 0, .int 0])), (q_1, .inr (4, [.int 0, .ref d, .int 0])), (q_3, .inr (4, [.int 0, .ref d, .int 0])), (q_6, .inr (4, [.int 0, .ref d, .int 0])), (q_8, .inl (k_9, 8, .inl (upd a_22 (2 : Int32).toNatClampNeg (1 : Int32)))), (q_10, .inl (k_11, 8, .inl a_23)), (q_12, .inr (4, [.int 0, .ref d, .int 0])), (q_14, .inr (4, [.int 0, .ref d, .int 0])), (q_16, .inl (k_17, 4, .inl (fun _ => 0)))] := hD
  generalize (upd a_22 (2 : Int32).toNatClampNeg (1 : Int32)) = a_25 at hP hD
  refine lv_aload_n hx hb dX9_init_130 rfl (lv_at hl 1 rfl) ?_
  refine va_get (D := (dC, dI)) (ci := 14) (v := .ref q_10) (C := RX9) (T := TX9) (N := 13) hx hb hts (fun _ h9 => List.mem_cons_of_mem _ (List.mem_append_left _ (List.mem_append_right _ (h9)))) hown hK hP 0 rfl rfl 5 (by decide) (hts (.fieldLink RX9 31 "ExamHallsModel" "most" "[I") (List.mem_of_getElem? (i := 15) rfl)) (fun _ h9 => h9) rfl dX9_init_131 ?_
  refine lv_iload_n hx hb dX9_init_134 rfl (lv_at hl 0 rfl) ?_
  refine lv_bipush (v := 12) hx hb dX9_init_135 (by decide) ?_
  refine va_iast hx hb hK hP hD hS 5 1 rfl rfl (by unfold vp_in; decide) dX9_init_137 (fun H locs hP hD hS => ?_)
  have hP : va_P (dC, dI) vwCl [(mx, .inr (14, [.ref q_1, .ref q_3, .ref q_5, .ref q_6, .ref q_8, .ref q_10, .ref q_12, .ref q_14, .ref q_16, .int 1, .int 10, .int 0, .int 0])), (q_1, .inr (4, [.int 0, .ref d, .int 0])), (q_3, .inr (4, [.int 0, .ref d, .int 0])), (q_6, .inr (4, [.int 0, .ref d, .int 0])), (q_8, .inl (k_9, 8, .inl a_25)), (q_10, .inl (k_11, 8, .inl (upd a_23 (2 : Int32).toNatClampNeg (12 : Int32)))), (q_12, .inr (4, [.int 0, .ref d, .int 0])), (q_14, .inr (4, [.int 0, .ref d, .int 0])), (q_16, .inl (k_17, 4, .inl (fun _ => 0)))] H := hP
  have hD : va_D A [(mx, .inr (14, [.ref q_1, .ref q_3, .ref q_5, .ref q_6, .ref q_8, .ref q_10, .ref q_12, .ref q_14, .ref q_16, .int 1, .int 10, .int 0, .int 0])), (q_1, .inr (4, [.int 0, .ref d, .int 0])), (q_3, .inr (4, [.int 0, .ref d, .int 0])), (q_6, .inr (4, [.int 0, .ref d, .int 0])), (q_8, .inl (k_9, 8, .inl a_25)), (q_10, .inl (k_11, 8, .inl (upd a_23 (2 : Int32).toNatClampNeg (12 : Int32)))), (q_12, .inr (4, [.int 0, .ref d, .int 0])), (q_14, .inr (4, [.int 0, .ref d, .int 0])), (q_16, .inl (k_17, 4, .inl (fun _ => 0)))] := hD
  generalize (upd a_23 (2 : Int32).toNatClampNeg (12 : Int32)) = a_26 at hP hD
  refine lv_iinc (v := 3) (lv' := [(1, .int 3), (0, .ref mx)]) hx hb dX9_init_138 hl (k := 0) rfl (by decide) (by decide) rfl (fun ls hl => ?_)
  refine lv_goto (tgt := 117) hx hb dX9_init_141 (by decide) ?_
  refine lv_iload_n hx hb dX9_init_117 rfl (lv_at hl 0 rfl) ?_
  refine lv_bipush (v := 8) hx hb dX9_init_118 (by decide) ?_
  refine lv_icmp_ge (tgt := 144) hx hb dX9_init_120 (by decide) (fun c_27 => absurd c_27 (by decide)) (fun _ => ?_)
  refine lv_aload_n hx hb dX9_init_123 rfl (lv_at hl 1 rfl) ?_
  refine va_get (D := (dC, dI)) (ci := 14) (v := .ref q_8) (C := RX9) (T := TX9) (N := 13) hx hb hts (fun _ h9 => List.mem_cons_of_mem _ (List.mem_append_left _ (List.mem_append_right _ (h9)))) hown hK hP 0 rfl rfl 4 (by decide) (hts (.fieldLink RX9 27 "ExamHallsModel" "least" "[I") (List.mem_of_getElem? (i := 14) rfl)) (fun _ h9 => h9) rfl dX9_init_124 ?_
  refine lv_iload_n hx hb dX9_init_127 rfl (lv_at hl 0 rfl) ?_
  refine lv_iconst (v := 1) hx hb dX9_init_128 (by decide) ?_
  refine va_iast hx hb hK hP hD hS 4 0 rfl rfl (by unfold vp_in; decide) dX9_init_129 (fun H locs hP hD hS => ?_)
  have hP : va_P (dC, dI) vwCl [(mx, .inr (14, [.ref q_1, .ref q_3, .ref q_5, .ref q_6, .ref q_8, .ref q_10, .ref q_12, .ref q_14, .ref q_16, .int 1, .int 10, .int 0, .int 0])), (q_1, .inr (4, [.int 0, .ref d, .int 0])), (q_3, .inr (4, [.int 0, .ref d, .int 0])), (q_6, .inr (4, [.int 0, .ref d, .int 0])), (q_8, .inl (k_9, 8, .inl (upd a_25 (3 : Int32).toNatClampNeg (1 : Int32)))), (q_10, .inl (k_11, 8, .inl a_26)), (q_12, .inr (4, [.int 0, .ref d, .int 0])), (q_14, .inr (4, [.int 0, .ref d, .int 0])), (q_16, .inl (k_17, 4, .inl (fun _ => 0)))] H := hP
  have hD : va_D A [(mx, .inr (14, [.ref q_1, .ref q_3, .ref q_5, .ref q_6, .ref q_8, .ref q_10, .ref q_12, .ref q_14, .ref q_16, .int 1, .int 10, .int 0, .int 0])), (q_1, .inr (4, [.int 0, .ref d, .int 0])), (q_3, .inr (4, [.int 0, .ref d, .int 0])), (q_6, .inr (4, [.int 0, .ref d, .int 0])), (q_8, .inl (k_9, 8, .inl (upd a_25 (3 : Int32).toNatClampNeg (1 : Int32)))), (q_10, .inl (k_11, 8, .inl a_26)), (q_12, .inr (4, [.int 0, .ref d, .int 0])), (q_14, .inr (4, [.int 0, .ref d, .int 0])), (q_16, .inl (k_17, 4, .inl (fun _ => 0)))] := hD
  generalize (upd a_25 (3 : Int32).toNatClampNeg (1 : Int32)) = a_28 at hP hD
  refine lv_aload_n hx hb dX9_init_130 rfl (lv_at hl 1 rfl) ?_
  refine va_get (D := (dC, dI)) (ci := 14) (v := .ref q_10) (C := RX9) (T := TX9) (N := 13) hx hb hts (fun _ h9 => List.mem_cons_of_mem _ (List.mem_append_left _ (List.mem_append_right _ (h9)))) hown hK hP 0 rfl rfl 5 (by decide) (hts (.fieldLink RX9 31 "ExamHallsModel" "most" "[I") (List.mem_of_getElem? (i := 15) rfl)) (fun _ h9 => h9) rfl dX9_init_131 ?_
  refine lv_iload_n hx hb dX9_init_134 rfl (lv_at hl 0 rfl) ?_
  refine lv_bipush (v := 12) hx hb dX9_init_135 (by decide) ?_
  refine va_iast hx hb hK hP hD hS 5 1 rfl rfl (by unfold vp_in; decide) dX9_init_137 (fun H locs hP hD hS => ?_)
  have hP : va_P (dC, dI) vwCl [(mx, .inr (14, [.ref q_1, .ref q_3, .ref q_5, .ref q_6, .ref q_8, .ref q_10, .ref q_12, .ref q_14, .ref q_16, .int 1, .int 10, .int 0, .int 0])), (q_1, .inr (4, [.int 0, .ref d, .int 0])), (q_3, .inr (4, [.int 0, .ref d, .int 0])), (q_6, .inr (4, [.int 0, .ref d, .int 0])), (q_8, .inl (k_9, 8, .inl a_28)), (q_10, .inl (k_11, 8, .inl (upd a_26 (3 : Int32).toNatClampNeg (12 : Int32)))), (q_12, .inr (4, [.int 0, .ref d, .int 0])), (q_14, .inr (4, [.int 0, .ref d, .int 0])), (q_16, .inl (k_17, 4, .inl (fun _ => 0)))] H := hP
  have hD : va_D A [(mx, .inr (14, [.ref q_1, .ref q_3, .ref q_5, .ref q_6, .ref q_8, .ref q_10, .ref q_12, .ref q_14, .ref q_16, .int 1, .int 10, .int 0, .int 0])), (q_1, .inr (4, [.int 0, .ref d, .int 0])), (q_3, .inr (4, [.int 0, .ref d, .int 0])), (q_6, .inr (4, [.int 0, .ref d, .int 0])), (q_8, .inl (k_9, 8, .inl a_28)), (q_10, .inl (k_11, 8, .inl (upd a_26 (3 : Int32).toNatClampNeg (12 : Int32)))), (q_12, .inr (4, [.int 0, .ref d, .int 0])), (q_14, .inr (4, [.int 0, .ref d, .int 0])), (q_16, .inl (k_17, 4, .inl (fun _ => 0)))] := hD
  generalize (upd a_26 (3 : Int32).toNatClampNeg (12 : Int32)) = a_29 at hP hD
  refine lv_iinc (v := 4) (lv' := [(1, .int 4), (0, .ref mx)]) hx hb dX9_init_138 hl (k := 0) rfl (by decide) (by decide) rfl (fun ls hl => ?_)
  refine lv_goto (tgt := 117) hx hb dX9_init_141 (by decide) ?_
  refine lv_iload_n hx hb dX9_init_117 rfl (lv_at hl 0 rfl) ?_
  refine lv_bipush (v := 8) hx hb dX9_init_118 (by decide) ?_
  refine lv_icmp_ge (tgt := 144) hx hb dX9_init_120 (by decide) (fun c_30 => absurd c_30 (by decide)) (fun _ => ?_)
  refine lv_aload_n hx hb dX9_init_123 rfl (lv_at hl 1 rfl) ?_
  refine va_get (D := (dC, dI)) (ci := 14) (v := .ref q_8) (C := RX9) (T := TX9) (N := 13) hx hb hts (fun _ h9 => List.mem_cons_of_mem _ (List.mem_append_left _ (List.mem_append_right _ (h9)))) hown hK hP 0 rfl rfl 4 (by decide) (hts (.fieldLink RX9 27 "ExamHallsModel" "least" "[I") (List.mem_of_getElem? (i := 14) rfl)) (fun _ h9 => h9) rfl dX9_init_124 ?_
  refine lv_iload_n hx hb dX9_init_127 rfl (lv_at hl 0 rfl) ?_
  refine lv_iconst (v := 1) hx hb dX9_init_128 (by decide) ?_
  refine va_iast hx hb hK hP hD hS 4 0 rfl rfl (by unfold vp_in; decide) dX9_init_129 (fun H locs hP hD hS => ?_)
  have hP : va_P (dC, dI) vwCl [(mx, .inr (14, [.ref q_1, .ref q_3, .ref q_5, .ref q_6, .ref q_8, .ref q_10, .ref q_12, .ref q_14, .ref q_16, .int 1, .int 10, .int 0, .int 0])), (q_1, .inr (4, [.int 0, .ref d, .int 0])), (q_3, .inr (4, [.int 0, .ref d, .int 0])), (q_6, .inr (4, [.int 0, .ref d, .int 0])), (q_8, .inl (k_9, 8, .inl (upd a_28 (4 : Int32).toNatClampNeg (1 : Int32)))), (q_10, .inl (k_11, 8, .inl a_29)), (q_12, .inr (4, [.int 0, .ref d, .int 0])), (q_14, .inr (4, [.int 0, .ref d, .int 0])), (q_16, .inl (k_17, 4, .inl (fun _ => 0)))] H := hP
  have hD : va_D A [(mx, .inr (14, [.ref q_1, .ref q_3, .ref q_5, .ref q_6, .ref q_8, .ref q_10, .ref q_12, .ref q_14, .ref q_16, .int 1, .int 10, .int 0, .int 0])), (q_1, .inr (4, [.int 0, .ref d, .int 0])), (q_3, .inr (4, [.int 0, .ref d, .int 0])), (q_6, .inr (4, [.int 0, .ref d, .int 0])), (q_8, .inl (k_9, 8, .inl (upd a_28 (4 : Int32).toNatClampNeg (1 : Int32)))), (q_10, .inl (k_11, 8, .inl a_29)), (q_12, .inr (4, [.int 0, .ref d, .int 0])), (q_14, .inr (4, [.int 0, .ref d, .int 0])), (q_16, .inl (k_17, 4, .inl (fun _ => 0)))] := hD
  generalize (upd a_28 (4 : Int32).toNatClampNeg (1 : Int32)) = a_31 at hP hD
  refine lv_aload_n hx hb dX9_init_130 rfl (lv_at hl 1 rfl) ?_
  refine va_get (D := (dC, dI)) (ci := 14) (v := .ref q_10) (C := RX9) (T := TX9) (N := 13) hx hb hts (fun _ h9 => List.mem_cons_of_mem _ (List.mem_append_left _ (List.mem_append_right _ (h9)))) hown hK hP 0 rfl rfl 5 (by decide) (hts (.fieldLink RX9 31 "ExamHallsModel" "most" "[I") (List.mem_of_getElem? (i := 15) rfl)) (fun _ h9 => h9) rfl dX9_init_131 ?_
  refine lv_iload_n hx hb dX9_init_134 rfl (lv_at hl 0 rfl) ?_
  refine lv_bipush (v := 12) hx hb dX9_init_135 (by decide) ?_
  refine va_iast hx hb hK hP hD hS 5 1 rfl rfl (by unfold vp_in; decide) dX9_init_137 (fun H locs hP hD hS => ?_)
  have hP : va_P (dC, dI) vwCl [(mx, .inr (14, [.ref q_1, .ref q_3, .ref q_5, .ref q_6, .ref q_8, .ref q_10, .ref q_12, .ref q_14, .ref q_16, .int 1, .int 10, .int 0, .int 0])), (q_1, .inr (4, [.int 0, .ref d, .int 0])), (q_3, .inr (4, [.int 0, .ref d, .int 0])), (q_6, .inr (4, [.int 0, .ref d, .int 0])), (q_8, .inl (k_9, 8, .inl a_31)), (q_10, .inl (k_11, 8, .inl (upd a_29 (4 : Int32).toNatClampNeg (12 : Int32)))), (q_12, .inr (4, [.int 0, .ref d, .int 0])), (q_14, .inr (4, [.int 0, .ref d, .int 0])), (q_16, .inl (k_17, 4, .inl (fun _ => 0)))] H := hP
  have hD : va_D A [(mx, .inr (14, [.ref q_1, .ref q_3, .ref q_5, .ref q_6, .ref q_8, .ref q_10, .ref q_12, .ref q_14, .ref q_16, .int 1, .int 10, .int 0, .int 0])), (q_1, .inr (4, [.int 0, .ref d, .int 0])), (q_3, .inr (4, [.int 0, .ref d, .int 0])), (q_6, .inr (4, [.int 0, .ref d, .int 0])), (q_8, .inl (k_9, 8, .inl a_31)), (q_10, .inl (k_11, 8, .inl (upd a_29 (4 : Int32).toNatClampNeg (12 : Int32)))), (q_12, .inr (4, [.int 0, .ref d, .int 0])), (q_14, .inr (4, [.int 0, .ref d, .int 0])), (q_16, .inl (k_17, 4, .inl (fun _ => 0)))] := hD
  generalize (upd a_29 (4 : Int32).toNatClampNeg (12 : Int32)) = a_32 at hP hD
  refine lv_iinc (v := 5) (lv' := [(1, .int 5), (0, .ref mx)]) hx hb dX9_init_138 hl (k := 0) rfl (by decide) (by decide) rfl (fun ls hl => ?_)
  refine lv_goto (tgt := 117) hx hb dX9_init_141 (by decide) ?_
  refine lv_iload_n hx hb dX9_init_117 rfl (lv_at hl 0 rfl) ?_
  refine lv_bipush (v := 8) hx hb dX9_init_118 (by decide) ?_
  refine lv_icmp_ge (tgt := 144) hx hb dX9_init_120 (by decide) (fun c_33 => absurd c_33 (by decide)) (fun _ => ?_)
  refine lv_aload_n hx hb dX9_init_123 rfl (lv_at hl 1 rfl) ?_
  refine va_get (D := (dC, dI)) (ci := 14) (v := .ref q_8) (C := RX9) (T := TX9) (N := 13) hx hb hts (fun _ h9 => List.mem_cons_of_mem _ (List.mem_append_left _ (List.mem_append_right _ (h9)))) hown hK hP 0 rfl rfl 4 (by decide) (hts (.fieldLink RX9 27 "ExamHallsModel" "least" "[I") (List.mem_of_getElem? (i := 14) rfl)) (fun _ h9 => h9) rfl dX9_init_124 ?_
  refine lv_iload_n hx hb dX9_init_127 rfl (lv_at hl 0 rfl) ?_
  refine lv_iconst (v := 1) hx hb dX9_init_128 (by decide) ?_
  refine va_iast hx hb hK hP hD hS 4 0 rfl rfl (by unfold vp_in; decide) dX9_init_129 (fun H locs hP hD hS => ?_)
  have hP : va_P (dC, dI) vwCl [(mx, .inr (14, [.ref q_1, .ref q_3, .ref q_5, .ref q_6, .ref q_8, .ref q_10, .ref q_12, .ref q_14, .ref q_16, .int 1, .int 10, .int 0, .int 0])), (q_1, .inr (4, [.int 0, .ref d, .int 0])), (q_3, .inr (4, [.int 0, .ref d, .int 0])), (q_6, .inr (4, [.int 0, .ref d, .int 0])), (q_8, .inl (k_9, 8, .inl (upd a_31 (5 : Int32).toNatClampNeg (1 : Int32)))), (q_10, .inl (k_11, 8, .inl a_32)), (q_12, .inr (4, [.int 0, .ref d, .int 0])), (q_14, .inr (4, [.int 0, .ref d, .int 0])), (q_16, .inl (k_17, 4, .inl (fun _ => 0)))] H := hP
  have hD : va_D A [(mx, .inr (14, [.ref q_1, .ref q_3, .ref q_5, .ref q_6, .ref q_8, .ref q_10, .ref q_12, .ref q_14, .ref q_16, .int 1, .int 10, .int 0, .int 0])), (q_1, .inr (4, [.int 0, .ref d, .int 0])), (q_3, .inr (4, [.int 0, .ref d, .int 0])), (q_6, .inr (4, [.int 0, .ref d, .int 0])), (q_8, .inl (k_9, 8, .inl (upd a_31 (5 : Int32).toNatClampNeg (1 : Int32)))), (q_10, .inl (k_11, 8, .inl a_32)), (q_12, .inr (4, [.int 0, .ref d, .int 0])), (q_14, .inr (4, [.int 0, .ref d, .int 0])), (q_16, .inl (k_17, 4, .inl (fun _ => 0)))] := hD
  generalize (upd a_31 (5 : Int32).toNatClampNeg (1 : Int32)) = a_34 at hP hD
  refine lv_aload_n hx hb dX9_init_130 rfl (lv_at hl 1 rfl) ?_
  refine va_get (D := (dC, dI)) (ci := 14) (v := .ref q_10) (C := RX9) (T := TX9) (N := 13) hx hb hts (fun _ h9 => List.mem_cons_of_mem _ (List.mem_append_left _ (List.mem_append_right _ (h9)))) hown hK hP 0 rfl rfl 5 (by decide) (hts (.fieldLink RX9 31 "ExamHallsModel" "most" "[I") (List.mem_of_getElem? (i := 15) rfl)) (fun _ h9 => h9) rfl dX9_init_131 ?_
  refine lv_iload_n hx hb dX9_init_134 rfl (lv_at hl 0 rfl) ?_
  refine lv_bipush (v := 12) hx hb dX9_init_135 (by decide) ?_
  refine va_iast hx hb hK hP hD hS 5 1 rfl rfl (by unfold vp_in; decide) dX9_init_137 (fun H locs hP hD hS => ?_)
  have hP : va_P (dC, dI) vwCl [(mx, .inr (14, [.ref q_1, .ref q_3, .ref q_5, .ref q_6, .ref q_8, .ref q_10, .ref q_12, .ref q_14, .ref q_16, .int 1, .int 10, .int 0, .int 0])), (q_1, .inr (4, [.int 0, .ref d, .int 0])), (q_3, .inr (4, [.int 0, .ref d, .int 0])), (q_6, .inr (4, [.int 0, .ref d, .int 0])), (q_8, .inl (k_9, 8, .inl a_34)), (q_10, .inl (k_11, 8, .inl (upd a_32 (5 : Int32).toNatClampNeg (12 : Int32)))), (q_12, .inr (4, [.int 0, .ref d, .int 0])), (q_14, .inr (4, [.int 0, .ref d, .int 0])), (q_16, .inl (k_17, 4, .inl (fun _ => 0)))] H := hP
  have hD : va_D A [(mx, .inr (14, [.ref q_1, .ref q_3, .ref q_5, .ref q_6, .ref q_8, .ref q_10, .ref q_12, .ref q_14, .ref q_16, .int 1, .int 10, .int 0, .int 0])), (q_1, .inr (4, [.int 0, .ref d, .int 0])), (q_3, .inr (4, [.int 0, .ref d, .int 0])), (q_6, .inr (4, [.int 0, .ref d, .int 0])), (q_8, .inl (k_9, 8, .inl a_34)), (q_10, .inl (k_11, 8, .inl (upd a_32 (5 : Int32).toNatClampNeg (12 : Int32)))), (q_12, .inr (4, [.int 0, .ref d, .int 0])), (q_14, .inr (4, [.int 0, .ref d, .int 0])), (q_16, .inl (k_17, 4, .inl (fun _ => 0)))] := hD
  generalize (upd a_32 (5 : Int32).toNatClampNeg (12 : Int32)) = a_35 at hP hD
  refine lv_iinc (v := 6) (lv' := [(1, .int 6), (0, .ref mx)]) hx hb dX9_init_138 hl (k := 0) rfl (by decide) (by decide) rfl (fun ls hl => ?_)
  refine lv_goto (tgt := 117) hx hb dX9_init_141 (by decide) ?_
  refine lv_iload_n hx hb dX9_init_117 rfl (lv_at hl 0 rfl) ?_
  refine lv_bipush (v := 8) hx hb dX9_init_118 (by decide) ?_
  refine lv_icmp_ge (tgt := 144) hx hb dX9_init_120 (by decide) (fun c_36 => absurd c_36 (by decide)) (fun _ => ?_)
  refine lv_aload_n hx hb dX9_init_123 rfl (lv_at hl 1 rfl) ?_
  refine va_get (D := (dC, dI)) (ci := 14) (v := .ref q_8) (C := RX9) (T := TX9) (N := 13) hx hb hts (fun _ h9 => List.mem_cons_of_mem _ (List.mem_append_left _ (List.mem_append_right _ (h9)))) hown hK hP 0 rfl rfl 4 (by decide) (hts (.fieldLink RX9 27 "ExamHallsModel" "least" "[I") (List.mem_of_getElem? (i := 14) rfl)) (fun _ h9 => h9) rfl dX9_init_124 ?_
  refine lv_iload_n hx hb dX9_init_127 rfl (lv_at hl 0 rfl) ?_
  refine lv_iconst (v := 1) hx hb dX9_init_128 (by decide) ?_
  refine va_iast hx hb hK hP hD hS 4 0 rfl rfl (by unfold vp_in; decide) dX9_init_129 (fun H locs hP hD hS => ?_)
  have hP : va_P (dC, dI) vwCl [(mx, .inr (14, [.ref q_1, .ref q_3, .ref q_5, .ref q_6, .ref q_8, .ref q_10, .ref q_12, .ref q_14, .ref q_16, .int 1, .int 10, .int 0, .int 0])), (q_1, .inr (4, [.int 0, .ref d, .int 0])), (q_3, .inr (4, [.int 0, .ref d, .int 0])), (q_6, .inr (4, [.int 0, .ref d, .int 0])), (q_8, .inl (k_9, 8, .inl (upd a_34 (6 : Int32).toNatClampNeg (1 : Int32)))), (q_10, .inl (k_11, 8, .inl a_35)), (q_12, .inr (4, [.int 0, .ref d, .int 0])), (q_14, .inr (4, [.int 0, .ref d, .int 0])), (q_16, .inl (k_17, 4, .inl (fun _ => 0)))] H := hP
  have hD : va_D A [(mx, .inr (14, [.ref q_1, .ref q_3, .ref q_5, .ref q_6, .ref q_8, .ref q_10, .ref q_12, .ref q_14, .ref q_16, .int 1, .int 10, .int 0, .int 0])), (q_1, .inr (4, [.int 0, .ref d, .int 0])), (q_3, .inr (4, [.int 0, .ref d, .int 0])), (q_6, .inr (4, [.int 0, .ref d, .int 0])), (q_8, .inl (k_9, 8, .inl (upd a_34 (6 : Int32).toNatClampNeg (1 : Int32)))), (q_10, .inl (k_11, 8, .inl a_35)), (q_12, .inr (4, [.int 0, .ref d, .int 0])), (q_14, .inr (4, [.int 0, .ref d, .int 0])), (q_16, .inl (k_17, 4, .inl (fun _ => 0)))] := hD
  generalize (upd a_34 (6 : Int32).toNatClampNeg (1 : Int32)) = a_37 at hP hD
  refine lv_aload_n hx hb dX9_init_130 rfl (lv_at hl 1 rfl) ?_
  refine va_get (D := (dC, dI)) (ci := 14) (v := .ref q_10) (C := RX9) (T := TX9) (N := 13) hx hb hts (fun _ h9 => List.mem_cons_of_mem _ (List.mem_append_left _ (List.mem_append_right _ (h9)))) hown hK hP 0 rfl rfl 5 (by decide) (hts (.fieldLink RX9 31 "ExamHallsModel" "most" "[I") (List.mem_of_getElem? (i := 15) rfl)) (fun _ h9 => h9) rfl dX9_init_131 ?_
  refine lv_iload_n hx hb dX9_init_134 rfl (lv_at hl 0 rfl) ?_
  refine lv_bipush (v := 12) hx hb dX9_init_135 (by decide) ?_
  refine va_iast hx hb hK hP hD hS 5 1 rfl rfl (by unfold vp_in; decide) dX9_init_137 (fun H locs hP hD hS => ?_)
  have hP : va_P (dC, dI) vwCl [(mx, .inr (14, [.ref q_1, .ref q_3, .ref q_5, .ref q_6, .ref q_8, .ref q_10, .ref q_12, .ref q_14, .ref q_16, .int 1, .int 10, .int 0, .int 0])), (q_1, .inr (4, [.int 0, .ref d, .int 0])), (q_3, .inr (4, [.int 0, .ref d, .int 0])), (q_6, .inr (4, [.int 0, .ref d, .int 0])), (q_8, .inl (k_9, 8, .inl a_37)), (q_10, .inl (k_11, 8, .inl (upd a_35 (6 : Int32).toNatClampNeg (12 : Int32)))), (q_12, .inr (4, [.int 0, .ref d, .int 0])), (q_14, .inr (4, [.int 0, .ref d, .int 0])), (q_16, .inl (k_17, 4, .inl (fun _ => 0)))] H := hP
  have hD : va_D A [(mx, .inr (14, [.ref q_1, .ref q_3, .ref q_5, .ref q_6, .ref q_8, .ref q_10, .ref q_12, .ref q_14, .ref q_16, .int 1, .int 10, .int 0, .int 0])), (q_1, .inr (4, [.int 0, .ref d, .int 0])), (q_3, .inr (4, [.int 0, .ref d, .int 0])), (q_6, .inr (4, [.int 0, .ref d, .int 0])), (q_8, .inl (k_9, 8, .inl a_37)), (q_10, .inl (k_11, 8, .inl (upd a_35 (6 : Int32).toNatClampNeg (12 : Int32)))), (q_12, .inr (4, [.int 0, .ref d, .int 0])), (q_14, .inr (4, [.int 0, .ref d, .int 0])), (q_16, .inl (k_17, 4, .inl (fun _ => 0)))] := hD
  generalize (upd a_35 (6 : Int32).toNatClampNeg (12 : Int32)) = a_38 at hP hD
  refine lv_iinc (v := 7) (lv' := [(1, .int 7), (0, .ref mx)]) hx hb dX9_init_138 hl (k := 0) rfl (by decide) (by decide) rfl (fun ls hl => ?_)
  refine lv_goto (tgt := 117) hx hb dX9_init_141 (by decide) ?_
  refine lv_iload_n hx hb dX9_init_117 rfl (lv_at hl 0 rfl) ?_
  refine lv_bipush (v := 8) hx hb dX9_init_118 (by decide) ?_
  refine lv_icmp_ge (tgt := 144) hx hb dX9_init_120 (by decide) (fun c_39 => absurd c_39 (by decide)) (fun _ => ?_)
  refine lv_aload_n hx hb dX9_init_123 rfl (lv_at hl 1 rfl) ?_
  refine va_get (D := (dC, dI)) (ci := 14) (v := .ref q_8) (C := RX9) (T := TX9) (N := 13) hx hb hts (fun _ h9 => List.mem_cons_of_mem _ (List.mem_append_left _ (List.mem_append_right _ (h9)))) hown hK hP 0 rfl rfl 4 (by decide) (hts (.fieldLink RX9 27 "ExamHallsModel" "least" "[I") (List.mem_of_getElem? (i := 14) rfl)) (fun _ h9 => h9) rfl dX9_init_124 ?_
  refine lv_iload_n hx hb dX9_init_127 rfl (lv_at hl 0 rfl) ?_
  refine lv_iconst (v := 1) hx hb dX9_init_128 (by decide) ?_
  refine va_iast hx hb hK hP hD hS 4 0 rfl rfl (by unfold vp_in; decide) dX9_init_129 (fun H locs hP hD hS => ?_)
  have hP : va_P (dC, dI) vwCl [(mx, .inr (14, [.ref q_1, .ref q_3, .ref q_5, .ref q_6, .ref q_8, .ref q_10, .ref q_12, .ref q_14, .ref q_16, .int 1, .int 10, .int 0, .int 0])), (q_1, .inr (4, [.int 0, .ref d, .int 0])), (q_3, .inr (4, [.int 0, .ref d, .int 0])), (q_6, .inr (4, [.int 0, .ref d, .int 0])), (q_8, .inl (k_9, 8, .inl (upd a_37 (7 : Int32).toNatClampNeg (1 : Int32)))), (q_10, .inl (k_11, 8, .inl a_38)), (q_12, .inr (4, [.int 0, .ref d, .int 0])), (q_14, .inr (4, [.int 0, .ref d, .int 0])), (q_16, .inl (k_17, 4, .inl (fun _ => 0)))] H := hP
  have hD : va_D A [(mx, .inr (14, [.ref q_1, .ref q_3, .ref q_5, .ref q_6, .ref q_8, .ref q_10, .ref q_12, .ref q_14, .ref q_16, .int 1, .int 10, .int 0, .int 0])), (q_1, .inr (4, [.int 0, .ref d, .int 0])), (q_3, .inr (4, [.int 0, .ref d, .int 0])), (q_6, .inr (4, [.int 0, .ref d, .int 0])), (q_8, .inl (k_9, 8, .inl (upd a_37 (7 : Int32).toNatClampNeg (1 : Int32)))), (q_10, .inl (k_11, 8, .inl a_38)), (q_12, .inr (4, [.int 0, .ref d, .int 0])), (q_14, .inr (4, [.int 0, .ref d, .int 0])), (q_16, .inl (k_17, 4, .inl (fun _ => 0)))] := hD
  generalize (upd a_37 (7 : Int32).toNatClampNeg (1 : Int32)) = a_40 at hP hD
  refine lv_aload_n hx hb dX9_init_130 rfl (lv_at hl 1 rfl) ?_
  refine va_get (D := (dC, dI)) (ci := 14) (v := .ref q_10) (C := RX9) (T := TX9) (N := 13) hx hb hts (fun _ h9 => List.mem_cons_of_mem _ (List.mem_append_left _ (List.mem_append_right _ (h9)))) hown hK hP 0 rfl rfl 5 (by decide) (hts (.fieldLink RX9 31 "ExamHallsModel" "most" "[I") (List.mem_of_getElem? (i := 15) rfl)) (fun _ h9 => h9) rfl dX9_init_131 ?_
  refine lv_iload_n hx hb dX9_init_134 rfl (lv_at hl 0 rfl) ?_
  refine lv_bipush (v := 12) hx hb dX9_init_135 (by decide) ?_
  refine va_iast hx hb hK hP hD hS 5 1 rfl rfl (by unfold vp_in; decide) dX9_init_137 (fun H locs hP hD hS => ?_)
  have hP : va_P (dC, dI) vwCl [(mx, .inr (14, [.ref q_1, .ref q_3, .ref q_5, .ref q_6, .ref q_8, .ref q_10, .ref q_12, .ref q_14, .ref q_16, .int 1, .int 10, .int 0, .int 0])), (q_1, .inr (4, [.int 0, .ref d, .int 0])), (q_3, .inr (4, [.int 0, .ref d, .int 0])), (q_6, .inr (4, [.int 0, .ref d, .int 0])), (q_8, .inl (k_9, 8, .inl a_40)), (q_10, .inl (k_11, 8, .inl (upd a_38 (7 : Int32).toNatClampNeg (12 : Int32)))), (q_12, .inr (4, [.int 0, .ref d, .int 0])), (q_14, .inr (4, [.int 0, .ref d, .int 0])), (q_16, .inl (k_17, 4, .inl (fun _ => 0)))] H := hP
  have hD : va_D A [(mx, .inr (14, [.ref q_1, .ref q_3, .ref q_5, .ref q_6, .ref q_8, .ref q_10, .ref q_12, .ref q_14, .ref q_16, .int 1, .int 10, .int 0, .int 0])), (q_1, .inr (4, [.int 0, .ref d, .int 0])), (q_3, .inr (4, [.int 0, .ref d, .int 0])), (q_6, .inr (4, [.int 0, .ref d, .int 0])), (q_8, .inl (k_9, 8, .inl a_40)), (q_10, .inl (k_11, 8, .inl (upd a_38 (7 : Int32).toNatClampNeg (12 : Int32)))), (q_12, .inr (4, [.int 0, .ref d, .int 0])), (q_14, .inr (4, [.int 0, .ref d, .int 0])), (q_16, .inl (k_17, 4, .inl (fun _ => 0)))] := hD
  generalize (upd a_38 (7 : Int32).toNatClampNeg (12 : Int32)) = a_41 at hP hD
  refine lv_iinc (v := 8) (lv' := [(1, .int 8), (0, .ref mx)]) hx hb dX9_init_138 hl (k := 0) rfl (by decide) (by decide) rfl (fun ls hl => ?_)
  refine lv_goto (tgt := 117) hx hb dX9_init_141 (by decide) ?_
  refine lv_iload_n hx hb dX9_init_117 rfl (lv_at hl 0 rfl) ?_
  refine lv_bipush (v := 8) hx hb dX9_init_118 (by decide) ?_
  refine lv_icmp_ge (tgt := 144) hx hb dX9_init_120 (by decide) (fun _ => ?_) (fun c_42 => absurd (by decide) c_42)
  have hP9 := hP.sub (ws' := [(mx, .inr (14, [.ref q_1, .ref q_3, .ref q_5, .ref q_6, .ref q_8, .ref q_10, .ref q_12, .ref q_14, .ref q_16, .int 1, .int 10, .int 0, .int 0])), (q_1, .inr (4, [.int 0, .ref d, .int 0])), (q_3, .inr (4, [.int 0, .ref d, .int 0])), (q_6, .inr (4, [.int 0, .ref d, .int 0])), (q_12, .inr (4, [.int 0, .ref d, .int 0])), (q_14, .inr (4, [.int 0, .ref d, .int 0])), (q_8, .inl (k_9, 8, .inl a_40)), (q_10, .inl (k_11, 8, .inl a_41)), (q_16, .inl (k_17, 4, .inl (fun _ => 0)))]) [0, 1, 2, 3, 6, 7, 4, 5, 8] rfl
  have hD9 := hD.sub (ws' := [(mx, .inr (14, [.ref q_1, .ref q_3, .ref q_5, .ref q_6, .ref q_8, .ref q_10, .ref q_12, .ref q_14, .ref q_16, .int 1, .int 10, .int 0, .int 0])), (q_1, .inr (4, [.int 0, .ref d, .int 0])), (q_3, .inr (4, [.int 0, .ref d, .int 0])), (q_6, .inr (4, [.int 0, .ref d, .int 0])), (q_12, .inr (4, [.int 0, .ref d, .int 0])), (q_14, .inr (4, [.int 0, .ref d, .int 0])), (q_8, .inl (k_9, 8, .inl a_40)), (q_10, .inl (k_11, 8, .inl a_41)), (q_16, .inl (k_17, 4, .inl (fun _ => 0)))]) [0, 1, 2, 3, 6, 7, 4, 5, 8] (by decide) rfl
  have hK9 := hK.sub (tys' := [(k_9, .int), (k_11, .int), (k_17, .int)]) [0, 1, 2] rfl
  exact W.vret hx hb hr (fun t ht hW => ⟨⟨(), rfl, trivial, q_1, q_3, q_5, q_6, q_8, q_10, q_12, q_14, q_16, k_9, k_11, k_17, a_40, a_41, by rw [ht]; exact hP9, va_K.moved hW.alike hK9, hD9⟩, hS.F ht⟩) hS.2.2 dX9_init_144

set_option maxHeartbeats 4000000 in
set_option maxRecDepth 100000 in
theorem c_X6_init (l : Launch) (dC : Nat → ClassId) (dI : Nat → Nat → Nat) (d : Nat) (tc : Nat) (ad : Nat → Nat) (y : Nat) (sz : Nat) : Met l yX6_init wsX6_init ({ frames := 4, cells := 42, slots := 171, locals := 72 }) (va_Pc [.ref y] (PZ dC dI d tc ad sz [(y, .inr (11, [.int 0, .null, .int 0, .int 0, .int 0, .null, .null]))] [])) (va_Qv (fun _ : Unit => True) (fun _ t => ∃ (g1 : Nat) (g2 : Nat), va_P (dC, dI) vwCl [(y, .inr (11, [.int 0, .null, .int (-1), .int (-1), .int 0, .ref g1, .ref g2]))] t.heap ∧ va_K (dC, dI) vwCl [] t ∧ va_D (va_A [(y, .inr (11, [.int 0, .null, .int 0, .int 0, .int 0, .null, .null]))] sz) [(y, .inr (11, [.int 0, .null, .int (-1), .int (-1), .int 0, .ref g1, .ref g2]))]) (va_A [(y, .inr (11, [.int 0, .null, .int 0, .int 0, .int 0, .null, .null]))] sz)) 42 171 (va_A [(y, .inr (11, [.int 0, .null, .int 0, .int 0, .int 0, .null, .null]))] sz) := by
  refine Met.ofW (cc := cX6_init) (maxL := 1) (ret := none) (by decide) rfl ?_
  intro p e s m args below meth c s₁ B hml hv
  obtain ⟨rfl, hsz, hP, hK, hD0, hF, hZ⟩ := hv
  have hx := B.exec
  have hb := B.bytes
  have hr := B.returns
  have hts := atoms_spec (ws := wsX6_init) B.pre
  have hown : s.vm.findClass RX6 = some m.cls := findClass_of_methodNamed B.named
  have hlocks := B.notSynchronized
  have hin : meth.name = "<init>" := (name_of_methodNamed B.named B.method).1
  subst hsz
  have hD := hD0.self (sz := s.heap.size)
  generalize hAe : va_A [(y, .inr (11, [.int 0, .null, .int 0, .int 0, .int 0, .null, .null]))] s.heap.size = A at hD hZ ⊢
  have hA : ∀ q : Nat, s.heap.size ≤ q → A q := fun q h => by rw [← hAe]; exact Or.inr h
  have hS : va_S A s.heap s.heap [] := va_S.rf
  have hl := lv_entry ([.ref y]) (n := 1) (Nat.le_of_ble_eq_true rfl)
  rw [lg_entry_eq]
  generalize (lg_sl ([.ref y]) ++ List.replicate (1 - (lg_sl ([.ref y])).length) Slot.unset).toArray = ls at hl ⊢
  have hl : lv_has ls 1 [(0, .ref y)] := hl
  refine lv_aload_n hx hb dX6_init_0 rfl (lv_at hl 0 rfl) ?_
  refine W.objInit hx hb hown (hts (.methodLink RX6 3 objectInit) (List.mem_of_getElem? (i := 1) rfl)) (hts (.instanceMethod objectInit) (List.mem_of_getElem? (i := 2) rfl)) (hts _ (List.mem_of_getElem? (i := 3) rfl)) rfl (by rw [hml]; exact hl.1) rfl dX6_init_1 (Nat.le_of_ble_eq_true rfl) (Nat.le_of_ble_eq_true rfl) ?_
  refine W.eq (g2 := F0 m 4 ls []) rfl ?_
  refine lv_aload_n hx hb dX6_init_4 rfl (lv_at hl 0 rfl) ?_
  refine lv_iconst (v := (-1)) hx hb dX6_init_5 (by decide) ?_
  refine va_put (D := (dC, dI)) (ci := 11) (v := .int (-1)) (ty := .int) (C := RX6) (T := TX6) (N := 7) hx hb hts (fun _ h9 => List.mem_cons_of_mem _ (List.mem_append_left _ (List.mem_append_left _ (List.mem_append_right _ (h9))))) tyX6 tyX6_ok nmX6 hown hK hP hD hS 0 rfl rfl 2 (by decide) (hts (.fieldLink RX6 9 "ExamHallsModel$Candidate" "number" "I") (List.mem_of_getElem? (i := 4) rfl)) (fun _ h9 => h9) rfl (by decide +kernel) rfl rfl (Nat.le_of_ble_eq_true rfl) dX6_init_6 (fun H locs hP hD hS => ?_)
  have hP : va_P (dC, dI) vwCl [(y, .inr (11, [.int 0, .null, .int (-1), .int 0, .int 0, .null, .null]))] H := hP
  have hD : va_D A [(y, .inr (11, [.int 0, .null, .int (-1), .int 0, .int 0, .null, .null]))] := hD
  refine lv_aload_n hx hb dX6_init_9 rfl (lv_at hl 0 rfl) ?_
  refine lv_iconst (v := (-1)) hx hb dX6_init_10 (by decide) ?_
  refine va_put (D := (dC, dI)) (ci := 11) (v := .int (-1)) (ty := .int) (C := RX6) (T := TX6) (N := 7) hx hb hts (fun _ h9 => List.mem_cons_of_mem _ (List.mem_append_left _ (List.mem_append_left _ (List.mem_append_right _ (h9))))) tyX6 tyX6_ok nmX6 hown hK hP hD hS 0 rfl rfl 3 (by decide) (hts (.fieldLink RX6 15 "ExamHallsModel$Candidate" "cell" "I") (List.mem_of_getElem? (i := 5) rfl)) (fun _ h9 => h9) rfl (by decide +kernel) rfl rfl (Nat.le_of_ble_eq_true rfl) dX6_init_11 (fun H locs hP hD hS => ?_)
  have hP : va_P (dC, dI) vwCl [(y, .inr (11, [.int 0, .null, .int (-1), .int (-1), .int 0, .null, .null]))] H := hP
  have hD : va_D A [(y, .inr (11, [.int 0, .null, .int (-1), .int (-1), .int 0, .null, .null]))] := hD
  refine lv_aload_n hx hb dX6_init_14 rfl (lv_at hl 0 rfl) ?_
  refine lv_bipush (v := 8) hx hb dX6_init_15 (by decide) ?_
  refine lv_iconst (v := 4) hx hb dX6_init_17 (by decide) ?_
  refine lv_iconst (v := 4) hx hb dX6_init_18 (by decide) ?_
  obtain ⟨cy, ca, ka, hcy, hka, hkk, hca⟩ := hF.2.2.2.2.2.1
  obtain ⟨cb, cd, kd, hcb, hkd, hkkd, hcd⟩ := hF.2.2.2.2.2.2.1
  obtain ⟨cy2, kyy, cz, hcy2, hky, hkky⟩ := hF.2.2.2.2.2.2.2.1
  cases hcy2.symm.trans hcy
  cases hcb.symm.trans hca
  refine mk_W3 (n1 := 8) (n2 := 4) (n3 := 4) (kc := 41) (ns := 168) hx hb hown (va_Nw.use rfl hF.2.2.2.2.2.2.2.2) hcd (fun f V hV => ?_) dX6_init_19 (Nat.le_of_ble_eq_true rfl) (Nat.le_of_ble_eq_true rfl) hP hS hA (fun q_1 H locs hP hS => ?_)
  · obtain ⟨k1, hk1, he1⟩ := hV.2.2 _ _ hka
    obtain ⟨k2, hk2, he2⟩ := hV.2.2 _ _ hky
    obtain ⟨k3, hk3, he3⟩ := hV.2.2 _ _ hkd
    exact mk_step (kc := 5) (ns := 20) hk3 (by rw [he3]; exact hkkd) rfl (by decide) (by decide) (by decide) (by decide) (mk_step (kc := 1) (ns := 4) hk1 (by rw [he1]; exact hkk) rfl (by decide) (by decide) (by decide) (by decide) (mk_one (k := 4) hk2 (by rw [he2]; exact hkky) (by decide) (by decide) rfl rfl (by decide)))
  have hP : va_P (dC, dI) vwCl [(y, .inr (11, [.int 0, .null, .int (-1), .int (-1), .int 0, .null, .null]))] H := hP
  refine W.widen (k := 41) (n := 168) (Nat.le_of_ble_eq_true rfl) (Nat.le_of_ble_eq_true rfl) ?_
  refine va_put (D := (dC, dI)) (ci := 11) (v := .ref q_1) (ty := .array (.array (.array .boolean))) (C := RX6) (T := TX6) (N := 7) hx hb hts (fun _ h9 => List.mem_cons_of_mem _ (List.mem_append_left _ (List.mem_append_left _ (List.mem_append_right _ (h9))))) tyX6 tyX6_ok nmX6 hown hK hP hD hS 0 rfl rfl 5 (by decide) (hts (.fieldLink RX6 20 "ExamHallsModel$Candidate" "seen" "[[[Z") (List.mem_of_getElem? (i := 6) rfl)) (fun _ h9 => h9) rfl (by decide +kernel) rfl rfl (Nat.le_of_ble_eq_true rfl) dX6_init_23 (fun H locs hP hD hS => ?_)
  have hP : va_P (dC, dI) vwCl [(y, .inr (11, [.int 0, .null, .int (-1), .int (-1), .int 0, .ref q_1, .null]))] H := hP
  have hD : va_D A [(y, .inr (11, [.int 0, .null, .int (-1), .int (-1), .int 0, .ref q_1, .null]))] := hD
  refine lv_aload_n hx hb dX6_init_26 rfl (lv_at hl 0 rfl) ?_
  refine va_new (ci := 4) (fs := [.int 0, .null, .int 0]) (C := RJx4a65c) (T := TJx4a65c) (N := 3) hx hb hts (fun _ h9 => List.mem_cons_of_mem _ (List.mem_append_left _ (List.mem_append_right _ (h9)))) tyJx4a65c tyJx4a65c_ok hown (hts (.classLink RX6 23 RJx4a65c) (List.mem_of_getElem? (i := 7) rfl)) (hts (.instantiable RJx4a65c 3) (List.mem_of_getElem? (i := 8) rfl)) (hts (.initialized RJx4a65c) (List.mem_of_getElem? (i := 9) rfl)) hK hP hD hS hA rfl dfJx4a65c (Nat.le_of_ble_eq_true rfl) (Nat.le_of_ble_eq_true rfl) dX6_init_27 (fun q_2 H hP hD hS => ?_)
  have hP : va_P (dC, dI) vwCl [(y, .inr (11, [.int 0, .null, .int (-1), .int (-1), .int 0, .ref q_1, .null])), (q_2, .inr (4, [.int 0, .null, .int 0]))] H := hP
  have hD : va_D A [(y, .inr (11, [.int 0, .null, .int (-1), .int (-1), .int 0, .ref q_1, .null])), (q_2, .inr (4, [.int 0, .null, .int 0]))] := hD
  refine W.widen (k := 42) (n := 171) (Nat.le_of_ble_eq_true rfl) (Nat.le_of_ble_eq_true rfl) ?_
  refine lv_dup hx hb dX6_init_30 rfl ?_
  have hPc := hP.sub (ws' := [(q_2, .inr (4, [.int 0, .null, .int 0]))]) [1] rfl
  have hDc := hD.sub (ws' := [(q_2, .inr (4, [.int 0, .null, .int 0]))]) [1] (by decide) rfl
  have hKc := hK.sub (tys' := []) [] rfl
  have hFc := va_free (wc := [(q_2, .inr (4, [.int 0, .null, .int 0]))]) hD hS hA [1] rfl
  refine va_callv (va_runI (As := []) (rest := [.ref q_2, .ref y]) ⟨hx, hb, hml, hown, hts⟩ (c_AL_init l dC dI d tc ad q_2 H.size) (cwI 0 hts gX6_init_Jx4a65c_init_da8c8 rfl rfl rfl (hts (.initialized RJx4a65c) (List.mem_of_getElem? (i := 9) rfl)) (hts (.methodLink RX6 25 yJx4a65c_init_da8c8) (List.mem_of_getElem? (i := 11) rfl)) (hts (.instanceMethod yJx4a65c_init_da8c8) (List.mem_of_getElem? (i := 12) rfl)) rfl (by decide +kernel) ⟨Nat.le_of_ble_eq_true rfl, Nat.le_of_ble_eq_true rfl⟩) ⟨PZ_blind, PZ_pre hPc hKc hDc hF hZ hS hFc⟩ rfl rfl hl.1 rfl (lv_room (Nat.le_of_ble_eq_true rfl)) dX6_init_31 ⟨Nat.le_of_ble_eq_true rfl, Nat.le_of_ble_eq_true rfl⟩) hS (fun q _ h => hFc q h) hFc (fun u t H1 locs ht hvm hw hB hz1 hk1 hS => ?_)
  obtain ⟨hP1, hK1, hD1⟩ := hB
  rw [ht] at hP1
  have hK1 := va_K.moved hvm.symm hK1
  obtain ⟨hP, hD⟩ := va_join (wr := [(y, .inr (11, [.int 0, .null, .int (-1), .int (-1), .int 0, .ref q_1, .null]))]) (w1 := [(q_2, .inr (4, [.int 0, .ref d, .int 0]))]) hP hD [1] [0] rfl rfl (by decide) (by decide) hk1 hFc hP1 hD1
  have hK := hK.app hK1
  generalize H1 = H at hP hS ⊢
  have hP : va_P (dC, dI) vwCl [(y, .inr (11, [.int 0, .null, .int (-1), .int (-1), .int 0, .ref q_1, .null])), (q_2, .inr (4, [.int 0, .ref d, .int 0]))] H := hP
  have hD : va_D A [(y, .inr (11, [.int 0, .null, .int (-1), .int (-1), .int 0, .ref q_1, .null])), (q_2, .inr (4, [.int 0, .ref d, .int 0]))] := hD
  have hK : va_K (dC, dI) vwCl [] s := hK
  refine W.widen (k := 42) (n := 171) (Nat.le_of_ble_eq_true rfl) (Nat.le_of_ble_eq_true rfl) ?_
  refine va_put (D := (dC, dI)) (ci := 11) (v := .ref q_2) (ty := .object "java/util/List") (C := RX6) (T := TX6) (N := 7) hx hb hts (fun _ h9 => List.mem_cons_of_mem _ (List.mem_append_left _ (List.mem_append_left _ (List.mem_append_right _ (h9))))) tyX6 tyX6_ok nmX6 hown hK hP hD hS 0 rfl rfl 6 (by decide) (hts (.fieldLink RX6 26 "ExamHallsModel$Candidate" "readings" "Ljava/util/List;") (List.mem_of_getElem? (i := 10) rfl)) (fun _ h9 => h9) rfl (by decide +kernel) rfl rfl (Nat.le_of_ble_eq_true rfl) dX6_init_34 (fun H locs hP hD hS => ?_)
  have hP : va_P (dC, dI) vwCl [(y, .inr (11, [.int 0, .null, .int (-1), .int (-1), .int 0, .ref q_1, .ref q_2])), (q_2, .inr (4, [.int 0, .ref d, .int 0]))] H := hP
  have hD : va_D A [(y, .inr (11, [.int 0, .null, .int (-1), .int (-1), .int 0, .ref q_1, .ref q_2])), (q_2, .inr (4, [.int 0, .ref d, .int 0]))] := hD
  have hP9 := hP.sub (ws' := [(y, .inr (11, [.int 0, .null, .int (-1), .int (-1), .int 0, .ref q_1, .ref q_2]))]) [0] rfl
  have hD9 := hD.sub (ws' := [(y, .inr (11, [.int 0, .null, .int (-1), .int (-1), .int 0, .ref q_1, .ref q_2]))]) [0] (by decide) rfl
  have hK9 := hK.sub (tys' := []) [] rfl
  exact W.vret hx hb hr (fun t ht hW => ⟨⟨(), rfl, trivial, q_1, q_2, by rw [ht]; exact hP9, va_K.moved hW.alike hK9, hD9⟩, hS.F ht⟩) hS.2.2 dX6_init_37

set_option maxHeartbeats 4000000 in
set_option maxRecDepth 100000 in
theorem c_X7_init (l : Launch) (dC : Nat → ClassId) (dI : Nat → Nat → Nat) (y : Nat) (sz : Nat) : Met l yX7_init wsX7_init ({ frames := 1, cells := 0, slots := 0, locals := 12 }) (va_Pc [.ref y] (PQ dC dI sz [(y, .inr (12, [.int 0, .int 0]))] [])) (va_Qv (fun _ : Unit => True) (fun _ t => va_P (dC, dI) vwCl [(y, .inr (12, [.int 0, .int 0]))] t.heap ∧ va_K (dC, dI) vwCl [] t ∧ va_D (va_A [(y, .inr (12, [.int 0, .int 0]))] sz) [(y, .inr (12, [.int 0, .int 0]))]) (va_A [(y, .inr (12, [.int 0, .int 0]))] sz)) 0 0 (va_A [(y, .inr (12, [.int 0, .int 0]))] sz) := by
  refine Met.ofW (cc := cX7_init) (maxL := 1) (ret := none) (by decide) rfl ?_
  intro p e s m args below meth c s₁ B hml hv
  obtain ⟨rfl, hsz, hP, hK, hD0, hF⟩ := hv
  have hx := B.exec
  have hb := B.bytes
  have hr := B.returns
  have hts := atoms_spec (ws := wsX7_init) B.pre
  have hown : s.vm.findClass RX7 = some m.cls := findClass_of_methodNamed B.named
  have hlocks := B.notSynchronized
  have hin : meth.name = "<init>" := (name_of_methodNamed B.named B.method).1
  subst hsz
  have hD := hD0.self (sz := s.heap.size)
  generalize hAe : va_A [(y, .inr (12, [.int 0, .int 0]))] s.heap.size = A at hD ⊢
  have hA : ∀ q : Nat, s.heap.size ≤ q → A q := fun q h => by rw [← hAe]; exact Or.inr h
  have hS : va_S A s.heap s.heap [] := va_S.rf
  have hl := lv_entry ([.ref y]) (n := 1) (Nat.le_of_ble_eq_true rfl)
  rw [lg_entry_eq]
  generalize (lg_sl ([.ref y]) ++ List.replicate (1 - (lg_sl ([.ref y])).length) Slot.unset).toArray = ls at hl ⊢
  have hl : lv_has ls 1 [(0, .ref y)] := hl
  refine lv_aload_n hx hb dX7_init_0 rfl (lv_at hl 0 rfl) ?_
  refine W.objInit hx hb hown (hts (.methodLink RX7 1 objectInit) (List.mem_of_getElem? (i := 1) rfl)) (hts (.instanceMethod objectInit) (List.mem_of_getElem? (i := 2) rfl)) (hts _ (List.mem_of_getElem? (i := 3) rfl)) rfl (by rw [hml]; exact hl.1) rfl dX7_init_1 (Nat.le_of_ble_eq_true rfl) (Nat.le_of_ble_eq_true rfl) ?_
  refine W.eq (g2 := F0 m 4 ls []) rfl ?_
  have hP9 := hP.sub (ws' := [(y, .inr (12, [.int 0, .int 0]))]) [0] rfl
  have hD9 := hD.sub (ws' := [(y, .inr (12, [.int 0, .int 0]))]) [0] (by decide) rfl
  have hK9 := hK.sub (tys' := []) [] rfl
  exact W.vret hx hb hr (fun t ht hW => ⟨⟨(), rfl, trivial, by rw [ht]; exact hP9, va_K.moved hW.alike hK9, hD9⟩, hS.F ht⟩) hS.2.2 dX7_init_4

def sp_M_form (c1 : Int32) : Int32 := if c1 < 1 then (-2) else if c1 ≤ 8 then 1 else (-2)
set_option maxHeartbeats 4000000 in
set_option maxRecDepth 100000 in
theorem c_M_form (l : Launch) (dC : Nat → ClassId) (dI : Nat → Nat → Nat) (mx : Nat) (lc : Nat) (lr : Nat) (kn : Nat) (lt : Nat) (ml : Nat) (mm : Nat) (lp : Nat) (lb : Nat) (mq : Nat) (c1 : Int32) (sz : Nat) : Met l yX9_form wsX9_form ({ frames := 0, cells := 0, slots := 0, locals := 0 }) (va_Pc [.ref mx, .int c1] (PQ dC dI sz [(mx, .inr (14, [.ref lc, .ref lr, .ref kn, .ref lt, .ref ml, .ref mm, .ref lp, .ref lb, .ref mq, .int 1, .int 10, .int 0, .int 0]))] [])) (va_Qi (fun r (_ : Unit) => r = sp_M_form c1) (fun _ _ => True) (va_A [(mx, .inr (14, [.ref lc, .ref lr, .ref kn, .ref lt, .ref ml, .ref mm, .ref lp, .ref lb, .ref mq, .int 1, .int 10, .int 0, .int 0]))] sz)) 0 0 (va_A [(mx, .inr (14, [.ref lc, .ref lr, .ref kn, .ref lt, .ref ml, .ref mm, .ref lp, .ref lb, .ref mq, .int 1, .int 10, .int 0, .int 0]))] sz) := by
  refine Met.ofW (cc := cX9_form) (maxL := 3) (ret := (some .int)) (by decide) rfl ?_
  intro p e s m args below meth c s₁ B hml hv
  obtain ⟨rfl, hsz, hP, hK, hD0, hF⟩ := hv
  have hx := B.exec
  have hb := B.bytes
  have hr := B.returns
  have hts := atoms_spec (ws := wsX9_form) B.pre
  have hown : s.vm.findClass RX9 = some m.cls := findClass_of_methodNamed B.named
  have hlocks := B.notSynchronized
  subst hsz
  have hD := hD0.self (sz := s.heap.size)
  generalize hAe : va_A [(mx, .inr (14, [.ref lc, .ref lr, .ref kn, .ref lt, .ref ml, .ref mm, .ref lp, .ref lb, .ref mq, .int 1, .int 10, .int 0, .int 0]))] s.heap.size = A at hD ⊢
  have hA : ∀ q : Nat, s.heap.size ≤ q → A q := fun q h => by rw [← hAe]; exact Or.inr h
  have hS : va_S A s.heap s.heap [] := va_S.rf
  have hl := lv_entry ([.ref mx, .int c1]) (n := 3) (Nat.le_of_ble_eq_true rfl)
  rw [lg_entry_eq]
  generalize (lg_sl ([.ref mx, .int c1]) ++ List.replicate (3 - (lg_sl ([.ref mx, .int c1])).length) Slot.unset).toArray = ls at hl ⊢
  have hl : lv_has ls 3 [(0, .ref mx), (1, .int c1)] := hl
  refine lv_iload_n hx hb dX9_form_0 rfl (lv_at hl 1 rfl) ?_
  refine lv_iconst (v := 1) hx hb dX9_form_1 (by decide) ?_
  refine lv_icmp_lt (tgt := 11) hx hb dX9_form_2 (by decide) (fun c_1 => ?_) (fun c_1 => ?_)
  · skip
    refine lv_bipush (v := (-2)) hx hb dX9_form_11 (by decide) ?_
    exact W.iret (v := (-2)) hx hb hr (fun t ht hW => ⟨⟨_, (), rfl, (by simp only [sp_M_form, if_pos c_1]), trivial⟩, hS.F ht⟩) hS.2.2 dX9_form_13
  · skip
    refine lv_iload_n hx hb dX9_form_5 rfl (lv_at hl 1 rfl) ?_
    refine lv_bipush (v := 8) hx hb dX9_form_6 (by decide) ?_
    refine lv_icmp_le (tgt := 14) hx hb dX9_form_8 (by decide) (fun c_2 => ?_) (fun c_2 => ?_)
    · skip
      refine lv_aload_n hx hb dX9_form_14 rfl (lv_at hl 0 rfl) ?_
      refine va_get (D := (dC, dI)) (ci := 14) (v := .int 1) (C := RX9) (T := TX9) (N := 13) hx hb hts (fun _ h9 => List.mem_cons_of_mem _ (List.mem_append_right _ (h9))) hown hK hP 0 rfl rfl 9 (by decide) (hts (.fieldLink RX9 43 "ExamHallsModel" "formLegs" "I") (List.mem_of_getElem? (i := 1) rfl)) (fun _ h9 => h9) rfl dX9_form_15 ?_
      refine lv_istore_n (lv' := [(2, .int 1), (0, .ref mx), (1, .int c1)]) hx hb dX9_form_18 rfl hl (by decide) rfl (fun ls hl => ?_)
      refine lv_aload_n hx hb dX9_form_19 rfl (lv_at hl 1 rfl) ?_
      refine lv_iload_n hx hb dX9_form_20 rfl (lv_at hl 2 rfl) ?_
      refine va_put (D := (dC, dI)) (ci := 14) (v := .int c1) (ty := .int) (C := RX9) (T := TX9) (N := 13) hx hb hts (fun _ h9 => List.mem_cons_of_mem _ (List.mem_append_right _ (h9))) tyX9 tyX9_ok nmX9 hown hK hP hD hS 0 rfl rfl 9 (by decide) (hts (.fieldLink RX9 43 "ExamHallsModel" "formLegs" "I") (List.mem_of_getElem? (i := 1) rfl)) (fun _ h9 => h9) rfl (by decide +kernel) rfl rfl (Nat.le_of_ble_eq_true rfl) dX9_form_21 (fun H locs hP hD hS => ?_)
      have hP : va_P (dC, dI) vwCl [(mx, .inr (14, [.ref lc, .ref lr, .ref kn, .ref lt, .ref ml, .ref mm, .ref lp, .ref lb, .ref mq, .int c1, .int 10, .int 0, .int 0]))] H := hP
      have hD : va_D A [(mx, .inr (14, [.ref lc, .ref lr, .ref kn, .ref lt, .ref ml, .ref mm, .ref lp, .ref lb, .ref mq, .int c1, .int 10, .int 0, .int 0]))] := hD
      refine lv_iload_n hx hb dX9_form_24 rfl (lv_at hl 0 rfl) ?_
      exact W.iret (v := 1) hx hb hr (fun t ht hW => ⟨⟨_, (), rfl, (by simp only [sp_M_form, if_neg c_1, if_pos c_2]), trivial⟩, hS.F ht⟩) hS.2.2 dX9_form_25
    · skip
      refine lv_bipush (v := (-2)) hx hb dX9_form_11 (by decide) ?_
      exact W.iret (v := (-2)) hx hb hr (fun t ht hW => ⟨⟨_, (), rfl, (by simp only [sp_M_form, if_neg c_1, if_neg c_2]), trivial⟩, hS.F ht⟩) hS.2.2 dX9_form_13

def sp_M_measure (c1 : Int32) (c2 : Int32) (c3 : Int32) : Int32 := if (sp_M_isLeg c1) = 0 then (-1) else if c2 < 1 then (-2) else if 12 < c2 then (-2) else if c3 < 1 then (-2) else if 12 < c3 then (-2) else if c2 ≤ c3 then 0 else (-2)
set_option maxHeartbeats 4000000 in
set_option maxRecDepth 100000 in
theorem c_M_measure (l : Launch) (dC : Nat → ClassId) (dI : Nat → Nat → Nat) (mx : Nat) (lc : Nat) (lr : Nat) (kn : Nat) (lt : Nat) (ml : Nat) (mm : Nat) (lp : Nat) (lb : Nat) (mq : Nat) (kl : ClassId) (km : ClassId) (fl : Nat → Int32) (fm : Nat → Int32) (c1 : Int32) (c2 : Int32) (c3 : Int32) (sz : Nat) : Met l yX9_measure wsX9_measure ({ frames := 1, cells := 0, slots := 0, locals := 20 }) (va_Pc [.ref mx, .int c1, .int c2, .int c3] (PQ dC dI sz [(mx, .inr (14, [.ref lc, .ref lr, .ref kn, .ref lt, .ref ml, .ref mm, .ref lp, .ref lb, .ref mq, .int 1, .int 10, .int 0, .int 0])), (ml, .inl (kl, 8, .inl fl)), (mm, .inl (km, 8, .inl fm))] [(kl, .int), (km, .int)])) (va_Qi (fun r (_ : Unit) => r = sp_M_measure c1 c2 c3) (fun _ _ => True) (va_A [(mx, .inr (14, [.ref lc, .ref lr, .ref kn, .ref lt, .ref ml, .ref mm, .ref lp, .ref lb, .ref mq, .int 1, .int 10, .int 0, .int 0])), (ml, .inl (kl, 8, .inl fl)), (mm, .inl (km, 8, .inl fm))] sz)) 0 0 (va_A [(mx, .inr (14, [.ref lc, .ref lr, .ref kn, .ref lt, .ref ml, .ref mm, .ref lp, .ref lb, .ref mq, .int 1, .int 10, .int 0, .int 0])), (ml, .inl (kl, 8, .inl fl)), (mm, .inl (km, 8, .inl fm))] sz) := by
  refine Met.ofW (cc := cX9_measure) (maxL := 4) (ret := (some .int)) (by decide) rfl ?_
  intro p e s m args below meth c s₁ B hml hv
  obtain ⟨rfl, hsz, hP, hK, hD0, hF⟩ := hv
  have hx := B.exec
  have hb := B.bytes
  have hr := B.returns
  have hts := atoms_spec (ws := wsX9_measure) B.pre
  have hown : s.vm.findClass RX9 = some m.cls := findClass_of_methodNamed B.named
  have hlocks := B.notSynchronized
  subst hsz
  have hD := hD0.self (sz := s.heap.size)
  generalize hAe : va_A [(mx, .inr (14, [.ref lc, .ref lr, .ref kn, .ref lt, .ref ml, .ref mm, .ref lp, .ref lb, .ref mq, .int 1, .int 10, .int 0, .int 0])), (ml, .inl (kl, 8, .inl fl)), (mm, .inl (km, 8, .inl fm))] s.heap.size = A at hD ⊢
  have hA : ∀ q : Nat, s.heap.size ≤ q → A q := fun q h => by rw [← hAe]; exact Or.inr h
  have hS : va_S A s.heap s.heap [] := va_S.rf
  have hl := lv_entry ([.ref mx, .int c1, .int c2, .int c3]) (n := 4) (Nat.le_of_ble_eq_true rfl)
  rw [lg_entry_eq]
  generalize (lg_sl ([.ref mx, .int c1, .int c2, .int c3]) ++ List.replicate (4 - (lg_sl ([.ref mx, .int c1, .int c2, .int c3])).length) Slot.unset).toArray = ls at hl ⊢
  have hl : lv_has ls 4 [(0, .ref mx), (1, .int c1), (2, .int c2), (3, .int c3)] := hl
  refine lv_iload_n hx hb dX9_measure_0 rfl (lv_at hl 1 rfl) ?_
  refine vp_callSi (va_Run.run (va_runS (As := [.int c1]) (rest := []) ⟨hx, hb, hml, hown, hts⟩ (c_M_isLeg l dC dI c1) (va_cwS 1 hts gX9_measure_X9_isLeg rfl rfl rfl (by decide +kernel) ⟨Nat.le_of_ble_eq_true rfl, Nat.le_of_ble_eq_true rfl⟩) ⟨PS_blind, PS_pre (hP.sub (ws' := []) [] rfl) (hK.sub (tys' := []) [] rfl) hF⟩ rfl rfl hl.1 rfl (lv_room (Nat.le_of_ble_eq_true rfl)) dX9_measure_1 ⟨Nat.le_of_ble_eq_true rfl, Nat.le_of_ble_eq_true rfl⟩)) (fun r_1 hr_1 => ?_)
  subst hr_1
  refine lv_if_ne (tgt := 9) hx hb dX9_measure_4 (by decide) (fun c_2 => ?_) (fun c_2 => ?_)
  · skip
    refine lv_iload_n hx hb dX9_measure_9 rfl (lv_at hl 2 rfl) ?_
    refine lv_iconst (v := 1) hx hb dX9_measure_10 (by decide) ?_
    refine lv_icmp_lt (tgt := 36) hx hb dX9_measure_11 (by decide) (fun c_3 => ?_) (fun c_3 => ?_)
    · skip
      refine lv_bipush (v := (-2)) hx hb dX9_measure_36 (by decide) ?_
      exact W.iret (v := (-2)) hx hb hr (fun t ht hW => ⟨⟨_, (), rfl, (by simp only [sp_M_measure, if_neg c_2, if_pos c_3]), trivial⟩, hS.F ht⟩) hS.2.2 dX9_measure_38
    · skip
      refine lv_iload_n hx hb dX9_measure_14 rfl (lv_at hl 2 rfl) ?_
      refine lv_bipush (v := 12) hx hb dX9_measure_15 (by decide) ?_
      refine lv_icmp_gt (tgt := 36) hx hb dX9_measure_17 (by decide) (fun c_4 => ?_) (fun c_4 => ?_)
      · skip
        refine lv_bipush (v := (-2)) hx hb dX9_measure_36 (by decide) ?_
        exact W.iret (v := (-2)) hx hb hr (fun t ht hW => ⟨⟨_, (), rfl, (by simp only [sp_M_measure, if_neg c_2, if_neg c_3, if_pos c_4]), trivial⟩, hS.F ht⟩) hS.2.2 dX9_measure_38
      · skip
        refine lv_iload_n hx hb dX9_measure_20 rfl (lv_at hl 3 rfl) ?_
        refine lv_iconst (v := 1) hx hb dX9_measure_21 (by decide) ?_
        refine lv_icmp_lt (tgt := 36) hx hb dX9_measure_22 (by decide) (fun c_5 => ?_) (fun c_5 => ?_)
        · skip
          refine lv_bipush (v := (-2)) hx hb dX9_measure_36 (by decide) ?_
          exact W.iret (v := (-2)) hx hb hr (fun t ht hW => ⟨⟨_, (), rfl, (by simp only [sp_M_measure, if_neg c_2, if_neg c_3, if_neg c_4, if_pos c_5]), trivial⟩, hS.F ht⟩) hS.2.2 dX9_measure_38
        · skip
          refine lv_iload_n hx hb dX9_measure_25 rfl (lv_at hl 3 rfl) ?_
          refine lv_bipush (v := 12) hx hb dX9_measure_26 (by decide) ?_
          refine lv_icmp_gt (tgt := 36) hx hb dX9_measure_28 (by decide) (fun c_6 => ?_) (fun c_6 => ?_)
          · skip
            refine lv_bipush (v := (-2)) hx hb dX9_measure_36 (by decide) ?_
            exact W.iret (v := (-2)) hx hb hr (fun t ht hW => ⟨⟨_, (), rfl, (by simp only [sp_M_measure, if_neg c_2, if_neg c_3, if_neg c_4, if_neg c_5, if_pos c_6]), trivial⟩, hS.F ht⟩) hS.2.2 dX9_measure_38
          · skip
            refine lv_iload_n hx hb dX9_measure_31 rfl (lv_at hl 2 rfl) ?_
            refine lv_iload_n hx hb dX9_measure_32 rfl (lv_at hl 3 rfl) ?_
            refine lv_icmp_le (tgt := 39) hx hb dX9_measure_33 (by decide) (fun c_7 => ?_) (fun c_7 => ?_)
            · skip
              refine lv_aload_n hx hb dX9_measure_39 rfl (lv_at hl 0 rfl) ?_
              refine va_get (D := (dC, dI)) (ci := 14) (v := .ref ml) (C := RX9) (T := TX9) (N := 13) hx hb hts (fun _ h9 => List.mem_cons_of_mem _ (List.mem_append_right _ (h9))) hown hK hP 0 rfl rfl 4 (by decide) (hts (.fieldLink RX9 27 "ExamHallsModel" "least" "[I") (List.mem_of_getElem? (i := 1) rfl)) (fun _ h9 => h9) rfl dX9_measure_40 ?_
              refine lv_iload_n hx hb dX9_measure_43 rfl (lv_at hl 1 rfl) ?_
              refine lv_iload_n hx hb dX9_measure_44 rfl (lv_at hl 2 rfl) ?_
              refine va_iast hx hb hK hP hD hS 1 0 rfl rfl (vin_isLeg c_2) dX9_measure_45 (fun H locs hP hD hS => ?_)
              have hP : va_P (dC, dI) vwCl [(mx, .inr (14, [.ref lc, .ref lr, .ref kn, .ref lt, .ref ml, .ref mm, .ref lp, .ref lb, .ref mq, .int 1, .int 10, .int 0, .int 0])), (ml, .inl (kl, 8, .inl (upd fl (c1 : Int32).toNatClampNeg c2))), (mm, .inl (km, 8, .inl fm))] H := hP
              have hD : va_D A [(mx, .inr (14, [.ref lc, .ref lr, .ref kn, .ref lt, .ref ml, .ref mm, .ref lp, .ref lb, .ref mq, .int 1, .int 10, .int 0, .int 0])), (ml, .inl (kl, 8, .inl (upd fl (c1 : Int32).toNatClampNeg c2))), (mm, .inl (km, 8, .inl fm))] := hD
              generalize (upd fl (c1 : Int32).toNatClampNeg c2) = a_8 at hP hD
              refine lv_aload_n hx hb dX9_measure_46 rfl (lv_at hl 0 rfl) ?_
              refine va_get (D := (dC, dI)) (ci := 14) (v := .ref mm) (C := RX9) (T := TX9) (N := 13) hx hb hts (fun _ h9 => List.mem_cons_of_mem _ (List.mem_append_right _ (h9))) hown hK hP 0 rfl rfl 5 (by decide) (hts (.fieldLink RX9 31 "ExamHallsModel" "most" "[I") (List.mem_of_getElem? (i := 2) rfl)) (fun _ h9 => h9) rfl dX9_measure_47 ?_
              refine lv_iload_n hx hb dX9_measure_50 rfl (lv_at hl 1 rfl) ?_
              refine lv_iload_n hx hb dX9_measure_51 rfl (lv_at hl 3 rfl) ?_
              refine va_iast hx hb hK hP hD hS 2 1 rfl rfl (vin_isLeg c_2) dX9_measure_52 (fun H locs hP hD hS => ?_)
              have hP : va_P (dC, dI) vwCl [(mx, .inr (14, [.ref lc, .ref lr, .ref kn, .ref lt, .ref ml, .ref mm, .ref lp, .ref lb, .ref mq, .int 1, .int 10, .int 0, .int 0])), (ml, .inl (kl, 8, .inl a_8)), (mm, .inl (km, 8, .inl (upd fm (c1 : Int32).toNatClampNeg c3)))] H := hP
              have hD : va_D A [(mx, .inr (14, [.ref lc, .ref lr, .ref kn, .ref lt, .ref ml, .ref mm, .ref lp, .ref lb, .ref mq, .int 1, .int 10, .int 0, .int 0])), (ml, .inl (kl, 8, .inl a_8)), (mm, .inl (km, 8, .inl (upd fm (c1 : Int32).toNatClampNeg c3)))] := hD
              generalize (upd fm (c1 : Int32).toNatClampNeg c3) = a_9 at hP hD
              refine lv_iconst (v := 0) hx hb dX9_measure_53 (by decide) ?_
              exact W.iret (v := 0) hx hb hr (fun t ht hW => ⟨⟨_, (), rfl, (by simp only [sp_M_measure, if_neg c_2, if_neg c_3, if_neg c_4, if_neg c_5, if_neg c_6, if_pos c_7]), trivial⟩, hS.F ht⟩) hS.2.2 dX9_measure_54
            · skip
              refine lv_bipush (v := (-2)) hx hb dX9_measure_36 (by decide) ?_
              exact W.iret (v := (-2)) hx hb hr (fun t ht hW => ⟨⟨_, (), rfl, (by simp only [sp_M_measure, if_neg c_2, if_neg c_3, if_neg c_4, if_neg c_5, if_neg c_6, if_neg c_7]), trivial⟩, hS.F ht⟩) hS.2.2 dX9_measure_38
  · skip
    refine lv_iconst (v := (-1)) hx hb dX9_measure_7 (by decide) ?_
    exact W.iret (v := (-1)) hx hb hr (fun t ht hW => ⟨⟨_, (), rfl, (by simp only [sp_M_measure, if_pos c_2]), trivial⟩, hS.F ht⟩) hS.2.2 dX9_measure_8

def sp_M_apart (c1 : Int32) : Int32 := if c1 < 0 then (-2) else if c1 ≤ 99 then 10 else (-2)
set_option maxHeartbeats 4000000 in
set_option maxRecDepth 100000 in
theorem c_M_apart (l : Launch) (dC : Nat → ClassId) (dI : Nat → Nat → Nat) (mx : Nat) (lc : Nat) (lr : Nat) (kn : Nat) (lt : Nat) (ml : Nat) (mm : Nat) (lp : Nat) (lb : Nat) (mq : Nat) (c1 : Int32) (sz : Nat) : Met l yX9_apart wsX9_apart ({ frames := 0, cells := 0, slots := 0, locals := 0 }) (va_Pc [.ref mx, .int c1] (PQ dC dI sz [(mx, .inr (14, [.ref lc, .ref lr, .ref kn, .ref lt, .ref ml, .ref mm, .ref lp, .ref lb, .ref mq, .int 1, .int 10, .int 0, .int 0]))] [])) (va_Qi (fun r (_ : Unit) => r = sp_M_apart c1) (fun _ _ => True) (va_A [(mx, .inr (14, [.ref lc, .ref lr, .ref kn, .ref lt, .ref ml, .ref mm, .ref lp, .ref lb, .ref mq, .int 1, .int 10, .int 0, .int 0]))] sz)) 0 0 (va_A [(mx, .inr (14, [.ref lc, .ref lr, .ref kn, .ref lt, .ref ml, .ref mm, .ref lp, .ref lb, .ref mq, .int 1, .int 10, .int 0, .int 0]))] sz) := by
  refine Met.ofW (cc := cX9_apart) (maxL := 3) (ret := (some .int)) (by decide) rfl ?_
  intro p e s m args below meth c s₁ B hml hv
  obtain ⟨rfl, hsz, hP, hK, hD0, hF⟩ := hv
  have hx := B.exec
  have hb := B.bytes
  have hr := B.returns
  have hts := atoms_spec (ws := wsX9_apart) B.pre
  have hown : s.vm.findClass RX9 = some m.cls := findClass_of_methodNamed B.named
  have hlocks := B.notSynchronized
  subst hsz
  have hD := hD0.self (sz := s.heap.size)
  generalize hAe : va_A [(mx, .inr (14, [.ref lc, .ref lr, .ref kn, .ref lt, .ref ml, .ref mm, .ref lp, .ref lb, .ref mq, .int 1, .int 10, .int 0, .int 0]))] s.heap.size = A at hD ⊢
  have hA : ∀ q : Nat, s.heap.size ≤ q → A q := fun q h => by rw [← hAe]; exact Or.inr h
  have hS : va_S A s.heap s.heap [] := va_S.rf
  have hl := lv_entry ([.ref mx, .int c1]) (n := 3) (Nat.le_of_ble_eq_true rfl)
  rw [lg_entry_eq]
  generalize (lg_sl ([.ref mx, .int c1]) ++ List.replicate (3 - (lg_sl ([.ref mx, .int c1])).length) Slot.unset).toArray = ls at hl ⊢
  have hl : lv_has ls 3 [(0, .ref mx), (1, .int c1)] := hl
  refine lv_iload_n hx hb dX9_apart_0 rfl (lv_at hl 1 rfl) ?_
  refine lv_if_lt (tgt := 10) hx hb dX9_apart_1 (by decide) (fun c_1 => ?_) (fun c_1 => ?_)
  · skip
    refine lv_bipush (v := (-2)) hx hb dX9_apart_10 (by decide) ?_
    exact W.iret (v := (-2)) hx hb hr (fun t ht hW => ⟨⟨_, (), rfl, (by simp only [sp_M_apart, if_pos c_1]), trivial⟩, hS.F ht⟩) hS.2.2 dX9_apart_12
  · skip
    refine lv_iload_n hx hb dX9_apart_4 rfl (lv_at hl 1 rfl) ?_
    refine lv_bipush (v := 99) hx hb dX9_apart_5 (by decide) ?_
    refine lv_icmp_le (tgt := 13) hx hb dX9_apart_7 (by decide) (fun c_2 => ?_) (fun c_2 => ?_)
    · skip
      refine lv_aload_n hx hb dX9_apart_13 rfl (lv_at hl 0 rfl) ?_
      refine va_get (D := (dC, dI)) (ci := 14) (v := .int 10) (C := RX9) (T := TX9) (N := 13) hx hb hts (fun _ h9 => List.mem_cons_of_mem _ (List.mem_append_right _ (h9))) hown hK hP 0 rfl rfl 10 (by decide) (hts (.fieldLink RX9 47 "ExamHallsModel" "apart" "I") (List.mem_of_getElem? (i := 1) rfl)) (fun _ h9 => h9) rfl dX9_apart_14 ?_
      refine lv_istore_n (lv' := [(2, .int 10), (0, .ref mx), (1, .int c1)]) hx hb dX9_apart_17 rfl hl (by decide) rfl (fun ls hl => ?_)
      refine lv_aload_n hx hb dX9_apart_18 rfl (lv_at hl 1 rfl) ?_
      refine lv_iload_n hx hb dX9_apart_19 rfl (lv_at hl 2 rfl) ?_
      refine va_put (D := (dC, dI)) (ci := 14) (v := .int c1) (ty := .int) (C := RX9) (T := TX9) (N := 13) hx hb hts (fun _ h9 => List.mem_cons_of_mem _ (List.mem_append_right _ (h9))) tyX9 tyX9_ok nmX9 hown hK hP hD hS 0 rfl rfl 10 (by decide) (hts (.fieldLink RX9 47 "ExamHallsModel" "apart" "I") (List.mem_of_getElem? (i := 1) rfl)) (fun _ h9 => h9) rfl (by decide +kernel) rfl rfl (Nat.le_of_ble_eq_true rfl) dX9_apart_20 (fun H locs hP hD hS => ?_)
      have hP : va_P (dC, dI) vwCl [(mx, .inr (14, [.ref lc, .ref lr, .ref kn, .ref lt, .ref ml, .ref mm, .ref lp, .ref lb, .ref mq, .int 1, .int c1, .int 0, .int 0]))] H := hP
      have hD : va_D A [(mx, .inr (14, [.ref lc, .ref lr, .ref kn, .ref lt, .ref ml, .ref mm, .ref lp, .ref lb, .ref mq, .int 1, .int c1, .int 0, .int 0]))] := hD
      refine lv_iload_n hx hb dX9_apart_23 rfl (lv_at hl 0 rfl) ?_
      exact W.iret (v := 10) hx hb hr (fun t ht hW => ⟨⟨_, (), rfl, (by simp only [sp_M_apart, if_neg c_1, if_pos c_2]), trivial⟩, hS.F ht⟩) hS.2.2 dX9_apart_24
    · skip
      refine lv_bipush (v := (-2)) hx hb dX9_apart_10 (by decide) ?_
      exact W.iret (v := (-2)) hx hb hr (fun t ht hW => ⟨⟨_, (), rfl, (by simp only [sp_M_apart, if_neg c_1, if_neg c_2]), trivial⟩, hS.F ht⟩) hS.2.2 dX9_apart_12

def sp_M_quota (c1 : Int32) (c2 : Int32) : Int32 := if (sp_M_isProvince c1) = 0 then (-1) else if c2 < 0 then (-2) else if c2 ≤ 24 then 0 else (-2)
set_option maxHeartbeats 4000000 in
set_option maxRecDepth 100000 in
theorem c_M_quota (l : Launch) (dC : Nat → ClassId) (dI : Nat → Nat → Nat) (mx : Nat) (lc : Nat) (lr : Nat) (kn : Nat) (lt : Nat) (ml : Nat) (mm : Nat) (lp : Nat) (lb : Nat) (mq : Nat) (kq : ClassId) (c1 : Int32) (c2 : Int32) (sz : Nat) : Met l yX9_quota wsX9_quota ({ frames := 1, cells := 0, slots := 0, locals := 20 }) (va_Pc [.ref mx, .int c1, .int c2] (PQ dC dI sz [(mx, .inr (14, [.ref lc, .ref lr, .ref kn, .ref lt, .ref ml, .ref mm, .ref lp, .ref lb, .ref mq, .int 1, .int 10, .int 0, .int 0])), (mq, .inl (kq, 4, .inl (fun _ => 0)))] [(kq, .int)])) (va_Qi (fun r (_ : Unit) => r = sp_M_quota c1 c2) (fun _ _ => True) (va_A [(mx, .inr (14, [.ref lc, .ref lr, .ref kn, .ref lt, .ref ml, .ref mm, .ref lp, .ref lb, .ref mq, .int 1, .int 10, .int 0, .int 0])), (mq, .inl (kq, 4, .inl (fun _ => 0)))] sz)) 0 0 (va_A [(mx, .inr (14, [.ref lc, .ref lr, .ref kn, .ref lt, .ref ml, .ref mm, .ref lp, .ref lb, .ref mq, .int 1, .int 10, .int 0, .int 0])), (mq, .inl (kq, 4, .inl (fun _ => 0)))] sz) := by
  refine Met.ofW (cc := cX9_quota) (maxL := 4) (ret := (some .int)) (by decide) rfl ?_
  intro p e s m args below meth c s₁ B hml hv
  obtain ⟨rfl, hsz, hP, hK, hD0, hF⟩ := hv
  have hx := B.exec
  have hb := B.bytes
  have hr := B.returns
  have hts := atoms_spec (ws := wsX9_quota) B.pre
  have hown : s.vm.findClass RX9 = some m.cls := findClass_of_methodNamed B.named
  have hlocks := B.notSynchronized
  subst hsz
  have hD := hD0.self (sz := s.heap.size)
  generalize hAe : va_A [(mx, .inr (14, [.ref lc, .ref lr, .ref kn, .ref lt, .ref ml, .ref mm, .ref lp, .ref lb, .ref mq, .int 1, .int 10, .int 0, .int 0])), (mq, .inl (kq, 4, .inl (fun _ => 0)))] s.heap.size = A at hD ⊢
  have hA : ∀ q : Nat, s.heap.size ≤ q → A q := fun q h => by rw [← hAe]; exact Or.inr h
  have hS : va_S A s.heap s.heap [] := va_S.rf
  have hl := lv_entry ([.ref mx, .int c1, .int c2]) (n := 4) (Nat.le_of_ble_eq_true rfl)
  rw [lg_entry_eq]
  generalize (lg_sl ([.ref mx, .int c1, .int c2]) ++ List.replicate (4 - (lg_sl ([.ref mx, .int c1, .int c2])).length) Slot.unset).toArray = ls at hl ⊢
  have hl : lv_has ls 4 [(0, .ref mx), (1, .int c1), (2, .int c2)] := hl
  refine lv_iload_n hx hb dX9_quota_0 rfl (lv_at hl 1 rfl) ?_
  refine vp_callSi (va_Run.run (va_runS (As := [.int c1]) (rest := []) ⟨hx, hb, hml, hown, hts⟩ (c_M_isProvince l dC dI c1) (va_cwS 1 hts gX9_quota_X9_isProvince rfl rfl rfl (by decide +kernel) ⟨Nat.le_of_ble_eq_true rfl, Nat.le_of_ble_eq_true rfl⟩) ⟨PS_blind, PS_pre (hP.sub (ws' := []) [] rfl) (hK.sub (tys' := []) [] rfl) hF⟩ rfl rfl hl.1 rfl (lv_room (Nat.le_of_ble_eq_true rfl)) dX9_quota_1 ⟨Nat.le_of_ble_eq_true rfl, Nat.le_of_ble_eq_true rfl⟩)) (fun r_1 hr_1 => ?_)
  subst hr_1
  refine lv_if_ne (tgt := 9) hx hb dX9_quota_4 (by decide) (fun c_2 => ?_) (fun c_2 => ?_)
  · skip
    refine lv_iload_n hx hb dX9_quota_9 rfl (lv_at hl 2 rfl) ?_
    refine lv_if_lt (tgt := 19) hx hb dX9_quota_10 (by decide) (fun c_3 => ?_) (fun c_3 => ?_)
    · skip
      refine lv_bipush (v := (-2)) hx hb dX9_quota_19 (by decide) ?_
      exact W.iret (v := (-2)) hx hb hr (fun t ht hW => ⟨⟨_, (), rfl, (by simp only [sp_M_quota, if_neg c_2, if_pos c_3]), trivial⟩, hS.F ht⟩) hS.2.2 dX9_quota_21
    · skip
      refine lv_iload_n hx hb dX9_quota_13 rfl (lv_at hl 2 rfl) ?_
      refine lv_bipush (v := 24) hx hb dX9_quota_14 (by decide) ?_
      refine lv_icmp_le (tgt := 22) hx hb dX9_quota_16 (by decide) (fun c_4 => ?_) (fun c_4 => ?_)
      · skip
        refine lv_aload_n hx hb dX9_quota_22 rfl (lv_at hl 0 rfl) ?_
        refine va_get (D := (dC, dI)) (ci := 14) (v := .ref mq) (C := RX9) (T := TX9) (N := 13) hx hb hts (fun _ h9 => List.mem_cons_of_mem _ (List.mem_append_right _ (h9))) hown hK hP 0 rfl rfl 8 (by decide) (hts (.fieldLink RX9 40 "ExamHallsModel" "quotas" "[I") (List.mem_of_getElem? (i := 1) rfl)) (fun _ h9 => h9) rfl dX9_quota_23 ?_
        refine lv_iload_n hx hb dX9_quota_26 rfl (lv_at hl 1 rfl) ?_
        refine va_iald hx hb hK hP 1 0 rfl rfl (vin_isProvince c_2) dX9_quota_27 ?_
        refine lv_topi (fun f_5 ef_5 => ?_)
        obtain rfl : f_5 = 0 := ef_5
        refine lv_istore_n (lv' := [(3, .int 0), (0, .ref mx), (1, .int c1), (2, .int c2)]) hx hb dX9_quota_28 rfl hl (by decide) rfl (fun ls hl => ?_)
        refine lv_aload_n hx hb dX9_quota_29 rfl (lv_at hl 1 rfl) ?_
        refine va_get (D := (dC, dI)) (ci := 14) (v := .ref mq) (C := RX9) (T := TX9) (N := 13) hx hb hts (fun _ h9 => List.mem_cons_of_mem _ (List.mem_append_right _ (h9))) hown hK hP 0 rfl rfl 8 (by decide) (hts (.fieldLink RX9 40 "ExamHallsModel" "quotas" "[I") (List.mem_of_getElem? (i := 1) rfl)) (fun _ h9 => h9) rfl dX9_quota_30 ?_
        refine lv_iload_n hx hb dX9_quota_33 rfl (lv_at hl 2 rfl) ?_
        refine lv_iload_n hx hb dX9_quota_34 rfl (lv_at hl 3 rfl) ?_
        refine va_iast hx hb hK hP hD hS 1 0 rfl rfl (vin_isProvince c_2) dX9_quota_35 (fun H locs hP hD hS => ?_)
        have hP : va_P (dC, dI) vwCl [(mx, .inr (14, [.ref lc, .ref lr, .ref kn, .ref lt, .ref ml, .ref mm, .ref lp, .ref lb, .ref mq, .int 1, .int 10, .int 0, .int 0])), (mq, .inl (kq, 4, .inl (upd (fun _ => 0) (c1 : Int32).toNatClampNeg c2)))] H := hP
        have hD : va_D A [(mx, .inr (14, [.ref lc, .ref lr, .ref kn, .ref lt, .ref ml, .ref mm, .ref lp, .ref lb, .ref mq, .int 1, .int 10, .int 0, .int 0])), (mq, .inl (kq, 4, .inl (upd (fun _ => 0) (c1 : Int32).toNatClampNeg c2)))] := hD
        generalize (upd (fun _ => 0) (c1 : Int32).toNatClampNeg c2) = a_6 at hP hD
        refine lv_iload_n hx hb dX9_quota_36 rfl (lv_at hl 0 rfl) ?_
        exact W.iret (v := 0) hx hb hr (fun t ht hW => ⟨⟨_, (), rfl, (by simp only [sp_M_quota, if_neg c_2, if_neg c_3, if_pos c_4]), trivial⟩, hS.F ht⟩) hS.2.2 dX9_quota_37
      · skip
        refine lv_bipush (v := (-2)) hx hb dX9_quota_19 (by decide) ?_
        exact W.iret (v := (-2)) hx hb hr (fun t ht hW => ⟨⟨_, (), rfl, (by simp only [sp_M_quota, if_neg c_2, if_neg c_3, if_neg c_4]), trivial⟩, hS.F ht⟩) hS.2.2 dX9_quota_21
  · skip
    refine lv_iconst (v := (-1)) hx hb dX9_quota_7 (by decide) ?_
    exact W.iret (v := (-1)) hx hb hr (fun t ht hW => ⟨⟨_, (), rfl, (by simp only [sp_M_quota, if_pos c_2]), trivial⟩, hS.F ht⟩) hS.2.2 dX9_quota_8

def sp_M_rule (c1 : Int32) (c2 : Int32) : Int32 := if c1 < 0 then (-2) else if 2 < c1 then (-2) else if c2 < 0 then (-2) else if c2 ≤ 1 then 0 else (-2)
set_option maxHeartbeats 4000000 in
set_option maxRecDepth 100000 in
theorem c_M_rule (l : Launch) (dC : Nat → ClassId) (dI : Nat → Nat → Nat) (mx : Nat) (lc : Nat) (lr : Nat) (kn : Nat) (lt : Nat) (ml : Nat) (mm : Nat) (lp : Nat) (lb : Nat) (mq : Nat) (c1 : Int32) (c2 : Int32) (sz : Nat) : Met l yX9_rule wsX9_rule ({ frames := 0, cells := 0, slots := 0, locals := 0 }) (va_Pc [.ref mx, .int c1, .int c2] (PQ dC dI sz [(mx, .inr (14, [.ref lc, .ref lr, .ref kn, .ref lt, .ref ml, .ref mm, .ref lp, .ref lb, .ref mq, .int 1, .int 10, .int 0, .int 0]))] [])) (va_Qi (fun r (_ : Unit) => r = sp_M_rule c1 c2) (fun _ _ => True) (va_A [(mx, .inr (14, [.ref lc, .ref lr, .ref kn, .ref lt, .ref ml, .ref mm, .ref lp, .ref lb, .ref mq, .int 1, .int 10, .int 0, .int 0]))] sz)) 0 0 (va_A [(mx, .inr (14, [.ref lc, .ref lr, .ref kn, .ref lt, .ref ml, .ref mm, .ref lp, .ref lb, .ref mq, .int 1, .int 10, .int 0, .int 0]))] sz) := by
  refine Met.ofW (cc := cX9_rule) (maxL := 3) (ret := (some .int)) (by decide) rfl ?_
  intro p e s m args below meth c s₁ B hml hv
  obtain ⟨rfl, hsz, hP, hK, hD0, hF⟩ := hv
  have hx := B.exec
  have hb := B.bytes
  have hr := B.returns
  have hts := atoms_spec (ws := wsX9_rule) B.pre
  have hown : s.vm.findClass RX9 = some m.cls := findClass_of_methodNamed B.named
  have hlocks := B.notSynchronized
  subst hsz
  have hD := hD0.self (sz := s.heap.size)
  generalize hAe : va_A [(mx, .inr (14, [.ref lc, .ref lr, .ref kn, .ref lt, .ref ml, .ref mm, .ref lp, .ref lb, .ref mq, .int 1, .int 10, .int 0, .int 0]))] s.heap.size = A at hD ⊢
  have hA : ∀ q : Nat, s.heap.size ≤ q → A q := fun q h => by rw [← hAe]; exact Or.inr h
  have hS : va_S A s.heap s.heap [] := va_S.rf
  have hl := lv_entry ([.ref mx, .int c1, .int c2]) (n := 3) (Nat.le_of_ble_eq_true rfl)
  rw [lg_entry_eq]
  generalize (lg_sl ([.ref mx, .int c1, .int c2]) ++ List.replicate (3 - (lg_sl ([.ref mx, .int c1, .int c2])).length) Slot.unset).toArray = ls at hl ⊢
  have hl : lv_has ls 3 [(0, .ref mx), (1, .int c1), (2, .int c2)] := hl
  refine lv_iload_n hx hb dX9_rule_0 rfl (lv_at hl 1 rfl) ?_
  refine lv_if_lt (tgt := 18) hx hb dX9_rule_1 (by decide) (fun c_1 => ?_) (fun c_1 => ?_)
  · skip
    refine lv_bipush (v := (-2)) hx hb dX9_rule_18 (by decide) ?_
    exact W.iret (v := (-2)) hx hb hr (fun t ht hW => ⟨⟨_, (), rfl, (by simp only [sp_M_rule, if_pos c_1]), trivial⟩, hS.F ht⟩) hS.2.2 dX9_rule_20
  · skip
    refine lv_iload_n hx hb dX9_rule_4 rfl (lv_at hl 1 rfl) ?_
    refine lv_iconst (v := 2) hx hb dX9_rule_5 (by decide) ?_
    refine lv_icmp_gt (tgt := 18) hx hb dX9_rule_6 (by decide) (fun c_2 => ?_) (fun c_2 => ?_)
    · skip
      refine lv_bipush (v := (-2)) hx hb dX9_rule_18 (by decide) ?_
      exact W.iret (v := (-2)) hx hb hr (fun t ht hW => ⟨⟨_, (), rfl, (by simp only [sp_M_rule, if_neg c_1, if_pos c_2]), trivial⟩, hS.F ht⟩) hS.2.2 dX9_rule_20
    · skip
      refine lv_iload_n hx hb dX9_rule_9 rfl (lv_at hl 2 rfl) ?_
      refine lv_if_lt (tgt := 18) hx hb dX9_rule_10 (by decide) (fun c_3 => ?_) (fun c_3 => ?_)
      · skip
        refine lv_bipush (v := (-2)) hx hb dX9_rule_18 (by decide) ?_
        exact W.iret (v := (-2)) hx hb hr (fun t ht hW => ⟨⟨_, (), rfl, (by simp only [sp_M_rule, if_neg c_1, if_neg c_2, if_pos c_3]), trivial⟩, hS.F ht⟩) hS.2.2 dX9_rule_20
      · skip
        refine lv_iload_n hx hb dX9_rule_13 rfl (lv_at hl 2 rfl) ?_
        refine lv_iconst (v := 1) hx hb dX9_rule_14 (by decide) ?_
        refine lv_icmp_le (tgt := 21) hx hb dX9_rule_15 (by decide) (fun c_4 => ?_) (fun c_4 => ?_)
        · skip
          refine lv_aload_n hx hb dX9_rule_21 rfl (lv_at hl 0 rfl) ?_
          refine lv_iload_n hx hb dX9_rule_22 rfl (lv_at hl 1 rfl) ?_
          refine va_put (D := (dC, dI)) (ci := 14) (v := .int c1) (ty := .int) (C := RX9) (T := TX9) (N := 13) hx hb hts (fun _ h9 => List.mem_cons_of_mem _ (List.mem_append_right _ (h9))) tyX9 tyX9_ok nmX9 hown hK hP hD hS 0 rfl rfl 11 (by decide) (hts (.fieldLink RX9 50 "ExamHallsModel" "ties" "I") (List.mem_of_getElem? (i := 1) rfl)) (fun _ h9 => h9) rfl (by decide +kernel) rfl rfl (Nat.le_of_ble_eq_true rfl) dX9_rule_23 (fun H locs hP hD hS => ?_)
          have hP : va_P (dC, dI) vwCl [(mx, .inr (14, [.ref lc, .ref lr, .ref kn, .ref lt, .ref ml, .ref mm, .ref lp, .ref lb, .ref mq, .int 1, .int 10, .int c1, .int 0]))] H := hP
          have hD : va_D A [(mx, .inr (14, [.ref lc, .ref lr, .ref kn, .ref lt, .ref ml, .ref mm, .ref lp, .ref lb, .ref mq, .int 1, .int 10, .int c1, .int 0]))] := hD
          refine lv_aload_n hx hb dX9_rule_26 rfl (lv_at hl 0 rfl) ?_
          refine lv_iload_n hx hb dX9_rule_27 rfl (lv_at hl 2 rfl) ?_
          refine va_put (D := (dC, dI)) (ci := 14) (v := .int c2) (ty := .int) (C := RX9) (T := TX9) (N := 13) hx hb hts (fun _ h9 => List.mem_cons_of_mem _ (List.mem_append_right _ (h9))) tyX9 tyX9_ok nmX9 hown hK hP hD hS 0 rfl rfl 12 (by decide) (hts (.fieldLink RX9 53 "ExamHallsModel" "way" "I") (List.mem_of_getElem? (i := 2) rfl)) (fun _ h9 => h9) rfl (by decide +kernel) rfl rfl (Nat.le_of_ble_eq_true rfl) dX9_rule_28 (fun H locs hP hD hS => ?_)
          have hP : va_P (dC, dI) vwCl [(mx, .inr (14, [.ref lc, .ref lr, .ref kn, .ref lt, .ref ml, .ref mm, .ref lp, .ref lb, .ref mq, .int 1, .int 10, .int c1, .int c2]))] H := hP
          have hD : va_D A [(mx, .inr (14, [.ref lc, .ref lr, .ref kn, .ref lt, .ref ml, .ref mm, .ref lp, .ref lb, .ref mq, .int 1, .int 10, .int c1, .int c2]))] := hD
          refine lv_iconst (v := 0) hx hb dX9_rule_31 (by decide) ?_
          exact W.iret (v := 0) hx hb hr (fun t ht hW => ⟨⟨_, (), rfl, (by simp only [sp_M_rule, if_neg c_1, if_neg c_2, if_neg c_3, if_pos c_4]), trivial⟩, hS.F ht⟩) hS.2.2 dX9_rule_32
        · skip
          refine lv_bipush (v := (-2)) hx hb dX9_rule_18 (by decide) ?_
          exact W.iret (v := (-2)) hx hb hr (fun t ht hW => ⟨⟨_, (), rfl, (by simp only [sp_M_rule, if_neg c_1, if_neg c_2, if_neg c_3, if_neg c_4]), trivial⟩, hS.F ht⟩) hS.2.2 dX9_rule_20

set_option maxHeartbeats 4000000 in
set_option maxRecDepth 100000 in
theorem c_M_allPassing (l : Launch) (dC : Nat → ClassId) (dI : Nat → Nat → Nat) (mx : Nat) (lc : Nat) (lr : Nat) (kn : Nat) (lt : Nat) (ml : Nat) (mm : Nat) (lp : Nat) (lb : Nat) (mq : Nat) (d : Nat) (sz : Nat) : Met l yX9_allPassing wsX9_allPassing ({ frames := 1, cells := 1, slots := 0, locals := 20 }) (va_Pc [.ref mx] (PQ dC dI sz [(mx, .inr (14, [.ref lc, .ref lr, .ref kn, .ref lt, .ref ml, .ref mm, .ref lp, .ref lb, .ref mq, .int 1, .int 10, .int 0, .int 0])), (lc, .inr (4, [.int 0, .ref d, .int 0]))] [])) (va_Qr (fun _ : Unit => True) (fun _ ra t => ∃ (kZ : ClassId), va_P (dC, dI) vwCl [(mx, .inr (14, [.ref lc, .ref lr, .ref kn, .ref lt, .ref ml, .ref mm, .ref lp, .ref lb, .ref mq, .int 1, .int 10, .int 0, .int 0])), (lc, .inr (4, [.int 0, .ref d, .int 0])), (ra, .inl (kZ, 0, .inl (fun _ => 0)))] t.heap ∧ va_K (dC, dI) vwCl [(kZ, .boolean)] t ∧ va_D (va_A [(mx, .inr (14, [.ref lc, .ref lr, .ref kn, .ref lt, .ref ml, .ref mm, .ref lp, .ref lb, .ref mq, .int 1, .int 10, .int 0, .int 0])), (lc, .inr (4, [.int 0, .ref d, .int 0]))] sz) [(mx, .inr (14, [.ref lc, .ref lr, .ref kn, .ref lt, .ref ml, .ref mm, .ref lp, .ref lb, .ref mq, .int 1, .int 10, .int 0, .int 0])), (lc, .inr (4, [.int 0, .ref d, .int 0])), (ra, .inl (kZ, 0, .inl (fun _ => 0)))]) (va_A [(mx, .inr (14, [.ref lc, .ref lr, .ref kn, .ref lt, .ref ml, .ref mm, .ref lp, .ref lb, .ref mq, .int 1, .int 10, .int 0, .int 0])), (lc, .inr (4, [.int 0, .ref d, .int 0]))] sz)) 1 0 (va_A [(mx, .inr (14, [.ref lc, .ref lr, .ref kn, .ref lt, .ref ml, .ref mm, .ref lp, .ref lb, .ref mq, .int 1, .int 10, .int 0, .int 0])), (lc, .inr (4, [.int 0, .ref d, .int 0]))] sz) := by
  refine Met.ofW (cc := cX9_allPassing) (maxL := 3) (ret := (some (.array .boolean))) (by decide) rfl ?_
  intro p e s m args below meth c s₁ B hml hv
  obtain ⟨rfl, hsz, hP, hK, hD0, hF⟩ := hv
  have hx := B.exec
  have hb := B.bytes
  have hr := B.returns
  have hts := atoms_spec (ws := wsX9_allPassing) B.pre
  have hown : s.vm.findClass RX9 = some m.cls := findClass_of_methodNamed B.named
  have hlocks := B.notSynchronized
  subst hsz
  have hD := hD0.self (sz := s.heap.size)
  generalize hAe : va_A [(mx, .inr (14, [.ref lc, .ref lr, .ref kn, .ref lt, .ref ml, .ref mm, .ref lp, .ref lb, .ref mq, .int 1, .int 10, .int 0, .int 0])), (lc, .inr (4, [.int 0, .ref d, .int 0]))] s.heap.size = A at hD ⊢
  have hA : ∀ q : Nat, s.heap.size ≤ q → A q := fun q h => by rw [← hAe]; exact Or.inr h
  have hS : va_S A s.heap s.heap [] := va_S.rf
  have hl := lv_entry ([.ref mx]) (n := 3) (Nat.le_of_ble_eq_true rfl)
  rw [lg_entry_eq]
  generalize (lg_sl ([.ref mx]) ++ List.replicate (3 - (lg_sl ([.ref mx])).length) Slot.unset).toArray = ls at hl ⊢
  have hl : lv_has ls 3 [(0, .ref mx)] := hl
  refine lv_aload_n hx hb dX9_allPassing_0 rfl (lv_at hl 0 rfl) ?_
  refine va_get (D := (dC, dI)) (ci := 14) (v := .ref lc) (C := RX9) (T := TX9) (N := 13) hx hb hts (fun _ h9 => List.mem_cons_of_mem _ (List.mem_append_left _ (List.mem_append_left _ (List.mem_append_left _ (List.mem_append_left _ (List.mem_append_left _ (List.mem_append_right _ (h9)))))))) hown hK hP 0 rfl rfl 0 (by decide) (hts (.fieldLink RX9 10 "ExamHallsModel" "candidates" "Ljava/util/List;") (List.mem_of_getElem? (i := 1) rfl)) (fun _ h9 => h9) rfl dX9_allPassing_1 ?_
  refine va_csFi (va_runF (hK.1 4 _ rfl).2 (As := []) (rest := []) ⟨hx, hb, hml, hown, hts⟩ (c_AL_size l dC dI lc 0 d 0) (va_cwF 0 hts gX9_allPassing_Jx4a65c_size_8abf5_f56Jx4a65c rfl rfl rfl (Ft.fw hF (RJx4a65c, ⟨"java/util/List", "size", "()I"⟩, yJx4a65c_size_8abf5) (by decide +kernel)) (by decide +kernel) ⟨Nat.le_of_ble_eq_true rfl, Nat.le_of_ble_eq_true rfl⟩) ⟨PS_blind, va_recv hK hP (ci := 4) (q0 := 1) rfl rfl, PS_pre (hP.sub (ws' := [(lc, .inr (4, [.int 0, .ref d, .int 0]))]) [1] rfl) hK hF⟩ rfl rfl hl.1 rfl (lv_room (Nat.le_of_ble_eq_true rfl)) dX9_allPassing_4 ⟨Nat.le_of_ble_eq_true rfl, Nat.le_of_ble_eq_true rfl⟩) (fun r_1 hr_1 => ?_)
  subst hr_1
  refine va_newa (atype := .boolean) (ty := .boolean) (a0 := (0, (.inl (fun _ => 0)))) hx hb (hts (.arrayClass .boolean) (List.mem_of_getElem? (i := 2) rfl)) rfl hK hP hD hS hA (fun _ => rfl) (by decide) (by decide) (Nat.le_of_ble_eq_true rfl) (Nat.le_of_ble_eq_true rfl) (Nat.le_of_ble_eq_true rfl) dX9_allPassing_9 (fun q_2 k_3 H hK hP hD hS => ?_)
  have hP : va_P (dC, dI) vwCl [(mx, .inr (14, [.ref lc, .ref lr, .ref kn, .ref lt, .ref ml, .ref mm, .ref lp, .ref lb, .ref mq, .int 1, .int 10, .int 0, .int 0])), (lc, .inr (4, [.int 0, .ref d, .int 0])), (q_2, .inl (k_3, 0, .inl (fun _ => 0)))] H := hP
  have hD : va_D A [(mx, .inr (14, [.ref lc, .ref lr, .ref kn, .ref lt, .ref ml, .ref mm, .ref lp, .ref lb, .ref mq, .int 1, .int 10, .int 0, .int 0])), (lc, .inr (4, [.int 0, .ref d, .int 0])), (q_2, .inl (k_3, 0, .inl (fun _ => 0)))] := hD
  have hK : va_K (dC, dI) vwCl [(k_3, .boolean)] s := hK
  refine W.widen (k := 1) (n := 0) (Nat.le_of_ble_eq_true rfl) (Nat.le_of_ble_eq_true rfl) ?_
  refine lv_astore_n (lv' := [(1, .ref q_2), (0, .ref mx)]) hx hb dX9_allPassing_11 rfl hl (by decide) rfl (fun ls hl => ?_)
  refine lv_iconst (v := 0) hx hb dX9_allPassing_12 (by decide) ?_
  refine lv_istore_n (lv' := [(2, .int 0), (1, .ref q_2), (0, .ref mx)]) hx hb dX9_allPassing_13 rfl hl (by decide) rfl (fun ls hl => ?_)
  refine lv_iload_n hx hb dX9_allPassing_14 rfl (lv_at hl 0 rfl) ?_
  refine lv_aload_n hx hb dX9_allPassing_15 rfl (lv_at hl 1 rfl) ?_
  refine va_alen hx hb hK hP 2 0 rfl rfl (v := 0) rfl dX9_allPassing_16 ?_
  refine lv_icmp_ge (tgt := 46) hx hb dX9_allPassing_17 (by decide) (fun _ => ?_) (fun c_4 => absurd (by decide) c_4)
  refine lv_aload_n hx hb dX9_allPassing_46 rfl (lv_at hl 1 rfl) ?_
  have hP9 := hP.sub (ws' := [(mx, .inr (14, [.ref lc, .ref lr, .ref kn, .ref lt, .ref ml, .ref mm, .ref lp, .ref lb, .ref mq, .int 1, .int 10, .int 0, .int 0])), (lc, .inr (4, [.int 0, .ref d, .int 0])), (q_2, .inl (k_3, 0, .inl (fun _ => 0)))]) [0, 1, 2] rfl
  have hD9 := hD.sub (ws' := [(mx, .inr (14, [.ref lc, .ref lr, .ref kn, .ref lt, .ref ml, .ref mm, .ref lp, .ref lb, .ref mq, .int 1, .int 10, .int 0, .int 0])), (lc, .inr (4, [.int 0, .ref d, .int 0])), (q_2, .inl (k_3, 0, .inl (fun _ => 0)))]) [0, 1, 2] (by decide) rfl
  have hK9 := hK.sub (tys' := [(k_3, .boolean)]) [0] rfl
  exact W.aret (v := .ref q_2) hx hb hr (Or.inr ⟨_, rfl⟩) (Or.inr ⟨_, rfl⟩) (fun t ht hW => ⟨⟨(), _, rfl, trivial, k_3, by rw [ht]; exact hP9, va_K.moved hW.alike hK9, hD9⟩, hS.F ht⟩) hS.2.2 dX9_allPassing_47

def sp_M_passed (c1 : Int32) : Int32 := if (sp_M_isProvince c1) = 0 then (-1) else 0
set_option maxHeartbeats 4000000 in
set_option maxRecDepth 100000 in
theorem c_M_passed (l : Launch) (dC : Nat → ClassId) (dI : Nat → Nat → Nat) (mx : Nat) (lc : Nat) (lr : Nat) (kn : Nat) (lt : Nat) (ml : Nat) (mm : Nat) (lp : Nat) (lb : Nat) (mq : Nat) (d : Nat) (c1 : Int32) (sz : Nat) : Met l yX9_passed wsX9_passed ({ frames := 2, cells := 1, slots := 0, locals := 42 }) (va_Pc [.ref mx, .int c1] (PQ dC dI sz [(mx, .inr (14, [.ref lc, .ref lr, .ref kn, .ref lt, .ref ml, .ref mm, .ref lp, .ref lb, .ref mq, .int 1, .int 10, .int 0, .int 0])), (lc, .inr (4, [.int 0, .ref d, .int 0]))] [])) (va_Qi (fun r (_ : Unit) => r = sp_M_passed c1) (fun _ _ => True) (va_A [(mx, .inr (14, [.ref lc, .ref lr, .ref kn, .ref lt, .ref ml, .ref mm, .ref lp, .ref lb, .ref mq, .int 1, .int 10, .int 0, .int 0])), (lc, .inr (4, [.int 0, .ref d, .int 0]))] sz)) 1 0 (va_A [(mx, .inr (14, [.ref lc, .ref lr, .ref kn, .ref lt, .ref ml, .ref mm, .ref lp, .ref lb, .ref mq, .int 1, .int 10, .int 0, .int 0])), (lc, .inr (4, [.int 0, .ref d, .int 0]))] sz) := by
  refine Met.ofW (cc := cX9_passed) (maxL := 5) (ret := (some .int)) (by decide) rfl ?_
  intro p e s m args below meth c s₁ B hml hv
  obtain ⟨rfl, hsz, hP, hK, hD0, hF⟩ := hv
  have hx := B.exec
  have hb := B.bytes
  have hr := B.returns
  have hts := atoms_spec (ws := wsX9_passed) B.pre
  have hown : s.vm.findClass RX9 = some m.cls := findClass_of_methodNamed B.named
  have hlocks := B.notSynchronized
  subst hsz
  have hD := hD0.self (sz := s.heap.size)
  generalize hAe : va_A [(mx, .inr (14, [.ref lc, .ref lr, .ref kn, .ref lt, .ref ml, .ref mm, .ref lp, .ref lb, .ref mq, .int 1, .int 10, .int 0, .int 0])), (lc, .inr (4, [.int 0, .ref d, .int 0]))] s.heap.size = A at hD ⊢
  have hA : ∀ q : Nat, s.heap.size ≤ q → A q := fun q h => by rw [← hAe]; exact Or.inr h
  have hS : va_S A s.heap s.heap [] := va_S.rf
  have hl := lv_entry ([.ref mx, .int c1]) (n := 5) (Nat.le_of_ble_eq_true rfl)
  rw [lg_entry_eq]
  generalize (lg_sl ([.ref mx, .int c1]) ++ List.replicate (5 - (lg_sl ([.ref mx, .int c1])).length) Slot.unset).toArray = ls at hl ⊢
  have hl : lv_has ls 5 [(0, .ref mx), (1, .int c1)] := hl
  refine lv_iload_n hx hb dX9_passed_0 rfl (lv_at hl 1 rfl) ?_
  refine vp_callSi (va_Run.run (va_runS (As := [.int c1]) (rest := []) ⟨hx, hb, hml, hown, hts⟩ (c_M_isProvince l dC dI c1) (va_cwS 1 hts gX9_passed_X9_isProvince rfl rfl rfl (by decide +kernel) ⟨Nat.le_of_ble_eq_true rfl, Nat.le_of_ble_eq_true rfl⟩) ⟨PS_blind, PS_pre (hP.sub (ws' := []) [] rfl) hK hF⟩ rfl rfl hl.1 rfl (lv_room (Nat.le_of_ble_eq_true rfl)) dX9_passed_1 ⟨Nat.le_of_ble_eq_true rfl, Nat.le_of_ble_eq_true rfl⟩)) (fun r_1 hr_1 => ?_)
  subst hr_1
  refine lv_if_ne (tgt := 9) hx hb dX9_passed_4 (by decide) (fun c_2 => ?_) (fun c_2 => ?_)
  · skip
    refine lv_aload_n hx hb dX9_passed_9 rfl (lv_at hl 0 rfl) ?_
    have hPc := hP.sub (ws' := [(mx, .inr (14, [.ref lc, .ref lr, .ref kn, .ref lt, .ref ml, .ref mm, .ref lp, .ref lb, .ref mq, .int 1, .int 10, .int 0, .int 0])), (lc, .inr (4, [.int 0, .ref d, .int 0]))]) [0, 1] rfl
    have hDc := hD.sub (ws' := [(mx, .inr (14, [.ref lc, .ref lr, .ref kn, .ref lt, .ref ml, .ref mm, .ref lp, .ref lb, .ref mq, .int 1, .int 10, .int 0, .int 0])), (lc, .inr (4, [.int 0, .ref d, .int 0]))]) [0, 1] (by decide) rfl
    have hKc := hK.sub (tys' := []) [] rfl
    have hFc := va_free (wc := [(mx, .inr (14, [.ref lc, .ref lr, .ref kn, .ref lt, .ref ml, .ref mm, .ref lp, .ref lb, .ref mq, .int 1, .int 10, .int 0, .int 0])), (lc, .inr (4, [.int 0, .ref d, .int 0]))]) hD hS hA [0, 1] rfl
    refine va_callr (va_runV (As := []) (rest := []) ⟨hx, hb, hml, hown, hts⟩ (c_M_allPassing l dC dI mx lc lr kn lt ml mm lp lb mq d s.heap.size) (cwV 0 hts gX9_passed_X9_allPassing rfl rfl rfl (by decide +kernel) ⟨Nat.le_of_ble_eq_true rfl, Nat.le_of_ble_eq_true rfl⟩) ⟨PQ_blind, va_recv hK hP (ci := 14) (q0 := 0) rfl rfl, PQ_pre hPc hKc hDc hF⟩ rfl rfl hl.1 rfl (lv_room (Nat.le_of_ble_eq_true rfl)) dX9_passed_10 ⟨Nat.le_of_ble_eq_true rfl, Nat.le_of_ble_eq_true rfl⟩) hS (fun q _ h => hFc q h) hFc (fun u r_3 t H1 locs ht hvm hw hB hz1 hk1 hS => ?_)
    obtain ⟨kZ_4, hP1, hK1, hD1⟩ := hB
    rw [ht] at hP1
    have hK1 := va_K.moved hvm.symm hK1
    obtain ⟨hP, hD⟩ := va_join (wr := []) (w1 := [(mx, .inr (14, [.ref lc, .ref lr, .ref kn, .ref lt, .ref ml, .ref mm, .ref lp, .ref lb, .ref mq, .int 1, .int 10, .int 0, .int 0])), (lc, .inr (4, [.int 0, .ref d, .int 0])), (r_3, .inl (kZ_4, 0, .inl (fun _ => 0)))]) hP hD [0, 1] [] rfl rfl (by decide) (by decide) hk1 hFc hP1 hD1
    have hK := hK.app hK1
    generalize H1 = H at hP hS ⊢
    have hP : va_P (dC, dI) vwCl [(mx, .inr (14, [.ref lc, .ref lr, .ref kn, .ref lt, .ref ml, .ref mm, .ref lp, .ref lb, .ref mq, .int 1, .int 10, .int 0, .int 0])), (lc, .inr (4, [.int 0, .ref d, .int 0])), (r_3, .inl (kZ_4, 0, .inl (fun _ => 0)))] H := hP
    have hD : va_D A [(mx, .inr (14, [.ref lc, .ref lr, .ref kn, .ref lt, .ref ml, .ref mm, .ref lp, .ref lb, .ref mq, .int 1, .int 10, .int 0, .int 0])), (lc, .inr (4, [.int 0, .ref d, .int 0])), (r_3, .inl (kZ_4, 0, .inl (fun _ => 0)))] := hD
    have hK : va_K (dC, dI) vwCl [(kZ_4, .boolean)] s := hK
    refine W.widen (k := 1) (n := 0) (Nat.le_of_ble_eq_true rfl) (Nat.le_of_ble_eq_true rfl) ?_
    refine lv_astore_n (lv' := [(2, .ref r_3), (0, .ref mx), (1, .int c1)]) hx hb dX9_passed_13 rfl hl (by decide) rfl (fun ls hl => ?_)
    refine lv_iconst (v := 0) hx hb dX9_passed_14 (by decide) ?_
    refine lv_istore_n (lv' := [(3, .int 0), (2, .ref r_3), (0, .ref mx), (1, .int c1)]) hx hb dX9_passed_15 rfl hl (by decide) rfl (fun ls hl => ?_)
    refine lv_iconst (v := 0) hx hb dX9_passed_16 (by decide) ?_
    refine lv_istore (lv' := [(4, .int 0), (3, .int 0), (2, .ref r_3), (0, .ref mx), (1, .int c1)]) hx hb dX9_passed_17 hl (by decide) rfl (fun ls hl => ?_)
    refine lv_iload hx hb dX9_passed_19 (lv_at hl 0 rfl) ?_
    refine lv_aload_n hx hb dX9_passed_21 rfl (lv_at hl 2 rfl) ?_
    refine va_alen hx hb hK hP 2 0 rfl rfl (v := 0) rfl dX9_passed_22 ?_
    refine lv_icmp_ge (tgt := 63) hx hb dX9_passed_23 (by decide) (fun _ => ?_) (fun c_5 => absurd (by decide) c_5)
    refine lv_iload_n hx hb dX9_passed_63 rfl (lv_at hl 1 rfl) ?_
    exact W.iret (v := 0) hx hb hr (fun t ht hW => ⟨⟨_, (), rfl, (by simp only [sp_M_passed, if_neg c_2]), trivial⟩, hS.F ht⟩) hS.2.2 dX9_passed_64
  · skip
    refine lv_iconst (v := (-1)) hx hb dX9_passed_7 (by decide) ?_
    refine W.widen (k := 1) (n := 0) (Nat.le_of_ble_eq_true rfl) (Nat.le_of_ble_eq_true rfl) ?_
    exact W.iret (v := (-1)) hx hb hr (fun t ht hW => ⟨⟨_, (), rfl, (by simp only [sp_M_passed, if_pos c_2]), trivial⟩, hS.F ht⟩) hS.2.2 dX9_passed_8

set_option maxHeartbeats 4000000 in
set_option maxRecDepth 100000 in
theorem c_M_countPassing (l : Launch) (dC : Nat → ClassId) (dI : Nat → Nat → Nat) (mx : Nat) (lc : Nat) (lr : Nat) (kn : Nat) (lt : Nat) (ml : Nat) (mm : Nat) (lp : Nat) (lb : Nat) (mq : Nat) (d : Nat) (sz : Nat) : Met l yX9_countPassing wsX9_countPassing ({ frames := 2, cells := 1, slots := 0, locals := 42 }) (va_Pc [.ref mx] (PQ dC dI sz [(mx, .inr (14, [.ref lc, .ref lr, .ref kn, .ref lt, .ref ml, .ref mm, .ref lp, .ref lb, .ref mq, .int 1, .int 10, .int 0, .int 0])), (lc, .inr (4, [.int 0, .ref d, .int 0]))] [])) (va_Qi (fun r (_ : Unit) => r = 0) (fun _ _ => True) (va_A [(mx, .inr (14, [.ref lc, .ref lr, .ref kn, .ref lt, .ref ml, .ref mm, .ref lp, .ref lb, .ref mq, .int 1, .int 10, .int 0, .int 0])), (lc, .inr (4, [.int 0, .ref d, .int 0]))] sz)) 1 0 (va_A [(mx, .inr (14, [.ref lc, .ref lr, .ref kn, .ref lt, .ref ml, .ref mm, .ref lp, .ref lb, .ref mq, .int 1, .int 10, .int 0, .int 0])), (lc, .inr (4, [.int 0, .ref d, .int 0]))] sz) := by
  refine Met.ofW (cc := cX9_countPassing) (maxL := 4) (ret := (some .int)) (by decide) rfl ?_
  intro p e s m args below meth c s₁ B hml hv
  obtain ⟨rfl, hsz, hP, hK, hD0, hF⟩ := hv
  have hx := B.exec
  have hb := B.bytes
  have hr := B.returns
  have hts := atoms_spec (ws := wsX9_countPassing) B.pre
  have hown : s.vm.findClass RX9 = some m.cls := findClass_of_methodNamed B.named
  have hlocks := B.notSynchronized
  subst hsz
  have hD := hD0.self (sz := s.heap.size)
  generalize hAe : va_A [(mx, .inr (14, [.ref lc, .ref lr, .ref kn, .ref lt, .ref ml, .ref mm, .ref lp, .ref lb, .ref mq, .int 1, .int 10, .int 0, .int 0])), (lc, .inr (4, [.int 0, .ref d, .int 0]))] s.heap.size = A at hD ⊢
  have hA : ∀ q : Nat, s.heap.size ≤ q → A q := fun q h => by rw [← hAe]; exact Or.inr h
  have hS : va_S A s.heap s.heap [] := va_S.rf
  have hl := lv_entry ([.ref mx]) (n := 4) (Nat.le_of_ble_eq_true rfl)
  rw [lg_entry_eq]
  generalize (lg_sl ([.ref mx]) ++ List.replicate (4 - (lg_sl ([.ref mx])).length) Slot.unset).toArray = ls at hl ⊢
  have hl : lv_has ls 4 [(0, .ref mx)] := hl
  refine lv_aload_n hx hb dX9_countPassing_0 rfl (lv_at hl 0 rfl) ?_
  have hPc := hP.sub (ws' := [(mx, .inr (14, [.ref lc, .ref lr, .ref kn, .ref lt, .ref ml, .ref mm, .ref lp, .ref lb, .ref mq, .int 1, .int 10, .int 0, .int 0])), (lc, .inr (4, [.int 0, .ref d, .int 0]))]) [0, 1] rfl
  have hDc := hD.sub (ws' := [(mx, .inr (14, [.ref lc, .ref lr, .ref kn, .ref lt, .ref ml, .ref mm, .ref lp, .ref lb, .ref mq, .int 1, .int 10, .int 0, .int 0])), (lc, .inr (4, [.int 0, .ref d, .int 0]))]) [0, 1] (by decide) rfl
  have hKc := hK.sub (tys' := []) [] rfl
  have hFc := va_free (wc := [(mx, .inr (14, [.ref lc, .ref lr, .ref kn, .ref lt, .ref ml, .ref mm, .ref lp, .ref lb, .ref mq, .int 1, .int 10, .int 0, .int 0])), (lc, .inr (4, [.int 0, .ref d, .int 0]))]) hD hS hA [0, 1] rfl
  refine va_callr (va_runV (As := []) (rest := []) ⟨hx, hb, hml, hown, hts⟩ (c_M_allPassing l dC dI mx lc lr kn lt ml mm lp lb mq d s.heap.size) (cwV 0 hts gX9_countPassing_X9_allPassing rfl rfl rfl (by decide +kernel) ⟨Nat.le_of_ble_eq_true rfl, Nat.le_of_ble_eq_true rfl⟩) ⟨PQ_blind, va_recv hK hP (ci := 14) (q0 := 0) rfl rfl, PQ_pre hPc hKc hDc hF⟩ rfl rfl hl.1 rfl (lv_room (Nat.le_of_ble_eq_true rfl)) dX9_countPassing_1 ⟨Nat.le_of_ble_eq_true rfl, Nat.le_of_ble_eq_true rfl⟩) hS (fun q _ h => hFc q h) hFc (fun u r_1 t H1 locs ht hvm hw hB hz1 hk1 hS => ?_)
  obtain ⟨kZ_2, hP1, hK1, hD1⟩ := hB
  rw [ht] at hP1
  have hK1 := va_K.moved hvm.symm hK1
  obtain ⟨hP, hD⟩ := va_join (wr := []) (w1 := [(mx, .inr (14, [.ref lc, .ref lr, .ref kn, .ref lt, .ref ml, .ref mm, .ref lp, .ref lb, .ref mq, .int 1, .int 10, .int 0, .int 0])), (lc, .inr (4, [.int 0, .ref d, .int 0])), (r_1, .inl (kZ_2, 0, .inl (fun _ => 0)))]) hP hD [0, 1] [] rfl rfl (by decide) (by decide) hk1 hFc hP1 hD1
  have hK := hK.app hK1
  generalize H1 = H at hP hS ⊢
  have hP : va_P (dC, dI) vwCl [(mx, .inr (14, [.ref lc, .ref lr, .ref kn, .ref lt, .ref ml, .ref mm, .ref lp, .ref lb, .ref mq, .int 1, .int 10, .int 0, .int 0])), (lc, .inr (4, [.int 0, .ref d, .int 0])), (r_1, .inl (kZ_2, 0, .inl (fun _ => 0)))] H := hP
  have hD : va_D A [(mx, .inr (14, [.ref lc, .ref lr, .ref kn, .ref lt, .ref ml, .ref mm, .ref lp, .ref lb, .ref mq, .int 1, .int 10, .int 0, .int 0])), (lc, .inr (4, [.int 0, .ref d, .int 0])), (r_1, .inl (kZ_2, 0, .inl (fun _ => 0)))] := hD
  have hK : va_K (dC, dI) vwCl [(kZ_2, .boolean)] s := hK
  refine W.widen (k := 1) (n := 0) (Nat.le_of_ble_eq_true rfl) (Nat.le_of_ble_eq_true rfl) ?_
  refine lv_astore_n (lv' := [(1, .ref r_1), (0, .ref mx)]) hx hb dX9_countPassing_4 rfl hl (by decide) rfl (fun ls hl => ?_)
  refine lv_iconst (v := 0) hx hb dX9_countPassing_5 (by decide) ?_
  refine lv_istore_n (lv' := [(2, .int 0), (1, .ref r_1), (0, .ref mx)]) hx hb dX9_countPassing_6 rfl hl (by decide) rfl (fun ls hl => ?_)
  refine lv_iconst (v := 0) hx hb dX9_countPassing_7 (by decide) ?_
  refine lv_istore_n (lv' := [(3, .int 0), (2, .int 0), (1, .ref r_1), (0, .ref mx)]) hx hb dX9_countPassing_8 rfl hl (by decide) rfl (fun ls hl => ?_)
  refine lv_iload_n hx hb dX9_countPassing_9 rfl (lv_at hl 0 rfl) ?_
  refine lv_aload_n hx hb dX9_countPassing_10 rfl (lv_at hl 2 rfl) ?_
  refine va_alen hx hb hK hP 2 0 rfl rfl (v := 0) rfl dX9_countPassing_11 ?_
  refine lv_icmp_ge (tgt := 30) hx hb dX9_countPassing_12 (by decide) (fun _ => ?_) (fun c_3 => absurd (by decide) c_3)
  refine lv_iload_n hx hb dX9_countPassing_30 rfl (lv_at hl 1 rfl) ?_
  exact W.iret (v := 0) hx hb hr (fun t ht hW => ⟨⟨_, (), rfl, rfl, trivial⟩, hS.F ht⟩) hS.2.2 dX9_countPassing_31

def sp_M_count (c1 : Int32) : Int32 := if c1 = 0 then 0 else if c1 = 1 then 0 else if c1 = 2 then 0 else if c1 = 3 then 0 else if c1 = 4 then 0 else if c1 = 5 then 0 else if c1 = 6 then 0 else if c1 = 7 then 0 else if c1 = 8 then 0 else (-1)
set_option maxHeartbeats 4000000 in
set_option maxRecDepth 100000 in
theorem c_M_count (l : Launch) (dC : Nat → ClassId) (dI : Nat → Nat → Nat) (mx : Nat) (lc : Nat) (lr : Nat) (kn : Nat) (lt : Nat) (ml : Nat) (mm : Nat) (lp : Nat) (lb : Nat) (mq : Nat) (d : Nat) (c1 : Int32) (sz : Nat) : Met l yX9_count wsX9_count ({ frames := 3, cells := 1, slots := 0, locals := 65 }) (va_Pc [.ref mx, .int c1] (PQ dC dI sz [(mx, .inr (14, [.ref lc, .ref lr, .ref kn, .ref lt, .ref ml, .ref mm, .ref lp, .ref lb, .ref mq, .int 1, .int 10, .int 0, .int 0])), (lc, .inr (4, [.int 0, .ref d, .int 0])), (lr, .inr (4, [.int 0, .ref d, .int 0])), (lt, .inr (4, [.int 0, .ref d, .int 0])), (lp, .inr (4, [.int 0, .ref d, .int 0])), (lb, .inr (4, [.int 0, .ref d, .int 0]))] [])) (va_Qi (fun r (_ : Unit) => r = sp_M_count c1) (fun _ _ => True) (va_A [(mx, .inr (14, [.ref lc, .ref lr, .ref kn, .ref lt, .ref ml, .ref mm, .ref lp, .ref lb, .ref mq, .int 1, .int 10, .int 0, .int 0])), (lc, .inr (4, [.int 0, .ref d, .int 0])), (lr, .inr (4, [.int 0, .ref d, .int 0])), (lt, .inr (4, [.int 0, .ref d, .int 0])), (lp, .inr (4, [.int 0, .ref d, .int 0])), (lb, .inr (4, [.int 0, .ref d, .int 0]))] sz)) 1 0 (va_A [(mx, .inr (14, [.ref lc, .ref lr, .ref kn, .ref lt, .ref ml, .ref mm, .ref lp, .ref lb, .ref mq, .int 1, .int 10, .int 0, .int 0])), (lc, .inr (4, [.int 0, .ref d, .int 0])), (lr, .inr (4, [.int 0, .ref d, .int 0])), (lt, .inr (4, [.int 0, .ref d, .int 0])), (lp, .inr (4, [.int 0, .ref d, .int 0])), (lb, .inr (4, [.int 0, .ref d, .int 0]))] sz) := by
  refine Met.ofW (cc := cX9_count) (maxL := 2) (ret := (some .int)) (by decide) rfl ?_
  intro p e s m args below meth c s₁ B hml hv
  obtain ⟨rfl, hsz, hP, hK, hD0, hF⟩ := hv
  have hx := B.exec
  have hb := B.bytes
  have hr := B.returns
  have hts := atoms_spec (ws := wsX9_count) B.pre
  have hown : s.vm.findClass RX9 = some m.cls := findClass_of_methodNamed B.named
  have hlocks := B.notSynchronized
  subst hsz
  have hD := hD0.self (sz := s.heap.size)
  generalize hAe : va_A [(mx, .inr (14, [.ref lc, .ref lr, .ref kn, .ref lt, .ref ml, .ref mm, .ref lp, .ref lb, .ref mq, .int 1, .int 10, .int 0, .int 0])), (lc, .inr (4, [.int 0, .ref d, .int 0])), (lr, .inr (4, [.int 0, .ref d, .int 0])), (lt, .inr (4, [.int 0, .ref d, .int 0])), (lp, .inr (4, [.int 0, .ref d, .int 0])), (lb, .inr (4, [.int 0, .ref d, .int 0]))] s.heap.size = A at hD ⊢
  have hA : ∀ q : Nat, s.heap.size ≤ q → A q := fun q h => by rw [← hAe]; exact Or.inr h
  have hS : va_S A s.heap s.heap [] := va_S.rf
  have hl := lv_entry ([.ref mx, .int c1]) (n := 2) (Nat.le_of_ble_eq_true rfl)
  rw [lg_entry_eq]
  generalize (lg_sl ([.ref mx, .int c1]) ++ List.replicate (2 - (lg_sl ([.ref mx, .int c1])).length) Slot.unset).toArray = ls at hl ⊢
  have hl : lv_has ls 2 [(0, .ref mx), (1, .int c1)] := hl
  refine lv_iload_n hx hb dX9_count_0 rfl (lv_at hl 1 rfl) ?_
  by_cases c_1 : c1 = 0
  · refine lv_tableIn (tgt := 52) hx hb dX9_count_1 (by rw [c_1]; decide) (by rw [c_1]; decide) (off := 51) (by rw [c_1]; decide) (by decide) ?_
    refine lv_aload_n hx hb dX9_count_52 rfl (lv_at hl 0 rfl) ?_
    refine va_get (D := (dC, dI)) (ci := 14) (v := .ref lc) (C := RX9) (T := TX9) (N := 13) hx hb hts (fun _ h9 => List.mem_cons_of_mem _ (List.mem_append_left _ (List.mem_append_left _ (List.mem_append_left _ (List.mem_append_left _ (List.mem_append_left _ (List.mem_append_right _ (h9)))))))) hown hK hP 0 rfl rfl 0 (by decide) (hts (.fieldLink RX9 10 "ExamHallsModel" "candidates" "Ljava/util/List;") (List.mem_of_getElem? (i := 1) rfl)) (fun _ h9 => h9) rfl dX9_count_53 ?_
    refine va_csFi (va_runF (hK.1 4 _ rfl).2 (As := []) (rest := []) ⟨hx, hb, hml, hown, hts⟩ (c_AL_size l dC dI lc 0 d 0) (va_cwF 0 hts gX9_count_Jx4a65c_size_8abf5_f56Jx4a65c rfl rfl rfl (Ft.fw hF (RJx4a65c, ⟨"java/util/List", "size", "()I"⟩, yJx4a65c_size_8abf5) (by decide +kernel)) (by decide +kernel) ⟨Nat.le_of_ble_eq_true rfl, Nat.le_of_ble_eq_true rfl⟩) ⟨PS_blind, va_recv hK hP (ci := 4) (q0 := 1) rfl rfl, PS_pre (hP.sub (ws' := [(lc, .inr (4, [.int 0, .ref d, .int 0]))]) [1] rfl) hK hF⟩ rfl rfl hl.1 rfl (lv_room (Nat.le_of_ble_eq_true rfl)) dX9_count_56 ⟨Nat.le_of_ble_eq_true rfl, Nat.le_of_ble_eq_true rfl⟩) (fun r_2 hr_2 => ?_)
    subst hr_2
    refine W.widen (k := 1) (n := 0) (Nat.le_of_ble_eq_true rfl) (Nat.le_of_ble_eq_true rfl) ?_
    exact W.iret (v := 0) hx hb hr (fun t ht hW => ⟨⟨_, (), rfl, (by simp only [sp_M_count, if_pos c_1]), trivial⟩, hS.F ht⟩) hS.2.2 dX9_count_61
  by_cases c_3 : c1 = 1
  · refine lv_tableIn (tgt := 62) hx hb dX9_count_1 (by rw [c_3]; decide) (by rw [c_3]; decide) (off := 61) (by rw [c_3]; decide) (by decide) ?_
    refine lv_aload_n hx hb dX9_count_62 rfl (lv_at hl 0 rfl) ?_
    refine va_get (D := (dC, dI)) (ci := 14) (v := .ref lr) (C := RX9) (T := TX9) (N := 13) hx hb hts (fun _ h9 => List.mem_cons_of_mem _ (List.mem_append_left _ (List.mem_append_left _ (List.mem_append_left _ (List.mem_append_left _ (List.mem_append_left _ (List.mem_append_right _ (h9)))))))) hown hK hP 0 rfl rfl 1 (by decide) (hts (.fieldLink RX9 16 "ExamHallsModel" "readers" "Ljava/util/List;") (List.mem_of_getElem? (i := 2) rfl)) (fun _ h9 => h9) rfl dX9_count_63 ?_
    refine va_csFi (va_runF (hK.1 4 _ rfl).2 (As := []) (rest := []) ⟨hx, hb, hml, hown, hts⟩ (c_AL_size l dC dI lr 0 d 0) (va_cwF 0 hts gX9_count_Jx4a65c_size_8abf5_f56Jx4a65c rfl rfl rfl (Ft.fw hF (RJx4a65c, ⟨"java/util/List", "size", "()I"⟩, yJx4a65c_size_8abf5) (by decide +kernel)) (by decide +kernel) ⟨Nat.le_of_ble_eq_true rfl, Nat.le_of_ble_eq_true rfl⟩) ⟨PS_blind, va_recv hK hP (ci := 4) (q0 := 2) rfl rfl, PS_pre (hP.sub (ws' := [(lr, .inr (4, [.int 0, .ref d, .int 0]))]) [2] rfl) hK hF⟩ rfl rfl hl.1 rfl (lv_room (Nat.le_of_ble_eq_true rfl)) dX9_count_66 ⟨Nat.le_of_ble_eq_true rfl, Nat.le_of_ble_eq_true rfl⟩) (fun r_4 hr_4 => ?_)
    subst hr_4
    refine W.widen (k := 1) (n := 0) (Nat.le_of_ble_eq_true rfl) (Nat.le_of_ble_eq_true rfl) ?_
    exact W.iret (v := 0) hx hb hr (fun t ht hW => ⟨⟨_, (), rfl, (by simp only [sp_M_count, if_neg c_1, if_pos c_3]), trivial⟩, hS.F ht⟩) hS.2.2 dX9_count_71
  by_cases c_5 : c1 = 2
  · refine lv_tableIn (tgt := 72) hx hb dX9_count_1 (by rw [c_5]; decide) (by rw [c_5]; decide) (off := 71) (by rw [c_5]; decide) (by decide) ?_
    refine lv_aload_n hx hb dX9_count_72 rfl (lv_at hl 0 rfl) ?_
    refine lv_iconst (v := 0) hx hb dX9_count_73 (by decide) ?_
    refine vp_callSi (va_Run.run (va_runV (As := [.int 0]) (rest := []) ⟨hx, hb, hml, hown, hts⟩ (c_M_countCandidates l dC dI mx lc lr kn lt ml mm lp lb mq d 0) (cwV 1 hts gX9_count_X9_countCandidates rfl rfl rfl (by decide +kernel) ⟨Nat.le_of_ble_eq_true rfl, Nat.le_of_ble_eq_true rfl⟩) ⟨PS_blind, va_recv hK hP (ci := 14) (q0 := 0) rfl rfl, PS_pre (hP.sub (ws' := [(mx, .inr (14, [.ref lc, .ref lr, .ref kn, .ref lt, .ref ml, .ref mm, .ref lp, .ref lb, .ref mq, .int 1, .int 10, .int 0, .int 0])), (lc, .inr (4, [.int 0, .ref d, .int 0]))]) [0, 1] rfl) hK hF⟩ rfl rfl hl.1 rfl (lv_room (Nat.le_of_ble_eq_true rfl)) dX9_count_74 ⟨Nat.le_of_ble_eq_true rfl, Nat.le_of_ble_eq_true rfl⟩)) (fun r_6 hr_6 => ?_)
    subst hr_6
    refine W.widen (k := 1) (n := 0) (Nat.le_of_ble_eq_true rfl) (Nat.le_of_ble_eq_true rfl) ?_
    exact W.iret (v := 0) hx hb hr (fun t ht hW => ⟨⟨_, (), rfl, (by simp only [sp_M_count, if_neg c_1, if_neg c_3, if_pos c_5]), trivial⟩, hS.F ht⟩) hS.2.2 dX9_count_77
  by_cases c_7 : c1 = 3
  · refine lv_tableIn (tgt := 78) hx hb dX9_count_1 (by rw [c_7]; decide) (by rw [c_7]; decide) (off := 77) (by rw [c_7]; decide) (by decide) ?_
    refine lv_aload_n hx hb dX9_count_78 rfl (lv_at hl 0 rfl) ?_
    refine va_get (D := (dC, dI)) (ci := 14) (v := .ref lp) (C := RX9) (T := TX9) (N := 13) hx hb hts (fun _ h9 => List.mem_cons_of_mem _ (List.mem_append_left _ (List.mem_append_left _ (List.mem_append_left _ (List.mem_append_left _ (List.mem_append_left _ (List.mem_append_right _ (h9)))))))) hown hK hP 0 rfl rfl 6 (by decide) (hts (.fieldLink RX9 34 "ExamHallsModel" "parallels" "Ljava/util/List;") (List.mem_of_getElem? (i := 3) rfl)) (fun _ h9 => h9) rfl dX9_count_79 ?_
    refine va_csFi (va_runF (hK.1 4 _ rfl).2 (As := []) (rest := []) ⟨hx, hb, hml, hown, hts⟩ (c_AL_size l dC dI lp 0 d 0) (va_cwF 0 hts gX9_count_Jx4a65c_size_8abf5_f56Jx4a65c rfl rfl rfl (Ft.fw hF (RJx4a65c, ⟨"java/util/List", "size", "()I"⟩, yJx4a65c_size_8abf5) (by decide +kernel)) (by decide +kernel) ⟨Nat.le_of_ble_eq_true rfl, Nat.le_of_ble_eq_true rfl⟩) ⟨PS_blind, va_recv hK hP (ci := 4) (q0 := 4) rfl rfl, PS_pre (hP.sub (ws' := [(lp, .inr (4, [.int 0, .ref d, .int 0]))]) [4] rfl) hK hF⟩ rfl rfl hl.1 rfl (lv_room (Nat.le_of_ble_eq_true rfl)) dX9_count_82 ⟨Nat.le_of_ble_eq_true rfl, Nat.le_of_ble_eq_true rfl⟩) (fun r_8 hr_8 => ?_)
    subst hr_8
    refine W.widen (k := 1) (n := 0) (Nat.le_of_ble_eq_true rfl) (Nat.le_of_ble_eq_true rfl) ?_
    exact W.iret (v := 0) hx hb hr (fun t ht hW => ⟨⟨_, (), rfl, (by simp only [sp_M_count, if_neg c_1, if_neg c_3, if_neg c_5, if_pos c_7]), trivial⟩, hS.F ht⟩) hS.2.2 dX9_count_87
  by_cases c_9 : c1 = 4
  · refine lv_tableIn (tgt := 88) hx hb dX9_count_1 (by rw [c_9]; decide) (by rw [c_9]; decide) (off := 87) (by rw [c_9]; decide) (by decide) ?_
    refine lv_aload_n hx hb dX9_count_88 rfl (lv_at hl 0 rfl) ?_
    refine va_get (D := (dC, dI)) (ci := 14) (v := .ref lb) (C := RX9) (T := TX9) (N := 13) hx hb hts (fun _ h9 => List.mem_cons_of_mem _ (List.mem_append_left _ (List.mem_append_left _ (List.mem_append_left _ (List.mem_append_left _ (List.mem_append_left _ (List.mem_append_right _ (h9)))))))) hown hK hP 0 rfl rfl 7 (by decide) (hts (.fieldLink RX9 37 "ExamHallsModel" "barred" "Ljava/util/List;") (List.mem_of_getElem? (i := 4) rfl)) (fun _ h9 => h9) rfl dX9_count_89 ?_
    refine va_csFi (va_runF (hK.1 4 _ rfl).2 (As := []) (rest := []) ⟨hx, hb, hml, hown, hts⟩ (c_AL_size l dC dI lb 0 d 0) (va_cwF 0 hts gX9_count_Jx4a65c_size_8abf5_f56Jx4a65c rfl rfl rfl (Ft.fw hF (RJx4a65c, ⟨"java/util/List", "size", "()I"⟩, yJx4a65c_size_8abf5) (by decide +kernel)) (by decide +kernel) ⟨Nat.le_of_ble_eq_true rfl, Nat.le_of_ble_eq_true rfl⟩) ⟨PS_blind, va_recv hK hP (ci := 4) (q0 := 5) rfl rfl, PS_pre (hP.sub (ws' := [(lb, .inr (4, [.int 0, .ref d, .int 0]))]) [5] rfl) hK hF⟩ rfl rfl hl.1 rfl (lv_room (Nat.le_of_ble_eq_true rfl)) dX9_count_92 ⟨Nat.le_of_ble_eq_true rfl, Nat.le_of_ble_eq_true rfl⟩) (fun r_10 hr_10 => ?_)
    subst hr_10
    refine W.widen (k := 1) (n := 0) (Nat.le_of_ble_eq_true rfl) (Nat.le_of_ble_eq_true rfl) ?_
    exact W.iret (v := 0) hx hb hr (fun t ht hW => ⟨⟨_, (), rfl, (by simp only [sp_M_count, if_neg c_1, if_neg c_3, if_neg c_5, if_neg c_7, if_pos c_9]), trivial⟩, hS.F ht⟩) hS.2.2 dX9_count_97
  by_cases c_11 : c1 = 5
  · refine lv_tableIn (tgt := 98) hx hb dX9_count_1 (by rw [c_11]; decide) (by rw [c_11]; decide) (off := 97) (by rw [c_11]; decide) (by decide) ?_
    refine lv_aload_n hx hb dX9_count_98 rfl (lv_at hl 0 rfl) ?_
    refine va_get (D := (dC, dI)) (ci := 14) (v := .ref lt) (C := RX9) (T := TX9) (N := 13) hx hb hts (fun _ h9 => List.mem_cons_of_mem _ (List.mem_append_left _ (List.mem_append_left _ (List.mem_append_left _ (List.mem_append_left _ (List.mem_append_left _ (List.mem_append_right _ (h9)))))))) hown hK hP 0 rfl rfl 3 (by decide) (hts (.fieldLink RX9 24 "ExamHallsModel" "tape" "Ljava/util/List;") (List.mem_of_getElem? (i := 5) rfl)) (fun _ h9 => h9) rfl dX9_count_99 ?_
    refine va_csFi (va_runF (hK.1 4 _ rfl).2 (As := []) (rest := []) ⟨hx, hb, hml, hown, hts⟩ (c_AL_size l dC dI lt 0 d 0) (va_cwF 0 hts gX9_count_Jx4a65c_size_8abf5_f56Jx4a65c rfl rfl rfl (Ft.fw hF (RJx4a65c, ⟨"java/util/List", "size", "()I"⟩, yJx4a65c_size_8abf5) (by decide +kernel)) (by decide +kernel) ⟨Nat.le_of_ble_eq_true rfl, Nat.le_of_ble_eq_true rfl⟩) ⟨PS_blind, va_recv hK hP (ci := 4) (q0 := 3) rfl rfl, PS_pre (hP.sub (ws' := [(lt, .inr (4, [.int 0, .ref d, .int 0]))]) [3] rfl) hK hF⟩ rfl rfl hl.1 rfl (lv_room (Nat.le_of_ble_eq_true rfl)) dX9_count_102 ⟨Nat.le_of_ble_eq_true rfl, Nat.le_of_ble_eq_true rfl⟩) (fun r_12 hr_12 => ?_)
    subst hr_12
    refine W.widen (k := 1) (n := 0) (Nat.le_of_ble_eq_true rfl) (Nat.le_of_ble_eq_true rfl) ?_
    exact W.iret (v := 0) hx hb hr (fun t ht hW => ⟨⟨_, (), rfl, (by simp only [sp_M_count, if_neg c_1, if_neg c_3, if_neg c_5, if_neg c_7, if_neg c_9, if_pos c_11]), trivial⟩, hS.F ht⟩) hS.2.2 dX9_count_107
  by_cases c_13 : c1 = 6
  · refine lv_tableIn (tgt := 108) hx hb dX9_count_1 (by rw [c_13]; decide) (by rw [c_13]; decide) (off := 107) (by rw [c_13]; decide) (by decide) ?_
    refine lv_aload_n hx hb dX9_count_108 rfl (lv_at hl 0 rfl) ?_
    refine lv_iconst (v := 1) hx hb dX9_count_109 (by decide) ?_
    refine vp_callSi (va_Run.run (va_runV (As := [.int 1]) (rest := []) ⟨hx, hb, hml, hown, hts⟩ (c_M_countCandidates l dC dI mx lc lr kn lt ml mm lp lb mq d 1) (cwV 1 hts gX9_count_X9_countCandidates rfl rfl rfl (by decide +kernel) ⟨Nat.le_of_ble_eq_true rfl, Nat.le_of_ble_eq_true rfl⟩) ⟨PS_blind, va_recv hK hP (ci := 14) (q0 := 0) rfl rfl, PS_pre (hP.sub (ws' := [(mx, .inr (14, [.ref lc, .ref lr, .ref kn, .ref lt, .ref ml, .ref mm, .ref lp, .ref lb, .ref mq, .int 1, .int 10, .int 0, .int 0])), (lc, .inr (4, [.int 0, .ref d, .int 0]))]) [0, 1] rfl) hK hF⟩ rfl rfl hl.1 rfl (lv_room (Nat.le_of_ble_eq_true rfl)) dX9_count_110 ⟨Nat.le_of_ble_eq_true rfl, Nat.le_of_ble_eq_true rfl⟩)) (fun r_14 hr_14 => ?_)
    subst hr_14
    refine W.widen (k := 1) (n := 0) (Nat.le_of_ble_eq_true rfl) (Nat.le_of_ble_eq_true rfl) ?_
    exact W.iret (v := 0) hx hb hr (fun t ht hW => ⟨⟨_, (), rfl, (by simp only [sp_M_count, if_neg c_1, if_neg c_3, if_neg c_5, if_neg c_7, if_neg c_9, if_neg c_11, if_pos c_13]), trivial⟩, hS.F ht⟩) hS.2.2 dX9_count_113
  by_cases c_15 : c1 = 7
  · refine lv_tableIn (tgt := 114) hx hb dX9_count_1 (by rw [c_15]; decide) (by rw [c_15]; decide) (off := 113) (by rw [c_15]; decide) (by decide) ?_
    refine lv_aload_n hx hb dX9_count_114 rfl (lv_at hl 0 rfl) ?_
    refine vp_callSi (va_Run.run (va_runV (As := []) (rest := []) ⟨hx, hb, hml, hown, hts⟩ (c_M_countMarks l dC dI mx lc lr kn lt ml mm lp lb mq d) (cwV 0 hts gX9_count_X9_countMarks rfl rfl rfl (by decide +kernel) ⟨Nat.le_of_ble_eq_true rfl, Nat.le_of_ble_eq_true rfl⟩) ⟨PS_blind, va_recv hK hP (ci := 14) (q0 := 0) rfl rfl, PS_pre (hP.sub (ws' := [(mx, .inr (14, [.ref lc, .ref lr, .ref kn, .ref lt, .ref ml, .ref mm, .ref lp, .ref lb, .ref mq, .int 1, .int 10, .int 0, .int 0])), (lc, .inr (4, [.int 0, .ref d, .int 0]))]) [0, 1] rfl) hK hF⟩ rfl rfl hl.1 rfl (lv_room (Nat.le_of_ble_eq_true rfl)) dX9_count_115 ⟨Nat.le_of_ble_eq_true rfl, Nat.le_of_ble_eq_true rfl⟩)) (fun r_16 hr_16 => ?_)
    subst hr_16
    refine W.widen (k := 1) (n := 0) (Nat.le_of_ble_eq_true rfl) (Nat.le_of_ble_eq_true rfl) ?_
    exact W.iret (v := 0) hx hb hr (fun t ht hW => ⟨⟨_, (), rfl, (by simp only [sp_M_count, if_neg c_1, if_neg c_3, if_neg c_5, if_neg c_7, if_neg c_9, if_neg c_11, if_neg c_13, if_pos c_15]), trivial⟩, hS.F ht⟩) hS.2.2 dX9_count_118
  by_cases c_17 : c1 = 8
  · refine lv_tableIn (tgt := 119) hx hb dX9_count_1 (by rw [c_17]; decide) (by rw [c_17]; decide) (off := 118) (by rw [c_17]; decide) (by decide) ?_
    refine lv_aload_n hx hb dX9_count_119 rfl (lv_at hl 0 rfl) ?_
    have hPc := hP.sub (ws' := [(mx, .inr (14, [.ref lc, .ref lr, .ref kn, .ref lt, .ref ml, .ref mm, .ref lp, .ref lb, .ref mq, .int 1, .int 10, .int 0, .int 0])), (lc, .inr (4, [.int 0, .ref d, .int 0]))]) [0, 1] rfl
    have hDc := hD.sub (ws' := [(mx, .inr (14, [.ref lc, .ref lr, .ref kn, .ref lt, .ref ml, .ref mm, .ref lp, .ref lb, .ref mq, .int 1, .int 10, .int 0, .int 0])), (lc, .inr (4, [.int 0, .ref d, .int 0]))]) [0, 1] (by decide) rfl
    have hKc := hK.sub (tys' := []) [] rfl
    have hFc := va_free (wc := [(mx, .inr (14, [.ref lc, .ref lr, .ref kn, .ref lt, .ref ml, .ref mm, .ref lp, .ref lb, .ref mq, .int 1, .int 10, .int 0, .int 0])), (lc, .inr (4, [.int 0, .ref d, .int 0]))]) hD hS hA [0, 1] rfl
    refine va_calli (va_runV (As := []) (rest := []) ⟨hx, hb, hml, hown, hts⟩ (c_M_countPassing l dC dI mx lc lr kn lt ml mm lp lb mq d s.heap.size) (cwV 0 hts gX9_count_X9_countPassing rfl rfl rfl (by decide +kernel) ⟨Nat.le_of_ble_eq_true rfl, Nat.le_of_ble_eq_true rfl⟩) ⟨PQ_blind, va_recv hK hP (ci := 14) (q0 := 0) rfl rfl, PQ_pre hPc hKc hDc hF⟩ rfl rfl hl.1 rfl (lv_room (Nat.le_of_ble_eq_true rfl)) dX9_count_120 ⟨Nat.le_of_ble_eq_true rfl, Nat.le_of_ble_eq_true rfl⟩) hS (fun q _ h => hFc q h) hFc (fun r_18 u t H1 locs ht hvm hw hB hz1 hk1 hS => ?_)
    have hP1 : va_P (dC, dI) vwCl [] H1 := fun k q h => by simp at h
    have hD1 : va_D (va_A [(mx, .inr (14, [.ref lc, .ref lr, .ref kn, .ref lt, .ref ml, .ref mm, .ref lp, .ref lb, .ref mq, .int 1, .int 10, .int 0, .int 0])), (lc, .inr (4, [.int 0, .ref d, .int 0]))] s.heap.size) [] := ⟨fun i j p q h => by simp at h, fun k q h => by simp at h⟩
    obtain ⟨hP, hD⟩ := va_join (wr := [(lr, .inr (4, [.int 0, .ref d, .int 0])), (lt, .inr (4, [.int 0, .ref d, .int 0])), (lp, .inr (4, [.int 0, .ref d, .int 0])), (lb, .inr (4, [.int 0, .ref d, .int 0]))]) (w1 := []) hP hD [0, 1] [2, 3, 4, 5] rfl rfl (by decide) (by decide) hk1 hFc hP1 hD1
    generalize H1 = H at hP hS ⊢
    have hP : va_P (dC, dI) vwCl [(lr, .inr (4, [.int 0, .ref d, .int 0])), (lt, .inr (4, [.int 0, .ref d, .int 0])), (lp, .inr (4, [.int 0, .ref d, .int 0])), (lb, .inr (4, [.int 0, .ref d, .int 0]))] H := hP
    have hD : va_D A [(lr, .inr (4, [.int 0, .ref d, .int 0])), (lt, .inr (4, [.int 0, .ref d, .int 0])), (lp, .inr (4, [.int 0, .ref d, .int 0])), (lb, .inr (4, [.int 0, .ref d, .int 0]))] := hD
    have hK : va_K (dC, dI) vwCl [] s := hK
    refine W.widen (k := 1) (n := 0) (Nat.le_of_ble_eq_true rfl) (Nat.le_of_ble_eq_true rfl) ?_
    obtain rfl := hw
    exact W.iret (v := 0) hx hb hr (fun t ht hW => ⟨⟨_, (), rfl, (by simp only [sp_M_count, if_neg c_1, if_neg c_3, if_neg c_5, if_neg c_7, if_neg c_9, if_neg c_11, if_neg c_13, if_neg c_15, if_pos c_17]), trivial⟩, hS.F ht⟩) hS.2.2 dX9_count_123
  refine lv_tableOut (tgt := 124) hx hb dX9_count_1 (by have h9 := sw_ne8 c_1 c_3 c_5 c_7 c_9 c_11 c_13 c_15 c_17; exact h9) (by decide) ?_
  refine lv_iconst (v := (-1)) hx hb dX9_count_124 (by decide) ?_
  refine W.widen (k := 1) (n := 0) (Nat.le_of_ble_eq_true rfl) (Nat.le_of_ble_eq_true rfl) ?_
  exact W.iret (v := (-1)) hx hb hr (fun t ht hW => ⟨⟨_, (), rfl, (by simp only [sp_M_count, if_neg c_1, if_neg c_3, if_neg c_5, if_neg c_7, if_neg c_9, if_neg c_11, if_neg c_13, if_neg c_15, if_neg c_17]), trivial⟩, hS.F ht⟩) hS.2.2 dX9_count_125
