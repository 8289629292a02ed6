theorem dX9_joined_0 : decode cX9_joined 0 = .ok (.iconst 0, 1) := by decide +kernel
theorem dX9_joined_1 : decode cX9_joined 1 = .ok (.istore 4, 2) := by decide +kernel
theorem dX9_joined_3 : decode cX9_joined 3 = .ok (.iload 4, 2) := by decide +kernel
theorem dX9_joined_5 : decode cX9_joined 5 = .ok (.bipush 8, 2) := by decide +kernel
theorem dX9_joined_7 : decode cX9_joined 7 = .ok (.if_icmp .ge 35, 3) := by decide +kernel
theorem dX9_joined_10 : decode cX9_joined 10 = .ok (.iload_n 1, 1) := by decide +kernel
theorem dX9_joined_11 : decode cX9_joined 11 = .ok (.iload 4, 2) := by decide +kernel
theorem dX9_joined_13 : decode cX9_joined 13 = .ok (.ishr, 1) := by decide +kernel
theorem dX9_joined_14 : decode cX9_joined 14 = .ok (.iconst 1, 1) := by decide +kernel
theorem dX9_joined_15 : decode cX9_joined 15 = .ok (.iand, 1) := by decide +kernel
theorem dX9_joined_16 : decode cX9_joined 16 = .ok (.iconst 1, 1) := by decide +kernel
theorem dX9_joined_17 : decode cX9_joined 17 = .ok (.if_icmp .ne 19, 3) := by decide +kernel
theorem dX9_joined_20 : decode cX9_joined 20 = .ok (.aload_n 0, 1) := by decide +kernel
theorem dX9_joined_21 : decode cX9_joined 21 = .ok (.getfield 189, 3) := by decide +kernel
theorem dX9_joined_24 : decode cX9_joined 24 = .ok (.iload 4, 2) := by decide +kernel
theorem dX9_joined_26 : decode cX9_joined 26 = .ok (.aaload, 1) := by decide +kernel
theorem dX9_joined_27 : decode cX9_joined 27 = .ok (.iload_n 2, 1) := by decide +kernel
theorem dX9_joined_28 : decode cX9_joined 28 = .ok (.aaload, 1) := by decide +kernel
theorem dX9_joined_29 : decode cX9_joined 29 = .ok (.iload_n 3, 1) := by decide +kernel
theorem dX9_joined_30 : decode cX9_joined 30 = .ok (.baload, 1) := by decide +kernel
theorem dX9_joined_31 : decode cX9_joined 31 = .ok (.ifCond .eq 5, 3) := by decide +kernel
theorem dX9_joined_36 : decode cX9_joined 36 = .ok (.iinc 4 1, 3) := by decide +kernel
theorem dX9_joined_39 : decode cX9_joined 39 = .ok (.goto (-36), 3) := by decide +kernel
theorem dX9_joined_42 : decode cX9_joined 42 = .ok (.iconst 0, 1) := by decide +kernel
theorem dX9_joined_43 : decode cX9_joined 43 = .ok (.ireturn, 1) := by decide +kernel
set_option maxRecDepth 20000 in
theorem ggX9_open_X9_joined : GoodIn wsX9_open wsX9_joined := goodIn_r _ [5, 6, 7, 8, 9, 10, 11, 12, 13] (by decide +kernel) (by decide +kernel)
set_option maxRecDepth 20000 in
theorem gX9_open_X9_joined : GoodIn wsX9_open (va_wsS RX9 193 yX9_joined wsX9_joined) := goodIn_app (goodIn_of _ (by decide +kernel)) ggX9_open_X9_joined
theorem dX9_open_0 : decode cX9_open 0 = .ok (.iconst 4, 1) := by decide +kernel
theorem dX9_open_1 : decode cX9_open 1 = .ok (.newarray .boolean, 2) := by decide +kernel
theorem dX9_open_3 : decode cX9_open 3 = .ok (.astore_n 2, 1) := by decide +kernel
theorem dX9_open_4 : decode cX9_open 4 = .ok (.aload_n 2, 1) := by decide +kernel
theorem dX9_open_5 : decode cX9_open 5 = .ok (.iconst 0, 1) := by decide +kernel
theorem dX9_open_6 : decode cX9_open 6 = .ok (.iconst 1, 1) := by decide +kernel
theorem dX9_open_7 : decode cX9_open 7 = .ok (.bastore, 1) := by decide +kernel
theorem dX9_open_8 : decode cX9_open 8 = .ok (.iconst 0, 1) := by decide +kernel
theorem dX9_open_9 : decode cX9_open 9 = .ok (.istore_n 3, 1) := by decide +kernel
theorem dX9_open_10 : decode cX9_open 10 = .ok (.iload_n 3, 1) := by decide +kernel
theorem dX9_open_11 : decode cX9_open 11 = .ok (.iconst 4, 1) := by decide +kernel
theorem dX9_open_12 : decode cX9_open 12 = .ok (.if_icmp .ge 63, 3) := by decide +kernel
theorem dX9_open_15 : decode cX9_open 15 = .ok (.iconst 0, 1) := by decide +kernel
theorem dX9_open_16 : decode cX9_open 16 = .ok (.istore 4, 2) := by decide +kernel
theorem dX9_open_18 : decode cX9_open 18 = .ok (.iload 4, 2) := by decide +kernel
theorem dX9_open_20 : decode cX9_open 20 = .ok (.iconst 4, 1) := by decide +kernel
theorem dX9_open_21 : decode cX9_open 21 = .ok (.if_icmp .ge 48, 3) := by decide +kernel
theorem dX9_open_24 : decode cX9_open 24 = .ok (.iconst 0, 1) := by decide +kernel
theorem dX9_open_25 : decode cX9_open 25 = .ok (.istore 5, 2) := by decide +kernel
theorem dX9_open_27 : decode cX9_open 27 = .ok (.iload 5, 2) := by decide +kernel
theorem dX9_open_29 : decode cX9_open 29 = .ok (.iconst 4, 1) := by decide +kernel
theorem dX9_open_30 : decode cX9_open 30 = .ok (.if_icmp .ge 33, 3) := by decide +kernel
theorem dX9_open_33 : decode cX9_open 33 = .ok (.aload_n 2, 1) := by decide +kernel
theorem dX9_open_34 : decode cX9_open 34 = .ok (.iload 4, 2) := by decide +kernel
theorem dX9_open_36 : decode cX9_open 36 = .ok (.baload, 1) := by decide +kernel
theorem dX9_open_37 : decode cX9_open 37 = .ok (.ifCond .eq 20, 3) := by decide +kernel
theorem dX9_open_40 : decode cX9_open 40 = .ok (.aload_n 0, 1) := by decide +kernel
theorem dX9_open_41 : decode cX9_open 41 = .ok (.iload_n 1, 1) := by decide +kernel
theorem dX9_open_42 : decode cX9_open 42 = .ok (.iload 4, 2) := by decide +kernel
theorem dX9_open_44 : decode cX9_open 44 = .ok (.iload 5, 2) := by decide +kernel
theorem dX9_open_46 : decode cX9_open 46 = .ok (.invokestatic 193, 3) := by decide +kernel
theorem dX9_open_49 : decode cX9_open 49 = .ok (.ifCond .eq 8, 3) := by decide +kernel
theorem dX9_open_52 : decode cX9_open 52 = .ok (.aload_n 2, 1) := by decide +kernel
theorem dX9_open_53 : decode cX9_open 53 = .ok (.iload 5, 2) := by decide +kernel
theorem dX9_open_55 : decode cX9_open 55 = .ok (.iconst 1, 1) := by decide +kernel
theorem dX9_open_56 : decode cX9_open 56 = .ok (.bastore, 1) := by decide +kernel
theorem dX9_open_57 : decode cX9_open 57 = .ok (.iinc 5 1, 3) := by decide +kernel
theorem dX9_open_60 : decode cX9_open 60 = .ok (.goto (-33), 3) := by decide +kernel
theorem dX9_open_63 : decode cX9_open 63 = .ok (.iinc 4 1, 3) := by decide +kernel
theorem dX9_open_66 : decode cX9_open 66 = .ok (.goto (-48), 3) := by decide +kernel
theorem dX9_open_69 : decode cX9_open 69 = .ok (.iinc 3 1, 3) := by decide +kernel
theorem dX9_open_72 : decode cX9_open 72 = .ok (.goto (-62), 3) := by decide +kernel
theorem dX9_open_75 : decode cX9_open 75 = .ok (.aload_n 2, 1) := by decide +kernel
theorem dX9_open_76 : decode cX9_open 76 = .ok (.iconst 3, 1) := by decide +kernel
theorem dX9_open_77 : decode cX9_open 77 = .ok (.baload, 1) := by decide +kernel
theorem dX9_open_78 : decode cX9_open 78 = .ok (.ireturn, 1) := by decide +kernel
set_option maxRecDepth 20000 in
theorem ggX9_openedBy_Jx4a65c_get_915e3 : GoodIn wsX9_openedBy wsJx4a65c_get_915e3 := goodIn_r _ [43, 22, 44, 29, 30, 31, 32, 33, 34, 35, 45, 37, 38, 20, 39, 40, 73, 74, 75] (by decide +kernel) (by decide +kernel)
set_option maxRecDepth 20000 in
theorem gX9_openedBy_Jx4a65c_get_915e3_f84Jx4a65c : GoodIn wsX9_openedBy (va_wsF RX9 84 RJx4a65c ⟨"java/util/List", "get", "(I)Ljava/lang/Object;"⟩ yJx4a65c_get_915e3 wsJx4a65c_get_915e3) := goodIn_app (goodIn_of _ (by decide +kernel)) ggX9_openedBy_Jx4a65c_get_915e3
set_option maxRecDepth 20000 in
theorem ggX9_openedBy_X9_open : GoodIn wsX9_openedBy wsX9_open := goodIn_r _ [49, 50, 51, 52, 48, 53, 54, 76, 77, 78, 79, 80, 81, 82] (by decide +kernel) (by decide +kernel)
set_option maxRecDepth 20000 in
theorem gX9_openedBy_X9_open : GoodIn wsX9_openedBy (va_wsS RX9 197 yX9_open wsX9_open) := goodIn_app (goodIn_of _ (by decide +kernel)) ggX9_openedBy_X9_open
theorem dX9_openedBy_17 : decode cX9_openedBy 17 = .ok (.aload_n 0, 1) := by decide +kernel
theorem dX9_openedBy_18 : decode cX9_openedBy 18 = .ok (.getfield 10, 3) := by decide +kernel
theorem dX9_openedBy_21 : decode cX9_openedBy 21 = .ok (.iload_n 3, 1) := by decide +kernel
theorem dX9_openedBy_22 : decode cX9_openedBy 22 = .ok (.invokeinterface 84 2, 5) := by decide +kernel
theorem dX9_openedBy_27 : decode cX9_openedBy 27 = .ok (.checkcast 66, 3) := by decide +kernel
theorem dX9_openedBy_30 : decode cX9_openedBy 30 = .ok (.iload_n 1, 1) := by decide +kernel
theorem dX9_openedBy_31 : decode cX9_openedBy 31 = .ok (.invokestatic 197, 3) := by decide +kernel
theorem dX9_openedBy_34 : decode cX9_openedBy 34 = .ok (.ifCond .eq 6, 3) := by decide +kernel
theorem dX9_openedBy_37 : decode cX9_openedBy 37 = .ok (.iinc 2 1, 3) := by decide +kernel
theorem dX9_openedBy_40 : decode cX9_openedBy 40 = .ok (.iinc 3 1, 3) := by decide +kernel
theorem dX9_openedBy_43 : decode cX9_openedBy 43 = .ok (.goto (-39), 3) := by decide +kernel
set_option maxRecDepth 20000 in
theorem ggX9_fewest_J6_bitCount_0f7a4 : GoodIn wsX9_fewest wsJ6_bitCount_0f7a4 := goodIn_r _ [62, 63, 64, 65] (by decide +kernel) (by decide +kernel)
set_option maxRecDepth 20000 in
theorem gX9_fewest_J6_bitCount_0f7a4 : GoodIn wsX9_fewest (va_wsS RX9 205 yJ6_bitCount_0f7a4 wsJ6_bitCount_0f7a4) := goodIn_app (goodIn_of _ (by decide +kernel)) ggX9_fewest_J6_bitCount_0f7a4
theorem dX9_fewest_22 : decode cX9_fewest 22 = .ok (.iload_n 1, 1) := by decide +kernel
theorem dX9_fewest_23 : decode cX9_fewest 23 = .ok (.ifCond .eq 14, 3) := by decide +kernel
theorem dX9_fewest_26 : decode cX9_fewest 26 = .ok (.iload_n 2, 1) := by decide +kernel
theorem dX9_fewest_27 : decode cX9_fewest 27 = .ok (.invokestatic 205, 3) := by decide +kernel
theorem dX9_fewest_30 : decode cX9_fewest 30 = .ok (.iload_n 1, 1) := by decide +kernel
theorem dX9_fewest_31 : decode cX9_fewest 31 = .ok (.invokestatic 205, 3) := by decide +kernel
theorem dX9_fewest_34 : decode cX9_fewest 34 = .ok (.if_icmp .ge 5, 3) := by decide +kernel
theorem dX9_fewest_37 : decode cX9_fewest 37 = .ok (.iload_n 2, 1) := by decide +kernel
theorem dX9_fewest_38 : decode cX9_fewest 38 = .ok (.istore_n 1, 1) := by decide +kernel
theorem dJx4a65c_elementData_915e3_0 : decode cJx4a65c_elementData_915e3 0 = .ok (.aload_n 0, 1) := by decide +kernel
theorem dJx4a65c_elementData_915e3_1 : decode cJx4a65c_elementData_915e3 1 = .ok (.getfield 9, 3) := by decide +kernel
theorem dJx4a65c_elementData_915e3_4 : decode cJx4a65c_elementData_915e3 4 = .ok (.iload_n 1, 1) := by decide +kernel
theorem dJx4a65c_elementData_915e3_5 : decode cJx4a65c_elementData_915e3 5 = .ok (.aaload, 1) := by decide +kernel
theorem dJx4a65c_elementData_915e3_6 : decode cJx4a65c_elementData_915e3 6 = .ok (.areturn, 1) := by decide +kernel
set_option maxRecDepth 20000 in
theorem ggJx4a65c_get_915e3_J15_checkIndex_7cf53 : GoodIn wsJx4a65c_get_915e3 wsJ15_checkIndex_7cf53 := goodIn_r _ [5, 6, 7, 8, 9] (by decide +kernel) (by decide +kernel)
set_option maxRecDepth 20000 in
theorem gJx4a65c_get_915e3_J15_checkIndex_7cf53 : GoodIn wsJx4a65c_get_915e3 (va_wsS RJx4a65c 118 yJ15_checkIndex_7cf53 wsJ15_checkIndex_7cf53) := goodIn_app (goodIn_of _ (by decide +kernel)) ggJx4a65c_get_915e3_J15_checkIndex_7cf53
set_option maxRecDepth 20000 in
theorem ggJx4a65c_get_915e3_Jx4a65c_elementData_915e3 : GoodIn wsJx4a65c_get_915e3 wsJx4a65c_elementData_915e3 := goodIn_r _ [14, 15, 16, 17, 18] (by decide +kernel) (by decide +kernel)
set_option maxRecDepth 20000 in
theorem gJx4a65c_get_915e3_Jx4a65c_elementData_915e3 : GoodIn wsJx4a65c_get_915e3 (wsV RJx4a65c 123 RJx4a65c yJx4a65c_elementData_915e3 wsJx4a65c_elementData_915e3) := goodIn_app (goodIn_of _ (by decide +kernel)) ggJx4a65c_get_915e3_Jx4a65c_elementData_915e3
theorem dJx4a65c_get_915e3_0 : decode cJx4a65c_get_915e3 0 = .ok (.iload_n 1, 1) := by decide +kernel
theorem dJx4a65c_get_915e3_1 : decode cJx4a65c_get_915e3 1 = .ok (.aload_n 0, 1) := by decide +kernel
theorem dJx4a65c_get_915e3_2 : decode cJx4a65c_get_915e3 2 = .ok (.getfield 48, 3) := by decide +kernel
theorem dJx4a65c_get_915e3_5 : decode cJx4a65c_get_915e3 5 = .ok (.invokestatic 118, 3) := by decide +kernel
theorem dJx4a65c_get_915e3_8 : decode cJx4a65c_get_915e3 8 = .ok (.pop, 1) := by decide +kernel
theorem dJx4a65c_get_915e3_9 : decode cJx4a65c_get_915e3 9 = .ok (.aload_n 0, 1) := by decide +kernel
theorem dJx4a65c_get_915e3_10 : decode cJx4a65c_get_915e3 10 = .ok (.iload_n 1, 1) := by decide +kernel
theorem dJx4a65c_get_915e3_11 : decode cJx4a65c_get_915e3 11 = .ok (.invokevirtual 123, 3) := by decide +kernel
theorem dJx4a65c_get_915e3_14 : decode cJx4a65c_get_915e3 14 = .ok (.areturn, 1) := by decide +kernel
set_option maxRecDepth 20000 in
theorem ggJ15_checkIndex_7cf53_J3_checkIndex_8e157 : GoodIn wsJ15_checkIndex_7cf53 wsJ3_checkIndex_8e157 := goodIn_r _ [4] (by decide +kernel) (by decide +kernel)
set_option maxRecDepth 20000 in
theorem gJ15_checkIndex_7cf53_J3_checkIndex_8e157 : GoodIn wsJ15_checkIndex_7cf53 (va_wsS RJ15 105 yJ3_checkIndex_8e157 wsJ3_checkIndex_8e157) := goodIn_app (goodIn_of _ (by decide +kernel)) ggJ15_checkIndex_7cf53_J3_checkIndex_8e157
theorem dJ15_checkIndex_7cf53_0 : decode cJ15_checkIndex_7cf53 0 = .ok (.iload_n 0, 1) := by decide +kernel
theorem dJ15_checkIndex_7cf53_1 : decode cJ15_checkIndex_7cf53 1 = .ok (.iload_n 1, 1) := by decide +kernel
theorem dJ15_checkIndex_7cf53_2 : decode cJ15_checkIndex_7cf53 2 = .ok (.aconst_null, 1) := by decide +kernel
theorem dJ15_checkIndex_7cf53_3 : decode cJ15_checkIndex_7cf53 3 = .ok (.invokestatic 105, 3) := by decide +kernel
theorem dJ15_checkIndex_7cf53_6 : decode cJ15_checkIndex_7cf53 6 = .ok (.ireturn, 1) := by decide +kernel
theorem dJ3_checkIndex_8e157_0 : decode cJ3_checkIndex_8e157 0 = .ok (.iload_n 0, 1) := by decide +kernel
theorem dJ3_checkIndex_8e157_1 : decode cJ3_checkIndex_8e157 1 = .ok (.ifCond .lt 8, 3) := by decide +kernel
theorem dJ3_checkIndex_8e157_4 : decode cJ3_checkIndex_8e157 4 = .ok (.iload_n 0, 1) := by decide +kernel
theorem dJ3_checkIndex_8e157_5 : decode cJ3_checkIndex_8e157 5 = .ok (.iload_n 1, 1) := by decide +kernel
theorem dJ3_checkIndex_8e157_6 : decode cJ3_checkIndex_8e157 6 = .ok (.if_icmp .lt 10, 3) := by decide +kernel
theorem dJ3_checkIndex_8e157_16 : decode cJ3_checkIndex_8e157 16 = .ok (.iload_n 0, 1) := by decide +kernel
theorem dJ3_checkIndex_8e157_17 : decode cJ3_checkIndex_8e157 17 = .ok (.ireturn, 1) := by decide +kernel
set_option maxHeartbeats 4000000 in
set_option maxRecDepth 100000 in
theorem c_R_chk (l : Launch) (dC : Nat → ClassId) (dI : Nat → Nat → Nat) (n : Int32) (z : Int32) (hn0 : ¬ n < 0) (hn1 : n < z) : Met l yJ3_checkIndex_8e157 wsJ3_checkIndex_8e157 ({ frames := 0, cells := 0, slots := 0, locals := 0 }) (va_Pc [.int n, .int z, .null] (PS dC dI [] [])) (vp_Si (fun r => r = n)) 0 0 (fun _ => False) := by
  refine Met.ofW (cc := cJ3_checkIndex_8e157) (maxL := 3) (ret := (some .int)) (by decide) rfl ?_
  intro p e s m args below meth c s₁ B hml hv
  obtain ⟨rfl, hP, hK, hF⟩ := hv
  have hx := B.exec
  have hb := B.bytes
  have hr := B.returns
  have hts := atoms_spec (ws := wsJ3_checkIndex_8e157) B.pre
  have hown : s.vm.findClass RJ3 = some m.cls := findClass_of_methodNamed B.named
  have hlocks := B.notSynchronized
  have hl := lv_entry ([.int n, .int z, .null]) (n := 3) (Nat.le_of_ble_eq_true rfl)
  rw [lg_entry_eq]
  generalize (lg_sl ([.int n, .int z, .null]) ++ List.replicate (3 - (lg_sl ([.int n, .int z, .null])).length) Slot.unset).toArray = ls at hl ⊢
  have hl : lv_has ls 3 [(0, .int n), (1, .int z), (2, .null)] := hl
  refine lv_iload_n hx hb dJ3_checkIndex_8e157_0 rfl (lv_at hl 0 rfl) ?_
  refine lv_if_lt (tgt := 9) hx hb dJ3_checkIndex_8e157_1 (by decide) (fun c_1 => absurd c_1 hn0) (fun _ => ?_)
  refine lv_iload_n hx hb dJ3_checkIndex_8e157_4 rfl (lv_at hl 0 rfl) ?_
  refine lv_iload_n hx hb dJ3_checkIndex_8e157_5 rfl (lv_at hl 1 rfl) ?_
  refine lv_icmp_lt (tgt := 16) hx hb dJ3_checkIndex_8e157_6 (by decide) (fun _ => ?_) (fun c_2 => absurd hn1 c_2)
  refine lv_iload_n hx hb dJ3_checkIndex_8e157_16 rfl (lv_at hl 0 rfl) ?_
  exact W.iret (v := n) hx hb hr (fun t ht hW => ⟨_, rfl, rfl, ht⟩) (fun _ h9 => absurd h9 List.not_mem_nil) dJ3_checkIndex_8e157_17

set_option maxHeartbeats 4000000 in
set_option maxRecDepth 100000 in
theorem c_R_chk2 (l : Launch) (dC : Nat → ClassId) (dI : Nat → Nat → Nat) (n : Int32) (z : Int32) (hn0 : ¬ n < 0) (hn1 : n < z) : Met l yJ15_checkIndex_7cf53 wsJ15_checkIndex_7cf53 ({ frames := 1, cells := 0, slots := 0, locals := 22 }) (va_Pc [.int n, .int z] (PS dC dI [] [])) (vp_Si (fun r => r = n)) 0 0 (fun _ => False) := by
  refine Met.ofW (cc := cJ15_checkIndex_7cf53) (maxL := 2) (ret := (some .int)) (by decide) rfl ?_
  intro p e s m args below meth c s₁ B hml hv
  obtain ⟨rfl, hP, hK, hF⟩ := hv
  have hx := B.exec
  have hb := B.bytes
  have hr := B.returns
  have hts := atoms_spec (ws := wsJ15_checkIndex_7cf53) B.pre
  have hown : s.vm.findClass RJ15 = some m.cls := findClass_of_methodNamed B.named
  have hlocks := B.notSynchronized
  have hl := lv_entry ([.int n, .int z]) (n := 2) (Nat.le_of_ble_eq_true rfl)
  rw [lg_entry_eq]
  generalize (lg_sl ([.int n, .int z]) ++ List.replicate (2 - (lg_sl ([.int n, .int z])).length) Slot.unset).toArray = ls at hl ⊢
  have hl : lv_has ls 2 [(0, .int n), (1, .int z)] := hl
  refine lv_iload_n hx hb dJ15_checkIndex_7cf53_0 rfl (lv_at hl 0 rfl) ?_
  refine lv_iload_n hx hb dJ15_checkIndex_7cf53_1 rfl (lv_at hl 1 rfl) ?_
  refine lv_null hx hb dJ15_checkIndex_7cf53_2 ?_
  refine vp_callSi (va_Run.run (va_runS (As := [.int n, .int z, .null]) (rest := []) ⟨hx, hb, hml, hown, hts⟩ (c_R_chk l dC dI n z hn0 hn1) (va_cwS 3 hts gJ15_checkIndex_7cf53_J3_checkIndex_8e157 rfl rfl rfl (by decide +kernel) ⟨Nat.le_of_ble_eq_true rfl, Nat.le_of_ble_eq_true rfl⟩) ⟨PS_blind, PS_pre hP hK hF⟩ rfl rfl hl.1 rfl (lv_room (Nat.le_of_ble_eq_true rfl)) dJ15_checkIndex_7cf53_3 ⟨Nat.le_of_ble_eq_true rfl, Nat.le_of_ble_eq_true rfl⟩)) (fun r_1 hr_1 => ?_)
  replace hr_1 := Eq.symm hr_1
  subst hr_1
  exact W.iret (v := n) hx hb hr (fun t ht hW => ⟨_, rfl, rfl, ht⟩) (fun _ h9 => absurd h9 List.not_mem_nil) dJ15_checkIndex_7cf53_6

set_option maxHeartbeats 4000000 in
set_option maxRecDepth 100000 in
theorem c_R_elem (l : Launch) (dC : Nat → ClassId) (dI : Nat → Nat → Nat) (li : Nat) (q1 : Int32) (g1 : Nat) (z : Int32) (kO : ClassId) (fa : Nat → Option Nat) (n : Int32) (q : Nat) (hnb : vp_in n 10) (hfq : fa n.toNatClampNeg = some q) : Met l yJx4a65c_elementData_915e3 wsJx4a65c_elementData_915e3 ({ frames := 0, cells := 0, slots := 0, locals := 0 }) (va_Pc [.ref li, .int n] (PS dC dI [(li, .inr (4, [.int q1, .ref g1, .int z])), (g1, .inl (kO, 10, .inr (.inr (.inr (.inr fa)))))] [(kO, .object "java/lang/Object")])) (va_Sq (fun r => r = some q)) 0 0 (fun _ => False) := by
  refine Met.ofW (cc := cJx4a65c_elementData_915e3) (maxL := 2) (ret := (some (.object "java/lang/Object"))) (by decide) rfl ?_
  intro p e s m args below meth c s₁ B hml hv
  obtain ⟨rfl, hP, hK, hF⟩ := hv
  have hx := B.exec
  have hb := B.bytes
  have hr := B.returns
  have hts := atoms_spec (ws := wsJx4a65c_elementData_915e3) B.pre
  have hown : s.vm.findClass RJx4a65c = some m.cls := findClass_of_methodNamed B.named
  have hlocks := B.notSynchronized
  have hl := lv_entry ([.ref li, .int n]) (n := 2) (Nat.le_of_ble_eq_true rfl)
  rw [lg_entry_eq]
  generalize (lg_sl ([.ref li, .int n]) ++ List.replicate (2 - (lg_sl ([.ref li, .int n])).length) Slot.unset).toArray = ls at hl ⊢
  have hl : lv_has ls 2 [(0, .ref li), (1, .int n)] := hl
  refine lv_aload_n hx hb dJx4a65c_elementData_915e3_0 rfl (lv_at hl 0 rfl) ?_
  refine va_get (D := (dC, dI)) (ci := 4) (v := .ref g1) (C := RJx4a65c) (T := TJx4a65c) (N := 3) hx hb hts (fun _ h9 => List.mem_cons_of_mem _ (List.mem_append_right _ (h9))) hown hK hP 0 rfl rfl 1 (by decide) (hts (.fieldLink RJx4a65c 9 "java/util/ArrayList" "elementData" "[Ljava/lang/Object;") (List.mem_of_getElem? (i := 1) rfl)) (fun _ h9 => h9) rfl dJx4a65c_elementData_915e3_1 ?_
  refine lv_iload_n hx hb dJx4a65c_elementData_915e3_4 rfl (lv_at hl 1 rfl) ?_
  refine mn_ald hx hb hK hP 1 0 rfl rfl rfl hnb hfq dJx4a65c_elementData_915e3_5 ?_
  exact W.aret (v := .ref q) hx hb hr (Or.inl ⟨_, rfl⟩) (Or.inr ⟨_, rfl⟩) (fun t ht hW => ⟨some q, rfl, rfl, ht⟩) (fun _ h9 => absurd h9 List.not_mem_nil) dJx4a65c_elementData_915e3_6

set_option maxHeartbeats 4000000 in
set_option maxRecDepth 100000 in
theorem c_R_get (l : Launch) (dC : Nat → ClassId) (dI : Nat → Nat → Nat) (li : Nat) (q1 : Int32) (g1 : Nat) (z : Int32) (kO : ClassId) (fa : Nat → Option Nat) (n : Int32) (q : Nat) (hn0 : ¬ n < 0) (hn1 : n < z) (hnb : vp_in n 10) (hfq : fa n.toNatClampNeg = some q) : Met l yJx4a65c_get_915e3 wsJx4a65c_get_915e3 ({ frames := 2, cells := 0, slots := 0, locals := 43 }) (va_Pc [.ref li, .int n] (PS dC dI [(li, .inr (4, [.int q1, .ref g1, .int z])), (g1, .inl (kO, 10, .inr (.inr (.inr (.inr fa)))))] [(kO, .object "java/lang/Object")])) (va_Sq (fun r => r = some q)) 0 0 (fun _ => False) := by
  refine Met.ofW (cc := cJx4a65c_get_915e3) (maxL := 2) (ret := (some (.object "java/lang/Object"))) (by decide) rfl ?_
  intro p e s m args below meth c s₁ B hml hv
  obtain ⟨rfl, hP, hK, hF⟩ := hv
  have hx := B.exec
  have hb := B.bytes
  have hr := B.returns
  have hts := atoms_spec (ws := wsJx4a65c_get_915e3) B.pre
  have hown : s.vm.findClass RJx4a65c = some m.cls := findClass_of_methodNamed B.named
  have hlocks := B.notSynchronized
  have hl := lv_entry ([.ref li, .int n]) (n := 2) (Nat.le_of_ble_eq_true rfl)
  rw [lg_entry_eq]
  generalize (lg_sl ([.ref li, .int n]) ++ List.replicate (2 - (lg_sl ([.ref li, .int n])).length) Slot.unset).toArray = ls at hl ⊢
  have hl : lv_has ls 2 [(0, .ref li), (1, .int n)] := hl
  refine lv_iload_n hx hb dJx4a65c_get_915e3_0 rfl (lv_at hl 1 rfl) ?_
  refine lv_aload_n hx hb dJx4a65c_get_915e3_1 rfl (lv_at hl 0 rfl) ?_
  refine va_get (D := (dC, dI)) (ci := 4) (v := .int z) (C := RJx4a65c) (T := TJx4a65c) (N := 3) hx hb hts (fun _ h9 => List.mem_cons_of_mem _ (List.mem_append_right _ (h9))) hown hK hP 0 rfl rfl 2 (by decide) (hts (.fieldLink RJx4a65c 48 "java/util/ArrayList" "size" "I") (List.mem_of_getElem? (i := 1) rfl)) (fun _ h9 => h9) rfl dJx4a65c_get_915e3_2 ?_
  refine vp_callSi (va_Run.run (va_runS (As := [.int n, .int z]) (rest := []) ⟨hx, hb, hml, hown, hts⟩ (c_R_chk2 l dC dI n z hn0 hn1) (va_cwS 2 hts gJx4a65c_get_915e3_J15_checkIndex_7cf53 rfl rfl rfl (by decide +kernel) ⟨Nat.le_of_ble_eq_true rfl, Nat.le_of_ble_eq_true rfl⟩) ⟨PS_blind, PS_pre (hP.sub (ws' := []) [] rfl) (hK.sub (tys' := []) [] rfl) hF⟩ rfl rfl hl.1 rfl (lv_room (Nat.le_of_ble_eq_true rfl)) dJx4a65c_get_915e3_5 ⟨Nat.le_of_ble_eq_true rfl, Nat.le_of_ble_eq_true rfl⟩)) (fun r_1 hr_1 => ?_)
  replace hr_1 := Eq.symm hr_1
  subst hr_1
  refine lv_pop hx hb dJx4a65c_get_915e3_8 rfl ?_
  refine lv_aload_n hx hb dJx4a65c_get_915e3_9 rfl (lv_at hl 0 rfl) ?_
  refine lv_iload_n hx hb dJx4a65c_get_915e3_10 rfl (lv_at hl 1 rfl) ?_
  refine va_csq (va_Run.run (va_runV (As := [.int n]) (rest := []) ⟨hx, hb, hml, hown, hts⟩ (c_R_elem l dC dI li q1 g1 z kO fa n q hnb hfq) (cwV 1 hts gJx4a65c_get_915e3_Jx4a65c_elementData_915e3 rfl rfl rfl (by decide +kernel) ⟨Nat.le_of_ble_eq_true rfl, Nat.le_of_ble_eq_true rfl⟩) ⟨PS_blind, va_recv hK hP (ci := 4) (q0 := 0) rfl rfl, PS_pre hP hK hF⟩ rfl rfl hl.1 rfl (lv_room (Nat.le_of_ble_eq_true rfl)) dJx4a65c_get_915e3_11 ⟨Nat.le_of_ble_eq_true rfl, Nat.le_of_ble_eq_true rfl⟩)) (fun r_2 hr_2 => ?_)
  subst hr_2
  refine W.eq (g2 := F0 m 14 ls [.ref q]) rfl ?_
  exact W.aret (v := .ref q) hx hb hr (Or.inl ⟨_, rfl⟩) (Or.inr ⟨_, rfl⟩) (fun t ht hW => ⟨some q, rfl, rfl, ht⟩) (fun _ h9 => absurd h9 List.not_mem_nil) dJx4a65c_get_915e3_14

set_option maxHeartbeats 4000000 in
set_option maxRecDepth 100000 in
theorem c_R_joined (l : Launch) (dC : Nat → ClassId) (dI : Nat → Nat → Nat) (q : Nat) (sn : Nat) (rd : Nat) (k1 : ClassId) (k2 : ClassId) (k3 : ClassId) (FL : va_W) (set : Int32) (a : Int32) (b : Int32) (ja : Nat) (jb : Nat) (hsn : mn_s k3 8 (mn_s k2 4 (mn_1 k1 4)) FL sn) (hja : ja < 4) (hjb : jb < 4) (hea : a = nI ja) (heb : b = nI jb) : Met l yX9_joined wsX9_joined ({ frames := 0, cells := 0, slots := 0, locals := 0 }) (va_Pc [.ref q, .int set, .int a, .int b] (PS dC dI ([(q, .inr (11, [.int 0, .null, .int (-1), .int (-1), .int 0, .ref sn, .ref rd]))] ++ FL) [(k3, .array (.array .boolean)), (k2, .array .boolean), (k1, .boolean)])) (vp_Si (fun _ => True)) 0 0 (fun _ => False) := by
  refine Met.ofW (cc := cX9_joined) (maxL := 5) (ret := (some .boolean)) (by decide) rfl ?_
  intro p e s m args below meth c s₁ B hml hv
  obtain ⟨rfl, hP, hK, hF⟩ := hv
  have hx := B.exec
  have hb := B.bytes
  have hr := B.returns
  have hts := atoms_spec (ws := wsX9_joined) B.pre
  have hown : s.vm.findClass RX9 = some m.cls := findClass_of_methodNamed B.named
  have hlocks := B.notSynchronized
  have hl := lv_entry ([.ref q, .int set, .int a, .int b]) (n := 5) (Nat.le_of_ble_eq_true rfl)
  rw [lg_entry_eq]
  generalize (lg_sl ([.ref q, .int set, .int a, .int b]) ++ List.replicate (5 - (lg_sl ([.ref q, .int set, .int a, .int b])).length) Slot.unset).toArray = ls at hl ⊢
  have hl : lv_has ls 5 [(0, .ref q), (1, .int set), (2, .int a), (3, .int b)] := hl
  have hP0 := hP
  have hP : va_P (dC, dI) vwCl [(q, .inr (11, [.int 0, .null, .int (-1), .int (-1), .int 0, .ref sn, .ref rd]))] s.heap := P_mem hP0 (fun q h => List.mem_append_left _ h)
  refine lv_iconst (v := 0) hx hb dX9_joined_0 (by decide) ?_
  refine lv_istore (lv' := [(4, .int 0), (0, .ref q), (1, .int set), (2, .int a), (3, .int b)]) hx hb dX9_joined_1 hl (by decide) rfl (fun ls hl => ?_)
  obtain ⟨n_1, en_1⟩ : ∃ n_1 : Int32, n_1 = 0 := ⟨_, rfl⟩
  replace hl : lv_has ls 5 [(4, .int n_1), (0, .ref q), (1, .int set), (2, .int a), (3, .int b)] := by rw [en_1]; exact hl
  obtain ⟨i_1, hi_1, ei_1, es_1⟩ : ∃ i : Nat, i ≤ 8 ∧ n_1 = nI i ∧ i = 0 := ⟨0, by omega, en_1, rfl⟩
  obtain ⟨k_1, hk_1⟩ : ∃ k : Nat, 8 - i_1 < k := ⟨9, by omega⟩
  clear en_1 es_1
  induction k_1 generalizing n_1  i_1 ls with
  | zero => exact absurd hk_1 (by omega)
  | succ k_1 ih_1 =>
    refine lv_iload hx hb dX9_joined_3 (lv_at hl 0 rfl) ?_
    refine lv_bipush (v := 8) hx hb dX9_joined_5 (by decide) ?_
    refine lv_icmp_ge (tgt := 42) hx hb dX9_joined_7 (by decide) (fun c_2 => ?_) (fun c_2 => ?_)
    · skip
      refine lv_iconst (v := 0) hx hb dX9_joined_42 (by decide) ?_
      exact W.zret (v := 0) hx hb hr (by decide) (fun t ht hW => ⟨_, rfl, trivial, ht⟩) (fun _ h9 => absurd h9 List.not_mem_nil) dX9_joined_43
    · skip
      refine lv_iload_n hx hb dX9_joined_10 rfl (lv_at hl 2 rfl) ?_
      refine lv_iload hx hb dX9_joined_11 (lv_at hl 0 rfl) ?_
      refine lv_ishr hx hb dX9_joined_13 ?_
      refine lv_iconst (v := 1) hx hb dX9_joined_14 (by decide) ?_
      refine lv_iand hx hb dX9_joined_15 ?_
      refine lv_iconst (v := 1) hx hb dX9_joined_16 (by decide) ?_
      refine lv_icmp_ne (tgt := 36) hx hb dX9_joined_17 (by decide) (fun c_3 => ?_) (fun c_3 => ?_)
      · skip
        refine lv_iinc (v := n_1 + 1) (lv' := [(4, .int (n_1 + 1)), (0, .ref q), (1, .int set), (2, .int a), (3, .int b)]) hx hb dX9_joined_36 hl (k := 0) rfl rfl (by decide) rfl (fun ls hl => ?_)
        refine lv_goto (tgt := 3) hx hb dX9_joined_39 (by decide) ?_
        have hlt_1 := (i_lt hi_1 (by decide) ei_1 (show ¬ nI 8 ≤ n_1 from c_2))
        exact ih_1 (ls := ls) (n_1 := n_1 + 1) (i_1 := i_1 + 1) (hl := lv_sub hl [0, 1, 2, 3, 4] rfl) (hi_1 := hlt_1) (ei_1 := by rw [ei_1]; exact nI_1 i_1) (hk_1 := by omega)
      · skip
        have hj_1 := (i_lt hi_1 (by decide) ei_1 (show ¬ nI 8 ≤ n_1 from c_2))
        obtain ⟨f3, hm3, hf3⟩ := id hsn
        obtain ⟨m_j, em_j, f2, hm2, hf2⟩ := hf3 i_1 hj_1
        obtain ⟨b_j, eb_j, hm1⟩ := hf2 ja hja
        have hP : va_P (dC, dI) vwCl [(q, .inr (11, [.int 0, .null, .int (-1), .int (-1), .int 0, .ref sn, .ref rd])), (sn, .inl (k3, 8, .inr (.inr (.inr (.inr f3))))), (m_j, .inl (k2, 4, .inr (.inr (.inr (.inr f2))))), (b_j, .inl (k1, 4, .inl (fun _ => 0)))] s.heap := P_mem (ws' := [(q, .inr (11, [.int 0, .null, .int (-1), .int (-1), .int 0, .ref sn, .ref rd])), (sn, .inl (k3, 8, .inr (.inr (.inr (.inr f3))))), (m_j, .inl (k2, 4, .inr (.inr (.inr (.inr f2))))), (b_j, .inl (k1, 4, .inl (fun _ => 0)))]) hP0 (mem_app (X := [(q, .inr (11, [.int 0, .null, .int (-1), .int (-1), .int 0, .ref sn, .ref rd]))]) (mem_3 hm3 hm2 hm1))
        refine lv_aload_n hx hb dX9_joined_20 rfl (lv_at hl 1 rfl) ?_
        refine va_get (D := (dC, dI)) (ci := 11) (v := .ref sn) (C := RX6) (T := TX6) (N := 7) hx hb hts (fun _ h9 => List.mem_cons_of_mem _ (List.mem_append_right _ (h9))) hown hK hP 0 rfl rfl 5 (by decide) (hts (.fieldLink RX9 189 "ExamHallsModel$Candidate" "seen" "[[[Z") (List.mem_of_getElem? (i := 1) rfl)) (fun _ h9 => h9) rfl dX9_joined_21 ?_
        refine lv_iload hx hb dX9_joined_24 (lv_at hl 0 rfl) ?_
        refine mn_ald hx hb hK hP 1 0 rfl rfl rfl (by rw [ei_1]; exact vp_in_nI (by omega) (by decide)) (by rw [ei_1, nI_clamp (by omega)]; exact em_j) dX9_joined_26 ?_
        refine lv_iload_n hx hb dX9_joined_27 rfl (lv_at hl 3 rfl) ?_
        refine mn_ald hx hb hK hP 2 1 rfl rfl rfl (by rw [hea]; exact vp_in_nI hja (by decide)) (by rw [hea, nI_clamp (by omega)]; exact eb_j) dX9_joined_28 ?_
        refine lv_iload_n hx hb dX9_joined_29 rfl (lv_at hl 4 rfl) ?_
        refine va_zald hx hb hK hP 3 2 rfl rfl (by rw [heb]; exact vp_in_nI hjb (by decide)) dX9_joined_30 ?_
        refine lv_topi (fun f_4 ef_4 => ?_)
        obtain rfl : f_4 = 0 := ef_4
        refine lv_if_eq (tgt := 36) hx hb dX9_joined_31 (by decide) (fun _ => ?_) (fun c_5 => absurd (by decide) c_5)
        refine lv_iinc (v := n_1 + 1) (lv' := [(4, .int (n_1 + 1)), (0, .ref q), (1, .int set), (2, .int a), (3, .int b)]) hx hb dX9_joined_36 hl (k := 0) rfl rfl (by decide) rfl (fun ls hl => ?_)
        refine lv_goto (tgt := 3) hx hb dX9_joined_39 (by decide) ?_
        have hlt_1 := (i_lt hi_1 (by decide) ei_1 (show ¬ nI 8 ≤ n_1 from c_2))
        exact ih_1 (ls := ls) (n_1 := n_1 + 1) (i_1 := i_1 + 1) (hl := lv_sub hl [0, 1, 2, 3, 4] rfl) (hi_1 := hlt_1) (ei_1 := by rw [ei_1]; exact nI_1 i_1) (hk_1 := by omega)

set_option maxHeartbeats 4000000 in
set_option maxRecDepth 100000 in
theorem c_R_open (l : Launch) (dC : Nat → ClassId) (dI : Nat → Nat → Nat) (q : Nat) (sn : Nat) (rd : Nat) (k1 : ClassId) (k2 : ClassId) (k3 : ClassId) (FL : va_W) (set : Int32) (sz : Nat) (hsn : mn_s k3 8 (mn_s k2 4 (mn_1 k1 4)) FL sn) : Met l yX9_open wsX9_open ({ frames := 1, cells := 1, slots := 4, locals := 24 }) (va_Pc [.ref q, .int set] (PR dC dI sz ([(q, .inr (11, [.int 0, .null, .int (-1), .int (-1), .int 0, .ref sn, .ref rd]))] ++ FL) [(k3, .array (.array .boolean)), (k2, .array .boolean), (k1, .boolean)])) (va_Qi (fun _ (_ : Unit) => True) (fun _ t => sz + 1 ≤ t.heap.size) (rA sz)) 1 4 (rA sz) := by
  refine Met.ofW (cc := cX9_open) (maxL := 6) (ret := (some .boolean)) (by decide) rfl ?_
  intro p e s m args below meth c s₁ B hml hv
  obtain ⟨rfl, hsz, hP0, hK, hF⟩ := hv
  have hx := B.exec
  have hb := B.bytes
  have hr := B.returns
  have hts := atoms_spec (ws := wsX9_open) B.pre
  have hown : s.vm.findClass RX9 = some m.cls := findClass_of_methodNamed B.named
  have hlocks := B.notSynchronized
  subst hsz
  generalize hAe : rA s.heap.size = A
  have hA : ∀ q : Nat, s.heap.size ≤ q → A q := fun q h => by rw [← hAe]; exact h
  have hAs : ∀ q : Nat, A q → s.heap.size ≤ q := fun q h => by rw [← hAe] at h; exact h
  have hS : va_S A s.heap s.heap [] := va_S.rf
  have hl := lv_entry ([.ref q, .int set]) (n := 6) (Nat.le_of_ble_eq_true rfl)
  rw [lg_entry_eq]
  generalize (lg_sl ([.ref q, .int set]) ++ List.replicate (6 - (lg_sl ([.ref q, .int set])).length) Slot.unset).toArray = ls at hl ⊢
  have hl : lv_has ls 6 [(0, .ref q), (1, .int set)] := hl
  have hP : va_P (dC, dI) vwCl [] s.heap := mn_nil_world
  have hD : va_D A [] := mn_nil_apart
  refine lv_iconst (v := 4) hx hb dX9_open_0 (by decide) ?_
  refine va_newa (atype := .boolean) (ty := .boolean) (a0 := (4, (.inl (fun _ => 0)))) hx hb (hts (.arrayClass .boolean) (List.mem_of_getElem? (i := 1) rfl)) rfl hK hP hD hS hA (fun _ => rfl) (by decide) (by decide) (Nat.le_of_ble_eq_true rfl) (Nat.le_of_ble_eq_true rfl) (Nat.le_of_ble_eq_true rfl) dX9_open_1 (fun q_1 k_2 H hK hP hD hS => ?_)
  have hP : va_P (dC, dI) vwCl [(q_1, .inl (k_2, 4, .inl (fun _ => 0)))] H := hP
  have hD : va_D A [(q_1, .inl (k_2, 4, .inl (fun _ => 0)))] := hD
  have hK : va_K (dC, dI) vwCl [(k3, .array (.array .boolean)), (k2, .array .boolean), (k1, .boolean), (k_2, .boolean)] s := hK
  refine W.widen (k := 1) (n := 4) (Nat.le_of_ble_eq_true rfl) (Nat.le_of_ble_eq_true rfl) ?_
  refine lv_astore_n (lv' := [(2, .ref q_1), (0, .ref q), (1, .int set)]) hx hb dX9_open_3 rfl hl (by decide) rfl (fun ls hl => ?_)
  refine lv_aload_n hx hb dX9_open_4 rfl (lv_at hl 0 rfl) ?_
  refine lv_iconst (v := 0) hx hb dX9_open_5 (by decide) ?_
  refine lv_iconst (v := 1) hx hb dX9_open_6 (by decide) ?_
  refine va_zast hx hb hK hP hD hS 0 3 rfl rfl (by unfold vp_in; decide) dX9_open_7 (fun H locs hP hD hS => ?_)
  have hP : va_P (dC, dI) vwCl [(q_1, .inl (k_2, 4, .inl (upd (fun _ => 0) (0 : Int32).toNatClampNeg (vp_nar .boolean (1 : Int32)))))] H := hP
  have hD : va_D A [(q_1, .inl (k_2, 4, .inl (upd (fun _ => 0) (0 : Int32).toNatClampNeg (vp_nar .boolean (1 : Int32)))))] := hD
  have hcf : cf_ok (upd (fun _ => 0) (0 : Int32).toNatClampNeg (vp_nar .boolean (1 : Int32))) := cf_up cf_zero
  generalize (upd (fun _ => 0) (0 : Int32).toNatClampNeg (vp_nar .boolean (1 : Int32))) = a_3 at hP hD hcf
  refine lv_iconst (v := 0) hx hb dX9_open_8 (by decide) ?_
  refine lv_istore_n (lv' := [(3, .int 0), (2, .ref q_1), (0, .ref q), (1, .int set)]) hx hb dX9_open_9 rfl hl (by decide) rfl (fun ls hl => ?_)
  obtain ⟨n_4, en_u1⟩ : ∃ n_4 : Int32, n_4 = 0 := ⟨_, rfl⟩
  replace hl : lv_has ls 6 [(3, .int n_4), (2, .ref q_1), (0, .ref q), (1, .int set)] := by rw [en_u1]; exact hl
  obtain ⟨i_u1, hi_u1, ei_u1, es_u1⟩ : ∃ i : Nat, i ≤ 4 ∧ n_4 = nI i ∧ i = 0 := ⟨0, by omega, en_u1, rfl⟩
  refine W_gen (fun H locs eH eL => ?_)
  obtain ⟨a_tu1, ea⟩ : ∃ f : Nat → Int32, f = a_3 := ⟨_, rfl⟩
  replace hP : va_P (dC, dI) vwCl [(q_1, .inl (k_2, 4, .inl a_tu1))] H := by rw [eH, ea]; exact hP
  replace hD : va_D A [(q_1, .inl (k_2, 4, .inl a_tu1))] := by rw [ea]; exact hD
  replace hS : va_S A s.heap H locs := by rw [eH, eL]; exact hS
  replace hcf : cf_ok a_tu1 := by rw [ea]; exact hcf
  clear eH eL ea
  obtain ⟨k_u1, hk_u1⟩ : ∃ k : Nat, 4 - i_u1 < k := ⟨5, by omega⟩
  clear en_u1 es_u1
  induction k_u1 generalizing n_4  i_u1 ls H locs a_tu1 with
  | zero => exact absurd hk_u1 (by omega)
  | succ k_u1 ih_u1 =>
    refine lv_iload_n hx hb dX9_open_10 rfl (lv_at hl 0 rfl) ?_
    refine lv_iconst (v := 4) hx hb dX9_open_11 (by decide) ?_
    refine lv_icmp_ge (tgt := 75) hx hb dX9_open_12 (by decide) (fun c_5 => ?_) (fun c_5 => ?_)
    · skip
      refine lv_aload_n hx hb dX9_open_75 rfl (lv_at hl 1 rfl) ?_
      refine lv_iconst (v := 3) hx hb dX9_open_76 (by decide) ?_
      refine va_zald hx hb hK hP 0 3 rfl rfl (by unfold vp_in; decide) dX9_open_77 ?_
      have h8 : s.heap.size ≤ q_1 := hAs _ (hD.2 0 _ rfl)
      have h9 : q_1 < H.size := (hP 0 _ rfl).lt
      exact W.zret (v := a_tu1 (3 : Int32).toNatClampNeg) hx hb hr (cf_ret hcf) (fun t ht hW => ⟨⟨_, (), rfl, trivial, by show s.heap.size + 1 ≤ t.heap.size; rw [ht]; omega⟩, hS.F ht⟩) hS.2.2 dX9_open_78
    · skip
      refine lv_iconst (v := 0) hx hb dX9_open_15 (by decide) ?_
      refine lv_istore (lv' := [(4, .int 0), (3, .int n_4), (2, .ref q_1), (0, .ref q), (1, .int set)]) hx hb dX9_open_16 hl (by decide) rfl (fun ls hl => ?_)
      obtain ⟨n_6, en_u2⟩ : ∃ n_6 : Int32, n_6 = 0 := ⟨_, rfl⟩
      replace hl : lv_has ls 6 [(4, .int n_6), (3, .int n_4), (2, .ref q_1), (0, .ref q), (1, .int set)] := by rw [en_u2]; exact hl
      obtain ⟨i_u2, hi_u2, ei_u2, es_u2⟩ : ∃ i : Nat, i ≤ 4 ∧ n_6 = nI i ∧ i = 0 := ⟨0, by omega, en_u2, rfl⟩
      refine W_gen (fun H locs eH eL => ?_)
      obtain ⟨a_tu2, ea⟩ : ∃ f : Nat → Int32, f = a_tu1 := ⟨_, rfl⟩
      replace hP : va_P (dC, dI) vwCl [(q_1, .inl (k_2, 4, .inl a_tu2))] H := by rw [eH, ea]; exact hP
      replace hD : va_D A [(q_1, .inl (k_2, 4, .inl a_tu2))] := by rw [ea]; exact hD
      replace hS : va_S A s.heap H locs := by rw [eH, eL]; exact hS
      replace hcf : cf_ok a_tu2 := by rw [ea]; exact hcf
      clear eH eL ea
      obtain ⟨k_u2, hk_u2⟩ : ∃ k : Nat, 4 - i_u2 < k := ⟨5, by omega⟩
      clear en_u2 es_u2
      induction k_u2 generalizing n_6  i_u2 ls H locs a_tu2 with
      | zero => exact absurd hk_u2 (by omega)
      | succ k_u2 ih_u2 =>
        refine lv_iload hx hb dX9_open_18 (lv_at hl 0 rfl) ?_
        refine lv_iconst (v := 4) hx hb dX9_open_20 (by decide) ?_
        refine lv_icmp_ge (tgt := 69) hx hb dX9_open_21 (by decide) (fun c_7 => ?_) (fun c_7 => ?_)
        · skip
          refine lv_iinc (v := n_4 + 1) (lv' := [(3, .int (n_4 + 1)), (4, .int n_6), (2, .ref q_1), (0, .ref q), (1, .int set)]) hx hb dX9_open_69 hl (k := 1) rfl rfl (by decide) rfl (fun ls hl => ?_)
          refine lv_goto (tgt := 10) hx hb dX9_open_72 (by decide) ?_
          have hlt_u1 := (i_lt hi_u1 (by decide) ei_u1 (show ¬ nI 4 ≤ n_4 from c_5))
          exact ih_u1 (ls := ls) (n_4 := n_4 + 1) (i_u1 := i_u1 + 1) (hl := lv_sub hl [0, 2, 3, 4] rfl) (hi_u1 := hlt_u1) (ei_u1 := by rw [ei_u1]; exact nI_1 i_u1) (hk_u1 := by omega) (H := H) (locs := locs) (a_tu1 := a_tu2) (hP := hP) (hD := hD) (hS := hS) (hcf := hcf)
        · skip
          refine lv_iconst (v := 0) hx hb dX9_open_24 (by decide) ?_
          refine lv_istore (lv' := [(5, .int 0), (4, .int n_6), (3, .int n_4), (2, .ref q_1), (0, .ref q), (1, .int set)]) hx hb dX9_open_25 hl (by decide) rfl (fun ls hl => ?_)
          obtain ⟨n_8, en_u3⟩ : ∃ n_8 : Int32, n_8 = 0 := ⟨_, rfl⟩
          replace hl : lv_has ls 6 [(5, .int n_8), (4, .int n_6), (3, .int n_4), (2, .ref q_1), (0, .ref q), (1, .int set)] := by rw [en_u3]; exact hl
          obtain ⟨i_u3, hi_u3, ei_u3, es_u3⟩ : ∃ i : Nat, i ≤ 4 ∧ n_8 = nI i ∧ i = 0 := ⟨0, by omega, en_u3, rfl⟩
          refine W_gen (fun H locs eH eL => ?_)
          obtain ⟨a_tu3, ea⟩ : ∃ f : Nat → Int32, f = a_tu2 := ⟨_, rfl⟩
          replace hP : va_P (dC, dI) vwCl [(q_1, .inl (k_2, 4, .inl a_tu3))] H := by rw [eH, ea]; exact hP
          replace hD : va_D A [(q_1, .inl (k_2, 4, .inl a_tu3))] := by rw [ea]; exact hD
          replace hS : va_S A s.heap H locs := by rw [eH, eL]; exact hS
          replace hcf : cf_ok a_tu3 := by rw [ea]; exact hcf
          clear eH eL ea
          obtain ⟨k_u3, hk_u3⟩ : ∃ k : Nat, 4 - i_u3 < k := ⟨5, by omega⟩
          clear en_u3 es_u3
          induction k_u3 generalizing n_8  i_u3 ls H locs a_tu3 with
          | zero => exact absurd hk_u3 (by omega)
          | succ k_u3 ih_u3 =>
            refine lv_iload hx hb dX9_open_27 (lv_at hl 0 rfl) ?_
            refine lv_iconst (v := 4) hx hb dX9_open_29 (by decide) ?_
            refine lv_icmp_ge (tgt := 63) hx hb dX9_open_30 (by decide) (fun c_9 => ?_) (fun c_9 => ?_)
            · skip
              refine lv_iinc (v := n_6 + 1) (lv' := [(4, .int (n_6 + 1)), (5, .int n_8), (3, .int n_4), (2, .ref q_1), (0, .ref q), (1, .int set)]) hx hb dX9_open_63 hl (k := 1) rfl rfl (by decide) rfl (fun ls hl => ?_)
              refine lv_goto (tgt := 18) hx hb dX9_open_66 (by decide) ?_
              have hlt_u2 := (i_lt hi_u2 (by decide) ei_u2 (show ¬ nI 4 ≤ n_6 from c_7))
              exact ih_u2 (ls := ls) (n_6 := n_6 + 1) (i_u2 := i_u2 + 1) (hl := lv_sub hl [0, 2, 3, 4, 5] rfl) (hi_u2 := hlt_u2) (ei_u2 := by rw [ei_u2]; exact nI_1 i_u2) (hk_u2 := by omega) (H := H) (locs := locs) (a_tu2 := a_tu3) (hP := hP) (hD := hD) (hS := hS) (hcf := hcf)
            · skip
              refine lv_aload_n hx hb dX9_open_33 rfl (lv_at hl 3 rfl) ?_
              refine lv_iload hx hb dX9_open_34 (lv_at hl 1 rfl) ?_
              refine va_zald hx hb hK hP 0 3 rfl rfl (by rw [ei_u2]; exact vp_in_nI (Nat.lt_of_lt_of_le (i_lt hi_u2 (by decide) ei_u2 (show ¬ nI 4 ≤ n_6 from c_7)) (by decide : 4 ≤ 4)) (by decide)) dX9_open_36 ?_
              refine lv_if_eq (tgt := 57) hx hb dX9_open_37 (by decide) (fun c_10 => ?_) (fun c_10 => ?_)
              · skip
                refine lv_iinc (v := n_8 + 1) (lv' := [(5, .int (n_8 + 1)), (4, .int n_6), (3, .int n_4), (2, .ref q_1), (0, .ref q), (1, .int set)]) hx hb dX9_open_57 hl (k := 0) rfl rfl (by decide) rfl (fun ls hl => ?_)
                refine lv_goto (tgt := 27) hx hb dX9_open_60 (by decide) ?_
                have hlt_u3 := (i_lt hi_u3 (by decide) ei_u3 (show ¬ nI 4 ≤ n_8 from c_9))
                exact ih_u3 (ls := ls) (n_8 := n_8 + 1) (i_u3 := i_u3 + 1) (hl := lv_sub hl [0, 1, 2, 3, 4, 5] rfl) (hi_u3 := hlt_u3) (ei_u3 := by rw [ei_u3]; exact nI_1 i_u3) (hk_u3 := by omega) (H := H) (locs := locs) (a_tu3 := a_tu3) (hP := hP) (hD := hD) (hS := hS) (hcf := hcf)
              · skip
                refine lv_aload_n hx hb dX9_open_40 rfl (lv_at hl 4 rfl) ?_
                refine lv_iload_n hx hb dX9_open_41 rfl (lv_at hl 5 rfl) ?_
                refine lv_iload hx hb dX9_open_42 (lv_at hl 1 rfl) ?_
                refine lv_iload hx hb dX9_open_44 (lv_at hl 0 rfl) ?_
                have hja_u2 := (i_lt hi_u2 (by decide) ei_u2 (show ¬ nI 4 ≤ n_6 from c_7))
                have hjb_u3 := (i_lt hi_u3 (by decide) ei_u3 (show ¬ nI 4 ≤ n_8 from c_9))
                have hPj := P_at hP0 hS hAs
                refine vp_callSi (va_Run.run (va_runS (As := [.ref q, .int set, .int n_6, .int n_8]) (rest := []) ⟨hx, hb, hml, hown, hts⟩ (c_R_joined l dC dI q sn rd k1 k2 k3 FL set n_6 n_8 i_u2 i_u3 hsn hja_u2 hjb_u3 ei_u2 ei_u3) (va_cwS 4 hts gX9_open_X9_joined rfl rfl rfl (by decide +kernel) ⟨Nat.le_of_ble_eq_true rfl, Nat.le_of_ble_eq_true rfl⟩) ⟨PS_blind, PS_pre hPj (hK.sub (tys' := [(k3, .array (.array .boolean)), (k2, .array .boolean), (k1, .boolean)]) [0, 1, 2] rfl) hF⟩ rfl rfl hl.1 rfl (lv_room (Nat.le_of_ble_eq_true rfl)) dX9_open_46 ⟨Nat.le_of_ble_eq_true rfl, Nat.le_of_ble_eq_true rfl⟩)) (fun r_11 hr_11 => ?_)
                refine lv_if_eq (tgt := 57) hx hb dX9_open_49 (by decide) (fun c_12 => ?_) (fun c_12 => ?_)
                · skip
                  refine lv_iinc (v := n_8 + 1) (lv' := [(5, .int (n_8 + 1)), (4, .int n_6), (3, .int n_4), (2, .ref q_1), (0, .ref q), (1, .int set)]) hx hb dX9_open_57 hl (k := 0) rfl rfl (by decide) rfl (fun ls hl => ?_)
                  refine lv_goto (tgt := 27) hx hb dX9_open_60 (by decide) ?_
                  have hlt_u3 := (i_lt hi_u3 (by decide) ei_u3 (show ¬ nI 4 ≤ n_8 from c_9))
                  exact ih_u3 (ls := ls) (n_8 := n_8 + 1) (i_u3 := i_u3 + 1) (hl := lv_sub hl [0, 1, 2, 3, 4, 5] rfl) (hi_u3 := hlt_u3) (ei_u3 := by rw [ei_u3]; exact nI_1 i_u3) (hk_u3 := by omega) (H := H) (locs := locs) (a_tu3 := a_tu3) (hP := hP) (hD := hD) (hS := hS) (hcf := hcf)
                · skip
                  refine lv_aload_n hx hb dX9_open_52 rfl (lv_at hl 3 rfl) ?_
                  refine lv_iload hx hb dX9_open_53 (lv_at hl 0 rfl) ?_
                  refine lv_iconst (v := 1) hx hb dX9_open_55 (by decide) ?_
                  refine va_zast hx hb hK hP hD hS 0 3 rfl rfl (by rw [ei_u3]; exact vp_in_nI (Nat.lt_of_lt_of_le (i_lt hi_u3 (by decide) ei_u3 (show ¬ nI 4 ≤ n_8 from c_9)) (by decide : 4 ≤ 4)) (by decide)) dX9_open_56 (fun H locs hP hD hS => ?_)
                  have hP : va_P (dC, dI) vwCl [(q_1, .inl (k_2, 4, .inl (upd a_tu3 (n_8 : Int32).toNatClampNeg (vp_nar .boolean (1 : Int32)))))] H := hP
                  have hD : va_D A [(q_1, .inl (k_2, 4, .inl (upd a_tu3 (n_8 : Int32).toNatClampNeg (vp_nar .boolean (1 : Int32)))))] := hD
                  have hcf : cf_ok (upd a_tu3 (n_8 : Int32).toNatClampNeg (vp_nar .boolean (1 : Int32))) := cf_up hcf
                  generalize (upd a_tu3 (n_8 : Int32).toNatClampNeg (vp_nar .boolean (1 : Int32))) = a_13 at hP hD hcf
                  refine lv_iinc (v := n_8 + 1) (lv' := [(5, .int (n_8 + 1)), (4, .int n_6), (3, .int n_4), (2, .ref q_1), (0, .ref q), (1, .int set)]) hx hb dX9_open_57 hl (k := 0) rfl rfl (by decide) rfl (fun ls hl => ?_)
                  refine lv_goto (tgt := 27) hx hb dX9_open_60 (by decide) ?_
                  have hlt_u3 := (i_lt hi_u3 (by decide) ei_u3 (show ¬ nI 4 ≤ n_8 from c_9))
                  exact ih_u3 (ls := ls) (n_8 := n_8 + 1) (i_u3 := i_u3 + 1) (hl := lv_sub hl [0, 1, 2, 3, 4, 5] rfl) (hi_u3 := hlt_u3) (ei_u3 := by rw [ei_u3]; exact nI_1 i_u3) (hk_u3 := by omega) (H := H) (locs := locs) (a_tu3 := a_13) (hP := hP) (hD := hD) (hS := hS) (hcf := hcf)

set_option maxHeartbeats 4000000 in
set_option maxRecDepth 100000 in
theorem c_R_Mopened (l : Launch) (dC : Nat → ClassId) (dI : Nat → Nat → Nat) (mx : Nat) (lc : Nat) (lr : Nat) (kn : Nat) (lt : Nat) (ml : Nat) (mm : Nat) (lp : Nat) (lb : Nat) (mq : Nat) (hm : Int32) (ed : Nat) (kO : ClassId) (fa : Nat → Option Nat) (k1 : ClassId) (k2 : ClassId) (k3 : ClassId) (FL : va_W) (set : Int32) (sz : Nat) (hM : MI k1 k2 k3 7 fa FL) : Met l yX9_openedBy wsX9_openedBy ({ frames := 3, cells := 7, slots := 28, locals := 64 }) (va_Pc [.ref mx, .int set] (PR dC dI sz ([(mx, .inr (14, [.ref lc, .ref lr, .ref kn, .ref lt, .ref ml, .ref mm, .ref lp, .ref lb, .ref mq, .int 1, .int 10, .int 0, .int 0])), (lc, .inr (4, [.int hm, .ref ed, .int 7])), (ed, .inl (kO, 10, .inr (.inr (.inr (.inr fa)))))] ++ FL) [(kO, .object "java/lang/Object"), (k3, .array (.array .boolean)), (k2, .array .boolean), (k1, .boolean)])) (va_Qi (fun _ (_ : Unit) => True) (fun _ t => sz + 7 ≤ t.heap.size) (rA sz)) 7 28 (rA sz) := by
  refine Met.ofW (cc := cX9_openedBy) (maxL := 4) (ret := (some .int)) (by decide) rfl ?_
  intro p e s m args below meth c s₁ B hml hv
  obtain ⟨rfl, hsz, hP0, hK, hF⟩ := hv
  have hx := B.exec
  have hb := B.bytes
  have hr := B.returns
  have hts := atoms_spec (ws := wsX9_openedBy) B.pre
  have hown : s.vm.findClass RX9 = some m.cls := findClass_of_methodNamed B.named
  have hlocks := B.notSynchronized
  subst hsz
  generalize hAe : rA s.heap.size = A
  have hA : ∀ q : Nat, s.heap.size ≤ q → A q := fun q h => by rw [← hAe]; exact h
  have hAs : ∀ q : Nat, A q → s.heap.size ≤ q := fun q h => by rw [← hAe] at h; exact h
  have hS : va_S A s.heap s.heap [] := va_S.rf
  have hl := lv_entry ([.ref mx, .int set]) (n := 4) (Nat.le_of_ble_eq_true rfl)
  rw [lg_entry_eq]
  generalize (lg_sl ([.ref mx, .int set]) ++ List.replicate (4 - (lg_sl ([.ref mx, .int set])).length) Slot.unset).toArray = ls at hl ⊢
  have hl : lv_has ls 4 [(0, .ref mx), (1, .int set)] := hl
  have hP : va_P (dC, dI) vwCl [(mx, .inr (14, [.ref lc, .ref lr, .ref kn, .ref lt, .ref ml, .ref mm, .ref lp, .ref lb, .ref mq, .int 1, .int 10, .int 0, .int 0])), (lc, .inr (4, [.int hm, .ref ed, .int 7])), (ed, .inl (kO, 10, .inr (.inr (.inr (.inr fa)))))] s.heap := P_mem hP0 (fun q h => List.mem_append_left _ h)
  refine lv_iconst (v := 0) hx hb dX9_openedBy_0 (by decide) ?_
  refine lv_istore_n (lv' := [(2, .int 0), (0, .ref mx), (1, .int set)]) hx hb dX9_openedBy_1 rfl hl (by decide) rfl (fun ls hl => ?_)
  refine lv_iconst (v := 0) hx hb dX9_openedBy_2 (by decide) ?_
  refine lv_istore_n (lv' := [(3, .int 0), (2, .int 0), (0, .ref mx), (1, .int set)]) hx hb dX9_openedBy_3 rfl hl (by decide) rfl (fun ls hl => ?_)
  obtain ⟨n_1, en_1⟩ : ∃ n_1 : Int32, n_1 = 0 := ⟨_, rfl⟩
  obtain ⟨v_2, ev_v_2⟩ : ∃ v_2 : Int32, v_2 = 0 := ⟨_, rfl⟩
  replace hl : lv_has ls 4 [(3, .int n_1), (2, .int v_2), (0, .ref mx), (1, .int set)] := by rw [en_1, ev_v_2]; exact hl
  obtain ⟨i_1, hi_1, ei_1, es_1⟩ : ∃ i : Nat, i ≤ 7 ∧ n_1 = nI i ∧ i = 0 := ⟨0, by omega, en_1, rfl⟩
  refine W_gen (fun H locs eH eL => ?_)
  replace hS : va_S A s.heap H locs := by rw [eH, eL]; exact hS
  have hg : s.heap.size + 1 * i_1 ≤ H.size + 0 := by rw [eH]; omega
  clear eH eL
  refine W.widen (k := 1 * i_1) (n := 4 * i_1) (by omega) (by omega) ?_
  obtain ⟨k_1, hk_1⟩ : ∃ k : Nat, 7 - i_1 < k := ⟨8, by omega⟩
  clear en_1 ev_v_2 es_1
  induction k_1 generalizing n_1 v_2 i_1 ls H locs with
  | zero => exact absurd hk_1 (by omega)
  | succ k_1 ih_1 =>
    have hP : va_P (dC, dI) vwCl [(mx, .inr (14, [.ref lc, .ref lr, .ref kn, .ref lt, .ref ml, .ref mm, .ref lp, .ref lb, .ref mq, .int 1, .int 10, .int 0, .int 0])), (lc, .inr (4, [.int hm, .ref ed, .int 7])), (ed, .inl (kO, 10, .inr (.inr (.inr (.inr fa)))))] H := P_mem (P_at hP0 hS hAs) (fun q h => List.mem_append_left _ h)
    refine lv_iload_n hx hb dX9_openedBy_4 rfl (lv_at hl 0 rfl) ?_
    refine lv_aload_n hx hb dX9_openedBy_5 rfl (lv_at hl 2 rfl) ?_
    refine va_get (D := (dC, dI)) (ci := 14) (v := .ref lc) (C := RX9) (T := TX9) (N := 13) hx hb hts (fun _ h9 => List.mem_cons_of_mem _ (List.mem_append_left _ (List.mem_append_left _ (List.mem_append_left _ (List.mem_append_right _ (h9)))))) hown hK hP 0 rfl rfl 0 (by decide) (hts (.fieldLink RX9 10 "ExamHallsModel" "candidates" "Ljava/util/List;") (List.mem_of_getElem? (i := 1) rfl)) (fun _ h9 => h9) rfl dX9_openedBy_6 ?_
    refine va_csFi (va_runF (hK.1 4 _ rfl).2 (As := []) (rest := [.int n_1]) ⟨hx, hb, hml, hown, hts⟩ (c_AL_size l dC dI lc hm ed 7) (va_cwF 0 hts gX9_openedBy_Jx4a65c_size_8abf5_f56Jx4a65c rfl rfl rfl (Ft.fw hF (RJx4a65c, ⟨"java/util/List", "size", "()I"⟩, yJx4a65c_size_8abf5) (by decide +kernel)) (by decide +kernel) ⟨Nat.le_of_ble_eq_true rfl, Nat.le_of_ble_eq_true rfl⟩) ⟨PS_blind, va_recv hK hP (ci := 4) (q0 := 1) rfl rfl, PS_pre (hP.sub (ws' := [(lc, .inr (4, [.int hm, .ref ed, .int 7]))]) [1] rfl) (hK.sub (tys' := []) [] rfl) hF⟩ rfl rfl hl.1 rfl (lv_room (Nat.le_of_ble_eq_true rfl)) dX9_openedBy_9 ⟨by show _ ≤ 7; omega, by show _ ≤ 28; omega⟩) (fun r_3 hr_3 => ?_)
    subst hr_3
    refine lv_icmp_ge (tgt := 46) hx hb dX9_openedBy_14 (by decide) (fun c_4 => ?_) (fun c_4 => ?_)
    · skip
      refine lv_iload_n hx hb dX9_openedBy_46 rfl (lv_at hl 1 rfl) ?_
      refine W.widen (k := 7) (n := 28) (by omega) (by omega) ?_
      have hge : 7 ≤ i_1 := by have h9 := c_4; rw [ei_1] at h9; exact (nI_leI (by decide) (by omega)).mp (show nI 7 ≤ nI i_1 from h9)
      exact W.iret (v := v_2) hx hb hr (fun t ht hW => ⟨⟨_, (), rfl, trivial, by show s.heap.size + 7 ≤ t.heap.size; rw [ht]; omega⟩, hS.F ht⟩) hS.2.2 dX9_openedBy_47
    · skip
      have hj_1 := (i_lt hi_1 (by decide) ei_1 (show ¬ nI 7 ≤ n_1 from c_4))
      obtain ⟨q_j, sn_j, rd_j, hf_j, hm1_j, hsn_j⟩ := hM i_1 hj_1
      have hP : va_P (dC, dI) vwCl [(mx, .inr (14, [.ref lc, .ref lr, .ref kn, .ref lt, .ref ml, .ref mm, .ref lp, .ref lb, .ref mq, .int 1, .int 10, .int 0, .int 0])), (lc, .inr (4, [.int hm, .ref ed, .int 7])), (ed, .inl (kO, 10, .inr (.inr (.inr (.inr fa))))), (q_j, .inr (11, [.int 0, .null, .int (-1), .int (-1), .int 0, .ref sn_j, .ref rd_j]))] H := P_mem (ws' := [(mx, .inr (14, [.ref lc, .ref lr, .ref kn, .ref lt, .ref ml, .ref mm, .ref lp, .ref lb, .ref mq, .int 1, .int 10, .int 0, .int 0])), (lc, .inr (4, [.int hm, .ref ed, .int 7])), (ed, .inl (kO, 10, .inr (.inr (.inr (.inr fa))))), (q_j, .inr (11, [.int 0, .null, .int (-1), .int (-1), .int 0, .ref sn_j, .ref rd_j]))]) (P_at hP0 hS hAs) (mem_app (X := [(mx, .inr (14, [.ref lc, .ref lr, .ref kn, .ref lt, .ref ml, .ref mm, .ref lp, .ref lb, .ref mq, .int 1, .int 10, .int 0, .int 0])), (lc, .inr (4, [.int hm, .ref ed, .int 7])), (ed, .inl (kO, 10, .inr (.inr (.inr (.inr fa)))))]) (mem_1 hm1_j))
      refine lv_aload_n hx hb dX9_openedBy_17 rfl (lv_at hl 2 rfl) ?_
      refine va_get (D := (dC, dI)) (ci := 14) (v := .ref lc) (C := RX9) (T := TX9) (N := 13) hx hb hts (fun _ h9 => List.mem_cons_of_mem _ (List.mem_append_left _ (List.mem_append_left _ (List.mem_append_left _ (List.mem_append_right _ (h9)))))) hown hK hP 0 rfl rfl 0 (by decide) (hts (.fieldLink RX9 10 "ExamHallsModel" "candidates" "Ljava/util/List;") (List.mem_of_getElem? (i := 1) rfl)) (fun _ h9 => h9) rfl dX9_openedBy_18 ?_
      refine lv_iload_n hx hb dX9_openedBy_21 rfl (lv_at hl 0 rfl) ?_
      refine va_csFq (va_runF (hK.1 4 _ rfl).2 (As := [.int n_1]) (rest := []) ⟨hx, hb, hml, hown, hts⟩ (c_R_get l dC dI lc hm ed 7 kO fa n_1 q_j (by rw [ei_1]; exact nI_pos (by omega)) (by rw [ei_1]; exact (show nI i_1 < nI 7 from nI_lt hj_1 (by decide))) (by rw [ei_1]; exact vp_in_nI (by omega) (by decide)) (by rw [ei_1, nI_clamp (by omega)]; exact hf_j)) (va_cwF 1 hts gX9_openedBy_Jx4a65c_get_915e3_f84Jx4a65c rfl rfl rfl (Ft.fw hF (RJx4a65c, ⟨"java/util/List", "get", "(I)Ljava/lang/Object;"⟩, yJx4a65c_get_915e3) (by decide +kernel)) (by decide +kernel) ⟨Nat.le_of_ble_eq_true rfl, Nat.le_of_ble_eq_true rfl⟩) ⟨PS_blind, va_recv hK hP (ci := 4) (q0 := 1) rfl rfl, PS_pre (hP.sub (ws' := [(lc, .inr (4, [.int hm, .ref ed, .int 7])), (ed, .inl (kO, 10, .inr (.inr (.inr (.inr fa)))))]) [1, 2] rfl) (hK.sub (tys' := [(kO, .object "java/lang/Object")]) [0] rfl) hF⟩ rfl rfl hl.1 rfl (lv_room (Nat.le_of_ble_eq_true rfl)) dX9_openedBy_22 ⟨by show _ ≤ 7; omega, by show _ ≤ 28; omega⟩) (fun r_5 hr_5 => ?_)
      subst hr_5
      refine W.eq (g2 := F0 m 27 ls [.ref q_j]) rfl ?_
      refine va_castS hx hb hown (hts (.classLink RX9 66 "ExamHallsModel$Candidate") (List.mem_of_getElem? (i := 2) rfl)) (hK.1 11 _ rfl).2 (va_recv hK hP (ci := 11) (q0 := 3) rfl rfl) dX9_openedBy_27 ?_
      refine lv_iload_n hx hb dX9_openedBy_30 rfl (lv_at hl 3 rfl) ?_
      have hjr_1 := (i_lt hi_1 (by decide) ei_1 (show ¬ nI 7 ≤ n_1 from c_4))
      refine va_calli (va_runS (As := [.ref q_j, .int set]) (rest := []) ⟨hx, hb, hml, hown, hts⟩ (c_R_open l dC dI q_j sn_j rd_j k1 k2 k3 FL set H.size hsn_j) (va_cwS 2 hts gX9_openedBy_X9_open rfl rfl rfl (by decide +kernel) ⟨Nat.le_of_ble_eq_true rfl, Nat.le_of_ble_eq_true rfl⟩) ⟨PR_blind, PR_pre (P_mem (ws' := [(q_j, .inr (11, [.int 0, .null, .int (-1), .int (-1), .int 0, .ref sn_j, .ref rd_j]))] ++ FL) (P_at hP0 hS hAs) (mem_pool (X := [(mx, .inr (14, [.ref lc, .ref lr, .ref kn, .ref lt, .ref ml, .ref mm, .ref lp, .ref lb, .ref mq, .int 1, .int 10, .int 0, .int 0])), (lc, .inr (4, [.int hm, .ref ed, .int 7])), (ed, .inl (kO, 10, .inr (.inr (.inr (.inr fa)))))]) hm1_j)) (hK.sub (tys' := [(k3, .array (.array .boolean)), (k2, .array .boolean), (k1, .boolean)]) [1, 2, 3] rfl) hF⟩ rfl rfl hl.1 rfl (lv_room (Nat.le_of_ble_eq_true rfl)) dX9_openedBy_31 ⟨(by show 1 * i_1 + 1 ≤ 7; omega), (by show 4 * i_1 + 4 ≤ 28; omega)⟩) hS rA_no (rA_h hS hA) (fun r_6 u t H1 locs ht hvm hw hB hz1 hk1 hS => ?_)
      rw [ht] at hB
      have hg := (show s.heap.size + 1 * (i_1 + 1) ≤ H1.size + 0 by omega)
      generalize H1 = H at hB hS hg ⊢
      refine W.widen (k := 1 * (i_1 + 1)) (n := 4 * (i_1 + 1)) (by omega) (by omega) ?_
      have hP : va_P (dC, dI) vwCl [(mx, .inr (14, [.ref lc, .ref lr, .ref kn, .ref lt, .ref ml, .ref mm, .ref lp, .ref lb, .ref mq, .int 1, .int 10, .int 0, .int 0])), (lc, .inr (4, [.int hm, .ref ed, .int 7])), (ed, .inl (kO, 10, .inr (.inr (.inr (.inr fa)))))] H := P_mem (P_at hP0 hS hAs) (fun q h => List.mem_append_left _ h)
      refine lv_if_eq (tgt := 40) hx hb dX9_openedBy_34 (by decide) (fun c_7 => ?_) (fun c_7 => ?_)
      · skip
        refine lv_iinc (v := n_1 + 1) (lv' := [(3, .int (n_1 + 1)), (2, .int v_2), (0, .ref mx), (1, .int set)]) hx hb dX9_openedBy_40 hl (k := 0) rfl rfl (by decide) rfl (fun ls hl => ?_)
        refine lv_goto (tgt := 4) hx hb dX9_openedBy_43 (by decide) ?_
        have hlt_1 := (i_lt hi_1 (by decide) ei_1 (show ¬ nI 7 ≤ n_1 from c_4))
        exact ih_1 (ls := ls) (v_2 := v_2) (n_1 := n_1 + 1) (i_1 := i_1 + 1) (hl := lv_sub hl [0, 1, 2, 3] rfl) (hi_1 := hlt_1) (ei_1 := by rw [ei_1]; exact nI_1 i_1) (hk_1 := by omega) (H := H) (locs := locs) (hS := hS) (hg := hg)
      · skip
        refine lv_iinc (v := v_2 + 1) (lv' := [(2, .int (v_2 + 1)), (3, .int n_1), (0, .ref mx), (1, .int set)]) hx hb dX9_openedBy_37 hl (k := 1) rfl rfl (by decide) rfl (fun ls hl => ?_)
        refine lv_iinc (v := n_1 + 1) (lv' := [(3, .int (n_1 + 1)), (2, .int (v_2 + 1)), (0, .ref mx), (1, .int set)]) hx hb dX9_openedBy_40 hl (k := 1) rfl rfl (by decide) rfl (fun ls hl => ?_)
        refine lv_goto (tgt := 4) hx hb dX9_openedBy_43 (by decide) ?_
        have hlt_1 := (i_lt hi_1 (by decide) ei_1 (show ¬ nI 7 ≤ n_1 from c_4))
        exact ih_1 (ls := ls) (v_2 := v_2 + 1) (n_1 := n_1 + 1) (i_1 := i_1 + 1) (hl := lv_sub hl [0, 1, 2, 3] rfl) (hi_1 := hlt_1) (ei_1 := by rw [ei_1]; exact nI_1 i_1) (hk_1 := by omega) (H := H) (locs := locs) (hS := hS) (hg := hg)

set_option maxHeartbeats 4000000 in
set_option maxRecDepth 100000 in
theorem c_R_Mfewest (l : Launch) (dC : Nat → ClassId) (dI : Nat → Nat → Nat) (mx : Nat) (lc : Nat) (lr : Nat) (kn : Nat) (lt : Nat) (ml : Nat) (mm : Nat) (lp : Nat) (lb : Nat) (mq : Nat) (hm : Int32) (ed : Nat) (kO : ClassId) (fa : Nat → Option Nat) (k1 : ClassId) (k2 : ClassId) (k3 : ClassId) (FL : va_W) (sz : Nat) (hM : MI k1 k2 k3 7 fa FL) : Met l yX9_fewest wsX9_fewest ({ frames := 4, cells := 1792, slots := 7168, locals := 87 }) (va_Pc [.ref mx] (PR dC dI sz ([(mx, .inr (14, [.ref lc, .ref lr, .ref kn, .ref lt, .ref ml, .ref mm, .ref lp, .ref lb, .ref mq, .int 1, .int 10, .int 0, .int 0])), (lc, .inr (4, [.int hm, .ref ed, .int 7])), (ed, .inl (kO, 10, .inr (.inr (.inr (.inr fa)))))] ++ FL) [(kO, .object "java/lang/Object"), (k3, .array (.array .boolean)), (k2, .array .boolean), (k1, .boolean)])) (va_Qi (fun _ (_ : Unit) => True) (fun _ t => sz + 1785 ≤ t.heap.size) (rA sz)) 1792 7168 (rA sz) := by
  refine Met.ofW (cc := cX9_fewest) (maxL := 3) (ret := (some .int)) (by decide) rfl ?_
  intro p e s m args below meth c s₁ B hml hv
  obtain ⟨rfl, hsz, hP0, hK, hF⟩ := hv
  have hx := B.exec
  have hb := B.bytes
  have hr := B.returns
  have hts := atoms_spec (ws := wsX9_fewest) B.pre
  have hown : s.vm.findClass RX9 = some m.cls := findClass_of_methodNamed B.named
  have hlocks := B.notSynchronized
  subst hsz
  generalize hAe : rA s.heap.size = A
  have hA : ∀ q : Nat, s.heap.size ≤ q → A q := fun q h => by rw [← hAe]; exact h
  have hAs : ∀ q : Nat, A q → s.heap.size ≤ q := fun q h => by rw [← hAe] at h; exact h
  have hS : va_S A s.heap s.heap [] := va_S.rf
  have hl := lv_entry ([.ref mx]) (n := 3) (Nat.le_of_ble_eq_true rfl)
  rw [lg_entry_eq]
  generalize (lg_sl ([.ref mx]) ++ List.replicate (3 - (lg_sl ([.ref mx])).length) Slot.unset).toArray = ls at hl ⊢
  have hl : lv_has ls 3 [(0, .ref mx)] := hl
  have hP : va_P (dC, dI) vwCl [(mx, .inr (14, [.ref lc, .ref lr, .ref kn, .ref lt, .ref ml, .ref mm, .ref lp, .ref lb, .ref mq, .int 1, .int 10, .int 0, .int 0])), (lc, .inr (4, [.int hm, .ref ed, .int 7])), (ed, .inl (kO, 10, .inr (.inr (.inr (.inr fa)))))] s.heap := P_mem hP0 (fun q h => List.mem_append_left _ h)
  refine lv_iconst (v := 0) hx hb dX9_fewest_0 (by decide) ?_
  refine lv_istore_n (lv' := [(1, .int 0), (0, .ref mx)]) hx hb dX9_fewest_1 rfl hl (by decide) rfl (fun ls hl => ?_)
  refine lv_iconst (v := 1) hx hb dX9_fewest_2 (by decide) ?_
  refine lv_istore_n (lv' := [(2, .int 1), (1, .int 0), (0, .ref mx)]) hx hb dX9_fewest_3 rfl hl (by decide) rfl (fun ls hl => ?_)
  obtain ⟨n_1, en_1⟩ : ∃ n_1 : Int32, n_1 = 1 := ⟨_, rfl⟩
  obtain ⟨v_2, ev_v_2⟩ : ∃ v_2 : Int32, v_2 = 0 := ⟨_, rfl⟩
  replace hl : lv_has ls 3 [(2, .int n_1), (1, .int v_2), (0, .ref mx)] := by rw [en_1, ev_v_2]; exact hl
  obtain ⟨i_1, hi_1, ei_1, es_1⟩ : ∃ i : Nat, i ≤ 256 ∧ n_1 = nI i ∧ i = 1 := ⟨1, by omega, en_1, rfl⟩
  refine W_gen (fun H locs eH eL => ?_)
  replace hS : va_S A s.heap H locs := by rw [eH, eL]; exact hS
  have hg : s.heap.size + 7 * i_1 ≤ H.size + 7 := by rw [eH]; omega
  clear eH eL
  refine W.widen (k := 7 * i_1) (n := 28 * i_1) (by omega) (by omega) ?_
  obtain ⟨k_1, hk_1⟩ : ∃ k : Nat, 256 - i_1 < k := ⟨257, by omega⟩
  clear en_1 ev_v_2 es_1
  induction k_1 generalizing n_1 v_2 i_1 ls H locs with
  | zero => exact absurd hk_1 (by omega)
  | succ k_1 ih_1 =>
    have hP : va_P (dC, dI) vwCl [(mx, .inr (14, [.ref lc, .ref lr, .ref kn, .ref lt, .ref ml, .ref mm, .ref lp, .ref lb, .ref mq, .int 1, .int 10, .int 0, .int 0])), (lc, .inr (4, [.int hm, .ref ed, .int 7])), (ed, .inl (kO, 10, .inr (.inr (.inr (.inr fa)))))] H := P_mem (P_at hP0 hS hAs) (fun q h => List.mem_append_left _ h)
    refine lv_iload_n hx hb dX9_fewest_4 rfl (lv_at hl 0 rfl) ?_
    refine lv_sipush (v := 255) hx hb dX9_fewest_5 (by decide) ?_
    refine lv_icmp_gt (tgt := 45) hx hb dX9_fewest_8 (by decide) (fun c_3 => ?_) (fun c_3 => ?_)
    · skip
      refine lv_iload_n hx hb dX9_fewest_45 rfl (lv_at hl 1 rfl) ?_
      refine W.widen (k := 1792) (n := 7168) (by omega) (by omega) ?_
      have hge : 255 < i_1 := by have h9 := c_3; rw [ei_1] at h9; exact (nI_ltI (by decide) (by omega)).mp (show nI 255 < nI i_1 from h9)
      exact W.iret (v := v_2) hx hb hr (fun t ht hW => ⟨⟨_, (), rfl, trivial, by show s.heap.size + 1785 ≤ t.heap.size; rw [ht]; omega⟩, hS.F ht⟩) hS.2.2 dX9_fewest_46
    · skip
      refine lv_aload_n hx hb dX9_fewest_11 rfl (lv_at hl 2 rfl) ?_
      refine lv_iload_n hx hb dX9_fewest_12 rfl (lv_at hl 0 rfl) ?_
      have hjr_1 := (i_lt2 (N := 255) hi_1 (by decide) ei_1 (show ¬ nI 255 < n_1 from c_3))
      refine va_calli (va_runV (As := [.int n_1]) (rest := []) ⟨hx, hb, hml, hown, hts⟩ (c_R_Mopened l dC dI mx lc lr kn lt ml mm lp lb mq hm ed kO fa k1 k2 k3 FL n_1 H.size hM) (cwV 1 hts gX9_fewest_X9_openedBy rfl rfl rfl (by decide +kernel) ⟨Nat.le_of_ble_eq_true rfl, Nat.le_of_ble_eq_true rfl⟩) ⟨PR_blind, va_recv hK hP (ci := 14) (q0 := 0) rfl rfl, PR_pre (P_at hP0 hS hAs) hK hF⟩ rfl rfl hl.1 rfl (lv_room (Nat.le_of_ble_eq_true rfl)) dX9_fewest_13 ⟨(by show 7 * i_1 + 7 ≤ 1792; omega), (by show 28 * i_1 + 28 ≤ 7168; omega)⟩) hS rA_no (rA_h hS hA) (fun r_4 u t H1 locs ht hvm hw hB hz1 hk1 hS => ?_)
      rw [ht] at hB
      have hg := (show s.heap.size + 7 * (i_1 + 1) ≤ H1.size + 7 by omega)
      generalize H1 = H at hB hS hg ⊢
      refine W.widen (k := 7 * (i_1 + 1)) (n := 28 * (i_1 + 1)) (by omega) (by omega) ?_
      have hP : va_P (dC, dI) vwCl [(mx, .inr (14, [.ref lc, .ref lr, .ref kn, .ref lt, .ref ml, .ref mm, .ref lp, .ref lb, .ref mq, .int 1, .int 10, .int 0, .int 0])), (lc, .inr (4, [.int hm, .ref ed, .int 7])), (ed, .inl (kO, 10, .inr (.inr (.inr (.inr fa)))))] H := P_mem (P_at hP0 hS hAs) (fun q h => List.mem_append_left _ h)
      refine lv_if_ne (tgt := 22) hx hb dX9_fewest_16 (by decide) (fun c_5 => ?_) (fun c_5 => ?_)
      · skip
        refine lv_iload_n hx hb dX9_fewest_22 rfl (lv_at hl 1 rfl) ?_
        refine lv_if_eq (tgt := 37) hx hb dX9_fewest_23 (by decide) (fun c_6 => ?_) (fun c_6 => ?_)
        · skip
          refine lv_iload_n hx hb dX9_fewest_37 rfl (lv_at hl 0 rfl) ?_
          refine lv_istore_n (lv' := [(1, .int n_1), (2, .int n_1), (0, .ref mx)]) hx hb dX9_fewest_38 rfl hl (by decide) rfl (fun ls hl => ?_)
          refine lv_iinc (v := n_1 + 1) (lv' := [(2, .int (n_1 + 1)), (1, .int n_1), (0, .ref mx)]) hx hb dX9_fewest_39 hl (k := 1) rfl rfl (by decide) rfl (fun ls hl => ?_)
          refine lv_goto (tgt := 4) hx hb dX9_fewest_42 (by decide) ?_
          have hlt_1 := (i_lt2 (N := 255) hi_1 (by decide) ei_1 (show ¬ nI 255 < n_1 from c_3))
          exact ih_1 (ls := ls) (v_2 := n_1) (n_1 := n_1 + 1) (i_1 := i_1 + 1) (hl := lv_sub hl [0, 1, 2] rfl) (hi_1 := hlt_1) (ei_1 := by rw [ei_1]; exact nI_1 i_1) (hk_1 := by omega) (H := H) (locs := locs) (hS := hS) (hg := hg)
        · skip
          refine lv_iload_n hx hb dX9_fewest_26 rfl (lv_at hl 0 rfl) ?_
          refine vp_callSi (va_Run.run (va_runS (As := [.int n_1]) (rest := []) ⟨hx, hb, hml, hown, hts⟩ (c_J_bitCount l dC dI n_1) (va_cwS 1 hts gX9_fewest_J6_bitCount_0f7a4 rfl rfl rfl (by decide +kernel) ⟨Nat.le_of_ble_eq_true rfl, Nat.le_of_ble_eq_true rfl⟩) ⟨PS_blind, PS_pre (hP.sub (ws' := []) [] rfl) (hK.sub (tys' := []) [] rfl) hF⟩ rfl rfl hl.1 rfl (lv_room (Nat.le_of_ble_eq_true rfl)) dX9_fewest_27 ⟨by show _ ≤ 1792; omega, by show _ ≤ 7168; omega⟩)) (fun r_7 hr_7 => ?_)
          refine lv_iload_n hx hb dX9_fewest_30 rfl (lv_at hl 1 rfl) ?_
          refine vp_callSi (va_Run.run (va_runS (As := [.int v_2]) (rest := [.int r_7]) ⟨hx, hb, hml, hown, hts⟩ (c_J_bitCount l dC dI v_2) (va_cwS 1 hts gX9_fewest_J6_bitCount_0f7a4 rfl rfl rfl (by decide +kernel) ⟨Nat.le_of_ble_eq_true rfl, Nat.le_of_ble_eq_true rfl⟩) ⟨PS_blind, PS_pre (hP.sub (ws' := []) [] rfl) (hK.sub (tys' := []) [] rfl) hF⟩ rfl rfl hl.1 rfl (lv_room (Nat.le_of_ble_eq_true rfl)) dX9_fewest_31 ⟨by show _ ≤ 1792; omega, by show _ ≤ 7168; omega⟩)) (fun r_8 hr_8 => ?_)
          refine lv_icmp_ge (tgt := 39) hx hb dX9_fewest_34 (by decide) (fun c_9 => ?_) (fun c_9 => ?_)
          · skip
            refine lv_iinc (v := n_1 + 1) (lv' := [(2, .int (n_1 + 1)), (1, .int v_2), (0, .ref mx)]) hx hb dX9_fewest_39 hl (k := 0) rfl rfl (by decide) rfl (fun ls hl => ?_)
            refine lv_goto (tgt := 4) hx hb dX9_fewest_42 (by decide) ?_
            have hlt_1 := (i_lt2 (N := 255) hi_1 (by decide) ei_1 (show ¬ nI 255 < n_1 from c_3))
            exact ih_1 (ls := ls) (v_2 := v_2) (n_1 := n_1 + 1) (i_1 := i_1 + 1) (hl := lv_sub hl [0, 1, 2] rfl) (hi_1 := hlt_1) (ei_1 := by rw [ei_1]; exact nI_1 i_1) (hk_1 := by omega) (H := H) (locs := locs) (hS := hS) (hg := hg)
          · skip
            refine lv_iload_n hx hb dX9_fewest_37 rfl (lv_at hl 0 rfl) ?_
            refine lv_istore_n (lv' := [(1, .int n_1), (2, .int n_1), (0, .ref mx)]) hx hb dX9_fewest_38 rfl hl (by decide) rfl (fun ls hl => ?_)
            refine lv_iinc (v := n_1 + 1) (lv' := [(2, .int (n_1 + 1)), (1, .int n_1), (0, .ref mx)]) hx hb dX9_fewest_39 hl (k := 1) rfl rfl (by decide) rfl (fun ls hl => ?_)
            refine lv_goto (tgt := 4) hx hb dX9_fewest_42 (by decide) ?_
            have hlt_1 := (i_lt2 (N := 255) hi_1 (by decide) ei_1 (show ¬ nI 255 < n_1 from c_3))
            exact ih_1 (ls := ls) (v_2 := n_1) (n_1 := n_1 + 1) (i_1 := i_1 + 1) (hl := lv_sub hl [0, 1, 2] rfl) (hi_1 := hlt_1) (ei_1 := by rw [ei_1]; exact nI_1 i_1) (hk_1 := by omega) (H := H) (locs := locs) (hS := hS) (hg := hg)
      · skip
        refine lv_goto (tgt := 39) hx hb dX9_fewest_19 (by decide) ?_
        refine lv_iinc (v := n_1 + 1) (lv' := [(2, .int (n_1 + 1)), (1, .int v_2), (0, .ref mx)]) hx hb dX9_fewest_39 hl (k := 0) rfl rfl (by decide) rfl (fun ls hl => ?_)
        refine lv_goto (tgt := 4) hx hb dX9_fewest_42 (by decide) ?_
        have hlt_1 := (i_lt2 (N := 255) hi_1 (by decide) ei_1 (show ¬ nI 255 < n_1 from c_3))
        exact ih_1 (ls := ls) (v_2 := v_2) (n_1 := n_1 + 1) (i_1 := i_1 + 1) (hl := lv_sub hl [0, 1, 2] rfl) (hi_1 := hlt_1) (ei_1 := by rw [ei_1]; exact nI_1 i_1) (hk_1 := by omega) (H := H) (locs := locs) (hS := hS) (hg := hg)
