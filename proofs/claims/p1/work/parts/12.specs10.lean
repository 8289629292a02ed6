set_option maxRecDepth 20000 in
theorem ggX9_asWord_J4_init_da8c8 : GoodIn wsX9_asWord wsJ4_init_da8c8 := goodIn_r _ [7, 8, 9, 10, 11, 12, 13, 14, 15, 16, 17, 18, 19, 20, 21, 22, 23, 24, 25, 26, 200, 201, 202, 203] (by decide +kernel) (by decide +kernel)
set_option maxRecDepth 20000 in
theorem gX9_asWord_J4_init_da8c8 : GoodIn wsX9_asWord (wsJ4_init_da8c8) := ggX9_asWord_J4_init_da8c8
set_option maxRecDepth 20000 in
theorem ggX9_asWord_X9_letter : GoodIn wsX9_asWord wsX9_letter := goodIn_r _ [30] (by decide +kernel) (by decide +kernel)
set_option maxRecDepth 20000 in
theorem gX9_asWord_X9_letter : GoodIn wsX9_asWord (va_wsS RX9 91 yX9_letter wsX9_letter) := goodIn_app (goodIn_of _ (by decide +kernel)) ggX9_asWord_X9_letter
set_option maxRecDepth 20000 in
theorem ggX9_asWord_J4_insert_a3ee8 : GoodIn wsX9_asWord wsJ4_insert_a3ee8 := goodIn_r _ [34, 35, 36, 37, 38, 10, 39, 40, 17, 41, 42, 43, 44, 45, 46, 47, 48, 49, 50, 51, 52, 53, 54, 18, 55, 56, 57, 58, 59, 60, 61, 62, 63, 64, 65, 66, 67, 68, 69, 70, 71, 72, 73, 74, 75, 76, 77, 78, 79, 80, 81, 82, 16, 83, 84, 85, 86, 87, 88, 89, 90, 91, 92, 93, 94, 95, 96, 97, 98, 99, 100, 15, 101, 102, 103, 104, 105, 106, 107, 108, 109, 19, 20, 21, 22, 23, 24, 25, 26, 110, 111, 112, 113, 114, 115, 116, 117, 118, 119, 120, 121, 122, 123, 124, 125, 126, 127, 128, 129, 130, 131, 132, 133, 134, 135, 136, 137, 138, 139, 140, 141, 142, 143, 144, 145, 200, 201, 202, 203] (by decide +kernel) (by decide +kernel)
set_option maxRecDepth 20000 in
theorem gX9_asWord_J4_insert_a3ee8 : GoodIn wsX9_asWord (wsV RX9 140 RJ4 yJ4_insert_a3ee8 wsJ4_insert_a3ee8) := goodIn_app (goodIn_of _ (by decide +kernel)) ggX9_asWord_J4_insert_a3ee8
set_option maxRecDepth 20000 in
theorem ggX9_asWord_J4_toString_0e30d : GoodIn wsX9_asWord wsJ4_toString_0e30d := goodIn_r _ [149, 150, 151, 43, 152, 153, 154, 155, 156, 157, 158, 13, 14, 159, 160, 161, 162, 163, 164, 165, 166, 10, 167, 17, 168, 169, 170, 171, 172, 3, 173, 174, 37, 175, 176, 40, 177, 97, 98, 99, 100, 15, 18, 178, 179, 75, 180, 77, 78, 79, 80, 81, 82, 181, 182, 183, 16, 83, 84, 67, 85, 86, 87, 88, 89, 184, 185, 186, 187, 188, 21, 189, 190, 191, 192, 116, 117, 118, 119, 120, 121, 122, 123, 124, 45, 125, 126, 48, 127, 193, 194, 195, 131, 132, 133, 23, 24, 25, 26, 196, 197, 198, 199, 204, 205, 206, 207, 200, 201, 202, 203] (by decide +kernel) (by decide +kernel)
set_option maxRecDepth 20000 in
theorem gX9_asWord_J4_toString_0e30d : GoodIn wsX9_asWord (wsV RX9 101 RJ4 yJ4_toString_0e30d wsJ4_toString_0e30d) := goodIn_app (goodIn_of _ (by decide +kernel)) ggX9_asWord_J4_toString_0e30d
theorem dX9_asWord_0 : decode cX9_asWord 0 = .ok (.lload_n 0, 1) := by decide +kernel
theorem dX9_asWord_1 : decode cX9_asWord 1 = .ok (.lconst 0, 1) := by decide +kernel
theorem dX9_asWord_2 : decode cX9_asWord 2 = .ok (.lcmp, 1) := by decide +kernel
theorem dX9_asWord_3 : decode cX9_asWord 3 = .ok (.ifCond .gt 5, 3) := by decide +kernel
theorem dX9_asWord_6 : decode cX9_asWord 6 = .ok (.aconst_null, 1) := by decide +kernel
theorem dX9_asWord_7 : decode cX9_asWord 7 = .ok (.areturn, 1) := by decide +kernel
theorem dX9_asWord_8 : decode cX9_asWord 8 = .ok (.new 94, 3) := by decide +kernel
theorem dX9_asWord_11 : decode cX9_asWord 11 = .ok (.dup, 1) := by decide +kernel
theorem dX9_asWord_12 : decode cX9_asWord 12 = .ok (.invokespecial 96, 3) := by decide +kernel
theorem dX9_asWord_15 : decode cX9_asWord 15 = .ok (.astore_n 2, 1) := by decide +kernel
theorem dX9_asWord_16 : decode cX9_asWord 16 = .ok (.lload_n 0, 1) := by decide +kernel
theorem dX9_asWord_17 : decode cX9_asWord 17 = .ok (.lstore_n 3, 1) := by decide +kernel
theorem dX9_asWord_18 : decode cX9_asWord 18 = .ok (.lload_n 3, 1) := by decide +kernel
theorem dX9_asWord_19 : decode cX9_asWord 19 = .ok (.lconst 0, 1) := by decide +kernel
theorem dX9_asWord_20 : decode cX9_asWord 20 = .ok (.lcmp, 1) := by decide +kernel
theorem dX9_asWord_21 : decode cX9_asWord 21 = .ok (.ifCond .eq 39, 3) := by decide +kernel
theorem dX9_asWord_24 : decode cX9_asWord 24 = .ok (.lload_n 3, 1) := by decide +kernel
theorem dX9_asWord_25 : decode cX9_asWord 25 = .ok (.ldc2_w 134, 3) := by decide +kernel
theorem dX9_asWord_28 : decode cX9_asWord 28 = .ok (.lrem, 1) := by decide +kernel
theorem dX9_asWord_29 : decode cX9_asWord 29 = .ok (.l2i, 1) := by decide +kernel
theorem dX9_asWord_30 : decode cX9_asWord 30 = .ok (.istore 5, 2) := by decide +kernel
theorem dX9_asWord_32 : decode cX9_asWord 32 = .ok (.iload 5, 2) := by decide +kernel
theorem dX9_asWord_34 : decode cX9_asWord 34 = .ok (.invokestatic 91, 3) := by decide +kernel
theorem dX9_asWord_37 : decode cX9_asWord 37 = .ok (.ifCond .ne 5, 3) := by decide +kernel
theorem dX9_asWord_40 : decode cX9_asWord 40 = .ok (.aconst_null, 1) := by decide +kernel
theorem dX9_asWord_41 : decode cX9_asWord 41 = .ok (.areturn, 1) := by decide +kernel
theorem dX9_asWord_42 : decode cX9_asWord 42 = .ok (.aload_n 2, 1) := by decide +kernel
theorem dX9_asWord_43 : decode cX9_asWord 43 = .ok (.iconst 0, 1) := by decide +kernel
theorem dX9_asWord_44 : decode cX9_asWord 44 = .ok (.iload 5, 2) := by decide +kernel
theorem dX9_asWord_46 : decode cX9_asWord 46 = .ok (.i2c, 1) := by decide +kernel
theorem dX9_asWord_47 : decode cX9_asWord 47 = .ok (.invokevirtual 140, 3) := by decide +kernel
theorem dX9_asWord_50 : decode cX9_asWord 50 = .ok (.pop, 1) := by decide +kernel
theorem dX9_asWord_51 : decode cX9_asWord 51 = .ok (.lload_n 3, 1) := by decide +kernel
theorem dX9_asWord_52 : decode cX9_asWord 52 = .ok (.ldc2_w 134, 3) := by decide +kernel
theorem dX9_asWord_55 : decode cX9_asWord 55 = .ok (.ldiv, 1) := by decide +kernel
theorem dX9_asWord_56 : decode cX9_asWord 56 = .ok (.lstore_n 3, 1) := by decide +kernel
theorem dX9_asWord_57 : decode cX9_asWord 57 = .ok (.goto (-39), 3) := by decide +kernel
theorem dX9_asWord_60 : decode cX9_asWord 60 = .ok (.aload_n 2, 1) := by decide +kernel
theorem dX9_asWord_61 : decode cX9_asWord 61 = .ok (.invokevirtual 101, 3) := by decide +kernel
theorem dX9_asWord_64 : decode cX9_asWord 64 = .ok (.areturn, 1) := by decide +kernel
set_option maxRecDepth 20000 in
theorem ggX9_bar_X9_asWord : GoodIn wsX9_bar wsX9_asWord := goodIn_r _ [5, 6, 7, 8, 9, 10, 11, 12, 13, 14, 15, 16, 17, 18, 19, 20, 21, 22, 23, 24, 25, 26, 27, 28, 29, 30, 31, 32, 33, 4, 34, 35, 36, 37, 38, 39, 40, 41, 42, 43, 44, 45, 46, 47, 48, 49, 50, 51, 52, 53, 54, 55, 56, 57, 58, 59, 60, 61, 62, 63, 64, 65, 66, 67, 68, 69, 70, 71, 72, 73, 74, 75, 76, 77, 78, 79, 80, 81, 82, 83, 84, 85, 86, 87, 88, 89, 90, 91, 92, 93, 94, 95, 96, 97, 98, 99, 100, 101, 102, 103, 104, 105, 106, 107, 108, 109, 110, 111, 112, 113, 114, 115, 116, 117, 118, 119, 120, 121, 122, 123, 124, 125, 126, 127, 128, 129, 130, 131, 132, 133, 134, 135, 136, 137, 138, 139, 140, 141, 142, 143, 144, 145, 146, 147, 148, 149, 150, 151, 152, 153, 154, 155, 156, 157, 158, 159, 160, 161, 162, 163, 164, 165, 166, 167, 168, 169, 170, 171, 172, 173, 174, 175, 176, 177, 178, 179, 180, 181, 182, 183, 184, 185, 186, 187, 188, 189, 190, 191, 192, 193, 194, 195, 196, 197, 198, 199, 200, 201, 202, 203, 335, 336, 337, 338, 339, 340, 341, 342] (by decide +kernel) (by decide +kernel)
set_option maxRecDepth 20000 in
theorem gX9_bar_X9_asWord : GoodIn wsX9_bar (va_wsS RX9 151 yX9_asWord wsX9_asWord) := goodIn_app (goodIn_of _ (by decide +kernel)) ggX9_bar_X9_asWord
set_option maxRecDepth 20000 in
theorem ggX9_bar_X9_isBarred : GoodIn wsX9_bar wsX9_isBarred := goodIn_r _ [207, 1, 208, 209, 210, 211, 212, 213, 214, 215, 216, 217, 218, 219, 220, 221, 222, 223, 224, 225, 226, 227, 228, 229, 230, 231, 232, 233, 234, 235, 236, 237, 238, 148, 52, 149, 239, 240, 241, 242, 243, 244, 245, 246, 247, 248, 249, 250, 251, 47, 252, 253, 165, 163, 164, 254, 255, 107, 256, 322, 323, 324, 325, 326, 327, 328, 329, 330, 331, 332, 333, 334, 343, 344, 345, 346, 347, 348, 349, 350, 339, 340, 341, 342] (by decide +kernel) (by decide +kernel)
set_option maxRecDepth 20000 in
theorem gX9_bar_X9_isBarred : GoodIn wsX9_bar (wsV RX9 155 RX9 yX9_isBarred wsX9_isBarred) := goodIn_app (goodIn_of _ (by decide +kernel)) ggX9_bar_X9_isBarred
set_option maxRecDepth 20000 in
theorem ggX9_bar_Jx4a65c_size_8abf5 : GoodIn wsX9_bar wsJx4a65c_size_8abf5 := goodIn_r _ [227, 228, 348, 349, 350] (by decide +kernel) (by decide +kernel)
set_option maxRecDepth 20000 in
theorem gX9_bar_Jx4a65c_size_8abf5_f56Jx4a65c : GoodIn wsX9_bar (va_wsF RX9 56 RJx4a65c ⟨"java/util/List", "size", "()I"⟩ yJx4a65c_size_8abf5 wsJx4a65c_size_8abf5) := goodIn_app (goodIn_of _ (by decide +kernel)) ggX9_bar_Jx4a65c_size_8abf5
set_option maxRecDepth 20000 in
theorem ggX9_bar_Jx4a65c_add_9ea2d : GoodIn wsX9_bar wsJx4a65c_add_9ea2d := goodIn_r _ [317, 279, 221, 243, 228, 318, 319, 320, 226, 321, 285, 286, 287, 288, 289, 290, 291, 292, 293, 294, 70, 71, 72, 295, 296, 66, 67, 68, 69, 73, 74, 75, 76, 297, 298, 79, 299, 300, 301, 302, 303, 304, 305, 306, 307, 308, 87, 88, 89, 90, 91, 92, 93, 343, 344, 345, 346, 347, 348, 349, 350] (by decide +kernel) (by decide +kernel)
set_option maxRecDepth 20000 in
theorem gX9_bar_Jx4a65c_add_9ea2d_f72Jx4a65c : GoodIn wsX9_bar (va_wsF RX9 72 RJx4a65c ⟨"java/util/List", "add", "(Ljava/lang/Object;)Z"⟩ yJx4a65c_add_9ea2d wsJx4a65c_add_9ea2d) := goodIn_app (goodIn_of _ (by decide +kernel)) ggX9_bar_Jx4a65c_add_9ea2d
theorem dX9_bar_0 : decode cX9_bar 0 = .ok (.lload_n 1, 1) := by decide +kernel
theorem dX9_bar_1 : decode cX9_bar 1 = .ok (.invokestatic 151, 3) := by decide +kernel
theorem dX9_bar_4 : decode cX9_bar 4 = .ok (.astore_n 3, 1) := by decide +kernel
theorem dX9_bar_5 : decode cX9_bar 5 = .ok (.aload_n 3, 1) := by decide +kernel
theorem dX9_bar_6 : decode cX9_bar 6 = .ok (.ifnull 11, 3) := by decide +kernel
theorem dX9_bar_9 : decode cX9_bar 9 = .ok (.aload_n 0, 1) := by decide +kernel
theorem dX9_bar_10 : decode cX9_bar 10 = .ok (.aload_n 3, 1) := by decide +kernel
theorem dX9_bar_11 : decode cX9_bar 11 = .ok (.invokevirtual 155, 3) := by decide +kernel
theorem dX9_bar_14 : decode cX9_bar 14 = .ok (.ifCond .eq 6, 3) := by decide +kernel
theorem dX9_bar_17 : decode cX9_bar 17 = .ok (.bipush (-2), 2) := by decide +kernel
theorem dX9_bar_19 : decode cX9_bar 19 = .ok (.ireturn, 1) := by decide +kernel
theorem dX9_bar_20 : decode cX9_bar 20 = .ok (.aload_n 0, 1) := by decide +kernel
theorem dX9_bar_21 : decode cX9_bar 21 = .ok (.getfield 37, 3) := by decide +kernel
theorem dX9_bar_24 : decode cX9_bar 24 = .ok (.invokeinterface 56 1, 5) := by decide +kernel
theorem dX9_bar_29 : decode cX9_bar 29 = .ok (.bipush 8, 2) := by decide +kernel
theorem dX9_bar_31 : decode cX9_bar 31 = .ok (.if_icmp .ne 6, 3) := by decide +kernel
theorem dX9_bar_37 : decode cX9_bar 37 = .ok (.aload_n 0, 1) := by decide +kernel
theorem dX9_bar_38 : decode cX9_bar 38 = .ok (.getfield 37, 3) := by decide +kernel
theorem dX9_bar_41 : decode cX9_bar 41 = .ok (.aload_n 3, 1) := by decide +kernel
theorem dX9_bar_42 : decode cX9_bar 42 = .ok (.invokeinterface 72 2, 5) := by decide +kernel
theorem dX9_bar_47 : decode cX9_bar 47 = .ok (.pop, 1) := by decide +kernel
theorem dX9_bar_48 : decode cX9_bar 48 = .ok (.aload_n 0, 1) := by decide +kernel
theorem dX9_bar_49 : decode cX9_bar 49 = .ok (.getfield 37, 3) := by decide +kernel
theorem dX9_bar_52 : decode cX9_bar 52 = .ok (.invokeinterface 56 1, 5) := by decide +kernel
theorem dX9_bar_57 : decode cX9_bar 57 = .ok (.ireturn, 1) := by decide +kernel
set_option maxRecDepth 20000 in
theorem ggX9_isBarred_Jx4a65c_size_8abf5 : GoodIn wsX9_isBarred wsJx4a65c_size_8abf5 := goodIn_r _ [21, 22, 77, 78, 79] (by decide +kernel) (by decide +kernel)
set_option maxRecDepth 20000 in
theorem gX9_isBarred_Jx4a65c_size_8abf5_f56Jx4a65c : GoodIn wsX9_isBarred (va_wsF RX9 56 RJx4a65c ⟨"java/util/List", "size", "()I"⟩ yJx4a65c_size_8abf5 wsJx4a65c_size_8abf5) := goodIn_app (goodIn_of _ (by decide +kernel)) ggX9_isBarred_Jx4a65c_size_8abf5
theorem dX9_isBarred_0 : decode cX9_isBarred 0 = .ok (.iconst 0, 1) := by decide +kernel
theorem dX9_isBarred_1 : decode cX9_isBarred 1 = .ok (.istore_n 2, 1) := by decide +kernel
theorem dX9_isBarred_2 : decode cX9_isBarred 2 = .ok (.iload_n 2, 1) := by decide +kernel
theorem dX9_isBarred_3 : decode cX9_isBarred 3 = .ok (.aload_n 0, 1) := by decide +kernel
theorem dX9_isBarred_4 : decode cX9_isBarred 4 = .ok (.getfield 37, 3) := by decide +kernel
theorem dX9_isBarred_7 : decode cX9_isBarred 7 = .ok (.invokeinterface 56 1, 5) := by decide +kernel
theorem dX9_isBarred_12 : decode cX9_isBarred 12 = .ok (.if_icmp .ge 31, 3) := by decide +kernel
theorem dX9_isBarred_43 : decode cX9_isBarred 43 = .ok (.iconst 0, 1) := by decide +kernel
theorem dX9_isBarred_44 : decode cX9_isBarred 44 = .ok (.ireturn, 1) := by decide +kernel
theorem dfJ4 : ∀ j, j < 4 → defaultValue (tyJ4 j) = vp_V [.null, .int 0, .int 0, .int 0] j := by
  intro j hj
  rcases (show j = 0 ∨ j = 1 ∨ j = 2 ∨ j = 3 by omega) with rfl | rfl | rfl | rfl <;> rfl

set_option maxHeartbeats 4000000 in
set_option maxRecDepth 100000 in
theorem c_M_isBarred (l : Launch) (dC : Nat → ClassId) (dI : Nat → Nat → Nat) (mx : Nat) (lc : Nat) (lr : Nat) (kn : Nat) (lt : Nat) (ml : Nat) (mm : Nat) (lp : Nat) (lb : Nat) (mq : Nat) (d : Nat) (v : Nat) : Met l yX9_isBarred wsX9_isBarred ({ frames := 1, cells := 0, slots := 0, locals := 20 }) (va_Pc [.ref mx, .ref v] (PS dC dI [(mx, .inr (14, [.ref lc, .ref lr, .ref kn, .ref lt, .ref ml, .ref mm, .ref lp, .ref lb, .ref mq, .int 1, .int 10, .int 0, .int 0])), (lb, .inr (4, [.int 0, .ref d, .int 0]))] [])) (vp_Si (fun r => r = 0)) 0 0 (fun _ => False) := by
  refine Met.ofW (cc := cX9_isBarred) (maxL := 3) (ret := (some .boolean)) (by decide) rfl ?_
  intro p e s m args below meth c s₁ B hml hv
  obtain ⟨rfl, hP, hK, hF⟩ := hv
  have hx := B.exec
  have hb := B.bytes
  have hr := B.returns
  have hts := atoms_spec (ws := wsX9_isBarred) B.pre
  have hown : s.vm.findClass RX9 = some m.cls := findClass_of_methodNamed B.named
  have hlocks := B.notSynchronized
  have hl := lv_entry ([.ref mx, .ref v]) (n := 3) (Nat.le_of_ble_eq_true rfl)
  rw [lg_entry_eq]
  generalize (lg_sl ([.ref mx, .ref v]) ++ List.replicate (3 - (lg_sl ([.ref mx, .ref v])).length) Slot.unset).toArray = ls at hl ⊢
  have hl : lv_has ls 3 [(0, .ref mx), (1, .ref v)] := hl
  refine lv_iconst (v := 0) hx hb dX9_isBarred_0 (by decide) ?_
  refine lv_istore_n (lv' := [(2, .int 0), (0, .ref mx), (1, .ref v)]) hx hb dX9_isBarred_1 rfl hl (by decide) rfl (fun ls hl => ?_)
  refine lv_iload_n hx hb dX9_isBarred_2 rfl (lv_at hl 0 rfl) ?_
  refine lv_aload_n hx hb dX9_isBarred_3 rfl (lv_at hl 1 rfl) ?_
  refine va_get (D := (dC, dI)) (ci := 14) (v := .ref lb) (C := RX9) (T := TX9) (N := 13) hx hb hts (fun _ h9 => List.mem_cons_of_mem _ (List.mem_append_left _ (List.mem_append_left _ (List.mem_append_left _ (List.mem_append_right _ (h9)))))) hown hK hP 0 rfl rfl 7 (by decide) (hts (.fieldLink RX9 37 "ExamHallsModel" "barred" "Ljava/util/List;") (List.mem_of_getElem? (i := 1) rfl)) (fun _ h9 => h9) rfl dX9_isBarred_4 ?_
  refine va_csFi (va_runF (hK.1 4 _ rfl).2 (As := []) (rest := [.int 0]) ⟨hx, hb, hml, hown, hts⟩ (c_AL_size l dC dI lb 0 d 0) (va_cwF 0 hts gX9_isBarred_Jx4a65c_size_8abf5_f56Jx4a65c rfl rfl rfl (Ft.fw hF (RJx4a65c, ⟨"java/util/List", "size", "()I"⟩, yJx4a65c_size_8abf5) (by decide +kernel)) (by decide +kernel) ⟨Nat.le_of_ble_eq_true rfl, Nat.le_of_ble_eq_true rfl⟩) ⟨PS_blind, va_recv hK hP (ci := 4) (q0 := 1) rfl rfl, PS_pre (hP.sub (ws' := [(lb, .inr (4, [.int 0, .ref d, .int 0]))]) [1] rfl) hK hF⟩ rfl rfl hl.1 rfl (lv_room (Nat.le_of_ble_eq_true rfl)) dX9_isBarred_7 ⟨Nat.le_of_ble_eq_true rfl, Nat.le_of_ble_eq_true rfl⟩) (fun r_1 hr_1 => ?_)
  subst hr_1
  refine lv_icmp_ge (tgt := 43) hx hb dX9_isBarred_12 (by decide) (fun _ => ?_) (fun c_2 => absurd (by decide) c_2)
  refine lv_iconst (v := 0) hx hb dX9_isBarred_43 (by decide) ?_
  exact W.zret (v := 0) hx hb hr (by decide) (fun t ht hW => ⟨_, rfl, rfl, ht⟩) (fun _ h9 => absurd h9 List.not_mem_nil) dX9_isBarred_44

set_option maxHeartbeats 4000000 in
set_option maxRecDepth 100000 in
theorem c_M_asWord (l : Launch) (dC : Nat → ClassId) (dI : Nat → Nat → Nat) (d : Nat) (tc : Nat) (ad : Nat → Nat) (c1 : Int64) (sz : Nat) : Met l yX9_asWord wsX9_asWord ({ frames := 6, cells := 4, slots := 32, locals := 191 }) (va_Pc [.long c1] (PZ dC dI d tc ad sz [] [])) (va_Qq (fun (r u : Option Nat) => u = r ∧ (r = none → sp_M_asWord c1 = 0) ∧ (∀ a, r = some a → sp_M_asWord c1 = 1)) (fun u t => ∀ a, u = some a → ∃ g2 : Nat, va_P (dC, dI) vwCl [(a, .inr (0, [.ref g2, .int 0, .int 0, .int 0]))] t.heap ∧ va_K (dC, dI) vwCl [] t ∧ va_D (va_A [] sz) [(a, .inr (0, [.ref g2, .int 0, .int 0, .int 0]))]) (va_A [] sz)) 4 32 (va_A [] sz) := by
  refine Met.ofW (cc := cX9_asWord) (maxL := 6) (ret := (some (.object "java/lang/String"))) (by decide) rfl ?_
  intro p e s m args below meth c s₁ B hml hv
  obtain ⟨rfl, hsz, hP, hK, hD0, hF, hZ⟩ := hv
  have hx := B.exec
  have hb := B.bytes
  have hr := B.returns
  have hts := atoms_spec (ws := wsX9_asWord) B.pre
  have hown : s.vm.findClass RX9 = some m.cls := findClass_of_methodNamed B.named
  have hlocks := B.notSynchronized
  subst hsz
  have hD := hD0.self (sz := s.heap.size)
  generalize hAe : va_A [] s.heap.size = A at hD hZ ⊢
  have hA : ∀ q : Nat, s.heap.size ≤ q → A q := fun q h => by rw [← hAe]; exact Or.inr h
  have hS : va_S A s.heap s.heap [] := va_S.rf
  have hl := lv_entry ([.long c1]) (n := 6) (Nat.le_of_ble_eq_true rfl)
  rw [lg_entry_eq]
  generalize (lg_sl ([.long c1]) ++ List.replicate (6 - (lg_sl ([.long c1])).length) Slot.unset).toArray = ls at hl ⊢
  have hl : lv_has ls 6 [(0, .long c1)] := hl
  refine lv_lload_n hx hb dX9_asWord_0 rfl (lv_at hl 0 rfl) ?_
  refine lv_lconst (v := 0) hx hb dX9_asWord_1 (by decide) ?_
  refine W.lcmp hx hb dX9_asWord_2 ?_
  refine lv_if_gt (tgt := 8) hx hb dX9_asWord_3 (by decide) (fun c_1 => ?_) (fun c_1 => ?_)
  · skip
    refine va_new (ci := 1) (fs := [.null, .int 0, .int 0, .int 0]) (C := RJ4) (T := TJ4) (N := 4) hx hb hts (fun _ h9 => List.mem_cons_of_mem _ (List.mem_append_left _ (List.mem_append_right _ (h9)))) tyJ4 tyJ4_ok hown (hts (.classLink RX9 94 RJ4) (List.mem_of_getElem? (i := 1) rfl)) (hts (.instantiable RJ4 4) (List.mem_of_getElem? (i := 2) rfl)) (hts (.initialized RJ4) (List.mem_of_getElem? (i := 3) rfl)) hK hP hD hS hA rfl dfJ4 (Nat.le_of_ble_eq_true rfl) (Nat.le_of_ble_eq_true rfl) dX9_asWord_8 (fun q_2 H hP hD hS => ?_)
    have hP : va_P (dC, dI) vwCl [(q_2, .inr (1, [.null, .int 0, .int 0, .int 0]))] H := hP
    have hD : va_D A [(q_2, .inr (1, [.null, .int 0, .int 0, .int 0]))] := hD
    refine W.widen (k := 1) (n := 4) (Nat.le_of_ble_eq_true rfl) (Nat.le_of_ble_eq_true rfl) ?_
    refine lv_dup hx hb dX9_asWord_11 rfl ?_
    have hPc := hP.sub (ws' := [(q_2, .inr (1, [.null, .int 0, .int 0, .int 0]))]) [0] rfl
    have hDc := hD.sub (ws' := [(q_2, .inr (1, [.null, .int 0, .int 0, .int 0]))]) [0] (by decide) rfl
    have hKc := hK.sub (tys' := []) [] rfl
    have hFc := va_free (wc := [(q_2, .inr (1, [.null, .int 0, .int 0, .int 0]))]) hD hS hA [0] rfl
    refine va_callv (va_runI (As := []) (rest := [.ref q_2]) ⟨hx, hb, hml, hown, hts⟩ (c_SB_init l dC dI d tc ad q_2 H.size) (cwI 0 hts gX9_asWord_J4_init_da8c8 rfl rfl rfl (hts (.initialized RJ4) (List.mem_of_getElem? (i := 3) rfl)) (hts (.methodLink RX9 96 yJ4_init_da8c8) (List.mem_of_getElem? (i := 5) rfl)) (hts (.instanceMethod yJ4_init_da8c8) (List.mem_of_getElem? (i := 6) rfl)) rfl (by decide +kernel) ⟨Nat.le_of_ble_eq_true rfl, Nat.le_of_ble_eq_true rfl⟩) ⟨PZ_blind, PZ_pre hPc hKc hDc hF hZ hS hFc⟩ rfl rfl hl.1 rfl (lv_room (Nat.le_of_ble_eq_true rfl)) dX9_asWord_12 ⟨Nat.le_of_ble_eq_true rfl, Nat.le_of_ble_eq_true rfl⟩) hS (fun q _ h => hFc q h) hFc (fun u t H1 locs ht hvm hw hB hz1 hk1 hS => ?_)
    obtain ⟨bv_4, kB_5, hP1, hK1, hD1⟩ := hB
    rw [ht] at hP1
    have hK1 := va_K.moved hvm.symm hK1
    obtain ⟨hP, hD⟩ := va_join (wr := []) (w1 := [(q_2, .inr (1, [.ref bv_4, .int 0, .int 0, .int 0])), (bv_4, .inl (kB_5, 16, .inl (fun _ => 0)))]) hP hD [0] [] rfl rfl (by decide) (by decide) hk1 hFc hP1 hD1
    have hK := hK.app hK1
    generalize H1 = H at hP hS ⊢
    have hP : va_P (dC, dI) vwCl [(q_2, .inr (1, [.ref bv_4, .int 0, .int 0, .int 0])), (bv_4, .inl (kB_5, 16, .inl (fun _ => 0)))] H := hP
    have hD : va_D A [(q_2, .inr (1, [.ref bv_4, .int 0, .int 0, .int 0])), (bv_4, .inl (kB_5, 16, .inl (fun _ => 0)))] := hD
    have hK : va_K (dC, dI) vwCl [(kB_5, .byte)] s := hK
    refine W.widen (k := 2) (n := 20) (Nat.le_of_ble_eq_true rfl) (Nat.le_of_ble_eq_true rfl) ?_
    refine lv_astore_n (lv' := [(2, .ref q_2), (0, .long c1)]) hx hb dX9_asWord_15 rfl hl (by decide) rfl (fun ls hl => ?_)
    refine lv_lload_n hx hb dX9_asWord_16 rfl (lv_at hl 1 rfl) ?_
    refine lv_lstore_n (lv' := [(3, .long c1), (2, .ref q_2), (0, .long c1)]) hx hb dX9_asWord_17 rfl hl (by decide) rfl (fun ls hl => ?_)
    refine lv_lload_n hx hb dX9_asWord_18 rfl (lv_at hl 0 rfl) ?_
    refine lv_lconst (v := 0) hx hb dX9_asWord_19 (by decide) ?_
    refine W.lcmp hx hb dX9_asWord_20 ?_
    refine lv_if_eq (tgt := 60) hx hb dX9_asWord_21 (by decide) (fun c_6 => absurd c_6 (pos_ne c_1)) (fun _ => ?_)
    refine lv_lload_n hx hb dX9_asWord_24 rfl (lv_at hl 0 rfl) ?_
    refine lv_ldc2 (v := 256) hx hb hown (hts (.constantLong RX9 134 (256)) (List.mem_of_getElem? (i := 4) rfl)) dX9_asWord_25 ?_
    refine lv_lrem hx hb dX9_asWord_28 (by decide) ?_
    refine lv_l2i hx hb dX9_asWord_29 rfl ?_
    refine lv_istore (lv' := [(5, .int ((c1 - c1 / 256 * 256).toInt32)), (3, .long c1), (2, .ref q_2), (0, .long c1)]) hx hb dX9_asWord_30 hl (by decide) rfl (fun ls hl => ?_)
    refine lv_iload hx hb dX9_asWord_32 (lv_at hl 0 rfl) ?_
    refine vp_callSi (va_Run.run (va_runS (As := [.int ((c1 - c1 / 256 * 256).toInt32)]) (rest := []) ⟨hx, hb, hml, hown, hts⟩ (c_M_letter l dC dI ((c1 - c1 / 256 * 256).toInt32)) (va_cwS 1 hts gX9_asWord_X9_letter rfl rfl rfl (by decide +kernel) ⟨Nat.le_of_ble_eq_true rfl, Nat.le_of_ble_eq_true rfl⟩) ⟨PS_blind, PS_pre (hP.sub (ws' := []) [] rfl) (hK.sub (tys' := []) [] rfl) hF⟩ rfl rfl hl.1 rfl (lv_room (Nat.le_of_ble_eq_true rfl)) dX9_asWord_34 ⟨Nat.le_of_ble_eq_true rfl, Nat.le_of_ble_eq_true rfl⟩)) (fun r_7 hr_7 => ?_)
    subst hr_7
    refine lv_if_ne (tgt := 42) hx hb dX9_asWord_37 (by decide) (fun c_8 => ?_) (fun c_8 => ?_)
    · skip
      refine lv_aload_n hx hb dX9_asWord_42 rfl (lv_at hl 2 rfl) ?_
      refine lv_iconst (v := 0) hx hb dX9_asWord_43 (by decide) ?_
      refine lv_iload hx hb dX9_asWord_44 (lv_at hl 0 rfl) ?_
      refine lv_i2c hx hb dX9_asWord_46 rfl ?_
      have hPc := hP.sub (ws' := [(q_2, .inr (1, [.ref bv_4, .int 0, .int 0, .int 0])), (bv_4, .inl (kB_5, 16, .inl (fun _ => 0)))]) [0, 1] rfl
      have hDc := hD.sub (ws' := [(q_2, .inr (1, [.ref bv_4, .int 0, .int 0, .int 0])), (bv_4, .inl (kB_5, 16, .inl (fun _ => 0)))]) [0, 1] (by decide) rfl
      have hKc := hK.sub (tys' := [(kB_5, .byte)]) [0] rfl
      have hFc := va_free (wc := [(q_2, .inr (1, [.ref bv_4, .int 0, .int 0, .int 0])), (bv_4, .inl (kB_5, 16, .inl (fun _ => 0)))]) hD hS hA [0, 1] rfl
      refine va_callr (va_runV (As := [.int 0, .int ((((c1 - c1 / 256 * 256).toInt32).toUInt32 % 65536).toInt32)]) (rest := []) ⟨hx, hb, hml, hown, hts⟩ (c_SB_ins0 l dC dI d tc ad q_2 bv_4 kB_5 (fun _ => 0) ((((c1 - c1 / 256 * 256).toInt32).toUInt32 % 65536).toInt32) H.size sb_fit0 (ce_of c_8)) (cwV 2 hts gX9_asWord_J4_insert_a3ee8 rfl rfl rfl (by decide +kernel) ⟨Nat.le_of_ble_eq_true rfl, Nat.le_of_ble_eq_true rfl⟩) ⟨PZ_blind, va_recv hK hP (ci := 1) (q0 := 0) rfl rfl, PZ_pre hPc hKc hDc hF hZ hS hFc⟩ rfl rfl hl.1 rfl (lv_room (Nat.le_of_ble_eq_true rfl)) dX9_asWord_47 ⟨Nat.le_of_ble_eq_true rfl, Nat.le_of_ble_eq_true rfl⟩) hS (fun q _ h => hFc q h) hFc (fun u r_9 t H1 locs ht hvm hw hB hz1 hk1 hS => ?_)
      obtain ⟨fz_10, hP1, hK1, hD1, hx_11, hx_12⟩ := hB
      rw [ht] at hP1
      have hK1 := va_K.moved hvm.symm hK1
      obtain ⟨hP, hD⟩ := va_join (wr := []) (w1 := [(q_2, .inr (1, [.ref bv_4, .int 0, .int 0, .int 1])), (bv_4, .inl (kB_5, 16, .inl fz_10))]) hP hD [0, 1] [] rfl rfl (by decide) (by decide) hk1 hFc hP1 hD1
      have hK := hK.app hK1
      generalize H1 = H at hP hS ⊢
      have hP : va_P (dC, dI) vwCl [(q_2, .inr (1, [.ref bv_4, .int 0, .int 0, .int 1])), (bv_4, .inl (kB_5, 16, .inl fz_10))] H := hP
      have hD : va_D A [(q_2, .inr (1, [.ref bv_4, .int 0, .int 0, .int 1])), (bv_4, .inl (kB_5, 16, .inl fz_10))] := hD
      have hK : va_K (dC, dI) vwCl [(kB_5, .byte), (kB_5, .byte)] s := hK
      refine W.widen (k := 2) (n := 20) (Nat.le_of_ble_eq_true rfl) (Nat.le_of_ble_eq_true rfl) ?_
      refine lv_pop hx hb dX9_asWord_50 rfl ?_
      refine lv_lload_n hx hb dX9_asWord_51 rfl (lv_at hl 1 rfl) ?_
      refine lv_ldc2 (v := 256) hx hb hown (hts (.constantLong RX9 134 (256)) (List.mem_of_getElem? (i := 4) rfl)) dX9_asWord_52 ?_
      refine lv_ldiv hx hb dX9_asWord_55 (by decide) ?_
      refine lv_lstore_n (lv' := [(3, .long (c1 / 256)), (5, .int ((c1 - c1 / 256 * 256).toInt32)), (2, .ref q_2), (0, .long c1)]) hx hb dX9_asWord_56 rfl hl (by decide) rfl (fun ls hl => ?_)
      refine lv_goto (tgt := 18) hx hb dX9_asWord_57 (by decide) ?_
      refine lv_lload_n hx hb dX9_asWord_18 rfl (lv_at hl 0 rfl) ?_
      refine lv_lconst (v := 0) hx hb dX9_asWord_19 (by decide) ?_
      refine W.lcmp hx hb dX9_asWord_20 ?_
      refine lv_if_eq (tgt := 60) hx hb dX9_asWord_21 (by decide) (fun c_13 => ?_) (fun c_13 => ?_)
      · skip
        refine lv_aload_n hx hb dX9_asWord_60 rfl (lv_at hl 2 rfl) ?_
        have hPc := hP.sub (ws' := [(q_2, .inr (1, [.ref bv_4, .int 0, .int 0, .int 1])), (bv_4, .inl (kB_5, 16, .inl fz_10))]) [0, 1] rfl
        have hDc := hD.sub (ws' := [(q_2, .inr (1, [.ref bv_4, .int 0, .int 0, .int 1])), (bv_4, .inl (kB_5, 16, .inl fz_10))]) [0, 1] (by decide) rfl
        have hKc := hK.sub (tys' := [(kB_5, .byte)]) [0] rfl
        have hFc := va_free (wc := [(q_2, .inr (1, [.ref bv_4, .int 0, .int 0, .int 1])), (bv_4, .inl (kB_5, 16, .inl fz_10))]) hD hS hA [0, 1] rfl
        refine va_callr (va_runV (As := []) (rest := []) ⟨hx, hb, hml, hown, hts⟩ (c_SB_toString1 l dC dI d tc ad q_2 bv_4 kB_5 fz_10 H.size hx_12) (cwV 0 hts gX9_asWord_J4_toString_0e30d rfl rfl rfl (by decide +kernel) ⟨Nat.le_of_ble_eq_true rfl, Nat.le_of_ble_eq_true rfl⟩) ⟨PZ_blind, va_recv hK hP (ci := 1) (q0 := 0) rfl rfl, PZ_pre hPc hKc hDc hF hZ hS hFc⟩ rfl rfl hl.1 rfl (lv_room (Nat.le_of_ble_eq_true rfl)) dX9_asWord_61 ⟨Nat.le_of_ble_eq_true rfl, Nat.le_of_ble_eq_true rfl⟩) hS (fun q _ h => hFc q h) hFc (fun u r_14 t H1 locs ht hvm hw hB hz1 hk1 hS => ?_)
        obtain ⟨g2_15, hP1, hK1, hD1⟩ := hB
        rw [ht] at hP1
        have hK1 := va_K.moved hvm.symm hK1
        obtain ⟨hP, hD⟩ := va_join (wr := []) (w1 := [(r_14, .inr (0, [.ref g2_15, .int 0, .int 0, .int 0]))]) hP hD [0, 1] [] rfl rfl (by decide) (by decide) hk1 hFc hP1 hD1
        have hK := hK.app hK1
        generalize H1 = H at hP hS ⊢
        have hP : va_P (dC, dI) vwCl [(r_14, .inr (0, [.ref g2_15, .int 0, .int 0, .int 0]))] H := hP
        have hD : va_D A [(r_14, .inr (0, [.ref g2_15, .int 0, .int 0, .int 0]))] := hD
        have hK : va_K (dC, dI) vwCl [(kB_5, .byte), (kB_5, .byte)] s := hK
        refine W.widen (k := 4) (n := 25) (Nat.le_of_ble_eq_true rfl) (Nat.le_of_ble_eq_true rfl) ?_
        refine W.widen (k := 4) (n := 32) (Nat.le_of_ble_eq_true rfl) (Nat.le_of_ble_eq_true rfl) ?_
        have hP9 := hP.sub (ws' := [(r_14, .inr (0, [.ref g2_15, .int 0, .int 0, .int 0]))]) [0] rfl
        have hD9 := hD.sub (ws' := [(r_14, .inr (0, [.ref g2_15, .int 0, .int 0, .int 0]))]) [0] (by decide) rfl
        have hK9 := hK.sub (tys' := []) [] rfl
        exact W.aret (v := .ref r_14) hx hb hr (Or.inl ⟨_, rfl⟩) (Or.inr ⟨_, rfl⟩) (fun t ht hW => ⟨⟨some r_14, some r_14, rfl, ⟨rfl, fun h9 => (by cases h9), fun _ _ => (by rw [sp_M_asWord, if_pos c_1, aw, if_neg (pos_ne c_1), if_neg c_8, aw, if_pos c_13])⟩, fun a9 h9 => by cases h9; exact ⟨g2_15, by rw [ht]; exact hP9, va_K.moved hW.alike hK9, hD9⟩⟩, hS.F ht⟩) hS.2.2 dX9_asWord_64
      · skip
        refine lv_lload_n hx hb dX9_asWord_24 rfl (lv_at hl 0 rfl) ?_
        refine lv_ldc2 (v := 256) hx hb hown (hts (.constantLong RX9 134 (256)) (List.mem_of_getElem? (i := 4) rfl)) dX9_asWord_25 ?_
        refine lv_lrem hx hb dX9_asWord_28 (by decide) ?_
        refine lv_l2i hx hb dX9_asWord_29 rfl ?_
        refine lv_istore (lv' := [(5, .int (((c1 / 256) - (c1 / 256) / 256 * 256).toInt32)), (3, .long (c1 / 256)), (2, .ref q_2), (0, .long c1)]) hx hb dX9_asWord_30 hl (by decide) rfl (fun ls hl => ?_)
        refine lv_iload hx hb dX9_asWord_32 (lv_at hl 0 rfl) ?_
        refine vp_callSi (va_Run.run (va_runS (As := [.int (((c1 / 256) - (c1 / 256) / 256 * 256).toInt32)]) (rest := []) ⟨hx, hb, hml, hown, hts⟩ (c_M_letter l dC dI (((c1 / 256) - (c1 / 256) / 256 * 256).toInt32)) (va_cwS 1 hts gX9_asWord_X9_letter rfl rfl rfl (by decide +kernel) ⟨Nat.le_of_ble_eq_true rfl, Nat.le_of_ble_eq_true rfl⟩) ⟨PS_blind, PS_pre (hP.sub (ws' := []) [] rfl) (hK.sub (tys' := []) [] rfl) hF⟩ rfl rfl hl.1 rfl (lv_room (Nat.le_of_ble_eq_true rfl)) dX9_asWord_34 ⟨Nat.le_of_ble_eq_true rfl, Nat.le_of_ble_eq_true rfl⟩)) (fun r_16 hr_16 => ?_)
        subst hr_16
        refine lv_if_ne (tgt := 42) hx hb dX9_asWord_37 (by decide) (fun c_17 => ?_) (fun c_17 => ?_)
        · skip
          refine lv_aload_n hx hb dX9_asWord_42 rfl (lv_at hl 2 rfl) ?_
          refine lv_iconst (v := 0) hx hb dX9_asWord_43 (by decide) ?_
          refine lv_iload hx hb dX9_asWord_44 (lv_at hl 0 rfl) ?_
          refine lv_i2c hx hb dX9_asWord_46 rfl ?_
          have hPc := hP.sub (ws' := [(q_2, .inr (1, [.ref bv_4, .int 0, .int 0, .int 1])), (bv_4, .inl (kB_5, 16, .inl fz_10))]) [0, 1] rfl
          have hDc := hD.sub (ws' := [(q_2, .inr (1, [.ref bv_4, .int 0, .int 0, .int 1])), (bv_4, .inl (kB_5, 16, .inl fz_10))]) [0, 1] (by decide) rfl
          have hKc := hK.sub (tys' := [(kB_5, .byte)]) [0] rfl
          have hFc := va_free (wc := [(q_2, .inr (1, [.ref bv_4, .int 0, .int 0, .int 1])), (bv_4, .inl (kB_5, 16, .inl fz_10))]) hD hS hA [0, 1] rfl
          refine va_callr (va_runV (As := [.int 0, .int (((((c1 / 256) - (c1 / 256) / 256 * 256).toInt32).toUInt32 % 65536).toInt32)]) (rest := []) ⟨hx, hb, hml, hown, hts⟩ (c_SB_ins1 l dC dI d tc ad q_2 bv_4 kB_5 fz_10 (((((c1 / 256) - (c1 / 256) / 256 * 256).toInt32).toUInt32 % 65536).toInt32) H.size hx_12 (ce_of c_17)) (cwV 2 hts gX9_asWord_J4_insert_a3ee8 rfl rfl rfl (by decide +kernel) ⟨Nat.le_of_ble_eq_true rfl, Nat.le_of_ble_eq_true rfl⟩) ⟨PZ_blind, va_recv hK hP (ci := 1) (q0 := 0) rfl rfl, PZ_pre hPc hKc hDc hF hZ hS hFc⟩ rfl rfl hl.1 rfl (lv_room (Nat.le_of_ble_eq_true rfl)) dX9_asWord_47 ⟨Nat.le_of_ble_eq_true rfl, Nat.le_of_ble_eq_true rfl⟩) hS (fun q _ h => hFc q h) hFc (fun u r_18 t H1 locs ht hvm hw hB hz1 hk1 hS => ?_)
          obtain ⟨fz_19, hP1, hK1, hD1, hx_20, hx_21⟩ := hB
          rw [ht] at hP1
          have hK1 := va_K.moved hvm.symm hK1
          obtain ⟨hP, hD⟩ := va_join (wr := []) (w1 := [(q_2, .inr (1, [.ref bv_4, .int 0, .int 0, .int 2])), (bv_4, .inl (kB_5, 16, .inl fz_19))]) hP hD [0, 1] [] rfl rfl (by decide) (by decide) hk1 hFc hP1 hD1
          have hK := hK.app hK1
          generalize H1 = H at hP hS ⊢
          have hP : va_P (dC, dI) vwCl [(q_2, .inr (1, [.ref bv_4, .int 0, .int 0, .int 2])), (bv_4, .inl (kB_5, 16, .inl fz_19))] H := hP
          have hD : va_D A [(q_2, .inr (1, [.ref bv_4, .int 0, .int 0, .int 2])), (bv_4, .inl (kB_5, 16, .inl fz_19))] := hD
          have hK : va_K (dC, dI) vwCl [(kB_5, .byte), (kB_5, .byte), (kB_5, .byte)] s := hK
          refine W.widen (k := 2) (n := 20) (Nat.le_of_ble_eq_true rfl) (Nat.le_of_ble_eq_true rfl) ?_
          refine lv_pop hx hb dX9_asWord_50 rfl ?_
          refine lv_lload_n hx hb dX9_asWord_51 rfl (lv_at hl 1 rfl) ?_
          refine lv_ldc2 (v := 256) hx hb hown (hts (.constantLong RX9 134 (256)) (List.mem_of_getElem? (i := 4) rfl)) dX9_asWord_52 ?_
          refine lv_ldiv hx hb dX9_asWord_55 (by decide) ?_
          refine lv_lstore_n (lv' := [(3, .long ((c1 / 256) / 256)), (5, .int (((c1 / 256) - (c1 / 256) / 256 * 256).toInt32)), (2, .ref q_2), (0, .long c1)]) hx hb dX9_asWord_56 rfl hl (by decide) rfl (fun ls hl => ?_)
          refine lv_goto (tgt := 18) hx hb dX9_asWord_57 (by decide) ?_
          refine lv_lload_n hx hb dX9_asWord_18 rfl (lv_at hl 0 rfl) ?_
          refine lv_lconst (v := 0) hx hb dX9_asWord_19 (by decide) ?_
          refine W.lcmp hx hb dX9_asWord_20 ?_
          refine lv_if_eq (tgt := 60) hx hb dX9_asWord_21 (by decide) (fun c_22 => ?_) (fun c_22 => ?_)
          · skip
            refine lv_aload_n hx hb dX9_asWord_60 rfl (lv_at hl 2 rfl) ?_
            have hPc := hP.sub (ws' := [(q_2, .inr (1, [.ref bv_4, .int 0, .int 0, .int 2])), (bv_4, .inl (kB_5, 16, .inl fz_19))]) [0, 1] rfl
            have hDc := hD.sub (ws' := [(q_2, .inr (1, [.ref bv_4, .int 0, .int 0, .int 2])), (bv_4, .inl (kB_5, 16, .inl fz_19))]) [0, 1] (by decide) rfl
            have hKc := hK.sub (tys' := [(kB_5, .byte)]) [0] rfl
            have hFc := va_free (wc := [(q_2, .inr (1, [.ref bv_4, .int 0, .int 0, .int 2])), (bv_4, .inl (kB_5, 16, .inl fz_19))]) hD hS hA [0, 1] rfl
            refine va_callr (va_runV (As := []) (rest := []) ⟨hx, hb, hml, hown, hts⟩ (c_SB_toString2 l dC dI d tc ad q_2 bv_4 kB_5 fz_19 H.size hx_21) (cwV 0 hts gX9_asWord_J4_toString_0e30d rfl rfl rfl (by decide +kernel) ⟨Nat.le_of_ble_eq_true rfl, Nat.le_of_ble_eq_true rfl⟩) ⟨PZ_blind, va_recv hK hP (ci := 1) (q0 := 0) rfl rfl, PZ_pre hPc hKc hDc hF hZ hS hFc⟩ rfl rfl hl.1 rfl (lv_room (Nat.le_of_ble_eq_true rfl)) dX9_asWord_61 ⟨Nat.le_of_ble_eq_true rfl, Nat.le_of_ble_eq_true rfl⟩) hS (fun q _ h => hFc q h) hFc (fun u r_23 t H1 locs ht hvm hw hB hz1 hk1 hS => ?_)
            obtain ⟨g2_24, hP1, hK1, hD1⟩ := hB
            rw [ht] at hP1
            have hK1 := va_K.moved hvm.symm hK1
            obtain ⟨hP, hD⟩ := va_join (wr := []) (w1 := [(r_23, .inr (0, [.ref g2_24, .int 0, .int 0, .int 0]))]) hP hD [0, 1] [] rfl rfl (by decide) (by decide) hk1 hFc hP1 hD1
            have hK := hK.app hK1
            generalize H1 = H at hP hS ⊢
            have hP : va_P (dC, dI) vwCl [(r_23, .inr (0, [.ref g2_24, .int 0, .int 0, .int 0]))] H := hP
            have hD : va_D A [(r_23, .inr (0, [.ref g2_24, .int 0, .int 0, .int 0]))] := hD
            have hK : va_K (dC, dI) vwCl [(kB_5, .byte), (kB_5, .byte), (kB_5, .byte)] s := hK
            refine W.widen (k := 4) (n := 26) (Nat.le_of_ble_eq_true rfl) (Nat.le_of_ble_eq_true rfl) ?_
            refine W.widen (k := 4) (n := 32) (Nat.le_of_ble_eq_true rfl) (Nat.le_of_ble_eq_true rfl) ?_
            have hP9 := hP.sub (ws' := [(r_23, .inr (0, [.ref g2_24, .int 0, .int 0, .int 0]))]) [0] rfl
            have hD9 := hD.sub (ws' := [(r_23, .inr (0, [.ref g2_24, .int 0, .int 0, .int 0]))]) [0] (by decide) rfl
            have hK9 := hK.sub (tys' := []) [] rfl
            exact W.aret (v := .ref r_23) hx hb hr (Or.inl ⟨_, rfl⟩) (Or.inr ⟨_, rfl⟩) (fun t ht hW => ⟨⟨some r_23, some r_23, rfl, ⟨rfl, fun h9 => (by cases h9), fun _ _ => (by rw [sp_M_asWord, if_pos c_1, aw, if_neg (pos_ne c_1), if_neg c_8, aw, if_neg c_13, if_neg c_17, aw, if_pos c_22])⟩, fun a9 h9 => by cases h9; exact ⟨g2_24, by rw [ht]; exact hP9, va_K.moved hW.alike hK9, hD9⟩⟩, hS.F ht⟩) hS.2.2 dX9_asWord_64
          · skip
            refine lv_lload_n hx hb dX9_asWord_24 rfl (lv_at hl 0 rfl) ?_
            refine lv_ldc2 (v := 256) hx hb hown (hts (.constantLong RX9 134 (256)) (List.mem_of_getElem? (i := 4) rfl)) dX9_asWord_25 ?_
            refine lv_lrem hx hb dX9_asWord_28 (by decide) ?_
            refine lv_l2i hx hb dX9_asWord_29 rfl ?_
            refine lv_istore (lv' := [(5, .int ((((c1 / 256) / 256) - ((c1 / 256) / 256) / 256 * 256).toInt32)), (3, .long ((c1 / 256) / 256)), (2, .ref q_2), (0, .long c1)]) hx hb dX9_asWord_30 hl (by decide) rfl (fun ls hl => ?_)
            refine lv_iload hx hb dX9_asWord_32 (lv_at hl 0 rfl) ?_
            refine vp_callSi (va_Run.run (va_runS (As := [.int ((((c1 / 256) / 256) - ((c1 / 256) / 256) / 256 * 256).toInt32)]) (rest := []) ⟨hx, hb, hml, hown, hts⟩ (c_M_letter l dC dI ((((c1 / 256) / 256) - ((c1 / 256) / 256) / 256 * 256).toInt32)) (va_cwS 1 hts gX9_asWord_X9_letter rfl rfl rfl (by decide +kernel) ⟨Nat.le_of_ble_eq_true rfl, Nat.le_of_ble_eq_true rfl⟩) ⟨PS_blind, PS_pre (hP.sub (ws' := []) [] rfl) (hK.sub (tys' := []) [] rfl) hF⟩ rfl rfl hl.1 rfl (lv_room (Nat.le_of_ble_eq_true rfl)) dX9_asWord_34 ⟨Nat.le_of_ble_eq_true rfl, Nat.le_of_ble_eq_true rfl⟩)) (fun r_25 hr_25 => ?_)
            subst hr_25
            refine lv_if_ne (tgt := 42) hx hb dX9_asWord_37 (by decide) (fun c_26 => ?_) (fun c_26 => ?_)
            · skip
              refine lv_aload_n hx hb dX9_asWord_42 rfl (lv_at hl 2 rfl) ?_
              refine lv_iconst (v := 0) hx hb dX9_asWord_43 (by decide) ?_
              refine lv_iload hx hb dX9_asWord_44 (lv_at hl 0 rfl) ?_
              refine lv_i2c hx hb dX9_asWord_46 rfl ?_
              have hPc := hP.sub (ws' := [(q_2, .inr (1, [.ref bv_4, .int 0, .int 0, .int 2])), (bv_4, .inl (kB_5, 16, .inl fz_19))]) [0, 1] rfl
              have hDc := hD.sub (ws' := [(q_2, .inr (1, [.ref bv_4, .int 0, .int 0, .int 2])), (bv_4, .inl (kB_5, 16, .inl fz_19))]) [0, 1] (by decide) rfl
              have hKc := hK.sub (tys' := [(kB_5, .byte)]) [0] rfl
              have hFc := va_free (wc := [(q_2, .inr (1, [.ref bv_4, .int 0, .int 0, .int 2])), (bv_4, .inl (kB_5, 16, .inl fz_19))]) hD hS hA [0, 1] rfl
              refine va_callr (va_runV (As := [.int 0, .int ((((((c1 / 256) / 256) - ((c1 / 256) / 256) / 256 * 256).toInt32).toUInt32 % 65536).toInt32)]) (rest := []) ⟨hx, hb, hml, hown, hts⟩ (c_SB_ins2 l dC dI d tc ad q_2 bv_4 kB_5 fz_19 ((((((c1 / 256) / 256) - ((c1 / 256) / 256) / 256 * 256).toInt32).toUInt32 % 65536).toInt32) H.size hx_21 (ce_of c_26)) (cwV 2 hts gX9_asWord_J4_insert_a3ee8 rfl rfl rfl (by decide +kernel) ⟨Nat.le_of_ble_eq_true rfl, Nat.le_of_ble_eq_true rfl⟩) ⟨PZ_blind, va_recv hK hP (ci := 1) (q0 := 0) rfl rfl, PZ_pre hPc hKc hDc hF hZ hS hFc⟩ rfl rfl hl.1 rfl (lv_room (Nat.le_of_ble_eq_true rfl)) dX9_asWord_47 ⟨Nat.le_of_ble_eq_true rfl, Nat.le_of_ble_eq_true rfl⟩) hS (fun q _ h => hFc q h) hFc (fun u r_27 t H1 locs ht hvm hw hB hz1 hk1 hS => ?_)
              obtain ⟨fz_28, hP1, hK1, hD1, hx_29, hx_30⟩ := hB
              rw [ht] at hP1
              have hK1 := va_K.moved hvm.symm hK1
              obtain ⟨hP, hD⟩ := va_join (wr := []) (w1 := [(q_2, .inr (1, [.ref bv_4, .int 0, .int 0, .int 3])), (bv_4, .inl (kB_5, 16, .inl fz_28))]) hP hD [0, 1] [] rfl rfl (by decide) (by decide) hk1 hFc hP1 hD1
              have hK := hK.app hK1
              generalize H1 = H at hP hS ⊢
              have hP : va_P (dC, dI) vwCl [(q_2, .inr (1, [.ref bv_4, .int 0, .int 0, .int 3])), (bv_4, .inl (kB_5, 16, .inl fz_28))] H := hP
              have hD : va_D A [(q_2, .inr (1, [.ref bv_4, .int 0, .int 0, .int 3])), (bv_4, .inl (kB_5, 16, .inl fz_28))] := hD
              have hK : va_K (dC, dI) vwCl [(kB_5, .byte), (kB_5, .byte), (kB_5, .byte), (kB_5, .byte)] s := hK
              refine W.widen (k := 2) (n := 20) (Nat.le_of_ble_eq_true rfl) (Nat.le_of_ble_eq_true rfl) ?_
              refine lv_pop hx hb dX9_asWord_50 rfl ?_
              refine lv_lload_n hx hb dX9_asWord_51 rfl (lv_at hl 1 rfl) ?_
              refine lv_ldc2 (v := 256) hx hb hown (hts (.constantLong RX9 134 (256)) (List.mem_of_getElem? (i := 4) rfl)) dX9_asWord_52 ?_
              refine lv_ldiv hx hb dX9_asWord_55 (by decide) ?_
              refine lv_lstore_n (lv' := [(3, .long (((c1 / 256) / 256) / 256)), (5, .int ((((c1 / 256) / 256) - ((c1 / 256) / 256) / 256 * 256).toInt32)), (2, .ref q_2), (0, .long c1)]) hx hb dX9_asWord_56 rfl hl (by decide) rfl (fun ls hl => ?_)
              refine lv_goto (tgt := 18) hx hb dX9_asWord_57 (by decide) ?_
              refine lv_lload_n hx hb dX9_asWord_18 rfl (lv_at hl 0 rfl) ?_
              refine lv_lconst (v := 0) hx hb dX9_asWord_19 (by decide) ?_
              refine W.lcmp hx hb dX9_asWord_20 ?_
              refine lv_if_eq (tgt := 60) hx hb dX9_asWord_21 (by decide) (fun c_31 => ?_) (fun c_31 => ?_)
              · skip
                refine lv_aload_n hx hb dX9_asWord_60 rfl (lv_at hl 2 rfl) ?_
                have hPc := hP.sub (ws' := [(q_2, .inr (1, [.ref bv_4, .int 0, .int 0, .int 3])), (bv_4, .inl (kB_5, 16, .inl fz_28))]) [0, 1] rfl
                have hDc := hD.sub (ws' := [(q_2, .inr (1, [.ref bv_4, .int 0, .int 0, .int 3])), (bv_4, .inl (kB_5, 16, .inl fz_28))]) [0, 1] (by decide) rfl
                have hKc := hK.sub (tys' := [(kB_5, .byte)]) [0] rfl
                have hFc := va_free (wc := [(q_2, .inr (1, [.ref bv_4, .int 0, .int 0, .int 3])), (bv_4, .inl (kB_5, 16, .inl fz_28))]) hD hS hA [0, 1] rfl
                refine va_callr (va_runV (As := []) (rest := []) ⟨hx, hb, hml, hown, hts⟩ (c_SB_toString3 l dC dI d tc ad q_2 bv_4 kB_5 fz_28 H.size hx_30) (cwV 0 hts gX9_asWord_J4_toString_0e30d rfl rfl rfl (by decide +kernel) ⟨Nat.le_of_ble_eq_true rfl, Nat.le_of_ble_eq_true rfl⟩) ⟨PZ_blind, va_recv hK hP (ci := 1) (q0 := 0) rfl rfl, PZ_pre hPc hKc hDc hF hZ hS hFc⟩ rfl rfl hl.1 rfl (lv_room (Nat.le_of_ble_eq_true rfl)) dX9_asWord_61 ⟨Nat.le_of_ble_eq_true rfl, Nat.le_of_ble_eq_true rfl⟩) hS (fun q _ h => hFc q h) hFc (fun u r_32 t H1 locs ht hvm hw hB hz1 hk1 hS => ?_)
                obtain ⟨g2_33, hP1, hK1, hD1⟩ := hB
                rw [ht] at hP1
                have hK1 := va_K.moved hvm.symm hK1
                obtain ⟨hP, hD⟩ := va_join (wr := []) (w1 := [(r_32, .inr (0, [.ref g2_33, .int 0, .int 0, .int 0]))]) hP hD [0, 1] [] rfl rfl (by decide) (by decide) hk1 hFc hP1 hD1
                have hK := hK.app hK1
                generalize H1 = H at hP hS ⊢
                have hP : va_P (dC, dI) vwCl [(r_32, .inr (0, [.ref g2_33, .int 0, .int 0, .int 0]))] H := hP
                have hD : va_D A [(r_32, .inr (0, [.ref g2_33, .int 0, .int 0, .int 0]))] := hD
                have hK : va_K (dC, dI) vwCl [(kB_5, .byte), (kB_5, .byte), (kB_5, .byte), (kB_5, .byte)] s := hK
                refine W.widen (k := 4) (n := 27) (Nat.le_of_ble_eq_true rfl) (Nat.le_of_ble_eq_true rfl) ?_
                refine W.widen (k := 4) (n := 32) (Nat.le_of_ble_eq_true rfl) (Nat.le_of_ble_eq_true rfl) ?_
                have hP9 := hP.sub (ws' := [(r_32, .inr (0, [.ref g2_33, .int 0, .int 0, .int 0]))]) [0] rfl
                have hD9 := hD.sub (ws' := [(r_32, .inr (0, [.ref g2_33, .int 0, .int 0, .int 0]))]) [0] (by decide) rfl
                have hK9 := hK.sub (tys' := []) [] rfl
                exact W.aret (v := .ref r_32) hx hb hr (Or.inl ⟨_, rfl⟩) (Or.inr ⟨_, rfl⟩) (fun t ht hW => ⟨⟨some r_32, some r_32, rfl, ⟨rfl, fun h9 => (by cases h9), fun _ _ => (by rw [sp_M_asWord, if_pos c_1, aw, if_neg (pos_ne c_1), if_neg c_8, aw, if_neg c_13, if_neg c_17, aw, if_neg c_22, if_neg c_26, aw, if_pos c_31])⟩, fun a9 h9 => by cases h9; exact ⟨g2_33, by rw [ht]; exact hP9, va_K.moved hW.alike hK9, hD9⟩⟩, hS.F ht⟩) hS.2.2 dX9_asWord_64
              · skip
                refine lv_lload_n hx hb dX9_asWord_24 rfl (lv_at hl 0 rfl) ?_
                refine lv_ldc2 (v := 256) hx hb hown (hts (.constantLong RX9 134 (256)) (List.mem_of_getElem? (i := 4) rfl)) dX9_asWord_25 ?_
                refine lv_lrem hx hb dX9_asWord_28 (by decide) ?_
                refine lv_l2i hx hb dX9_asWord_29 rfl ?_
                refine lv_istore (lv' := [(5, .int (((((c1 / 256) / 256) / 256) - (((c1 / 256) / 256) / 256) / 256 * 256).toInt32)), (3, .long (((c1 / 256) / 256) / 256)), (2, .ref q_2), (0, .long c1)]) hx hb dX9_asWord_30 hl (by decide) rfl (fun ls hl => ?_)
                refine lv_iload hx hb dX9_asWord_32 (lv_at hl 0 rfl) ?_
                refine vp_callSi (va_Run.run (va_runS (As := [.int (((((c1 / 256) / 256) / 256) - (((c1 / 256) / 256) / 256) / 256 * 256).toInt32)]) (rest := []) ⟨hx, hb, hml, hown, hts⟩ (c_M_letter l dC dI (((((c1 / 256) / 256) / 256) - (((c1 / 256) / 256) / 256) / 256 * 256).toInt32)) (va_cwS 1 hts gX9_asWord_X9_letter rfl rfl rfl (by decide +kernel) ⟨Nat.le_of_ble_eq_true rfl, Nat.le_of_ble_eq_true rfl⟩) ⟨PS_blind, PS_pre (hP.sub (ws' := []) [] rfl) (hK.sub (tys' := []) [] rfl) hF⟩ rfl rfl hl.1 rfl (lv_room (Nat.le_of_ble_eq_true rfl)) dX9_asWord_34 ⟨Nat.le_of_ble_eq_true rfl, Nat.le_of_ble_eq_true rfl⟩)) (fun r_34 hr_34 => ?_)
                subst hr_34
                refine lv_if_ne (tgt := 42) hx hb dX9_asWord_37 (by decide) (fun c_35 => ?_) (fun c_35 => ?_)
                · skip
                  refine lv_aload_n hx hb dX9_asWord_42 rfl (lv_at hl 2 rfl) ?_
                  refine lv_iconst (v := 0) hx hb dX9_asWord_43 (by decide) ?_
                  refine lv_iload hx hb dX9_asWord_44 (lv_at hl 0 rfl) ?_
                  refine lv_i2c hx hb dX9_asWord_46 rfl ?_
                  have hPc := hP.sub (ws' := [(q_2, .inr (1, [.ref bv_4, .int 0, .int 0, .int 3])), (bv_4, .inl (kB_5, 16, .inl fz_28))]) [0, 1] rfl
                  have hDc := hD.sub (ws' := [(q_2, .inr (1, [.ref bv_4, .int 0, .int 0, .int 3])), (bv_4, .inl (kB_5, 16, .inl fz_28))]) [0, 1] (by decide) rfl
                  have hKc := hK.sub (tys' := [(kB_5, .byte)]) [0] rfl
                  have hFc := va_free (wc := [(q_2, .inr (1, [.ref bv_4, .int 0, .int 0, .int 3])), (bv_4, .inl (kB_5, 16, .inl fz_28))]) hD hS hA [0, 1] rfl
                  refine va_callr (va_runV (As := [.int 0, .int (((((((c1 / 256) / 256) / 256) - (((c1 / 256) / 256) / 256) / 256 * 256).toInt32).toUInt32 % 65536).toInt32)]) (rest := []) ⟨hx, hb, hml, hown, hts⟩ (c_SB_ins3 l dC dI d tc ad q_2 bv_4 kB_5 fz_28 (((((((c1 / 256) / 256) / 256) - (((c1 / 256) / 256) / 256) / 256 * 256).toInt32).toUInt32 % 65536).toInt32) H.size hx_30 (ce_of c_35)) (cwV 2 hts gX9_asWord_J4_insert_a3ee8 rfl rfl rfl (by decide +kernel) ⟨Nat.le_of_ble_eq_true rfl, Nat.le_of_ble_eq_true rfl⟩) ⟨PZ_blind, va_recv hK hP (ci := 1) (q0 := 0) rfl rfl, PZ_pre hPc hKc hDc hF hZ hS hFc⟩ rfl rfl hl.1 rfl (lv_room (Nat.le_of_ble_eq_true rfl)) dX9_asWord_47 ⟨Nat.le_of_ble_eq_true rfl, Nat.le_of_ble_eq_true rfl⟩) hS (fun q _ h => hFc q h) hFc (fun u r_36 t H1 locs ht hvm hw hB hz1 hk1 hS => ?_)
                  obtain ⟨fz_37, hP1, hK1, hD1, hx_38, hx_39⟩ := hB
                  rw [ht] at hP1
                  have hK1 := va_K.moved hvm.symm hK1
                  obtain ⟨hP, hD⟩ := va_join (wr := []) (w1 := [(q_2, .inr (1, [.ref bv_4, .int 0, .int 0, .int 4])), (bv_4, .inl (kB_5, 16, .inl fz_37))]) hP hD [0, 1] [] rfl rfl (by decide) (by decide) hk1 hFc hP1 hD1
                  have hK := hK.app hK1
                  generalize H1 = H at hP hS ⊢
                  have hP : va_P (dC, dI) vwCl [(q_2, .inr (1, [.ref bv_4, .int 0, .int 0, .int 4])), (bv_4, .inl (kB_5, 16, .inl fz_37))] H := hP
                  have hD : va_D A [(q_2, .inr (1, [.ref bv_4, .int 0, .int 0, .int 4])), (bv_4, .inl (kB_5, 16, .inl fz_37))] := hD
                  have hK : va_K (dC, dI) vwCl [(kB_5, .byte), (kB_5, .byte), (kB_5, .byte), (kB_5, .byte), (kB_5, .byte)] s := hK
                  refine W.widen (k := 2) (n := 20) (Nat.le_of_ble_eq_true rfl) (Nat.le_of_ble_eq_true rfl) ?_
                  refine lv_pop hx hb dX9_asWord_50 rfl ?_
                  refine lv_lload_n hx hb dX9_asWord_51 rfl (lv_at hl 1 rfl) ?_
                  refine lv_ldc2 (v := 256) hx hb hown (hts (.constantLong RX9 134 (256)) (List.mem_of_getElem? (i := 4) rfl)) dX9_asWord_52 ?_
                  refine lv_ldiv hx hb dX9_asWord_55 (by decide) ?_
                  refine lv_lstore_n (lv' := [(3, .long ((((c1 / 256) / 256) / 256) / 256)), (5, .int (((((c1 / 256) / 256) / 256) - (((c1 / 256) / 256) / 256) / 256 * 256).toInt32)), (2, .ref q_2), (0, .long c1)]) hx hb dX9_asWord_56 rfl hl (by decide) rfl (fun ls hl => ?_)
                  refine lv_goto (tgt := 18) hx hb dX9_asWord_57 (by decide) ?_
                  refine lv_lload_n hx hb dX9_asWord_18 rfl (lv_at hl 0 rfl) ?_
                  refine lv_lconst (v := 0) hx hb dX9_asWord_19 (by decide) ?_
                  refine W.lcmp hx hb dX9_asWord_20 ?_
                  refine lv_if_eq (tgt := 60) hx hb dX9_asWord_21 (by decide) (fun c_40 => ?_) (fun c_40 => ?_)
                  · skip
                    refine lv_aload_n hx hb dX9_asWord_60 rfl (lv_at hl 2 rfl) ?_
                    have hPc := hP.sub (ws' := [(q_2, .inr (1, [.ref bv_4, .int 0, .int 0, .int 4])), (bv_4, .inl (kB_5, 16, .inl fz_37))]) [0, 1] rfl
                    have hDc := hD.sub (ws' := [(q_2, .inr (1, [.ref bv_4, .int 0, .int 0, .int 4])), (bv_4, .inl (kB_5, 16, .inl fz_37))]) [0, 1] (by decide) rfl
                    have hKc := hK.sub (tys' := [(kB_5, .byte)]) [0] rfl
                    have hFc := va_free (wc := [(q_2, .inr (1, [.ref bv_4, .int 0, .int 0, .int 4])), (bv_4, .inl (kB_5, 16, .inl fz_37))]) hD hS hA [0, 1] rfl
                    refine va_callr (va_runV (As := []) (rest := []) ⟨hx, hb, hml, hown, hts⟩ (c_SB_toString4 l dC dI d tc ad q_2 bv_4 kB_5 fz_37 H.size hx_39) (cwV 0 hts gX9_asWord_J4_toString_0e30d rfl rfl rfl (by decide +kernel) ⟨Nat.le_of_ble_eq_true rfl, Nat.le_of_ble_eq_true rfl⟩) ⟨PZ_blind, va_recv hK hP (ci := 1) (q0 := 0) rfl rfl, PZ_pre hPc hKc hDc hF hZ hS hFc⟩ rfl rfl hl.1 rfl (lv_room (Nat.le_of_ble_eq_true rfl)) dX9_asWord_61 ⟨Nat.le_of_ble_eq_true rfl, Nat.le_of_ble_eq_true rfl⟩) hS (fun q _ h => hFc q h) hFc (fun u r_41 t H1 locs ht hvm hw hB hz1 hk1 hS => ?_)
                    obtain ⟨g2_42, hP1, hK1, hD1⟩ := hB
                    rw [ht] at hP1
                    have hK1 := va_K.moved hvm.symm hK1
                    obtain ⟨hP, hD⟩ := va_join (wr := []) (w1 := [(r_41, .inr (0, [.ref g2_42, .int 0, .int 0, .int 0]))]) hP hD [0, 1] [] rfl rfl (by decide) (by decide) hk1 hFc hP1 hD1
                    have hK := hK.app hK1
                    generalize H1 = H at hP hS ⊢
                    have hP : va_P (dC, dI) vwCl [(r_41, .inr (0, [.ref g2_42, .int 0, .int 0, .int 0]))] H := hP
                    have hD : va_D A [(r_41, .inr (0, [.ref g2_42, .int 0, .int 0, .int 0]))] := hD
                    have hK : va_K (dC, dI) vwCl [(kB_5, .byte), (kB_5, .byte), (kB_5, .byte), (kB_5, .byte), (kB_5, .byte)] s := hK
                    refine W.widen (k := 4) (n := 28) (Nat.le_of_ble_eq_true rfl) (Nat.le_of_ble_eq_true rfl) ?_
                    refine W.widen (k := 4) (n := 32) (Nat.le_of_ble_eq_true rfl) (Nat.le_of_ble_eq_true rfl) ?_
                    have hP9 := hP.sub (ws' := [(r_41, .inr (0, [.ref g2_42, .int 0, .int 0, .int 0]))]) [0] rfl
                    have hD9 := hD.sub (ws' := [(r_41, .inr (0, [.ref g2_42, .int 0, .int 0, .int 0]))]) [0] (by decide) rfl
                    have hK9 := hK.sub (tys' := []) [] rfl
                    exact W.aret (v := .ref r_41) hx hb hr (Or.inl ⟨_, rfl⟩) (Or.inr ⟨_, rfl⟩) (fun t ht hW => ⟨⟨some r_41, some r_41, rfl, ⟨rfl, fun h9 => (by cases h9), fun _ _ => (by rw [sp_M_asWord, if_pos c_1, aw, if_neg (pos_ne c_1), if_neg c_8, aw, if_neg c_13, if_neg c_17, aw, if_neg c_22, if_neg c_26, aw, if_neg c_31, if_neg c_35, aw, if_pos c_40])⟩, fun a9 h9 => by cases h9; exact ⟨g2_42, by rw [ht]; exact hP9, va_K.moved hW.alike hK9, hD9⟩⟩, hS.F ht⟩) hS.2.2 dX9_asWord_64
                  · skip
                    refine lv_lload_n hx hb dX9_asWord_24 rfl (lv_at hl 0 rfl) ?_
                    refine lv_ldc2 (v := 256) hx hb hown (hts (.constantLong RX9 134 (256)) (List.mem_of_getElem? (i := 4) rfl)) dX9_asWord_25 ?_
                    refine lv_lrem hx hb dX9_asWord_28 (by decide) ?_
                    refine lv_l2i hx hb dX9_asWord_29 rfl ?_
                    refine lv_istore (lv' := [(5, .int ((((((c1 / 256) / 256) / 256) / 256) - ((((c1 / 256) / 256) / 256) / 256) / 256 * 256).toInt32)), (3, .long ((((c1 / 256) / 256) / 256) / 256)), (2, .ref q_2), (0, .long c1)]) hx hb dX9_asWord_30 hl (by decide) rfl (fun ls hl => ?_)
                    refine lv_iload hx hb dX9_asWord_32 (lv_at hl 0 rfl) ?_
                    refine vp_callSi (va_Run.run (va_runS (As := [.int ((((((c1 / 256) / 256) / 256) / 256) - ((((c1 / 256) / 256) / 256) / 256) / 256 * 256).toInt32)]) (rest := []) ⟨hx, hb, hml, hown, hts⟩ (c_M_letter l dC dI ((((((c1 / 256) / 256) / 256) / 256) - ((((c1 / 256) / 256) / 256) / 256) / 256 * 256).toInt32)) (va_cwS 1 hts gX9_asWord_X9_letter rfl rfl rfl (by decide +kernel) ⟨Nat.le_of_ble_eq_true rfl, Nat.le_of_ble_eq_true rfl⟩) ⟨PS_blind, PS_pre (hP.sub (ws' := []) [] rfl) (hK.sub (tys' := []) [] rfl) hF⟩ rfl rfl hl.1 rfl (lv_room (Nat.le_of_ble_eq_true rfl)) dX9_asWord_34 ⟨Nat.le_of_ble_eq_true rfl, Nat.le_of_ble_eq_true rfl⟩)) (fun r_43 hr_43 => ?_)
                    subst hr_43
                    refine lv_if_ne (tgt := 42) hx hb dX9_asWord_37 (by decide) (fun c_44 => ?_) (fun c_44 => ?_)
                    · skip
                      refine lv_aload_n hx hb dX9_asWord_42 rfl (lv_at hl 2 rfl) ?_
                      refine lv_iconst (v := 0) hx hb dX9_asWord_43 (by decide) ?_
                      refine lv_iload hx hb dX9_asWord_44 (lv_at hl 0 rfl) ?_
                      refine lv_i2c hx hb dX9_asWord_46 rfl ?_
                      have hPc := hP.sub (ws' := [(q_2, .inr (1, [.ref bv_4, .int 0, .int 0, .int 4])), (bv_4, .inl (kB_5, 16, .inl fz_37))]) [0, 1] rfl
                      have hDc := hD.sub (ws' := [(q_2, .inr (1, [.ref bv_4, .int 0, .int 0, .int 4])), (bv_4, .inl (kB_5, 16, .inl fz_37))]) [0, 1] (by decide) rfl
                      have hKc := hK.sub (tys' := [(kB_5, .byte)]) [0] rfl
                      have hFc := va_free (wc := [(q_2, .inr (1, [.ref bv_4, .int 0, .int 0, .int 4])), (bv_4, .inl (kB_5, 16, .inl fz_37))]) hD hS hA [0, 1] rfl
                      refine va_callr (va_runV (As := [.int 0, .int ((((((((c1 / 256) / 256) / 256) / 256) - ((((c1 / 256) / 256) / 256) / 256) / 256 * 256).toInt32).toUInt32 % 65536).toInt32)]) (rest := []) ⟨hx, hb, hml, hown, hts⟩ (c_SB_ins4 l dC dI d tc ad q_2 bv_4 kB_5 fz_37 ((((((((c1 / 256) / 256) / 256) / 256) - ((((c1 / 256) / 256) / 256) / 256) / 256 * 256).toInt32).toUInt32 % 65536).toInt32) H.size hx_39 (ce_of c_44)) (cwV 2 hts gX9_asWord_J4_insert_a3ee8 rfl rfl rfl (by decide +kernel) ⟨Nat.le_of_ble_eq_true rfl, Nat.le_of_ble_eq_true rfl⟩) ⟨PZ_blind, va_recv hK hP (ci := 1) (q0 := 0) rfl rfl, PZ_pre hPc hKc hDc hF hZ hS hFc⟩ rfl rfl hl.1 rfl (lv_room (Nat.le_of_ble_eq_true rfl)) dX9_asWord_47 ⟨Nat.le_of_ble_eq_true rfl, Nat.le_of_ble_eq_true rfl⟩) hS (fun q _ h => hFc q h) hFc (fun u r_45 t H1 locs ht hvm hw hB hz1 hk1 hS => ?_)
                      obtain ⟨fz_46, hP1, hK1, hD1, hx_47, hx_48⟩ := hB
                      rw [ht] at hP1
                      have hK1 := va_K.moved hvm.symm hK1
                      obtain ⟨hP, hD⟩ := va_join (wr := []) (w1 := [(q_2, .inr (1, [.ref bv_4, .int 0, .int 0, .int 5])), (bv_4, .inl (kB_5, 16, .inl fz_46))]) hP hD [0, 1] [] rfl rfl (by decide) (by decide) hk1 hFc hP1 hD1
                      have hK := hK.app hK1
                      generalize H1 = H at hP hS ⊢
                      have hP : va_P (dC, dI) vwCl [(q_2, .inr (1, [.ref bv_4, .int 0, .int 0, .int 5])), (bv_4, .inl (kB_5, 16, .inl fz_46))] H := hP
                      have hD : va_D A [(q_2, .inr (1, [.ref bv_4, .int 0, .int 0, .int 5])), (bv_4, .inl (kB_5, 16, .inl fz_46))] := hD
                      have hK : va_K (dC, dI) vwCl [(kB_5, .byte), (kB_5, .byte), (kB_5, .byte), (kB_5, .byte), (kB_5, .byte), (kB_5, .byte)] s := hK
                      refine W.widen (k := 2) (n := 20) (Nat.le_of_ble_eq_true rfl) (Nat.le_of_ble_eq_true rfl) ?_
                      refine lv_pop hx hb dX9_asWord_50 rfl ?_
                      refine lv_lload_n hx hb dX9_asWord_51 rfl (lv_at hl 1 rfl) ?_
                      refine lv_ldc2 (v := 256) hx hb hown (hts (.constantLong RX9 134 (256)) (List.mem_of_getElem? (i := 4) rfl)) dX9_asWord_52 ?_
                      refine lv_ldiv hx hb dX9_asWord_55 (by decide) ?_
                      refine lv_lstore_n (lv' := [(3, .long (((((c1 / 256) / 256) / 256) / 256) / 256)), (5, .int ((((((c1 / 256) / 256) / 256) / 256) - ((((c1 / 256) / 256) / 256) / 256) / 256 * 256).toInt32)), (2, .ref q_2), (0, .long c1)]) hx hb dX9_asWord_56 rfl hl (by decide) rfl (fun ls hl => ?_)
                      refine lv_goto (tgt := 18) hx hb dX9_asWord_57 (by decide) ?_
                      refine lv_lload_n hx hb dX9_asWord_18 rfl (lv_at hl 0 rfl) ?_
                      refine lv_lconst (v := 0) hx hb dX9_asWord_19 (by decide) ?_
                      refine W.lcmp hx hb dX9_asWord_20 ?_
                      refine lv_if_eq (tgt := 60) hx hb dX9_asWord_21 (by decide) (fun c_49 => ?_) (fun c_49 => ?_)
                      · skip
                        refine lv_aload_n hx hb dX9_asWord_60 rfl (lv_at hl 2 rfl) ?_
                        have hPc := hP.sub (ws' := [(q_2, .inr (1, [.ref bv_4, .int 0, .int 0, .int 5])), (bv_4, .inl (kB_5, 16, .inl fz_46))]) [0, 1] rfl
                        have hDc := hD.sub (ws' := [(q_2, .inr (1, [.ref bv_4, .int 0, .int 0, .int 5])), (bv_4, .inl (kB_5, 16, .inl fz_46))]) [0, 1] (by decide) rfl
                        have hKc := hK.sub (tys' := [(kB_5, .byte)]) [0] rfl
                        have hFc := va_free (wc := [(q_2, .inr (1, [.ref bv_4, .int 0, .int 0, .int 5])), (bv_4, .inl (kB_5, 16, .inl fz_46))]) hD hS hA [0, 1] rfl
                        refine va_callr (va_runV (As := []) (rest := []) ⟨hx, hb, hml, hown, hts⟩ (c_SB_toString5 l dC dI d tc ad q_2 bv_4 kB_5 fz_46 H.size hx_48) (cwV 0 hts gX9_asWord_J4_toString_0e30d rfl rfl rfl (by decide +kernel) ⟨Nat.le_of_ble_eq_true rfl, Nat.le_of_ble_eq_true rfl⟩) ⟨PZ_blind, va_recv hK hP (ci := 1) (q0 := 0) rfl rfl, PZ_pre hPc hKc hDc hF hZ hS hFc⟩ rfl rfl hl.1 rfl (lv_room (Nat.le_of_ble_eq_true rfl)) dX9_asWord_61 ⟨Nat.le_of_ble_eq_true rfl, Nat.le_of_ble_eq_true rfl⟩) hS (fun q _ h => hFc q h) hFc (fun u r_50 t H1 locs ht hvm hw hB hz1 hk1 hS => ?_)
                        obtain ⟨g2_51, hP1, hK1, hD1⟩ := hB
                        rw [ht] at hP1
                        have hK1 := va_K.moved hvm.symm hK1
                        obtain ⟨hP, hD⟩ := va_join (wr := []) (w1 := [(r_50, .inr (0, [.ref g2_51, .int 0, .int 0, .int 0]))]) hP hD [0, 1] [] rfl rfl (by decide) (by decide) hk1 hFc hP1 hD1
                        have hK := hK.app hK1
                        generalize H1 = H at hP hS ⊢
                        have hP : va_P (dC, dI) vwCl [(r_50, .inr (0, [.ref g2_51, .int 0, .int 0, .int 0]))] H := hP
                        have hD : va_D A [(r_50, .inr (0, [.ref g2_51, .int 0, .int 0, .int 0]))] := hD
                        have hK : va_K (dC, dI) vwCl [(kB_5, .byte), (kB_5, .byte), (kB_5, .byte), (kB_5, .byte), (kB_5, .byte), (kB_5, .byte)] s := hK
                        refine W.widen (k := 4) (n := 29) (Nat.le_of_ble_eq_true rfl) (Nat.le_of_ble_eq_true rfl) ?_
                        refine W.widen (k := 4) (n := 32) (Nat.le_of_ble_eq_true rfl) (Nat.le_of_ble_eq_true rfl) ?_
                        have hP9 := hP.sub (ws' := [(r_50, .inr (0, [.ref g2_51, .int 0, .int 0, .int 0]))]) [0] rfl
                        have hD9 := hD.sub (ws' := [(r_50, .inr (0, [.ref g2_51, .int 0, .int 0, .int 0]))]) [0] (by decide) rfl
                        have hK9 := hK.sub (tys' := []) [] rfl
                        exact W.aret (v := .ref r_50) hx hb hr (Or.inl ⟨_, rfl⟩) (Or.inr ⟨_, rfl⟩) (fun t ht hW => ⟨⟨some r_50, some r_50, rfl, ⟨rfl, fun h9 => (by cases h9), fun _ _ => (by rw [sp_M_asWord, if_pos c_1, aw, if_neg (pos_ne c_1), if_neg c_8, aw, if_neg c_13, if_neg c_17, aw, if_neg c_22, if_neg c_26, aw, if_neg c_31, if_neg c_35, aw, if_neg c_40, if_neg c_44, aw, if_pos c_49])⟩, fun a9 h9 => by cases h9; exact ⟨g2_51, by rw [ht]; exact hP9, va_K.moved hW.alike hK9, hD9⟩⟩, hS.F ht⟩) hS.2.2 dX9_asWord_64
                      · skip
                        refine lv_lload_n hx hb dX9_asWord_24 rfl (lv_at hl 0 rfl) ?_
                        refine lv_ldc2 (v := 256) hx hb hown (hts (.constantLong RX9 134 (256)) (List.mem_of_getElem? (i := 4) rfl)) dX9_asWord_25 ?_
                        refine lv_lrem hx hb dX9_asWord_28 (by decide) ?_
                        refine lv_l2i hx hb dX9_asWord_29 rfl ?_
                        refine lv_istore (lv' := [(5, .int (((((((c1 / 256) / 256) / 256) / 256) / 256) - (((((c1 / 256) / 256) / 256) / 256) / 256) / 256 * 256).toInt32)), (3, .long (((((c1 / 256) / 256) / 256) / 256) / 256)), (2, .ref q_2), (0, .long c1)]) hx hb dX9_asWord_30 hl (by decide) rfl (fun ls hl => ?_)
                        refine lv_iload hx hb dX9_asWord_32 (lv_at hl 0 rfl) ?_
                        refine vp_callSi (va_Run.run (va_runS (As := [.int (((((((c1 / 256) / 256) / 256) / 256) / 256) - (((((c1 / 256) / 256) / 256) / 256) / 256) / 256 * 256).toInt32)]) (rest := []) ⟨hx, hb, hml, hown, hts⟩ (c_M_letter l dC dI (((((((c1 / 256) / 256) / 256) / 256) / 256) - (((((c1 / 256) / 256) / 256) / 256) / 256) / 256 * 256).toInt32)) (va_cwS 1 hts gX9_asWord_X9_letter rfl rfl rfl (by decide +kernel) ⟨Nat.le_of_ble_eq_true rfl, Nat.le_of_ble_eq_true rfl⟩) ⟨PS_blind, PS_pre (hP.sub (ws' := []) [] rfl) (hK.sub (tys' := []) [] rfl) hF⟩ rfl rfl hl.1 rfl (lv_room (Nat.le_of_ble_eq_true rfl)) dX9_asWord_34 ⟨Nat.le_of_ble_eq_true rfl, Nat.le_of_ble_eq_true rfl⟩)) (fun r_52 hr_52 => ?_)
                        subst hr_52
                        refine lv_if_ne (tgt := 42) hx hb dX9_asWord_37 (by decide) (fun c_53 => ?_) (fun c_53 => ?_)
                        · skip
                          refine lv_aload_n hx hb dX9_asWord_42 rfl (lv_at hl 2 rfl) ?_
                          refine lv_iconst (v := 0) hx hb dX9_asWord_43 (by decide) ?_
                          refine lv_iload hx hb dX9_asWord_44 (lv_at hl 0 rfl) ?_
                          refine lv_i2c hx hb dX9_asWord_46 rfl ?_
                          have hPc := hP.sub (ws' := [(q_2, .inr (1, [.ref bv_4, .int 0, .int 0, .int 5])), (bv_4, .inl (kB_5, 16, .inl fz_46))]) [0, 1] rfl
                          have hDc := hD.sub (ws' := [(q_2, .inr (1, [.ref bv_4, .int 0, .int 0, .int 5])), (bv_4, .inl (kB_5, 16, .inl fz_46))]) [0, 1] (by decide) rfl
                          have hKc := hK.sub (tys' := [(kB_5, .byte)]) [0] rfl
                          have hFc := va_free (wc := [(q_2, .inr (1, [.ref bv_4, .int 0, .int 0, .int 5])), (bv_4, .inl (kB_5, 16, .inl fz_46))]) hD hS hA [0, 1] rfl
                          refine va_callr (va_runV (As := [.int 0, .int (((((((((c1 / 256) / 256) / 256) / 256) / 256) - (((((c1 / 256) / 256) / 256) / 256) / 256) / 256 * 256).toInt32).toUInt32 % 65536).toInt32)]) (rest := []) ⟨hx, hb, hml, hown, hts⟩ (c_SB_ins5 l dC dI d tc ad q_2 bv_4 kB_5 fz_46 (((((((((c1 / 256) / 256) / 256) / 256) / 256) - (((((c1 / 256) / 256) / 256) / 256) / 256) / 256 * 256).toInt32).toUInt32 % 65536).toInt32) H.size hx_48 (ce_of c_53)) (cwV 2 hts gX9_asWord_J4_insert_a3ee8 rfl rfl rfl (by decide +kernel) ⟨Nat.le_of_ble_eq_true rfl, Nat.le_of_ble_eq_true rfl⟩) ⟨PZ_blind, va_recv hK hP (ci := 1) (q0 := 0) rfl rfl, PZ_pre hPc hKc hDc hF hZ hS hFc⟩ rfl rfl hl.1 rfl (lv_room (Nat.le_of_ble_eq_true rfl)) dX9_asWord_47 ⟨Nat.le_of_ble_eq_true rfl, Nat.le_of_ble_eq_true rfl⟩) hS (fun q _ h => hFc q h) hFc (fun u r_54 t H1 locs ht hvm hw hB hz1 hk1 hS => ?_)
                          obtain ⟨fz_55, hP1, hK1, hD1, hx_56, hx_57⟩ := hB
                          rw [ht] at hP1
                          have hK1 := va_K.moved hvm.symm hK1
                          obtain ⟨hP, hD⟩ := va_join (wr := []) (w1 := [(q_2, .inr (1, [.ref bv_4, .int 0, .int 0, .int 6])), (bv_4, .inl (kB_5, 16, .inl fz_55))]) hP hD [0, 1] [] rfl rfl (by decide) (by decide) hk1 hFc hP1 hD1
                          have hK := hK.app hK1
                          generalize H1 = H at hP hS ⊢
                          have hP : va_P (dC, dI) vwCl [(q_2, .inr (1, [.ref bv_4, .int 0, .int 0, .int 6])), (bv_4, .inl (kB_5, 16, .inl fz_55))] H := hP
                          have hD : va_D A [(q_2, .inr (1, [.ref bv_4, .int 0, .int 0, .int 6])), (bv_4, .inl (kB_5, 16, .inl fz_55))] := hD
                          have hK : va_K (dC, dI) vwCl [(kB_5, .byte), (kB_5, .byte), (kB_5, .byte), (kB_5, .byte), (kB_5, .byte), (kB_5, .byte), (kB_5, .byte)] s := hK
                          refine W.widen (k := 2) (n := 20) (Nat.le_of_ble_eq_true rfl) (Nat.le_of_ble_eq_true rfl) ?_
                          refine lv_pop hx hb dX9_asWord_50 rfl ?_
                          refine lv_lload_n hx hb dX9_asWord_51 rfl (lv_at hl 1 rfl) ?_
                          refine lv_ldc2 (v := 256) hx hb hown (hts (.constantLong RX9 134 (256)) (List.mem_of_getElem? (i := 4) rfl)) dX9_asWord_52 ?_
                          refine lv_ldiv hx hb dX9_asWord_55 (by decide) ?_
                          refine lv_lstore_n (lv' := [(3, .long ((((((c1 / 256) / 256) / 256) / 256) / 256) / 256)), (5, .int (((((((c1 / 256) / 256) / 256) / 256) / 256) - (((((c1 / 256) / 256) / 256) / 256) / 256) / 256 * 256).toInt32)), (2, .ref q_2), (0, .long c1)]) hx hb dX9_asWord_56 rfl hl (by decide) rfl (fun ls hl => ?_)
                          refine lv_goto (tgt := 18) hx hb dX9_asWord_57 (by decide) ?_
                          refine lv_lload_n hx hb dX9_asWord_18 rfl (lv_at hl 0 rfl) ?_
                          refine lv_lconst (v := 0) hx hb dX9_asWord_19 (by decide) ?_
                          refine W.lcmp hx hb dX9_asWord_20 ?_
                          refine lv_if_eq (tgt := 60) hx hb dX9_asWord_21 (by decide) (fun c_58 => ?_) (fun c_58 => ?_)
                          · skip
                            refine lv_aload_n hx hb dX9_asWord_60 rfl (lv_at hl 2 rfl) ?_
                            have hPc := hP.sub (ws' := [(q_2, .inr (1, [.ref bv_4, .int 0, .int 0, .int 6])), (bv_4, .inl (kB_5, 16, .inl fz_55))]) [0, 1] rfl
                            have hDc := hD.sub (ws' := [(q_2, .inr (1, [.ref bv_4, .int 0, .int 0, .int 6])), (bv_4, .inl (kB_5, 16, .inl fz_55))]) [0, 1] (by decide) rfl
                            have hKc := hK.sub (tys' := [(kB_5, .byte)]) [0] rfl
                            have hFc := va_free (wc := [(q_2, .inr (1, [.ref bv_4, .int 0, .int 0, .int 6])), (bv_4, .inl (kB_5, 16, .inl fz_55))]) hD hS hA [0, 1] rfl
                            refine va_callr (va_runV (As := []) (rest := []) ⟨hx, hb, hml, hown, hts⟩ (c_SB_toString6 l dC dI d tc ad q_2 bv_4 kB_5 fz_55 H.size hx_57) (cwV 0 hts gX9_asWord_J4_toString_0e30d rfl rfl rfl (by decide +kernel) ⟨Nat.le_of_ble_eq_true rfl, Nat.le_of_ble_eq_true rfl⟩) ⟨PZ_blind, va_recv hK hP (ci := 1) (q0 := 0) rfl rfl, PZ_pre hPc hKc hDc hF hZ hS hFc⟩ rfl rfl hl.1 rfl (lv_room (Nat.le_of_ble_eq_true rfl)) dX9_asWord_61 ⟨Nat.le_of_ble_eq_true rfl, Nat.le_of_ble_eq_true rfl⟩) hS (fun q _ h => hFc q h) hFc (fun u r_59 t H1 locs ht hvm hw hB hz1 hk1 hS => ?_)
                            obtain ⟨g2_60, hP1, hK1, hD1⟩ := hB
                            rw [ht] at hP1
                            have hK1 := va_K.moved hvm.symm hK1
                            obtain ⟨hP, hD⟩ := va_join (wr := []) (w1 := [(r_59, .inr (0, [.ref g2_60, .int 0, .int 0, .int 0]))]) hP hD [0, 1] [] rfl rfl (by decide) (by decide) hk1 hFc hP1 hD1
                            have hK := hK.app hK1
                            generalize H1 = H at hP hS ⊢
                            have hP : va_P (dC, dI) vwCl [(r_59, .inr (0, [.ref g2_60, .int 0, .int 0, .int 0]))] H := hP
                            have hD : va_D A [(r_59, .inr (0, [.ref g2_60, .int 0, .int 0, .int 0]))] := hD
                            have hK : va_K (dC, dI) vwCl [(kB_5, .byte), (kB_5, .byte), (kB_5, .byte), (kB_5, .byte), (kB_5, .byte), (kB_5, .byte), (kB_5, .byte)] s := hK
                            refine W.widen (k := 4) (n := 30) (Nat.le_of_ble_eq_true rfl) (Nat.le_of_ble_eq_true rfl) ?_
                            refine W.widen (k := 4) (n := 32) (Nat.le_of_ble_eq_true rfl) (Nat.le_of_ble_eq_true rfl) ?_
                            have hP9 := hP.sub (ws' := [(r_59, .inr (0, [.ref g2_60, .int 0, .int 0, .int 0]))]) [0] rfl
                            have hD9 := hD.sub (ws' := [(r_59, .inr (0, [.ref g2_60, .int 0, .int 0, .int 0]))]) [0] (by decide) rfl
                            have hK9 := hK.sub (tys' := []) [] rfl
                            exact W.aret (v := .ref r_59) hx hb hr (Or.inl ⟨_, rfl⟩) (Or.inr ⟨_, rfl⟩) (fun t ht hW => ⟨⟨some r_59, some r_59, rfl, ⟨rfl, fun h9 => (by cases h9), fun _ _ => (by rw [sp_M_asWord, if_pos c_1, aw, if_neg (pos_ne c_1), if_neg c_8, aw, if_neg c_13, if_neg c_17, aw, if_neg c_22, if_neg c_26, aw, if_neg c_31, if_neg c_35, aw, if_neg c_40, if_neg c_44, aw, if_neg c_49, if_neg c_53, aw, if_pos c_58])⟩, fun a9 h9 => by cases h9; exact ⟨g2_60, by rw [ht]; exact hP9, va_K.moved hW.alike hK9, hD9⟩⟩, hS.F ht⟩) hS.2.2 dX9_asWord_64
                          · skip
                            refine lv_lload_n hx hb dX9_asWord_24 rfl (lv_at hl 0 rfl) ?_
                            refine lv_ldc2 (v := 256) hx hb hown (hts (.constantLong RX9 134 (256)) (List.mem_of_getElem? (i := 4) rfl)) dX9_asWord_25 ?_
                            refine lv_lrem hx hb dX9_asWord_28 (by decide) ?_
                            refine lv_l2i hx hb dX9_asWord_29 rfl ?_
                            refine lv_istore (lv' := [(5, .int ((((((((c1 / 256) / 256) / 256) / 256) / 256) / 256) - ((((((c1 / 256) / 256) / 256) / 256) / 256) / 256) / 256 * 256).toInt32)), (3, .long ((((((c1 / 256) / 256) / 256) / 256) / 256) / 256)), (2, .ref q_2), (0, .long c1)]) hx hb dX9_asWord_30 hl (by decide) rfl (fun ls hl => ?_)
                            refine lv_iload hx hb dX9_asWord_32 (lv_at hl 0 rfl) ?_
                            refine vp_callSi (va_Run.run (va_runS (As := [.int ((((((((c1 / 256) / 256) / 256) / 256) / 256) / 256) - ((((((c1 / 256) / 256) / 256) / 256) / 256) / 256) / 256 * 256).toInt32)]) (rest := []) ⟨hx, hb, hml, hown, hts⟩ (c_M_letter l dC dI ((((((((c1 / 256) / 256) / 256) / 256) / 256) / 256) - ((((((c1 / 256) / 256) / 256) / 256) / 256) / 256) / 256 * 256).toInt32)) (va_cwS 1 hts gX9_asWord_X9_letter rfl rfl rfl (by decide +kernel) ⟨Nat.le_of_ble_eq_true rfl, Nat.le_of_ble_eq_true rfl⟩) ⟨PS_blind, PS_pre (hP.sub (ws' := []) [] rfl) (hK.sub (tys' := []) [] rfl) hF⟩ rfl rfl hl.1 rfl (lv_room (Nat.le_of_ble_eq_true rfl)) dX9_asWord_34 ⟨Nat.le_of_ble_eq_true rfl, Nat.le_of_ble_eq_true rfl⟩)) (fun r_61 hr_61 => ?_)
                            subst hr_61
                            refine lv_if_ne (tgt := 42) hx hb dX9_asWord_37 (by decide) (fun c_62 => ?_) (fun c_62 => ?_)
                            · skip
                              refine lv_aload_n hx hb dX9_asWord_42 rfl (lv_at hl 2 rfl) ?_
                              refine lv_iconst (v := 0) hx hb dX9_asWord_43 (by decide) ?_
                              refine lv_iload hx hb dX9_asWord_44 (lv_at hl 0 rfl) ?_
                              refine lv_i2c hx hb dX9_asWord_46 rfl ?_
                              have hPc := hP.sub (ws' := [(q_2, .inr (1, [.ref bv_4, .int 0, .int 0, .int 6])), (bv_4, .inl (kB_5, 16, .inl fz_55))]) [0, 1] rfl
                              have hDc := hD.sub (ws' := [(q_2, .inr (1, [.ref bv_4, .int 0, .int 0, .int 6])), (bv_4, .inl (kB_5, 16, .inl fz_55))]) [0, 1] (by decide) rfl
                              have hKc := hK.sub (tys' := [(kB_5, .byte)]) [0] rfl
                              have hFc := va_free (wc := [(q_2, .inr (1, [.ref bv_4, .int 0, .int 0, .int 6])), (bv_4, .inl (kB_5, 16, .inl fz_55))]) hD hS hA [0, 1] rfl
                              refine va_callr (va_runV (As := [.int 0, .int ((((((((((c1 / 256) / 256) / 256) / 256) / 256) / 256) - ((((((c1 / 256) / 256) / 256) / 256) / 256) / 256) / 256 * 256).toInt32).toUInt32 % 65536).toInt32)]) (rest := []) ⟨hx, hb, hml, hown, hts⟩ (c_SB_ins6 l dC dI d tc ad q_2 bv_4 kB_5 fz_55 ((((((((((c1 / 256) / 256) / 256) / 256) / 256) / 256) - ((((((c1 / 256) / 256) / 256) / 256) / 256) / 256) / 256 * 256).toInt32).toUInt32 % 65536).toInt32) H.size hx_57 (ce_of c_62)) (cwV 2 hts gX9_asWord_J4_insert_a3ee8 rfl rfl rfl (by decide +kernel) ⟨Nat.le_of_ble_eq_true rfl, Nat.le_of_ble_eq_true rfl⟩) ⟨PZ_blind, va_recv hK hP (ci := 1) (q0 := 0) rfl rfl, PZ_pre hPc hKc hDc hF hZ hS hFc⟩ rfl rfl hl.1 rfl (lv_room (Nat.le_of_ble_eq_true rfl)) dX9_asWord_47 ⟨Nat.le_of_ble_eq_true rfl, Nat.le_of_ble_eq_true rfl⟩) hS (fun q _ h => hFc q h) hFc (fun u r_63 t H1 locs ht hvm hw hB hz1 hk1 hS => ?_)
                              obtain ⟨fz_64, hP1, hK1, hD1, hx_65, hx_66⟩ := hB
                              rw [ht] at hP1
                              have hK1 := va_K.moved hvm.symm hK1
                              obtain ⟨hP, hD⟩ := va_join (wr := []) (w1 := [(q_2, .inr (1, [.ref bv_4, .int 0, .int 0, .int 7])), (bv_4, .inl (kB_5, 16, .inl fz_64))]) hP hD [0, 1] [] rfl rfl (by decide) (by decide) hk1 hFc hP1 hD1
                              have hK := hK.app hK1
                              generalize H1 = H at hP hS ⊢
                              have hP : va_P (dC, dI) vwCl [(q_2, .inr (1, [.ref bv_4, .int 0, .int 0, .int 7])), (bv_4, .inl (kB_5, 16, .inl fz_64))] H := hP
                              have hD : va_D A [(q_2, .inr (1, [.ref bv_4, .int 0, .int 0, .int 7])), (bv_4, .inl (kB_5, 16, .inl fz_64))] := hD
                              have hK : va_K (dC, dI) vwCl [(kB_5, .byte), (kB_5, .byte), (kB_5, .byte), (kB_5, .byte), (kB_5, .byte), (kB_5, .byte), (kB_5, .byte), (kB_5, .byte)] s := hK
                              refine W.widen (k := 2) (n := 20) (Nat.le_of_ble_eq_true rfl) (Nat.le_of_ble_eq_true rfl) ?_
                              refine lv_pop hx hb dX9_asWord_50 rfl ?_
                              refine lv_lload_n hx hb dX9_asWord_51 rfl (lv_at hl 1 rfl) ?_
                              refine lv_ldc2 (v := 256) hx hb hown (hts (.constantLong RX9 134 (256)) (List.mem_of_getElem? (i := 4) rfl)) dX9_asWord_52 ?_
                              refine lv_ldiv hx hb dX9_asWord_55 (by decide) ?_
                              refine lv_lstore_n (lv' := [(3, .long (((((((c1 / 256) / 256) / 256) / 256) / 256) / 256) / 256)), (5, .int ((((((((c1 / 256) / 256) / 256) / 256) / 256) / 256) - ((((((c1 / 256) / 256) / 256) / 256) / 256) / 256) / 256 * 256).toInt32)), (2, .ref q_2), (0, .long c1)]) hx hb dX9_asWord_56 rfl hl (by decide) rfl (fun ls hl => ?_)
                              refine lv_goto (tgt := 18) hx hb dX9_asWord_57 (by decide) ?_
                              refine lv_lload_n hx hb dX9_asWord_18 rfl (lv_at hl 0 rfl) ?_
                              refine lv_lconst (v := 0) hx hb dX9_asWord_19 (by decide) ?_
                              refine W.lcmp hx hb dX9_asWord_20 ?_
                              refine lv_if_eq (tgt := 60) hx hb dX9_asWord_21 (by decide) (fun c_67 => ?_) (fun c_67 => ?_)
                              · skip
                                refine lv_aload_n hx hb dX9_asWord_60 rfl (lv_at hl 2 rfl) ?_
                                have hPc := hP.sub (ws' := [(q_2, .inr (1, [.ref bv_4, .int 0, .int 0, .int 7])), (bv_4, .inl (kB_5, 16, .inl fz_64))]) [0, 1] rfl
                                have hDc := hD.sub (ws' := [(q_2, .inr (1, [.ref bv_4, .int 0, .int 0, .int 7])), (bv_4, .inl (kB_5, 16, .inl fz_64))]) [0, 1] (by decide) rfl
                                have hKc := hK.sub (tys' := [(kB_5, .byte)]) [0] rfl
                                have hFc := va_free (wc := [(q_2, .inr (1, [.ref bv_4, .int 0, .int 0, .int 7])), (bv_4, .inl (kB_5, 16, .inl fz_64))]) hD hS hA [0, 1] rfl
                                refine va_callr (va_runV (As := []) (rest := []) ⟨hx, hb, hml, hown, hts⟩ (c_SB_toString7 l dC dI d tc ad q_2 bv_4 kB_5 fz_64 H.size hx_66) (cwV 0 hts gX9_asWord_J4_toString_0e30d rfl rfl rfl (by decide +kernel) ⟨Nat.le_of_ble_eq_true rfl, Nat.le_of_ble_eq_true rfl⟩) ⟨PZ_blind, va_recv hK hP (ci := 1) (q0 := 0) rfl rfl, PZ_pre hPc hKc hDc hF hZ hS hFc⟩ rfl rfl hl.1 rfl (lv_room (Nat.le_of_ble_eq_true rfl)) dX9_asWord_61 ⟨Nat.le_of_ble_eq_true rfl, Nat.le_of_ble_eq_true rfl⟩) hS (fun q _ h => hFc q h) hFc (fun u r_68 t H1 locs ht hvm hw hB hz1 hk1 hS => ?_)
                                obtain ⟨g2_69, hP1, hK1, hD1⟩ := hB
                                rw [ht] at hP1
                                have hK1 := va_K.moved hvm.symm hK1
                                obtain ⟨hP, hD⟩ := va_join (wr := []) (w1 := [(r_68, .inr (0, [.ref g2_69, .int 0, .int 0, .int 0]))]) hP hD [0, 1] [] rfl rfl (by decide) (by decide) hk1 hFc hP1 hD1
                                have hK := hK.app hK1
                                generalize H1 = H at hP hS ⊢
                                have hP : va_P (dC, dI) vwCl [(r_68, .inr (0, [.ref g2_69, .int 0, .int 0, .int 0]))] H := hP
                                have hD : va_D A [(r_68, .inr (0, [.ref g2_69, .int 0, .int 0, .int 0]))] := hD
                                have hK : va_K (dC, dI) vwCl [(kB_5, .byte), (kB_5, .byte), (kB_5, .byte), (kB_5, .byte), (kB_5, .byte), (kB_5, .byte), (kB_5, .byte), (kB_5, .byte)] s := hK
                                refine W.widen (k := 4) (n := 31) (Nat.le_of_ble_eq_true rfl) (Nat.le_of_ble_eq_true rfl) ?_
                                refine W.widen (k := 4) (n := 32) (Nat.le_of_ble_eq_true rfl) (Nat.le_of_ble_eq_true rfl) ?_
                                have hP9 := hP.sub (ws' := [(r_68, .inr (0, [.ref g2_69, .int 0, .int 0, .int 0]))]) [0] rfl
                                have hD9 := hD.sub (ws' := [(r_68, .inr (0, [.ref g2_69, .int 0, .int 0, .int 0]))]) [0] (by decide) rfl
                                have hK9 := hK.sub (tys' := []) [] rfl
                                exact W.aret (v := .ref r_68) hx hb hr (Or.inl ⟨_, rfl⟩) (Or.inr ⟨_, rfl⟩) (fun t ht hW => ⟨⟨some r_68, some r_68, rfl, ⟨rfl, fun h9 => (by cases h9), fun _ _ => (by rw [sp_M_asWord, if_pos c_1, aw, if_neg (pos_ne c_1), if_neg c_8, aw, if_neg c_13, if_neg c_17, aw, if_neg c_22, if_neg c_26, aw, if_neg c_31, if_neg c_35, aw, if_neg c_40, if_neg c_44, aw, if_neg c_49, if_neg c_53, aw, if_neg c_58, if_neg c_62, aw, if_pos c_67])⟩, fun a9 h9 => by cases h9; exact ⟨g2_69, by rw [ht]; exact hP9, va_K.moved hW.alike hK9, hD9⟩⟩, hS.F ht⟩) hS.2.2 dX9_asWord_64
                              · skip
                                refine lv_lload_n hx hb dX9_asWord_24 rfl (lv_at hl 0 rfl) ?_
                                refine lv_ldc2 (v := 256) hx hb hown (hts (.constantLong RX9 134 (256)) (List.mem_of_getElem? (i := 4) rfl)) dX9_asWord_25 ?_
                                refine lv_lrem hx hb dX9_asWord_28 (by decide) ?_
                                refine lv_l2i hx hb dX9_asWord_29 rfl ?_
                                refine lv_istore (lv' := [(5, .int (((((((((c1 / 256) / 256) / 256) / 256) / 256) / 256) / 256) - (((((((c1 / 256) / 256) / 256) / 256) / 256) / 256) / 256) / 256 * 256).toInt32)), (3, .long (((((((c1 / 256) / 256) / 256) / 256) / 256) / 256) / 256)), (2, .ref q_2), (0, .long c1)]) hx hb dX9_asWord_30 hl (by decide) rfl (fun ls hl => ?_)
                                refine lv_iload hx hb dX9_asWord_32 (lv_at hl 0 rfl) ?_
                                refine vp_callSi (va_Run.run (va_runS (As := [.int (((((((((c1 / 256) / 256) / 256) / 256) / 256) / 256) / 256) - (((((((c1 / 256) / 256) / 256) / 256) / 256) / 256) / 256) / 256 * 256).toInt32)]) (rest := []) ⟨hx, hb, hml, hown, hts⟩ (c_M_letter l dC dI (((((((((c1 / 256) / 256) / 256) / 256) / 256) / 256) / 256) - (((((((c1 / 256) / 256) / 256) / 256) / 256) / 256) / 256) / 256 * 256).toInt32)) (va_cwS 1 hts gX9_asWord_X9_letter rfl rfl rfl (by decide +kernel) ⟨Nat.le_of_ble_eq_true rfl, Nat.le_of_ble_eq_true rfl⟩) ⟨PS_blind, PS_pre (hP.sub (ws' := []) [] rfl) (hK.sub (tys' := []) [] rfl) hF⟩ rfl rfl hl.1 rfl (lv_room (Nat.le_of_ble_eq_true rfl)) dX9_asWord_34 ⟨Nat.le_of_ble_eq_true rfl, Nat.le_of_ble_eq_true rfl⟩)) (fun r_70 hr_70 => ?_)
                                subst hr_70
                                refine lv_if_ne (tgt := 42) hx hb dX9_asWord_37 (by decide) (fun c_71 => ?_) (fun c_71 => ?_)
                                · skip
                                  refine lv_aload_n hx hb dX9_asWord_42 rfl (lv_at hl 2 rfl) ?_
                                  refine lv_iconst (v := 0) hx hb dX9_asWord_43 (by decide) ?_
                                  refine lv_iload hx hb dX9_asWord_44 (lv_at hl 0 rfl) ?_
                                  refine lv_i2c hx hb dX9_asWord_46 rfl ?_
                                  have hPc := hP.sub (ws' := [(q_2, .inr (1, [.ref bv_4, .int 0, .int 0, .int 7])), (bv_4, .inl (kB_5, 16, .inl fz_64))]) [0, 1] rfl
                                  have hDc := hD.sub (ws' := [(q_2, .inr (1, [.ref bv_4, .int 0, .int 0, .int 7])), (bv_4, .inl (kB_5, 16, .inl fz_64))]) [0, 1] (by decide) rfl
                                  have hKc := hK.sub (tys' := [(kB_5, .byte)]) [0] rfl
                                  have hFc := va_free (wc := [(q_2, .inr (1, [.ref bv_4, .int 0, .int 0, .int 7])), (bv_4, .inl (kB_5, 16, .inl fz_64))]) hD hS hA [0, 1] rfl
                                  refine va_callr (va_runV (As := [.int 0, .int (((((((((((c1 / 256) / 256) / 256) / 256) / 256) / 256) / 256) - (((((((c1 / 256) / 256) / 256) / 256) / 256) / 256) / 256) / 256 * 256).toInt32).toUInt32 % 65536).toInt32)]) (rest := []) ⟨hx, hb, hml, hown, hts⟩ (c_SB_ins7 l dC dI d tc ad q_2 bv_4 kB_5 fz_64 (((((((((((c1 / 256) / 256) / 256) / 256) / 256) / 256) / 256) - (((((((c1 / 256) / 256) / 256) / 256) / 256) / 256) / 256) / 256 * 256).toInt32).toUInt32 % 65536).toInt32) H.size hx_66 (ce_of c_71)) (cwV 2 hts gX9_asWord_J4_insert_a3ee8 rfl rfl rfl (by decide +kernel) ⟨Nat.le_of_ble_eq_true rfl, Nat.le_of_ble_eq_true rfl⟩) ⟨PZ_blind, va_recv hK hP (ci := 1) (q0 := 0) rfl rfl, PZ_pre hPc hKc hDc hF hZ hS hFc⟩ rfl rfl hl.1 rfl (lv_room (Nat.le_of_ble_eq_true rfl)) dX9_asWord_47 ⟨Nat.le_of_ble_eq_true rfl, Nat.le_of_ble_eq_true rfl⟩) hS (fun q _ h => hFc q h) hFc (fun u r_72 t H1 locs ht hvm hw hB hz1 hk1 hS => ?_)
                                  obtain ⟨fz_73, hP1, hK1, hD1, hx_74, hx_75⟩ := hB
                                  rw [ht] at hP1
                                  have hK1 := va_K.moved hvm.symm hK1
                                  obtain ⟨hP, hD⟩ := va_join (wr := []) (w1 := [(q_2, .inr (1, [.ref bv_4, .int 0, .int 0, .int 8])), (bv_4, .inl (kB_5, 16, .inl fz_73))]) hP hD [0, 1] [] rfl rfl (by decide) (by decide) hk1 hFc hP1 hD1
                                  have hK := hK.app hK1
                                  generalize H1 = H at hP hS ⊢
                                  have hP : va_P (dC, dI) vwCl [(q_2, .inr (1, [.ref bv_4, .int 0, .int 0, .int 8])), (bv_4, .inl (kB_5, 16, .inl fz_73))] H := hP
                                  have hD : va_D A [(q_2, .inr (1, [.ref bv_4, .int 0, .int 0, .int 8])), (bv_4, .inl (kB_5, 16, .inl fz_73))] := hD
                                  have hK : va_K (dC, dI) vwCl [(kB_5, .byte), (kB_5, .byte), (kB_5, .byte), (kB_5, .byte), (kB_5, .byte), (kB_5, .byte), (kB_5, .byte), (kB_5, .byte), (kB_5, .byte)] s := hK
                                  refine W.widen (k := 2) (n := 20) (Nat.le_of_ble_eq_true rfl) (Nat.le_of_ble_eq_true rfl) ?_
                                  refine lv_pop hx hb dX9_asWord_50 rfl ?_
                                  refine lv_lload_n hx hb dX9_asWord_51 rfl (lv_at hl 1 rfl) ?_
                                  refine lv_ldc2 (v := 256) hx hb hown (hts (.constantLong RX9 134 (256)) (List.mem_of_getElem? (i := 4) rfl)) dX9_asWord_52 ?_
                                  refine lv_ldiv hx hb dX9_asWord_55 (by decide) ?_
                                  refine lv_lstore_n (lv' := [(3, .long ((((((((c1 / 256) / 256) / 256) / 256) / 256) / 256) / 256) / 256)), (5, .int (((((((((c1 / 256) / 256) / 256) / 256) / 256) / 256) / 256) - (((((((c1 / 256) / 256) / 256) / 256) / 256) / 256) / 256) / 256 * 256).toInt32)), (2, .ref q_2), (0, .long c1)]) hx hb dX9_asWord_56 rfl hl (by decide) rfl (fun ls hl => ?_)
                                  refine lv_goto (tgt := 18) hx hb dX9_asWord_57 (by decide) ?_
                                  refine lv_lload_n hx hb dX9_asWord_18 rfl (lv_at hl 0 rfl) ?_
                                  refine lv_lconst (v := 0) hx hb dX9_asWord_19 (by decide) ?_
                                  refine W.lcmp hx hb dX9_asWord_20 ?_
                                  refine lv_if_eq (tgt := 60) hx hb dX9_asWord_21 (by decide) (fun _ => ?_) (fun c_76 => absurd (div8 c_1) c_76)
                                  refine lv_aload_n hx hb dX9_asWord_60 rfl (lv_at hl 2 rfl) ?_
                                  have hPc := hP.sub (ws' := [(q_2, .inr (1, [.ref bv_4, .int 0, .int 0, .int 8])), (bv_4, .inl (kB_5, 16, .inl fz_73))]) [0, 1] rfl
                                  have hDc := hD.sub (ws' := [(q_2, .inr (1, [.ref bv_4, .int 0, .int 0, .int 8])), (bv_4, .inl (kB_5, 16, .inl fz_73))]) [0, 1] (by decide) rfl
                                  have hKc := hK.sub (tys' := [(kB_5, .byte)]) [0] rfl
                                  have hFc := va_free (wc := [(q_2, .inr (1, [.ref bv_4, .int 0, .int 0, .int 8])), (bv_4, .inl (kB_5, 16, .inl fz_73))]) hD hS hA [0, 1] rfl
                                  refine va_callr (va_runV (As := []) (rest := []) ⟨hx, hb, hml, hown, hts⟩ (c_SB_toString8 l dC dI d tc ad q_2 bv_4 kB_5 fz_73 H.size hx_75) (cwV 0 hts gX9_asWord_J4_toString_0e30d rfl rfl rfl (by decide +kernel) ⟨Nat.le_of_ble_eq_true rfl, Nat.le_of_ble_eq_true rfl⟩) ⟨PZ_blind, va_recv hK hP (ci := 1) (q0 := 0) rfl rfl, PZ_pre hPc hKc hDc hF hZ hS hFc⟩ rfl rfl hl.1 rfl (lv_room (Nat.le_of_ble_eq_true rfl)) dX9_asWord_61 ⟨Nat.le_of_ble_eq_true rfl, Nat.le_of_ble_eq_true rfl⟩) hS (fun q _ h => hFc q h) hFc (fun u r_77 t H1 locs ht hvm hw hB hz1 hk1 hS => ?_)
                                  obtain ⟨g2_78, hP1, hK1, hD1⟩ := hB
                                  rw [ht] at hP1
                                  have hK1 := va_K.moved hvm.symm hK1
                                  obtain ⟨hP, hD⟩ := va_join (wr := []) (w1 := [(r_77, .inr (0, [.ref g2_78, .int 0, .int 0, .int 0]))]) hP hD [0, 1] [] rfl rfl (by decide) (by decide) hk1 hFc hP1 hD1
                                  have hK := hK.app hK1
                                  generalize H1 = H at hP hS ⊢
                                  have hP : va_P (dC, dI) vwCl [(r_77, .inr (0, [.ref g2_78, .int 0, .int 0, .int 0]))] H := hP
                                  have hD : va_D A [(r_77, .inr (0, [.ref g2_78, .int 0, .int 0, .int 0]))] := hD
                                  have hK : va_K (dC, dI) vwCl [(kB_5, .byte), (kB_5, .byte), (kB_5, .byte), (kB_5, .byte), (kB_5, .byte), (kB_5, .byte), (kB_5, .byte), (kB_5, .byte), (kB_5, .byte)] s := hK
                                  refine W.widen (k := 4) (n := 32) (Nat.le_of_ble_eq_true rfl) (Nat.le_of_ble_eq_true rfl) ?_
                                  have hP9 := hP.sub (ws' := [(r_77, .inr (0, [.ref g2_78, .int 0, .int 0, .int 0]))]) [0] rfl
                                  have hD9 := hD.sub (ws' := [(r_77, .inr (0, [.ref g2_78, .int 0, .int 0, .int 0]))]) [0] (by decide) rfl
                                  have hK9 := hK.sub (tys' := []) [] rfl
                                  exact W.aret (v := .ref r_77) hx hb hr (Or.inl ⟨_, rfl⟩) (Or.inr ⟨_, rfl⟩) (fun t ht hW => ⟨⟨some r_77, some r_77, rfl, ⟨rfl, fun h9 => (by cases h9), fun _ _ => (by rw [sp_M_asWord, if_pos c_1, aw, if_neg (pos_ne c_1), if_neg c_8, aw, if_neg c_13, if_neg c_17, aw, if_neg c_22, if_neg c_26, aw, if_neg c_31, if_neg c_35, aw, if_neg c_40, if_neg c_44, aw, if_neg c_49, if_neg c_53, aw, if_neg c_58, if_neg c_62, aw, if_neg c_67, if_neg c_71, aw])⟩, fun a9 h9 => by cases h9; exact ⟨g2_78, by rw [ht]; exact hP9, va_K.moved hW.alike hK9, hD9⟩⟩, hS.F ht⟩) hS.2.2 dX9_asWord_64
                                · skip
                                  refine lv_null hx hb dX9_asWord_40 ?_
                                  refine W.widen (k := 4) (n := 32) (Nat.le_of_ble_eq_true rfl) (Nat.le_of_ble_eq_true rfl) ?_
                                  exact W.aret (v := .null) hx hb hr (Or.inl ⟨_, rfl⟩) (Or.inl rfl) (fun t ht hW => ⟨⟨none, none, rfl, ⟨rfl, fun _ => (by rw [sp_M_asWord, if_pos c_1, aw, if_neg (pos_ne c_1), if_neg c_8, aw, if_neg c_13, if_neg c_17, aw, if_neg c_22, if_neg c_26, aw, if_neg c_31, if_neg c_35, aw, if_neg c_40, if_neg c_44, aw, if_neg c_49, if_neg c_53, aw, if_neg c_58, if_neg c_62, aw, if_neg c_67, if_pos c_71]), fun _ h9 => by cases h9⟩, fun _ h9 => by cases h9⟩, hS.F ht⟩) hS.2.2 dX9_asWord_41
                            · skip
                              refine lv_null hx hb dX9_asWord_40 ?_
                              refine W.widen (k := 4) (n := 32) (Nat.le_of_ble_eq_true rfl) (Nat.le_of_ble_eq_true rfl) ?_
                              exact W.aret (v := .null) hx hb hr (Or.inl ⟨_, rfl⟩) (Or.inl rfl) (fun t ht hW => ⟨⟨none, none, rfl, ⟨rfl, fun _ => (by rw [sp_M_asWord, if_pos c_1, aw, if_neg (pos_ne c_1), if_neg c_8, aw, if_neg c_13, if_neg c_17, aw, if_neg c_22, if_neg c_26, aw, if_neg c_31, if_neg c_35, aw, if_neg c_40, if_neg c_44, aw, if_neg c_49, if_neg c_53, aw, if_neg c_58, if_pos c_62]), fun _ h9 => by cases h9⟩, fun _ h9 => by cases h9⟩, hS.F ht⟩) hS.2.2 dX9_asWord_41
                        · skip
                          refine lv_null hx hb dX9_asWord_40 ?_
                          refine W.widen (k := 4) (n := 32) (Nat.le_of_ble_eq_true rfl) (Nat.le_of_ble_eq_true rfl) ?_
                          exact W.aret (v := .null) hx hb hr (Or.inl ⟨_, rfl⟩) (Or.inl rfl) (fun t ht hW => ⟨⟨none, none, rfl, ⟨rfl, fun _ => (by rw [sp_M_asWord, if_pos c_1, aw, if_neg (pos_ne c_1), if_neg c_8, aw, if_neg c_13, if_neg c_17, aw, if_neg c_22, if_neg c_26, aw, if_neg c_31, if_neg c_35, aw, if_neg c_40, if_neg c_44, aw, if_neg c_49, if_pos c_53]), fun _ h9 => by cases h9⟩, fun _ h9 => by cases h9⟩, hS.F ht⟩) hS.2.2 dX9_asWord_41
                    · skip
                      refine lv_null hx hb dX9_asWord_40 ?_
                      refine W.widen (k := 4) (n := 32) (Nat.le_of_ble_eq_true rfl) (Nat.le_of_ble_eq_true rfl) ?_
                      exact W.aret (v := .null) hx hb hr (Or.inl ⟨_, rfl⟩) (Or.inl rfl) (fun t ht hW => ⟨⟨none, none, rfl, ⟨rfl, fun _ => (by rw [sp_M_asWord, if_pos c_1, aw, if_neg (pos_ne c_1), if_neg c_8, aw, if_neg c_13, if_neg c_17, aw, if_neg c_22, if_neg c_26, aw, if_neg c_31, if_neg c_35, aw, if_neg c_40, if_pos c_44]), fun _ h9 => by cases h9⟩, fun _ h9 => by cases h9⟩, hS.F ht⟩) hS.2.2 dX9_asWord_41
                · skip
                  refine lv_null hx hb dX9_asWord_40 ?_
                  refine W.widen (k := 4) (n := 32) (Nat.le_of_ble_eq_true rfl) (Nat.le_of_ble_eq_true rfl) ?_
                  exact W.aret (v := .null) hx hb hr (Or.inl ⟨_, rfl⟩) (Or.inl rfl) (fun t ht hW => ⟨⟨none, none, rfl, ⟨rfl, fun _ => (by rw [sp_M_asWord, if_pos c_1, aw, if_neg (pos_ne c_1), if_neg c_8, aw, if_neg c_13, if_neg c_17, aw, if_neg c_22, if_neg c_26, aw, if_neg c_31, if_pos c_35]), fun _ h9 => by cases h9⟩, fun _ h9 => by cases h9⟩, hS.F ht⟩) hS.2.2 dX9_asWord_41
            · skip
              refine lv_null hx hb dX9_asWord_40 ?_
              refine W.widen (k := 4) (n := 32) (Nat.le_of_ble_eq_true rfl) (Nat.le_of_ble_eq_true rfl) ?_
              exact W.aret (v := .null) hx hb hr (Or.inl ⟨_, rfl⟩) (Or.inl rfl) (fun t ht hW => ⟨⟨none, none, rfl, ⟨rfl, fun _ => (by rw [sp_M_asWord, if_pos c_1, aw, if_neg (pos_ne c_1), if_neg c_8, aw, if_neg c_13, if_neg c_17, aw, if_neg c_22, if_pos c_26]), fun _ h9 => by cases h9⟩, fun _ h9 => by cases h9⟩, hS.F ht⟩) hS.2.2 dX9_asWord_41
        · skip
          refine lv_null hx hb dX9_asWord_40 ?_
          refine W.widen (k := 4) (n := 32) (Nat.le_of_ble_eq_true rfl) (Nat.le_of_ble_eq_true rfl) ?_
          exact W.aret (v := .null) hx hb hr (Or.inl ⟨_, rfl⟩) (Or.inl rfl) (fun t ht hW => ⟨⟨none, none, rfl, ⟨rfl, fun _ => (by rw [sp_M_asWord, if_pos c_1, aw, if_neg (pos_ne c_1), if_neg c_8, aw, if_neg c_13, if_pos c_17]), fun _ h9 => by cases h9⟩, fun _ h9 => by cases h9⟩, hS.F ht⟩) hS.2.2 dX9_asWord_41
    · skip
      refine lv_null hx hb dX9_asWord_40 ?_
      refine W.widen (k := 4) (n := 32) (Nat.le_of_ble_eq_true rfl) (Nat.le_of_ble_eq_true rfl) ?_
      exact W.aret (v := .null) hx hb hr (Or.inl ⟨_, rfl⟩) (Or.inl rfl) (fun t ht hW => ⟨⟨none, none, rfl, ⟨rfl, fun _ => (by rw [sp_M_asWord, if_pos c_1, aw, if_neg (pos_ne c_1), if_pos c_8]), fun _ h9 => by cases h9⟩, fun _ h9 => by cases h9⟩, hS.F ht⟩) hS.2.2 dX9_asWord_41
  · skip
    refine lv_null hx hb dX9_asWord_6 ?_
    refine W.widen (k := 4) (n := 32) (Nat.le_of_ble_eq_true rfl) (Nat.le_of_ble_eq_true rfl) ?_
    exact W.aret (v := .null) hx hb hr (Or.inl ⟨_, rfl⟩) (Or.inl rfl) (fun t ht hW => ⟨⟨none, none, rfl, ⟨rfl, fun _ => (by rw [sp_M_asWord, if_neg c_1]), fun _ h9 => by cases h9⟩, fun _ h9 => by cases h9⟩, hS.F ht⟩) hS.2.2 dX9_asWord_7

def sp_M_bar (c1 : Int64) : Int32 := if sp_M_asWord c1 = 0 then (-2) else 1
set_option maxHeartbeats 4000000 in
set_option maxRecDepth 100000 in
theorem c_M_bar (l : Launch) (dC : Nat → ClassId) (dI : Nat → Nat → Nat) (d : Nat) (tc : Nat) (ad : Nat → Nat) (mx : Nat) (lc : Nat) (lr : Nat) (kn : Nat) (lt : Nat) (ml : Nat) (mm : Nat) (lp : Nat) (lb : Nat) (mq : Nat) (c1 : Int64) (sz : Nat) : Met l yX9_bar wsX9_bar ({ frames := 7, cells := 5, slots := 42, locals := 216 }) (va_Pc [.ref mx, .long c1] (PZ dC dI d tc ad sz [(mx, .inr (14, [.ref lc, .ref lr, .ref kn, .ref lt, .ref ml, .ref mm, .ref lp, .ref lb, .ref mq, .int 1, .int 10, .int 0, .int 0])), (lb, .inr (4, [.int 0, .ref d, .int 0]))] [])) (va_Qi (fun r (_ : Unit) => r = sp_M_bar c1) (fun _ _ => True) (va_A [(mx, .inr (14, [.ref lc, .ref lr, .ref kn, .ref lt, .ref ml, .ref mm, .ref lp, .ref lb, .ref mq, .int 1, .int 10, .int 0, .int 0])), (lb, .inr (4, [.int 0, .ref d, .int 0]))] sz)) 5 42 (va_A [(mx, .inr (14, [.ref lc, .ref lr, .ref kn, .ref lt, .ref ml, .ref mm, .ref lp, .ref lb, .ref mq, .int 1, .int 10, .int 0, .int 0])), (lb, .inr (4, [.int 0, .ref d, .int 0]))] sz) := by
  refine Met.ofW (cc := cX9_bar) (maxL := 4) (ret := (some .int)) (by decide) rfl ?_
  intro p e s m args below meth c s₁ B hml hv
  obtain ⟨rfl, hsz, hP, hK, hD0, hF, hZ⟩ := hv
  have hx := B.exec
  have hb := B.bytes
  have hr := B.returns
  have hts := atoms_spec (ws := wsX9_bar) B.pre
  have hown : s.vm.findClass RX9 = some m.cls := findClass_of_methodNamed B.named
  have hlocks := B.notSynchronized
  subst hsz
  have hD := hD0.self (sz := s.heap.size)
  generalize hAe : va_A [(mx, .inr (14, [.ref lc, .ref lr, .ref kn, .ref lt, .ref ml, .ref mm, .ref lp, .ref lb, .ref mq, .int 1, .int 10, .int 0, .int 0])), (lb, .inr (4, [.int 0, .ref d, .int 0]))] s.heap.size = A at hD hZ ⊢
  have hA : ∀ q : Nat, s.heap.size ≤ q → A q := fun q h => by rw [← hAe]; exact Or.inr h
  have hS : va_S A s.heap s.heap [] := va_S.rf
  have hl := lv_entry ([.ref mx, .long c1]) (n := 4) (Nat.le_of_ble_eq_true rfl)
  rw [lg_entry_eq]
  generalize (lg_sl ([.ref mx, .long c1]) ++ List.replicate (4 - (lg_sl ([.ref mx, .long c1])).length) Slot.unset).toArray = ls at hl ⊢
  have hl : lv_has ls 4 [(0, .ref mx), (1, .long c1)] := hl
  refine lv_lload_n hx hb dX9_bar_0 rfl (lv_at hl 1 rfl) ?_
  have hPc := hP.sub (ws' := []) [] rfl
  have hDc := hD.sub (ws' := []) [] (by decide) rfl
  have hKc := hK.sub (tys' := []) [] rfl
  have hFc := va_free (wc := []) hD hS hA [] rfl
  refine va_callq (va_runS (As := [.long c1]) (rest := []) ⟨hx, hb, hml, hown, hts⟩ (c_M_asWord l dC dI d tc ad c1 s.heap.size) (va_cwS 1 hts gX9_bar_X9_asWord rfl rfl rfl (by decide +kernel) ⟨Nat.le_of_ble_eq_true rfl, Nat.le_of_ble_eq_true rfl⟩) ⟨PZ_blind, PZ_pre hPc hKc hDc hF hZ hS hFc⟩ rfl rfl hl.1 rfl (lv_room (Nat.le_of_ble_eq_true rfl)) dX9_bar_1 ⟨Nat.le_of_ble_eq_true rfl, Nat.le_of_ble_eq_true rfl⟩) hS (fun q _ h => hFc q h) hFc (fun r u t H1 locs ht hvm hw hB hz1 hk1 hS => ?_)
  obtain ⟨hur, h0, h1⟩ := hw
  rw [hur] at hB
  clear hur
  cases r with
  | none =>
    have hsp := h0 rfl
    have hP1 : va_P (dC, dI) vwCl [] H1 := fun k q h => by simp at h
    have hD1 : va_D (va_A [] s.heap.size) [] := ⟨fun i j p q h => by simp at h, fun k q h => by simp at h⟩
    obtain ⟨hP, hD⟩ := va_join (wr := [(mx, .inr (14, [.ref lc, .ref lr, .ref kn, .ref lt, .ref ml, .ref mm, .ref lp, .ref lb, .ref mq, .int 1, .int 10, .int 0, .int 0])), (lb, .inr (4, [.int 0, .ref d, .int 0]))]) (w1 := []) hP hD [] [0, 1] rfl rfl (by decide) (by decide) hk1 hFc hP1 hD1
    generalize H1 = H at hP hS ⊢
    have hP : va_P (dC, dI) vwCl [(mx, .inr (14, [.ref lc, .ref lr, .ref kn, .ref lt, .ref ml, .ref mm, .ref lp, .ref lb, .ref mq, .int 1, .int 10, .int 0, .int 0])), (lb, .inr (4, [.int 0, .ref d, .int 0]))] H := hP
    have hD : va_D A [(mx, .inr (14, [.ref lc, .ref lr, .ref kn, .ref lt, .ref ml, .ref mm, .ref lp, .ref lb, .ref mq, .int 1, .int 10, .int 0, .int 0])), (lb, .inr (4, [.int 0, .ref d, .int 0]))] := hD
    refine W.widen (k := 4) (n := 32) (Nat.le_of_ble_eq_true rfl) (Nat.le_of_ble_eq_true rfl) ?_
    refine W.eq (g2 := F0 m 4 ls [.null]) rfl ?_
    refine lv_astore_nN (lv' := [(3, .null), (0, .ref mx), (1, .long c1)]) hx hb dX9_bar_4 rfl hl (by decide) rfl (fun ls hl => ?_)
    refine lv_aload_nN hx hb dX9_bar_5 rfl (lv_at hl 0 rfl) ?_
    refine lv_ifnullN (tgt := 17) hx hb dX9_bar_6 (by decide) ?_
    refine lv_bipush (v := (-2)) hx hb dX9_bar_17 (by decide) ?_
    refine W.widen (k := 5) (n := 42) (Nat.le_of_ble_eq_true rfl) (Nat.le_of_ble_eq_true rfl) ?_
    exact W.iret (v := (-2)) hx hb hr (fun t ht hW => ⟨⟨_, (), rfl, (by simp only [sp_M_bar, if_pos hsp]), trivial⟩, hS.F ht⟩) hS.2.2 dX9_bar_19
  | some ra =>
    have hsp : ¬ sp_M_asWord c1 = 0 := by rw [h1 _ rfl]; decide
    obtain ⟨g2, hP1, hK1, hD1⟩ := hB _ rfl
    rw [ht] at hP1
    obtain ⟨hP, hD⟩ := va_join (wr := [(mx, .inr (14, [.ref lc, .ref lr, .ref kn, .ref lt, .ref ml, .ref mm, .ref lp, .ref lb, .ref mq, .int 1, .int 10, .int 0, .int 0])), (lb, .inr (4, [.int 0, .ref d, .int 0]))]) (w1 := [(ra, .inr (0, [.ref g2, .int 0, .int 0, .int 0]))]) hP hD [] [0, 1] rfl rfl (by decide) (by decide) hk1 hFc hP1 hD1
    generalize H1 = H at hP hS ⊢
    have hP : va_P (dC, dI) vwCl [(mx, .inr (14, [.ref lc, .ref lr, .ref kn, .ref lt, .ref ml, .ref mm, .ref lp, .ref lb, .ref mq, .int 1, .int 10, .int 0, .int 0])), (lb, .inr (4, [.int 0, .ref d, .int 0])), (ra, .inr (0, [.ref g2, .int 0, .int 0, .int 0]))] H := hP
    have hD : va_D A [(mx, .inr (14, [.ref lc, .ref lr, .ref kn, .ref lt, .ref ml, .ref mm, .ref lp, .ref lb, .ref mq, .int 1, .int 10, .int 0, .int 0])), (lb, .inr (4, [.int 0, .ref d, .int 0])), (ra, .inr (0, [.ref g2, .int 0, .int 0, .int 0]))] := hD
    refine W.widen (k := 4) (n := 32) (Nat.le_of_ble_eq_true rfl) (Nat.le_of_ble_eq_true rfl) ?_
    refine W.eq (g2 := F0 m 4 ls [.ref ra]) rfl ?_
    refine lv_astore_n (lv' := [(3, .ref ra), (0, .ref mx), (1, .long c1)]) hx hb dX9_bar_4 rfl hl (by decide) rfl (fun ls hl => ?_)
    refine lv_aload_n hx hb dX9_bar_5 rfl (lv_at hl 0 rfl) ?_
    refine lv_ifnull hx hb dX9_bar_6 ?_
    refine lv_aload_n hx hb dX9_bar_9 rfl (lv_at hl 1 rfl) ?_
    refine lv_aload_n hx hb dX9_bar_10 rfl (lv_at hl 0 rfl) ?_
    refine vp_callSi (va_Run.run (va_runV (As := [.ref ra]) (rest := []) ⟨hx, hb, hml, hown, hts⟩ (c_M_isBarred l dC dI mx lc lr kn lt ml mm lp lb mq d ra) (cwV 1 hts gX9_bar_X9_isBarred rfl rfl rfl (by decide +kernel) ⟨Nat.le_of_ble_eq_true rfl, Nat.le_of_ble_eq_true rfl⟩) ⟨PS_blind, va_recv hK hP (ci := 14) (q0 := 0) rfl rfl, PS_pre (hP.sub (ws' := [(mx, .inr (14, [.ref lc, .ref lr, .ref kn, .ref lt, .ref ml, .ref mm, .ref lp, .ref lb, .ref mq, .int 1, .int 10, .int 0, .int 0])), (lb, .inr (4, [.int 0, .ref d, .int 0]))]) [0, 1] rfl) hK hF⟩ rfl rfl hl.1 rfl (lv_room (Nat.le_of_ble_eq_true rfl)) dX9_bar_11 ⟨Nat.le_of_ble_eq_true rfl, Nat.le_of_ble_eq_true rfl⟩)) (fun r_1 hr_1 => ?_)
    subst hr_1
    refine lv_if_eq (tgt := 20) hx hb dX9_bar_14 (by decide) (fun _ => ?_) (fun c_2 => absurd (by decide) c_2)
    refine lv_aload_n hx hb dX9_bar_20 rfl (lv_at hl 1 rfl) ?_
    refine va_get (D := (dC, dI)) (ci := 14) (v := .ref lb) (C := RX9) (T := TX9) (N := 13) hx hb hts (fun _ h9 => List.mem_cons_of_mem _ (List.mem_append_left _ (List.mem_append_left _ (List.mem_append_left _ (List.mem_append_left _ (List.mem_append_right _ (h9))))))) hown hK hP 0 rfl rfl 7 (by decide) (hts (.fieldLink RX9 37 "ExamHallsModel" "barred" "Ljava/util/List;") (List.mem_of_getElem? (i := 1) rfl)) (fun _ h9 => h9) rfl dX9_bar_21 ?_
    refine va_csFi (va_runF (hK.1 4 _ rfl).2 (As := []) (rest := []) ⟨hx, hb, hml, hown, hts⟩ (c_AL_size l dC dI lb 0 d 0) (va_cwF 0 hts gX9_bar_Jx4a65c_size_8abf5_f56Jx4a65c rfl rfl rfl (Ft.fw hF (RJx4a65c, ⟨"java/util/List", "size", "()I"⟩, yJx4a65c_size_8abf5) (by decide +kernel)) (by decide +kernel) ⟨Nat.le_of_ble_eq_true rfl, Nat.le_of_ble_eq_true rfl⟩) ⟨PS_blind, va_recv hK hP (ci := 4) (q0 := 1) rfl rfl, PS_pre (hP.sub (ws' := [(lb, .inr (4, [.int 0, .ref d, .int 0]))]) [1] rfl) hK hF⟩ rfl rfl hl.1 rfl (lv_room (Nat.le_of_ble_eq_true rfl)) dX9_bar_24 ⟨Nat.le_of_ble_eq_true rfl, Nat.le_of_ble_eq_true rfl⟩) (fun r_3 hr_3 => ?_)
    subst hr_3
    refine lv_bipush (v := 8) hx hb dX9_bar_29 (by decide) ?_
    refine lv_icmp_ne (tgt := 37) hx hb dX9_bar_31 (by decide) (fun _ => ?_) (fun c_4 => absurd c_4 (by decide))
    refine lv_aload_n hx hb dX9_bar_37 rfl (lv_at hl 1 rfl) ?_
    refine va_get (D := (dC, dI)) (ci := 14) (v := .ref lb) (C := RX9) (T := TX9) (N := 13) hx hb hts (fun _ h9 => List.mem_cons_of_mem _ (List.mem_append_left _ (List.mem_append_left _ (List.mem_append_left _ (List.mem_append_left _ (List.mem_append_right _ (h9))))))) hown hK hP 0 rfl rfl 7 (by decide) (hts (.fieldLink RX9 37 "ExamHallsModel" "barred" "Ljava/util/List;") (List.mem_of_getElem? (i := 1) rfl)) (fun _ h9 => h9) rfl dX9_bar_38 ?_
    refine lv_aload_n hx hb dX9_bar_41 rfl (lv_at hl 0 rfl) ?_
    have hPc := hP.sub (ws' := [(lb, .inr (4, [.int 0, .ref d, .int 0]))]) [1] rfl
    have hDc := hD.sub (ws' := [(lb, .inr (4, [.int 0, .ref d, .int 0]))]) [1] (by decide) rfl
    have hKc := hK.sub (tys' := []) [] rfl
    have hFc := va_free (wc := [(lb, .inr (4, [.int 0, .ref d, .int 0]))]) hD hS hA [1] rfl
    refine va_callFi (va_runF (hK.1 4 _ rfl).2 (As := [.ref ra]) (rest := []) ⟨hx, hb, hml, hown, hts⟩ (c_AL_addf l dC dI d tc ad lb 0 ra H.size (fun h9 => absurd (hD.1 2 1 _ _ rfl rfl h9) (by decide)) (hP 2 _ rfl).lt) (va_cwF 1 hts gX9_bar_Jx4a65c_add_9ea2d_f72Jx4a65c rfl rfl rfl (Ft.fw hF (RJx4a65c, ⟨"java/util/List", "add", "(Ljava/lang/Object;)Z"⟩, yJx4a65c_add_9ea2d) (by decide +kernel)) (by decide +kernel) ⟨Nat.le_of_ble_eq_true rfl, Nat.le_of_ble_eq_true rfl⟩) ⟨PE_blind, va_recv hK hP (ci := 4) (q0 := 1) rfl rfl, PE_pre hPc hKc hDc hF hZ hS hFc (any_obj hF hK hP (ci := 0) (q0 := 2) rfl rfl (by decide +kernel))⟩ rfl rfl hl.1 rfl (lv_room (Nat.le_of_ble_eq_true rfl)) dX9_bar_42 ⟨Nat.le_of_ble_eq_true rfl, Nat.le_of_ble_eq_true rfl⟩) hS (fun q _ h => hFc q h) hFc (fun r_5 u t H1 locs ht hvm hw hB hz1 hk1 hS => ?_)
    obtain ⟨hm_6, g1_7, kO_8, fa_9, hP1, hK1, hD1⟩ := hB
    rw [ht] at hP1
    have hK1 := va_K.moved hvm.symm hK1
    obtain ⟨hP, hD⟩ := va_join (wr := [(mx, .inr (14, [.ref lc, .ref lr, .ref kn, .ref lt, .ref ml, .ref mm, .ref lp, .ref lb, .ref mq, .int 1, .int 10, .int 0, .int 0])), (ra, .inr (0, [.ref g2, .int 0, .int 0, .int 0]))]) (w1 := [(lb, .inr (4, [.int hm_6, .ref g1_7, .int 1])), (g1_7, .inl (kO_8, 10, .inr (.inr (.inr (.inr fa_9)))))]) hP hD [1] [0, 2] rfl rfl (by decide) (by decide) hk1 hFc hP1 hD1
    have hK := hK.app hK1
    generalize H1 = H at hP hS ⊢
    have hP : va_P (dC, dI) vwCl [(mx, .inr (14, [.ref lc, .ref lr, .ref kn, .ref lt, .ref ml, .ref mm, .ref lp, .ref lb, .ref mq, .int 1, .int 10, .int 0, .int 0])), (ra, .inr (0, [.ref g2, .int 0, .int 0, .int 0])), (lb, .inr (4, [.int hm_6, .ref g1_7, .int 1])), (g1_7, .inl (kO_8, 10, .inr (.inr (.inr (.inr fa_9)))))] H := hP
    have hD : va_D A [(mx, .inr (14, [.ref lc, .ref lr, .ref kn, .ref lt, .ref ml, .ref mm, .ref lp, .ref lb, .ref mq, .int 1, .int 10, .int 0, .int 0])), (ra, .inr (0, [.ref g2, .int 0, .int 0, .int 0])), (lb, .inr (4, [.int hm_6, .ref g1_7, .int 1])), (g1_7, .inl (kO_8, 10, .inr (.inr (.inr (.inr fa_9)))))] := hD
    have hK : va_K (dC, dI) vwCl [(kO_8, .object "java/lang/Object")] s := hK
    refine W.widen (k := 5) (n := 42) (Nat.le_of_ble_eq_true rfl) (Nat.le_of_ble_eq_true rfl) ?_
    obtain rfl := hw
    refine lv_pop hx hb dX9_bar_47 rfl ?_
    refine lv_aload_n hx hb dX9_bar_48 rfl (lv_at hl 1 rfl) ?_
    refine va_get (D := (dC, dI)) (ci := 14) (v := .ref lb) (C := RX9) (T := TX9) (N := 13) hx hb hts (fun _ h9 => List.mem_cons_of_mem _ (List.mem_append_left _ (List.mem_append_left _ (List.mem_append_left _ (List.mem_append_left _ (List.mem_append_right _ (h9))))))) hown hK hP 0 rfl rfl 7 (by decide) (hts (.fieldLink RX9 37 "ExamHallsModel" "barred" "Ljava/util/List;") (List.mem_of_getElem? (i := 1) rfl)) (fun _ h9 => h9) rfl dX9_bar_49 ?_
    refine va_csFi (va_runF (hK.1 4 _ rfl).2 (As := []) (rest := []) ⟨hx, hb, hml, hown, hts⟩ (c_AL_size l dC dI lb hm_6 g1_7 1) (va_cwF 0 hts gX9_bar_Jx4a65c_size_8abf5_f56Jx4a65c rfl rfl rfl (Ft.fw hF (RJx4a65c, ⟨"java/util/List", "size", "()I"⟩, yJx4a65c_size_8abf5) (by decide +kernel)) (by decide +kernel) ⟨Nat.le_of_ble_eq_true rfl, Nat.le_of_ble_eq_true rfl⟩) ⟨PS_blind, va_recv hK hP (ci := 4) (q0 := 2) rfl rfl, PS_pre (hP.sub (ws' := [(lb, .inr (4, [.int hm_6, .ref g1_7, .int 1]))]) [2] rfl) (hK.sub (tys' := []) [] rfl) hF⟩ rfl rfl hl.1 rfl (lv_room (Nat.le_of_ble_eq_true rfl)) dX9_bar_52 ⟨Nat.le_of_ble_eq_true rfl, Nat.le_of_ble_eq_true rfl⟩) (fun r_10 hr_10 => ?_)
    subst hr_10
    exact W.iret (v := 1) hx hb hr (fun t ht hW => ⟨⟨_, (), rfl, (by simp only [sp_M_bar, if_neg hsp]), trivial⟩, hS.F ht⟩) hS.2.2 dX9_bar_57
