theorem dX5_isWithin_0 : decode cX5_isWithin 0 = .ok (.iload_n 0, 1) := by decide +kernel
theorem dX5_isWithin_1 : decode cX5_isWithin 1 = .ok (.iload_n 1, 1) := by decide +kernel
theorem dX5_isWithin_2 : decode cX5_isWithin 2 = .ok (.if_icmp .lt 12, 3) := by decide +kernel
theorem dX5_isWithin_5 : decode cX5_isWithin 5 = .ok (.iload_n 0, 1) := by decide +kernel
theorem dX5_isWithin_6 : decode cX5_isWithin 6 = .ok (.iload_n 2, 1) := by decide +kernel
theorem dX5_isWithin_7 : decode cX5_isWithin 7 = .ok (.if_icmp .gt 7, 3) := by decide +kernel
theorem dX5_isWithin_10 : decode cX5_isWithin 10 = .ok (.iconst 1, 1) := by decide +kernel
theorem dX5_isWithin_11 : decode cX5_isWithin 11 = .ok (.goto 4, 3) := by decide +kernel
theorem dX5_isWithin_14 : decode cX5_isWithin 14 = .ok (.iconst 0, 1) := by decide +kernel
theorem dX5_isWithin_15 : decode cX5_isWithin 15 = .ok (.ireturn, 1) := by decide +kernel
theorem dX5_find_0 : decode cX5_find 0 = .ok (.iload_n 1, 1) := by decide +kernel
theorem dX5_find_1 : decode cX5_find 1 = .ok (.ifCond .lt 20, 3) := by decide +kernel
theorem dX5_find_4 : decode cX5_find 4 = .ok (.iload_n 1, 1) := by decide +kernel
theorem dX5_find_5 : decode cX5_find 5 = .ok (.aload_n 0, 1) := by decide +kernel
theorem dX5_find_6 : decode cX5_find 6 = .ok (.getfield 15, 3) := by decide +kernel
theorem dX5_find_9 : decode cX5_find 9 = .ok (.if_icmp .ge 12, 3) := by decide +kernel
theorem dX5_find_22 : decode cX5_find 22 = .ok (.areturn, 1) := by decide +kernel
theorem dX5_openedBy_0 : decode cX5_openedBy 0 = .ok (.iconst 0, 1) := by decide +kernel
theorem dX5_openedBy_1 : decode cX5_openedBy 1 = .ok (.istore_n 2, 1) := by decide +kernel
theorem dX5_openedBy_2 : decode cX5_openedBy 2 = .ok (.iconst 0, 1) := by decide +kernel
theorem dX5_openedBy_3 : decode cX5_openedBy 3 = .ok (.istore_n 3, 1) := by decide +kernel
theorem dX5_openedBy_4 : decode cX5_openedBy 4 = .ok (.iload_n 3, 1) := by decide +kernel
theorem dX5_openedBy_5 : decode cX5_openedBy 5 = .ok (.aload_n 0, 1) := by decide +kernel
theorem dX5_openedBy_6 : decode cX5_openedBy 6 = .ok (.getfield 15, 3) := by decide +kernel
theorem dX5_openedBy_9 : decode cX5_openedBy 9 = .ok (.if_icmp .ge 33, 3) := by decide +kernel
theorem dX5_openedBy_42 : decode cX5_openedBy 42 = .ok (.iload_n 2, 1) := by decide +kernel
theorem dX5_openedBy_43 : decode cX5_openedBy 43 = .ok (.ireturn, 1) := by decide +kernel
def sp_X_isWithin (n : Int32) (lo : Int32) (hi : Int32) : Int32 := if n < lo then 0 else if hi < n then 0 else 1
set_option maxHeartbeats 4000000 in
set_option maxRecDepth 100000 in
theorem c_X_isWithin (l : Launch) (dC : Nat → ClassId) (dI : Nat → Nat → Nat) (n : Int32) (lo : Int32) (hi : Int32) : Met l yX5_isWithin wsX5_isWithin ({ frames := 0, cells := 0, slots := 0, locals := 0 }) (va_Pc [.int n, .int lo, .int hi] (PS dC dI [] [])) (vp_Si (fun r => r = sp_X_isWithin n lo hi)) 0 0 (fun _ => False) := by
  refine Met.ofW (cc := cX5_isWithin) (maxL := 3) (ret := (some .boolean)) (by decide) rfl ?_
  intro p e s m args below meth c s₁ B hml hv
  obtain ⟨rfl, hP, hK, hF⟩ := hv
  have hx := B.exec
  have hb := B.bytes
  have hr := B.returns
  have hts := atoms_spec (ws := wsX5_isWithin) B.pre
  have hown : s.vm.findClass RX5 = some m.cls := findClass_of_methodNamed B.named
  have hlocks := B.notSynchronized
  have hl := lv_entry ([.int n, .int lo, .int hi]) (n := 3) (Nat.le_of_ble_eq_true rfl)
  rw [lg_entry_eq]
  generalize (lg_sl ([.int n, .int lo, .int hi]) ++ List.replicate (3 - (lg_sl ([.int n, .int lo, .int hi])).length) Slot.unset).toArray = ls at hl ⊢
  have hl : lv_has ls 3 [(0, .int n), (1, .int lo), (2, .int hi)] := hl
  refine lv_iload_n hx hb dX5_isWithin_0 rfl (lv_at hl 0 rfl) ?_
  refine lv_iload_n hx hb dX5_isWithin_1 rfl (lv_at hl 1 rfl) ?_
  refine lv_icmp_lt (tgt := 14) hx hb dX5_isWithin_2 (by decide) (fun c_1 => ?_) (fun c_1 => ?_)
  · skip
    refine lv_iconst (v := 0) hx hb dX5_isWithin_14 (by decide) ?_
    exact W.zret (v := 0) hx hb hr (by decide) (fun t ht hW => ⟨_, rfl, (by simp only [sp_X_isWithin, if_pos c_1]), ht⟩) (fun _ h9 => absurd h9 List.not_mem_nil) dX5_isWithin_15
  · skip
    refine lv_iload_n hx hb dX5_isWithin_5 rfl (lv_at hl 0 rfl) ?_
    refine lv_iload_n hx hb dX5_isWithin_6 rfl (lv_at hl 2 rfl) ?_
    refine lv_icmp_gt (tgt := 14) hx hb dX5_isWithin_7 (by decide) (fun c_2 => ?_) (fun c_2 => ?_)
    · skip
      refine lv_iconst (v := 0) hx hb dX5_isWithin_14 (by decide) ?_
      exact W.zret (v := 0) hx hb hr (by decide) (fun t ht hW => ⟨_, rfl, (by simp only [sp_X_isWithin, if_neg c_1, if_pos c_2]), ht⟩) (fun _ h9 => absurd h9 List.not_mem_nil) dX5_isWithin_15
    · skip
      refine lv_iconst (v := 1) hx hb dX5_isWithin_10 (by decide) ?_
      refine lv_goto (tgt := 15) hx hb dX5_isWithin_11 (by decide) ?_
      exact W.zret (v := 1) hx hb hr (by decide) (fun t ht hW => ⟨_, rfl, (by simp only [sp_X_isWithin, if_neg c_1, if_neg c_2]), ht⟩) (fun _ h9 => absurd h9 List.not_mem_nil) dX5_isWithin_15

theorem wb {x lo hi : Int32} (h : ¬ sp_X_isWithin x lo hi = 0) : ¬ x < lo ∧ ¬ hi < x := by
  unfold sp_X_isWithin at h
  by_cases h1 : x < lo
  · rw [if_pos h1] at h
    exact absurd rfl h
  · by_cases h2 : hi < x
    · rw [if_neg h1, if_pos h2] at h
      exact absurd rfl h
    · exact ⟨h1, h2⟩
theorem vin_w {x hi : Int32} {N : Nat} (hN : N < 2 ^ 31) (hh : hi < nI N) (h : ¬ sp_X_isWithin x 0 hi = 0) : vp_in x N :=
  vin_lt hN (wb h).1 (fun q => (wb h).2 (Int32.lt_of_lt_of_le hh q))

theorem dX0_init_0 : decode cX0_init 0 = .ok (.aload_n 0, 1) := by decide +kernel
theorem dX0_init_1 : decode cX0_init 1 = .ok (.invokespecial 3, 3) := by decide +kernel
theorem dX0_init_4 : decode cX0_init 4 = .ok (.aload_n 0, 1) := by decide +kernel
theorem dX0_init_5 : decode cX0_init 5 = .ok (.aconst_null, 1) := by decide +kernel
theorem dX0_init_6 : decode cX0_init 6 = .ok (.putfield 9, 3) := by decide +kernel
theorem dX0_init_9 : decode cX0_init 9 = .ok (.aload_n 0, 1) := by decide +kernel
theorem dX0_init_10 : decode cX0_init 10 = .ok (.iconst (-1), 1) := by decide +kernel
theorem dX0_init_11 : decode cX0_init 11 = .ok (.putfield 15, 3) := by decide +kernel
theorem dX0_init_14 : decode cX0_init 14 = .ok (.aload_n 0, 1) := by decide +kernel
theorem dX0_init_15 : decode cX0_init 15 = .ok (.iconst (-1), 1) := by decide +kernel
theorem dX0_init_16 : decode cX0_init 16 = .ok (.putfield 19, 3) := by decide +kernel
theorem dX0_init_19 : decode cX0_init 19 = .ok (.aload_n 0, 1) := by decide +kernel
theorem dX0_init_20 : decode cX0_init 20 = .ok (.iconst 0, 1) := by decide +kernel
theorem dX0_init_21 : decode cX0_init 21 = .ok (.putfield 22, 3) := by decide +kernel
theorem dX0_init_24 : decode cX0_init 24 = .ok (.aload_n 0, 1) := by decide +kernel
theorem dX0_init_25 : decode cX0_init 25 = .ok (.iconst 0, 1) := by decide +kernel
theorem dX0_init_26 : decode cX0_init 26 = .ok (.putfield 26, 3) := by decide +kernel
theorem dX0_init_29 : decode cX0_init 29 = .ok (.aload_n 0, 1) := by decide +kernel
theorem dX0_init_30 : decode cX0_init 30 = .ok (.bipush 8, 2) := by decide +kernel
theorem dX0_init_32 : decode cX0_init 32 = .ok (.newarray .int, 2) := by decide +kernel
theorem dX0_init_34 : decode cX0_init 34 = .ok (.putfield 29, 3) := by decide +kernel
theorem dX0_init_37 : decode cX0_init 37 = .ok (.aload_n 0, 1) := by decide +kernel
theorem dX0_init_38 : decode cX0_init 38 = .ok (.iconst 3, 1) := by decide +kernel
theorem dX0_init_39 : decode cX0_init 39 = .ok (.newarray .int, 2) := by decide +kernel
theorem dX0_init_41 : decode cX0_init 41 = .ok (.putfield 33, 3) := by decide +kernel
theorem dX0_init_44 : decode cX0_init 44 = .ok (.aload_n 0, 1) := by decide +kernel
theorem dX0_init_45 : decode cX0_init 45 = .ok (.iconst 3, 1) := by decide +kernel
theorem dX0_init_46 : decode cX0_init 46 = .ok (.newarray .int, 2) := by decide +kernel
theorem dX0_init_48 : decode cX0_init 48 = .ok (.putfield 36, 3) := by decide +kernel
theorem dX0_init_51 : decode cX0_init 51 = .ok (.aload_n 0, 1) := by decide +kernel
theorem dX0_init_52 : decode cX0_init 52 = .ok (.iconst 0, 1) := by decide +kernel
theorem dX0_init_53 : decode cX0_init 53 = .ok (.putfield 39, 3) := by decide +kernel
theorem dX0_init_56 : decode cX0_init 56 = .ok (.aload_n 0, 1) := by decide +kernel
theorem dX0_init_57 : decode cX0_init 57 = .ok (.iload_n 1, 1) := by decide +kernel
theorem dX0_init_58 : decode cX0_init 58 = .ok (.putfield 42, 3) := by decide +kernel
theorem dX0_init_61 : decode cX0_init 61 = .ok (.return_, 1) := by decide +kernel
theorem dX2_init_0 : decode cX2_init 0 = .ok (.aload_n 0, 1) := by decide +kernel
theorem dX2_init_1 : decode cX2_init 1 = .ok (.invokespecial 3, 3) := by decide +kernel
theorem dX2_init_4 : decode cX2_init 4 = .ok (.aload_n 0, 1) := by decide +kernel
theorem dX2_init_5 : decode cX2_init 5 = .ok (.iconst 1, 1) := by decide +kernel
theorem dX2_init_6 : decode cX2_init 6 = .ok (.putfield 9, 3) := by decide +kernel
theorem dX2_init_9 : decode cX2_init 9 = .ok (.aload_n 0, 1) := by decide +kernel
theorem dX2_init_10 : decode cX2_init 10 = .ok (.bipush 8, 2) := by decide +kernel
theorem dX2_init_12 : decode cX2_init 12 = .ok (.newarray .int, 2) := by decide +kernel
theorem dX2_init_14 : decode cX2_init 14 = .ok (.putfield 15, 3) := by decide +kernel
theorem dX2_init_17 : decode cX2_init 17 = .ok (.aload_n 0, 1) := by decide +kernel
theorem dX2_init_18 : decode cX2_init 18 = .ok (.bipush 8, 2) := by decide +kernel
theorem dX2_init_20 : decode cX2_init 20 = .ok (.newarray .int, 2) := by decide +kernel
theorem dX2_init_22 : decode cX2_init 22 = .ok (.putfield 19, 3) := by decide +kernel
theorem dX2_init_25 : decode cX2_init 25 = .ok (.aload_n 0, 1) := by decide +kernel
theorem dX2_init_26 : decode cX2_init 26 = .ok (.bipush 6, 2) := by decide +kernel
theorem dX2_init_28 : decode cX2_init 28 = .ok (.newarray .int, 2) := by decide +kernel
theorem dX2_init_30 : decode cX2_init 30 = .ok (.putfield 22, 3) := by decide +kernel
theorem dX2_init_33 : decode cX2_init 33 = .ok (.aload_n 0, 1) := by decide +kernel
theorem dX2_init_34 : decode cX2_init 34 = .ok (.bipush 6, 2) := by decide +kernel
theorem dX2_init_36 : decode cX2_init 36 = .ok (.newarray .int, 2) := by decide +kernel
theorem dX2_init_38 : decode cX2_init 38 = .ok (.putfield 25, 3) := by decide +kernel
theorem dX2_init_41 : decode cX2_init 41 = .ok (.aload_n 0, 1) := by decide +kernel
theorem dX2_init_42 : decode cX2_init 42 = .ok (.iconst 0, 1) := by decide +kernel
theorem dX2_init_43 : decode cX2_init 43 = .ok (.putfield 28, 3) := by decide +kernel
theorem dX2_init_46 : decode cX2_init 46 = .ok (.aload_n 0, 1) := by decide +kernel
theorem dX2_init_47 : decode cX2_init 47 = .ok (.bipush 8, 2) := by decide +kernel
theorem dX2_init_49 : decode cX2_init 49 = .ok (.newarray .long, 2) := by decide +kernel
theorem dX2_init_51 : decode cX2_init 51 = .ok (.putfield 31, 3) := by decide +kernel
theorem dX2_init_54 : decode cX2_init 54 = .ok (.aload_n 0, 1) := by decide +kernel
theorem dX2_init_55 : decode cX2_init 55 = .ok (.iconst 0, 1) := by decide +kernel
theorem dX2_init_56 : decode cX2_init 56 = .ok (.putfield 35, 3) := by decide +kernel
theorem dX2_init_59 : decode cX2_init 59 = .ok (.iconst 0, 1) := by decide +kernel
theorem dX2_init_60 : decode cX2_init 60 = .ok (.istore_n 1, 1) := by decide +kernel
theorem dX2_init_61 : decode cX2_init 61 = .ok (.iload_n 1, 1) := by decide +kernel
theorem dX2_init_62 : decode cX2_init 62 = .ok (.bipush 8, 2) := by decide +kernel
theorem dX2_init_64 : decode cX2_init 64 = .ok (.if_icmp .ge 24, 3) := by decide +kernel
theorem dX2_init_67 : decode cX2_init 67 = .ok (.aload_n 0, 1) := by decide +kernel
theorem dX2_init_68 : decode cX2_init 68 = .ok (.getfield 15, 3) := by decide +kernel
theorem dX2_init_71 : decode cX2_init 71 = .ok (.iload_n 1, 1) := by decide +kernel
theorem dX2_init_72 : decode cX2_init 72 = .ok (.iconst 1, 1) := by decide +kernel
theorem dX2_init_73 : decode cX2_init 73 = .ok (.iastore, 1) := by decide +kernel
theorem dX2_init_74 : decode cX2_init 74 = .ok (.aload_n 0, 1) := by decide +kernel
theorem dX2_init_75 : decode cX2_init 75 = .ok (.getfield 19, 3) := by decide +kernel
theorem dX2_init_78 : decode cX2_init 78 = .ok (.iload_n 1, 1) := by decide +kernel
theorem dX2_init_79 : decode cX2_init 79 = .ok (.bipush 12, 2) := by decide +kernel
theorem dX2_init_81 : decode cX2_init 81 = .ok (.iastore, 1) := by decide +kernel
theorem dX2_init_82 : decode cX2_init 82 = .ok (.iinc 1 1, 3) := by decide +kernel
theorem dX2_init_85 : decode cX2_init 85 = .ok (.goto (-24), 3) := by decide +kernel
theorem dX2_init_88 : decode cX2_init 88 = .ok (.return_, 1) := by decide +kernel
theorem dX4_init_0 : decode cX4_init 0 = .ok (.aload_n 0, 1) := by decide +kernel
theorem dX4_init_1 : decode cX4_init 1 = .ok (.invokespecial 3, 3) := by decide +kernel
theorem dX4_init_4 : decode cX4_init 4 = .ok (.aload_n 0, 1) := by decide +kernel
theorem dX4_init_5 : decode cX4_init 5 = .ok (.sipush 250, 3) := by decide +kernel
theorem dX4_init_8 : decode cX4_init 8 = .ok (.newarray .byte, 2) := by decide +kernel
theorem dX4_init_10 : decode cX4_init 10 = .ok (.putfield 9, 3) := by decide +kernel
theorem dX4_init_13 : decode cX4_init 13 = .ok (.aload_n 0, 1) := by decide +kernel
theorem dX4_init_14 : decode cX4_init 14 = .ok (.iconst 0, 1) := by decide +kernel
theorem dX4_init_15 : decode cX4_init 15 = .ok (.putfield 15, 3) := by decide +kernel
theorem dX4_init_18 : decode cX4_init 18 = .ok (.return_, 1) := by decide +kernel
set_option maxRecDepth 20000 in
theorem ggX5_init_X4_init : GoodIn wsX5_init wsX4_init := goodIn_r _ [29, 30, 2, 3, 31, 32, 33, 60, 61] (by decide +kernel) (by decide +kernel)
set_option maxRecDepth 20000 in
theorem gX5_init_X4_init_n30 : GoodIn wsX5_init (wsX4_init) := ggX5_init_X4_init
set_option maxRecDepth 20000 in
theorem ggX5_init_X2_init : GoodIn wsX5_init wsX2_init := goodIn_r _ [35, 36, 2, 3, 37, 19, 38, 39, 40, 41, 42, 43, 44, 45, 62, 63, 64, 65, 66, 67, 68, 69] (by decide +kernel) (by decide +kernel)
set_option maxRecDepth 20000 in
theorem gX5_init_X2_init_n37 : GoodIn wsX5_init (wsX2_init) := ggX5_init_X2_init
theorem dX5_init_0 : decode cX5_init 0 = .ok (.aload_n 0, 1) := by decide +kernel
theorem dX5_init_1 : decode cX5_init 1 = .ok (.invokespecial 1, 3) := by decide +kernel
theorem dX5_init_4 : decode cX5_init 4 = .ok (.aload_n 0, 1) := by decide +kernel
theorem dX5_init_5 : decode cX5_init 5 = .ok (.bipush 24, 2) := by decide +kernel
theorem dX5_init_7 : decode cX5_init 7 = .ok (.anewarray 9, 3) := by decide +kernel
theorem dX5_init_10 : decode cX5_init 10 = .ok (.putfield 11, 3) := by decide +kernel
theorem dX5_init_13 : decode cX5_init 13 = .ok (.aload_n 0, 1) := by decide +kernel
theorem dX5_init_14 : decode cX5_init 14 = .ok (.iconst 0, 1) := by decide +kernel
theorem dX5_init_15 : decode cX5_init 15 = .ok (.putfield 15, 3) := by decide +kernel
theorem dX5_init_18 : decode cX5_init 18 = .ok (.aload_n 0, 1) := by decide +kernel
theorem dX5_init_19 : decode cX5_init 19 = .ok (.bipush 6, 2) := by decide +kernel
theorem dX5_init_21 : decode cX5_init 21 = .ok (.anewarray 19, 3) := by decide +kernel
theorem dX5_init_24 : decode cX5_init 24 = .ok (.putfield 21, 3) := by decide +kernel
theorem dX5_init_27 : decode cX5_init 27 = .ok (.aload_n 0, 1) := by decide +kernel
theorem dX5_init_28 : decode cX5_init 28 = .ok (.iconst 0, 1) := by decide +kernel
theorem dX5_init_29 : decode cX5_init 29 = .ok (.putfield 25, 3) := by decide +kernel
theorem dX5_init_32 : decode cX5_init 32 = .ok (.aload_n 0, 1) := by decide +kernel
theorem dX5_init_33 : decode cX5_init 33 = .ok (.new 28, 3) := by decide +kernel
theorem dX5_init_36 : decode cX5_init 36 = .ok (.dup, 1) := by decide +kernel
theorem dX5_init_37 : decode cX5_init 37 = .ok (.invokespecial 30, 3) := by decide +kernel
theorem dX5_init_40 : decode cX5_init 40 = .ok (.putfield 31, 3) := by decide +kernel
theorem dX5_init_43 : decode cX5_init 43 = .ok (.aload_n 0, 1) := by decide +kernel
theorem dX5_init_44 : decode cX5_init 44 = .ok (.new 35, 3) := by decide +kernel
theorem dX5_init_47 : decode cX5_init 47 = .ok (.dup, 1) := by decide +kernel
theorem dX5_init_48 : decode cX5_init 48 = .ok (.invokespecial 37, 3) := by decide +kernel
theorem dX5_init_51 : decode cX5_init 51 = .ok (.putfield 38, 3) := by decide +kernel
theorem dX5_init_54 : decode cX5_init 54 = .ok (.aload_n 0, 1) := by decide +kernel
theorem dX5_init_55 : decode cX5_init 55 = .ok (.bipush 10, 2) := by decide +kernel
theorem dX5_init_57 : decode cX5_init 57 = .ok (.putfield 42, 3) := by decide +kernel
theorem dX5_init_60 : decode cX5_init 60 = .ok (.aload_n 0, 1) := by decide +kernel
theorem dX5_init_61 : decode cX5_init 61 = .ok (.iconst 4, 1) := by decide +kernel
theorem dX5_init_62 : decode cX5_init 62 = .ok (.newarray .int, 2) := by decide +kernel
theorem dX5_init_64 : decode cX5_init 64 = .ok (.putfield 45, 3) := by decide +kernel
theorem dX5_init_67 : decode cX5_init 67 = .ok (.aload_n 0, 1) := by decide +kernel
theorem dX5_init_68 : decode cX5_init 68 = .ok (.iconst 0, 1) := by decide +kernel
theorem dX5_init_69 : decode cX5_init 69 = .ok (.putfield 49, 3) := by decide +kernel
theorem dX5_init_72 : decode cX5_init 72 = .ok (.aload_n 0, 1) := by decide +kernel
theorem dX5_init_73 : decode cX5_init 73 = .ok (.iconst 0, 1) := by decide +kernel
theorem dX5_init_74 : decode cX5_init 74 = .ok (.putfield 52, 3) := by decide +kernel
theorem dX5_init_77 : decode cX5_init 77 = .ok (.aload_n 0, 1) := by decide +kernel
theorem dX5_init_78 : decode cX5_init 78 = .ok (.bipush 6, 2) := by decide +kernel
theorem dX5_init_80 : decode cX5_init 80 = .ok (.newarray .int, 2) := by decide +kernel
theorem dX5_init_82 : decode cX5_init 82 = .ok (.putfield 55, 3) := by decide +kernel
theorem dX5_init_85 : decode cX5_init 85 = .ok (.aload_n 0, 1) := by decide +kernel
theorem dX5_init_86 : decode cX5_init 86 = .ok (.bipush 24, 2) := by decide +kernel
theorem dX5_init_88 : decode cX5_init 88 = .ok (.newarray .int, 2) := by decide +kernel
theorem dX5_init_90 : decode cX5_init 90 = .ok (.putfield 58, 3) := by decide +kernel
theorem dX5_init_93 : decode cX5_init 93 = .ok (.aload_n 0, 1) := by decide +kernel
theorem dX5_init_94 : decode cX5_init 94 = .ok (.bipush 24, 2) := by decide +kernel
theorem dX5_init_96 : decode cX5_init 96 = .ok (.newarray .boolean, 2) := by decide +kernel
theorem dX5_init_98 : decode cX5_init 98 = .ok (.putfield 61, 3) := by decide +kernel
theorem dX5_init_101 : decode cX5_init 101 = .ok (.aload_n 0, 1) := by decide +kernel
theorem dX5_init_102 : decode cX5_init 102 = .ok (.bipush 24, 2) := by decide +kernel
theorem dX5_init_104 : decode cX5_init 104 = .ok (.newarray .boolean, 2) := by decide +kernel
theorem dX5_init_106 : decode cX5_init 106 = .ok (.putfield 65, 3) := by decide +kernel
theorem dX5_init_109 : decode cX5_init 109 = .ok (.return_, 1) := by decide +kernel
set_option maxRecDepth 20000 in
theorem ggX5_candidate_X5_isWithin : GoodIn wsX5_candidate wsX5_isWithin := goodIn_r _ [9] (by decide +kernel) (by decide +kernel)
set_option maxRecDepth 20000 in
theorem gX5_candidate_X5_isWithin : GoodIn wsX5_candidate (va_wsS RX5 68 yX5_isWithin wsX5_isWithin) := goodIn_app (goodIn_of _ (by decide +kernel)) ggX5_candidate_X5_isWithin
set_option maxRecDepth 20000 in
theorem ggX5_candidate_X0_init : GoodIn wsX5_candidate wsX0_init := goodIn_r _ [11, 12, 13, 14, 15, 16, 17, 18, 19, 20, 21, 22, 23, 24, 25, 40, 41, 42, 43, 44, 45, 46, 47, 48, 49] (by decide +kernel) (by decide +kernel)
set_option maxRecDepth 20000 in
theorem gX5_candidate_X0_init_n72 : GoodIn wsX5_candidate (wsX0_init) := ggX5_candidate_X0_init
theorem dX5_candidate_0 : decode cX5_candidate 0 = .ok (.iload_n 1, 1) := by decide +kernel
theorem dX5_candidate_1 : decode cX5_candidate 1 = .ok (.iconst 0, 1) := by decide +kernel
theorem dX5_candidate_2 : decode cX5_candidate 2 = .ok (.iconst 3, 1) := by decide +kernel
theorem dX5_candidate_3 : decode cX5_candidate 3 = .ok (.invokestatic 68, 3) := by decide +kernel
theorem dX5_candidate_6 : decode cX5_candidate 6 = .ok (.ifCond .ne 5, 3) := by decide +kernel
theorem dX5_candidate_11 : decode cX5_candidate 11 = .ok (.aload_n 0, 1) := by decide +kernel
theorem dX5_candidate_12 : decode cX5_candidate 12 = .ok (.getfield 15, 3) := by decide +kernel
theorem dX5_candidate_15 : decode cX5_candidate 15 = .ok (.ifCond .lt 15, 3) := by decide +kernel
theorem dX5_candidate_18 : decode cX5_candidate 18 = .ok (.aload_n 0, 1) := by decide +kernel
theorem dX5_candidate_19 : decode cX5_candidate 19 = .ok (.getfield 15, 3) := by decide +kernel
theorem dX5_candidate_22 : decode cX5_candidate 22 = .ok (.aload_n 0, 1) := by decide +kernel
theorem dX5_candidate_23 : decode cX5_candidate 23 = .ok (.getfield 11, 3) := by decide +kernel
theorem dX5_candidate_26 : decode cX5_candidate 26 = .ok (.arraylength, 1) := by decide +kernel
theorem dX5_candidate_27 : decode cX5_candidate 27 = .ok (.if_icmp .lt 6, 3) := by decide +kernel
theorem dX5_candidate_33 : decode cX5_candidate 33 = .ok (.aload_n 0, 1) := by decide +kernel
theorem dX5_candidate_34 : decode cX5_candidate 34 = .ok (.getfield 11, 3) := by decide +kernel
theorem dX5_candidate_37 : decode cX5_candidate 37 = .ok (.aload_n 0, 1) := by decide +kernel
theorem dX5_candidate_38 : decode cX5_candidate 38 = .ok (.getfield 15, 3) := by decide +kernel
theorem dX5_candidate_41 : decode cX5_candidate 41 = .ok (.new 9, 3) := by decide +kernel
theorem dX5_candidate_44 : decode cX5_candidate 44 = .ok (.dup, 1) := by decide +kernel
theorem dX5_candidate_45 : decode cX5_candidate 45 = .ok (.iload_n 1, 1) := by decide +kernel
theorem dX5_candidate_46 : decode cX5_candidate 46 = .ok (.invokespecial 72, 3) := by decide +kernel
theorem dX5_candidate_49 : decode cX5_candidate 49 = .ok (.aastore, 1) := by decide +kernel
theorem dX5_candidate_50 : decode cX5_candidate 50 = .ok (.aload_n 0, 1) := by decide +kernel
theorem dX5_candidate_51 : decode cX5_candidate 51 = .ok (.dup, 1) := by decide +kernel
theorem dX5_candidate_52 : decode cX5_candidate 52 = .ok (.getfield 15, 3) := by decide +kernel
theorem dX5_candidate_55 : decode cX5_candidate 55 = .ok (.iconst 1, 1) := by decide +kernel
theorem dX5_candidate_56 : decode cX5_candidate 56 = .ok (.iadd, 1) := by decide +kernel
theorem dX5_candidate_57 : decode cX5_candidate 57 = .ok (.putfield 15, 3) := by decide +kernel
theorem dX5_candidate_60 : decode cX5_candidate 60 = .ok (.aload_n 0, 1) := by decide +kernel
theorem dX5_candidate_61 : decode cX5_candidate 61 = .ok (.getfield 15, 3) := by decide +kernel
theorem dX5_candidate_64 : decode cX5_candidate 64 = .ok (.iconst 1, 1) := by decide +kernel
theorem dX5_candidate_65 : decode cX5_candidate 65 = .ok (.isub, 1) := by decide +kernel
theorem dX5_candidate_66 : decode cX5_candidate 66 = .ok (.ireturn, 1) := by decide +kernel
theorem dfX0 : ∀ j, j < 10 → defaultValue (tyX0 j) = vp_V [.int 0, .null, .int 0, .int 0, .int 0, .int 0, .null, .null, .null, .int 0] j := by
  intro j hj
  rcases (show j = 0 ∨ j = 1 ∨ j = 2 ∨ j = 3 ∨ j = 4 ∨ j = 5 ∨ j = 6 ∨ j = 7 ∨ j = 8 ∨ j = 9 by omega) with rfl | rfl | rfl | rfl | rfl | rfl | rfl | rfl | rfl | rfl <;> rfl
theorem dfX2 : ∀ j, j < 8 → defaultValue (tyX2 j) = vp_V [.int 0, .null, .null, .null, .null, .int 0, .null, .int 0] j := by
  intro j hj
  rcases (show j = 0 ∨ j = 1 ∨ j = 2 ∨ j = 3 ∨ j = 4 ∨ j = 5 ∨ j = 6 ∨ j = 7 by omega) with rfl | rfl | rfl | rfl | rfl | rfl | rfl | rfl <;> rfl
theorem dfX4 : ∀ j, j < 2 → defaultValue (tyX4 j) = vp_V [.null, .int 0] j := by
  intro j hj
  rcases (show j = 0 ∨ j = 1 by omega) with rfl | rfl <;> rfl
set_option maxHeartbeats 4000000 in
set_option maxRecDepth 100000 in
theorem c_X4_init (l : Launch) (dC : Nat → ClassId) (dI : Nat → Nat → Nat) (y : Nat) (sz : Nat) : Met l yX4_init wsX4_init ({ frames := 1, cells := 1, slots := 250, locals := 12 }) (va_Pc [.ref y] (PQ dC dI sz [(y, .inr (9, [.null, .int 0]))] [])) (va_Qv (fun _ : Unit => True) (fun _ t => ∃ (tb : Nat) (kB : ClassId), va_P (dC, dI) vwCl [(y, .inr (9, [.ref tb, .int 0])), (tb, .inl (kB, 250, .inl (fun _ => 0)))] t.heap ∧ va_K (dC, dI) vwCl [(kB, .byte)] t ∧ va_D (va_A [(y, .inr (9, [.null, .int 0]))] sz) [(y, .inr (9, [.ref tb, .int 0])), (tb, .inl (kB, 250, .inl (fun _ => 0)))]) (va_A [(y, .inr (9, [.null, .int 0]))] sz)) 1 250 (va_A [(y, .inr (9, [.null, .int 0]))] sz) := by
  refine Met.ofW (cc := cX4_init) (maxL := 1) (ret := none) (by decide) rfl ?_
  intro p e s m args below meth c s₁ B hml hv
  obtain ⟨rfl, hsz, hP, hK, hD0, hF⟩ := hv
  have hx := B.exec
  have hb := B.bytes
  have hr := B.returns
  have hts := atoms_spec (ws := wsX4_init) B.pre
  have hown : s.vm.findClass RX4 = some m.cls := findClass_of_methodNamed B.named
  have hlocks := B.notSynchronized
  have hin : meth.name = "<init>" := (name_of_methodNamed B.named B.method).1
  subst hsz
  have hD := hD0.self (sz := s.heap.size)
  generalize hAe : va_A [(y, .inr (9, [.null, .int 0]))] s.heap.size = A at hD ⊢
  have hA : ∀ q : Nat, s.heap.size ≤ q → A q := fun q h => by rw [← hAe]; exact Or.inr h
  have hS : va_S A s.heap s.heap [] := va_S.rf
  have hl := lv_entry ([.ref y]) (n := 1) (Nat.le_of_ble_eq_true rfl)
  rw [lg_entry_eq]
  generalize (lg_sl ([.ref y]) ++ List.replicate (1 - (lg_sl ([.ref y])).length) Slot.unset).toArray = ls at hl ⊢
  have hl : lv_has ls 1 [(0, .ref y)] := hl
  refine lv_aload_n hx hb dX4_init_0 rfl (lv_at hl 0 rfl) ?_
  refine W.objInit hx hb hown (hts (.methodLink RX4 3 objectInit) (List.mem_of_getElem? (i := 1) rfl)) (hts (.instanceMethod objectInit) (List.mem_of_getElem? (i := 2) rfl)) (hts _ (List.mem_of_getElem? (i := 3) rfl)) rfl (by rw [hml]; exact hl.1) rfl dX4_init_1 (Nat.le_of_ble_eq_true rfl) (Nat.le_of_ble_eq_true rfl) ?_
  refine W.eq (g2 := F0 m 4 ls []) rfl ?_
  refine lv_aload_n hx hb dX4_init_4 rfl (lv_at hl 0 rfl) ?_
  refine lv_sipush (v := 250) hx hb dX4_init_5 (by decide) ?_
  refine va_newa (atype := .byte) (ty := .byte) (a0 := (250, (.inl (fun _ => 0)))) hx hb (hts (.arrayClass .byte) (List.mem_of_getElem? (i := 4) rfl)) rfl hK hP hD hS hA (fun _ => rfl) (by decide) (by decide) (Nat.le_of_ble_eq_true rfl) (Nat.le_of_ble_eq_true rfl) (Nat.le_of_ble_eq_true rfl) dX4_init_8 (fun q_1 k_2 H hK hP hD hS => ?_)
  have hP : va_P (dC, dI) vwCl [(y, .inr (9, [.null, .int 0])), (q_1, .inl (k_2, 250, .inl (fun _ => 0)))] H := hP
  have hD : va_D A [(y, .inr (9, [.null, .int 0])), (q_1, .inl (k_2, 250, .inl (fun _ => 0)))] := hD
  have hK : va_K (dC, dI) vwCl [(k_2, .byte)] s := hK
  refine W.widen (k := 1) (n := 250) (Nat.le_of_ble_eq_true rfl) (Nat.le_of_ble_eq_true rfl) ?_
  refine va_putF (D := (dC, dI)) (ci := 9) (v := .ref q_1) (ty := .array .byte) (C := RX4) (T := TX4) (N := 2) hx hb hts (fun _ h9 => List.mem_cons_of_mem _ (List.mem_append_right _ (h9))) tyX4 tyX4_ok nmX4 hown hK hP hD hS 0 rfl rfl 0 (by decide) (hts (.fieldLink RX4 9 "ExamHalls$Tape" "bytes" "[B") (List.mem_of_getElem? (i := 5) rfl)) (fun _ h9 => h9) rfl hin rfl (by decide +kernel) rfl rfl (Nat.le_of_ble_eq_true rfl) dX4_init_10 (fun H locs hP hD hS => ?_)
  have hP : va_P (dC, dI) vwCl [(y, .inr (9, [.ref q_1, .int 0])), (q_1, .inl (k_2, 250, .inl (fun _ => 0)))] H := hP
  have hD : va_D A [(y, .inr (9, [.ref q_1, .int 0])), (q_1, .inl (k_2, 250, .inl (fun _ => 0)))] := hD
  refine lv_aload_n hx hb dX4_init_13 rfl (lv_at hl 0 rfl) ?_
  refine lv_iconst (v := 0) hx hb dX4_init_14 (by decide) ?_
  refine va_put (D := (dC, dI)) (ci := 9) (v := .int 0) (ty := .int) (C := RX4) (T := TX4) (N := 2) hx hb hts (fun _ h9 => List.mem_cons_of_mem _ (List.mem_append_right _ (h9))) tyX4 tyX4_ok nmX4 hown hK hP hD hS 0 rfl rfl 1 (by decide) (hts (.fieldLink RX4 15 "ExamHalls$Tape" "size" "I") (List.mem_of_getElem? (i := 6) rfl)) (fun _ h9 => h9) rfl (by decide +kernel) rfl rfl (Nat.le_of_ble_eq_true rfl) dX4_init_15 (fun H locs hP hD hS => ?_)
  have hP : va_P (dC, dI) vwCl [(y, .inr (9, [.ref q_1, .int 0])), (q_1, .inl (k_2, 250, .inl (fun _ => 0)))] H := hP
  have hD : va_D A [(y, .inr (9, [.ref q_1, .int 0])), (q_1, .inl (k_2, 250, .inl (fun _ => 0)))] := hD
  have hP9 := hP.sub (ws' := [(y, .inr (9, [.ref q_1, .int 0])), (q_1, .inl (k_2, 250, .inl (fun _ => 0)))]) [0, 1] rfl
  have hD9 := hD.sub (ws' := [(y, .inr (9, [.ref q_1, .int 0])), (q_1, .inl (k_2, 250, .inl (fun _ => 0)))]) [0, 1] (by decide) rfl
  have hK9 := hK.sub (tys' := [(k_2, .byte)]) [0] rfl
  exact W.vret hx hb hr (fun t ht hW => ⟨⟨(), rfl, trivial, q_1, k_2, by rw [ht]; exact hP9, va_K.moved hW.alike hK9, hD9⟩, hS.F ht⟩) hS.2.2 dX4_init_18

set_option maxHeartbeats 4000000 in
set_option maxRecDepth 100000 in
theorem c_X2_init (l : Launch) (dC : Nat → ClassId) (dI : Nat → Nat → Nat) (fo : Nat) (sz : Nat) : Met l yX2_init wsX2_init ({ frames := 1, cells := 5, slots := 36, locals := 12 }) (va_Pc [.ref fo] (PQ dC dI sz [(fo, .inr (7, [.int 0, .null, .null, .null, .null, .int 0, .null, .int 0]))] [])) (va_Qv (fun _ : Unit => True) (fun _ t => ∃ (le : Nat) (mo : Nat) (os : Nat) (ps : Nat) (br : Nat) (kl : ClassId) (km : ClassId) (ko : ClassId) (kp : ClassId) (kb : ClassId) (fl : Nat → Int32) (fm : Nat → Int32), va_P (dC, dI) vwCl [(fo, .inr (7, [.int 1, .ref le, .ref mo, .ref os, .ref ps, .int 0, .ref br, .int 0])), (le, .inl (kl, 8, .inl fl)), (mo, .inl (km, 8, .inl fm)), (os, .inl (ko, 6, .inl (fun _ => 0))), (ps, .inl (kp, 6, .inl (fun _ => 0))), (br, .inl (kb, 8, .inr (.inl (fun _ => 0))))] t.heap ∧ va_K (dC, dI) vwCl [(kl, .int), (km, .int), (ko, .int), (kp, .int), (kb, .long)] t ∧ va_D (va_A [(fo, .inr (7, [.int 0, .null, .null, .null, .null, .int 0, .null, .int 0]))] sz) [(fo, .inr (7, [.int 1, .ref le, .ref mo, .ref os, .ref ps, .int 0, .ref br, .int 0])), (le, .inl (kl, 8, .inl fl)), (mo, .inl (km, 8, .inl fm)), (os, .inl (ko, 6, .inl (fun _ => 0))), (ps, .inl (kp, 6, .inl (fun _ => 0))), (br, .inl (kb, 8, .inr (.inl (fun _ => 0))))]) (va_A [(fo, .inr (7, [.int 0, .null, .null, .null, .null, .int 0, .null, .int 0]))] sz)) 5 36 (va_A [(fo, .inr (7, [.int 0, .null, .null, .null, .null, .int 0, .null, .int 0]))] sz) := by
  refine Met.ofW (cc := cX2_init) (maxL := 2) (ret := none) (by decide) rfl ?_
  intro p e s m args below meth c s₁ B hml hv
  obtain ⟨rfl, hsz, hP, hK, hD0, hF⟩ := hv
  have hx := B.exec
  have hb := B.bytes
  have hr := B.returns
  have hts := atoms_spec (ws := wsX2_init) B.pre
  have hown : s.vm.findClass RX2 = some m.cls := findClass_of_methodNamed B.named
  have hlocks := B.notSynchronized
  have hin : meth.name = "<init>" := (name_of_methodNamed B.named B.method).1
  subst hsz
  have hD := hD0.self (sz := s.heap.size)
  generalize hAe : va_A [(fo, .inr (7, [.int 0, .null, .null, .null, .null, .int 0, .null, .int 0]))] s.heap.size = A at hD ⊢
  have hA : ∀ q : Nat, s.heap.size ≤ q → A q := fun q h => by rw [← hAe]; exact Or.inr h
  have hS : va_S A s.heap s.heap [] := va_S.rf
  have hl := lv_entry ([.ref fo]) (n := 2) (Nat.le_of_ble_eq_true rfl)
  rw [lg_entry_eq]
  generalize (lg_sl ([.ref fo]) ++ List.replicate (2 - (lg_sl ([.ref fo])).length) Slot.unset).toArray = ls at hl ⊢
  have hl : lv_has ls 2 [(0, .ref fo)] := hl
  refine lv_aload_n hx hb dX2_init_0 rfl (lv_at hl 0 rfl) ?_
  refine W.objInit hx hb hown (hts (.methodLink RX2 3 objectInit) (List.mem_of_getElem? (i := 1) rfl)) (hts (.instanceMethod objectInit) (List.mem_of_getElem? (i := 2) rfl)) (hts _ (List.mem_of_getElem? (i := 3) rfl)) rfl (by rw [hml]; exact hl.1) rfl dX2_init_1 (Nat.le_of_ble_eq_true rfl) (Nat.le_of_ble_eq_true rfl) ?_
  refine W.eq (g2 := F0 m 4 ls []) rfl ?_
  refine lv_aload_n hx hb dX2_init_4 rfl (lv_at hl 0 rfl) ?_
  refine lv_iconst (v := 1) hx hb dX2_init_5 (by decide) ?_
  refine va_put (D := (dC, dI)) (ci := 7) (v := .int 1) (ty := .int) (C := RX2) (T := TX2) (N := 8) hx hb hts (fun _ h9 => List.mem_cons_of_mem _ (List.mem_append_right _ (h9))) tyX2 tyX2_ok nmX2 hown hK hP hD hS 0 rfl rfl 0 (by decide) (hts (.fieldLink RX2 9 "ExamHalls$Form" "legCount" "I") (List.mem_of_getElem? (i := 4) rfl)) (fun _ h9 => h9) rfl (by decide +kernel) rfl rfl (Nat.le_of_ble_eq_true rfl) dX2_init_6 (fun H locs hP hD hS => ?_)
  have hP : va_P (dC, dI) vwCl [(fo, .inr (7, [.int 1, .null, .null, .null, .null, .int 0, .null, .int 0]))] H := hP
  have hD : va_D A [(fo, .inr (7, [.int 1, .null, .null, .null, .null, .int 0, .null, .int 0]))] := hD
  refine lv_aload_n hx hb dX2_init_9 rfl (lv_at hl 0 rfl) ?_
  refine lv_bipush (v := 8) hx hb dX2_init_10 (by decide) ?_
  refine va_newa (atype := .int) (ty := .int) (a0 := (8, (.inl (fun _ => 0)))) hx hb (hts (.arrayClass .int) (List.mem_of_getElem? (i := 5) rfl)) rfl hK hP hD hS hA (fun _ => rfl) (by decide) (by decide) (Nat.le_of_ble_eq_true rfl) (Nat.le_of_ble_eq_true rfl) (Nat.le_of_ble_eq_true rfl) dX2_init_12 (fun q_1 k_2 H hK hP hD hS => ?_)
  have hP : va_P (dC, dI) vwCl [(fo, .inr (7, [.int 1, .null, .null, .null, .null, .int 0, .null, .int 0])), (q_1, .inl (k_2, 8, .inl (fun _ => 0)))] H := hP
  have hD : va_D A [(fo, .inr (7, [.int 1, .null, .null, .null, .null, .int 0, .null, .int 0])), (q_1, .inl (k_2, 8, .inl (fun _ => 0)))] := hD
  have hK : va_K (dC, dI) vwCl [(k_2, .int)] s := hK
  refine W.widen (k := 1) (n := 8) (Nat.le_of_ble_eq_true rfl) (Nat.le_of_ble_eq_true rfl) ?_
  refine va_putF (D := (dC, dI)) (ci := 7) (v := .ref q_1) (ty := .array .int) (C := RX2) (T := TX2) (N := 8) hx hb hts (fun _ h9 => List.mem_cons_of_mem _ (List.mem_append_right _ (h9))) tyX2 tyX2_ok nmX2 hown hK hP hD hS 0 rfl rfl 1 (by decide) (hts (.fieldLink RX2 15 "ExamHalls$Form" "least" "[I") (List.mem_of_getElem? (i := 6) rfl)) (fun _ h9 => h9) rfl hin rfl (by decide +kernel) rfl rfl (Nat.le_of_ble_eq_true rfl) dX2_init_14 (fun H locs hP hD hS => ?_)
  have hP : va_P (dC, dI) vwCl [(fo, .inr (7, [.int 1, .ref q_1, .null, .null, .null, .int 0, .null, .int 0])), (q_1, .inl (k_2, 8, .inl (fun _ => 0)))] H := hP
  have hD : va_D A [(fo, .inr (7, [.int 1, .ref q_1, .null, .null, .null, .int 0, .null, .int 0])), (q_1, .inl (k_2, 8, .inl (fun _ => 0)))] := hD
  refine lv_aload_n hx hb dX2_init_17 rfl (lv_at hl 0 rfl) ?_
  refine lv_bipush (v := 8) hx hb dX2_init_18 (by decide) ?_
  refine va_newa (atype := .int) (ty := .int) (a0 := (8, (.inl (fun _ => 0)))) hx hb (hts (.arrayClass .int) (List.mem_of_getElem? (i := 5) rfl)) rfl hK hP hD hS hA (fun _ => rfl) (by decide) (by decide) (Nat.le_of_ble_eq_true rfl) (Nat.le_of_ble_eq_true rfl) (Nat.le_of_ble_eq_true rfl) dX2_init_20 (fun q_3 k_4 H hK hP hD hS => ?_)
  have hP : va_P (dC, dI) vwCl [(fo, .inr (7, [.int 1, .ref q_1, .null, .null, .null, .int 0, .null, .int 0])), (q_1, .inl (k_2, 8, .inl (fun _ => 0))), (q_3, .inl (k_4, 8, .inl (fun _ => 0)))] H := hP
  have hD : va_D A [(fo, .inr (7, [.int 1, .ref q_1, .null, .null, .null, .int 0, .null, .int 0])), (q_1, .inl (k_2, 8, .inl (fun _ => 0))), (q_3, .inl (k_4, 8, .inl (fun _ => 0)))] := hD
  have hK : va_K (dC, dI) vwCl [(k_2, .int), (k_4, .int)] s := hK
  refine W.widen (k := 2) (n := 16) (Nat.le_of_ble_eq_true rfl) (Nat.le_of_ble_eq_true rfl) ?_
  refine va_putF (D := (dC, dI)) (ci := 7) (v := .ref q_3) (ty := .array .int) (C := RX2) (T := TX2) (N := 8) hx hb hts (fun _ h9 => List.mem_cons_of_mem _ (List.mem_append_right _ (h9))) tyX2 tyX2_ok nmX2 hown hK hP hD hS 0 rfl rfl 2 (by decide) (hts (.fieldLink RX2 19 "ExamHalls$Form" "most" "[I") (List.mem_of_getElem? (i := 7) rfl)) (fun _ h9 => h9) rfl hin rfl (by decide +kernel) rfl rfl (Nat.le_of_ble_eq_true rfl) dX2_init_22 (fun H locs hP hD hS => ?_)
  have hP : va_P (dC, dI) vwCl [(fo, .inr (7, [.int 1, .ref q_1, .ref q_3, .null, .null, .int 0, .null, .int 0])), (q_1, .inl (k_2, 8, .inl (fun _ => 0))), (q_3, .inl (k_4, 8, .inl (fun _ => 0)))] H := hP
  have hD : va_D A [(fo, .inr (7, [.int 1, .ref q_1, .ref q_3, .null, .null, .int 0, .null, .int 0])), (q_1, .inl (k_2, 8, .inl (fun _ => 0))), (q_3, .inl (k_4, 8, .inl (fun _ => 0)))] := hD
  refine lv_aload_n hx hb dX2_init_25 rfl (lv_at hl 0 rfl) ?_
  refine lv_bipush (v := 6) hx hb dX2_init_26 (by decide) ?_
  refine va_newa (atype := .int) (ty := .int) (a0 := (6, (.inl (fun _ => 0)))) hx hb (hts (.arrayClass .int) (List.mem_of_getElem? (i := 5) rfl)) rfl hK hP hD hS hA (fun _ => rfl) (by decide) (by decide) (Nat.le_of_ble_eq_true rfl) (Nat.le_of_ble_eq_true rfl) (Nat.le_of_ble_eq_true rfl) dX2_init_28 (fun q_5 k_6 H hK hP hD hS => ?_)
  have hP : va_P (dC, dI) vwCl [(fo, .inr (7, [.int 1, .ref q_1, .ref q_3, .null, .null, .int 0, .null, .int 0])), (q_1, .inl (k_2, 8, .inl (fun _ => 0))), (q_3, .inl (k_4, 8, .inl (fun _ => 0))), (q_5, .inl (k_6, 6, .inl (fun _ => 0)))] H := hP
  have hD : va_D A [(fo, .inr (7, [.int 1, .ref q_1, .ref q_3, .null, .null, .int 0, .null, .int 0])), (q_1, .inl (k_2, 8, .inl (fun _ => 0))), (q_3, .inl (k_4, 8, .inl (fun _ => 0))), (q_5, .inl (k_6, 6, .inl (fun _ => 0)))] := hD
  have hK : va_K (dC, dI) vwCl [(k_2, .int), (k_4, .int), (k_6, .int)] s := hK
  refine W.widen (k := 3) (n := 22) (Nat.le_of_ble_eq_true rfl) (Nat.le_of_ble_eq_true rfl) ?_
  refine va_putF (D := (dC, dI)) (ci := 7) (v := .ref q_5) (ty := .array .int) (C := RX2) (T := TX2) (N := 8) hx hb hts (fun _ h9 => List.mem_cons_of_mem _ (List.mem_append_right _ (h9))) tyX2 tyX2_ok nmX2 hown hK hP hD hS 0 rfl rfl 3 (by decide) (hts (.fieldLink RX2 22 "ExamHalls$Form" "oneSides" "[I") (List.mem_of_getElem? (i := 8) rfl)) (fun _ h9 => h9) rfl hin rfl (by decide +kernel) rfl rfl (Nat.le_of_ble_eq_true rfl) dX2_init_30 (fun H locs hP hD hS => ?_)
  have hP : va_P (dC, dI) vwCl [(fo, .inr (7, [.int 1, .ref q_1, .ref q_3, .ref q_5, .null, .int 0, .null, .int 0])), (q_1, .inl (k_2, 8, .inl (fun _ => 0))), (q_3, .inl (k_4, 8, .inl (fun _ => 0))), (q_5, .inl (k_6, 6, .inl (fun _ => 0)))] H := hP
  have hD : va_D A [(fo, .inr (7, [.int 1, .ref q_1, .ref q_3, .ref q_5, .null, .int 0, .null, .int 0])), (q_1, .inl (k_2, 8, .inl (fun _ => 0))), (q_3, .inl (k_4, 8, .inl (fun _ => 0))), (q_5, .inl (k_6, 6, .inl (fun _ => 0)))] := hD
  refine lv_aload_n hx hb dX2_init_33 rfl (lv_at hl 0 rfl) ?_
  refine lv_bipush (v := 6) hx hb dX2_init_34 (by decide) ?_
  refine va_newa (atype := .int) (ty := .int) (a0 := (6, (.inl (fun _ => 0)))) hx hb (hts (.arrayClass .int) (List.mem_of_getElem? (i := 5) rfl)) rfl hK hP hD hS hA (fun _ => rfl) (by decide) (by decide) (Nat.le_of_ble_eq_true rfl) (Nat.le_of_ble_eq_true rfl) (Nat.le_of_ble_eq_true rfl) dX2_init_36 (fun q_7 k_8 H hK hP hD hS => ?_)
  have hP : va_P (dC, dI) vwCl [(fo, .inr (7, [.int 1, .ref q_1, .ref q_3, .ref q_5, .null, .int 0, .null, .int 0])), (q_1, .inl (k_2, 8, .inl (fun _ => 0))), (q_3, .inl (k_4, 8, .inl (fun _ => 0))), (q_5, .inl (k_6, 6, .inl (fun _ => 0))), (q_7, .inl (k_8, 6, .inl (fun _ => 0)))] H := hP
  have hD : va_D A [(fo, .inr (7, [.int 1, .ref q_1, .ref q_3, .ref q_5, .null, .int 0, .null, .int 0])), (q_1, .inl (k_2, 8, .inl (fun _ => 0))), (q_3, .inl (k_4, 8, .inl (fun _ => 0))), (q_5, .inl (k_6, 6, .inl (fun _ => 0))), (q_7, .inl (k_8, 6, .inl (fun _ => 0)))] := hD
  have hK : va_K (dC, dI) vwCl [(k_2, .int), (k_4, .int), (k_6, .int), (k_8, .int)] s := hK
  refine W.widen (k := 4) (n := 28) (Nat.le_of_ble_eq_true rfl) (Nat.le_of_ble_eq_true rfl) ?_
  refine va_putF (D := (dC, dI)) (ci := 7) (v := .ref q_7) (ty := .array .int) (C := RX2) (T := TX2) (N := 8) hx hb hts (fun _ h9 => List.mem_cons_of_mem _ (List.mem_append_right _ (h9))) tyX2 tyX2_ok nmX2 hown hK hP hD hS 0 rfl rfl 4 (by decide) (hts (.fieldLink RX2 25 "ExamHalls$Form" "otherSides" "[I") (List.mem_of_getElem? (i := 9) rfl)) (fun _ h9 => h9) rfl hin rfl (by decide +kernel) rfl rfl (Nat.le_of_ble_eq_true rfl) dX2_init_38 (fun H locs hP hD hS => ?_)
  have hP : va_P (dC, dI) vwCl [(fo, .inr (7, [.int 1, .ref q_1, .ref q_3, .ref q_5, .ref q_7, .int 0, .null, .int 0])), (q_1, .inl (k_2, 8, .inl (fun _ => 0))), (q_3, .inl (k_4, 8, .inl (fun _ => 0))), (q_5, .inl (k_6, 6, .inl (fun _ => 0))), (q_7, .inl (k_8, 6, .inl (fun _ => 0)))] H := hP
  have hD : va_D A [(fo, .inr (7, [.int 1, .ref q_1, .ref q_3, .ref q_5, .ref q_7, .int 0, .null, .int 0])), (q_1, .inl (k_2, 8, .inl (fun _ => 0))), (q_3, .inl (k_4, 8, .inl (fun _ => 0))), (q_5, .inl (k_6, 6, .inl (fun _ => 0))), (q_7, .inl (k_8, 6, .inl (fun _ => 0)))] := hD
  refine lv_aload_n hx hb dX2_init_41 rfl (lv_at hl 0 rfl) ?_
  refine lv_iconst (v := 0) hx hb dX2_init_42 (by decide) ?_
  refine va_put (D := (dC, dI)) (ci := 7) (v := .int 0) (ty := .int) (C := RX2) (T := TX2) (N := 8) hx hb hts (fun _ h9 => List.mem_cons_of_mem _ (List.mem_append_right _ (h9))) tyX2 tyX2_ok nmX2 hown hK hP hD hS 0 rfl rfl 5 (by decide) (hts (.fieldLink RX2 28 "ExamHalls$Form" "parallelCount" "I") (List.mem_of_getElem? (i := 10) rfl)) (fun _ h9 => h9) rfl (by decide +kernel) rfl rfl (Nat.le_of_ble_eq_true rfl) dX2_init_43 (fun H locs hP hD hS => ?_)
  have hP : va_P (dC, dI) vwCl [(fo, .inr (7, [.int 1, .ref q_1, .ref q_3, .ref q_5, .ref q_7, .int 0, .null, .int 0])), (q_1, .inl (k_2, 8, .inl (fun _ => 0))), (q_3, .inl (k_4, 8, .inl (fun _ => 0))), (q_5, .inl (k_6, 6, .inl (fun _ => 0))), (q_7, .inl (k_8, 6, .inl (fun _ => 0)))] H := hP
  have hD : va_D A [(fo, .inr (7, [.int 1, .ref q_1, .ref q_3, .ref q_5, .ref q_7, .int 0, .null, .int 0])), (q_1, .inl (k_2, 8, .inl (fun _ => 0))), (q_3, .inl (k_4, 8, .inl (fun _ => 0))), (q_5, .inl (k_6, 6, .inl (fun _ => 0))), (q_7, .inl (k_8, 6, .inl (fun _ => 0)))] := hD
  refine lv_aload_n hx hb dX2_init_46 rfl (lv_at hl 0 rfl) ?_
  refine lv_bipush (v := 8) hx hb dX2_init_47 (by decide) ?_
  refine va_newa (atype := .long) (ty := .long) (a0 := (8, (.inr (.inl (fun _ => 0))))) hx hb (hts (.arrayClass .long) (List.mem_of_getElem? (i := 11) rfl)) rfl hK hP hD hS hA (fun _ => rfl) (by decide) (by decide) (Nat.le_of_ble_eq_true rfl) (Nat.le_of_ble_eq_true rfl) (Nat.le_of_ble_eq_true rfl) dX2_init_49 (fun q_9 k_10 H hK hP hD hS => ?_)
  have hP : va_P (dC, dI) vwCl [(fo, .inr (7, [.int 1, .ref q_1, .ref q_3, .ref q_5, .ref q_7, .int 0, .null, .int 0])), (q_1, .inl (k_2, 8, .inl (fun _ => 0))), (q_3, .inl (k_4, 8, .inl (fun _ => 0))), (q_5, .inl (k_6, 6, .inl (fun _ => 0))), (q_7, .inl (k_8, 6, .inl (fun _ => 0))), (q_9, .inl (k_10, 8, .inr (.inl (fun _ => 0))))] H := hP
  have hD : va_D A [(fo, .inr (7, [.int 1, .ref q_1, .ref q_3, .ref q_5, .ref q_7, .int 0, .null, .int 0])), (q_1, .inl (k_2, 8, .inl (fun _ => 0))), (q_3, .inl (k_4, 8, .inl (fun _ => 0))), (q_5, .inl (k_6, 6, .inl (fun _ => 0))), (q_7, .inl (k_8, 6, .inl (fun _ => 0))), (q_9, .inl (k_10, 8, .inr (.inl (fun _ => 0))))] := hD
  have hK : va_K (dC, dI) vwCl [(k_2, .int), (k_4, .int), (k_6, .int), (k_8, .int), (k_10, .long)] s := hK
  refine W.widen (k := 5) (n := 36) (Nat.le_of_ble_eq_true rfl) (Nat.le_of_ble_eq_true rfl) ?_
  refine va_putF (D := (dC, dI)) (ci := 7) (v := .ref q_9) (ty := .array .long) (C := RX2) (T := TX2) (N := 8) hx hb hts (fun _ h9 => List.mem_cons_of_mem _ (List.mem_append_right _ (h9))) tyX2 tyX2_ok nmX2 hown hK hP hD hS 0 rfl rfl 6 (by decide) (hts (.fieldLink RX2 31 "ExamHalls$Form" "barred" "[J") (List.mem_of_getElem? (i := 12) rfl)) (fun _ h9 => h9) rfl hin rfl (by decide +kernel) rfl rfl (Nat.le_of_ble_eq_true rfl) dX2_init_51 (fun H locs hP hD hS => ?_)
  have hP : va_P (dC, dI) vwCl [(fo, .inr (7, [.int 1, .ref q_1, .ref q_3, .ref q_5, .ref q_7, .int 0, .ref q_9, .int 0])), (q_1, .inl (k_2, 8, .inl (fun _ => 0))), (q_3, .inl (k_4, 8, .inl (fun _ => 0))), (q_5, .inl (k_6, 6, .inl (fun _ => 0))), (q_7, .inl (k_8, 6, .inl (fun _ => 0))), (q_9, .inl (k_10, 8, .inr (.inl (fun _ => 0))))] H := hP
  have hD : va_D A [(fo, .inr (7, [.int 1, .ref q_1, .ref q_3, .ref q_5, .ref q_7, .int 0, .ref q_9, .int 0])), (q_1, .inl (k_2, 8, .inl (fun _ => 0))), (q_3, .inl (k_4, 8, .inl (fun _ => 0))), (q_5, .inl (k_6, 6, .inl (fun _ => 0))), (q_7, .inl (k_8, 6, .inl (fun _ => 0))), (q_9, .inl (k_10, 8, .inr (.inl (fun _ => 0))))] := hD
  refine lv_aload_n hx hb dX2_init_54 rfl (lv_at hl 0 rfl) ?_
  refine lv_iconst (v := 0) hx hb dX2_init_55 (by decide) ?_
  refine va_put (D := (dC, dI)) (ci := 7) (v := .int 0) (ty := .int) (C := RX2) (T := TX2) (N := 8) hx hb hts (fun _ h9 => List.mem_cons_of_mem _ (List.mem_append_right _ (h9))) tyX2 tyX2_ok nmX2 hown hK hP hD hS 0 rfl rfl 7 (by decide) (hts (.fieldLink RX2 35 "ExamHalls$Form" "barredCount" "I") (List.mem_of_getElem? (i := 13) rfl)) (fun _ h9 => h9) rfl (by decide +kernel) rfl rfl (Nat.le_of_ble_eq_true rfl) dX2_init_56 (fun H locs hP hD hS => ?_)
  have hP : va_P (dC, dI) vwCl [(fo, .inr (7, [.int 1, .ref q_1, .ref q_3, .ref q_5, .ref q_7, .int 0, .ref q_9, .int 0])), (q_1, .inl (k_2, 8, .inl (fun _ => 0))), (q_3, .inl (k_4, 8, .inl (fun _ => 0))), (q_5, .inl (k_6, 6, .inl (fun _ => 0))), (q_7, .inl (k_8, 6, .inl (fun _ => 0))), (q_9, .inl (k_10, 8, .inr (.inl (fun _ => 0))))] H := hP
  have hD : va_D A [(fo, .inr (7, [.int 1, .ref q_1, .ref q_3, .ref q_5, .ref q_7, .int 0, .ref q_9, .int 0])), (q_1, .inl (k_2, 8, .inl (fun _ => 0))), (q_3, .inl (k_4, 8, .inl (fun _ => 0))), (q_5, .inl (k_6, 6, .inl (fun _ => 0))), (q_7, .inl (k_8, 6, .inl (fun _ => 0))), (q_9, .inl (k_10, 8, .inr (.inl (fun _ => 0))))] := hD
  refine lv_iconst (v := 0) hx hb dX2_init_59 (by decide) ?_
  refine lv_istore_n (lv' := [(1, .int 0), (0, .ref fo)]) hx hb dX2_init_60 rfl hl (by decide) rfl (fun ls hl => ?_)
  refine lv_iload_n hx hb dX2_init_61 rfl (lv_at hl 0 rfl) ?_
  refine lv_bipush (v := 8) hx hb dX2_init_62 (by decide) ?_
  refine lv_icmp_ge (tgt := 88) hx hb dX2_init_64 (by decide) (fun c_11 => absurd c_11 (by decide)) (fun _ => ?_)
  refine lv_aload_n hx hb dX2_init_67 rfl (lv_at hl 1 rfl) ?_
  refine va_get (D := (dC, dI)) (ci := 7) (v := .ref q_1) (C := RX2) (T := TX2) (N := 8) hx hb hts (fun _ h9 => List.mem_cons_of_mem _ (List.mem_append_right _ (h9))) hown hK hP 0 rfl rfl 1 (by decide) (hts (.fieldLink RX2 15 "ExamHalls$Form" "least" "[I") (List.mem_of_getElem? (i := 6) rfl)) (fun _ h9 => h9) rfl dX2_init_68 ?_
  refine lv_iload_n hx hb dX2_init_71 rfl (lv_at hl 0 rfl) ?_
  refine lv_iconst (v := 1) hx hb dX2_init_72 (by decide) ?_
  refine va_iast hx hb hK hP hD hS 1 0 rfl rfl (by unfold vp_in; decide) dX2_init_73 (fun H locs hP hD hS => ?_)
  have hP : va_P (dC, dI) vwCl [(fo, .inr (7, [.int 1, .ref q_1, .ref q_3, .ref q_5, .ref q_7, .int 0, .ref q_9, .int 0])), (q_1, .inl (k_2, 8, .inl (upd (fun _ => 0) (0 : Int32).toNatClampNeg (1 : Int32)))), (q_3, .inl (k_4, 8, .inl (fun _ => 0))), (q_5, .inl (k_6, 6, .inl (fun _ => 0))), (q_7, .inl (k_8, 6, .inl (fun _ => 0))), (q_9, .inl (k_10, 8, .inr (.inl (fun _ => 0))))] H := hP
  have hD : va_D A [(fo, .inr (7, [.int 1, .ref q_1, .ref q_3, .ref q_5, .ref q_7, .int 0, .ref q_9, .int 0])), (q_1, .inl (k_2, 8, .inl (upd (fun _ => 0) (0 : Int32).toNatClampNeg (1 : Int32)))), (q_3, .inl (k_4, 8, .inl (fun _ => 0))), (q_5, .inl (k_6, 6, .inl (fun _ => 0))), (q_7, .inl (k_8, 6, .inl (fun _ => 0))), (q_9, .inl (k_10, 8, .inr (.inl (fun _ => 0))))] := hD
  generalize (upd (fun _ => 0) (0 : Int32).toNatClampNeg (1 : Int32)) = a_12 at hP hD
  refine lv_aload_n hx hb dX2_init_74 rfl (lv_at hl 1 rfl) ?_
  refine va_get (D := (dC, dI)) (ci := 7) (v := .ref q_3) (C := RX2) (T := TX2) (N := 8) hx hb hts (fun _ h9 => List.mem_cons_of_mem _ (List.mem_append_right _ (h9))) hown hK hP 0 rfl rfl 2 (by decide) (hts (.fieldLink RX2 19 "ExamHalls$Form" "most" "[I") (List.mem_of_getElem? (i := 7) rfl)) (fun _ h9 => h9) rfl dX2_init_75 ?_
  refine lv_iload_n hx hb dX2_init_78 rfl (lv_at hl 0 rfl) ?_
  refine lv_bipush (v := 12) hx hb dX2_init_79 (by decide) ?_
  refine va_iast hx hb hK hP hD hS 2 1 rfl rfl (by unfold vp_in; decide) dX2_init_81 (fun H locs hP hD hS => ?_)
  have hP : va_P (dC, dI) vwCl [(fo, .inr (7, [.int 1, .ref q_1, .ref q_3, .ref q_5, .ref q_7, .int 0, .ref q_9, .int 0])), (q_1, .inl (k_2, 8, .inl a_12)), (q_3, .inl (k_4, 8, .inl (upd (fun _ => 0) (0 : Int32).toNatClampNeg (12 : Int32)))), (q_5, .inl (k_6, 6, .inl (fun _ => 0))), (q_7, .inl (k_8, 6, .inl (fun _ => 0))), (q_9, .inl (k_10, 8, .inr (.inl (fun _ => 0))))] H := hP
  have hD : va_D A [(fo, .inr (7, [.int 1, .ref q_1, .ref q_3, .ref q_5, .ref q_7, .int 0, .ref q_9, .int 0])), (q_1, .inl (k_2, 8, .inl a_12)), (q_3, .inl (k_4, 8, .inl (upd (fun _ => 0) (0 : Int32).toNatClampNeg (12 : Int32)))), (q_5, .inl (k_6, 6, .inl (fun _ => 0))), (q_7, .inl (k_8, 6, .inl (fun _ => 0))), (q_9, .inl (k_10, 8, .inr (.inl (fun _ => 0))))] := hD
  generalize (upd (fun _ => 0) (0 : Int32).toNatClampNeg (12 : Int32)) = a_13 at hP hD
  refine lv_iinc (v := 1) (lv' := [(1, .int 1), (0, .ref fo)]) hx hb dX2_init_82 hl (k := 0) rfl (by decide) (by decide) rfl (fun ls hl => ?_)
  refine lv_goto (tgt := 61) hx hb dX2_init_85 (by decide) ?_
  refine lv_iload_n hx hb dX2_init_61 rfl (lv_at hl 0 rfl) ?_
  refine lv_bipush (v := 8) hx hb dX2_init_62 (by decide) ?_
  refine lv_icmp_ge (tgt := 88) hx hb dX2_init_64 (by decide) (fun c_14 => absurd c_14 (by decide)) (fun _ => ?_)
  refine lv_aload_n hx hb dX2_init_67 rfl (lv_at hl 1 rfl) ?_
  refine va_get (D := (dC, dI)) (ci := 7) (v := .ref q_1) (C := RX2) (T := TX2) (N := 8) hx hb hts (fun _ h9 => List.mem_cons_of_mem _ (List.mem_append_right _ (h9))) hown hK hP 0 rfl rfl 1 (by decide) (hts (.fieldLink RX2 15 "ExamHalls$Form" "least" "[I") (List.mem_of_getElem? (i := 6) rfl)) (fun _ h9 => h9) rfl dX2_init_68 ?_
  refine lv_iload_n hx hb dX2_init_71 rfl (lv_at hl 0 rfl) ?_
  refine lv_iconst (v := 1) hx hb dX2_init_72 (by decide) ?_
  refine va_iast hx hb hK hP hD hS 1 0 rfl rfl (by unfold vp_in; decide) dX2_init_73 (fun H locs hP hD hS => ?_)
  have hP : va_P (dC, dI) vwCl [(fo, .inr (7, [.int 1, .ref q_1, .ref q_3, .ref q_5, .ref q_7, .int 0, .ref q_9, .int 0])), (q_1, .inl (k_2, 8, .inl (upd a_12 (1 : Int32).toNatClampNeg (1 : Int32)))), (q_3, .inl (k_4, 8, .inl a_13)), (q_5, .inl (k_6, 6, .inl (fun _ => 0))), (q_7, .inl (k_8, 6, .inl (fun _ => 0))), (q_9, .inl (k_10, 8, .inr (.inl (fun _ => 0))))] H := hP
  have hD : va_D A [(fo, .inr (7, [.int 1, .ref q_1, .ref q_3, .ref q_5, .ref q_7, .int 0, .ref q_9, .int 0])), (q_1, .inl (k_2, 8, .inl (upd a_12 (1 : Int32).toNatClampNeg (1 : Int32)))), (q_3, .inl (k_4, 8, .inl a_13)), (q_5, .inl (k_6, 6, .inl (fun _ => 0))), (q_7, .inl (k_8, 6, .inl (fun _ => 0))), (q_9, .inl (k_10, 8, .inr (.inl (fun _ => 0))))] := hD
  generalize (upd a_12 (1 : Int32).toNatClampNeg (1 : Int32)) = a_15 at hP hD
  refine lv_aload_n hx hb dX2_init_74 rfl (lv_at hl 1 rfl) ?_
  refine va_get (D := (dC, dI)) (ci := 7) (v := .ref q_3) (C := RX2) (T := TX2) (N := 8) hx hb hts (fun _ h9 => List.mem_cons_of_mem _ (List.mem_append_right _ (h9))) hown hK hP 0 rfl rfl 2 (by decide) (hts (.fieldLink RX2 19 "ExamHalls$Form" "most" "[I") (List.mem_of_getElem? (i := 7) rfl)) (fun _ h9 => h9) rfl dX2_init_75 ?_
  refine lv_iload_n hx hb dX2_init_78 rfl (lv_at hl 0 rfl) ?_
  refine lv_bipush (v := 12) hx hb dX2_init_79 (by decide) ?_
  refine va_iast hx hb hK hP hD hS 2 1 rfl rfl (by unfold vp_in; decide) dX2_init_81 (fun H locs hP hD hS => ?_)
  have hP : va_P (dC, dI) vwCl [(fo, .inr (7, [.int 1, .ref q_1, .ref q_3, .ref q_5, .ref q_7, .int 0, .ref q_9, .int 0])), (q_1, .inl (k_2, 8, .inl a_15)), (q_3, .inl (k_4, 8, .inl (upd a_13 (1 : Int32).toNatClampNeg (12 : Int32)))), (q_5, .inl (k_6, 6, .inl (fun _ => 0))), (q_7, .inl (k_8, 6, .inl (fun _ => 0))), (q_9, .inl (k_10, 8, .inr (.inl (fun _ => 0))))] H := hP
  have hD : va_D A [(fo, .inr (7, [.int 1, .ref q_1, .ref q_3, .ref q_5, .ref q_7, .int 0, .ref q_9, .int 0])), (q_1, .inl (k_2, 8, .inl a_15)), (q_3, .inl (k_4, 8, .inl (upd a_13 (1 : Int32).toNatClampNeg (12 : Int32)))), (q_5, .inl (k_6, 6, .inl (fun _ => 0))), (q_7, .inl (k_8, 6, .inl (fun _ => 0))), (q_9, .inl (k_10, 8, .inr (.inl (fun _ => 0))))] := hD
  generalize (upd a_13 (1 : Int32).toNatClampNeg (12 : Int32)) = a_16 at hP hD
  refine lv_iinc (v := 2) (lv' := [(1, .int 2), (0, .ref fo)]) hx hb dX2_init_82 hl (k := 0) rfl (by decide) (by decide) rfl (fun ls hl => ?_)
  refine lv_goto (tgt := 61) hx hb dX2_init_85 (by decide) ?_
  refine lv_iload_n hx hb dX2_init_61 rfl (lv_at hl 0 rfl) ?_
  refine lv_bipush (v := 8) hx hb dX2_init_62 (by decide) ?_
  refine lv_icmp_ge (tgt := 88) hx hb dX2_init_64 (by decide) (fun c_17 => absurd c_17 (by decide)) (fun _ => ?_)
  refine lv_aload_n hx hb dX2_init_67 rfl (lv_at hl 1 rfl) ?_
  refine va_get (D := (dC, dI)) (ci := 7) (v := .ref q_1) (C := RX2) (T := TX2) (N := 8) hx hb hts (fun _ h9 => List.mem_cons_of_mem _ (List.mem_append_right _ (h9))) hown hK hP 0 rfl rfl 1 (by decide) (hts (.fieldLink RX2 15 "ExamHalls$Form" "least" "[I") (List.mem_of_getElem? (i := 6) rfl)) (fun _ h9 => h9) rfl dX2_init_68 ?_
  refine lv_iload_n hx hb dX2_init_71 rfl (lv_at hl 0 rfl) ?_
  refine lv_iconst (v := 1) hx hb dX2_init_72 (by decide) ?_
  refine va_iast hx hb hK hP hD hS 1 0 rfl rfl (by unfold vp_in; decide) dX2_init_73 (fun H locs hP hD hS => ?_)
  have hP : va_P (dC, dI) vwCl [(fo, .inr (7, [.int 1, .ref q_1, .ref q_3, .ref q_5, .ref q_7, .int 0, .ref q_9, .int 0])), (q_1, .inl (k_2, 8, .inl (upd a_15 (2 : Int32).toNatClampNeg (1 : Int32)))), (q_3, .inl (k_4, 8, .inl a_16)), (q_5, .inl (k_6, 6, .inl (fun _ => 0))), (q_7, .inl (k_8, 6, .inl (fun _ => 0))), (q_9, .inl (k_10, 8, .inr (.inl (fun _ => 0))))] H := hP
  have hD : va_D A [(fo, .inr (7, [.int 1, .ref q_1, .ref q_3, .ref q_5, .ref q_7, .int 0, .ref q_9, .int 0])), (q_1, .inl (k_2, 8, .inl (upd a_15 (2 : Int32).toNatClampNeg (1 : Int32)))), (q_3, .inl (k_4, 8, .inl a_16)), (q_5, .inl (k_6, 6, .inl (fun _ => 0))), (q_7, .inl (k_8, 6, .inl (fun _ => 0))), (q_9, .inl (k_10, 8, .inr (.inl (fun _ => 0))))] := hD
  generalize (upd a_15 (2 : Int32).toNatClampNeg (1 : Int32)) = a_18 at hP hD
  refine lv_aload_n hx hb dX2_init_74 rfl (lv_at hl 1 rfl) ?_
  refine va_get (D := (dC, dI)) (ci := 7) (v := .ref q_3) (C := RX2) (T := TX2) (N := 8) hx hb hts (fun _ h9 => List.mem_cons_of_mem _ (List.mem_append_right _ (h9))) hown hK hP 0 rfl rfl 2 (by decide) (hts (.fieldLink RX2 19 "ExamHalls$Form" "most" "[I") (List.mem_of_getElem? (i := 7) rfl)) (fun _ h9 => h9) rfl dX2_init_75 ?_
  refine lv_iload_n hx hb dX2_init_78 rfl (lv_at hl 0 rfl) ?_
  refine lv_bipush (v := 12) hx hb dX2_init_79 (by decide) ?_
  refine va_iast hx hb hK hP hD hS 2 1 rfl rfl (by unfold vp_in; decide) dX2_init_81 (fun H locs hP hD hS => ?_)
  have hP : va_P (dC, dI) vwCl [(fo, .inr (7, [.int 1, .ref q_1, .ref q_3, .ref q_5, .ref q_7, .int 0, .ref q_9, .int 0])), (q_1, .inl (k_2, 8, .inl a_18)), (q_3, .inl (k_4, 8, .inl (upd a_16 (2 : Int32).toNatClampNeg (12 : Int32)))), (q_5, .inl (k_6, 6, .inl (fun _ => 0))), (q_7, .inl (k_8, 6, .inl (fun _ => 0))), (q_9, .inl (k_10, 8, .inr (.inl (fun _ => 0))))] H := hP
  have hD : va_D A [(fo, .inr (7, [.int 1, .ref q_1, .ref q_3, .ref q_5, .ref q_7, .int 0, .ref q_9, .int 0])), (q_1, .inl (k_2, 8, .inl a_18)), (q_3, .inl (k_4, 8, .inl (upd a_16 (2 : Int32).toNatClampNeg (12 : Int32)))), (q_5, .inl (k_6, 6, .inl (fun _ => 0))), (q_7, .inl (k_8, 6, .inl (fun _ => 0))), (q_9, .inl (k_10, 8, .inr (.inl (fun _ => 0))))] := hD
  generalize (upd a_16 (2 : Int32).toNatClampNeg (12 : Int32)) = a_19 at hP hD
  refine lv_iinc (v := 3) (lv' := [(1, .int 3), (0, .ref fo)]) hx hb dX2_init_82 hl (k := 0) rfl (by decide) (by decide) rfl (fun ls hl => ?_)
  refine lv_goto (tgt := 61) hx hb dX2_init_85 (by decide) ?_
  refine lv_iload_n hx hb dX2_init_61 rfl (lv_at hl 0 rfl) ?_
  refine lv_bipush (v := 8) hx hb dX2_init_62 (by decide) ?_
  refine lv_icmp_ge (tgt := 88) hx hb dX2_init_64 (by decide) (fun c_20 => absurd c_20 (by decide)) (fun _ => ?_)
  refine lv_aload_n hx hb dX2_init_67 rfl (lv_at hl 1 rfl) ?_
  refine va_get (D := (dC, dI)) (ci := 7) (v := .ref q_1) (C := RX2) (T := TX2) (N := 8) hx hb hts (fun _ h9 => List.mem_cons_of_mem _ (List.mem_append_right _ (h9))) hown hK hP 0 rfl rfl 1 (by decide) (hts (.fieldLink RX2 15 "ExamHalls$Form" "least" "[I") (List.mem_of_getElem? (i := 6) rfl)) (fun _ h9 => h9) rfl dX2_init_68 ?_
  refine lv_iload_n hx hb dX2_init_71 rfl (lv_at hl 0 rfl) ?_
  refine lv_iconst (v := 1) hx hb dX2_init_72 (by decide) ?_
  refine va_iast hx hb hK hP hD hS 1 0 rfl rfl (by unfold vp_in; decide) dX2_init_73 (fun H locs hP hD hS => ?_)
  have hP : va_P (dC, dI) vwCl [(fo, .inr (7, [.int 1, .ref q_1, .ref q_3, .ref q_5, .ref q_7, .int 0, .ref q_9, .int 0])), (q_1, .inl (k_2, 8, .inl (upd a_18 (3 : Int32).toNatClampNeg (1 : Int32)))), (q_3, .inl (k_4, 8, .inl a_19)), (q_5, .inl (k_6, 6, .inl (fun _ => 0))), (q_7, .inl (k_8, 6, .inl (fun _ => 0))), (q_9, .inl (k_10, 8, .inr (.inl (fun _ => 0))))] H := hP
  have hD : va_D A [(fo, .inr (7, [.int 1, .ref q_1, .ref q_3, .ref q_5, .ref q_7, .int 0, .ref q_9, .int 0])), (q_1, .inl (k_2, 8, .inl (upd a_18 (3 : Int32).toNatClampNeg (1 : Int32)))), (q_3, .inl (k_4, 8, .inl a_19)), (q_5, .inl (k_6, 6, .inl (fun _ => 0))), (q_7, .inl (k_8, 6, .inl (fun _ => 0))), (q_9, .inl (k_10, 8, .inr (.inl (fun _ => 0))))] := hD
  generalize (upd a_18 (3 : Int32).toNatClampNeg (1 : Int32)) = a_21 at hP hD
  refine lv_aload_n hx hb dX2_init_74 rfl (lv_at hl 1 rfl) ?_
  refine va_get (D := (dC, dI)) (ci := 7) (v := .ref q_3) (C := RX2) (T := TX2) (N := 8) hx hb hts (fun _ h9 => List.mem_cons_of_mem _ (List.mem_append_right _ (h9))) hown hK hP 0 rfl rfl 2 (by decide) (hts (.fieldLink RX2 19 "ExamHalls$Form" "most" "[I") (List.mem_of_getElem? (i := 7) rfl)) (fun _ h9 => h9) rfl dX2_init_75 ?_
  refine lv_iload_n hx hb dX2_init_78 rfl (lv_at hl 0 rfl) ?_
  refine lv_bipush (v := 12) hx hb dX2_init_79 (by decide) ?_
  refine va_iast hx hb hK hP hD hS 2 1 rfl rfl (by unfold vp_in; decide) dX2_init_81 (fun H locs hP hD hS => ?_)
  have hP : va_P (dC, dI) vwCl [(fo, .inr (7, [.int 1, .ref q_1, .ref q_3, .ref q_5, .ref q_7, .int 0, .ref q_9, .int 0])), (q_1, .inl (k_2, 8, .inl a_21)), (q_3, .inl (k_4, 8, .inl (upd a_19 (3 : Int32).toNatClampNeg (12 : Int32)))), (q_5, .inl (k_6, 6, .inl (fun _ => 0))), (q_7, .inl (k_8, 6, .inl (fun _ => 0))), (q_9, .inl (k_10, 8, .inr (.inl (fun _ => 0))))] H := hP
  have hD : va_D A [(fo, .inr (7, [.int 1, .ref q_1, .ref q_3, .ref q_5, .ref q_7, .int 0, .ref q_9, .int 0])), (q_1, .inl (k_2, 8, .inl a_21)), (q_3, .inl (k_4, 8, .inl (upd a_19 (3 : Int32).toNatClampNeg (12 : Int32)))), (q_5, .inl (k_6, 6, .inl (fun _ => 0))), (q_7, .inl (k_8, 6, .inl (fun _ => 0))), (q_9, .inl (k_10, 8, .inr (.inl (fun _ => 0))))] := hD
  generalize (upd a_19 (3 : Int32).toNatClampNeg (12 : Int32)) = a_22 at hP hD
  refine lv_iinc (v := 4) (lv' := [(1, .int 4), (0, .ref fo)]) hx hb dX2_init_82 hl (k := 0) rfl (by decide) (by decide) rfl (fun ls hl => ?_)
  refine lv_goto (tgt := 61) hx hb dX2_init_85 (by decide) ?_
  refine lv_iload_n hx hb dX2_init_61 rfl (lv_at hl 0 rfl) ?_
  refine lv_bipush (v := 8) hx hb dX2_init_62 (by decide) ?_
  refine lv_icmp_ge (tgt := 88) hx hb dX2_init_64 (by decide) (fun c_23 => absurd c_23 (by decide)) (fun _ => ?_)
  refine lv_aload_n hx hb dX2_init_67 rfl (lv_at hl 1 rfl) ?_
  refine va_get (D := (dC, dI)) (ci := 7) (v := .ref q_1) (C := RX2) (T := TX2) (N := 8) hx hb hts (fun _ h9 => List.mem_cons_of_mem _ (List.mem_append_right _ (h9))) hown hK hP 0 rfl rfl 1 (by decide) (hts (.fieldLink RX2 15 "ExamHalls$Form" "least" "[I") (List.mem_of_getElem? (i := 6) rfl)) (fun _ h9 => h9) rfl dX2_init_68 ?_
  refine lv_iload_n hx hb dX2_init_71 rfl (lv_at hl 0 rfl) ?_
  refine lv_iconst (v := 1) hx hb dX2_init_72 (by decide) ?_
  refine va_iast hx hb hK hP hD hS 1 0 rfl rfl (by unfold vp_in; decide) dX2_init_73 (fun H locs hP hD hS => ?_)
  have hP : va_P (dC, dI) vwCl [(fo, .inr (7, [.int 1, .ref q_1, .ref q_3, .ref q_5, .ref q_7, .int 0, .ref q_9, .int 0])), (q_1, .inl (k_2, 8, .inl (upd a_21 (4 : Int32).toNatClampNeg (1 : Int32)))), (q_3, .inl (k_4, 8, .inl a_22)), (q_5, .inl (k_6, 6, .inl (fun _ => 0))), (q_7, .inl (k_8, 6, .inl (fun _ => 0))), (q_9, .inl (k_10, 8, .inr (.inl (fun _ => 0))))] H := hP
  have hD : va_D A [(fo, .inr (7, [.int 1, .ref q_1, .ref q_3, .ref q_5, .ref q_7, .int 0, .ref q_9, .int 0])), (q_1, .inl (k_2, 8, .inl (upd a_21 (4 : Int32).toNatClampNeg (1 : Int32)))), (q_3, .inl (k_4, 8, .inl a_22)), (q_5, .inl (k_6, 6, .inl (fun _ => 0))), (q_7, .inl (k_8, 6, .inl (fun _ => 0))), (q_9, .inl (k_10, 8, .inr (.inl (fun _ => 0))))] := hD
  generalize (upd a_21 (4 : Int32).toNatClampNeg (1 : Int32)) = a_24 at hP hD
  refine lv_aload_n hx hb dX2_init_74 rfl (lv_at hl 1 rfl) ?_
  refine va_get (D := (dC, dI)) (ci := 7) (v := .ref q_3) (C := RX2) (T := TX2) (N := 8) hx hb hts (fun _ h9 => List.mem_cons_of_mem _ (List.mem_append_right _ (h9))) hown hK hP 0 rfl rfl 2 (by decide) (hts (.fieldLink RX2 19 "ExamHalls$Form" "most" "[I") (List.mem_of_getElem? (i := 7) rfl)) (fun _ h9 => h9) rfl dX2_init_75 ?_
  refine lv_iload_n hx hb dX2_init_78 rfl (lv_at hl 0 rfl) ?_
  refine lv_bipush (v := 12) hx hb dX2_init_79 (by decide) ?_
  refine va_iast hx hb hK hP hD hS 2 1 rfl rfl (by unfold vp_in; decide) dX2_init_81 (fun H locs hP hD hS => ?_)
  have hP : va_P (dC, dI) vwCl [(fo, .inr (7, [.int 1, .ref q_1, .ref q_3, .ref q_5, .ref q_7, .int 0, .ref q_9, .int 0])), (q_1, .inl (k_2, 8, .inl a_24)), (q_3, .inl (k_4, 8, .inl (upd a_22 (4 : Int32).toNatClampNeg (12 : Int32)))), (q_5, .inl (k_6, 6, .inl (fun _ => 0))), (q_7, .inl (k_8, 6, .inl (fun _ => 0))), (q_9, .inl (k_10, 8, .inr (.inl (fun _ => 0))))] H := hP
  have hD : va_D A [(fo, .inr (7, [.int 1, .ref q_1, .ref q_3, .ref q_5, .ref q_7, .int 0, .ref q_9, .int 0])), (q_1, .inl (k_2, 8, .inl a_24)), (q_3, .inl (k_4, 8, .inl (upd a_22 (4 : Int32).toNatClampNeg (12 : Int32)))), (q_5, .inl (k_6, 6, .inl (fun _ => 0))), (q_7, .inl (k_8, 6, .inl (fun _ => 0))), (q_9, .inl (k_10, 8, .inr (.inl (fun _ => 0))))] := hD
  generalize (upd a_22 (4 : Int32).toNatClampNeg (12 : Int32)) = a_25 at hP hD
  refine lv_iinc (v := 5) (lv' := [(1, .int 5), (0, .ref fo)]) hx hb dX2_init_82 hl (k := 0) rfl (by decide) (by decide) rfl (fun ls hl => ?_)
  refine lv_goto (tgt := 61) hx hb dX2_init_85 (by decide) ?_
  refine lv_iload_n hx hb dX2_init_61 rfl (lv_at hl 0 rfl) ?_
  refine lv_bipush (v := 8) hx hb dX2_init_62 (by decide) ?_
  refine lv_icmp_ge (tgt := 88) hx hb dX2_init_64 (by decide) (fun c_26 => absurd c_26 (by decide)) (fun _ => ?_)
  refine lv_aload_n hx hb dX2_init_67 rfl (lv_at hl 1 rfl) ?_
  refine va_get (D := (dC, dI)) (ci := 7) (v := .ref q_1) (C := RX2) (T := TX2) (N := 8) hx hb hts (fun _ h9 => List.mem_cons_of_mem _ (List.mem_append_right _ (h9))) hown hK hP 0 rfl rfl 1 (by decide) (hts (.fieldLink RX2 15 "ExamHalls$Form" "least" "[I") (List.mem_of_getElem? (i := 6) rfl)) (fun _ h9 => h9) rfl dX2_init_68 ?_
  refine lv_iload_n hx hb dX2_init_71 rfl (lv_at hl 0 rfl) ?_
  refine lv_iconst (v := 1) hx hb dX2_init_72 (by decide) ?_
  refine va_iast hx hb hK hP hD hS 1 0 rfl rfl (by unfold vp_in; decide) dX2_init_73 (fun H locs hP hD hS => ?_)
  have hP : va_P (dC, dI) vwCl [(fo, .inr (7, [.int 1, .ref q_1, .ref q_3, .ref q_5, .ref q_7, .int 0, .ref q_9, .int 0])), (q_1, .inl (k_2, 8, .inl (upd a_24 (5 : Int32).toNatClampNeg (1 : Int32)))), (q_3, .inl (k_4, 8, .inl a_25)), (q_5, .inl (k_6, 6, .inl (fun _ => 0))), (q_7, .inl (k_8, 6, .inl (fun _ => 0))), (q_9, .inl (k_10, 8, .inr (.inl (fun _ => 0))))] H := hP
  have hD : va_D A [(fo, .inr (7, [.int 1, .ref q_1, .ref q_3, .ref q_5, .ref q_7, .int 0, .ref q_9, .int 0])), (q_1, .inl (k_2, 8, .inl (upd a_24 (5 : Int32).toNatClampNeg (1 : Int32)))), (q_3, .inl (k_4, 8, .inl a_25)), (q_5, .inl (k_6, 6, .inl (fun _ => 0))), (q_7, .inl (k_8, 6, .inl (fun _ => 0))), (q_9, .inl (k_10, 8, .inr (.inl (fun _ => 0))))] := hD
  generalize (upd a_24 (5 : Int32).toNatClampNeg (1 : Int32)) = a_27 at hP hD
  refine lv_aload_n hx hb dX2_init_74 rfl (lv_at hl 1 rfl) ?_
  refine va_get (D := (dC, dI)) (ci := 7) (v := .ref q_3) (C := RX2) (T := TX2) (N := 8) hx hb hts (fun _ h9 => List.mem_cons_of_mem _ (List.mem_append_right _ (h9))) hown hK hP 0 rfl rfl 2 (by decide) (hts (.fieldLink RX2 19 "ExamHalls$Form" "most" "[I") (List.mem_of_getElem? (i := 7) rfl)) (fun _ h9 => h9) rfl dX2_init_75 ?_
  refine lv_iload_n hx hb dX2_init_78 rfl (lv_at hl 0 rfl) ?_
  refine lv_bipush (v := 12) hx hb dX2_init_79 (by decide) ?_
  refine va_iast hx hb hK hP hD hS 2 1 rfl rfl (by unfold vp_in; decide) dX2_init_81 (fun H locs hP hD hS => ?_)
  have hP : va_P (dC, dI) vwCl [(fo, .inr (7, [.int 1, .ref q_1, .ref q_3, .ref q_5, .ref q_7, .int 0, .ref q_9, .int 0])), (q_1, .inl (k_2, 8, .inl a_27)), (q_3, .inl (k_4, 8, .inl (upd a_25 (5 : Int32).toNatClampNeg (12 : Int32)))), (q_5, .inl (k_6, 6, .inl (fun _ => 0))), (q_7, .inl (k_8, 6, .inl (fun _ => 0))), (q_9, .inl (k_10, 8, .inr (.inl (fun _ => 0))))] H := hP
  have hD : va_D A [(fo, .inr (7, [.int 1, .ref q_1, .ref q_3, .ref q_5, .ref q_7, .int 0, .ref q_9, .int 0])), (q_1, .inl (k_2, 8, .inl a_27)), (q_3, .inl (k_4, 8, .inl (upd a_25 (5 : Int32).toNatClampNeg (12 : Int32)))), (q_5, .inl (k_6, 6, .inl (fun _ => 0))), (q_7, .inl (k_8, 6, .inl (fun _ => 0))), (q_9, .inl (k_10, 8, .inr (.inl (fun _ => 0))))] := hD
  generalize (upd a_25 (5 : Int32).toNatClampNeg (12 : Int32)) = a_28 at hP hD
  refine lv_iinc (v := 6) (lv' := [(1, .int 6), (0, .ref fo)]) hx hb dX2_init_82 hl (k := 0) rfl (by decide) (by decide) rfl (fun ls hl => ?_)
  refine lv_goto (tgt := 61) hx hb dX2_init_85 (by decide) ?_
  refine lv_iload_n hx hb dX2_init_61 rfl (lv_at hl 0 rfl) ?_
  refine lv_bipush (v := 8) hx hb dX2_init_62 (by decide) ?_
  refine lv_icmp_ge (tgt := 88) hx hb dX2_init_64 (by decide) (fun c_29 => absurd c_29 (by decide)) (fun _ => ?_)
  refine lv_aload_n hx hb dX2_init_67 rfl (lv_at hl 1 rfl) ?_
  refine va_get (D := (dC, dI)) (ci := 7) (v := .ref q_1) (C := RX2) (T := TX2) (N := 8) hx hb hts (fun _ h9 => List.mem_cons_of_mem _ (List.mem_append_right _ (h9))) hown hK hP 0 rfl rfl 1 (by decide) (hts (.fieldLink RX2 15 "ExamHalls$Form" "least" "[I") (List.mem_of_getElem? (i := 6) rfl)) (fun _ h9 => h9) rfl dX2_init_68 ?_
  refine lv_iload_n hx hb dX2_init_71 rfl (lv_at hl 0 rfl) ?_
  refine lv_iconst (v := 1) hx hb dX2_init_72 (by decide) ?_
  refine va_iast hx hb hK hP hD hS 1 0 rfl rfl (by unfold vp_in; decide) dX2_init_73 (fun H locs hP hD hS => ?_)
  have hP : va_P (dC, dI) vwCl [(fo, .inr (7, [.int 1, .ref q_1, .ref q_3, .ref q_5, .ref q_7, .int 0, .ref q_9, .int 0])), (q_1, .inl (k_2, 8, .inl (upd a_27 (6 : Int32).toNatClampNeg (1 : Int32)))), (q_3, .inl (k_4, 8, .inl a_28)), (q_5, .inl (k_6, 6, .inl (fun _ => 0))), (q_7, .inl (k_8, 6, .inl (fun _ => 0))), (q_9, .inl (k_10, 8, .inr (.inl (fun _ => 0))))] H := hP
  have hD : va_D A [(fo, .inr (7, [.int 1, .ref q_1, .ref q_3, .ref q_5, .ref q_7, .int 0, .ref q_9, .int 0])), (q_1, .inl (k_2, 8, .inl (upd a_27 (6 : Int32).toNatClampNeg (1 : Int32)))), (q_3, .inl (k_4, 8, .inl a_28)), (q_5, .inl (k_6, 6, .inl (fun _ => 0))), (q_7, .inl (k_8, 6, .inl (fun _ => 0))), (q_9, .inl (k_10, 8, .inr (.inl (fun _ => 0))))] := hD
  generalize (upd a_27 (6 : Int32).toNatClampNeg (1 : Int32)) = a_30 at hP hD
  refine lv_aload_n hx hb dX2_init_74 rfl (lv_at hl 1 rfl) ?_
  refine va_get (D := (dC, dI)) (ci := 7) (v := .ref q_3) (C := RX2) (T := TX2) (N := 8) hx hb hts (fun _ h9 => List.mem_cons_of_mem _ (List.mem_append_right _ (h9))) hown hK hP 0 rfl rfl 2 (by decide) (hts (.fieldLink RX2 19 "ExamHalls$Form" "most" "[I") (List.mem_of_getElem? (i := 7) rfl)) (fun _ h9 => h9) rfl dX2_init_75 ?_
  refine lv_iload_n hx hb dX2_init_78 rfl (lv_at hl 0 rfl) ?_
  refine lv_bipush (v := 12) hx hb dX2_init_79 (by decide) ?_
  refine va_iast hx hb hK hP hD hS 2 1 rfl rfl (by unfold vp_in; decide) dX2_init_81 (fun H locs hP hD hS => ?_)
  have hP : va_P (dC, dI) vwCl [(fo, .inr (7, [.int 1, .ref q_1, .ref q_3, .ref q_5, .ref q_7, .int 0, .ref q_9, .int 0])), (q_1, .inl (k_2, 8, .inl a_30)), (q_3, .inl (k_4, 8, .inl (upd a_28 (6 : Int32).toNatClampNeg (12 : Int32)))), (q_5, .inl (k_6, 6, .inl (fun _ => 0))), (q_7, .inl (k_8, 6, .inl (fun _ => 0))), (q_9, .inl (k_10, 8, .inr (.inl (fun _ => 0))))] H := hP
  have hD : va_D A [(fo, .inr (7, [.int 1, .ref q_1, .ref q_3, .ref q_5, .ref q_7, .int 0, .ref q_9, .int 0])), (q_1, .inl (k_2, 8, .inl a_30)), (q_3, .inl (k_4, 8, .inl (upd a_28 (6 : Int32).toNatClampNeg (12 : Int32)))), (q_5, .inl (k_6, 6, .inl (fun _ => 0))), (q_7, .inl (k_8, 6, .inl (fun _ => 0))), (q_9, .inl (k_10, 8, .inr (.inl (fun _ => 0))))] := hD
  generalize (upd a_28 (6 : Int32).toNatClampNeg (12 : Int32)) = a_31 at hP hD
  refine lv_iinc (v := 7) (lv' := [(1, .int 7), (0, .ref fo)]) hx hb dX2_init_82 hl (k := 0) rfl (by decide) (by decide) rfl (fun ls hl => ?_)
  refine lv_goto (tgt := 61) hx hb dX2_init_85 (by decide) ?_
  refine lv_iload_n hx hb dX2_init_61 rfl (lv_at hl 0 rfl) ?_
  refine lv_bipush (v := 8) hx hb dX2_init_62 (by decide) ?_
  refine lv_icmp_ge (tgt := 88) hx hb dX2_init_64 (by decide) (fun c_32 => absurd c_32 (by decide)) (fun _ => ?_)
  refine lv_aload_n hx hb dX2_init_67 rfl (lv_at hl 1 rfl) ?_
  refine va_get (D := (dC, dI)) (ci := 7) (v := .ref q_1) (C := RX2) (T := TX2) (N := 8) hx hb hts (fun _ h9 => List.mem_cons_of_mem _ (List.mem_append_right _ (h9))) hown hK hP 0 rfl rfl 1 (by decide) (hts (.fieldLink RX2 15 "ExamHalls$Form" "least" "[I") (List.mem_of_getElem? (i := 6) rfl)) (fun _ h9 => h9) rfl dX2_init_68 ?_
  refine lv_iload_n hx hb dX2_init_71 rfl (lv_at hl 0 rfl) ?_
  refine lv_iconst (v := 1) hx hb dX2_init_72 (by decide) ?_
  refine va_iast hx hb hK hP hD hS 1 0 rfl rfl (by unfold vp_in; decide) dX2_init_73 (fun H locs hP hD hS => ?_)
  have hP : va_P (dC, dI) vwCl [(fo, .inr (7, [.int 1, .ref q_1, .ref q_3, .ref q_5, .ref q_7, .int 0, .ref q_9, .int 0])), (q_1, .inl (k_2, 8, .inl (upd a_30 (7 : Int32).toNatClampNeg (1 : Int32)))), (q_3, .inl (k_4, 8, .inl a_31)), (q_5, .inl (k_6, 6, .inl (fun _ => 0))), (q_7, .inl (k_8, 6, .inl (fun _ => 0))), (q_9, .inl (k_10, 8, .inr (.inl (fun _ => 0))))] H := hP
  have hD : va_D A [(fo, .inr (7, [.int 1, .ref q_1, .ref q_3, .ref q_5, .ref q_7, .int 0, .ref q_9, .int 0])), (q_1, .inl (k_2, 8, .inl (upd a_30 (7 : Int32).toNatClampNeg (1 : Int32)))), (q_3, .inl (k_4, 8, .inl a_31)), (q_5, .inl (k_6, 6, .inl (fun _ => 0))), (q_7, .inl (k_8, 6, .inl (fun _ => 0))), (q_9, .inl (k_10, 8, .inr (.inl (fun _ => 0))))] := hD
  generalize (upd a_30 (7 : Int32).toNatClampNeg (1 : Int32)) = a_33 at hP hD
  refine lv_aload_n hx hb dX2_init_74 rfl (lv_at hl 1 rfl) ?_
  refine va_get (D := (dC, dI)) (ci := 7) (v := .ref q_3) (C := RX2) (T := TX2) (N := 8) hx hb hts (fun _ h9 => List.mem_cons_of_mem _ (List.mem_append_right _ (h9))) hown hK hP 0 rfl rfl 2 (by decide) (hts (.fieldLink RX2 19 "ExamHalls$Form" "most" "[I") (List.mem_of_getElem? (i := 7) rfl)) (fun _ h9 => h9) rfl dX2_init_75 ?_
  refine lv_iload_n hx hb dX2_init_78 rfl (lv_at hl 0 rfl) ?_
  refine lv_bipush (v := 12) hx hb dX2_init_79 (by decide) ?_
  refine va_iast hx hb hK hP hD hS 2 1 rfl rfl (by unfold vp_in; decide) dX2_init_81 (fun H locs hP hD hS => ?_)
  have hP : va_P (dC, dI) vwCl [(fo, .inr (7, [.int 1, .ref q_1, .ref q_3, .ref q_5, .ref q_7, .int 0, .ref q_9, .int 0])), (q_1, .inl (k_2, 8, .inl a_33)), (q_3, .inl (k_4, 8, .inl (upd a_31 (7 : Int32).toNatClampNeg (12 : Int32)))), (q_5, .inl (k_6, 6, .inl (fun _ => 0))), (q_7, .inl (k_8, 6, .inl (fun _ => 0))), (q_9, .inl (k_10, 8, .inr (.inl (fun _ => 0))))] H := hP
  have hD : va_D A [(fo, .inr (7, [.int 1, .ref q_1, .ref q_3, .ref q_5, .ref q_7, .int 0, .ref q_9, .int 0])), (q_1, .inl (k_2, 8, .inl a_33)), (q_3, .inl (k_4, 8, .inl (upd a_31 (7 : Int32).toNatClampNeg (12 : Int32)))), (q_5, .inl (k_6, 6, .inl (fun _ => 0))), (q_7, .inl (k_8, 6, .inl (fun _ => 0))), (q_9, .inl (k_10, 8, .inr (.inl (fun _ => 0))))] := hD
  generalize (upd a_31 (7 : Int32).toNatClampNeg (12 : Int32)) = a_34 at hP hD
  refine lv_iinc (v := 8) (lv' := [(1, .int 8), (0, .ref fo)]) hx hb dX2_init_82 hl (k := 0) rfl (by decide) (by decide) rfl (fun ls hl => ?_)
  refine lv_goto (tgt := 61) hx hb dX2_init_85 (by decide) ?_
  refine lv_iload_n hx hb dX2_init_61 rfl (lv_at hl 0 rfl) ?_
  refine lv_bipush (v := 8) hx hb dX2_init_62 (by decide) ?_
  refine lv_icmp_ge (tgt := 88) hx hb dX2_init_64 (by decide) (fun _ => ?_) (fun c_35 => absurd (by decide) c_35)
  have hP9 := hP.sub (ws' := [(fo, .inr (7, [.int 1, .ref q_1, .ref q_3, .ref q_5, .ref q_7, .int 0, .ref q_9, .int 0])), (q_1, .inl (k_2, 8, .inl a_33)), (q_3, .inl (k_4, 8, .inl a_34)), (q_5, .inl (k_6, 6, .inl (fun _ => 0))), (q_7, .inl (k_8, 6, .inl (fun _ => 0))), (q_9, .inl (k_10, 8, .inr (.inl (fun _ => 0))))]) [0, 1, 2, 3, 4, 5] rfl
  have hD9 := hD.sub (ws' := [(fo, .inr (7, [.int 1, .ref q_1, .ref q_3, .ref q_5, .ref q_7, .int 0, .ref q_9, .int 0])), (q_1, .inl (k_2, 8, .inl a_33)), (q_3, .inl (k_4, 8, .inl a_34)), (q_5, .inl (k_6, 6, .inl (fun _ => 0))), (q_7, .inl (k_8, 6, .inl (fun _ => 0))), (q_9, .inl (k_10, 8, .inr (.inl (fun _ => 0))))]) [0, 1, 2, 3, 4, 5] (by decide) rfl
  have hK9 := hK.sub (tys' := [(k_2, .int), (k_4, .int), (k_6, .int), (k_8, .int), (k_10, .long)]) [0, 1, 2, 3, 4] rfl
  exact W.vret hx hb hr (fun t ht hW => ⟨⟨(), rfl, trivial, q_1, q_3, q_5, q_7, q_9, k_2, k_4, k_6, k_8, k_10, a_33, a_34, by rw [ht]; exact hP9, va_K.moved hW.alike hK9, hD9⟩, hS.F ht⟩) hS.2.2 dX2_init_88

set_option maxHeartbeats 4000000 in
set_option maxRecDepth 100000 in
theorem c_X5_init (l : Launch) (dC : Nat → ClassId) (dI : Nat → Nat → Nat) (x : Nat) (sz : Nat) : Met l yX5_init wsX5_init ({ frames := 2, cells := 15, slots := 408, locals := 33 }) (va_Pc [.ref x] (PQ dC dI sz [(x, .inr (10, [.null, .int 0, .null, .int 0, .null, .null, .int 0, .null, .int 0, .int 0, .null, .null, .null, .null]))] [])) (va_Qv (fun _ : Unit => True) (fun _ t => ∃ (cd : Nat) (rd : Nat) (tp : Nat) (fo : Nat) (qu : Nat) (sh : Nat) (vs : Nat) (pa : Nat) (pb : Nat) (tb : Nat) (le : Nat) (mo : Nat) (os : Nat) (ps : Nat) (br : Nat) (kl : ClassId) (km : ClassId) (ko : ClassId) (kp : ClassId) (kb : ClassId) (fl : Nat → Int32) (fm : Nat → Int32) (kC : ClassId) (kR : ClassId) (kB : ClassId) (kq : ClassId), va_P (dC, dI) vwCl [(x, .inr (10, [.ref cd, .int 0, .ref rd, .int 0, .ref tp, .ref fo, .int 10, .ref qu, .int 0, .int 0, .ref sh, .ref vs, .ref pa, .ref pb])), (cd, .inl (kC, 24, .inr (.inr (.inr (.inr (fun _ => none)))))), (rd, .inl (kR, 6, .inr (.inr (.inr (.inr (fun _ => none)))))), (tp, .inr (9, [.ref tb, .int 0])), (tb, .inl (kB, 250, .inl (fun _ => 0))), (fo, .inr (7, [.int 1, .ref le, .ref mo, .ref os, .ref ps, .int 0, .ref br, .int 0])), (le, .inl (kl, 8, .inl fl)), (mo, .inl (km, 8, .inl fm)), (os, .inl (ko, 6, .inl (fun _ => 0))), (ps, .inl (kp, 6, .inl (fun _ => 0))), (br, .inl (kb, 8, .inr (.inl (fun _ => 0)))), (qu, .inl (kq, 4, .inl (fun _ => 0)))] t.heap ∧ va_K (dC, dI) vwCl [(kC, .object "ExamHalls$Candidate"), (kR, .object "ExamHalls$Reader"), (kB, .byte), (kl, .int), (km, .int), (ko, .int), (kp, .int), (kb, .long), (kq, .int)] t ∧ va_D (va_A [(x, .inr (10, [.null, .int 0, .null, .int 0, .null, .null, .int 0, .null, .int 0, .int 0, .null, .null, .null, .null]))] sz) [(x, .inr (10, [.ref cd, .int 0, .ref rd, .int 0, .ref tp, .ref fo, .int 10, .ref qu, .int 0, .int 0, .ref sh, .ref vs, .ref pa, .ref pb])), (cd, .inl (kC, 24, .inr (.inr (.inr (.inr (fun _ => none)))))), (rd, .inl (kR, 6, .inr (.inr (.inr (.inr (fun _ => none)))))), (tp, .inr (9, [.ref tb, .int 0])), (tb, .inl (kB, 250, .inl (fun _ => 0))), (fo, .inr (7, [.int 1, .ref le, .ref mo, .ref os, .ref ps, .int 0, .ref br, .int 0])), (le, .inl (kl, 8, .inl fl)), (mo, .inl (km, 8, .inl fm)), (os, .inl (ko, 6, .inl (fun _ => 0))), (ps, .inl (kp, 6, .inl (fun _ => 0))), (br, .inl (kb, 8, .inr (.inl (fun _ => 0)))), (qu, .inl (kq, 4, .inl (fun _ => 0)))]) (va_A [(x, .inr (10, [.null, .int 0, .null, .int 0, .null, .null, .int 0, .null, .int 0, .int 0, .null, .null, .null, .null]))] sz)) 15 408 (va_A [(x, .inr (10, [.null, .int 0, .null, .int 0, .null, .null, .int 0, .null, .int 0, .int 0, .null, .null, .null, .null]))] sz) := by
  refine Met.ofW (cc := cX5_init) (maxL := 1) (ret := none) (by decide) rfl ?_
  intro p e s m args below meth c s₁ B hml hv
  obtain ⟨rfl, hsz, hP, hK, hD0, hF⟩ := hv
  have hx := B.exec
  have hb := B.bytes
  have hr := B.returns
  have hts := atoms_spec (ws := wsX5_init) B.pre
  have hown : s.vm.findClass RX5 = some m.cls := findClass_of_methodNamed B.named
  have hlocks := B.notSynchronized
  have hin : meth.name = "<init>" := (name_of_methodNamed B.named B.method).1
  subst hsz
  have hD := hD0.self (sz := s.heap.size)
  generalize hAe : va_A [(x, .inr (10, [.null, .int 0, .null, .int 0, .null, .null, .int 0, .null, .int 0, .int 0, .null, .null, .null, .null]))] s.heap.size = A at hD ⊢
  have hA : ∀ q : Nat, s.heap.size ≤ q → A q := fun q h => by rw [← hAe]; exact Or.inr h
  have hS : va_S A s.heap s.heap [] := va_S.rf
  have hl := lv_entry ([.ref x]) (n := 1) (Nat.le_of_ble_eq_true rfl)
  rw [lg_entry_eq]
  generalize (lg_sl ([.ref x]) ++ List.replicate (1 - (lg_sl ([.ref x])).length) Slot.unset).toArray = ls at hl ⊢
  have hl : lv_has ls 1 [(0, .ref x)] := hl
  refine lv_aload_n hx hb dX5_init_0 rfl (lv_at hl 0 rfl) ?_
  refine W.objInit hx hb hown (hts (.methodLink RX5 1 objectInit) (List.mem_of_getElem? (i := 1) rfl)) (hts (.instanceMethod objectInit) (List.mem_of_getElem? (i := 2) rfl)) (hts _ (List.mem_of_getElem? (i := 3) rfl)) rfl (by rw [hml]; exact hl.1) rfl dX5_init_1 (Nat.le_of_ble_eq_true rfl) (Nat.le_of_ble_eq_true rfl) ?_
  refine W.eq (g2 := F0 m 4 ls []) rfl ?_
  refine lv_aload_n hx hb dX5_init_4 rfl (lv_at hl 0 rfl) ?_
  refine lv_bipush (v := 24) hx hb dX5_init_5 (by decide) ?_
  refine va_newq hx hb hown (hts (.classLink RX5 9 RX0) (List.mem_of_getElem? (i := 4) rfl)) (Ft.ao hF "ExamHalls$Candidate" (by decide)) hK hP hD hS hA (by decide) (N' := 24) (by decide) (Nat.le_of_ble_eq_true rfl) (Nat.le_of_ble_eq_true rfl) (Nat.le_of_ble_eq_true rfl) dX5_init_7 (fun q_1 k_2 H hK hP hD hS => ?_)
  have hP : va_P (dC, dI) vwCl [(x, .inr (10, [.null, .int 0, .null, .int 0, .null, .null, .int 0, .null, .int 0, .int 0, .null, .null, .null, .null])), (q_1, .inl (k_2, 24, .inr (.inr (.inr (.inr (fun _ => none))))))] H := hP
  have hD : va_D A [(x, .inr (10, [.null, .int 0, .null, .int 0, .null, .null, .int 0, .null, .int 0, .int 0, .null, .null, .null, .null])), (q_1, .inl (k_2, 24, .inr (.inr (.inr (.inr (fun _ => none))))))] := hD
  have hK : va_K (dC, dI) vwCl [(k_2, .object "ExamHalls$Candidate")] s := hK
  refine W.widen (k := 1) (n := 24) (Nat.le_of_ble_eq_true rfl) (Nat.le_of_ble_eq_true rfl) ?_
  refine va_putF (D := (dC, dI)) (ci := 10) (v := .ref q_1) (ty := .array (.object "ExamHalls$Candidate")) (C := RX5) (T := TX5) (N := 14) hx hb hts (fun _ h9 => List.mem_cons_of_mem _ (List.mem_append_left _ (List.mem_append_left _ (List.mem_append_right _ (h9))))) tyX5 tyX5_ok nmX5 hown hK hP hD hS 0 rfl rfl 0 (by decide) (hts (.fieldLink RX5 11 "ExamHalls" "candidates" "[LExamHalls$Candidate;") (List.mem_of_getElem? (i := 5) rfl)) (fun _ h9 => h9) rfl hin rfl (by decide +kernel) rfl rfl (Nat.le_of_ble_eq_true rfl) dX5_init_10 (fun H locs hP hD hS => ?_)
  have hP : va_P (dC, dI) vwCl [(x, .inr (10, [.ref q_1, .int 0, .null, .int 0, .null, .null, .int 0, .null, .int 0, .int 0, .null, .null, .null, .null])), (q_1, .inl (k_2, 24, .inr (.inr (.inr (.inr (fun _ => none))))))] H := hP
  have hD : va_D A [(x, .inr (10, [.ref q_1, .int 0, .null, .int 0, .null, .null, .int 0, .null, .int 0, .int 0, .null, .null, .null, .null])), (q_1, .inl (k_2, 24, .inr (.inr (.inr (.inr (fun _ => none))))))] := hD
  refine lv_aload_n hx hb dX5_init_13 rfl (lv_at hl 0 rfl) ?_
  refine lv_iconst (v := 0) hx hb dX5_init_14 (by decide) ?_
  refine va_put (D := (dC, dI)) (ci := 10) (v := .int 0) (ty := .int) (C := RX5) (T := TX5) (N := 14) hx hb hts (fun _ h9 => List.mem_cons_of_mem _ (List.mem_append_left _ (List.mem_append_left _ (List.mem_append_right _ (h9))))) tyX5 tyX5_ok nmX5 hown hK hP hD hS 0 rfl rfl 1 (by decide) (hts (.fieldLink RX5 15 "ExamHalls" "candidateCount" "I") (List.mem_of_getElem? (i := 6) rfl)) (fun _ h9 => h9) rfl (by decide +kernel) rfl rfl (Nat.le_of_ble_eq_true rfl) dX5_init_15 (fun H locs hP hD hS => ?_)
  have hP : va_P (dC, dI) vwCl [(x, .inr (10, [.ref q_1, .int 0, .null, .int 0, .null, .null, .int 0, .null, .int 0, .int 0, .null, .null, .null, .null])), (q_1, .inl (k_2, 24, .inr (.inr (.inr (.inr (fun _ => none))))))] H := hP
  have hD : va_D A [(x, .inr (10, [.ref q_1, .int 0, .null, .int 0, .null, .null, .int 0, .null, .int 0, .int 0, .null, .null, .null, .null])), (q_1, .inl (k_2, 24, .inr (.inr (.inr (.inr (fun _ => none))))))] := hD
  refine lv_aload_n hx hb dX5_init_18 rfl (lv_at hl 0 rfl) ?_
  refine lv_bipush (v := 6) hx hb dX5_init_19 (by decide) ?_
  refine va_newq hx hb hown (hts (.classLink RX5 19 RX3) (List.mem_of_getElem? (i := 7) rfl)) (Ft.ao hF "ExamHalls$Reader" (by decide)) hK hP hD hS hA (by decide) (N' := 6) (by decide) (Nat.le_of_ble_eq_true rfl) (Nat.le_of_ble_eq_true rfl) (Nat.le_of_ble_eq_true rfl) dX5_init_21 (fun q_3 k_4 H hK hP hD hS => ?_)
  have hP : va_P (dC, dI) vwCl [(x, .inr (10, [.ref q_1, .int 0, .null, .int 0, .null, .null, .int 0, .null, .int 0, .int 0, .null, .null, .null, .null])), (q_1, .inl (k_2, 24, .inr (.inr (.inr (.inr (fun _ => none)))))), (q_3, .inl (k_4, 6, .inr (.inr (.inr (.inr (fun _ => none))))))] H := hP
  have hD : va_D A [(x, .inr (10, [.ref q_1, .int 0, .null, .int 0, .null, .null, .int 0, .null, .int 0, .int 0, .null, .null, .null, .null])), (q_1, .inl (k_2, 24, .inr (.inr (.inr (.inr (fun _ => none)))))), (q_3, .inl (k_4, 6, .inr (.inr (.inr (.inr (fun _ => none))))))] := hD
  have hK : va_K (dC, dI) vwCl [(k_2, .object "ExamHalls$Candidate"), (k_4, .object "ExamHalls$Reader")] s := hK
  refine W.widen (k := 2) (n := 30) (Nat.le_of_ble_eq_true rfl) (Nat.le_of_ble_eq_true rfl) ?_
  refine va_putF (D := (dC, dI)) (ci := 10) (v := .ref q_3) (ty := .array (.object "ExamHalls$Reader")) (C := RX5) (T := TX5) (N := 14) hx hb hts (fun _ h9 => List.mem_cons_of_mem _ (List.mem_append_left _ (List.mem_append_left _ (List.mem_append_right _ (h9))))) tyX5 tyX5_ok nmX5 hown hK hP hD hS 0 rfl rfl 2 (by decide) (hts (.fieldLink RX5 21 "ExamHalls" "readers" "[LExamHalls$Reader;") (List.mem_of_getElem? (i := 8) rfl)) (fun _ h9 => h9) rfl hin rfl (by decide +kernel) rfl rfl (Nat.le_of_ble_eq_true rfl) dX5_init_24 (fun H locs hP hD hS => ?_)
  have hP : va_P (dC, dI) vwCl [(x, .inr (10, [.ref q_1, .int 0, .ref q_3, .int 0, .null, .null, .int 0, .null, .int 0, .int 0, .null, .null, .null, .null])), (q_1, .inl (k_2, 24, .inr (.inr (.inr (.inr (fun _ => none)))))), (q_3, .inl (k_4, 6, .inr (.inr (.inr (.inr (fun _ => none))))))] H := hP
  have hD : va_D A [(x, .inr (10, [.ref q_1, .int 0, .ref q_3, .int 0, .null, .null, .int 0, .null, .int 0, .int 0, .null, .null, .null, .null])), (q_1, .inl (k_2, 24, .inr (.inr (.inr (.inr (fun _ => none)))))), (q_3, .inl (k_4, 6, .inr (.inr (.inr (.inr (fun _ => none))))))] := hD
  refine lv_aload_n hx hb dX5_init_27 rfl (lv_at hl 0 rfl) ?_
  refine lv_iconst (v := 0) hx hb dX5_init_28 (by decide) ?_
  refine va_put (D := (dC, dI)) (ci := 10) (v := .int 0) (ty := .int) (C := RX5) (T := TX5) (N := 14) hx hb hts (fun _ h9 => List.mem_cons_of_mem _ (List.mem_append_left _ (List.mem_append_left _ (List.mem_append_right _ (h9))))) tyX5 tyX5_ok nmX5 hown hK hP hD hS 0 rfl rfl 3 (by decide) (hts (.fieldLink RX5 25 "ExamHalls" "readerCount" "I") (List.mem_of_getElem? (i := 9) rfl)) (fun _ h9 => h9) rfl (by decide +kernel) rfl rfl (Nat.le_of_ble_eq_true rfl) dX5_init_29 (fun H locs hP hD hS => ?_)
  have hP : va_P (dC, dI) vwCl [(x, .inr (10, [.ref q_1, .int 0, .ref q_3, .int 0, .null, .null, .int 0, .null, .int 0, .int 0, .null, .null, .null, .null])), (q_1, .inl (k_2, 24, .inr (.inr (.inr (.inr (fun _ => none)))))), (q_3, .inl (k_4, 6, .inr (.inr (.inr (.inr (fun _ => none))))))] H := hP
  have hD : va_D A [(x, .inr (10, [.ref q_1, .int 0, .ref q_3, .int 0, .null, .null, .int 0, .null, .int 0, .int 0, .null, .null, .null, .null])), (q_1, .inl (k_2, 24, .inr (.inr (.inr (.inr (fun _ => none)))))), (q_3, .inl (k_4, 6, .inr (.inr (.inr (.inr (fun _ => none))))))] := hD
  refine lv_aload_n hx hb dX5_init_32 rfl (lv_at hl 0 rfl) ?_
  refine va_new (ci := 9) (fs := [.null, .int 0]) (C := RX4) (T := TX4) (N := 2) hx hb hts (fun _ h9 => List.mem_cons_of_mem _ (List.mem_append_left _ (List.mem_append_right _ (h9)))) tyX4 tyX4_ok hown (hts (.classLink RX5 28 RX4) (List.mem_of_getElem? (i := 10) rfl)) (hts (.instantiable RX4 2) (List.mem_of_getElem? (i := 11) rfl)) (hts (.initialized RX4) (List.mem_of_getElem? (i := 12) rfl)) hK hP hD hS hA rfl dfX4 (Nat.le_of_ble_eq_true rfl) (Nat.le_of_ble_eq_true rfl) dX5_init_33 (fun q_5 H hP hD hS => ?_)
  have hP : va_P (dC, dI) vwCl [(x, .inr (10, [.ref q_1, .int 0, .ref q_3, .int 0, .null, .null, .int 0, .null, .int 0, .int 0, .null, .null, .null, .null])), (q_1, .inl (k_2, 24, .inr (.inr (.inr (.inr (fun _ => none)))))), (q_3, .inl (k_4, 6, .inr (.inr (.inr (.inr (fun _ => none)))))), (q_5, .inr (9, [.null, .int 0]))] H := hP
  have hD : va_D A [(x, .inr (10, [.ref q_1, .int 0, .ref q_3, .int 0, .null, .null, .int 0, .null, .int 0, .int 0, .null, .null, .null, .null])), (q_1, .inl (k_2, 24, .inr (.inr (.inr (.inr (fun _ => none)))))), (q_3, .inl (k_4, 6, .inr (.inr (.inr (.inr (fun _ => none)))))), (q_5, .inr (9, [.null, .int 0]))] := hD
  refine W.widen (k := 3) (n := 32) (Nat.le_of_ble_eq_true rfl) (Nat.le_of_ble_eq_true rfl) ?_
  refine lv_dup hx hb dX5_init_36 rfl ?_
  have hPc := hP.sub (ws' := [(q_5, .inr (9, [.null, .int 0]))]) [3] rfl
  have hDc := hD.sub (ws' := [(q_5, .inr (9, [.null, .int 0]))]) [3] (by decide) rfl
  have hKc := hK.sub (tys' := []) [] rfl
  have hFc := va_free (wc := [(q_5, .inr (9, [.null, .int 0]))]) hD hS hA [3] rfl
  refine va_callv (va_runIN (As := []) (rest := [.ref q_5, .ref x]) ⟨hx, hb, hml, hown, hts⟩ (c_X4_init l dC dI q_5 H.size) ⟨va_cnB 0 hts gX5_init_X4_init_n30 rfl rfl rfl (Ft.nm hF (RX5, 30, yX4_init, RX5) (by decide +kernel)) (hts (.initialized RX4) (List.mem_of_getElem? (i := 12) rfl)) (by decide +kernel) ⟨Nat.le_of_ble_eq_true rfl, Nat.le_of_ble_eq_true rfl⟩, rfl, (hts (.instanceMethod yX4_init) (List.mem_of_getElem? (i := 28) rfl))⟩ ⟨PQ_blind, PQ_pre hPc hKc hDc hF⟩ rfl rfl hl.1 rfl (lv_room (Nat.le_of_ble_eq_true rfl)) dX5_init_37 ⟨Nat.le_of_ble_eq_true rfl, Nat.le_of_ble_eq_true rfl⟩) hS (fun q _ h => hFc q h) hFc (fun u t H1 locs ht hvm hw hB hz1 hk1 hS => ?_)
  obtain ⟨tb_7, kB_8, hP1, hK1, hD1⟩ := hB
  rw [ht] at hP1
  have hK1 := va_K.moved hvm.symm hK1
  obtain ⟨hP, hD⟩ := va_join (wr := [(x, .inr (10, [.ref q_1, .int 0, .ref q_3, .int 0, .null, .null, .int 0, .null, .int 0, .int 0, .null, .null, .null, .null])), (q_1, .inl (k_2, 24, .inr (.inr (.inr (.inr (fun _ => none)))))), (q_3, .inl (k_4, 6, .inr (.inr (.inr (.inr (fun _ => none))))))]) (w1 := [(q_5, .inr (9, [.ref tb_7, .int 0])), (tb_7, .inl (kB_8, 250, .inl (fun _ => 0)))]) hP hD [3] [0, 1, 2] rfl rfl (by decide) (by decide) hk1 hFc hP1 hD1
  have hK := hK.app hK1
  generalize H1 = H at hP hS ⊢
  have hP : va_P (dC, dI) vwCl [(x, .inr (10, [.ref q_1, .int 0, .ref q_3, .int 0, .null, .null, .int 0, .null, .int 0, .int 0, .null, .null, .null, .null])), (q_1, .inl (k_2, 24, .inr (.inr (.inr (.inr (fun _ => none)))))), (q_3, .inl (k_4, 6, .inr (.inr (.inr (.inr (fun _ => none)))))), (q_5, .inr (9, [.ref tb_7, .int 0])), (tb_7, .inl (kB_8, 250, .inl (fun _ => 0)))] H := hP
  have hD : va_D A [(x, .inr (10, [.ref q_1, .int 0, .ref q_3, .int 0, .null, .null, .int 0, .null, .int 0, .int 0, .null, .null, .null, .null])), (q_1, .inl (k_2, 24, .inr (.inr (.inr (.inr (fun _ => none)))))), (q_3, .inl (k_4, 6, .inr (.inr (.inr (.inr (fun _ => none)))))), (q_5, .inr (9, [.ref tb_7, .int 0])), (tb_7, .inl (kB_8, 250, .inl (fun _ => 0)))] := hD
  have hK : va_K (dC, dI) vwCl [(k_2, .object "ExamHalls$Candidate"), (k_4, .object "ExamHalls$Reader"), (kB_8, .byte)] s := hK
  refine W.widen (k := 4) (n := 282) (Nat.le_of_ble_eq_true rfl) (Nat.le_of_ble_eq_true rfl) ?_
  refine va_putF (D := (dC, dI)) (ci := 10) (v := .ref q_5) (ty := .object "ExamHalls$Tape") (C := RX5) (T := TX5) (N := 14) hx hb hts (fun _ h9 => List.mem_cons_of_mem _ (List.mem_append_left _ (List.mem_append_left _ (List.mem_append_right _ (h9))))) tyX5 tyX5_ok nmX5 hown hK hP hD hS 0 rfl rfl 4 (by decide) (hts (.fieldLink RX5 31 "ExamHalls" "tape" "LExamHalls$Tape;") (List.mem_of_getElem? (i := 13) rfl)) (fun _ h9 => h9) rfl hin rfl (by decide +kernel) rfl rfl (Nat.le_of_ble_eq_true rfl) dX5_init_40 (fun H locs hP hD hS => ?_)
  have hP : va_P (dC, dI) vwCl [(x, .inr (10, [.ref q_1, .int 0, .ref q_3, .int 0, .ref q_5, .null, .int 0, .null, .int 0, .int 0, .null, .null, .null, .null])), (q_1, .inl (k_2, 24, .inr (.inr (.inr (.inr (fun _ => none)))))), (q_3, .inl (k_4, 6, .inr (.inr (.inr (.inr (fun _ => none)))))), (q_5, .inr (9, [.ref tb_7, .int 0])), (tb_7, .inl (kB_8, 250, .inl (fun _ => 0)))] H := hP
  have hD : va_D A [(x, .inr (10, [.ref q_1, .int 0, .ref q_3, .int 0, .ref q_5, .null, .int 0, .null, .int 0, .int 0, .null, .null, .null, .null])), (q_1, .inl (k_2, 24, .inr (.inr (.inr (.inr (fun _ => none)))))), (q_3, .inl (k_4, 6, .inr (.inr (.inr (.inr (fun _ => none)))))), (q_5, .inr (9, [.ref tb_7, .int 0])), (tb_7, .inl (kB_8, 250, .inl (fun _ => 0)))] := hD
  refine lv_aload_n hx hb dX5_init_43 rfl (lv_at hl 0 rfl) ?_
  refine va_new (ci := 7) (fs := [.int 0, .null, .null, .null, .null, .int 0, .null, .int 0]) (C := RX2) (T := TX2) (N := 8) hx hb hts (fun _ h9 => List.mem_cons_of_mem _ (List.mem_append_right _ (h9))) tyX2 tyX2_ok hown (hts (.classLink RX5 35 RX2) (List.mem_of_getElem? (i := 14) rfl)) (hts (.instantiable RX2 8) (List.mem_of_getElem? (i := 15) rfl)) (hts (.initialized RX2) (List.mem_of_getElem? (i := 16) rfl)) hK hP hD hS hA rfl dfX2 (Nat.le_of_ble_eq_true rfl) (Nat.le_of_ble_eq_true rfl) dX5_init_44 (fun q_9 H hP hD hS => ?_)
  have hP : va_P (dC, dI) vwCl [(x, .inr (10, [.ref q_1, .int 0, .ref q_3, .int 0, .ref q_5, .null, .int 0, .null, .int 0, .int 0, .null, .null, .null, .null])), (q_1, .inl (k_2, 24, .inr (.inr (.inr (.inr (fun _ => none)))))), (q_3, .inl (k_4, 6, .inr (.inr (.inr (.inr (fun _ => none)))))), (q_5, .inr (9, [.ref tb_7, .int 0])), (tb_7, .inl (kB_8, 250, .inl (fun _ => 0))), (q_9, .inr (7, [.int 0, .null, .null, .null, .null, .int 0, .null, .int 0]))] H := hP
  have hD : va_D A [(x, .inr (10, [.ref q_1, .int 0, .ref q_3, .int 0, .ref q_5, .null, .int 0, .null, .int 0, .int 0, .null, .null, .null, .null])), (q_1, .inl (k_2, 24, .inr (.inr (.inr (.inr (fun _ => none)))))), (q_3, .inl (k_4, 6, .inr (.inr (.inr (.inr (fun _ => none)))))), (q_5, .inr (9, [.ref tb_7, .int 0])), (tb_7, .inl (kB_8, 250, .inl (fun _ => 0))), (q_9, .inr (7, [.int 0, .null, .null, .null, .null, .int 0, .null, .int 0]))] := hD
  refine W.widen (k := 5) (n := 290) (Nat.le_of_ble_eq_true rfl) (Nat.le_of_ble_eq_true rfl) ?_
  refine lv_dup hx hb dX5_init_47 rfl ?_
  have hPc := hP.sub (ws' := [(q_9, .inr (7, [.int 0, .null, .null, .null, .null, .int 0, .null, .int 0]))]) [5] rfl
  have hDc := hD.sub (ws' := [(q_9, .inr (7, [.int 0, .null, .null, .null, .null, .int 0, .null, .int 0]))]) [5] (by decide) rfl
  have hKc := hK.sub (tys' := []) [] rfl
  have hFc := va_free (wc := [(q_9, .inr (7, [.int 0, .null, .null, .null, .null, .int 0, .null, .int 0]))]) hD hS hA [5] rfl
  refine va_callv (va_runIN (As := []) (rest := [.ref q_9, .ref x]) ⟨hx, hb, hml, hown, hts⟩ (c_X2_init l dC dI q_9 H.size) ⟨va_cnB 0 hts gX5_init_X2_init_n37 rfl rfl rfl (Ft.nm hF (RX5, 37, yX2_init, RX5) (by decide +kernel)) (hts (.initialized RX2) (List.mem_of_getElem? (i := 16) rfl)) (by decide +kernel) ⟨Nat.le_of_ble_eq_true rfl, Nat.le_of_ble_eq_true rfl⟩, rfl, (hts (.instanceMethod yX2_init) (List.mem_of_getElem? (i := 34) rfl))⟩ ⟨PQ_blind, PQ_pre hPc hKc hDc hF⟩ rfl rfl hl.1 rfl (lv_room (Nat.le_of_ble_eq_true rfl)) dX5_init_48 ⟨Nat.le_of_ble_eq_true rfl, Nat.le_of_ble_eq_true rfl⟩) hS (fun q _ h => hFc q h) hFc (fun u t H1 locs ht hvm hw hB hz1 hk1 hS => ?_)
  obtain ⟨le_11, mo_12, os_13, ps_14, br_15, kl_16, km_17, ko_18, kp_19, kb_20, fl_21, fm_22, hP1, hK1, hD1⟩ := hB
  rw [ht] at hP1
  have hK1 := va_K.moved hvm.symm hK1
  obtain ⟨hP, hD⟩ := va_join (wr := [(x, .inr (10, [.ref q_1, .int 0, .ref q_3, .int 0, .ref q_5, .null, .int 0, .null, .int 0, .int 0, .null, .null, .null, .null])), (q_1, .inl (k_2, 24, .inr (.inr (.inr (.inr (fun _ => none)))))), (q_3, .inl (k_4, 6, .inr (.inr (.inr (.inr (fun _ => none)))))), (q_5, .inr (9, [.ref tb_7, .int 0])), (tb_7, .inl (kB_8, 250, .inl (fun _ => 0)))]) (w1 := [(q_9, .inr (7, [.int 1, .ref le_11, .ref mo_12, .ref os_13, .ref ps_14, .int 0, .ref br_15, .int 0])), (le_11, .inl (kl_16, 8, .inl fl_21)), (mo_12, .inl (km_17, 8, .inl fm_22)), (os_13, .inl (ko_18, 6, .inl (fun _ => 0))), (ps_14, .inl (kp_19, 6, .inl (fun _ => 0))), (br_15, .inl (kb_20, 8, .inr (.inl (fun _ => 0))))]) hP hD [5] [0, 1, 2, 3, 4] rfl rfl (by decide) (by decide) hk1 hFc hP1 hD1
  have hK := hK.app hK1
  generalize H1 = H at hP hS ⊢
  have hP : va_P (dC, dI) vwCl [(x, .inr (10, [.ref q_1, .int 0, .ref q_3, .int 0, .ref q_5, .null, .int 0, .null, .int 0, .int 0, .null, .null, .null, .null])), (q_1, .inl (k_2, 24, .inr (.inr (.inr (.inr (fun _ => none)))))), (q_3, .inl (k_4, 6, .inr (.inr (.inr (.inr (fun _ => none)))))), (q_5, .inr (9, [.ref tb_7, .int 0])), (tb_7, .inl (kB_8, 250, .inl (fun _ => 0))), (q_9, .inr (7, [.int 1, .ref le_11, .ref mo_12, .ref os_13, .ref ps_14, .int 0, .ref br_15, .int 0])), (le_11, .inl (kl_16, 8, .inl fl_21)), (mo_12, .inl (km_17, 8, .inl fm_22)), (os_13, .inl (ko_18, 6, .inl (fun _ => 0))), (ps_14, .inl (kp_19, 6, .inl (fun _ => 0))), (br_15, .inl (kb_20, 8, .inr (.inl (fun _ => 0))))] H := hP
  have hD : va_D A [(x, .inr (10, [.ref q_1, .int 0, .ref q_3, .int 0, .ref q_5, .null, .int 0, .null, .int 0, .int 0, .null, .null, .null, .null])), (q_1, .inl (k_2, 24, .inr (.inr (.inr (.inr (fun _ => none)))))), (q_3, .inl (k_4, 6, .inr (.inr (.inr (.inr (fun _ => none)))))), (q_5, .inr (9, [.ref tb_7, .int 0])), (tb_7, .inl (kB_8, 250, .inl (fun _ => 0))), (q_9, .inr (7, [.int 1, .ref le_11, .ref mo_12, .ref os_13, .ref ps_14, .int 0, .ref br_15, .int 0])), (le_11, .inl (kl_16, 8, .inl fl_21)), (mo_12, .inl (km_17, 8, .inl fm_22)), (os_13, .inl (ko_18, 6, .inl (fun _ => 0))), (ps_14, .inl (kp_19, 6, .inl (fun _ => 0))), (br_15, .inl (kb_20, 8, .inr (.inl (fun _ => 0))))] := hD
  have hK : va_K (dC, dI) vwCl [(k_2, .object "ExamHalls$Candidate"), (k_4, .object "ExamHalls$Reader"), (kB_8, .byte), (kl_16, .int), (km_17, .int), (ko_18, .int), (kp_19, .int), (kb_20, .long)] s := hK
  refine W.widen (k := 10) (n := 326) (Nat.le_of_ble_eq_true rfl) (Nat.le_of_ble_eq_true rfl) ?_
  refine va_putF (D := (dC, dI)) (ci := 10) (v := .ref q_9) (ty := .object "ExamHalls$Form") (C := RX5) (T := TX5) (N := 14) hx hb hts (fun _ h9 => List.mem_cons_of_mem _ (List.mem_append_left _ (List.mem_append_left _ (List.mem_append_right _ (h9))))) tyX5 tyX5_ok nmX5 hown hK hP hD hS 0 rfl rfl 5 (by decide) (hts (.fieldLink RX5 38 "ExamHalls" "form" "LExamHalls$Form;") (List.mem_of_getElem? (i := 17) rfl)) (fun _ h9 => h9) rfl hin rfl (by decide +kernel) rfl rfl (Nat.le_of_ble_eq_true rfl) dX5_init_51 (fun H locs hP hD hS => ?_)
  have hP : va_P (dC, dI) vwCl [(x, .inr (10, [.ref q_1, .int 0, .ref q_3, .int 0, .ref q_5, .ref q_9, .int 0, .null, .int 0, .int 0, .null, .null, .null, .null])), (q_1, .inl (k_2, 24, .inr (.inr (.inr (.inr (fun _ => none)))))), (q_3, .inl (k_4, 6, .inr (.inr (.inr (.inr (fun _ => none)))))), (q_5, .inr (9, [.ref tb_7, .int 0])), (tb_7, .inl (kB_8, 250, .inl (fun _ => 0))), (q_9, .inr (7, [.int 1, .ref le_11, .ref mo_12, .ref os_13, .ref ps_14, .int 0, .ref br_15, .int 0])), (le_11, .inl (kl_16, 8, .inl fl_21)), (mo_12, .inl (km_17, 8, .inl fm_22)), (os_13, .inl (ko_18, 6, .inl (fun _ => 0))), (ps_14, .inl (kp_19, 6, .inl (fun _ => 0))), (br_15, .inl (kb_20, 8, .inr (.inl (fun _ => 0))))] H := hP
  have hD : va_D A [(x, .inr (10, [.ref q_1, .int 0, .ref q_3, .int 0, .ref q_5, .ref q_9, .int 0, .null, .int 0, .int 0, .null, .null, .null, .null])), (q_1, .inl (k_2, 24, .inr (.inr (.inr (.inr (fun _ => none)))))), (q_3, .inl (k_4, 6, .inr (.inr (.inr (.inr (fun _ => none)))))), (q_5, .inr (9, [.ref tb_7, .int 0])), (tb_7, .inl (kB_8, 250, .inl (fun _ => 0))), (q_9, .inr (7, [.int 1, .ref le_11, .ref mo_12, .ref os_13, .ref ps_14, .int 0, .ref br_15, .int 0])), (le_11, .inl (kl_16, 8, .inl fl_21)), (mo_12, .inl (km_17, 8, .inl fm_22)), (os_13, .inl (ko_18, 6, .inl (fun _ => 0))), (ps_14, .inl (kp_19, 6, .inl (fun _ => 0))), (br_15, .inl (kb_20, 8, .inr (.inl (fun _ => 0))))] := hD
  refine lv_aload_n hx hb dX5_init_54 rfl (lv_at hl 0 rfl) ?_
  refine lv_bipush (v := 10) hx hb dX5_init_55 (by decide) ?_
  refine va_put (D := (dC, dI)) (ci := 10) (v := .int 10) (ty := .int) (C := RX5) (T := TX5) (N := 14) hx hb hts (fun _ h9 => List.mem_cons_of_mem _ (List.mem_append_left _ (List.mem_append_left _ (List.mem_append_right _ (h9))))) tyX5 tyX5_ok nmX5 hown hK hP hD hS 0 rfl rfl 6 (by decide) (hts (.fieldLink RX5 42 "ExamHalls" "apart" "I") (List.mem_of_getElem? (i := 18) rfl)) (fun _ h9 => h9) rfl (by decide +kernel) rfl rfl (Nat.le_of_ble_eq_true rfl) dX5_init_57 (fun H locs hP hD hS => ?_)
  have hP : va_P (dC, dI) vwCl [(x, .inr (10, [.ref q_1, .int 0, .ref q_3, .int 0, .ref q_5, .ref q_9, .int 10, .null, .int 0, .int 0, .null, .null, .null, .null])), (q_1, .inl (k_2, 24, .inr (.inr (.inr (.inr (fun _ => none)))))), (q_3, .inl (k_4, 6, .inr (.inr (.inr (.inr (fun _ => none)))))), (q_5, .inr (9, [.ref tb_7, .int 0])), (tb_7, .inl (kB_8, 250, .inl (fun _ => 0))), (q_9, .inr (7, [.int 1, .ref le_11, .ref mo_12, .ref os_13, .ref ps_14, .int 0, .ref br_15, .int 0])), (le_11, .inl (kl_16, 8, .inl fl_21)), (mo_12, .inl (km_17, 8, .inl fm_22)), (os_13, .inl (ko_18, 6, .inl (fun _ => 0))), (ps_14, .inl (kp_19, 6, .inl (fun _ => 0))), (br_15, .inl (kb_20, 8, .inr (.inl (fun _ => 0))))] H := hP
  have hD : va_D A [(x, .inr (10, [.ref q_1, .int 0, .ref q_3, .int 0, .ref q_5, .ref q_9, .int 10, .null, .int 0, .int 0, .null, .null, .null, .null])), (q_1, .inl (k_2, 24, .inr (.inr (.inr (.inr (fun _ => none)))))), (q_3, .inl (k_4, 6, .inr (.inr (.inr (.inr (fun _ => none)))))), (q_5, .inr (9, [.ref tb_7, .int 0])), (tb_7, .inl (kB_8, 250, .inl (fun _ => 0))), (q_9, .inr (7, [.int 1, .ref le_11, .ref mo_12, .ref os_13, .ref ps_14, .int 0, .ref br_15, .int 0])), (le_11, .inl (kl_16, 8, .inl fl_21)), (mo_12, .inl (km_17, 8, .inl fm_22)), (os_13, .inl (ko_18, 6, .inl (fun _ => 0))), (ps_14, .inl (kp_19, 6, .inl (fun _ => 0))), (br_15, .inl (kb_20, 8, .inr (.inl (fun _ => 0))))] := hD
  refine lv_aload_n hx hb dX5_init_60 rfl (lv_at hl 0 rfl) ?_
  refine lv_iconst (v := 4) hx hb dX5_init_61 (by decide) ?_
  refine va_newa (atype := .int) (ty := .int) (a0 := (4, (.inl (fun _ => 0)))) hx hb (hts (.arrayClass .int) (List.mem_of_getElem? (i := 19) rfl)) rfl hK hP hD hS hA (fun _ => rfl) (by decide) (by decide) (Nat.le_of_ble_eq_true rfl) (Nat.le_of_ble_eq_true rfl) (Nat.le_of_ble_eq_true rfl) dX5_init_62 (fun q_23 k_24 H hK hP hD hS => ?_)
  have hP : va_P (dC, dI) vwCl [(x, .inr (10, [.ref q_1, .int 0, .ref q_3, .int 0, .ref q_5, .ref q_9, .int 10, .null, .int 0, .int 0, .null, .null, .null, .null])), (q_1, .inl (k_2, 24, .inr (.inr (.inr (.inr (fun _ => none)))))), (q_3, .inl (k_4, 6, .inr (.inr (.inr (.inr (fun _ => none)))))), (q_5, .inr (9, [.ref tb_7, .int 0])), (tb_7, .inl (kB_8, 250, .inl (fun _ => 0))), (q_9, .inr (7, [.int 1, .ref le_11, .ref mo_12, .ref os_13, .ref ps_14, .int 0, .ref br_15, .int 0])), (le_11, .inl (kl_16, 8, .inl fl_21)), (mo_12, .inl (km_17, 8, .inl fm_22)), (os_13, .inl (ko_18, 6, .inl (fun _ => 0))), (ps_14, .inl (kp_19, 6, .inl (fun _ => 0))), (br_15, .inl (kb_20, 8, .inr (.inl (fun _ => 0)))), (q_23, .inl (k_24, 4, .inl (fun _ => 0)))] H := hP
  have hD : va_D A [(x, .inr (10, [.ref q_1, .int 0, .ref q_3, .int 0, .ref q_5, .ref q_9, .int 10, .null, .int 0, .int 0, .null, .null, .null, .null])), (q_1, .inl (k_2, 24, .inr (.inr (.inr (.inr (fun _ => none)))))), (q_3, .inl (k_4, 6, .inr (.inr (.inr (.inr (fun _ => none)))))), (q_5, .inr (9, [.ref tb_7, .int 0])), (tb_7, .inl (kB_8, 250, .inl (fun _ => 0))), (q_9, .inr (7, [.int 1, .ref le_11, .ref mo_12, .ref os_13, .ref ps_14, .int 0, .ref br_15, .int 0])), (le_11, .inl (kl_16, 8, .inl fl_21)), (mo_12, .inl (km_17, 8, .inl fm_22)), (os_13, .inl (ko_18, 6, .inl (fun _ => 0))), (ps_14, .inl (kp_19, 6, .inl (fun _ => 0))), (br_15, .inl (kb_20, 8, .inr (.inl (fun _ => 0)))), (q_23, .inl (k_24, 4, .inl (fun _ => 0)))] := hD
  have hK : va_K (dC, dI) vwCl [(k_2, .object "ExamHalls$Candidate"), (k_4, .object "ExamHalls$Reader"), (kB_8, .byte), (kl_16, .int), (km_17, .int), (ko_18, .int), (kp_19, .int), (kb_20, .long), (k_24, .int)] s := hK
  refine W.widen (k := 11) (n := 330) (Nat.le_of_ble_eq_true rfl) (Nat.le_of_ble_eq_true rfl) ?_
  refine va_putF (D := (dC, dI)) (ci := 10) (v := .ref q_23) (ty := .array .int) (C := RX5) (T := TX5) (N := 14) hx hb hts (fun _ h9 => List.mem_cons_of_mem _ (List.mem_append_left _ (List.mem_append_left _ (List.mem_append_right _ (h9))))) tyX5 tyX5_ok nmX5 hown hK hP hD hS 0 rfl rfl 7 (by decide) (hts (.fieldLink RX5 45 "ExamHalls" "quotas" "[I") (List.mem_of_getElem? (i := 20) rfl)) (fun _ h9 => h9) rfl hin rfl (by decide +kernel) rfl rfl (Nat.le_of_ble_eq_true rfl) dX5_init_64 (fun H locs hP hD hS => ?_)
  have hP : va_P (dC, dI) vwCl [(x, .inr (10, [.ref q_1, .int 0, .ref q_3, .int 0, .ref q_5, .ref q_9, .int 10, .ref q_23, .int 0, .int 0, .null, .null, .null, .null])), (q_1, .inl (k_2, 24, .inr (.inr (.inr (.inr (fun _ => none)))))), (q_3, .inl (k_4, 6, .inr (.inr (.inr (.inr (fun _ => none)))))), (q_5, .inr (9, [.ref tb_7, .int 0])), (tb_7, .inl (kB_8, 250, .inl (fun _ => 0))), (q_9, .inr (7, [.int 1, .ref le_11, .ref mo_12, .ref os_13, .ref ps_14, .int 0, .ref br_15, .int 0])), (le_11, .inl (kl_16, 8, .inl fl_21)), (mo_12, .inl (km_17, 8, .inl fm_22)), (os_13, .inl (ko_18, 6, .inl (fun _ => 0))), (ps_14, .inl (kp_19, 6, .inl (fun _ => 0))), (br_15, .inl (kb_20, 8, .inr (.inl (fun _ => 0)))), (q_23, .inl (k_24, 4, .inl (fun _ => 0)))] H := hP
  have hD : va_D A [(x, .inr (10, [.ref q_1, .int 0, .ref q_3, .int 0, .ref q_5, .ref q_9, .int 10, .ref q_23, .int 0, .int 0, .null, .null, .null, .null])), (q_1, .inl (k_2, 24, .inr (.inr (.inr (.inr (fun _ => none)))))), (q_3, .inl (k_4, 6, .inr (.inr (.inr (.inr (fun _ => none)))))), (q_5, .inr (9, [.ref tb_7, .int 0])), (tb_7, .inl (kB_8, 250, .inl (fun _ => 0))), (q_9, .inr (7, [.int 1, .ref le_11, .ref mo_12, .ref os_13, .ref ps_14, .int 0, .ref br_15, .int 0])), (le_11, .inl (kl_16, 8, .inl fl_21)), (mo_12, .inl (km_17, 8, .inl fm_22)), (os_13, .inl (ko_18, 6, .inl (fun _ => 0))), (ps_14, .inl (kp_19, 6, .inl (fun _ => 0))), (br_15, .inl (kb_20, 8, .inr (.inl (fun _ => 0)))), (q_23, .inl (k_24, 4, .inl (fun _ => 0)))] := hD
  refine lv_aload_n hx hb dX5_init_67 rfl (lv_at hl 0 rfl) ?_
  refine lv_iconst (v := 0) hx hb dX5_init_68 (by decide) ?_
  refine va_put (D := (dC, dI)) (ci := 10) (v := .int 0) (ty := .int) (C := RX5) (T := TX5) (N := 14) hx hb hts (fun _ h9 => List.mem_cons_of_mem _ (List.mem_append_left _ (List.mem_append_left _ (List.mem_append_right _ (h9))))) tyX5 tyX5_ok nmX5 hown hK hP hD hS 0 rfl rfl 8 (by decide) (hts (.fieldLink RX5 49 "ExamHalls" "ties" "I") (List.mem_of_getElem? (i := 21) rfl)) (fun _ h9 => h9) rfl (by decide +kernel) rfl rfl (Nat.le_of_ble_eq_true rfl) dX5_init_69 (fun H locs hP hD hS => ?_)
  have hP : va_P (dC, dI) vwCl [(x, .inr (10, [.ref q_1, .int 0, .ref q_3, .int 0, .ref q_5, .ref q_9, .int 10, .ref q_23, .int 0, .int 0, .null, .null, .null, .null])), (q_1, .inl (k_2, 24, .inr (.inr (.inr (.inr (fun _ => none)))))), (q_3, .inl (k_4, 6, .inr (.inr (.inr (.inr (fun _ => none)))))), (q_5, .inr (9, [.ref tb_7, .int 0])), (tb_7, .inl (kB_8, 250, .inl (fun _ => 0))), (q_9, .inr (7, [.int 1, .ref le_11, .ref mo_12, .ref os_13, .ref ps_14, .int 0, .ref br_15, .int 0])), (le_11, .inl (kl_16, 8, .inl fl_21)), (mo_12, .inl (km_17, 8, .inl fm_22)), (os_13, .inl (ko_18, 6, .inl (fun _ => 0))), (ps_14, .inl (kp_19, 6, .inl (fun _ => 0))), (br_15, .inl (kb_20, 8, .inr (.inl (fun _ => 0)))), (q_23, .inl (k_24, 4, .inl (fun _ => 0)))] H := hP
  have hD : va_D A [(x, .inr (10, [.ref q_1, .int 0, .ref q_3, .int 0, .ref q_5, .ref q_9, .int 10, .ref q_23, .int 0, .int 0, .null, .null, .null, .null])), (q_1, .inl (k_2, 24, .inr (.inr (.inr (.inr (fun _ => none)))))), (q_3, .inl (k_4, 6, .inr (.inr (.inr (.inr (fun _ => none)))))), (q_5, .inr (9, [.ref tb_7, .int 0])), (tb_7, .inl (kB_8, 250, .inl (fun _ => 0))), (q_9, .inr (7, [.int 1, .ref le_11, .ref mo_12, .ref os_13, .ref ps_14, .int 0, .ref br_15, .int 0])), (le_11, .inl (kl_16, 8, .inl fl_21)), (mo_12, .inl (km_17, 8, .inl fm_22)), (os_13, .inl (ko_18, 6, .inl (fun _ => 0))), (ps_14, .inl (kp_19, 6, .inl (fun _ => 0))), (br_15, .inl (kb_20, 8, .inr (.inl (fun _ => 0)))), (q_23, .inl (k_24, 4, .inl (fun _ => 0)))] := hD
  refine lv_aload_n hx hb dX5_init_72 rfl (lv_at hl 0 rfl) ?_
  refine lv_iconst (v := 0) hx hb dX5_init_73 (by decide) ?_
  refine va_put (D := (dC, dI)) (ci := 10) (v := .int 0) (ty := .int) (C := RX5) (T := TX5) (N := 14) hx hb hts (fun _ h9 => List.mem_cons_of_mem _ (List.mem_append_left _ (List.mem_append_left _ (List.mem_append_right _ (h9))))) tyX5 tyX5_ok nmX5 hown hK hP hD hS 0 rfl rfl 9 (by decide) (hts (.fieldLink RX5 52 "ExamHalls" "way" "I") (List.mem_of_getElem? (i := 22) rfl)) (fun _ h9 => h9) rfl (by decide +kernel) rfl rfl (Nat.le_of_ble_eq_true rfl) dX5_init_74 (fun H locs hP hD hS => ?_)
  have hP : va_P (dC, dI) vwCl [(x, .inr (10, [.ref q_1, .int 0, .ref q_3, .int 0, .ref q_5, .ref q_9, .int 10, .ref q_23, .int 0, .int 0, .null, .null, .null, .null])), (q_1, .inl (k_2, 24, .inr (.inr (.inr (.inr (fun _ => none)))))), (q_3, .inl (k_4, 6, .inr (.inr (.inr (.inr (fun _ => none)))))), (q_5, .inr (9, [.ref tb_7, .int 0])), (tb_7, .inl (kB_8, 250, .inl (fun _ => 0))), (q_9, .inr (7, [.int 1, .ref le_11, .ref mo_12, .ref os_13, .ref ps_14, .int 0, .ref br_15, .int 0])), (le_11, .inl (kl_16, 8, .inl fl_21)), (mo_12, .inl (km_17, 8, .inl fm_22)), (os_13, .inl (ko_18, 6, .inl (fun _ => 0))), (ps_14, .inl (kp_19, 6, .inl (fun _ => 0))), (br_15, .inl (kb_20, 8, .inr (.inl (fun _ => 0)))), (q_23, .inl (k_24, 4, .inl (fun _ => 0)))] H := hP
  have hD : va_D A [(x, .inr (10, [.ref q_1, .int 0, .ref q_3, .int 0, .ref q_5, .ref q_9, .int 10, .ref q_23, .int 0, .int 0, .null, .null, .null, .null])), (q_1, .inl (k_2, 24, .inr (.inr (.inr (.inr (fun _ => none)))))), (q_3, .inl (k_4, 6, .inr (.inr (.inr (.inr (fun _ => none)))))), (q_5, .inr (9, [.ref tb_7, .int 0])), (tb_7, .inl (kB_8, 250, .inl (fun _ => 0))), (q_9, .inr (7, [.int 1, .ref le_11, .ref mo_12, .ref os_13, .ref ps_14, .int 0, .ref br_15, .int 0])), (le_11, .inl (kl_16, 8, .inl fl_21)), (mo_12, .inl (km_17, 8, .inl fm_22)), (os_13, .inl (ko_18, 6, .inl (fun _ => 0))), (ps_14, .inl (kp_19, 6, .inl (fun _ => 0))), (br_15, .inl (kb_20, 8, .inr (.inl (fun _ => 0)))), (q_23, .inl (k_24, 4, .inl (fun _ => 0)))] := hD
  refine lv_aload_n hx hb dX5_init_77 rfl (lv_at hl 0 rfl) ?_
  refine lv_bipush (v := 6) hx hb dX5_init_78 (by decide) ?_
  refine va_newa (atype := .int) (ty := .int) (a0 := (6, (.inl (fun _ => 0)))) hx hb (hts (.arrayClass .int) (List.mem_of_getElem? (i := 19) rfl)) rfl hK hP hD hS hA (fun _ => rfl) (by decide) (by decide) (Nat.le_of_ble_eq_true rfl) (Nat.le_of_ble_eq_true rfl) (Nat.le_of_ble_eq_true rfl) dX5_init_80 (fun q_25 k_26 H hK hP hD hS => ?_)
  have hP : va_P (dC, dI) vwCl [(x, .inr (10, [.ref q_1, .int 0, .ref q_3, .int 0, .ref q_5, .ref q_9, .int 10, .ref q_23, .int 0, .int 0, .null, .null, .null, .null])), (q_1, .inl (k_2, 24, .inr (.inr (.inr (.inr (fun _ => none)))))), (q_3, .inl (k_4, 6, .inr (.inr (.inr (.inr (fun _ => none)))))), (q_5, .inr (9, [.ref tb_7, .int 0])), (tb_7, .inl (kB_8, 250, .inl (fun _ => 0))), (q_9, .inr (7, [.int 1, .ref le_11, .ref mo_12, .ref os_13, .ref ps_14, .int 0, .ref br_15, .int 0])), (le_11, .inl (kl_16, 8, .inl fl_21)), (mo_12, .inl (km_17, 8, .inl fm_22)), (os_13, .inl (ko_18, 6, .inl (fun _ => 0))), (ps_14, .inl (kp_19, 6, .inl (fun _ => 0))), (br_15, .inl (kb_20, 8, .inr (.inl (fun _ => 0)))), (q_23, .inl (k_24, 4, .inl (fun _ => 0))), (q_25, .inl (k_26, 6, .inl (fun _ => 0)))] H := hP
  have hD : va_D A [(x, .inr (10, [.ref q_1, .int 0, .ref q_3, .int 0, .ref q_5, .ref q_9, .int 10, .ref q_23, .int 0, .int 0, .null, .null, .null, .null])), (q_1, .inl (k_2, 24, .inr (.inr (.inr (.inr (fun _ => none)))))), (q_3, .inl (k_4, 6, .inr (.inr (.inr (.inr (fun _ => none)))))), (q_5, .inr (9, [.ref tb_7, .int 0])), (tb_7, .inl (kB_8, 250, .inl (fun _ => 0))), (q_9, .inr (7, [.int 1, .ref le_11, .ref mo_12, .ref os_13, .ref ps_14, .int 0, .ref br_15, .int 0])), (le_11, .inl (kl_16, 8, .inl fl_21)), (mo_12, .inl (km_17, 8, .inl fm_22)), (os_13, .inl (ko_18, 6, .inl (fun _ => 0))), (ps_14, .inl (kp_19, 6, .inl (fun _ => 0))), (br_15, .inl (kb_20, 8, .inr (.inl (fun _ => 0)))), (q_23, .inl (k_24, 4, .inl (fun _ => 0))), (q_25, .inl (k_26, 6, .inl (fun _ => 0)))] := hD
  have hK : va_K (dC, dI) vwCl [(k_2, .object "ExamHalls$Candidate"), (k_4, .object "ExamHalls$Reader"), (kB_8, .byte), (kl_16, .int), (km_17, .int), (ko_18, .int), (kp_19, .int), (kb_20, .long), (k_24, .int), (k_26, .int)] s := hK
  refine W.widen (k := 12) (n := 336) (Nat.le_of_ble_eq_true rfl) (Nat.le_of_ble_eq_true rfl) ?_
  refine va_putF (D := (dC, dI)) (ci := 10) (v := .ref q_25) (ty := .array .int) (C := RX5) (T := TX5) (N := 14) hx hb hts (fun _ h9 => List.mem_cons_of_mem _ (List.mem_append_left _ (List.mem_append_left _ (List.mem_append_right _ (h9))))) tyX5 tyX5_ok nmX5 hown hK hP hD hS 0 rfl rfl 10 (by decide) (hts (.fieldLink RX5 55 "ExamHalls" "shifts" "[I") (List.mem_of_getElem? (i := 23) rfl)) (fun _ h9 => h9) rfl hin rfl (by decide +kernel) rfl rfl (Nat.le_of_ble_eq_true rfl) dX5_init_82 (fun H locs hP hD hS => ?_)
  have hP : va_P (dC, dI) vwCl [(x, .inr (10, [.ref q_1, .int 0, .ref q_3, .int 0, .ref q_5, .ref q_9, .int 10, .ref q_23, .int 0, .int 0, .ref q_25, .null, .null, .null])), (q_1, .inl (k_2, 24, .inr (.inr (.inr (.inr (fun _ => none)))))), (q_3, .inl (k_4, 6, .inr (.inr (.inr (.inr (fun _ => none)))))), (q_5, .inr (9, [.ref tb_7, .int 0])), (tb_7, .inl (kB_8, 250, .inl (fun _ => 0))), (q_9, .inr (7, [.int 1, .ref le_11, .ref mo_12, .ref os_13, .ref ps_14, .int 0, .ref br_15, .int 0])), (le_11, .inl (kl_16, 8, .inl fl_21)), (mo_12, .inl (km_17, 8, .inl fm_22)), (os_13, .inl (ko_18, 6, .inl (fun _ => 0))), (ps_14, .inl (kp_19, 6, .inl (fun _ => 0))), (br_15, .inl (kb_20, 8, .inr (.inl (fun _ => 0)))), (q_23, .inl (k_24, 4, .inl (fun _ => 0))), (q_25, .inl (k_26, 6, .inl (fun _ => 0)))] H := hP
  have hD : va_D A [(x, .inr (10, [.ref q_1, .int 0, .ref q_3, .int 0, .ref q_5, .ref q_9, .int 10, .ref q_23, .int 0, .int 0, .ref q_25, .null, .null, .null])), (q_1, .inl (k_2, 24, .inr (.inr (.inr (.inr (fun _ => none)))))), (q_3, .inl (k_4, 6, .inr (.inr (.inr (.inr (fun _ => none)))))), (q_5, .inr (9, [.ref tb_7, .int 0])), (tb_7, .inl (kB_8, 250, .inl (fun _ => 0))), (q_9, .inr (7, [.int 1, .ref le_11, .ref mo_12, .ref os_13, .ref ps_14, .int 0, .ref br_15, .int 0])), (le_11, .inl (kl_16, 8, .inl fl_21)), (mo_12, .inl (km_17, 8, .inl fm_22)), (os_13, .inl (ko_18, 6, .inl (fun _ => 0))), (ps_14, .inl (kp_19, 6, .inl (fun _ => 0))), (br_15, .inl (kb_20, 8, .inr (.inl (fun _ => 0)))), (q_23, .inl (k_24, 4, .inl (fun _ => 0))), (q_25, .inl (k_26, 6, .inl (fun _ => 0)))] := hD
  refine lv_aload_n hx hb dX5_init_85 rfl (lv_at hl 0 rfl) ?_
  refine lv_bipush (v := 24) hx hb dX5_init_86 (by decide) ?_
  refine va_newa (atype := .int) (ty := .int) (a0 := (24, (.inl (fun _ => 0)))) hx hb (hts (.arrayClass .int) (List.mem_of_getElem? (i := 19) rfl)) rfl hK hP hD hS hA (fun _ => rfl) (by decide) (by decide) (Nat.le_of_ble_eq_true rfl) (Nat.le_of_ble_eq_true rfl) (Nat.le_of_ble_eq_true rfl) dX5_init_88 (fun q_27 k_28 H hK hP hD hS => ?_)
  have hP : va_P (dC, dI) vwCl [(x, .inr (10, [.ref q_1, .int 0, .ref q_3, .int 0, .ref q_5, .ref q_9, .int 10, .ref q_23, .int 0, .int 0, .ref q_25, .null, .null, .null])), (q_1, .inl (k_2, 24, .inr (.inr (.inr (.inr (fun _ => none)))))), (q_3, .inl (k_4, 6, .inr (.inr (.inr (.inr (fun _ => none)))))), (q_5, .inr (9, [.ref tb_7, .int 0])), (tb_7, .inl (kB_8, 250, .inl (fun _ => 0))), (q_9, .inr (7, [.int 1, .ref le_11, .ref mo_12, .ref os_13, .ref ps_14, .int 0, .ref br_15, .int 0])), (le_11, .inl (kl_16, 8, .inl fl_21)), (mo_12, .inl (km_17, 8, .inl fm_22)), (os_13, .inl (ko_18, 6, .inl (fun _ => 0))), (ps_14, .inl (kp_19, 6, .inl (fun _ => 0))), (br_15, .inl (kb_20, 8, .inr (.inl (fun _ => 0)))), (q_23, .inl (k_24, 4, .inl (fun _ => 0))), (q_25, .inl (k_26, 6, .inl (fun _ => 0))), (q_27, .inl (k_28, 24, .inl (fun _ => 0)))] H := hP
  have hD : va_D A [(x, .inr (10, [.ref q_1, .int 0, .ref q_3, .int 0, .ref q_5, .ref q_9, .int 10, .ref q_23, .int 0, .int 0, .ref q_25, .null, .null, .null])), (q_1, .inl (k_2, 24, .inr (.inr (.inr (.inr (fun _ => none)))))), (q_3, .inl (k_4, 6, .inr (.inr (.inr (.inr (fun _ => none)))))), (q_5, .inr (9, [.ref tb_7, .int 0])), (tb_7, .inl (kB_8, 250, .inl (fun _ => 0))), (q_9, .inr (7, [.int 1, .ref le_11, .ref mo_12, .ref os_13, .ref ps_14, .int 0, .ref br_15, .int 0])), (le_11, .inl (kl_16, 8, .inl fl_21)), (mo_12, .inl (km_17, 8, .inl fm_22)), (os_13, .inl (ko_18, 6, .inl (fun _ => 0))), (ps_14, .inl (kp_19, 6, .inl (fun _ => 0))), (br_15, .inl (kb_20, 8, .inr (.inl (fun _ => 0)))), (q_23, .inl (k_24, 4, .inl (fun _ => 0))), (q_25, .inl (k_26, 6, .inl (fun _ => 0))), (q_27, .inl (k_28, 24, .inl (fun _ => 0)))] := hD
  have hK : va_K (dC, dI) vwCl [(k_2, .object "ExamHalls$Candidate"), (k_4, .object "ExamHalls$Reader"), (kB_8, .byte), (kl_16, .int), (km_17, .int), (ko_18, .int), (kp_19, .int), (kb_20, .long), (k_24, .int), (k_26, .int), (k_28, .int)] s := hK
  refine W.widen (k := 13) (n := 360) (Nat.le_of_ble_eq_true rfl) (Nat.le_of_ble_eq_true rfl) ?_
  refine va_putF (D := (dC, dI)) (ci := 10) (v := .ref q_27) (ty := .array .int) (C := RX5) (T := TX5) (N := 14) hx hb hts (fun _ h9 => List.mem_cons_of_mem _ (List.mem_append_left _ (List.mem_append_left _ (List.mem_append_right _ (h9))))) tyX5 tyX5_ok nmX5 hown hK hP hD hS 0 rfl rfl 11 (by decide) (hts (.fieldLink RX5 58 "ExamHalls" "values" "[I") (List.mem_of_getElem? (i := 24) rfl)) (fun _ h9 => h9) rfl hin rfl (by decide +kernel) rfl rfl (Nat.le_of_ble_eq_true rfl) dX5_init_90 (fun H locs hP hD hS => ?_)
  have hP : va_P (dC, dI) vwCl [(x, .inr (10, [.ref q_1, .int 0, .ref q_3, .int 0, .ref q_5, .ref q_9, .int 10, .ref q_23, .int 0, .int 0, .ref q_25, .ref q_27, .null, .null])), (q_1, .inl (k_2, 24, .inr (.inr (.inr (.inr (fun _ => none)))))), (q_3, .inl (k_4, 6, .inr (.inr (.inr (.inr (fun _ => none)))))), (q_5, .inr (9, [.ref tb_7, .int 0])), (tb_7, .inl (kB_8, 250, .inl (fun _ => 0))), (q_9, .inr (7, [.int 1, .ref le_11, .ref mo_12, .ref os_13, .ref ps_14, .int 0, .ref br_15, .int 0])), (le_11, .inl (kl_16, 8, .inl fl_21)), (mo_12, .inl (km_17, 8, .inl fm_22)), (os_13, .inl (ko_18, 6, .inl (fun _ => 0))), (ps_14, .inl (kp_19, 6, .inl (fun _ => 0))), (br_15, .inl (kb_20, 8, .inr (.inl (fun _ => 0)))), (q_23, .inl (k_24, 4, .inl (fun _ => 0))), (q_25, .inl (k_26, 6, .inl (fun _ => 0))), (q_27, .inl (k_28, 24, .inl (fun _ => 0)))] H := hP
  have hD : va_D A [(x, .inr (10, [.ref q_1, .int 0, .ref q_3, .int 0, .ref q_5, .ref q_9, .int 10, .ref q_23, .int 0, .int 0, .ref q_25, .ref q_27, .null, .null])), (q_1, .inl (k_2, 24, .inr (.inr (.inr (.inr (fun _ => none)))))), (q_3, .inl (k_4, 6, .inr (.inr (.inr (.inr (fun _ => none)))))), (q_5, .inr (9, [.ref tb_7, .int 0])), (tb_7, .inl (kB_8, 250, .inl (fun _ => 0))), (q_9, .inr (7, [.int 1, .ref le_11, .ref mo_12, .ref os_13, .ref ps_14, .int 0, .ref br_15, .int 0])), (le_11, .inl (kl_16, 8, .inl fl_21)), (mo_12, .inl (km_17, 8, .inl fm_22)), (os_13, .inl (ko_18, 6, .inl (fun _ => 0))), (ps_14, .inl (kp_19, 6, .inl (fun _ => 0))), (br_15, .inl (kb_20, 8, .inr (.inl (fun _ => 0)))), (q_23, .inl (k_24, 4, .inl (fun _ => 0))), (q_25, .inl (k_26, 6, .inl (fun _ => 0))), (q_27, .inl (k_28, 24, .inl (fun _ => 0)))] := hD
  refine lv_aload_n hx hb dX5_init_93 rfl (lv_at hl 0 rfl) ?_
  refine lv_bipush (v := 24) hx hb dX5_init_94 (by decide) ?_
  refine va_newa (atype := .boolean) (ty := .boolean) (a0 := (24, (.inl (fun _ => 0)))) hx hb (hts (.arrayClass .boolean) (List.mem_of_getElem? (i := 25) rfl)) rfl hK hP hD hS hA (fun _ => rfl) (by decide) (by decide) (Nat.le_of_ble_eq_true rfl) (Nat.le_of_ble_eq_true rfl) (Nat.le_of_ble_eq_true rfl) dX5_init_96 (fun q_29 k_30 H hK hP hD hS => ?_)
  have hP : va_P (dC, dI) vwCl [(x, .inr (10, [.ref q_1, .int 0, .ref q_3, .int 0, .ref q_5, .ref q_9, .int 10, .ref q_23, .int 0, .int 0, .ref q_25, .ref q_27, .null, .null])), (q_1, .inl (k_2, 24, .inr (.inr (.inr (.inr (fun _ => none)))))), (q_3, .inl (k_4, 6, .inr (.inr (.inr (.inr (fun _ => none)))))), (q_5, .inr (9, [.ref tb_7, .int 0])), (tb_7, .inl (kB_8, 250, .inl (fun _ => 0))), (q_9, .inr (7, [.int 1, .ref le_11, .ref mo_12, .ref os_13, .ref ps_14, .int 0, .ref br_15, .int 0])), (le_11, .inl (kl_16, 8, .inl fl_21)), (mo_12, .inl (km_17, 8, .inl fm_22)), (os_13, .inl (ko_18, 6, .inl (fun _ => 0))), (ps_14, .inl (kp_19, 6, .inl (fun _ => 0))), (br_15, .inl (kb_20, 8, .inr (.inl (fun _ => 0)))), (q_23, .inl (k_24, 4, .inl (fun _ => 0))), (q_25, .inl (k_26, 6, .inl (fun _ => 0))), (q_27, .inl (k_28, 24, .inl (fun _ => 0))), (q_29, .inl (k_30, 24, .inl (fun _ => 0)))] H := hP
  have hD : va_D A [(x, .inr (10, [.ref q_1, .int 0, .ref q_3, .int 0, .ref q_5, .ref q_9, .int 10, .ref q_23, .int 0, .int 0, .ref q_25, .ref q_27, .null, .null])), (q_1, .inl (k_2, 24, .inr (.inr (.inr (.inr (fun _ => none)))))), (q_3, .inl (k_4, 6, .inr (.inr (.inr (.inr (fun _ => none)))))), (q_5, .inr (9, [.ref tb_7, .int 0])), (tb_7, .inl (kB_8, 250, .inl (fun _ => 0))), (q_9, .inr (7, [.int 1, .ref le_11, .ref mo_12, .ref os_13, .ref ps_14, .int 0, .ref br_15, .int 0])), (le_11, .inl (kl_16, 8, .inl fl_21)), (mo_12, .inl (km_17, 8, .inl fm_22)), (os_13, .inl (ko_18, 6, .inl (fun _ => 0))), (ps_14, .inl (kp_19, 6, .inl (fun _ => 0))), (br_15, .inl (kb_20, 8, .inr (.inl (fun _ => 0)))), (q_23, .inl (k_24, 4, .inl (fun _ => 0))), (q_25, .inl (k_26, 6, .inl (fun _ => 0))), (q_27, .inl (k_28, 24, .inl (fun _ => 0))), (q_29, .inl (k_30, 24, .inl (fun _ => 0)))] := hD
  have hK : va_K (dC, dI) vwCl [(k_2, .object "ExamHalls$Candidate"), (k_4, .object "ExamHalls$Reader"), (kB_8, .byte), (kl_16, .int), (km_17, .int), (ko_18, .int), (kp_19, .int), (kb_20, .long), (k_24, .int), (k_26, .int), (k_28, .int), (k_30, .boolean)] s := hK
  refine W.widen (k := 14) (n := 384) (Nat.le_of_ble_eq_true rfl) (Nat.le_of_ble_eq_true rfl) ?_
  refine va_putF (D := (dC, dI)) (ci := 10) (v := .ref q_29) (ty := .array .boolean) (C := RX5) (T := TX5) (N := 14) hx hb hts (fun _ h9 => List.mem_cons_of_mem _ (List.mem_append_left _ (List.mem_append_left _ (List.mem_append_right _ (h9))))) tyX5 tyX5_ok nmX5 hown hK hP hD hS 0 rfl rfl 12 (by decide) (hts (.fieldLink RX5 61 "ExamHalls" "passing" "[Z") (List.mem_of_getElem? (i := 26) rfl)) (fun _ h9 => h9) rfl hin rfl (by decide +kernel) rfl rfl (Nat.le_of_ble_eq_true rfl) dX5_init_98 (fun H locs hP hD hS => ?_)
  have hP : va_P (dC, dI) vwCl [(x, .inr (10, [.ref q_1, .int 0, .ref q_3, .int 0, .ref q_5, .ref q_9, .int 10, .ref q_23, .int 0, .int 0, .ref q_25, .ref q_27, .ref q_29, .null])), (q_1, .inl (k_2, 24, .inr (.inr (.inr (.inr (fun _ => none)))))), (q_3, .inl (k_4, 6, .inr (.inr (.inr (.inr (fun _ => none)))))), (q_5, .inr (9, [.ref tb_7, .int 0])), (tb_7, .inl (kB_8, 250, .inl (fun _ => 0))), (q_9, .inr (7, [.int 1, .ref le_11, .ref mo_12, .ref os_13, .ref ps_14, .int 0, .ref br_15, .int 0])), (le_11, .inl (kl_16, 8, .inl fl_21)), (mo_12, .inl (km_17, 8, .inl fm_22)), (os_13, .inl (ko_18, 6, .inl (fun _ => 0))), (ps_14, .inl (kp_19, 6, .inl (fun _ => 0))), (br_15, .inl (kb_20, 8, .inr (.inl (fun _ => 0)))), (q_23, .inl (k_24, 4, .inl (fun _ => 0))), (q_25, .inl (k_26, 6, .inl (fun _ => 0))), (q_27, .inl (k_28, 24, .inl (fun _ => 0))), (q_29, .inl (k_30, 24, .inl (fun _ => 0)))] H := hP
  have hD : va_D A [(x, .inr (10, [.ref q_1, .int 0, .ref q_3, .int 0, .ref q_5, .ref q_9, .int 10, .ref q_23, .int 0, .int 0, .ref q_25, .ref q_27, .ref q_29, .null])), (q_1, .inl (k_2, 24, .inr (.inr (.inr (.inr (fun _ => none)))))), (q_3, .inl (k_4, 6, .inr (.inr (.inr (.inr (fun _ => none)))))), (q_5, .inr (9, [.ref tb_7, .int 0])), (tb_7, .inl (kB_8, 250, .inl (fun _ => 0))), (q_9, .inr (7, [.int 1, .ref le_11, .ref mo_12, .ref os_13, .ref ps_14, .int 0, .ref br_15, .int 0])), (le_11, .inl (kl_16, 8, .inl fl_21)), (mo_12, .inl (km_17, 8, .inl fm_22)), (os_13, .inl (ko_18, 6, .inl (fun _ => 0))), (ps_14, .inl (kp_19, 6, .inl (fun _ => 0))), (br_15, .inl (kb_20, 8, .inr (.inl (fun _ => 0)))), (q_23, .inl (k_24, 4, .inl (fun _ => 0))), (q_25, .inl (k_26, 6, .inl (fun _ => 0))), (q_27, .inl (k_28, 24, .inl (fun _ => 0))), (q_29, .inl (k_30, 24, .inl (fun _ => 0)))] := hD
  refine lv_aload_n hx hb dX5_init_101 rfl (lv_at hl 0 rfl) ?_
  refine lv_bipush (v := 24) hx hb dX5_init_102 (by decide) ?_
  refine va_newa (atype := .boolean) (ty := .boolean) (a0 := (24, (.inl (fun _ => 0)))) hx hb (hts (.arrayClass .boolean) (List.mem_of_getElem? (i := 25) rfl)) rfl hK hP hD hS hA (fun _ => rfl) (by decide) (by decide) (Nat.le_of_ble_eq_true rfl) (Nat.le_of_ble_eq_true rfl) (Nat.le_of_ble_eq_true rfl) dX5_init_104 (fun q_31 k_32 H hK hP hD hS => ?_)
  have hP : va_P (dC, dI) vwCl [(x, .inr (10, [.ref q_1, .int 0, .ref q_3, .int 0, .ref q_5, .ref q_9, .int 10, .ref q_23, .int 0, .int 0, .ref q_25, .ref q_27, .ref q_29, .null])), (q_1, .inl (k_2, 24, .inr (.inr (.inr (.inr (fun _ => none)))))), (q_3, .inl (k_4, 6, .inr (.inr (.inr (.inr (fun _ => none)))))), (q_5, .inr (9, [.ref tb_7, .int 0])), (tb_7, .inl (kB_8, 250, .inl (fun _ => 0))), (q_9, .inr (7, [.int 1, .ref le_11, .ref mo_12, .ref os_13, .ref ps_14, .int 0, .ref br_15, .int 0])), (le_11, .inl (kl_16, 8, .inl fl_21)), (mo_12, .inl (km_17, 8, .inl fm_22)), (os_13, .inl (ko_18, 6, .inl (fun _ => 0))), (ps_14, .inl (kp_19, 6, .inl (fun _ => 0))), (br_15, .inl (kb_20, 8, .inr (.inl (fun _ => 0)))), (q_23, .inl (k_24, 4, .inl (fun _ => 0))), (q_25, .inl (k_26, 6, .inl (fun _ => 0))), (q_27, .inl (k_28, 24, .inl (fun _ => 0))), (q_29, .inl (k_30, 24, .inl (fun _ => 0))), (q_31, .inl (k_32, 24, .inl (fun _ => 0)))] H := hP
  have hD : va_D A [(x, .inr (10, [.ref q_1, .int 0, .ref q_3, .int 0, .ref q_5, .ref q_9, .int 10, .ref q_23, .int 0, .int 0, .ref q_25, .ref q_27, .ref q_29, .null])), (q_1, .inl (k_2, 24, .inr (.inr (.inr (.inr (fun _ => none)))))), (q_3, .inl (k_4, 6, .inr (.inr (.inr (.inr (fun _ => none)))))), (q_5, .inr (9, [.ref tb_7, .int 0])), (tb_7, .inl (kB_8, 250, .inl (fun _ => 0))), (q_9, .inr (7, [.int 1, .ref le_11, .ref mo_12, .ref os_13, .ref ps_14, .int 0, .ref br_15, .int 0])), (le_11, .inl (kl_16, 8, .inl fl_21)), (mo_12, .inl (km_17, 8, .inl fm_22)), (os_13, .inl (ko_18, 6, .inl (fun _ => 0))), (ps_14, .inl (kp_19, 6, .inl (fun _ => 0))), (br_15, .inl (kb_20, 8, .inr (.inl (fun _ => 0)))), (q_23, .inl (k_24, 4, .inl (fun _ => 0))), (q_25, .inl (k_26, 6, .inl (fun _ => 0))), (q_27, .inl (k_28, 24, .inl (fun _ => 0))), (q_29, .inl (k_30, 24, .inl (fun _ => 0))), (q_31, .inl (k_32, 24, .inl (fun _ => 0)))] := hD
  have hK : va_K (dC, dI) vwCl [(k_2, .object "ExamHalls$Candidate"), (k_4, .object "ExamHalls$Reader"), (kB_8, .byte), (kl_16, .int), (km_17, .int), (ko_18, .int), (kp_19, .int), (kb_20, .long), (k_24, .int), (k_26, .int), (k_28, .int), (k_30, .boolean), (k_32, .boolean)] s := hK
  refine W.widen (k := 15) (n := 408) (Nat.le_of_ble_eq_true rfl) (Nat.le_of_ble_eq_true rfl) ?_
  refine va_putF (D := (dC, dI)) (ci := 10) (v := .ref q_31) (ty := .array .boolean) (C := RX5) (T := TX5) (N := 14) hx hb hts (fun _ h9 => List.mem_cons_of_mem _ (List.mem_append_left _ (List.mem_append_left _ (List.mem_append_right _ (h9))))) tyX5 tyX5_ok nmX5 hown hK hP hD hS 0 rfl rfl 13 (by decide) (hts (.fieldLink RX5 65 "ExamHalls" "passedBefore" "[Z") (List.mem_of_getElem? (i := 27) rfl)) (fun _ h9 => h9) rfl hin rfl (by decide +kernel) rfl rfl (Nat.le_of_ble_eq_true rfl) dX5_init_106 (fun H locs hP hD hS => ?_)
  have hP : va_P (dC, dI) vwCl [(x, .inr (10, [.ref q_1, .int 0, .ref q_3, .int 0, .ref q_5, .ref q_9, .int 10, .ref q_23, .int 0, .int 0, .ref q_25, .ref q_27, .ref q_29, .ref q_31])), (q_1, .inl (k_2, 24, .inr (.inr (.inr (.inr (fun _ => none)))))), (q_3, .inl (k_4, 6, .inr (.inr (.inr (.inr (fun _ => none)))))), (q_5, .inr (9, [.ref tb_7, .int 0])), (tb_7, .inl (kB_8, 250, .inl (fun _ => 0))), (q_9, .inr (7, [.int 1, .ref le_11, .ref mo_12, .ref os_13, .ref ps_14, .int 0, .ref br_15, .int 0])), (le_11, .inl (kl_16, 8, .inl fl_21)), (mo_12, .inl (km_17, 8, .inl fm_22)), (os_13, .inl (ko_18, 6, .inl (fun _ => 0))), (ps_14, .inl (kp_19, 6, .inl (fun _ => 0))), (br_15, .inl (kb_20, 8, .inr (.inl (fun _ => 0)))), (q_23, .inl (k_24, 4, .inl (fun _ => 0))), (q_25, .inl (k_26, 6, .inl (fun _ => 0))), (q_27, .inl (k_28, 24, .inl (fun _ => 0))), (q_29, .inl (k_30, 24, .inl (fun _ => 0))), (q_31, .inl (k_32, 24, .inl (fun _ => 0)))] H := hP
  have hD : va_D A [(x, .inr (10, [.ref q_1, .int 0, .ref q_3, .int 0, .ref q_5, .ref q_9, .int 10, .ref q_23, .int 0, .int 0, .ref q_25, .ref q_27, .ref q_29, .ref q_31])), (q_1, .inl (k_2, 24, .inr (.inr (.inr (.inr (fun _ => none)))))), (q_3, .inl (k_4, 6, .inr (.inr (.inr (.inr (fun _ => none)))))), (q_5, .inr (9, [.ref tb_7, .int 0])), (tb_7, .inl (kB_8, 250, .inl (fun _ => 0))), (q_9, .inr (7, [.int 1, .ref le_11, .ref mo_12, .ref os_13, .ref ps_14, .int 0, .ref br_15, .int 0])), (le_11, .inl (kl_16, 8, .inl fl_21)), (mo_12, .inl (km_17, 8, .inl fm_22)), (os_13, .inl (ko_18, 6, .inl (fun _ => 0))), (ps_14, .inl (kp_19, 6, .inl (fun _ => 0))), (br_15, .inl (kb_20, 8, .inr (.inl (fun _ => 0)))), (q_23, .inl (k_24, 4, .inl (fun _ => 0))), (q_25, .inl (k_26, 6, .inl (fun _ => 0))), (q_27, .inl (k_28, 24, .inl (fun _ => 0))), (q_29, .inl (k_30, 24, .inl (fun _ => 0))), (q_31, .inl (k_32, 24, .inl (fun _ => 0)))] := hD
  have hP9 := hP.sub (ws' := [(x, .inr (10, [.ref q_1, .int 0, .ref q_3, .int 0, .ref q_5, .ref q_9, .int 10, .ref q_23, .int 0, .int 0, .ref q_25, .ref q_27, .ref q_29, .ref q_31])), (q_1, .inl (k_2, 24, .inr (.inr (.inr (.inr (fun _ => none)))))), (q_3, .inl (k_4, 6, .inr (.inr (.inr (.inr (fun _ => none)))))), (q_5, .inr (9, [.ref tb_7, .int 0])), (tb_7, .inl (kB_8, 250, .inl (fun _ => 0))), (q_9, .inr (7, [.int 1, .ref le_11, .ref mo_12, .ref os_13, .ref ps_14, .int 0, .ref br_15, .int 0])), (le_11, .inl (kl_16, 8, .inl fl_21)), (mo_12, .inl (km_17, 8, .inl fm_22)), (os_13, .inl (ko_18, 6, .inl (fun _ => 0))), (ps_14, .inl (kp_19, 6, .inl (fun _ => 0))), (br_15, .inl (kb_20, 8, .inr (.inl (fun _ => 0)))), (q_23, .inl (k_24, 4, .inl (fun _ => 0)))]) [0, 1, 2, 3, 4, 5, 6, 7, 8, 9, 10, 11] rfl
  have hD9 := hD.sub (ws' := [(x, .inr (10, [.ref q_1, .int 0, .ref q_3, .int 0, .ref q_5, .ref q_9, .int 10, .ref q_23, .int 0, .int 0, .ref q_25, .ref q_27, .ref q_29, .ref q_31])), (q_1, .inl (k_2, 24, .inr (.inr (.inr (.inr (fun _ => none)))))), (q_3, .inl (k_4, 6, .inr (.inr (.inr (.inr (fun _ => none)))))), (q_5, .inr (9, [.ref tb_7, .int 0])), (tb_7, .inl (kB_8, 250, .inl (fun _ => 0))), (q_9, .inr (7, [.int 1, .ref le_11, .ref mo_12, .ref os_13, .ref ps_14, .int 0, .ref br_15, .int 0])), (le_11, .inl (kl_16, 8, .inl fl_21)), (mo_12, .inl (km_17, 8, .inl fm_22)), (os_13, .inl (ko_18, 6, .inl (fun _ => 0))), (ps_14, .inl (kp_19, 6, .inl (fun _ => 0))), (br_15, .inl (kb_20, 8, .inr (.inl (fun _ => 0)))), (q_23, .inl (k_24, 4, .inl (fun _ => 0)))]) [0, 1, 2, 3, 4, 5, 6, 7, 8, 9, 10, 11] (by decide) rfl
  have hK9 := hK.sub (tys' := [(k_2, .object "ExamHalls$Candidate"), (k_4, .object "ExamHalls$Reader"), (kB_8, .byte), (kl_16, .int), (km_17, .int), (ko_18, .int), (kp_19, .int), (kb_20, .long), (k_24, .int)]) [0, 1, 2, 3, 4, 5, 6, 7, 8] rfl
  exact W.vret hx hb hr (fun t ht hW => ⟨⟨(), rfl, trivial, q_1, q_3, q_5, q_9, q_23, q_25, q_27, q_29, q_31, tb_7, le_11, mo_12, os_13, ps_14, br_15, kl_16, km_17, ko_18, kp_19, kb_20, fl_21, fm_22, k_2, k_4, kB_8, k_24, by rw [ht]; exact hP9, va_K.moved hW.alike hK9, hD9⟩, hS.F ht⟩) hS.2.2 dX5_init_109

set_option maxRecDepth 20000 in
theorem ggX5_fewest_J6_bitCount_0f7a4 : GoodIn wsX5_fewest wsJ6_bitCount_0f7a4 := goodIn_r _ [4, 5, 6, 7] (by decide +kernel) (by decide +kernel)
set_option maxRecDepth 20000 in
theorem gX5_fewest_J6_bitCount_0f7a4 : GoodIn wsX5_fewest (va_wsS RX5 179 yJ6_bitCount_0f7a4 wsJ6_bitCount_0f7a4) := goodIn_app (goodIn_of _ (by decide +kernel)) ggX5_fewest_J6_bitCount_0f7a4
set_option maxRecDepth 20000 in
theorem ggX5_fewest_X5_openedBy : GoodIn wsX5_fewest wsX5_openedBy := goodIn_r _ [12, 13, 14, 15, 16, 11, 17, 18, 19, 20, 21, 22, 23, 24, 25, 26, 27, 28, 29, 30, 31, 32, 33, 34, 35, 36, 37, 38, 39, 40, 41, 42, 43, 44, 45, 46, 47] (by decide +kernel) (by decide +kernel)
set_option maxRecDepth 20000 in
theorem gX5_fewest_X5_openedBy : GoodIn wsX5_fewest (wsV RX5 176 RX5 yX5_openedBy wsX5_openedBy) := goodIn_app (goodIn_of _ (by decide +kernel)) ggX5_fewest_X5_openedBy
theorem dX5_fewest_0 : decode cX5_fewest 0 = .ok (.iconst 0, 1) := by decide +kernel
theorem dX5_fewest_1 : decode cX5_fewest 1 = .ok (.istore_n 1, 1) := by decide +kernel
theorem dX5_fewest_2 : decode cX5_fewest 2 = .ok (.iconst 4, 1) := by decide +kernel
theorem dX5_fewest_3 : decode cX5_fewest 3 = .ok (.istore_n 2, 1) := by decide +kernel
theorem dX5_fewest_4 : decode cX5_fewest 4 = .ok (.iconst 1, 1) := by decide +kernel
theorem dX5_fewest_5 : decode cX5_fewest 5 = .ok (.istore_n 3, 1) := by decide +kernel
theorem dX5_fewest_6 : decode cX5_fewest 6 = .ok (.iload_n 3, 1) := by decide +kernel
theorem dX5_fewest_7 : decode cX5_fewest 7 = .ok (.sipush 256, 3) := by decide +kernel
theorem dX5_fewest_10 : decode cX5_fewest 10 = .ok (.if_icmp .ge 32, 3) := by decide +kernel
theorem dX5_fewest_13 : decode cX5_fewest 13 = .ok (.iload_n 3, 1) := by decide +kernel
theorem dX5_fewest_14 : decode cX5_fewest 14 = .ok (.invokestatic 179, 3) := by decide +kernel
theorem dX5_fewest_17 : decode cX5_fewest 17 = .ok (.iload_n 2, 1) := by decide +kernel
theorem dX5_fewest_18 : decode cX5_fewest 18 = .ok (.if_icmp .ge 18, 3) := by decide +kernel
theorem dX5_fewest_21 : decode cX5_fewest 21 = .ok (.aload_n 0, 1) := by decide +kernel
theorem dX5_fewest_22 : decode cX5_fewest 22 = .ok (.iload_n 3, 1) := by decide +kernel
theorem dX5_fewest_23 : decode cX5_fewest 23 = .ok (.invokevirtual 176, 3) := by decide +kernel
theorem dX5_fewest_26 : decode cX5_fewest 26 = .ok (.ifCond .le 10, 3) := by decide +kernel
theorem dX5_fewest_36 : decode cX5_fewest 36 = .ok (.iinc 3 1, 3) := by decide +kernel
theorem dX5_fewest_39 : decode cX5_fewest 39 = .ok (.goto (-33), 3) := by decide +kernel
theorem dX5_fewest_42 : decode cX5_fewest 42 = .ok (.iload_n 1, 1) := by decide +kernel
theorem dX5_fewest_43 : decode cX5_fewest 43 = .ok (.ireturn, 1) := by decide +kernel
theorem dJ6_bitCount_0f7a4_0 : decode cJ6_bitCount_0f7a4 0 = .ok (.iload_n 0, 1) := by decide +kernel
theorem dJ6_bitCount_0f7a4_1 : decode cJ6_bitCount_0f7a4 1 = .ok (.iload_n 0, 1) := by decide +kernel
theorem dJ6_bitCount_0f7a4_2 : decode cJ6_bitCount_0f7a4 2 = .ok (.iconst 1, 1) := by decide +kernel
theorem dJ6_bitCount_0f7a4_3 : decode cJ6_bitCount_0f7a4 3 = .ok (.iushr, 1) := by decide +kernel
theorem dJ6_bitCount_0f7a4_4 : decode cJ6_bitCount_0f7a4 4 = .ok (.ldc_w 265, 3) := by decide +kernel
theorem dJ6_bitCount_0f7a4_7 : decode cJ6_bitCount_0f7a4 7 = .ok (.iand, 1) := by decide +kernel
theorem dJ6_bitCount_0f7a4_8 : decode cJ6_bitCount_0f7a4 8 = .ok (.isub, 1) := by decide +kernel
theorem dJ6_bitCount_0f7a4_9 : decode cJ6_bitCount_0f7a4 9 = .ok (.istore_n 0, 1) := by decide +kernel
theorem dJ6_bitCount_0f7a4_10 : decode cJ6_bitCount_0f7a4 10 = .ok (.iload_n 0, 1) := by decide +kernel
theorem dJ6_bitCount_0f7a4_11 : decode cJ6_bitCount_0f7a4 11 = .ok (.ldc_w 266, 3) := by decide +kernel
theorem dJ6_bitCount_0f7a4_14 : decode cJ6_bitCount_0f7a4 14 = .ok (.iand, 1) := by decide +kernel
theorem dJ6_bitCount_0f7a4_15 : decode cJ6_bitCount_0f7a4 15 = .ok (.iload_n 0, 1) := by decide +kernel
theorem dJ6_bitCount_0f7a4_16 : decode cJ6_bitCount_0f7a4 16 = .ok (.iconst 2, 1) := by decide +kernel
theorem dJ6_bitCount_0f7a4_17 : decode cJ6_bitCount_0f7a4 17 = .ok (.iushr, 1) := by decide +kernel
theorem dJ6_bitCount_0f7a4_18 : decode cJ6_bitCount_0f7a4 18 = .ok (.ldc_w 266, 3) := by decide +kernel
theorem dJ6_bitCount_0f7a4_21 : decode cJ6_bitCount_0f7a4 21 = .ok (.iand, 1) := by decide +kernel
theorem dJ6_bitCount_0f7a4_22 : decode cJ6_bitCount_0f7a4 22 = .ok (.iadd, 1) := by decide +kernel
theorem dJ6_bitCount_0f7a4_23 : decode cJ6_bitCount_0f7a4 23 = .ok (.istore_n 0, 1) := by decide +kernel
theorem dJ6_bitCount_0f7a4_24 : decode cJ6_bitCount_0f7a4 24 = .ok (.iload_n 0, 1) := by decide +kernel
theorem dJ6_bitCount_0f7a4_25 : decode cJ6_bitCount_0f7a4 25 = .ok (.iload_n 0, 1) := by decide +kernel
theorem dJ6_bitCount_0f7a4_26 : decode cJ6_bitCount_0f7a4 26 = .ok (.iconst 4, 1) := by decide +kernel
theorem dJ6_bitCount_0f7a4_27 : decode cJ6_bitCount_0f7a4 27 = .ok (.iushr, 1) := by decide +kernel
theorem dJ6_bitCount_0f7a4_28 : decode cJ6_bitCount_0f7a4 28 = .ok (.iadd, 1) := by decide +kernel
theorem dJ6_bitCount_0f7a4_29 : decode cJ6_bitCount_0f7a4 29 = .ok (.ldc_w 267, 3) := by decide +kernel
theorem dJ6_bitCount_0f7a4_32 : decode cJ6_bitCount_0f7a4 32 = .ok (.iand, 1) := by decide +kernel
theorem dJ6_bitCount_0f7a4_33 : decode cJ6_bitCount_0f7a4 33 = .ok (.istore_n 0, 1) := by decide +kernel
theorem dJ6_bitCount_0f7a4_34 : decode cJ6_bitCount_0f7a4 34 = .ok (.iload_n 0, 1) := by decide +kernel
theorem dJ6_bitCount_0f7a4_35 : decode cJ6_bitCount_0f7a4 35 = .ok (.iload_n 0, 1) := by decide +kernel
theorem dJ6_bitCount_0f7a4_36 : decode cJ6_bitCount_0f7a4 36 = .ok (.bipush 8, 2) := by decide +kernel
theorem dJ6_bitCount_0f7a4_38 : decode cJ6_bitCount_0f7a4 38 = .ok (.iushr, 1) := by decide +kernel
theorem dJ6_bitCount_0f7a4_39 : decode cJ6_bitCount_0f7a4 39 = .ok (.iadd, 1) := by decide +kernel
theorem dJ6_bitCount_0f7a4_40 : decode cJ6_bitCount_0f7a4 40 = .ok (.istore_n 0, 1) := by decide +kernel
theorem dJ6_bitCount_0f7a4_41 : decode cJ6_bitCount_0f7a4 41 = .ok (.iload_n 0, 1) := by decide +kernel
theorem dJ6_bitCount_0f7a4_42 : decode cJ6_bitCount_0f7a4 42 = .ok (.iload_n 0, 1) := by decide +kernel
theorem dJ6_bitCount_0f7a4_43 : decode cJ6_bitCount_0f7a4 43 = .ok (.bipush 16, 2) := by decide +kernel
theorem dJ6_bitCount_0f7a4_45 : decode cJ6_bitCount_0f7a4 45 = .ok (.iushr, 1) := by decide +kernel
theorem dJ6_bitCount_0f7a4_46 : decode cJ6_bitCount_0f7a4 46 = .ok (.iadd, 1) := by decide +kernel
theorem dJ6_bitCount_0f7a4_47 : decode cJ6_bitCount_0f7a4 47 = .ok (.istore_n 0, 1) := by decide +kernel
theorem dJ6_bitCount_0f7a4_48 : decode cJ6_bitCount_0f7a4 48 = .ok (.iload_n 0, 1) := by decide +kernel
theorem dJ6_bitCount_0f7a4_49 : decode cJ6_bitCount_0f7a4 49 = .ok (.bipush 63, 2) := by decide +kernel
theorem dJ6_bitCount_0f7a4_51 : decode cJ6_bitCount_0f7a4 51 = .ok (.iand, 1) := by decide +kernel
theorem dJ6_bitCount_0f7a4_52 : decode cJ6_bitCount_0f7a4 52 = .ok (.ireturn, 1) := by decide +kernel
set_option maxHeartbeats 4000000 in
set_option maxRecDepth 100000 in
theorem c_J_bitCount (l : Launch) (dC : Nat → ClassId) (dI : Nat → Nat → Nat) (c1 : Int32) : Met l yJ6_bitCount_0f7a4 wsJ6_bitCount_0f7a4 ({ frames := 0, cells := 0, slots := 0, locals := 0 }) (va_Pc [.int c1] (PS dC dI [] [])) (vp_Si (fun _ => True)) 0 0 (fun _ => False) := by
  refine Met.ofW (cc := cJ6_bitCount_0f7a4) (maxL := 1) (ret := (some .int)) (by decide) rfl ?_
  intro p e s m args below meth c s₁ B hml hv
  obtain ⟨rfl, hP, hK, hF⟩ := hv
  have hx := B.exec
  have hb := B.bytes
  have hr := B.returns
  have hts := atoms_spec (ws := wsJ6_bitCount_0f7a4) B.pre
  have hown : s.vm.findClass RJ6 = some m.cls := findClass_of_methodNamed B.named
  have hlocks := B.notSynchronized
  have hl := lv_entry ([.int c1]) (n := 1) (Nat.le_of_ble_eq_true rfl)
  rw [lg_entry_eq]
  generalize (lg_sl ([.int c1]) ++ List.replicate (1 - (lg_sl ([.int c1])).length) Slot.unset).toArray = ls at hl ⊢
  have hl : lv_has ls 1 [(0, .int c1)] := hl
  refine lv_iload_n hx hb dJ6_bitCount_0f7a4_0 rfl (lv_at hl 0 rfl) ?_
  refine lv_iload_n hx hb dJ6_bitCount_0f7a4_1 rfl (lv_at hl 0 rfl) ?_
  refine lv_iconst (v := 1) hx hb dJ6_bitCount_0f7a4_2 (by decide) ?_
  refine lv_iushr hx hb dJ6_bitCount_0f7a4_3 rfl ?_
  refine lv_topi (fun f_1 _ => ?_)
  refine lv_ldcw (v := 1431655765) hx hb hown (hts (.constant RJ6 265 (1431655765)) (List.mem_of_getElem? (i := 1) rfl)) dJ6_bitCount_0f7a4_4 ?_
  refine lv_iand hx hb dJ6_bitCount_0f7a4_7 ?_
  refine lv_isub hx hb dJ6_bitCount_0f7a4_8 ?_
  refine lv_istore_n (lv' := [(0, .int (c1 - (f_1 &&& 1431655765)))]) hx hb dJ6_bitCount_0f7a4_9 rfl hl (by decide) rfl (fun ls hl => ?_)
  refine lv_iload_n hx hb dJ6_bitCount_0f7a4_10 rfl (lv_at hl 0 rfl) ?_
  refine lv_ldcw (v := 858993459) hx hb hown (hts (.constant RJ6 266 (858993459)) (List.mem_of_getElem? (i := 2) rfl)) dJ6_bitCount_0f7a4_11 ?_
  refine lv_iand hx hb dJ6_bitCount_0f7a4_14 ?_
  refine lv_iload_n hx hb dJ6_bitCount_0f7a4_15 rfl (lv_at hl 0 rfl) ?_
  refine lv_iconst (v := 2) hx hb dJ6_bitCount_0f7a4_16 (by decide) ?_
  refine lv_iushr hx hb dJ6_bitCount_0f7a4_17 rfl ?_
  refine lv_topi (fun f_2 _ => ?_)
  refine lv_ldcw (v := 858993459) hx hb hown (hts (.constant RJ6 266 (858993459)) (List.mem_of_getElem? (i := 2) rfl)) dJ6_bitCount_0f7a4_18 ?_
  refine lv_iand hx hb dJ6_bitCount_0f7a4_21 ?_
  refine lv_iadd hx hb dJ6_bitCount_0f7a4_22 ?_
  refine lv_istore_n (lv' := [(0, .int (((c1 - (f_1 &&& 1431655765)) &&& 858993459) + (f_2 &&& 858993459)))]) hx hb dJ6_bitCount_0f7a4_23 rfl hl (by decide) rfl (fun ls hl => ?_)
  refine lv_iload_n hx hb dJ6_bitCount_0f7a4_24 rfl (lv_at hl 0 rfl) ?_
  refine lv_iload_n hx hb dJ6_bitCount_0f7a4_25 rfl (lv_at hl 0 rfl) ?_
  refine lv_iconst (v := 4) hx hb dJ6_bitCount_0f7a4_26 (by decide) ?_
  refine lv_iushr hx hb dJ6_bitCount_0f7a4_27 rfl ?_
  refine lv_topi (fun f_3 _ => ?_)
  refine lv_iadd hx hb dJ6_bitCount_0f7a4_28 ?_
  refine lv_ldcw (v := 252645135) hx hb hown (hts (.constant RJ6 267 (252645135)) (List.mem_of_getElem? (i := 3) rfl)) dJ6_bitCount_0f7a4_29 ?_
  refine lv_iand hx hb dJ6_bitCount_0f7a4_32 ?_
  refine lv_istore_n (lv' := [(0, .int (((((c1 - (f_1 &&& 1431655765)) &&& 858993459) + (f_2 &&& 858993459)) + f_3) &&& 252645135))]) hx hb dJ6_bitCount_0f7a4_33 rfl hl (by decide) rfl (fun ls hl => ?_)
  refine lv_iload_n hx hb dJ6_bitCount_0f7a4_34 rfl (lv_at hl 0 rfl) ?_
  refine lv_iload_n hx hb dJ6_bitCount_0f7a4_35 rfl (lv_at hl 0 rfl) ?_
  refine lv_bipush (v := 8) hx hb dJ6_bitCount_0f7a4_36 (by decide) ?_
  refine lv_iushr hx hb dJ6_bitCount_0f7a4_38 rfl ?_
  refine lv_topi (fun f_4 _ => ?_)
  refine lv_iadd hx hb dJ6_bitCount_0f7a4_39 ?_
  refine lv_istore_n (lv' := [(0, .int ((((((c1 - (f_1 &&& 1431655765)) &&& 858993459) + (f_2 &&& 858993459)) + f_3) &&& 252645135) + f_4))]) hx hb dJ6_bitCount_0f7a4_40 rfl hl (by decide) rfl (fun ls hl => ?_)
  refine lv_iload_n hx hb dJ6_bitCount_0f7a4_41 rfl (lv_at hl 0 rfl) ?_
  refine lv_iload_n hx hb dJ6_bitCount_0f7a4_42 rfl (lv_at hl 0 rfl) ?_
  refine lv_bipush (v := 16) hx hb dJ6_bitCount_0f7a4_43 (by decide) ?_
  refine lv_iushr hx hb dJ6_bitCount_0f7a4_45 rfl ?_
  refine lv_topi (fun f_5 _ => ?_)
  refine lv_iadd hx hb dJ6_bitCount_0f7a4_46 ?_
  refine lv_istore_n (lv' := [(0, .int (((((((c1 - (f_1 &&& 1431655765)) &&& 858993459) + (f_2 &&& 858993459)) + f_3) &&& 252645135) + f_4) + f_5))]) hx hb dJ6_bitCount_0f7a4_47 rfl hl (by decide) rfl (fun ls hl => ?_)
  refine lv_iload_n hx hb dJ6_bitCount_0f7a4_48 rfl (lv_at hl 0 rfl) ?_
  refine lv_bipush (v := 63) hx hb dJ6_bitCount_0f7a4_49 (by decide) ?_
  refine lv_iand hx hb dJ6_bitCount_0f7a4_51 ?_
  exact W.iret (v := (((((((c1 - (f_1 &&& 1431655765)) &&& 858993459) + (f_2 &&& 858993459)) + f_3) &&& 252645135) + f_4) + f_5) &&& 63) hx hb hr (fun t ht hW => ⟨_, rfl, trivial, ht⟩) (fun _ h9 => absurd h9 List.not_mem_nil) dJ6_bitCount_0f7a4_52

theorem dX9_isProvince_0 : decode cX9_isProvince 0 = .ok (.iconst 0, 1) := by decide +kernel
theorem dX9_isProvince_1 : decode cX9_isProvince 1 = .ok (.iload_n 0, 1) := by decide +kernel
theorem dX9_isProvince_2 : decode cX9_isProvince 2 = .ok (.if_icmp .gt 12, 3) := by decide +kernel
theorem dX9_isProvince_5 : decode cX9_isProvince 5 = .ok (.iload_n 0, 1) := by decide +kernel
theorem dX9_isProvince_6 : decode cX9_isProvince 6 = .ok (.iconst 3, 1) := by decide +kernel
theorem dX9_isProvince_7 : decode cX9_isProvince 7 = .ok (.if_icmp .gt 7, 3) := by decide +kernel
theorem dX9_isProvince_10 : decode cX9_isProvince 10 = .ok (.iconst 1, 1) := by decide +kernel
theorem dX9_isProvince_11 : decode cX9_isProvince 11 = .ok (.goto 4, 3) := by decide +kernel
theorem dX9_isProvince_14 : decode cX9_isProvince 14 = .ok (.iconst 0, 1) := by decide +kernel
theorem dX9_isProvince_15 : decode cX9_isProvince 15 = .ok (.ireturn, 1) := by decide +kernel
set_option maxRecDepth 20000 in
theorem ggX9_openedBy_Jx4a65c_size_8abf5 : GoodIn wsX9_openedBy wsJx4a65c_size_8abf5 := goodIn_r _ [21, 22, 73, 74, 75] (by decide +kernel) (by decide +kernel)
set_option maxRecDepth 20000 in
theorem gX9_openedBy_Jx4a65c_size_8abf5_f56Jx4a65c : GoodIn wsX9_openedBy (va_wsF RX9 56 RJx4a65c ⟨"java/util/List", "size", "()I"⟩ yJx4a65c_size_8abf5 wsJx4a65c_size_8abf5) := goodIn_app (goodIn_of _ (by decide +kernel)) ggX9_openedBy_Jx4a65c_size_8abf5
theorem dX9_openedBy_0 : decode cX9_openedBy 0 = .ok (.iconst 0, 1) := by decide +kernel
theorem dX9_openedBy_1 : decode cX9_openedBy 1 = .ok (.istore_n 2, 1) := by decide +kernel
theorem dX9_openedBy_2 : decode cX9_openedBy 2 = .ok (.iconst 0, 1) := by decide +kernel
theorem dX9_openedBy_3 : decode cX9_openedBy 3 = .ok (.istore_n 3, 1) := by decide +kernel
theorem dX9_openedBy_4 : decode cX9_openedBy 4 = .ok (.iload_n 3, 1) := by decide +kernel
theorem dX9_openedBy_5 : decode cX9_openedBy 5 = .ok (.aload_n 0, 1) := by decide +kernel
theorem dX9_openedBy_6 : decode cX9_openedBy 6 = .ok (.getfield 10, 3) := by decide +kernel
theorem dX9_openedBy_9 : decode cX9_openedBy 9 = .ok (.invokeinterface 56 1, 5) := by decide +kernel
theorem dX9_openedBy_14 : decode cX9_openedBy 14 = .ok (.if_icmp .ge 32, 3) := by decide +kernel
theorem dX9_openedBy_46 : decode cX9_openedBy 46 = .ok (.iload_n 2, 1) := by decide +kernel
theorem dX9_openedBy_47 : decode cX9_openedBy 47 = .ok (.ireturn, 1) := by decide +kernel
set_option maxRecDepth 20000 in
theorem ggX9_fewest_X9_openedBy : GoodIn wsX9_fewest wsX9_openedBy := goodIn_r _ [5, 6, 7, 8, 9, 10, 11, 12, 13, 14, 15, 16, 17, 18, 19, 20, 21, 22, 23, 24, 25, 26, 27, 28, 29, 30, 31, 32, 33, 34, 35, 36, 37, 38, 39, 40, 41, 42, 43, 44, 45, 46, 47, 48, 49, 50, 51, 52, 4, 53, 54, 55, 56, 57, 58, 66, 67, 68, 69, 70, 71, 72, 73, 74, 75, 76, 77, 78, 79, 80, 81, 82, 83, 84, 85, 86, 87, 88, 89, 90, 91, 92, 93] (by decide +kernel) (by decide +kernel)
set_option maxRecDepth 20000 in
theorem gX9_fewest_X9_openedBy : GoodIn wsX9_fewest (wsV RX9 201 RX9 yX9_openedBy wsX9_openedBy) := goodIn_app (goodIn_of _ (by decide +kernel)) ggX9_fewest_X9_openedBy
theorem dX9_fewest_0 : decode cX9_fewest 0 = .ok (.iconst 0, 1) := by decide +kernel
theorem dX9_fewest_1 : decode cX9_fewest 1 = .ok (.istore_n 1, 1) := by decide +kernel
theorem dX9_fewest_2 : decode cX9_fewest 2 = .ok (.iconst 1, 1) := by decide +kernel
theorem dX9_fewest_3 : decode cX9_fewest 3 = .ok (.istore_n 2, 1) := by decide +kernel
theorem dX9_fewest_4 : decode cX9_fewest 4 = .ok (.iload_n 2, 1) := by decide +kernel
theorem dX9_fewest_5 : decode cX9_fewest 5 = .ok (.sipush 255, 3) := by decide +kernel
theorem dX9_fewest_8 : decode cX9_fewest 8 = .ok (.if_icmp .gt 37, 3) := by decide +kernel
theorem dX9_fewest_11 : decode cX9_fewest 11 = .ok (.aload_n 0, 1) := by decide +kernel
theorem dX9_fewest_12 : decode cX9_fewest 12 = .ok (.iload_n 2, 1) := by decide +kernel
theorem dX9_fewest_13 : decode cX9_fewest 13 = .ok (.invokevirtual 201, 3) := by decide +kernel
theorem dX9_fewest_16 : decode cX9_fewest 16 = .ok (.ifCond .ne 6, 3) := by decide +kernel
theorem dX9_fewest_19 : decode cX9_fewest 19 = .ok (.goto 20, 3) := by decide +kernel
theorem dX9_fewest_39 : decode cX9_fewest 39 = .ok (.iinc 2 1, 3) := by decide +kernel
theorem dX9_fewest_42 : decode cX9_fewest 42 = .ok (.goto (-38), 3) := by decide +kernel
theorem dX9_fewest_45 : decode cX9_fewest 45 = .ok (.iload_n 1, 1) := by decide +kernel
theorem dX9_fewest_46 : decode cX9_fewest 46 = .ok (.ireturn, 1) := by decide +kernel
theorem dJx4a65c_size_8abf5_0 : decode cJx4a65c_size_8abf5 0 = .ok (.aload_n 0, 1) := by decide +kernel
theorem dJx4a65c_size_8abf5_1 : decode cJx4a65c_size_8abf5 1 = .ok (.getfield 48, 3) := by decide +kernel
theorem dJx4a65c_size_8abf5_4 : decode cJx4a65c_size_8abf5 4 = .ok (.ireturn, 1) := by decide +kernel
set_option maxHeartbeats 4000000 in
set_option maxRecDepth 100000 in
theorem c_AL_size (l : Launch) (dC : Nat → ClassId) (dI : Nat → Nat → Nat) (li : Nat) (q1 : Int32) (dd : Nat) (z : Int32) : Met l yJx4a65c_size_8abf5 wsJx4a65c_size_8abf5 ({ frames := 0, cells := 0, slots := 0, locals := 0 }) (va_Pc [.ref li] (PS dC dI [(li, .inr (4, [.int q1, .ref dd, .int z]))] [])) (vp_Si (fun r => r = z)) 0 0 (fun _ => False) := by
  refine Met.ofW (cc := cJx4a65c_size_8abf5) (maxL := 1) (ret := (some .int)) (by decide) rfl ?_
  intro p e s m args below meth c s₁ B hml hv
  obtain ⟨rfl, hP, hK, hF⟩ := hv
  have hx := B.exec
  have hb := B.bytes
  have hr := B.returns
  have hts := atoms_spec (ws := wsJx4a65c_size_8abf5) B.pre
  have hown : s.vm.findClass RJx4a65c = some m.cls := findClass_of_methodNamed B.named
  have hlocks := B.notSynchronized
  have hl := lv_entry ([.ref li]) (n := 1) (Nat.le_of_ble_eq_true rfl)
  rw [lg_entry_eq]
  generalize (lg_sl ([.ref li]) ++ List.replicate (1 - (lg_sl ([.ref li])).length) Slot.unset).toArray = ls at hl ⊢
  have hl : lv_has ls 1 [(0, .ref li)] := hl
  refine lv_aload_n hx hb dJx4a65c_size_8abf5_0 rfl (lv_at hl 0 rfl) ?_
  refine va_get (D := (dC, dI)) (ci := 4) (v := .int z) (C := RJx4a65c) (T := TJx4a65c) (N := 3) hx hb hts (fun _ h9 => List.mem_cons_of_mem _ (List.mem_append_right _ (h9))) hown hK hP 0 rfl rfl 2 (by decide) (hts (.fieldLink RJx4a65c 48 "java/util/ArrayList" "size" "I") (List.mem_of_getElem? (i := 1) rfl)) (fun _ h9 => h9) rfl dJx4a65c_size_8abf5_1 ?_
  exact W.iret (v := z) hx hb hr (fun t ht hW => ⟨_, rfl, rfl, ht⟩) (fun _ h9 => absurd h9 List.not_mem_nil) dJx4a65c_size_8abf5_4

def sp_M_isProvince (c1 : Int32) : Int32 := if c1 < 0 then 0 else if 3 < c1 then 0 else 1
set_option maxHeartbeats 4000000 in
set_option maxRecDepth 100000 in
theorem c_M_isProvince (l : Launch) (dC : Nat → ClassId) (dI : Nat → Nat → Nat) (c1 : Int32) : Met l yX9_isProvince wsX9_isProvince ({ frames := 0, cells := 0, slots := 0, locals := 0 }) (va_Pc [.int c1] (PS dC dI [] [])) (vp_Si (fun r => r = sp_M_isProvince c1)) 0 0 (fun _ => False) := by
  refine Met.ofW (cc := cX9_isProvince) (maxL := 1) (ret := (some .boolean)) (by decide) rfl ?_
  intro p e s m args below meth c s₁ B hml hv
  obtain ⟨rfl, hP, hK, hF⟩ := hv
  have hx := B.exec
  have hb := B.bytes
  have hr := B.returns
  have hts := atoms_spec (ws := wsX9_isProvince) B.pre
  have hown : s.vm.findClass RX9 = some m.cls := findClass_of_methodNamed B.named
  have hlocks := B.notSynchronized
  have hl := lv_entry ([.int c1]) (n := 1) (Nat.le_of_ble_eq_true rfl)
  rw [lg_entry_eq]
  generalize (lg_sl ([.int c1]) ++ List.replicate (1 - (lg_sl ([.int c1])).length) Slot.unset).toArray = ls at hl ⊢
  have hl : lv_has ls 1 [(0, .int c1)] := hl
  refine lv_iconst (v := 0) hx hb dX9_isProvince_0 (by decide) ?_
  refine lv_iload_n hx hb dX9_isProvince_1 rfl (lv_at hl 0 rfl) ?_
  refine lv_icmp_gt (tgt := 14) hx hb dX9_isProvince_2 (by decide) (fun c_1 => ?_) (fun c_1 => ?_)
  · skip
    refine lv_iconst (v := 0) hx hb dX9_isProvince_14 (by decide) ?_
    exact W.zret (v := 0) hx hb hr (by decide) (fun t ht hW => ⟨_, rfl, (by simp only [sp_M_isProvince, if_pos c_1]), ht⟩) (fun _ h9 => absurd h9 List.not_mem_nil) dX9_isProvince_15
  · skip
    refine lv_iload_n hx hb dX9_isProvince_5 rfl (lv_at hl 0 rfl) ?_
    refine lv_iconst (v := 3) hx hb dX9_isProvince_6 (by decide) ?_
    refine lv_icmp_gt (tgt := 14) hx hb dX9_isProvince_7 (by decide) (fun c_2 => ?_) (fun c_2 => ?_)
    · skip
      refine lv_iconst (v := 0) hx hb dX9_isProvince_14 (by decide) ?_
      exact W.zret (v := 0) hx hb hr (by decide) (fun t ht hW => ⟨_, rfl, (by simp only [sp_M_isProvince, if_neg c_1, if_pos c_2]), ht⟩) (fun _ h9 => absurd h9 List.not_mem_nil) dX9_isProvince_15
    · skip
      refine lv_iconst (v := 1) hx hb dX9_isProvince_10 (by decide) ?_
      refine lv_goto (tgt := 15) hx hb dX9_isProvince_11 (by decide) ?_
      exact W.zret (v := 1) hx hb hr (by decide) (fun t ht hW => ⟨_, rfl, (by simp only [sp_M_isProvince, if_neg c_1, if_neg c_2]), ht⟩) (fun _ h9 => absurd h9 List.not_mem_nil) dX9_isProvince_15

set_option maxRecDepth 20000 in
theorem ggX6_init_Jx4a65c_init_da8c8 : GoodIn wsX6_init wsJx4a65c_init_da8c8 := goodIn_r _ [13, 14, 15, 16, 17, 18, 19, 20, 21, 22, 23, 24, 25, 2, 3, 33, 34, 35, 36, 37, 38, 39, 40] (by decide +kernel) (by decide +kernel)
set_option maxRecDepth 20000 in
theorem gX6_init_Jx4a65c_init_da8c8 : GoodIn wsX6_init (wsJx4a65c_init_da8c8) := ggX6_init_Jx4a65c_init_da8c8
theorem dX6_init_0 : decode cX6_init 0 = .ok (.aload_n 0, 1) := by decide +kernel
theorem dX6_init_1 : decode cX6_init 1 = .ok (.invokespecial 3, 3) := by decide +kernel
theorem dX6_init_4 : decode cX6_init 4 = .ok (.aload_n 0, 1) := by decide +kernel
theorem dX6_init_5 : decode cX6_init 5 = .ok (.iconst (-1), 1) := by decide +kernel
theorem dX6_init_6 : decode cX6_init 6 = .ok (.putfield 9, 3) := by decide +kernel
theorem dX6_init_9 : decode cX6_init 9 = .ok (.aload_n 0, 1) := by decide +kernel
theorem dX6_init_10 : decode cX6_init 10 = .ok (.iconst (-1), 1) := by decide +kernel
theorem dX6_init_11 : decode cX6_init 11 = .ok (.putfield 15, 3) := by decide +kernel
theorem dX6_init_14 : decode cX6_init 14 = .ok (.aload_n 0, 1) := by decide +kernel
theorem dX6_init_15 : decode cX6_init 15 = .ok (.bipush 8, 2) := by decide +kernel
theorem dX6_init_17 : decode cX6_init 17 = .ok (.iconst 4, 1) := by decide +kernel
theorem dX6_init_18 : decode cX6_init 18 = .ok (.iconst 4, 1) := by decide +kernel
theorem dX6_init_19 : decode cX6_init 19 = .ok (.multianewarray 18 3, 4) := by decide +kernel
theorem dX6_init_23 : decode cX6_init 23 = .ok (.putfield 20, 3) := by decide +kernel
theorem dX6_init_26 : decode cX6_init 26 = .ok (.aload_n 0, 1) := by decide +kernel
theorem dX6_init_27 : decode cX6_init 27 = .ok (.new 23, 3) := by decide +kernel
theorem dX6_init_30 : decode cX6_init 30 = .ok (.dup, 1) := by decide +kernel
theorem dX6_init_31 : decode cX6_init 31 = .ok (.invokespecial 25, 3) := by decide +kernel
theorem dX6_init_34 : decode cX6_init 34 = .ok (.putfield 26, 3) := by decide +kernel
theorem dX6_init_37 : decode cX6_init 37 = .ok (.return_, 1) := by decide +kernel
set_option maxRecDepth 20000 in
theorem ggX9_init_Jx4a65c_init_da8c8 : GoodIn wsX9_init wsJx4a65c_init_da8c8 := goodIn_r _ [25, 26, 27, 28, 29, 30, 31, 32, 33, 34, 35, 36, 37, 2, 3, 38, 39, 40, 54, 55, 56, 57, 58] (by decide +kernel) (by decide +kernel)
set_option maxRecDepth 20000 in
theorem gX9_init_Jx4a65c_init_da8c8 : GoodIn wsX9_init (wsJx4a65c_init_da8c8) := ggX9_init_Jx4a65c_init_da8c8
theorem dX9_init_0 : decode cX9_init 0 = .ok (.aload_n 0, 1) := by decide +kernel
theorem dX9_init_1 : decode cX9_init 1 = .ok (.invokespecial 1, 3) := by decide +kernel
theorem dX9_init_4 : decode cX9_init 4 = .ok (.aload_n 0, 1) := by decide +kernel
theorem dX9_init_5 : decode cX9_init 5 = .ok (.new 7, 3) := by decide +kernel
theorem dX9_init_8 : decode cX9_init 8 = .ok (.dup, 1) := by decide +kernel
theorem dX9_init_9 : decode cX9_init 9 = .ok (.invokespecial 9, 3) := by decide +kernel
theorem dX9_init_12 : decode cX9_init 12 = .ok (.putfield 10, 3) := by decide +kernel
theorem dX9_init_15 : decode cX9_init 15 = .ok (.aload_n 0, 1) := by decide +kernel
theorem dX9_init_16 : decode cX9_init 16 = .ok (.new 7, 3) := by decide +kernel
theorem dX9_init_19 : decode cX9_init 19 = .ok (.dup, 1) := by decide +kernel
theorem dX9_init_20 : decode cX9_init 20 = .ok (.invokespecial 9, 3) := by decide +kernel
theorem dX9_init_23 : decode cX9_init 23 = .ok (.putfield 16, 3) := by decide +kernel
theorem dX9_init_26 : decode cX9_init 26 = .ok (.aload_n 0, 1) := by decide +kernel
theorem dX9_init_27 : decode cX9_init 27 = .ok (.bipush 24, 2) := by decide +kernel
theorem dX9_init_29 : decode cX9_init 29 = .ok (.bipush 24, 2) := by decide +kernel
theorem dX9_init_31 : decode cX9_init 31 = .ok (.multianewarray 19 2, 4) := by decide +kernel
theorem dX9_init_35 : decode cX9_init 35 = .ok (.putfield 21, 3) := by decide +kernel
theorem dX9_init_38 : decode cX9_init 38 = .ok (.aload_n 0, 1) := by decide +kernel
theorem dX9_init_39 : decode cX9_init 39 = .ok (.new 7, 3) := by decide +kernel
theorem dX9_init_42 : decode cX9_init 42 = .ok (.dup, 1) := by decide +kernel
theorem dX9_init_43 : decode cX9_init 43 = .ok (.invokespecial 9, 3) := by decide +kernel
theorem dX9_init_46 : decode cX9_init 46 = .ok (.putfield 24, 3) := by decide +kernel
theorem dX9_init_49 : decode cX9_init 49 = .ok (.aload_n 0, 1) := by decide +kernel
theorem dX9_init_50 : decode cX9_init 50 = .ok (.bipush 8, 2) := by decide +kernel
theorem dX9_init_52 : decode cX9_init 52 = .ok (.newarray .int, 2) := by decide +kernel
theorem dX9_init_54 : decode cX9_init 54 = .ok (.putfield 27, 3) := by decide +kernel
theorem dX9_init_57 : decode cX9_init 57 = .ok (.aload_n 0, 1) := by decide +kernel
theorem dX9_init_58 : decode cX9_init 58 = .ok (.bipush 8, 2) := by decide +kernel
theorem dX9_init_60 : decode cX9_init 60 = .ok (.newarray .int, 2) := by decide +kernel
theorem dX9_init_62 : decode cX9_init 62 = .ok (.putfield 31, 3) := by decide +kernel
theorem dX9_init_65 : decode cX9_init 65 = .ok (.aload_n 0, 1) := by decide +kernel
theorem dX9_init_66 : decode cX9_init 66 = .ok (.new 7, 3) := by decide +kernel
theorem dX9_init_69 : decode cX9_init 69 = .ok (.dup, 1) := by decide +kernel
theorem dX9_init_70 : decode cX9_init 70 = .ok (.invokespecial 9, 3) := by decide +kernel
theorem dX9_init_73 : decode cX9_init 73 = .ok (.putfield 34, 3) := by decide +kernel
theorem dX9_init_76 : decode cX9_init 76 = .ok (.aload_n 0, 1) := by decide +kernel
theorem dX9_init_77 : decode cX9_init 77 = .ok (.new 7, 3) := by decide +kernel
theorem dX9_init_80 : decode cX9_init 80 = .ok (.dup, 1) := by decide +kernel
theorem dX9_init_81 : decode cX9_init 81 = .ok (.invokespecial 9, 3) := by decide +kernel
theorem dX9_init_84 : decode cX9_init 84 = .ok (.putfield 37, 3) := by decide +kernel
theorem dX9_init_87 : decode cX9_init 87 = .ok (.aload_n 0, 1) := by decide +kernel
theorem dX9_init_88 : decode cX9_init 88 = .ok (.iconst 4, 1) := by decide +kernel
theorem dX9_init_89 : decode cX9_init 89 = .ok (.newarray .int, 2) := by decide +kernel
theorem dX9_init_91 : decode cX9_init 91 = .ok (.putfield 40, 3) := by decide +kernel
theorem dX9_init_94 : decode cX9_init 94 = .ok (.aload_n 0, 1) := by decide +kernel
theorem dX9_init_95 : decode cX9_init 95 = .ok (.iconst 1, 1) := by decide +kernel
theorem dX9_init_96 : decode cX9_init 96 = .ok (.putfield 43, 3) := by decide +kernel
theorem dX9_init_99 : decode cX9_init 99 = .ok (.aload_n 0, 1) := by decide +kernel
theorem dX9_init_100 : decode cX9_init 100 = .ok (.bipush 10, 2) := by decide +kernel
theorem dX9_init_102 : decode cX9_init 102 = .ok (.putfield 47, 3) := by decide +kernel
theorem dX9_init_105 : decode cX9_init 105 = .ok (.aload_n 0, 1) := by decide +kernel
theorem dX9_init_106 : decode cX9_init 106 = .ok (.iconst 0, 1) := by decide +kernel
theorem dX9_init_107 : decode cX9_init 107 = .ok (.putfield 50, 3) := by decide +kernel
theorem dX9_init_110 : decode cX9_init 110 = .ok (.aload_n 0, 1) := by decide +kernel
theorem dX9_init_111 : decode cX9_init 111 = .ok (.iconst 0, 1) := by decide +kernel
theorem dX9_init_112 : decode cX9_init 112 = .ok (.putfield 53, 3) := by decide +kernel
theorem dX9_init_115 : decode cX9_init 115 = .ok (.iconst 0, 1) := by decide +kernel
theorem dX9_init_116 : decode cX9_init 116 = .ok (.istore_n 1, 1) := by decide +kernel
theorem dX9_init_117 : decode cX9_init 117 = .ok (.iload_n 1, 1) := by decide +kernel
theorem dX9_init_118 : decode cX9_init 118 = .ok (.bipush 8, 2) := by decide +kernel
theorem dX9_init_120 : decode cX9_init 120 = .ok (.if_icmp .ge 24, 3) := by decide +kernel
theorem dX9_init_123 : decode cX9_init 123 = .ok (.aload_n 0, 1) := by decide +kernel
theorem dX9_init_124 : decode cX9_init 124 = .ok (.getfield 27, 3) := by decide +kernel
theorem dX9_init_127 : decode cX9_init 127 = .ok (.iload_n 1, 1) := by decide +kernel
theorem dX9_init_128 : decode cX9_init 128 = .ok (.iconst 1, 1) := by decide +kernel
theorem dX9_init_129 : decode cX9_init 129 = .ok (.iastore, 1) := by decide +kernel
theorem dX9_init_130 : decode cX9_init 130 = .ok (.aload_n 0, 1) := by decide +kernel
theorem dX9_init_131 : decode cX9_init 131 = .ok (.getfield 31, 3) := by decide +kernel
theorem dX9_init_134 : decode cX9_init 134 = .ok (.iload_n 1, 1) := by decide +kernel
theorem dX9_init_135 : decode cX9_init 135 = .ok (.bipush 12, 2) := by decide +kernel
theorem dX9_init_137 : decode cX9_init 137 = .ok (.iastore, 1) := by decide +kernel
theorem dX9_init_138 : decode cX9_init 138 = .ok (.iinc 1 1, 3) := by decide +kernel
theorem dX9_init_141 : decode cX9_init 141 = .ok (.goto (-24), 3) := by decide +kernel
theorem dX9_init_144 : decode cX9_init 144 = .ok (.return_, 1) := by decide +kernel
theorem dJxa1e45_init_da8c8_0 : decode cJxa1e45_init_da8c8 0 = .ok (.aload_n 0, 1) := by decide +kernel
theorem dJxa1e45_init_da8c8_1 : decode cJxa1e45_init_da8c8 1 = .ok (.invokespecial 1, 3) := by decide +kernel
theorem dJxa1e45_init_da8c8_4 : decode cJxa1e45_init_da8c8 4 = .ok (.return_, 1) := by decide +kernel
set_option maxRecDepth 20000 in
theorem ggJxc12de_init_da8c8_Jxa1e45_init_da8c8 : GoodIn wsJxc12de_init_da8c8 wsJxa1e45_init_da8c8 := goodIn_r _ [5, 6, 7, 8] (by decide +kernel) (by decide +kernel)
set_option maxRecDepth 20000 in
theorem gJxc12de_init_da8c8_Jxa1e45_init_da8c8 : GoodIn wsJxc12de_init_da8c8 (wsJxa1e45_init_da8c8) := ggJxc12de_init_da8c8_Jxa1e45_init_da8c8
theorem dJxc12de_init_da8c8_0 : decode cJxc12de_init_da8c8 0 = .ok (.aload_n 0, 1) := by decide +kernel
theorem dJxc12de_init_da8c8_1 : decode cJxc12de_init_da8c8 1 = .ok (.invokespecial 1, 3) := by decide +kernel
theorem dJxc12de_init_da8c8_4 : decode cJxc12de_init_da8c8 4 = .ok (.aload_n 0, 1) := by decide +kernel
theorem dJxc12de_init_da8c8_5 : decode cJxc12de_init_da8c8 5 = .ok (.iconst 0, 1) := by decide +kernel
theorem dJxc12de_init_da8c8_6 : decode cJxc12de_init_da8c8 6 = .ok (.putfield 7, 3) := by decide +kernel
theorem dJxc12de_init_da8c8_9 : decode cJxc12de_init_da8c8 9 = .ok (.return_, 1) := by decide +kernel
set_option maxRecDepth 20000 in
theorem ggJx4a65c_init_da8c8_Jxc12de_init_da8c8 : GoodIn wsJx4a65c_init_da8c8 wsJxc12de_init_da8c8 := goodIn_r _ [6, 7, 8, 9, 10, 11, 12, 13, 14, 18, 19, 20, 21, 22, 15, 16, 17] (by decide +kernel) (by decide +kernel)
set_option maxRecDepth 20000 in
theorem gJx4a65c_init_da8c8_Jxc12de_init_da8c8 : GoodIn wsJx4a65c_init_da8c8 (wsJxc12de_init_da8c8) := ggJx4a65c_init_da8c8_Jxc12de_init_da8c8
theorem dJx4a65c_init_da8c8_0 : decode cJx4a65c_init_da8c8 0 = .ok (.aload_n 0, 1) := by decide +kernel
theorem dJx4a65c_init_da8c8_1 : decode cJx4a65c_init_da8c8 1 = .ok (.invokespecial 1, 3) := by decide +kernel
theorem dJx4a65c_init_da8c8_4 : decode cJx4a65c_init_da8c8 4 = .ok (.aload_n 0, 1) := by decide +kernel
theorem dJx4a65c_init_da8c8_5 : decode cJx4a65c_init_da8c8 5 = .ok (.getstatic 39, 3) := by decide +kernel
theorem dJx4a65c_init_da8c8_8 : decode cJx4a65c_init_da8c8 8 = .ok (.putfield 9, 3) := by decide +kernel
theorem dJx4a65c_init_da8c8_11 : decode cJx4a65c_init_da8c8 11 = .ok (.return_, 1) := by decide +kernel
theorem dfJx4a65c : ∀ j, j < 3 → defaultValue (tyJx4a65c j) = vp_V [.int 0, .null, .int 0] j := by
  intro j hj
  rcases (show j = 0 ∨ j = 1 ∨ j = 2 by omega) with rfl | rfl | rfl <;> rfl
set_option maxHeartbeats 4000000 in
set_option maxRecDepth 100000 in
theorem c_AC_init (l : Launch) (dC : Nat → ClassId) (dI : Nat → Nat → Nat) (y : Nat) : Met l yJxa1e45_init_da8c8 wsJxa1e45_init_da8c8 ({ frames := 1, cells := 0, slots := 0, locals := 12 }) (va_Pc [.ref y] (PS dC dI [] [])) (va_Sv (fun _ => True)) 0 0 (fun _ => False) := by
  refine Met.ofW (cc := cJxa1e45_init_da8c8) (maxL := 1) (ret := none) (by decide) rfl ?_
  intro p e s m args below meth c s₁ B hml hv
  obtain ⟨rfl, hP, hK, hF⟩ := hv
  have hx := B.exec
  have hb := B.bytes
  have hr := B.returns
  have hts := atoms_spec (ws := wsJxa1e45_init_da8c8) B.pre
  have hown : s.vm.findClass RJxa1e45 = some m.cls := findClass_of_methodNamed B.named
  have hlocks := B.notSynchronized
  have hl := lv_entry ([.ref y]) (n := 1) (Nat.le_of_ble_eq_true rfl)
  rw [lg_entry_eq]
  generalize (lg_sl ([.ref y]) ++ List.replicate (1 - (lg_sl ([.ref y])).length) Slot.unset).toArray = ls at hl ⊢
  have hl : lv_has ls 1 [(0, .ref y)] := hl
  refine lv_aload_n hx hb dJxa1e45_init_da8c8_0 rfl (lv_at hl 0 rfl) ?_
  refine W.objInit hx hb hown (hts (.methodLink RJxa1e45 1 objectInit) (List.mem_of_getElem? (i := 1) rfl)) (hts (.instanceMethod objectInit) (List.mem_of_getElem? (i := 2) rfl)) (hts _ (List.mem_of_getElem? (i := 3) rfl)) rfl (by rw [hml]; exact hl.1) rfl dJxa1e45_init_da8c8_1 (Nat.le_of_ble_eq_true rfl) (Nat.le_of_ble_eq_true rfl) ?_
  refine W.eq (g2 := F0 m 4 ls []) rfl ?_
  exact W.vret hx hb hr (fun t ht hW => ⟨rfl, trivial, ht⟩) (fun _ h9 => absurd h9 List.not_mem_nil) dJxa1e45_init_da8c8_4

set_option maxHeartbeats 4000000 in
set_option maxRecDepth 100000 in
theorem c_ALs_init (l : Launch) (dC : Nat → ClassId) (dI : Nat → Nat → Nat) (y : Nat) (sz : Nat) : Met l yJxc12de_init_da8c8 wsJxc12de_init_da8c8 ({ frames := 2, cells := 0, slots := 0, locals := 32 }) (va_Pc [.ref y] (PQ dC dI sz [(y, .inr (4, [.int 0, .null, .int 0]))] [])) (va_Qv (fun _ : Unit => True) (fun _ t => va_P (dC, dI) vwCl [(y, .inr (4, [.int 0, .null, .int 0]))] t.heap ∧ va_K (dC, dI) vwCl [] t ∧ va_D (va_A [(y, .inr (4, [.int 0, .null, .int 0]))] sz) [(y, .inr (4, [.int 0, .null, .int 0]))]) (va_A [(y, .inr (4, [.int 0, .null, .int 0]))] sz)) 0 0 (va_A [(y, .inr (4, [.int 0, .null, .int 0]))] sz) := by
  refine Met.ofW (cc := cJxc12de_init_da8c8) (maxL := 1) (ret := none) (by decide) rfl ?_
  intro p e s m args below meth c s₁ B hml hv
  obtain ⟨rfl, hsz, hP, hK, hD0, hF⟩ := hv
  have hx := B.exec
  have hb := B.bytes
  have hr := B.returns
  have hts := atoms_spec (ws := wsJxc12de_init_da8c8) B.pre
  have hown : s.vm.findClass RJxc12de = some m.cls := findClass_of_methodNamed B.named
  have hlocks := B.notSynchronized
  have hin : meth.name = "<init>" := (name_of_methodNamed B.named B.method).1
  subst hsz
  have hD := hD0.self (sz := s.heap.size)
  generalize hAe : va_A [(y, .inr (4, [.int 0, .null, .int 0]))] s.heap.size = A at hD ⊢
  have hA : ∀ q : Nat, s.heap.size ≤ q → A q := fun q h => by rw [← hAe]; exact Or.inr h
  have hS : va_S A s.heap s.heap [] := va_S.rf
  have hl := lv_entry ([.ref y]) (n := 1) (Nat.le_of_ble_eq_true rfl)
  rw [lg_entry_eq]
  generalize (lg_sl ([.ref y]) ++ List.replicate (1 - (lg_sl ([.ref y])).length) Slot.unset).toArray = ls at hl ⊢
  have hl : lv_has ls 1 [(0, .ref y)] := hl
  refine lv_aload_n hx hb dJxc12de_init_da8c8_0 rfl (lv_at hl 0 rfl) ?_
  refine va_csv (va_Run.run (va_runI (As := []) (rest := []) ⟨hx, hb, hml, hown, hts⟩ (c_AC_init l dC dI y) (cwI 0 hts gJxc12de_init_da8c8_Jxa1e45_init_da8c8 rfl rfl rfl (hts (.initialized RJxa1e45) (List.mem_of_getElem? (i := 4) rfl)) (hts (.methodLink RJxc12de 1 yJxa1e45_init_da8c8) (List.mem_of_getElem? (i := 2) rfl)) (hts (.instanceMethod yJxa1e45_init_da8c8) (List.mem_of_getElem? (i := 3) rfl)) rfl (by decide +kernel) ⟨Nat.le_of_ble_eq_true rfl, Nat.le_of_ble_eq_true rfl⟩) ⟨PS_blind, PS_pre (hP.sub (ws' := []) [] rfl) hK hF⟩ rfl rfl hl.1 rfl (lv_room (Nat.le_of_ble_eq_true rfl)) dJxc12de_init_da8c8_1 ⟨Nat.le_of_ble_eq_true rfl, Nat.le_of_ble_eq_true rfl⟩)) (fun _ => ?_)
  refine lv_aload_n hx hb dJxc12de_init_da8c8_4 rfl (lv_at hl 0 rfl) ?_
  refine lv_iconst (v := 0) hx hb dJxc12de_init_da8c8_5 (by decide) ?_
  refine va_put (D := (dC, dI)) (ci := 4) (v := .int 0) (ty := .int) (C := RJx4a65c) (T := TJx4a65c) (N := 3) hx hb hts (fun _ h9 => List.mem_cons_of_mem _ (List.mem_append_right _ (h9))) tyJx4a65c tyJx4a65c_ok nmJx4a65c hown hK hP hD hS 0 rfl rfl 0 (by decide) (hts (.fieldLink RJxc12de 7 "java/util/AbstractList" "modCount" "I") (List.mem_of_getElem? (i := 1) rfl)) (fun _ h9 => h9) rfl (by decide +kernel) rfl rfl (Nat.le_of_ble_eq_true rfl) dJxc12de_init_da8c8_6 (fun H locs hP hD hS => ?_)
  have hP : va_P (dC, dI) vwCl [(y, .inr (4, [.int 0, .null, .int 0]))] H := hP
  have hD : va_D A [(y, .inr (4, [.int 0, .null, .int 0]))] := hD
  have hP9 := hP.sub (ws' := [(y, .inr (4, [.int 0, .null, .int 0]))]) [0] rfl
  have hD9 := hD.sub (ws' := [(y, .inr (4, [.int 0, .null, .int 0]))]) [0] (by decide) rfl
  have hK9 := hK.sub (tys' := []) [] rfl
  exact W.vret hx hb hr (fun t ht hW => ⟨⟨(), rfl, trivial, by rw [ht]; exact hP9, va_K.moved hW.alike hK9, hD9⟩, hS.F ht⟩) hS.2.2 dJxc12de_init_da8c8_9

set_option maxHeartbeats 4000000 in
set_option maxRecDepth 100000 in
theorem c_AL_init (l : Launch) (dC : Nat → ClassId) (dI : Nat → Nat → Nat) (d : Nat) (tc : Nat) (ad : Nat → Nat) (y : Nat) (sz : Nat) : Met l yJx4a65c_init_da8c8 wsJx4a65c_init_da8c8 ({ frames := 3, cells := 0, slots := 0, locals := 52 }) (va_Pc [.ref y] (PZ dC dI d tc ad sz [(y, .inr (4, [.int 0, .null, .int 0]))] [])) (va_Qv (fun _ : Unit => True) (fun _ t => va_P (dC, dI) vwCl [(y, .inr (4, [.int 0, .ref d, .int 0]))] t.heap ∧ va_K (dC, dI) vwCl [] t ∧ va_D (va_A [(y, .inr (4, [.int 0, .null, .int 0]))] sz) [(y, .inr (4, [.int 0, .ref d, .int 0]))]) (va_A [(y, .inr (4, [.int 0, .null, .int 0]))] sz)) 0 0 (va_A [(y, .inr (4, [.int 0, .null, .int 0]))] sz) := by
  refine Met.ofW (cc := cJx4a65c_init_da8c8) (maxL := 1) (ret := none) (by decide) rfl ?_
  intro p e s m args below meth c s₁ B hml hv
  obtain ⟨rfl, hsz, hP, hK, hD0, hF, hZ⟩ := hv
  have hx := B.exec
  have hb := B.bytes
  have hr := B.returns
  have hts := atoms_spec (ws := wsJx4a65c_init_da8c8) B.pre
  have hown : s.vm.findClass RJx4a65c = some m.cls := findClass_of_methodNamed B.named
  have hlocks := B.notSynchronized
  have hin : meth.name = "<init>" := (name_of_methodNamed B.named B.method).1
  subst hsz
  have hD := hD0.self (sz := s.heap.size)
  generalize hAe : va_A [(y, .inr (4, [.int 0, .null, .int 0]))] s.heap.size = A at hD hZ ⊢
  have hA : ∀ q : Nat, s.heap.size ≤ q → A q := fun q h => by rw [← hAe]; exact Or.inr h
  have hS : va_S A s.heap s.heap [] := va_S.rf
  have hl := lv_entry ([.ref y]) (n := 1) (Nat.le_of_ble_eq_true rfl)
  rw [lg_entry_eq]
  generalize (lg_sl ([.ref y]) ++ List.replicate (1 - (lg_sl ([.ref y])).length) Slot.unset).toArray = ls at hl ⊢
  have hl : lv_has ls 1 [(0, .ref y)] := hl
  refine lv_aload_n hx hb dJx4a65c_init_da8c8_0 rfl (lv_at hl 0 rfl) ?_
  have hPc := hP.sub (ws' := [(y, .inr (4, [.int 0, .null, .int 0]))]) [0] rfl
  have hDc := hD.sub (ws' := [(y, .inr (4, [.int 0, .null, .int 0]))]) [0] (by decide) rfl
  have hKc := hK.sub (tys' := []) [] rfl
  have hFc := va_free (wc := [(y, .inr (4, [.int 0, .null, .int 0]))]) hD hS hA [0] rfl
  refine va_callv (va_runI (As := []) (rest := []) ⟨hx, hb, hml, hown, hts⟩ (c_ALs_init l dC dI y s.heap.size) (cwI 0 hts gJx4a65c_init_da8c8_Jxc12de_init_da8c8 rfl rfl rfl (hts (.initialized RJxc12de) (List.mem_of_getElem? (i := 5) rfl)) (hts (.methodLink RJx4a65c 1 yJxc12de_init_da8c8) (List.mem_of_getElem? (i := 3) rfl)) (hts (.instanceMethod yJxc12de_init_da8c8) (List.mem_of_getElem? (i := 4) rfl)) rfl (by decide +kernel) ⟨Nat.le_of_ble_eq_true rfl, Nat.le_of_ble_eq_true rfl⟩) ⟨PQ_blind, PQ_pre hPc hKc hDc hF⟩ rfl rfl hl.1 rfl (lv_room (Nat.le_of_ble_eq_true rfl)) dJx4a65c_init_da8c8_1 ⟨Nat.le_of_ble_eq_true rfl, Nat.le_of_ble_eq_true rfl⟩) hS (fun q _ h => hFc q h) hFc (fun u t H1 locs ht hvm hw hB hz1 hk1 hS => ?_)
  obtain ⟨hP1, hK1, hD1⟩ := hB
  rw [ht] at hP1
  have hK1 := va_K.moved hvm.symm hK1
  obtain ⟨hP, hD⟩ := va_join (wr := []) (w1 := [(y, .inr (4, [.int 0, .null, .int 0]))]) hP hD [0] [] rfl rfl (by decide) (by decide) hk1 hFc hP1 hD1
  have hK := hK.app hK1
  generalize H1 = H at hP hS ⊢
  have hP : va_P (dC, dI) vwCl [(y, .inr (4, [.int 0, .null, .int 0]))] H := hP
  have hD : va_D A [(y, .inr (4, [.int 0, .null, .int 0]))] := hD
  have hK : va_K (dC, dI) vwCl [] s := hK
  refine W.widen (k := 0) (n := 0) (Nat.le_of_ble_eq_true rfl) (Nat.le_of_ble_eq_true rfl) ?_
  refine lv_aload_n hx hb dJx4a65c_init_da8c8_4 rfl (lv_at hl 0 rfl) ?_
  refine va_gets hx hb hZ.1 hS hown (hts (.fieldLink RJx4a65c 39 "java/util/ArrayList" "DEFAULTCAPACITY_EMPTY_ELEMENTDATA" "[Ljava/lang/Object;") (List.mem_of_getElem? (i := 1) rfl)) (fun _ h9 => h9) dJx4a65c_init_da8c8_5 ?_
  refine va_put (D := (dC, dI)) (ci := 4) (v := .ref d) (ty := .array (.object "java/lang/Object")) (C := RJx4a65c) (T := TJx4a65c) (N := 3) hx hb hts (fun _ h9 => List.mem_cons_of_mem _ (List.mem_append_left _ (List.mem_append_right _ (h9)))) tyJx4a65c tyJx4a65c_ok nmJx4a65c hown hK hP hD hS 0 rfl rfl 1 (by decide) (hts (.fieldLink RJx4a65c 9 "java/util/ArrayList" "elementData" "[Ljava/lang/Object;") (List.mem_of_getElem? (i := 2) rfl)) (fun _ h9 => h9) rfl (by decide +kernel) rfl rfl (Nat.le_of_ble_eq_true rfl) dJx4a65c_init_da8c8_8 (fun H locs hP hD hS => ?_)
  have hP : va_P (dC, dI) vwCl [(y, .inr (4, [.int 0, .ref d, .int 0]))] H := hP
  have hD : va_D A [(y, .inr (4, [.int 0, .ref d, .int 0]))] := hD
  have hP9 := hP.sub (ws' := [(y, .inr (4, [.int 0, .ref d, .int 0]))]) [0] rfl
  have hD9 := hD.sub (ws' := [(y, .inr (4, [.int 0, .ref d, .int 0]))]) [0] (by decide) rfl
  have hK9 := hK.sub (tys' := []) [] rfl
  exact W.vret hx hb hr (fun t ht hW => ⟨⟨(), rfl, trivial, by rw [ht]; exact hP9, va_K.moved hW.alike hK9, hD9⟩, hS.F ht⟩) hS.2.2 dJx4a65c_init_da8c8_11

set_option maxHeartbeats 4000000 in
set_option maxRecDepth 100000 in
theorem c_X9_init (l : Launch) (dC : Nat → ClassId) (dI : Nat → Nat → Nat) (d : Nat) (tc : Nat) (ad : Nat → Nat) (mx : Nat) (sz : Nat) : Met l yX9_init wsX9_init ({ frames := 4, cells := 33, slots := 635, locals := 72 }) (va_Pc [.ref mx] (PZ dC dI d tc ad sz [(mx, .inr (14, [.null, .null, .null, .null, .null, .null, .null, .null, .null, .int 0, .int 0, .int 0, .int 0]))] [])) (va_Qv (fun _ : Unit => True) (fun _ t => ∃ (lc : Nat) (lr : Nat) (kn : Nat) (lt : Nat) (ml : Nat) (mm : Nat) (lp : Nat) (lb : Nat) (mq : Nat) (kl : ClassId) (km : ClassId) (kq : ClassId) (fl : Nat → Int32) (fm : Nat → Int32), va_P (dC, dI) vwCl [(mx, .inr (14, [.ref lc, .ref lr, .ref kn, .ref lt, .ref ml, .ref mm, .ref lp, .ref lb, .ref mq, .int 1, .int 10, .int 0, .int 0])), (lc, .inr (4, [.int 0, .ref d, .int 0])), (lr, .inr (4, [.int 0, .ref d, .int 0])), (lt, .inr (4, [.int 0, .ref d, .int 0])), (lp, .inr (4, [.int 0, .ref d, .int 0])), (lb, .inr (4, [.int 0, .ref d, .int 0])), (ml, .inl (kl, 8, .inl fl)), (mm, .inl (km, 8, .inl fm)), (mq, .inl (kq, 4, .inl (fun _ => 0)))] t.heap ∧ va_K (dC, dI) vwCl [(kl, .int), (km, .int), (kq, .int)] t ∧ va_D (va_A [(mx, .inr (14, [.null, .null, .null, .null, .null, .null, .null, .null, .null, .int 0, .int 0, .int 0, .int 0]))] sz) [(mx, .inr (14, [.ref lc, .ref lr, .ref kn, .ref lt, .ref ml, .ref mm, .ref lp, .ref lb, .ref mq, .int 1, .int 10, .int 0, .int 0])), (lc, .inr (4, [.int 0, .ref d, .int 0])), (lr, .inr (4, [.int 0, .ref d, .int 0])), (lt, .inr (4, [.int 0, .ref d, .int 0])), (lp, .inr (4, [.int 0, .ref d, .int 0])), (lb, .inr (4, [.int 0, .ref d, .int 0])), (ml, .inl (kl, 8, .inl fl)), (mm, .inl (km, 8, .inl fm)), (mq, .inl (kq, 4, .inl (fun _ => 0)))]) (va_A [(mx, .inr (14, [.null, .null, .null, .null, .null, .null, .null, .null, .null, .int 0, .int 0, .int 0, .int 0]))] sz)) 33 635 (va_A [(mx, .inr (14, [.null, .null, .null, .null, .null, .null, .null, .null, .null, .int 0, .int 0, .int 0, .int 0]))] sz) := by
  refine Met.ofW (cc := cX9_init) (maxL := 2) (ret := none) (by decide) rfl ?_
  intro p e s m args below meth c s₁ B hml hv
  obtain ⟨rfl, hsz, hP, hK, hD0, hF, hZ⟩ := hv
  have hx := B.exec
  have hb := B.bytes
  have hr := B.returns
  have hts := atoms_spec (ws := wsX9_init) B.pre
  have hown : s.vm.findClass RX9 = some m.cls := findClass_of_methodNamed B.named
  have hlocks := B.notSynchronized
  have hin : meth.name = "<init>" := (name_of_methodNamed B.named B.method).1
  subst hsz
  have hD := hD0.self (sz := s.heap.size)
  generalize hAe : va_A [(mx, .inr (14, [.null, .null, .null, .null, .null, .null, .null, .null, .null, .int 0, .int 0, .int 0, .int 0]))] s.heap.size = A at hD hZ ⊢
  have hA : ∀ q : Nat, s.heap.size ≤ q → A q := fun q h => by rw [← hAe]; exact Or.inr h
  have hS : va_S A s.heap s.heap [] := va_S.rf
  have hl := lv_entry ([.ref mx]) (n := 2) (Nat.le_of_ble_eq_true rfl)
  rw [lg_entry_eq]
  generalize (lg_sl ([.ref mx]) ++ List.replicate (2 - (lg_sl ([.ref mx])).length) Slot.unset).toArray = ls at hl ⊢
  have hl : lv_has ls 2 [(0, .ref mx)] := hl
  refine lv_aload_n hx hb dX9_init_0 rfl (lv_at hl 0 rfl) ?_
  refine W.objInit hx hb hown (hts (.methodLink RX9 1 objectInit) (List.mem_of_getElem? (i := 1) rfl)) (hts (.instanceMethod objectInit) (List.mem_of_getElem? (i := 2) rfl)) (hts _ (List.mem_of_getElem? (i := 3) rfl)) rfl (by rw [hml]; exact hl.1) rfl dX9_init_1 (Nat.le_of_ble_eq_true rfl) (Nat.le_of_ble_eq_true rfl) ?_
  refine W.eq (g2 := F0 m 4 ls []) rfl ?_
  refine lv_aload_n hx hb dX9_init_4 rfl (lv_at hl 0 rfl) ?_
  refine va_new (ci := 4) (fs := [.int 0, .null, .int 0]) (C := RJx4a65c) (T := TJx4a65c) (N := 3) hx hb hts (fun _ h9 => List.mem_cons_of_mem _ (List.mem_append_left _ (List.mem_append_left _ (List.mem_append_right _ (h9))))) tyJx4a65c tyJx4a65c_ok hown (hts (.classLink RX9 7 RJx4a65c) (List.mem_of_getElem? (i := 4) rfl)) (hts (.instantiable RJx4a65c 3) (List.mem_of_getElem? (i := 5) rfl)) (hts (.initialized RJx4a65c) (List.mem_of_getElem? (i := 6) rfl)) hK hP hD hS hA rfl dfJx4a65c (Nat.le_of_ble_eq_true rfl) (Nat.le_of_ble_eq_true rfl) dX9_init_5 (fun q_1 H hP hD hS => ?_)
  have hP : va_P (dC, dI) vwCl [(mx, .inr (14, [.null, .null, .null, .null, .null, .null, .null, .null, .null, .int 0, .int 0, .int 0, .int 0])), (q_1, .inr (4, [.int 0, .null, .int 0]))] H := hP
  have hD : va_D A [(mx, .inr (14, [.null, .null, .null, .null, .null, .null, .null, .null, .null, .int 0, .int 0, .int 0, .int 0])), (q_1, .inr (4, [.int 0, .null, .int 0]))] := hD
  refine W.widen (k := 1) (n := 3) (Nat.le_of_ble_eq_true rfl) (Nat.le_of_ble_eq_true rfl) ?_
  refine lv_dup hx hb dX9_init_8 rfl ?_
  have hPc := hP.sub (ws' := [(q_1, .inr (4, [.int 0, .null, .int 0]))]) [1] rfl
  have hDc := hD.sub (ws' := [(q_1, .inr (4, [.int 0, .null, .int 0]))]) [1] (by decide) rfl
  have hKc := hK.sub (tys' := []) [] rfl
  have hFc := va_free (wc := [(q_1, .inr (4, [.int 0, .null, .int 0]))]) hD hS hA [1] rfl
  refine va_callv (va_runI (As := []) (rest := [.ref q_1, .ref mx]) ⟨hx, hb, hml, hown, hts⟩ (c_AL_init l dC dI d tc ad q_1 H.size) (cwI 0 hts gX9_init_Jx4a65c_init_da8c8 rfl rfl rfl (hts (.initialized RJx4a65c) (List.mem_of_getElem? (i := 6) rfl)) (hts (.methodLink RX9 9 yJx4a65c_init_da8c8) (List.mem_of_getElem? (i := 23) rfl)) (hts (.instanceMethod yJx4a65c_init_da8c8) (List.mem_of_getElem? (i := 24) rfl)) rfl (by decide +kernel) ⟨Nat.le_of_ble_eq_true rfl, Nat.le_of_ble_eq_true rfl⟩) ⟨PZ_blind, PZ_pre hPc hKc hDc hF hZ hS hFc⟩ rfl rfl hl.1 rfl (lv_room (Nat.le_of_ble_eq_true rfl)) dX9_init_9 ⟨Nat.le_of_ble_eq_true rfl, Nat.le_of_ble_eq_true rfl⟩) hS (fun q _ h => hFc q h) hFc (fun u t H1 locs ht hvm hw hB hz1 hk1 hS => ?_)
  obtain ⟨hP1, hK1, hD1⟩ := hB
  rw [ht] at hP1
  have hK1 := va_K.moved hvm.symm hK1
  obtain ⟨hP, hD⟩ := va_join (wr := [(mx, .inr (14, [.null, .null, .null, .null, .null, .null, .null, .null, .null, .int 0, .int 0, .int 0, .int 0]))]) (w1 := [(q_1, .inr (4, [.int 0, .ref d, .int 0]))]) hP hD [1] [0] rfl rfl (by decide) (by decide) hk1 hFc hP1 hD1
  have hK := hK.app hK1
  generalize H1 = H at hP hS ⊢
  have hP : va_P (dC, dI) vwCl [(mx, .inr (14, [.null, .null, .null, .null, .null, .null, .null, .null, .null, .int 0, .int 0, .int 0, .int 0])), (q_1, .inr (4, [.int 0, .ref d, .int 0]))] H := hP
  have hD : va_D A [(mx, .inr (14, [.null, .null, .null, .null, .null, .null, .null, .null, .null, .int 0, .int 0, .int 0, .int 0])), (q_1, .inr (4, [.int 0, .ref d, .int 0]))] := hD
  have hK : va_K (dC, dI) vwCl [] s := hK
  refine W.widen (k := 1) (n := 3) (Nat.le_of_ble_eq_true rfl) (Nat.le_of_ble_eq_true rfl) ?_
  refine va_putF (D := (dC, dI)) (ci := 14) (v := .ref q_1) (ty := .object "java/util/List") (C := RX9) (T := TX9) (N := 13) hx hb hts (fun _ h9 => List.mem_cons_of_mem _ (List.mem_append_left _ (List.mem_append_right _ (h9)))) tyX9 tyX9_ok nmX9 hown hK hP hD hS 0 rfl rfl 0 (by decide) (hts (.fieldLink RX9 10 "ExamHallsModel" "candidates" "Ljava/util/List;") (List.mem_of_getElem? (i := 7) rfl)) (fun _ h9 => h9) rfl hin rfl (by decide +kernel) rfl rfl (Nat.le_of_ble_eq_true rfl) dX9_init_12 (fun H locs hP hD hS => ?_)
  have hP : va_P (dC, dI) vwCl [(mx, .inr (14, [.ref q_1, .null, .null, .null, .null, .null, .null, .null, .null, .int 0, .int 0, .int 0, .int 0])), (q_1, .inr (4, [.int 0, .ref d, .int 0]))] H := hP
  have hD : va_D A [(mx, .inr (14, [.ref q_1, .null, .null, .null, .null, .null, .null, .null, .null, .int 0, .int 0, .int 0, .int 0])), (q_1, .inr (4, [.int 0, .ref d, .int 0]))] := hD
  refine lv_aload_n hx hb dX9_init_15 rfl (lv_at hl 0 rfl) ?_
  refine va_new (ci := 4) (fs := [.int 0, .null, .int 0]) (C := RJx4a65c) (T := TJx4a65c) (N := 3) hx hb hts (fun _ h9 => List.mem_cons_of_mem _ (List.mem_append_left _ (List.mem_append_left _ (List.mem_append_right _ (h9))))) tyJx4a65c tyJx4a65c_ok hown (hts (.classLink RX9 7 RJx4a65c) (List.mem_of_getElem? (i := 4) rfl)) (hts (.instantiable RJx4a65c 3) (List.mem_of_getElem? (i := 5) rfl)) (hts (.initialized RJx4a65c) (List.mem_of_getElem? (i := 6) rfl)) hK hP hD hS hA rfl dfJx4a65c (Nat.le_of_ble_eq_true rfl) (Nat.le_of_ble_eq_true rfl) dX9_init_16 (fun q_3 H hP hD hS => ?_)
  have hP : va_P (dC, dI) vwCl [(mx, .inr (14, [.ref q_1, .null, .null, .null, .null, .null, .null, .null, .null, .int 0, .int 0, .int 0, .int 0])), (q_1, .inr (4, [.int 0, .ref d, .int 0])), (q_3, .inr (4, [.int 0, .null, .int 0]))] H := hP
  have hD : va_D A [(mx, .inr (14, [.ref q_1, .null, .null, .null, .null, .null, .null, .null, .null, .int 0, .int 0, .int 0, .int 0])), (q_1, .inr (4, [.int 0, .ref d, .int 0])), (q_3, .inr (4, [.int 0, .null, .int 0]))] := hD
  refine W.widen (k := 2) (n := 6) (Nat.le_of_ble_eq_true rfl) (Nat.le_of_ble_eq_true rfl) ?_
  refine lv_dup hx hb dX9_init_19 rfl ?_
  have hPc := hP.sub (ws' := [(q_3, .inr (4, [.int 0, .null, .int 0]))]) [2] rfl
  have hDc := hD.sub (ws' := [(q_3, .inr (4, [.int 0, .null, .int 0]))]) [2] (by decide) rfl
  have hKc := hK.sub (tys' := []) [] rfl
  have hFc := va_free (wc := [(q_3, .inr (4, [.int 0, .null, .int 0]))]) hD hS hA [2] rfl
  refine va_callv (va_runI (As := []) (rest := [.ref q_3, .ref mx]) ⟨hx, hb, hml, hown, hts⟩ (c_AL_init l dC dI d tc ad q_3 H.size) (cwI 0 hts gX9_init_Jx4a65c_init_da8c8 rfl rfl rfl (hts (.initialized RJx4a65c) (List.mem_of_getElem? (i := 6) rfl)) (hts (.methodLink RX9 9 yJx4a65c_init_da8c8) (List.mem_of_getElem? (i := 23) rfl)) (hts (.instanceMethod yJx4a65c_init_da8c8) (List.mem_of_getElem? (i := 24) rfl)) rfl (by decide +kernel) ⟨Nat.le_of_ble_eq_true rfl, Nat.le_of_ble_eq_true rfl⟩) ⟨PZ_blind, PZ_pre hPc hKc hDc hF hZ hS hFc⟩ rfl rfl hl.1 rfl (lv_room (Nat.le_of_ble_eq_true rfl)) dX9_init_20 ⟨Nat.le_of_ble_eq_true rfl, Nat.le_of_ble_eq_true rfl⟩) hS (fun q _ h => hFc q h) hFc (fun u t H1 locs ht hvm hw hB hz1 hk1 hS => ?_)
  obtain ⟨hP1, hK1, hD1⟩ := hB
  rw [ht] at hP1
  have hK1 := va_K.moved hvm.symm hK1
  obtain ⟨hP, hD⟩ := va_join (wr := [(mx, .inr (14, [.ref q_1, .null, .null, .null, .null, .null, .null, .null, .null, .int 0, .int 0, .int 0, .int 0])), (q_1, .inr (4, [.int 0, .ref d, .int 0]))]) (w1 := [(q_3, .inr (4, [.int 0, .ref d, .int 0]))]) hP hD [2] [0, 1] rfl rfl (by decide) (by decide) hk1 hFc hP1 hD1
  have hK := hK.app hK1
  generalize H1 = H at hP hS ⊢
  have hP : va_P (dC, dI) vwCl [(mx, .inr (14, [.ref q_1, .null, .null, .null, .null, .null, .null, .null, .null, .int 0, .int 0, .int 0, .int 0])), (q_1, .inr (4, [.int 0, .ref d, .int 0])), (q_3, .inr (4, [.int 0, .ref d, .int 0]))] H := hP
  have hD : va_D A [(mx, .inr (14, [.ref q_1, .null, .null, .null, .null, .null, .null, .null, .null, .int 0, .int 0, .int 0, .int 0])), (q_1, .inr (4, [.int 0, .ref d, .int 0])), (q_3, .inr (4, [.int 0, .ref d, .int 0]))] := hD
  have hK : va_K (dC, dI) vwCl [] s := hK
  refine W.widen (k := 2) (n := 6) (Nat.le_of_ble_eq_true rfl) (Nat.le_of_ble_eq_true rfl) ?_
  refine va_putF (D := (dC, dI)) (ci := 14) (v := .ref q_3) (ty := .object "java/util/List") (C := RX9) (T := TX9) (N := 13) hx hb hts (fun _ h9 => List.mem_cons_of_mem _ (List.mem_append_left _ (List.mem_append_right _ (h9)))) tyX9 tyX9_ok nmX9 hown hK hP hD hS 0 rfl rfl 1 (by decide) (hts (.fieldLink RX9 16 "ExamHallsModel" "readers" "Ljava/util/List;") (List.mem_of_getElem? (i := 8) rfl)) (fun _ h9 => h9) rfl hin rfl (by decide +kernel) rfl rfl (Nat.le_of_ble_eq_true rfl) dX9_init_23 (fun H locs hP hD hS => ?_)
  have hP : va_P (dC, dI) vwCl [(mx, .inr (14, [.ref q_1, .ref q_3, .null, .null, .null, .null, .null, .null, .null, .int 0, .int 0, .int 0, .int 0])), (q_1, .inr (4, [.int 0, .ref d, .int 0])), (q_3, .inr (4, [.int 0, .ref d, .int 0]))] H := hP
  have hD : va_D A [(mx, .inr (14, [.ref q_1, .ref q_3, .null, .null, .null, .null, .null, .null, .null, .int 0, .int 0, .int 0, .int 0])), (q_1, .inr (4, [.int 0, .ref d, .int 0])), (q_3, .inr (4, [.int 0, .ref d, .int 0]))] := hD
  refine lv_aload_n hx hb dX9_init_26 rfl (lv_at hl 0 rfl) ?_
  refine lv_bipush (v := 24) hx hb dX9_init_27 (by decide) ?_
  refine lv_bipush (v := 24) hx hb dX9_init_29 (by decide) ?_
  obtain ⟨cy, ca, ka, hcy, hka, hkk, hca⟩ := hF.2.2.2.2.2.1
  obtain ⟨cy2, kyy, cz, hcy2, hky, hkky⟩ := Cond.arrayClass_spec (hts (.arrayClass .boolean) (List.mem_of_getElem? (i := 10) rfl))
  cases hcy2.symm.trans hcy
  refine mk_W2 (n1 := 24) (n2 := 24) (kc := 25) (ns := 600) hx hb hown (hts (.classLink RX9 19 "[[Z") (List.mem_of_getElem? (i := 9) rfl)) hca (fun f V hV => ?_) dX9_init_31 (Nat.le_of_ble_eq_true rfl) (Nat.le_of_ble_eq_true rfl) hP hS hA (fun q_5 H locs hP hS => ?_)
  · obtain ⟨k1, hk1, he1⟩ := hV.2.2 _ _ hka
    obtain ⟨k2, hk2, he2⟩ := hV.2.2 _ _ hky
    exact mk_step (kc := 1) (ns := 24) hk1 (by rw [he1]; exact hkk) rfl (by decide) (by decide) (by decide) (by decide) (mk_one (k := 24) hk2 (by rw [he2]; exact hkky) (by decide) (by decide) rfl rfl (by decide))
  have hP : va_P (dC, dI) vwCl [(mx, .inr (14, [.ref q_1, .ref q_3, .null, .null, .null, .null, .null, .null, .null, .int 0, .int 0, .int 0, .int 0])), (q_1, .inr (4, [.int 0, .ref d, .int 0])), (q_3, .inr (4, [.int 0, .ref d, .int 0]))] H := hP
  refine W.widen (k := 27) (n := 606) (Nat.le_of_ble_eq_true rfl) (Nat.le_of_ble_eq_true rfl) ?_
  refine va_putF (D := (dC, dI)) (ci := 14) (v := .ref q_5) (ty := .array (.array .boolean)) (C := RX9) (T := TX9) (N := 13) hx hb hts (fun _ h9 => List.mem_cons_of_mem _ (List.mem_append_left _ (List.mem_append_right _ (h9)))) tyX9 tyX9_ok nmX9 hown hK hP hD hS 0 rfl rfl 2 (by decide) (hts (.fieldLink RX9 21 "ExamHallsModel" "kin" "[[Z") (List.mem_of_getElem? (i := 11) rfl)) (fun _ h9 => h9) rfl hin rfl (by decide +kernel) rfl rfl (Nat.le_of_ble_eq_true rfl) dX9_init_35 (fun H locs hP hD hS => ?_)
  have hP : va_P (dC, dI) vwCl [(mx, .inr (14, [.ref q_1, .ref q_3, .ref q_5, .null, .null, .null, .null, .null, .null, .int 0, .int 0, .int 0, .int 0])), (q_1, .inr (4, [.int 0, .ref d, .int 0])), (q_3, .inr (4, [.int 0, .ref d, .int 0]))] H := hP
  have hD : va_D A [(mx, .inr (14, [.ref q_1, .ref q_3, .ref q_5, .null, .null, .null, .null, .null, .null, .int 0, .int 0, .int 0, .int 0])), (q_1, .inr (4, [.int 0, .ref d, .int 0])), (q_3, .inr (4, [.int 0, .ref d, .int 0]))] := hD
  refine lv_aload_n hx hb dX9_init_38 rfl (lv_at hl 0 rfl) ?_
  refine va_new (ci := 4) (fs := [.int 0, .null, .int 0]) (C := RJx4a65c) (T := TJx4a65c) (N := 3) hx hb hts (fun _ h9 => List.mem_cons_of_mem _ (List.mem_append_left _ (List.mem_append_left _ (List.mem_append_right _ (h9))))) tyJx4a65c tyJx4a65c_ok hown (hts (.classLink RX9 7 RJx4a65c) (List.mem_of_getElem? (i := 4) rfl)) (hts (.instantiable RJx4a65c 3) (List.mem_of_getElem? (i := 5) rfl)) (hts (.initialized RJx4a65c) (List.mem_of_getElem? (i := 6) rfl)) hK hP hD hS hA rfl dfJx4a65c (Nat.le_of_ble_eq_true rfl) (Nat.le_of_ble_eq_true rfl) dX9_init_39 (fun q_6 H hP hD hS => ?_)
  have hP : va_P (dC, dI) vwCl [(mx, .inr (14, [.ref q_1, .ref q_3, .ref q_5, .null, .null, .null, .null, .null, .null, .int 0, .int 0, .int 0, .int 0])), (q_1, .inr (4, [.int 0, .ref d, .int 0])), (q_3, .inr (4, [.int 0, .ref d, .int 0])), (q_6, .inr (4, [.int 0, .null, .int 0]))] H := hP
  have hD : va_D A [(mx, .inr (14, [.ref q_1, .ref q_3, .ref q_5, .null, .null, .null, .null, .null, .null, .int 0, .int 0, .int 0, .int 0])), (q_1, .inr (4, [.int 0, .ref d, .int 0])), (q_3, .inr (4, [.int 0, .ref d, .int 0])), (q_6, .inr (4, [.int 0, .null, .int 0]))] := hD
  refine W.widen (k := 28) (n := 609) (Nat.le_of_ble_eq_true rfl) (Nat.le_of_ble_eq_true rfl) ?_
  refine lv_dup hx hb dX9_init_42 rfl ?_
  have hPc := hP.sub (ws' := [(q_6, .inr (4, [.int 0, .null, .int 0]))]) [3] rfl
  have hDc := hD.sub (ws' := [(q_6, .inr (4, [.int 0, .null, .int 0]))]) [3] (by decide) rfl
  have hKc := hK.sub (tys' := []) [] rfl
  have hFc := va_free (wc := [(q_6, .inr (4, [.int 0, .null, .int 0]))]) hD hS hA [3] rfl
  refine va_callv (va_runI (As := []) (rest := [.ref q_6, .ref mx]) ⟨hx, hb, hml, hown, hts⟩ (c_AL_init l dC dI d tc ad q_6 H.size) (cwI 0 hts gX9_init_Jx4a65c_init_da8c8 rfl rfl rfl (hts (.initialized RJx4a65c) (List.mem_of_getElem? (i := 6) rfl)) (hts (.methodLink RX9 9 yJx4a65c_init_da8c8) (List.mem_of_getElem? (i := 23) rfl)) (hts (.instanceMethod yJx4a65c_init_da8c8) (List.mem_of_getElem? (i := 24) rfl)) rfl (by decide +kernel) ⟨Nat.le_of_ble_eq_true rfl, Nat.le_of_ble_eq_true rfl⟩) ⟨PZ_blind, PZ_pre hPc hKc hDc hF hZ hS hFc⟩ rfl rfl hl.1 rfl (lv_room (Nat.le_of_ble_eq_true rfl)) dX9_init_43 ⟨Nat.le_of_ble_eq_true rfl, Nat.le_of_ble_eq_true rfl⟩) hS (fun q _ h => hFc q h) hFc (fun u t H1 locs ht hvm hw hB hz1 hk1 hS => ?_)
  obtain ⟨hP1, hK1, hD1⟩ := hB
  rw [ht] at hP1
  have hK1 := va_K.moved hvm.symm hK1
  obtain ⟨hP, hD⟩ := va_join (wr := [(mx, .inr (14, [.ref q_1, .ref q_3, .ref q_5, .null, .null, .null, .null, .null, .null, .int 0, .int 0, .int 0, .int 0])), (q_1, .inr (4, [.int 0, .ref d, .int 0])), (q_3, .inr (4, [.int 0, .ref d, .int 0]))]) (w1 := [(q_6, .inr (4, [.int 0, .ref d, .int 0]))]) hP hD [3] [0, 1, 2] rfl rfl (by decide) (by decide) hk1 hFc hP1 hD1
  have hK := hK.app hK1
  generalize H1 = H at hP hS ⊢
  have hP : va_P (dC, dI) vwCl [(mx, .inr (14, [.ref q_1, .ref q_3, .ref q_5, .null, .null, .null, .null, .null, .null, .int 0, .int 0, .int 0, .int 0])), (q_1, .inr (4, [.int 0, .ref d, .int 0])), (q_3, .inr (4, [.int 0, .ref d, .int 0])), (q_6, .inr (4, [.int 0, .ref d, .int 0]))] H := hP
  have hD : va_D A [(mx, .inr (14, [.ref q_1, .ref q_3, .ref q_5, .null, .null, .null, .null, .null, .null, .int 0, .int 0, .int 0, .int 0])), (q_1, .inr (4, [.int 0, .ref d, .int 0])), (q_3, .inr (4, [.int 0, .ref d, .int 0])), (q_6, .inr (4, [.int 0, .ref d, .int 0]))] := hD
  have hK : va_K (dC, dI) vwCl [] s := hK
  refine W.widen (k := 28) (n := 609) (Nat.le_of_ble_eq_true rfl) (Nat.le_of_ble_eq_true rfl) ?_
  refine va_putF (D := (dC, dI)) (ci := 14) (v := .ref q_6) (ty := .object "java/util/List") (C := RX9) (T := TX9) (N := 13) hx hb hts (fun _ h9 => List.mem_cons_of_mem _ (List.mem_append_left _ (List.mem_append_right _ (h9)))) tyX9 tyX9_ok nmX9 hown hK hP hD hS 0 rfl rfl 3 (by decide) (hts (.fieldLink RX9 24 "ExamHallsModel" "tape" "Ljava/util/List;") (List.mem_of_getElem? (i := 12) rfl)) (fun _ h9 => h9) rfl hin rfl (by decide +kernel) rfl rfl (Nat.le_of_ble_eq_true rfl) dX9_init_46 (fun H locs hP hD hS => ?_)
  have hP : va_P (dC, dI) vwCl [(mx, .inr (14, [.ref q_1, .ref q_3, .ref q_5, .ref q_6, .null, .null, .null, .null, .null, .int 0, .int 0, .int 0, .int 0])), (q_1, .inr (4, [.int 0, .ref d, .int 0])), (q_3, .inr (4, [.int 0, .ref d, .int 0])), (q_6, .inr (4, [.int 0, .ref d, .int 0]))] H := hP
  have hD : va_D A [(mx, .inr (14, [.ref q_1, .ref q_3, .ref q_5, .ref q_6, .null, .null, .null, .null, .null, .int 0, .int 0, .int 0, .int 0])), (q_1, .inr (4, [.int 0, .ref d, .int 0])), (q_3, .inr (4, [.int 0, .ref d, .int 0])), (q_6, .inr (4, [.int 0, .ref d, .int 0]))] := hD
  refine lv_aload_n hx hb dX9_init_49 rfl (lv_at hl 0 rfl) ?_
  refine lv_bipush (v := 8) hx hb dX9_init_50 (by decide) ?_
  refine va_newa (atype := .int) (ty := .int) (a0 := (8, (.inl (fun _ => 0)))) hx hb (hts (.arrayClass .int) (List.mem_of_getElem? (i := 13) rfl)) rfl hK hP hD hS hA (fun _ => rfl) (by decide) (by decide) (Nat.le_of_ble_eq_true rfl) (Nat.le_of_ble_eq_true rfl) (Nat.le_of_ble_eq_true rfl) dX9_init_52 (fun q_8 k_9 H hK hP hD hS => ?_)
  have hP : va_P (dC, dI) vwCl [(mx, .inr (14, [.ref q_1, .ref q_3, .ref q_5, .ref q_6, .null, .null, .null, .null, .null, .int 0, .int 0, .int 0, .int 0])), (q_1, .inr (4, [.int 0, .ref d, .int 0])), (q_3, .inr (4, [.int 0, .ref d, .int 0])), (q_6, .inr (4, [.int 0, .ref d, .int 0])), (q_8, .inl (k_9, 8, .inl (fun _ => 0)))] H := hP
  have hD : va_D A [(mx, .inr (14, [.ref q_1, .ref q_3, .ref q_5, .ref q_6, .null, .null, .null, .null, .null, .int 0, .int 0, .int 0, .int 0])), (q_1, .inr (4, [.int 0, .ref d, .int 0])), (q_3, .inr (4, [.int 0, .ref d, .int 0])), (q_6, .inr (4, [.int 0, .ref d, .int 0])), (q_8, .inl (k_9, 8, .inl (fun _ => 0)))] := hD
  have hK : va_K (dC, dI) vwCl [(k_9, .int)] s := hK
  refine W.widen (k := 29) (n := 617) (Nat.le_of_ble_eq_true rfl) (Nat.le_of_ble_eq_true rfl) ?_
  refine va_putF (D := (dC, dI)) (ci := 14) (v := .ref q_8) (ty := .array .int) (C := RX9) (T := TX9) (N := 13) hx hb hts (fun _ h9 => List.mem_cons_of_mem _ (List.mem_append_left _ (List.mem_append_right _ (h9)))) tyX9 tyX9_ok nmX9 hown hK hP hD hS 0 rfl rfl 4 (by decide) (hts (.fieldLink RX9 27 "ExamHallsModel" "least" "[I") (List.mem_of_getElem? (i := 14) rfl)) (fun _ h9 => h9) rfl hin rfl (by decide +kernel) rfl rfl (Nat.le_of_ble_eq_true rfl) dX9_init_54 (fun H locs hP hD hS => ?_)
  have hP : va_P (dC, dI) vwCl [(mx, .inr (14, [.ref q_1, .ref q_3, .ref q_5, .ref q_6, .ref q_8, .null, .null, .null, .null, .int 0, .int 0, .int 0, .int 0])), (q_1, .inr (4, [.int 0, .ref d, .int 0])), (q_3, .inr (4, [.int 0, .ref d, .int 0])), (q_6, .inr (4, [.int 0, .ref d, .int 0])), (q_8, .inl (k_9, 8, .inl (fun _ => 0)))] H := hP
  have hD : va_D A [(mx, .inr (14, [.ref q_1, .ref q_3, .ref q_5, .ref q_6, .ref q_8, .null, .null, .null, .null, .int 0, .int 0, .int 0, .int 0])), (q_1, .inr (4, [.int 0, .ref d, .int 0])), (q_3, .inr (4, [.int 0, .ref d, .int 0])), (q_6, .inr (4, [.int 0, .ref d, .int 0])), (q_8, .inl (k_9, 8, .inl (fun _ => 0)))] := hD
  refine lv_aload_n hx hb dX9_init_57 rfl (lv_at hl 0 rfl) ?_
  refine lv_bipush (v := 8) hx hb dX9_init_58 (by decide) ?_
  refine va_newa (atype := .int) (ty := .int) (a0 := (8, (.inl (fun _ => 0)))) hx hb (hts (.arrayClass .int) (List.mem_of_getElem? (i := 13) rfl)) rfl hK hP hD hS hA (fun _ => rfl) (by decide) (by decide) (Nat.le_of_ble_eq_true rfl) (Nat.le_of_ble_eq_true rfl) (Nat.le_of_ble_eq_true rfl) dX9_init_60 (fun q_10 k_11 H hK hP hD hS => ?_)
  have hP : va_P (dC, dI) vwCl [(mx, .inr (14, [.ref q_1, .ref q_3, .ref q_5, .ref q_6, .ref q_8, .null, .null, .null, .null, .int 0, .int 0, .int 0, .int 0])), (q_1, .inr (4, [.int 0, .ref d, .int 0])), (q_3, .inr (4, [.int 0, .ref d, .int 0])), (q_6, .inr (4, [.int 0, .ref d, .int 0])), (q_8, .inl (k_9, 8, .inl (fun _ => 0))), (q_10, .inl (k_11, 8, .inl (fun _ => 0)))] H := hP
  have hD : va_D A [(mx, .inr (14, [.ref q_1, .ref q_3, .ref q_5, .ref q_6, .ref q_8, .null, .null, .null, .null, .int 0, .int 0, .int 0, .int 0])), (q_1, .inr (4, [.int 0, .ref d, .int 0])), (q_3, .inr (4, [.int 0, .ref d, .int 0])), (q_6, .inr (4, [.int 0, .ref d, .int 0])), (q_8, .inl (k_9, 8, .inl (fun _ => 0))), (q_10, .inl (k_11, 8, .inl (fun _ => 0)))] := hD
  have hK : va_K (dC, dI) vwCl [(k_9, .int), (k_11, .int)] s := hK
  refine W.widen (k := 30) (n := 625) (Nat.le_of_ble_eq_true rfl) (Nat.le_of_ble_eq_true rfl) ?_
  refine va_putF (D := (dC, dI)) (ci := 14) (v := .ref q_10) (ty := .array .int) (C := RX9) (T := TX9) (N := 13) hx hb hts (fun _ h9 => List.mem_cons_of_mem _ (List.mem_append_left _ (List.mem_append_right _ (h9)))) tyX9 tyX9_ok nmX9 hown hK hP hD hS 0 rfl rfl 5 (by decide) (hts (.fieldLink RX9 31 "ExamHallsModel" "most" "[I") (List.mem_of_getElem? (i := 15) rfl)) (fun _ h9 => h9) rfl hin rfl (by decide +kernel) rfl rfl (Nat.le_of_ble_eq_true rfl) dX9_init_62 (fun H locs hP hD hS => ?_)
  have hP : va_P (dC, dI) vwCl [(mx, .inr (14, [.ref q_1, .ref q_3, .ref q_5, .ref q_6, .ref q_8, .ref q_10, .null, .null, .null, .int 0, .int 0, .int 0, .int 0])), (q_1, .inr (4, [.int 0, .ref d, .int 0])), (q_3, .inr (4, [.int 0, .ref d, .int 0])), (q_6, .inr (4, [.int 0, .ref d, .int 0])), (q_8, .inl (k_9, 8, .inl (fun _ => 0))), (q_10, .inl (k_11, 8, .inl (fun _ => 0)))] H := hP
  have hD : va_D A [(mx, .inr (14, [.ref q_1, .ref q_3, .ref q_5, .ref q_6, .ref q_8, .ref q_10, .null, .null, .null, .int 0, .int 0, .int 0, .int 0])), (q_1, .inr (4, [.int 0, .ref d, .int 0])), (q_3, .inr (4, [.int 0, .ref d, .int 0])), (q_6, .inr (4, [.int 0, .ref d, .int 0])), (q_8, .inl (k_9, 8, .inl (fun _ => 0))), (q_10, .inl (k_11, 8, .inl (fun _ => 0)))] := hD
  refine lv_aload_n hx hb dX9_init_65 rfl (lv_at hl 0 rfl) ?_
  refine va_new (ci := 4) (fs := [.int 0, .null, .int 0]) (C := RJx4a65c) (T := TJx4a65c) (N := 3) hx hb hts (fun _ h9 => List.mem_cons_of_mem _ (List.mem_append_left _ (List.mem_append_left _ (List.mem_append_right _ (h9))))) tyJx4a65c tyJx4a65c_ok hown (hts (.classLink RX9 7 RJx4a65c) (List.mem_of_getElem? (i := 4) rfl)) (hts (.instantiable RJx4a65c 3) (List.mem_of_getElem? (i := 5) rfl)) (hts (.initialized RJx4a65c) (List.mem_of_getElem? (i := 6) rfl)) hK hP hD hS hA rfl dfJx4a65c (Nat.le_of_ble_eq_true rfl) (Nat.le_of_ble_eq_true rfl) dX9_init_66 (fun q_12 H hP hD hS => ?_)
  have hP : va_P (dC, dI) vwCl [(mx, .inr (14, [.ref q_1, .ref q_3, .ref q_5, .ref q_6, .ref q_8, .ref q_10, .null, .null, .null, .int 0, .int 0, .int 0, .int 0])), (q_1, .inr (4, [.int 0, .ref d, .int 0])), (q_3, .inr (4, [.int 0, .ref d, .int 0])), (q_6, .inr (4, [.int 0, .ref d, .int 0])), (q_8, .inl (k_9, 8, .inl (fun _ => 0))), (q_10, .inl (k_11, 8, .inl (fun _ => 0))), (q_12, .inr (4, [.int 0, .null, .int 0]))] H := hP
  have hD : va_D A [(mx, .inr (14, [.ref q_1, .ref q_3, .ref q_5, .ref q_6, .ref q_8, .ref q_10, .null, .null, .null, .int 0, .int 0, .int 0, .int 0])), (q_1, .inr (4, [.int 0, .ref d, .int 0])), (q_3, .inr (4, [.int 0, .ref d, .int 0])), (q_6, .inr (4, [.int 0, .ref d, .int 0])), (q_8, .inl (k_9, 8, .inl (fun _ => 0))), (q_10, .inl (k_11, 8, .inl (fun _ => 0))), (q_12, .inr (4, [.int 0, .null, .int 0]))] := hD
  refine W.widen (k := 31) (n := 628) (Nat.le_of_ble_eq_true rfl) (Nat.le_of_ble_eq_true rfl) ?_
  refine lv_dup hx hb dX9_init_69 rfl ?_
  have hPc := hP.sub (ws' := [(q_12, .inr (4, [.int 0, .null, .int 0]))]) [6] rfl
  have hDc := hD.sub (ws' := [(q_12, .inr (4, [.int 0, .null, .int 0]))]) [6] (by decide) rfl
  have hKc := hK.sub (tys' := []) [] rfl
  have hFc := va_free (wc := [(q_12, .inr (4, [.int 0, .null, .int 0]))]) hD hS hA [6] rfl
  refine va_callv (va_runI (As := []) (rest := [.ref q_12, .ref mx]) ⟨hx, hb, hml, hown, hts⟩ (c_AL_init l dC dI d tc ad q_12 H.size) (cwI 0 hts gX9_init_Jx4a65c_init_da8c8 rfl rfl rfl (hts (.initialized RJx4a65c) (List.mem_of_getElem? (i := 6) rfl)) (hts (.methodLink RX9 9 yJx4a65c_init_da8c8) (List.mem_of_getElem? (i := 23) rfl)) (hts (.instanceMethod yJx4a65c_init_da8c8) (List.mem_of_getElem? (i := 24) rfl)) rfl (by decide +kernel) ⟨Nat.le_of_ble_eq_true rfl, Nat.le_of_ble_eq_true rfl⟩) ⟨PZ_blind, PZ_pre hPc hKc hDc hF hZ hS hFc⟩ rfl rfl hl.1 rfl (lv_room (Nat.le_of_ble_eq_true rfl)) dX9_init_70 ⟨Nat.le_of_ble_eq_true rfl, Nat.le_of_ble_eq_true rfl⟩) hS (fun q _ h => hFc q h) hFc (fun u t H1 locs ht hvm hw hB hz1 hk1 hS => ?_)
  obtain ⟨hP1, hK1, hD1⟩ := hB
  rw [ht] at hP1
  have hK1 := va_K.moved hvm.symm hK1
  obtain ⟨hP, hD⟩ := va_join (wr := [(mx, .inr (14, [.ref q_1, .ref q_3, .ref q_5, .ref q_6, .ref q_8, .ref q_10, .null, .null, .null, .int 0, .int 0, .int 0, .int 0])), (q_1, .inr (4, [.int 0, .ref d, .int 0])), (q_3, .inr (4, [.int 0, .ref d, .int 0])), (q_6, .inr (4, [.int 0, .ref d, .int 0])), (q_8, .inl (k_9, 8, .inl (fun _ => 0))), (q_10, .inl (k_11, 8, .inl (fun _ => 0)))]) (w1 := [(q_12, .inr (4, [.int 0, .ref d, .int 0]))]) hP hD [6] [0, 1, 2, 3, 4, 5] rfl rfl (by decide) (by decide) hk1 hFc hP1 hD1
  have hK := hK.app hK1
  generalize H1 = H at hP hS ⊢
  have hP : va_P (dC, dI) vwCl [(mx, .inr (14, [.ref q_1, .ref q_3, .ref q_5, .ref q_6, .ref q_8, .ref q_10, .null, .null, .null, .int 0, .int 0, .int 0, .int 0])), (q_1, .inr (4, [.int 0, .ref d, .int 0])), (q_3, .inr (4, [.int 0, .ref d, .int 0])), (q_6, .inr (4, [.int 0, .ref d, .int 0])), (q_8, .inl (k_9, 8, .inl (fun _ => 0))), (q_10, .inl (k_11, 8, .inl (fun _ => 0))), (q_12, .inr (4, [.int 0, .ref d, .int 0]))] H := hP
  have hD : va_D A [(mx, .inr (14, [.ref q_1, .ref q_3, .ref q_5, .ref q_6, .ref q_8, .ref q_10, .null, .null, .null, .int 0, .int 0, .int 0, .int 0])), (q_1, .inr (4, [.int 0, .ref d, .int 0])), (q_3, .inr (4, [.int 0, .ref d, .int 0])), (q_6, .inr (4, [.int 0, .ref d, .int 0])), (q_8, .inl (k_9, 8, .inl (fun _ => 0))), (q_10, .inl (k_11, 8, .inl (fun _ => 0))), (q_12, .inr (4, [.int 0, .ref d, .int 0]))] := hD
  have hK : va_K (dC, dI) vwCl [(k_9, .int), (k_11, .int)] s := hK
  refine W.widen (k := 31) (n := 628) (Nat.le_of_ble_eq_true rfl) (Nat.le_of_ble_eq_true rfl) ?_
  refine va_putF (D := (dC, dI)) (ci := 14) (v := .ref q_12) (ty := .object "java/util/List") (C := RX9) (T := TX9) (N := 13) hx hb hts (fun _ h9 => List.mem_cons_of_mem _ (List.mem_append_left _ (List.mem_append_right _ (h9)))) tyX9 tyX9_ok nmX9 hown hK hP hD hS 0 rfl rfl 6 (by decide) (hts (.fieldLink RX9 34 "ExamHallsModel" "parallels" "Ljava/util/List;") (List.mem_of_getElem? (i := 16) rfl)) (fun _ h9 => h9) rfl hin rfl (by decide +kernel) rfl rfl (Nat.le_of_ble_eq_true rfl) dX9_init_73 (fun H locs hP hD hS => ?_)
  have hP : va_P (dC, dI) vwCl [(mx, .inr (14, [.ref q_1, .ref q_3, .ref q_5, .ref q_6, .ref q_8, .ref q_10, .ref q_12, .null, .null, .int 0, .int 0, .int 0, .int 0])), (q_1, .inr (4, [.int 0, .ref d, .int 0])), (q_3, .inr (4, [.int 0, .ref d, .int 0])), (q_6, .inr (4, [.int 0, .ref d, .int 0])), (q_8, .inl (k_9, 8, .inl (fun _ => 0))), (q_10, .inl (k_11, 8, .inl (fun _ => 0))), (q_12, .inr (4, [.int 0, .ref d, .int 0]))] H := hP
  have hD : va_D A [(mx, .inr (14, [.ref q_1, .ref q_3, .ref q_5, .ref q_6, .ref q_8, .ref q_10, .ref q_12, .null, .null, .int 0, .int 0, .int 0, .int 0])), (q_1, .inr (4, [.int 0, .ref d, .int 0])), (q_3, .inr (4, [.int 0, .ref d, .int 0])), (q_6, .inr (4, [.int 0, .ref d, .int 0])), (q_8, .inl (k_9, 8, .inl (fun _ => 0))), (q_10, .inl (k_11, 8, .inl (fun _ => 0))), (q_12, .inr (4, [.int 0, .ref d, .int 0]))] := hD
  refine lv_aload_n hx hb dX9_init_76 rfl (lv_at hl 0 rfl) ?_
  refine va_new (ci := 4) (fs := [.int 0, .null, .int 0]) (C := RJx4a65c) (T := TJx4a65c) (N := 3) hx hb hts (fun _ h9 => List.mem_cons_of_mem _ (List.mem_append_left _ (List.mem_append_left _ (List.mem_append_right _ (h9))))) tyJx4a65c tyJx4a65c_ok hown (hts (.classLink RX9 7 RJx4a65c) (List.mem_of_getElem? (i := 4) rfl)) (hts (.instantiable RJx4a65c 3) (List.mem_of_getElem? (i := 5) rfl)) (hts (.initialized RJx4a65c) (List.mem_of_getElem? (i := 6) rfl)) hK hP hD hS hA rfl dfJx4a65c (Nat.le_of_ble_eq_true rfl) (Nat.le_of_ble_eq_true rfl) dX9_init_77 (fun q_14 H hP hD hS => ?_)
  have hP : va_P (dC, dI) vwCl [(mx, .inr (14, [.ref q_1, .ref q_3, .ref q_5, .ref q_6, .ref q_8, .ref q_10, .ref q_12, .null, .null, .int 0, .int 0, .int 0, .int 0])), (q_1, .inr (4, [.int 0, .ref d, .int 0])), (q_3, .inr (4, [.int 0, .ref d, .int 0])), (q_6, .inr (4, [.int 0, .ref d, .int 0])), (q_8, .inl (k_9, 8, .inl (fun _ => 0))), (q_10, .inl (k_11, 8, .inl (fun _ => 0))), (q_12, .inr (4, [.int 0, .ref d, .int 0])), (q_14, .inr (4, [.int 0, .null, .int 0]))] H := hP
  have hD : va_D A [(mx, .inr (14, [.ref q_1, .ref q_3, .ref q_5, .ref q_6, .ref q_8, .ref q_10, .ref q_12, .null, .null, .int 0, .int 0, .int 0, .int 0])), (q_1, .inr (4, [.int 0, .ref d, .int 0])), (q_3, .inr (4, [.int 0, .ref d, .int 0])), (q_6, .inr (4, [.int 0, .ref d, .int 0])), (q_8, .inl (k_9, 8, .inl (fun _ => 0))), (q_10, .inl (k_11, 8, .inl (fun _ => 0))), (q_12, .inr (4, [.int 0, .ref d, .int 0])), (q_14, .inr (4, [.int 0, .null, .int 0]))] := hD
  refine W.widen (k := 32) (n := 631) (Nat.le_of_ble_eq_true rfl) (Nat.le_of_ble_eq_true rfl) ?_
  refine lv_dup hx hb dX9_init_80 rfl ?_
  have hPc := hP.sub (ws' := [(q_14, .inr (4, [.int 0, .null, .int 0]))]) [7] rfl
  have hDc := hD.sub (ws' := [(q_14, .inr (4, [.int 0, .null, .int 0]))]) [7] (by decide) rfl
  have hKc := hK.sub (tys' := []) [] rfl
  have hFc := va_free (wc := [(q_14, .inr (4, [.int 0, .null, .int 0]))]) hD hS hA [7] rfl
  refine va_callv (va_runI (As := []) (rest := [.ref q_14, .ref mx]) ⟨hx, hb, hml, hown, hts⟩ (c_AL_init l dC dI d tc ad q_14 H.size) (cwI 0 hts gX9_init_Jx4a65c_init_da8c8 rfl rfl rfl (hts (.initialized RJx4a65c) (List.mem_of_getElem? (i := 6) rfl)) (hts (.methodLink RX9 9 yJx4a65c_init_da8c8) (List.mem_of_getElem? (i := 23) rfl)) (hts (.instanceMethod yJx4a65c_init_da8c8) (List.mem_of_getElem? (i := 24) rfl)) rfl (by decide +kernel) ⟨Nat.le_of_ble_eq_true rfl, Nat.le_of_ble_eq_true rfl⟩) ⟨PZ_blind, PZ_pre hPc hKc hDc hF hZ hS hFc⟩ rfl rfl hl.1 rfl (lv_room (Nat.le_of_ble_eq_true rfl)) dX9_init_81 ⟨Nat.le_of_ble_eq_true rfl, Nat.le_of_ble_eq_true rfl⟩) hS (fun q _ h => hFc q h) hFc (fun u t H1 locs ht hvm hw hB hz1 hk1 hS => ?_)
  obtain ⟨hP1, hK1, hD1⟩ := hB
  rw [ht] at hP1
  have hK1 := va_K.moved hvm.symm hK1
  obtain ⟨hP, hD⟩ := va_join (wr := [(mx, .inr (14, [.ref q_1, .ref q_3, .ref q_5, .ref q_6, .ref q_8, .ref q_10, .ref q_12, .null, .null, .int 0, .int 0, .int 0, .int 0])), (q_1, .inr (4, [.int 0, .ref d, .int 0])), (q_3, .inr (4, [.int 0, .ref d, .int 0])), (q_6, .inr (4, [.int 0, .ref d, .int 0])), (q_8, .inl (k_9, 8, .inl (fun _ => 0))), (q_10, .inl (k_11, 8, .inl (fun _ => 0))), (q_12, .inr (4, [.int 0, .ref d, .int 0]))]) (w1 := [(q_14, .inr (4, [.int 0, .ref d, .int 0]))]) hP hD [7] [0, 1, 2, 3, 4, 5, 6] rfl rfl (by decide) (by decide) hk1 hFc hP1 hD1
  have hK := hK.app hK1
  generalize H1 = H at hP hS ⊢
  have hP : va_P (dC, dI) vwCl [(mx, .inr (14, [.ref q_1, .ref q_3, .ref q_5, .ref q_6, .ref q_8, .ref q_10, .ref q_12, .null, .null, .int 0, .int 0, .int 0, .int 0])), (q_1, .inr (4, [.int 0, .ref d, .int 0])), (q_3, .inr (4, [.int 0, .ref d, .int 0])), (q_6, .inr (4, [.int 0, .ref d, .int 0])), (q_8, .inl (k_9, 8, .inl (fun _ => 0))), (q_10, .inl (k_11, 8, .inl (fun _ => 0))), (q_12, .inr (4, [.int 0, .ref d, .int 0])), (q_14, .inr (4, [.int 0, .ref d, .int 0]))] H := hP
  have hD : va_D A [(mx, .inr (14, [.ref q_1, .ref q_3, .ref q_5, .ref q_6, .ref q_8, .ref q_10, .ref q_12, .null, .null, .int 0, .int 0, .int 0, .int 0])), (q_1, .inr (4, [.int 0, .ref d, .int 0])), (q_3, .inr (4, [.int 0, .ref d, .int 0])), (q_6, .inr (4, [.int 0, .ref d, .int 0])), (q_8, .inl (k_9, 8, .inl (fun _ => 0))), (q_10, .inl (k_11, 8, .inl (fun _ => 0))), (q_12, .inr (4, [.int 0, .ref d, .int 0])), (q_14, .inr (4, [.int 0, .ref d, .int 0]))] := hD
  have hK : va_K (dC, dI) vwCl [(k_9, .int), (k_11, .int)] s := hK
  refine W.widen (k := 32) (n := 631) (Nat.le_of_ble_eq_true rfl) (Nat.le_of_ble_eq_true rfl) ?_
  refine va_putF (D := (dC, dI)) (ci := 14) (v := .ref q_14) (ty := .object "java/util/List") (C := RX9) (T := TX9) (N := 13) hx hb hts (fun _ h9 => List.mem_cons_of_mem _ (List.mem_append_left _ (List.mem_append_right _ (h9)))) tyX9 tyX9_ok nmX9 hown hK hP hD hS 0 rfl rfl 7 (by decide) (hts (.fieldLink RX9 37 "ExamHallsModel" "barred" "Ljava/util/List;") (List.mem_of_getElem? (i := 17) rfl)) (fun _ h9 => h9) rfl hin rfl (by decide +kernel) rfl rfl (Nat.le_of_ble_eq_true rfl) dX9_init_84 (fun H locs hP hD hS => ?_)
  have hP : va_P (dC, dI) vwCl [(mx, .inr (14, [.ref q_1, .ref q_3, .ref q_5, .ref q_6, .ref q_8, .ref q_10, .ref q_12, .ref q_14, .null, .int 0, .int 0, .int 0, .int 0])), (q_1, .inr (4, [.int 0, .ref d, .int 0])), (q_3, .inr (4, [.int 0, .ref d, .int 0])), (q_6, .inr (4, [.int 0, .ref d, .int 0])), (q_8, .inl (k_9, 8, .inl (fun _ => 0))), (q_10, .inl (k_11, 8, .inl (fun _ => 0))), (q_12, .inr (4, [.int 0, .ref d, .int 0])), (q_14, .inr (4, [.int 0, .ref d, .int 0]))] H := hP
  have hD : va_D A [(mx, .inr (14, [.ref q_1, .ref q_3, .ref q_5, .ref q_6, .ref q_8, .ref q_10, .ref q_12, .ref q_14, .null, .int 0, .int 0, .int 0, .int 0])), (q_1, .inr (4, [.int 0, .ref d, .int 0])), (q_3, .inr (4, [.int 0, .ref d, .int 0])), (q_6, .inr (4, [.int 0, .ref d, .int 0])), (q_8, .inl (k_9, 8, .inl (fun _ => 0))), (q_10, .inl (k_11, 8, .inl (fun _ => 0))), (q_12, .inr (4, [.int 0, .ref d, .int 0])), (q_14, .inr (4, [.int 0, .ref d, .int 0]))] := hD
  refine lv_aload_n hx hb dX9_init_87 rfl (lv_at hl 0 rfl) ?_
  refine lv_iconst (v := 4) hx hb dX9_init_88 (by decide) ?_
  refine va_newa (atype := .int) (ty := .int) (a0 := (4, (.inl (fun _ => 0)))) hx hb (hts (.arrayClass .int) (List.mem_of_getElem? (i := 13) rfl)) rfl hK hP hD hS hA (fun _ => rfl) (by decide) (by decide) (Nat.le_of_ble_eq_true rfl) (Nat.le_of_ble_eq_true rfl) (Nat.le_of_ble_eq_true rfl) dX9_init_89 (fun q_16 k_17 H hK hP hD hS => ?_)
  have hP : va_P (dC, dI) vwCl [(mx, .inr (14, [.ref q_1, .ref q_3, .ref q_5, .ref q_6, .ref q_8, .ref q_10, .ref q_12, .ref q_14, .null, .int 0, .int 0, .int 0, .int 0])), (q_1, .inr (4, [.int 0, .ref d, .int 0])), (q_3, .inr (4, [.int 0, .ref d, .int 0])), (q_6, .inr (4, [.int 0, .ref d, .int 0])), (q_8, .inl (k_9, 8, .inl (fun _ => 0))), (q_10, .inl (k_11, 8, .inl (fun _ => 0))), (q_12, .inr (4, [.int 0, .ref d, .int 0])), (q_14, .inr (4, [.int 0, .ref d, .int 0])), (q_16, .inl (k_17, 4, .inl (fun _ => 0)))] H := hP
  have hD : va_D A [(mx, .inr (14, [.ref q_1, .ref q_3, .ref q_5, .ref q_6, .ref q_8, .ref q_10, .ref q_12, .ref q_14, .null, .int 0, .int 0, .int 0, .int 0])), (q_1, .inr (4, [.int 0, .ref d, .int 0])), (q_3, .inr (4, [.int 0, .ref d, .int 0])), (q_6, .inr (4, [.int 0, .ref d, .int 0])), (q_8, .inl (k_9, 8, .inl (fun _ => 0))), (q_10, .inl (k_11, 8, .inl (fun _ => 0))), (q_12, .inr (4, [.int 0, .ref d, .int 0])), (q_14, .inr (4, [.int 0, .ref d, .int 0])), (q_16, .inl (k_17, 4, .inl (fun _ => 0)))] := hD
  have hK : va_K (dC, dI) vwCl [(k_9, .int), (k_11, .int), (k_17, .int)] s := hK
  refine W.widen (k := 33) (n := 635) (Nat.le_of_ble_eq_true rfl) (Nat.le_of_ble_eq_true rfl) ?_
  refine va_putF (D := (dC, dI)) (ci := 14) (v := .ref q_16) (ty := .array .int) (C := RX9) (T := TX9) (N := 13) hx hb hts (fun _ h9 => List.mem_cons_of_mem _ (List.mem_append_left _ (List.mem_append_right _ (h9)))) tyX9 tyX9_ok nmX9 hown hK hP hD hS 0 rfl rfl 8 (by decide) (hts (.fieldLink RX9 40 "ExamHallsModel" "quotas" "[I") (List.mem_of_getElem? (i := 18) rfl)) (fun _ h9 => h9) rfl hin rfl (by decide +kernel) rfl rfl (Nat.le_of_ble_eq_true rfl) dX9_init_91 (fun H locs hP hD hS => ?_)
  have hP : va_P (dC, dI) vwCl [(mx, .inr (14, [.ref q_1, .ref q_3, .ref q_5, .ref q_6, .ref q_8, .ref q_10, .ref q_12, .ref q_14, .ref q_16, .int 0, .int 0, .int 0, .int 0])), (q_1, .inr (4, [.int 0, .ref d, .int 0])), (q_3, .inr (4, [.int 0, .ref d, .int 0])), (q_6, .inr (4, [.int 0, .ref d, .int 0])), (q_8, .inl (k_9, 8, .inl (fun _ => 0))), (q_10, .inl (k_11, 8, .inl (fun _ => 0))), (q_12, .inr (4, [.int 0, .ref d, .int 0])), (q_14, .inr (4, [.int 0, .ref d, .int 0])), (q_16, .inl (k_17, 4, .inl (fun _ => 0)))] H := hP
  have hD : va_D A [(mx, .inr (14, [.ref q_1, .ref q_3, .ref q_5, .ref q_6, .ref q_8, .ref q_10, .ref q_12, .ref q_14, .ref q_16, .int 0, .int 0, .int 0, .int 0])), (q_1, .inr (4, [.int 0, .ref d, .int 0])), (q_3, .inr (4, [.int 0, .ref d, .int 0])), (q_6, .inr (4, [.int 0, .ref d, .int 0])), (q_8, .inl (k_9, 8, .inl (fun _ => 0))), (q_10, .inl (k_11, 8, .inl (fun _ => 0))), (q_12, .inr (4, [.int 0, .ref d, .int 0])), (q_14, .inr (4, [.int 0, .ref d, .int 0])), (q_16, .inl (k_17, 4, .inl (fun _ => 0)))] := hD
  refine lv_aload_n hx hb dX9_init_94 rfl (lv_at hl 0 rfl) ?_
  refine lv_iconst (v := 1) hx hb dX9_init_95 (by decide) ?_
  refine va_put (D := (dC, dI)) (ci := 14) (v := .int 1) (ty := .int) (C := RX9) (T := TX9) (N := 13) hx hb hts (fun _ h9 => List.mem_cons_of_mem _ (List.mem_append_left _ (List.mem_append_right _ (h9)))) tyX9 tyX9_ok nmX9 hown hK hP hD hS 0 rfl rfl 9 (by decide) (hts (.fieldLink RX9 43 "ExamHallsModel" "formLegs" "I") (List.mem_of_getElem? (i := 19) rfl)) (fun _ h9 => h9) rfl (by decide +kernel) rfl rfl (Nat.le_of_ble_eq_true rfl) dX9_init_96 (fun H locs hP hD hS => ?_)
  have hP : va_P (dC, dI) vwCl [(mx, .inr (14, [.ref q_1, .ref q_3, .ref q_5, .ref q_6, .ref q_8, .ref q_10, .ref q_12, .ref q_14, .ref q_16, .int 1, .int 0, .int 0, .int 0])), (q_1, .inr (4, [.int 0, .ref d, .int 0])), (q_3, .inr (4, [.int 0, .ref d, .int 0])), (q_6, .inr (4, [.int 0, .ref d, .int 0])), (q_8, .inl (k_9, 8, .inl (fun _ => 0))), (q_10, .inl (k_11, 8, .inl (fun _ => 0))), (q_12, .inr (4, [.int 0, .ref d, .int 0])), (q_14, .inr (4, [.int 0, .ref d, .int 0])), (q_16, .inl (k_17, 4, .inl (fun _ => 0)))] H := hP
  have hD : va_D A [(mx, .inr (14, [.ref q_1, .ref q_3, .ref q_5, .ref q_6, .ref q_8, .ref q_10, .ref q_12, .ref q_14, .ref q_16, .int 1, .int 0, .int 0, .int 0])), (q_1, .inr (4, [.int 0, .ref d, .int 0])), (q_3, .inr (4, [.int 0, .ref d, .int 0])), (q_6, .inr (4, [.int 0, .ref d, .int 0])), (q_8, .inl (k_9, 8, .inl (fun _ => 0))), (q_10, .inl (k_11, 8, .inl (fun _ => 0))), (q_12, .inr (4, [.int 0, .ref d, .int 0])), (q_14, .inr (4, [.int 0, .ref d, .int 0])), (q_16, .inl (k_17, 4, .inl (fun _ => 0)))] := hD
  refine lv_aload_n hx hb dX9_init_99 rfl (lv_at hl 0 rfl) ?_
  refine lv_bipush (v := 10) hx hb dX9_init_100 (by decide) ?_
  refine va_put (D := (dC, dI)) (ci := 14) (v := .int 10) (ty := .int) (C := RX9) (T := TX9) (N := 13) hx hb hts (fun _ h9 => List.mem_cons_of_mem _ (List.mem_append_left _ (List.mem_append_right _ (h9)))) tyX9 tyX9_ok nmX9 hown hK hP hD hS 0 rfl rfl 10 (by decide) (hts (.fieldLink RX9 47 "ExamHallsModel" "apart" "I") (List.mem_of_getElem? (i := 20) rfl)) (fun _ h9 => h9) rfl (by decide +kernel) rfl rfl (Nat.le_of_ble_eq_true rfl) dX9_init_102 (fun H locs hP hD hS => ?_)
  have hP : va_P (dC, dI) vwCl [(mx, .inr (14, [.ref q_1, .ref q_3, .ref q_5, .ref q_6, .ref q_8, .ref q_10, .ref q_12, .ref q_14, .ref q_16, .int 1, .int 10, .int 0, .int 0])), (q_1, .inr (4, [.int 0, .ref d, .int 0])), (q_3, .inr (4, [.int 0, .ref d, .int 0])), (q_6, .inr (4, [.int 0, .ref d, .int 0])), (q_8, .inl (k_9, 8, .inl (fun _ => 0))), (q_10, .inl (k_11, 8, .inl (fun _ => 0))), (q_12, .inr (4, [.int 0, .ref d, .int 0])), (q_14, .inr (4, [.int 0, .ref d, .int 0])), (q_16, .inl (k_17, 4, .inl (fun _ => 0)))] H := hP
  have hD : va_D A [(mx, .inr (14, [.ref q_1, .ref q_3, .ref q_5, .ref q_6, .ref q_8, .ref q_10, .ref q_12, .ref q_14, .ref q_16, .int 1, .int 10, .int 0, .int 0])), (q_1, .inr (4, [.int 0, .ref d, .int 0])), (q_3, .inr (4, [.int 0, .ref d, .int 0])), (q_6, .inr (4, [.int 0, .ref d, .int 0])), (q_8, .inl (k_9, 8, .inl (fun _ => 0))), (q_10, .inl (k_11, 8, .inl (fun _ => 0))), (q_12, .inr (4, [.int 0, .ref d, .int 0])), (q_14, .inr (4, [.int 0, .ref d, .int 0])), (q_16, .inl (k_17, 4, .inl (fun _ => 0)))] := hD
  refine lv_aload_n hx hb dX9_init_105 rfl (lv_at hl 0 rfl) ?_
  refine lv_iconst (v := 0) hx hb dX9_init_106 (by decide) ?_
  refine va_put (D := (dC, dI)) (ci := 14) (v := .int 0) (ty := .int) (C := RX9) (T := TX9) (N := 13) hx hb hts (fun _ h9 => List.mem_cons_of_mem _ (List.mem_append_left _ (List.mem_append_right _ (h9)))) tyX9 tyX9_ok nmX9 hown hK hP hD hS 0 rfl rfl 11 (by decide) (hts (.fieldLink RX9 50 "ExamHallsModel" "ties" "I") (List.mem_of_getElem? (i := 21) rfl)) (fun _ h9 => h9) rfl (by decide +kernel) rfl rfl (Nat.le_of_ble_eq_true rfl) dX9_init_107 (fun H locs hP hD hS => ?_)
  have hP : va_P (dC, dI) vwCl [(mx, .inr (14, [.ref q_1, .ref q_3, .ref q_5, .ref q_6, .ref q_8, .ref q_10, .ref q_12, .ref q_14, .ref q_16, .int 1, .int 10, .int 0, .int 0])), (q_1, .inr (4, [.int 0, .ref d, .int 0])), (q_3, .inr (4, [.int 0, .ref d, .int 0])), (q_6, .inr (4, [.int 0, .ref d, .int 0])), (q_8, .inl (k_9, 8, .inl (fun _ => 0))), (q_10, .inl (k_11, 8, .inl (fun _ => 0))), (q_12, .inr (4, [.int 0, .ref d, .int 0])), (q_14, .inr (4, [.int 0, .ref d, .int 0])), (q_16, .inl (k_17, 4, .inl (fun _ => 0)))] H := hP
  have hD : va_D A [(mx, .inr (14, [.ref q_1, .ref q_3, .ref q_5, .ref q_6, .ref q_8, .ref q_10, .ref q_12, .ref q_14, .ref q_16, .int 1, .int 10, .int 0, .int 0])), (q_1, .inr (4, [.int 0, .ref d, .int 0])), (q_3, .inr (4, [.int 0, .ref d, .int 0])), (q_6, .inr (4, [.int 0, .ref d, .int 0])), (q_8, .inl (k_9, 8, .inl (fun _ => 0))), (q_10, .inl (k_11, 8, .inl (fun _ => 0))), (q_12, .inr (4, [.int 0, .ref d, .int 0])), (q_14, .inr (4, [.int 0, .ref d, .int 0])), (q_16, .inl (k_17, 4, .inl (fun _ => 0)))] := hD
  refine lv_aload_n hx hb dX9_init_110 rfl (lv_at hl 0 rfl) ?_
  refine lv_iconst (v := 0) hx hb dX9_init_111 (by decide) ?_
  refine va_put (D := (dC, dI)) (ci := 14) (v := .int 0) (ty := .int) (C := RX9) (T := TX9) (N := 13) hx hb hts (fun _ h9 => List.mem_cons_of_mem _ (List.mem_append_left _ (List.mem_append_right _ (h9)))) tyX9 tyX9_ok nmX9 hown hK hP hD hS 0 rfl rfl 12 (by decide) (hts (.fieldLink RX9 53 "ExamHallsModel" "way" "I") (List.mem_of_getElem? (i := 22) rfl)) (fun _ h9 => h9) rfl (by decide +kernel) rfl rfl (Nat.le_of_ble_eq_true rfl) dX9_init_112 (fun H locs hP hD hS => ?_)
  have hP : va_P (dC, dI) vwCl [(mx, .inr (14, [.ref q_1, .ref q_3, .ref q_5, .ref q_6, .ref q_8, .ref q_10, .ref q_12, .ref q_14, .ref q_16, .int 1, .int 10, .int 0, .int 0])), (q_1, .inr (4, [.int 0, .ref d, .int 0])), (q_3, .inr (4, [.int 0, .ref d, .int 0])), (q_6, .inr (4, [.int 0, .ref d, .int 0])), (q_8, .inl (k_9, 8, .inl (fun _ => 0))), (q_10, .inl (k_11, 8, .inl (fun _ => 0))), (q_12, .inr (4, [.int 0, .ref d, .int 0])), (q_14, .inr (4, [.int 0, .ref d, .int 0])), (q_16, .inl (k_17, 4, .inl (fun _ => 0)))] H := hP
  have hD : va_D A [(mx, .inr (14, [.ref q_1, .ref q_3, .ref q_5, .ref q_6, .ref q_8, .ref q_10, .ref q_12, .ref q_14, .ref q_16, .int 1, .int 10, .int 0, .int 0])), (q_1, .inr (4, [.int 0, .ref d, .int 0])), (q_3, .inr (4, [.int 0, .ref d, .int 0])), (q_6, .inr (4, [.int 0, .ref d, .int 0])), (q_8, .inl (k_9, 8, .inl (fun _ => 0))), (q_10, .inl (k_11, 8, .inl (fun _ => 0))), (q_12, .inr (4, [.int 0, .ref d, .int 0])), (q_14, .inr (4, [.int 0, .ref d, .int 0])), (q_16, .inl (k_17, 4, .inl (fun _ => 0)))] := hD
  refine lv_iconst (v := 0) hx hb dX9_init_115 (by decide) ?_
  refine lv_istore_n (lv' := [(1, .int 0), (0, .ref mx)]) hx hb dX9_init_116 rfl hl (by decide) rfl (fun ls hl => ?_)
  refine lv_iload_n hx hb dX9_init_117 rfl (lv_at hl 0 rfl) ?_
  refine lv_bipush (v := 8) hx hb dX9_init_118 (by decide) ?_
  refine lv_icmp_ge (tgt := 144) hx hb dX9_init_120 (by decide) (fun c_18 => absurd c_18 (by decide)) (fun _ => ?_)
  refine lv_aload_n hx hb dX9_init_123 rfl (lv_at hl 1 rfl) ?_
  refine va_get (D := (dC, dI)) (ci := 14) (v := .ref q_8) (C := RX9) (T := TX9) (N := 13) hx hb hts (fun _ h9 => List.mem_cons_of_mem _ (List.mem_append_left _ (List.mem_append_right _ (h9)))) hown hK hP 0 rfl rfl 4 (by decide) (hts (.fieldLink RX9 27 "ExamHallsModel" "least" "[I") (List.mem_of_getElem? (i := 14) rfl)) (fun _ h9 => h9) rfl dX9_init_124 ?_
  refine lv_iload_n hx hb dX9_init_127 rfl (lv_at hl 0 rfl) ?_
  refine lv_iconst (v := 1) hx hb dX9_init_128 (by decide) ?_
  refine va_iast hx hb hK hP hD hS 4 0 rfl rfl (by unfold vp_in; decide) dX9_init_129 (fun H locs hP hD hS => ?_)
  have hP : va_P (dC, dI) vwCl [(mx, .inr (14, [.ref q_1, .ref q_3, .ref q_5, .ref q_6, .ref q_8, .ref q_10, .ref q_12, .ref q_14, .ref q_16, .int 1, .int 10, .int 0, .int 0])), (q_1, .inr (4, [.int 0, .ref d, .int 0])), (q_3, .inr (4, [.int 0, .ref d, .int 0])), (q_6, .inr (4, [.int 0, .ref d, .int 0])), (q_8, .inl (k_9, 8, .inl (upd (fun _ => 0) (0 : Int32).toNatClampNeg (1 : Int32)))), (q_10, .inl (k_11, 8, .inl (fun _ => 0))), (q_12, .inr (4, [.int 0, .ref d, .int 0])), (q_14, .inr (4, [.int 0, .ref d, .int 0])), (q_16, .inl (k_17, 4, .inl (fun _ => 0)))] H := hP
  have hD : va_D A [(mx, .inr (14, [.ref q_1, .ref q_3, .ref q_5, .ref q_6, .ref q_8, .ref q_10, .ref q_12, .ref q_14, .ref q_16, .int 1, .int 10, .int 0, .int 0])), (q_1, .inr (4, [.int 0, .ref d, .int 0])), (q_3, .inr (4, [.int 0, .ref d, .int 0])), (q_6, .inr (4, [.int 0, .ref d, .int 0])), (q_8, .inl (k_9, 8, .inl (upd (fun _ => 0) (0 : Int32).toNatClampNeg (1 : Int32)))), (q_10, .inl (k_11, 8, .inl (fun _ => 0))), (q_12, .inr (4, [.int 0, .ref d, .int 0])), (q_14, .inr (4, [.int 0, .ref d, .int 0])), (q_16, .inl (k_17, 4, .inl (fun _ => 0)))] := hD
  generalize (upd (fun _ => 0) (0 : Int32).toNatClampNeg (1 : Int32)) = a_19 at hP hD
  refine lv_aload_n hx hb dX9_init_130 rfl (lv_at hl 1 rfl) ?_
  refine va_get (D := (dC, dI)) (ci := 14) (v := .ref q_10) (C := RX9) (T := TX9) (N := 13) hx hb hts (fun _ h9 => List.mem_cons_of_mem _ (List.mem_append_left _ (List.mem_append_right _ (h9)))) hown hK hP 0 rfl rfl 5 (by decide) (hts (.fieldLink RX9 31 "ExamHallsModel" "most" "[I") (List.mem_of_getElem? (i := 15) rfl)) (fun _ h9 => h9) rfl dX9_init_131 ?_
  refine lv_iload_n hx hb dX9_init_134 rfl (lv_at hl 0 rfl) ?_
  refine lv_bipush (v := 12) hx hb dX9_init_135 (by decide) ?_
  refine va_iast hx hb hK hP hD hS 5 1 rfl rfl (by unfold vp_in; decide) dX9_init_137 (fun H locs hP hD hS => ?_)
  have hP : va_P (dC, dI) vwCl [(mx, .inr (14, [.ref q_1, .ref q_3, .ref q_5, .ref q_6, .ref q_8, .ref q_10, .ref q_12, .ref q_14, .ref q_16, .int 1, .int 10, .int 0, .int 0])), (q_1, .inr (4, [.int 0, .ref d, .int 0])), (q_3, .inr (4, [.int 0, .ref d, .int 0])), (q_6, .inr (4, [.int 0, .ref d, .int 0])), (q_8, .inl (k_9, 8, .inl a_19)), (q_10, .inl (k_11, 8, .inl (upd (fun _ => 0) (0 : Int32).toNatClampNeg (12 : Int32)))), (q_12, .inr (4, [.int 0, .ref d, .int 0])), (q_14, .inr (4, [.int 0, .ref d, .int 0])), (q_16, .inl (k_17, 4, .inl (fun _ => 0)))] H := hP
  have hD : va_D A [(mx, .inr (14, [.ref q_1, .ref q_3, .ref q_5, .ref q_6, .ref q_8, .ref q_10, .ref q_12, .ref q_14, .ref q_16, .int 1, .int 10, .int 0, .int 0])), (q_1, .inr (4, [.int 0, .ref d, .int 0])), (q_3, .inr (4, [.int 0, .ref d, .int 0])), (q_6, .inr (4, [.int 0, .ref d, .int 0])), (q_8, .inl (k_9, 8, .inl a_19)), (q_10, .inl (k_11, 8, .inl (upd (fun _ => 0) (0 : Int32).toNatClampNeg (12 : Int32)))), (q_12, .inr (4, [.int 0, .ref d, .int 0])), (q_14, .inr (4, [.int 0, .ref d, .int 0])), (q_16, .inl (k_17, 4, .inl (fun _ => 0)))] := hD
  generalize (upd (fun _ => 0) (0 : Int32).toNatClampNeg (12 : Int32)) = a_20 at hP hD
  refine lv_iinc (v := 1) (lv' := [(1, .int 1), (0, .ref mx)]) hx hb dX9_init_138 hl (k := 0) rfl (by decide) (by decide) rfl (fun ls hl => ?_)
  refine lv_goto (tgt := 117) hx hb dX9_init_141 (by decide) ?_
  refine lv_iload_n hx hb dX9_init_117 rfl (lv_at hl 0 rfl) ?_
  refine lv_bipush (v := 8) hx hb dX9_init_118 (by decide) ?_
  refine lv_icmp_ge (tgt := 144) hx hb dX9_init_120 (by decide) (fun c_21 => absurd c_21 (by decide)) (fun _ => ?_)
  refine lv_aload_n hx hb dX9_init_123 rfl (lv_at hl 1 rfl) ?_
  refine va_get (D := (dC, dI)) (ci := 14) (v := .ref q_8) (C := RX9) (T := TX9) (N := 13) hx hb hts (fun _ h9 => List.mem_cons_of_mem _ (List.mem_append_left _ (List.mem_append_right _ (h9)))) hown hK hP 0 rfl rfl 4 (by decide) (hts (.fieldLink RX9 27 "ExamHallsModel" "least" "[I") (List.mem_of_getElem? (i := 14) rfl)) (fun _ h9 => h9) rfl dX9_init_124 ?_
  refine lv_iload_n hx hb dX9_init_127 rfl (lv_at hl 0 rfl) ?_
  refine lv_iconst (v := 1) hx hb dX9_init_128 (by decide) ?_
  refine va_iast hx hb hK hP hD hS 4 0 rfl rfl (by unfold vp_in; decide) dX9_init_129 (fun H locs hP hD hS => ?_)
  have hP : va_P (dC, dI) vwCl [(mx, .inr (14, [.ref q_1, .ref q_3, .ref q_5, .ref q_6, .ref q_8, .ref q_10, .ref q_12, .ref q_14, .ref q_16, .int 1, .int 10, .int 0, .int 0])), (q_1, .inr (4, [.int 0, .ref d, .int 0])), (q_3, .inr (4, [.int 0, .ref d, .int 0])), (q_6, .inr (4, [.int 0, .ref d, .int 0])), (q_8, .inl (k_9, 8, .inl (upd a_19 (1 : Int32).toNatClampNeg (1 : Int32)))), (q_10, .inl (k_11, 8, .inl a_20)), (q_12, .inr (4, [.int 0, .ref d, .int 0])), (q_14, .inr (4, [.int 0, .ref d, .int 0])), (q_16, .inl (k_17, 4, .inl (fun _ => 0)))] H := hP
  have hD : va_D A [(mx, .inr (14, [.ref q_1, .ref q_3, .ref q_5, .ref q_6, .ref q_8, .ref q_10, .ref q_12, .ref q_14, .ref q_16, .int 1, .int 10, .int 0, .int 0])), (q_1, .inr (4, [.int 0, .ref d, .int 0])), (q_3, .inr (4, [.int 0, .ref d, .int 0])), (q_6, .inr (4, [.int 0, .ref d, .int 0])), (q_8, .inl (k_9, 8, .inl (upd a_19 (1 : Int32).toNatClampNeg (1 : Int32)))), (q_10, .inl (k_11, 8, .inl a_20)), (q_12, .inr (4, [.int 0, .ref d, .int 0])), (q_14, .inr (4, [.int 0, .ref d, .int 0])), (q_16, .inl (k_17, 4, .inl (fun _ => 0)))] := hD
  generalize (upd a_19 (1 : Int32).toNatClampNeg (1 : Int32)) = a_22 at hP hD
  refine lv_aload_n hx hb dX9_init_130 rfl (lv_at hl 1 rfl) ?_
  refine va_get (D := (dC, dI)) (ci := 14) (v := .ref q_10) (C := RX9) (T := TX9) (N := 13) hx hb hts (fun _ h9 => List.mem_cons_of_mem _ (List.mem_append_left _ (List.mem_append_right _ (h9)))) hown hK hP 0 rfl rfl 5 (by decide) (hts (.fieldLink RX9 31 "ExamHallsModel" "most" "[I") (List.mem_of_getElem? (i := 15) rfl)) (fun _ h9 => h9) rfl dX9_init_131 ?_
  refine lv_iload_n hx hb dX9_init_134 rfl (lv_at hl 0 rfl) ?_
  refine lv_bipush (v := 12) hx hb dX9_init_135 (by decide) ?_
  refine va_iast hx hb hK hP hD hS 5 1 rfl rfl (by unfold vp_in; decide) dX9_init_137 (fun H locs hP hD hS => ?_)
  have hP : va_P (dC, dI) vwCl [(mx, .inr (14, [.ref q_1, .ref q_3, .ref q_5, .ref q_6, .ref q_8, .ref q_10, .ref q_12, .ref q_14, .ref q_16, .int 1, .int 10, .int 0, .int 0])), (q_1, .inr (4, [.int 0, .ref d, .int 0])), (q_3, .inr (4, [.int 0, .ref d, .int 0])), (q_6, .inr (4, [.int 0, .ref d, .int 0])), (q_8, .inl (k_9, 8, .inl a_22)), (q_10, .inl (k_11, 8, .inl (upd a_20 (1 : Int32).toNatClampNeg (12 : Int32)))), (q_12, .inr (4, [.int 0, .ref d, .int 0])), (q_14, .inr (4, [.int 0, .ref d, .int 0])), (q_16, .inl (k_17, 4, .inl (fun _ => 0)))] H := hP
  have hD : va_D A [(mx, .inr (14, [.ref q_1, .ref q_3, .ref q_5, .ref q_6, .ref q_8, .ref q_10, .ref q_12, .ref q_14, .ref q_16, .int 1, .int 10, .int 0, .int 0])), (q_1, .inr (4, [.int 0, .ref d, .int 0])), (q_3, .inr (4, [.int 0, .ref d, .int 0])), (q_6, .inr (4, [.int 0, .ref d, .int 0])), (q_8, .inl (k_9, 8, .inl a_22)), (q_10, .inl (k_11, 8, .inl (upd a_20 (1 : Int32).toNatClampNeg (12 : Int32)))), (q_12, .inr (4, [.int 0, .ref d, .int 0])), (q_14, .inr (4, [.int 0, .ref d, .int 0])), (q_16, .inl (k_17, 4, .inl (fun _ => 0)))] := hD
  generalize (upd a_20 (1 : Int32).toNatClampNeg (12 : Int32)) = a_23 at hP hD
  refine lv_iinc (v := 2) (lv' := [(1, .int 2), (0, .ref mx)]) hx hb dX9_init_138 hl (k := 0) rfl (by decide) (by decide) rfl (fun ls hl => ?_)
  refine lv_goto (tgt := 117) hx hb dX9_init_141 (by decide) ?_
  refine lv_iload_n hx hb dX9_init_117 rfl (lv_at hl 0 rfl) ?_
  refine lv_bipush (v := 8) hx hb dX9_init_118 (by decide) ?_
  refine lv_icmp_ge (tgt := 144) hx hb dX9_init_120 (by decide) (fun c_24 => absurd c_24 (by decide)) (fun _ => ?_)
  refine lv_aload_n hx hb dX9_init_123 rfl (lv_at hl 1 rfl) ?_
  refine va_get (D := (dC, dI)) (ci := 14) (v := .ref q_8) (C := RX9) (T := TX9) (N := 13) hx hb hts (fun _ h9 => List.mem_cons_of_mem _ (List.mem_append_left _ (List.mem_append_right _ (h9)))) hown hK hP 0 rfl rfl 4 (by decide) (hts (.fieldLink RX9 27 "ExamHallsModel" "least" "[I") (List.mem_of_getElem? (i := 14) rfl)) (fun _ h9 => h9) rfl dX9_init_124 ?_
  refine lv_iload_n hx hb dX9_init_127 rfl (lv_at hl 0 rfl) ?_
  refine lv_iconst (v := 1) hx hb dX9_init_128 (by decide) ?_
  refine va_iast hx hb hK hP hD hS 4 0 rfl rfl (by unfold vp_in; decide) dX9_init_129 (fun H locs hP hD hS => ?_)
  have hP : va_P (dC, dI) vwCl [(mx, .inr (14, [.ref q_1, .ref q_3, .ref q_5, .ref q_6, .ref q_8, .ref q_10, .ref q_12, .ref q_14, .ref q_16, .int 1, .int 10, .int 0, .int 0])), (q_1, .inr (4, [.int 0, .ref d, .int 0])), (q_3, .inr (4, [.int 0, .ref d, .int 0])), (q_6, .inr (4, [.int 0, .ref d, .int 0])), (q_8, .inl (k_9, 8, .inl (upd a_22 (2 : Int32).toNatClampNeg (1 : Int32)))), (q_10, .inl (k_11, 8, .inl a_23)), (q_12, .inr (4, [.int 0, .ref d, .int 0])), (q_14, .inr (4, [.int 0, .ref d, .int 0])), (q_16, .inl (k_17, 4, .inl (fun _ => 0)))] H := hP
  have hD : va_D A [(mx, .inr (14, [.ref q_1, .ref q_3, .ref q_5, .ref q_6, .ref q_8, .ref q_10, .ref q_12, .ref q_14, .ref q_16, .int 1, .int 10, .int 0, .int 0])), (q_1, .inr (4, [.int 0, .ref d, .int 0])), (q_3, .inr (4, [.int 0, .ref d, .int 0])), (q_6, .inr (4, [.int 0, .ref d, .int 0])), (q_8, .inl (k_9, 8, .inl (upd a_22 (2 : Int32).toNatClampNeg (1 : Int32)))), (q_10, .inl (k_11, 8, .inl a_23)), (q_12, .inr (4, [.int 0, .ref d, .int 0])), (q_14, .inr (4, [.int 0, .ref d, .int 0])), (q_16, .inl (k_17, 4, .inl (fun _ => 0)))] := hD
  generalize (upd a_22 (2 : Int32).toNatClampNeg (1 : Int32)) = a_25 at hP hD
  refine lv_aload_n hx hb dX9_init_130 rfl (lv_at hl 1 rfl) ?_
  refine va_get (D := (dC, dI)) (ci := 14) (v := .ref q_10) (C := RX9) (T := TX9) (N := 13) hx hb hts (fun _ h9 => List.mem_cons_of_mem _ (List.mem_append_left _ (List.mem_append_right _ (h9)))) hown hK hP 0 rfl rfl 5 (by decide) (hts (.fieldLink RX9 31 "ExamHallsModel" "most" "[I") (List.mem_of_getElem? (i := 15) rfl)) (fun _ h9 => h9) rfl dX9_init_131 ?_
  refine lv_iload_n hx hb dX9_init_134 rfl (lv_at hl 0 rfl) ?_
  refine lv_bipush (v := 12) hx hb dX9_init_135 (by decide) ?_
  refine va_iast hx hb hK hP hD hS 5 1 rfl rfl (by unfold vp_in; decide) dX9_init_137 (fun H locs hP hD hS => ?_)
  have hP : va_P (dC, dI) vwCl [(mx, .inr (14, [.ref q_1, .ref q_3, .ref q_5, .ref q_6, .ref q_8, .ref q_10, .ref q_12, .ref q_14, .ref q_16, .int 1, .int 10, .int 0, .int 0])), (q_1, .inr (4, [.int 0, .ref d, .int 0])), (q_3, .inr (4, [.int 0, .ref d, .int 0])), (q_6, .inr (4, [.int 0, .ref d, .int 0])), (q_8, .inl (k_9, 8, .inl a_25)), (q_10, .inl (k_11, 8, .inl (upd a_23 (2 : Int32).toNatClampNeg (12 : Int32)))), (q_12, .inr (4, [.int 0, .ref d, .int 0])), (q_14, .inr (4, [.int 0, .ref d, .int 0])), (q_16, .inl (k_17, 4, .inl (fun _ => 0)))] H := hP
  have hD : va_D A [(mx, .inr (14, [.ref q_1, .ref q_3, .ref q_5, .ref q_6, .ref q_8, .ref q_10, .ref q_12, .ref q_14, .ref q_16, .int 1, .int 10, .int 0, .int 0])), (q_1, .inr (4, [.int 0, .ref d, .int 0])), (q_3, .inr (4, [.int 0, .ref d, .int 0])), (q_6, .inr (4, [.int 0, .ref d, .int 0])), (q_8, .inl (k_9, 8, .inl a_25)), (q_10, .inl (k_11, 8, .inl (upd a_23 (2 : Int32).toNatClampNeg (12 : Int32)))), (q_12, .inr (4, [.int 0, .ref d, .int 0])), (q_14, .inr (4, [.int 0, .ref d, .int 0])), (q_16, .inl (k_17, 4, .inl (fun _ => 0)))] := hD
  generalize (upd a_23 (2 : Int32).toNatClampNeg (12 : Int32)) = a_26 at hP hD
  refine lv_iinc (v := 3) (lv' := [(1, .int 3), (0, .ref mx)]) hx hb dX9_init_138 hl (k := 0) rfl (by decide) (by decide) rfl (fun ls hl => ?_)
  refine lv_goto (tgt := 117) hx hb dX9_init_141 (by decide) ?_
  refine lv_iload_n hx hb dX9_init_117 rfl (lv_at hl 0 rfl) ?_
  refine lv_bipush (v := 8) hx hb dX9_init_118 (by decide) ?_
  refine lv_icmp_ge (tgt := 144) hx hb dX9_init_120 (by decide) (fun c_27 => absurd c_27 (by decide)) (fun _ => ?_)
  refine lv_aload_n hx hb dX9_init_123 rfl (lv_at hl 1 rfl) ?_
  refine va_get (D := (dC, dI)) (ci := 14) (v := .ref q_8) (C := RX9) (T := TX9) (N := 13) hx hb hts (fun _ h9 => List.mem_cons_of_mem _ (List.mem_append_left _ (List.mem_append_right _ (h9)))) hown hK hP 0 rfl rfl 4 (by decide) (hts (.fieldLink RX9 27 "ExamHallsModel" "least" "[I") (List.mem_of_getElem? (i := 14) rfl)) (fun _ h9 => h9) rfl dX9_init_124 ?_
  refine lv_iload_n hx hb dX9_init_127 rfl (lv_at hl 0 rfl) ?_
  refine lv_iconst (v := 1) hx hb dX9_init_128 (by decide) ?_
  refine va_iast hx hb hK hP hD hS 4 0 rfl rfl (by unfold vp_in; decide) dX9_init_129 (fun H locs hP hD hS => ?_)
  have hP : va_P (dC, dI) vwCl [(mx, .inr (14, [.ref q_1, .ref q_3, .ref q_5, .ref q_6, .ref q_8, .ref q_10, .ref q_12, .ref q_14, .ref q_16, .int 1, .int 10, .int 0, .int 0])), (q_1, .inr (4, [.int 0, .ref d, .int 0])), (q_3, .inr (4, [.int 0, .ref d, .int 0])), (q_6, .inr (4, [.int 0, .ref d, .int 0])), (q_8, .inl (k_9, 8, .inl (upd a_25 (3 : Int32).toNatClampNeg (1 : Int32)))), (q_10, .inl (k_11, 8, .inl a_26)), (q_12, .inr (4, [.int 0, .ref d, .int 0])), (q_14, .inr (4, [.int 0, .ref d, .int 0])), (q_16, .inl (k_17, 4, .inl (fun _ => 0)))] H := hP
  have hD : va_D A [(mx, .inr (14, [.ref q_1, .ref q_3, .ref q_5, .ref q_6, .ref q_8, .ref q_10, .ref q_12, .ref q_14, .ref q_16, .int 1, .int 10, .int 0, .int 0])), (q_1, .inr (4, [.int 0, .ref d, .int 0])), (q_3, .inr (4, [.int 0, .ref d, .int 0])), (q_6, .inr (4, [.int 0, .ref d, .int 0])), (q_8, .inl (k_9, 8, .inl (upd a_25 (3 : Int32).toNatClampNeg (1 : Int32)))), (q_10, .inl (k_11, 8, .inl a_26)), (q_12, .inr (4, [.int 0, .ref d, .int 0])), (q_14, .inr (4, [.int 0, .ref d, .int 0])), (q_16, .inl (k_17, 4, .inl (fun _ => 0)))] := hD
  generalize (upd a_25 (3 : Int32).toNatClampNeg (1 : Int32)) = a_28 at hP hD
  refine lv_aload_n hx hb dX9_init_130 rfl (lv_at hl 1 rfl) ?_
  refine va_get (D := (dC, dI)) (ci := 14) (v := .ref q_10) (C := RX9) (T := TX9) (N := 13) hx hb hts (fun _ h9 => List.mem_cons_of_mem _ (List.mem_append_left _ (List.mem_append_right _ (h9)))) hown hK hP 0 rfl rfl 5 (by decide) (hts (.fieldLink RX9 31 "ExamHallsModel" "most" "[I") (List.mem_of_getElem? (i := 15) rfl)) (fun _ h9 => h9) rfl dX9_init_131 ?_
  refine lv_iload_n hx hb dX9_init_134 rfl (lv_at hl 0 rfl) ?_
  refine lv_bipush (v := 12) hx hb dX9_init_135 (by decide) ?_
  refine va_iast hx hb hK hP hD hS 5 1 rfl rfl (by unfold vp_in; decide) dX9_init_137 (fun H locs hP hD hS => ?_)
  have hP : va_P (dC, dI) vwCl [(mx, .inr (14, [.ref q_1, .ref q_3, .ref q_5, .ref q_6, .ref q_8, .ref q_10, .ref q_12, .ref q_14, .ref q_16, .int 1, .int 10, .int 0, .int 0])), (q_1, .inr (4, [.int 0, .ref d, .int 0])), (q_3, .inr (4, [.int 0, .ref d, .int 0])), (q_6, .inr (4, [.int 0, .ref d, .int 0])), (q_8, .inl (k_9, 8, .inl a_28)), (q_10, .inl (k_11, 8, .inl (upd a_26 (3 : Int32).toNatClampNeg (12 : Int32)))), (q_12, .inr (4, [.int 0, .ref d, .int 0])), (q_14, .inr (4, [.int 0, .ref d, .int 0])), (q_16, .inl (k_17, 4, .inl (fun _ => 0)))] H := hP
  have hD : va_D A [(mx, .inr (14, [.ref q_1, .ref q_3, .ref q_5, .ref q_6, .ref q_8, .ref q_10, .ref q_12, .ref q_14, .ref q_16, .int 1, .int 10, .int 0, .int 0])), (q_1, .inr (4, [.int 0, .ref d, .int 0])), (q_3, .inr (4, [.int 0, .ref d, .int 0])), (q_6, .inr (4, [.int 0, .ref d, .int 0])), (q_8, .inl (k_9, 8, .inl a_28)), (q_10, .inl (k_11, 8, .inl (upd a_26 (3 : Int32).toNatClampNeg (12 : Int32)))), (q_12, .inr (4, [.int 0, .ref d, .int 0])), (q_14, .inr (4, [.int 0, .ref d, .int 0])), (q_16, .inl (k_17, 4, .inl (fun _ => 0)))] := hD
  generalize (upd a_26 (3 : Int32).toNatClampNeg (12 : Int32)) = a_29 at hP hD
  refine lv_iinc (v := 4) (lv' := [(1, .int 4), (0, .ref mx)]) hx hb dX9_init_138 hl (k := 0) rfl (by decide) (by decide) rfl (fun ls hl => ?_)
  refine lv_goto (tgt := 117) hx hb dX9_init_141 (by decide) ?_
  refine lv_iload_n hx hb dX9_init_117 rfl (lv_at hl 0 rfl) ?_
  refine lv_bipush (v := 8) hx hb dX9_init_118 (by decide) ?_
  refine lv_icmp_ge (tgt := 144) hx hb dX9_init_120 (by decide) (fun c_30 => absurd c_30 (by decide)) (fun _ => ?_)
  refine lv_aload_n hx hb dX9_init_123 rfl (lv_at hl 1 rfl) ?_
  refine va_get (D := (dC, dI)) (ci := 14) (v := .ref q_8) (C := RX9) (T := TX9) (N := 13) hx hb hts (fun _ h9 => List.mem_cons_of_mem _ (List.mem_append_left _ (List.mem_append_right _ (h9)))) hown hK hP 0 rfl rfl 4 (by decide) (hts (.fieldLink RX9 27 "ExamHallsModel" "least" "[I") (List.mem_of_getElem? (i := 14) rfl)) (fun _ h9 => h9) rfl dX9_init_124 ?_
  refine lv_iload_n hx hb dX9_init_127 rfl (lv_at hl 0 rfl) ?_
  refine lv_iconst (v := 1) hx hb dX9_init_128 (by decide) ?_
  refine va_iast hx hb hK hP hD hS 4 0 rfl rfl (by unfold vp_in; decide) dX9_init_129 (fun H locs hP hD hS => ?_)
  have hP : va_P (dC, dI) vwCl [(mx, .inr (14, [.ref q_1, .ref q_3, .ref q_5, .ref q_6, .ref q_8, .ref q_10, .ref q_12, .ref q_14, .ref q_16, .int 1, .int 10, .int 0, .int 0])), (q_1, .inr (4, [.int 0, .ref d, .int 0])), (q_3, .inr (4, [.int 0, .ref d, .int 0])), (q_6, .inr (4, [.int 0, .ref d, .int 0])), (q_8, .inl (k_9, 8, .inl (upd a_28 (4 : Int32).toNatClampNeg (1 : Int32)))), (q_10, .inl (k_11, 8, .inl a_29)), (q_12, .inr (4, [.int 0, .ref d, .int 0])), (q_14, .inr (4, [.int 0, .ref d, .int 0])), (q_16, .inl (k_17, 4, .inl (fun _ => 0)))] H := hP
  have hD : va_D A [(mx, .inr (14, [.ref q_1, .ref q_3, .ref q_5, .ref q_6, .ref q_8, .ref q_10, .ref q_12, .ref q_14, .ref q_16, .int 1, .int 10, .int 0, .int 0])), (q_1, .inr (4, [.int 0, .ref d, .int 0])), (q_3, .inr (4, [.int 0, .ref d, .int 0])), (q_6, .inr (4, [.int 0, .ref d, .int 0])), (q_8, .inl (k_9, 8, .inl (upd a_28 (4 : Int32).toNatClampNeg (1 : Int32)))), (q_10, .inl (k_11, 8, .inl a_29)), (q_12, .inr (4, [.int 0, .ref d, .int 0])), (q_14, .inr (4, [.int 0, .ref d, .int 0])), (q_16, .inl (k_17, 4, .inl (fun _ => 0)))] := hD
  generalize (upd a_28 (4 : Int32).toNatClampNeg (1 : Int32)) = a_31 at hP hD
  refine lv_aload_n hx hb dX9_init_130 rfl (lv_at hl 1 rfl) ?_
  refine va_get (D := (dC, dI)) (ci := 14) (v := .ref q_10) (C := RX9) (T := TX9) (N := 13) hx hb hts (fun _ h9 => List.mem_cons_of_mem _ (List.mem_append_left _ (List.mem_append_right _ (h9)))) hown hK hP 0 rfl rfl 5 (by decide) (hts (.fieldLink RX9 31 "ExamHallsModel" "most" "[I") (List.mem_of_getElem? (i := 15) rfl)) (fun _ h9 => h9) rfl dX9_init_131 ?_
  refine lv_iload_n hx hb dX9_init_134 rfl (lv_at hl 0 rfl) ?_
  refine lv_bipush (v := 12) hx hb dX9_init_135 (by decide) ?_
  refine va_iast hx hb hK hP hD hS 5 1 rfl rfl (by unfold vp_in; decide) dX9_init_137 (fun H locs hP hD hS => ?_)
  have hP : va_P (dC, dI) vwCl [(mx, .inr (14, [.ref q_1, .ref q_3, .ref q_5, .ref q_6, .ref q_8, .ref q_10, .ref q_12, .ref q_14, .ref q_16, .int 1, .int 10, .int 0, .int 0])), (q_1, .inr (4, [.int 0, .ref d, .int 0])), (q_3, .inr (4, [.int 0, .ref d, .int 0])), (q_6, .inr (4, [.int 0, .ref d, .int 0])), (q_8, .inl (k_9, 8, .inl a_31)), (q_10, .inl (k_11, 8, .inl (upd a_29 (4 : Int32).toNatClampNeg (12 : Int32)))), (q_12, .inr (4, [.int 0, .ref d, .int 0])), (q_14, .inr (4, [.int 0, .ref d, .int 0])), (q_16, .inl (k_17, 4, .inl (fun _ => 0)))] H := hP
  have hD : va_D A [(mx, .inr (14, [.ref q_1, .ref q_3, .ref q_5, .ref q_6, .ref q_8, .ref q_10, .ref q_12, .ref q_14, .ref q_16, .int 1, .int 10, .int 0, .int 0])), (q_1, .inr (4, [.int 0, .ref d, .int 0])), (q_3, .inr (4, [.int 0, .ref d, .int 0])), (q_6, .inr (4, [.int 0, .ref d, .int 0])), (q_8, .inl (k_9, 8, .inl a_31)), (q_10, .inl (k_11, 8, .inl (upd a_29 (4 : Int32).toNatClampNeg (12 : Int32)))), (q_12, .inr (4, [.int 0, .ref d, .int 0])), (q_14, .inr (4, [.int 0, .ref d, .int 0])), (q_16, .inl (k_17, 4, .inl (fun _ => 0)))] := hD
  generalize (upd a_29 (4 : Int32).toNatClampNeg (12 : Int32)) = a_32 at hP hD
  refine lv_iinc (v := 5) (lv' := [(1, .int 5), (0, .ref mx)]) hx hb dX9_init_138 hl (k := 0) rfl (by decide) (by decide) rfl (fun ls hl => ?_)
  refine lv_goto (tgt := 117) hx hb dX9_init_141 (by decide) ?_
  refine lv_iload_n hx hb dX9_init_117 rfl (lv_at hl 0 rfl) ?_
  refine lv_bipush (v := 8) hx hb dX9_init_118 (by decide) ?_
  refine lv_icmp_ge (tgt := 144) hx hb dX9_init_120 (by decide) (fun c_33 => absurd c_33 (by decide)) (fun _ => ?_)
  refine lv_aload_n hx hb dX9_init_123 rfl (lv_at hl 1 rfl) ?_
  refine va_get (D := (dC, dI)) (ci := 14) (v := .ref q_8) (C := RX9) (T := TX9) (N := 13) hx hb hts (fun _ h9 => List.mem_cons_of_mem _ (List.mem_append_left _ (List.mem_append_right _ (h9)))) hown hK hP 0 rfl rfl 4 (by decide) (hts (.fieldLink RX9 27 "ExamHallsModel" "least" "[I") (List.mem_of_getElem? (i := 14) rfl)) (fun _ h9 => h9) rfl dX9_init_124 ?_
  refine lv_iload_n hx hb dX9_init_127 rfl (lv_at hl 0 rfl) ?_
  refine lv_iconst (v := 1) hx hb dX9_init_128 (by decide) ?_
  refine va_iast hx hb hK hP hD hS 4 0 rfl rfl (by unfold vp_in; decide) dX9_init_129 (fun H locs hP hD hS => ?_)
  have hP : va_P (dC, dI) vwCl [(mx, .inr (14, [.ref q_1, .ref q_3, .ref q_5, .ref q_6, .ref q_8, .ref q_10, .ref q_12, .ref q_14, .ref q_16, .int 1, .int 10, .int 0, .int 0])), (q_1, .inr (4, [.int 0, .ref d, .int 0])), (q_3, .inr (4, [.int 0, .ref d, .int 0])), (q_6, .inr (4, [.int 0, .ref d, .int 0])), (q_8, .inl (k_9, 8, .inl (upd a_31 (5 : Int32).toNatClampNeg (1 : Int32)))), (q_10, .inl (k_11, 8, .inl a_32)), (q_12, .inr (4, [.int 0, .ref d, .int 0])), (q_14, .inr (4, [.int 0, .ref d, .int 0])), (q_16, .inl (k_17, 4, .inl (fun _ => 0)))] H := hP
  have hD : va_D A [(mx, .inr (14, [.ref q_1, .ref q_3, .ref q_5, .ref q_6, .ref q_8, .ref q_10, .ref q_12, .ref q_14, .ref q_16, .int 1, .int 10, .int 0, .int 0])), (q_1, .inr (4, [.int 0, .ref d, .int 0])), (q_3, .inr (4, [.int 0, .ref d, .int 0])), (q_6, .inr (4, [.int 0, .ref d, .int 0])), (q_8, .inl (k_9, 8, .inl (upd a_31 (5 : Int32).toNatClampNeg (1 : Int32)))), (q_10, .inl (k_11, 8, .inl a_32)), (q_12, .inr (4, [.int 0, .ref d, .int 0])), (q_14, .inr (4, [.int 0, .ref d, .int 0])), (q_16, .inl (k_17, 4, .inl (fun _ => 0)))] := hD
  generalize (upd a_31 (5 : Int32).toNatClampNeg (1 : Int32)) = a_34 at hP hD
  refine lv_aload_n hx hb dX9_init_130 rfl (lv_at hl 1 rfl) ?_
  refine va_get (D := (dC, dI)) (ci := 14) (v := .ref q_10) (C := RX9) (T := TX9) (N := 13) hx hb hts (fun _ h9 => List.mem_cons_of_mem _ (List.mem_append_left _ (List.mem_append_right _ (h9)))) hown hK hP 0 rfl rfl 5 (by decide) (hts (.fieldLink RX9 31 "ExamHallsModel" "most" "[I") (List.mem_of_getElem? (i := 15) rfl)) (fun _ h9 => h9) rfl dX9_init_131 ?_
  refine lv_iload_n hx hb dX9_init_134 rfl (lv_at hl 0 rfl) ?_
  refine lv_bipush (v := 12) hx hb dX9_init_135 (by decide) ?_
  refine va_iast hx hb hK hP hD hS 5 1 rfl rfl (by unfold vp_in; decide) dX9_init_137 (fun H locs hP hD hS => ?_)
  have hP : va_P (dC, dI) vwCl [(mx, .inr (14, [.ref q_1, .ref q_3, .ref q_5, .ref q_6, .ref q_8, .ref q_10, .ref q_12, .ref q_14, .ref q_16, .int 1, .int 10, .int 0, .int 0])), (q_1, .inr (4, [.int 0, .ref d, .int 0])), (q_3, .inr (4, [.int 0, .ref d, .int 0])), (q_6, .inr (4, [.int 0, .ref d, .int 0])), (q_8, .inl (k_9, 8, .inl a_34)), (q_10, .inl (k_11, 8, .inl (upd a_32 (5 : Int32).toNatClampNeg (12 : Int32)))), (q_12, .inr (4, [.int 0, .ref d, .int 0])), (q_14, .inr (4, [.int 0, .ref d, .int 0])), (q_16, .inl (k_17, 4, .inl (fun _ => 0)))] H := hP
  have hD : va_D A [(mx, .inr (14, [.ref q_1, .ref q_3, .ref q_5, .ref q_6, .ref q_8, .ref q_10, .ref q_12, .ref q_14, .ref q_16, .int 1, .int 10, .int 0, .int 0])), (q_1, .inr (4, [.int 0, .ref d, .int 0])), (q_3, .inr (4, [.int 0, .ref d, .int 0])), (q_6, .inr (4, [.int 0, .ref d, .int 0])), (q_8, .inl (k_9, 8, .inl a_34)), (q_10, .inl (k_11, 8, .inl (upd a_32 (5 : Int32).toNatClampNeg (12 : Int32)))), (q_12, .inr (4, [.int 0, .ref d, .int 0])), (q_14, .inr (4, [.int 0, .ref d, .int 0])), (q_16, .inl (k_17, 4, .inl (fun _ => 0)))] := hD
  generalize (upd a_32 (5 : Int32).toNatClampNeg (12 : Int32)) = a_35 at hP hD
  refine lv_iinc (v := 6) (lv' := [(1, .int 6), (0, .ref mx)]) hx hb dX9_init_138 hl (k := 0) rfl (by decide) (by decide) rfl (fun ls hl => ?_)
  refine lv_goto (tgt := 117) hx hb dX9_init_141 (by decide) ?_
  refine lv_iload_n hx hb dX9_init_117 rfl (lv_at hl 0 rfl) ?_
  refine lv_bipush (v := 8) hx hb dX9_init_118 (by decide) ?_
  refine lv_icmp_ge (tgt := 144) hx hb dX9_init_120 (by decide) (fun c_36 => absurd c_36 (by decide)) (fun _ => ?_)
  refine lv_aload_n hx hb dX9_init_123 rfl (lv_at hl 1 rfl) ?_
  refine va_get (D := (dC, dI)) (ci := 14) (v := .ref q_8) (C := RX9) (T := TX9) (N := 13) hx hb hts (fun _ h9 => List.mem_cons_of_mem _ (List.mem_append_left _ (List.mem_append_right _ (h9)))) hown hK hP 0 rfl rfl 4 (by decide) (hts (.fieldLink RX9 27 "ExamHallsModel" "least" "[I") (List.mem_of_getElem? (i := 14) rfl)) (fun _ h9 => h9) rfl dX9_init_124 ?_
  refine lv_iload_n hx hb dX9_init_127 rfl (lv_at hl 0 rfl) ?_
  refine lv_iconst (v := 1) hx hb dX9_init_128 (by decide) ?_
  refine va_iast hx hb hK hP hD hS 4 0 rfl rfl (by unfold vp_in; decide) dX9_init_129 (fun H locs hP hD hS => ?_)
  have hP : va_P (dC, dI) vwCl [(mx, .inr (14, [.ref q_1, .ref q_3, .ref q_5, .ref q_6, .ref q_8, .ref q_10, .ref q_12, .ref q_14, .ref q_16, .int 1, .int 10, .int 0, .int 0])), (q_1, .inr (4, [.int 0, .ref d, .int 0])), (q_3, .inr (4, [.int 0, .ref d, .int 0])), (q_6, .inr (4, [.int 0, .ref d, .int 0])), (q_8, .inl (k_9, 8, .inl (upd a_34 (6 : Int32).toNatClampNeg (1 : Int32)))), (q_10, .inl (k_11, 8, .inl a_35)), (q_12, .inr (4, [.int 0, .ref d, .int 0])), (q_14, .inr (4, [.int 0, .ref d, .int 0])), (q_16, .inl (k_17, 4, .inl (fun _ => 0)))] H := hP
  have hD : va_D A [(mx, .inr (14, [.ref q_1, .ref q_3, .ref q_5, .ref q_6, .ref q_8, .ref q_10, .ref q_12, .ref q_14, .ref q_16, .int 1, .int 10, .int 0, .int 0])), (q_1, .inr (4, [.int 0, .ref d, .int 0])), (q_3, .inr (4, [.int 0, .ref d, .int 0])), (q_6, .inr (4, [.int 0, .ref d, .int 0])), (q_8, .inl (k_9, 8, .inl (upd a_34 (6 : Int32).toNatClampNeg (1 : Int32)))), (q_10, .inl (k_11, 8, .inl a_35)), (q_12, .inr (4, [.int 0, .ref d, .int 0])), (q_14, .inr (4, [.int 0, .ref d, .int 0])), (q_16, .inl (k_17, 4, .inl (fun _ => 0)))] := hD
  generalize (upd a_34 (6 : Int32).toNatClampNeg (1 : Int32)) = a_37 at hP hD
  refine lv_aload_n hx hb dX9_init_130 rfl (lv_at hl 1 rfl) ?_
  refine va_get (D := (dC, dI)) (ci := 14) (v := .ref q_10) (C := RX9) (T := TX9) (N := 13) hx hb hts (fun _ h9 => List.mem_cons_of_mem _ (List.mem_append_left _ (List.mem_append_right _ (h9)))) hown hK hP 0 rfl rfl 5 (by decide) (hts (.fieldLink RX9 31 "ExamHallsModel" "most" "[I") (List.mem_of_getElem? (i := 15) rfl)) (fun _ h9 => h9) rfl dX9_init_131 ?_
  refine lv_iload_n hx hb dX9_init_134 rfl (lv_at hl 0 rfl) ?_
  refine lv_bipush (v := 12) hx hb dX9_init_135 (by decide) ?_
  refine va_iast hx hb hK hP hD hS 5 1 rfl rfl (by unfold vp_in; decide) dX9_init_137 (fun H locs hP hD hS => ?_)
  have hP : va_P (dC, dI) vwCl [(mx, .inr (14, [.ref q_1, .ref q_3, .ref q_5, .ref q_6, .ref q_8, .ref q_10, .ref q_12, .ref q_14, .ref q_16, .int 1, .int 10, .int 0, .int 0])), (q_1, .inr (4, [.int 0, .ref d, .int 0])), (q_3, .inr (4, [.int 0, .ref d, .int 0])), (q_6, .inr (4, [.int 0, .ref d, .int 0])), (q_8, .inl (k_9, 8, .inl a_37)), (q_10, .inl (k_11, 8, .inl (upd a_35 (6 : Int32).toNatClampNeg (12 : Int32)))), (q_12, .inr (4, [.int 0, .ref d, .int 0])), (q_14, .inr (4, [.int 0, .ref d, .int 0])), (q_16, .inl (k_17, 4, .inl (fun _ => 0)))] H := hP
  have hD : va_D A [(mx, .inr (14, [.ref q_1, .ref q_3, .ref q_5, .ref q_6, .ref q_8, .ref q_10, .ref q_12, .ref q_14, .ref q_16, .int 1, .int 10, .int 0, .int 0])), (q_1, .inr (4, [.int 0, .ref d, .int 0])), (q_3, .inr (4, [.int 0, .ref d, .int 0])), (q_6, .inr (4, [.int 0, .ref d, .int 0])), (q_8, .inl (k_9, 8, .inl a_37)), (q_10, .inl (k_11, 8, .inl (upd a_35 (6 : Int32).toNatClampNeg (12 : Int32)))), (q_12, .inr (4, [.int 0, .ref d, .int 0])), (q_14, .inr (4, [.int 0, .ref d, .int 0])), (q_16, .inl (k_17, 4, .inl (fun _ => 0)))] := hD
  generalize (upd a_35 (6 : Int32).toNatClampNeg (12 : Int32)) = a_38 at hP hD
  refine lv_iinc (v := 7) (lv' := [(1, .int 7), (0, .ref mx)]) hx hb dX9_init_138 hl (k := 0) rfl (by decide) (by decide) rfl (fun ls hl => ?_)
  refine lv_goto (tgt := 117) hx hb dX9_init_141 (by decide) ?_
  refine lv_iload_n hx hb dX9_init_117 rfl (lv_at hl 0 rfl) ?_
  refine lv_bipush (v := 8) hx hb dX9_init_118 (by decide) ?_
  refine lv_icmp_ge (tgt := 144) hx hb dX9_init_120 (by decide) (fun c_39 => absurd c_39 (by decide)) (fun _ => ?_)
  refine lv_aload_n hx hb dX9_init_123 rfl (lv_at hl 1 rfl) ?_
  refine va_get (D := (dC, dI)) (ci := 14) (v := .ref q_8) (C := RX9) (T := TX9) (N := 13) hx hb hts (fun _ h9 => List.mem_cons_of_mem _ (List.mem_append_left _ (List.mem_append_right _ (h9)))) hown hK hP 0 rfl rfl 4 (by decide) (hts (.fieldLink RX9 27 "ExamHallsModel" "least" "[I") (List.mem_of_getElem? (i := 14) rfl)) (fun _ h9 => h9) rfl dX9_init_124 ?_
  refine lv_iload_n hx hb dX9_init_127 rfl (lv_at hl 0 rfl) ?_
  refine lv_iconst (v := 1) hx hb dX9_init_128 (by decide) ?_
  refine va_iast hx hb hK hP hD hS 4 0 rfl rfl (by unfold vp_in; decide) dX9_init_129 (fun H locs hP hD hS => ?_)
  have hP : va_P (dC, dI) vwCl [(mx, .inr (14, [.ref q_1, .ref q_3, .ref q_5, .ref q_6, .ref q_8, .ref q_10, .ref q_12, .ref q_14, .ref q_16, .int 1, .int 10, .int 0, .int 0])), (q_1, .inr (4, [.int 0, .ref d, .int 0])), (q_3, .inr (4, [.int 0, .ref d, .int 0])), (q_6, .inr (4, [.int 0, .ref d, .int 0])), (q_8, .inl (k_9, 8, .inl (upd a_37 (7 : Int32).toNatClampNeg (1 : Int32)))), (q_10, .inl (k_11, 8, .inl a_38)), (q_12, .inr (4, [.int 0, .ref d, .int 0])), (q_14, .inr (4, [.int 0, .ref d, .int 0])), (q_16, .inl (k_17, 4, .inl (fun _ => 0)))] H := hP
  have hD : va_D A [(mx, .inr (14, [.ref q_1, .ref q_3, .ref q_5, .ref q_6, .ref q_8, .ref q_10, .ref q_12, .ref q_14, .ref q_16, .int 1, .int 10, .int 0, .int 0])), (q_1, .inr (4, [.int 0, .ref d, .int 0])), (q_3, .inr (4, [.int 0, .ref d, .int 0])), (q_6, .inr (4, [.int 0, .ref d, .int 0])), (q_8, .inl (k_9, 8, .inl (upd a_37 (7 : Int32).toNatClampNeg (1 : Int32)))), (q_10, .inl (k_11, 8, .inl a_38)), (q_12, .inr (4, [.int 0, .ref d, .int 0])), (q_14, .inr (4, [.int 0, .ref d, .int 0])), (q_16, .inl (k_17, 4, .inl (fun _ => 0)))] := hD
  generalize (upd a_37 (7 : Int32).toNatClampNeg (1 : Int32)) = a_40 at hP hD
  refine lv_aload_n hx hb dX9_init_130 rfl (lv_at hl 1 rfl) ?_
  refine va_get (D := (dC, dI)) (ci := 14) (v := .ref q_10) (C := RX9) (T := TX9) (N := 13) hx hb hts (fun _ h9 => List.mem_cons_of_mem _ (List.mem_append_left _ (List.mem_append_right _ (h9)))) hown hK hP 0 rfl rfl 5 (by decide) (hts (.fieldLink RX9 31 "ExamHallsModel" "most" "[I") (List.mem_of_getElem? (i := 15) rfl)) (fun _ h9 => h9) rfl dX9_init_131 ?_
  refine lv_iload_n hx hb dX9_init_134 rfl (lv_at hl 0 rfl) ?_
  refine lv_bipush (v := 12) hx hb dX9_init_135 (by decide) ?_
  refine va_iast hx hb hK hP hD hS 5 1 rfl rfl (by unfold vp_in; decide) dX9_init_137 (fun H locs hP hD hS => ?_)
  have hP : va_P (dC, dI) vwCl [(mx, .inr (14, [.ref q_1, .ref q_3, .ref q_5, .ref q_6, .ref q_8, .ref q_10, .ref q_12, .ref q_14, .ref q_16, .int 1, .int 10, .int 0, .int 0])), (q_1, .inr (4, [.int 0, .ref d, .int 0])), (q_3, .inr (4, [.int 0, .ref d, .int 0])), (q_6, .inr (4, [.int 0, .ref d, .int 0])), (q_8, .inl (k_9, 8, .inl a_40)), (q_10, .inl (k_11, 8, .inl (upd a_38 (7 : Int32).toNatClampNeg (12 : Int32)))), (q_12, .inr (4, [.int 0, .ref d, .int 0])), (q_14, .inr (4, [.int 0, .ref d, .int 0])), (q_16, .inl (k_17, 4, .inl (fun _ => 0)))] H := hP
  have hD : va_D A [(mx, .inr (14, [.ref q_1, .ref q_3, .ref q_5, .ref q_6, .ref q_8, .ref q_10, .ref q_12, .ref q_14, .ref q_16, .int 1, .int 10, .int 0, .int 0])), (q_1, .inr (4, [.int 0, .ref d, .int 0])), (q_3, .inr (4, [.int 0, .ref d, .int 0])), (q_6, .inr (4, [.int 0, .ref d, .int 0])), (q_8, .inl (k_9, 8, .inl a_40)), (q_10, .inl (k_11, 8, .inl (upd a_38 (7 : Int32).toNatClampNeg (12 : Int32)))), (q_12, .inr (4, [.int 0, .ref d, .int 0])), (q_14, .inr (4, [.int 0, .ref d, .int 0])), (q_16, .inl (k_17, 4, .inl (fun _ => 0)))] := hD
  generalize (upd a_38 (7 : Int32).toNatClampNeg (12 : Int32)) = a_41 at hP hD
  refine lv_iinc (v := 8) (lv' := [(1, .int 8), (0, .ref mx)]) hx hb dX9_init_138 hl (k := 0) rfl (by decide) (by decide) rfl (fun ls hl => ?_)
  refine lv_goto (tgt := 117) hx hb dX9_init_141 (by decide) ?_
  refine lv_iload_n hx hb dX9_init_117 rfl (lv_at hl 0 rfl) ?_
  refine lv_bipush (v := 8) hx hb dX9_init_118 (by decide) ?_
  refine lv_icmp_ge (tgt := 144) hx hb dX9_init_120 (by decide) (fun _ => ?_) (fun c_42 => absurd (by decide) c_42)
  have hP9 := hP.sub (ws' := [(mx, .inr (14, [.ref q_1, .ref q_3, .ref q_5, .ref q_6, .ref q_8, .ref q_10, .ref q_12, .ref q_14, .ref q_16, .int 1, .int 10, .int 0, .int 0])), (q_1, .inr (4, [.int 0, .ref d, .int 0])), (q_3, .inr (4, [.int 0, .ref d, .int 0])), (q_6, .inr (4, [.int 0, .ref d, .int 0])), (q_12, .inr (4, [.int 0, .ref d, .int 0])), (q_14, .inr (4, [.int 0, .ref d, .int 0])), (q_8, .inl (k_9, 8, .inl a_40)), (q_10, .inl (k_11, 8, .inl a_41)), (q_16, .inl (k_17, 4, .inl (fun _ => 0)))]) [0, 1, 2, 3, 6, 7, 4, 5, 8] rfl
  have hD9 := hD.sub (ws' := [(mx, .inr (14, [.ref q_1, .ref q_3, .ref q_5, .ref q_6, .ref q_8, .ref q_10, .ref q_12, .ref q_14, .ref q_16, .int 1, .int 10, .int 0, .int 0])), (q_1, .inr (4, [.int 0, .ref d, .int 0])), (q_3, .inr (4, [.int 0, .ref d, .int 0])), (q_6, .inr (4, [.int 0, .ref d, .int 0])), (q_12, .inr (4, [.int 0, .ref d, .int 0])), (q_14, .inr (4, [.int 0, .ref d, .int 0])), (q_8, .inl (k_9, 8, .inl a_40)), (q_10, .inl (k_11, 8, .inl a_41)), (q_16, .inl (k_17, 4, .inl (fun _ => 0)))]) [0, 1, 2, 3, 6, 7, 4, 5, 8] (by decide) rfl
  have hK9 := hK.sub (tys' := [(k_9, .int), (k_11, .int), (k_17, .int)]) [0, 1, 2] rfl
  exact W.vret hx hb hr (fun t ht hW => ⟨⟨(), rfl, trivial, q_1, q_3, q_5, q_6, q_8, q_10, q_12, q_14, q_16, k_9, k_11, k_17, a_40, a_41, by rw [ht]; exact hP9, va_K.moved hW.alike hK9, hD9⟩, hS.F ht⟩) hS.2.2 dX9_init_144

theorem dJx4a65c_grow_92f84_0 : decode cJx4a65c_grow_92f84 0 = .ok (.aload_n 0, 1) := by decide +kernel
theorem dJx4a65c_grow_92f84_1 : decode cJx4a65c_grow_92f84 1 = .ok (.getfield 9, 3) := by decide +kernel
theorem dJx4a65c_grow_92f84_4 : decode cJx4a65c_grow_92f84 4 = .ok (.arraylength, 1) := by decide +kernel
theorem dJx4a65c_grow_92f84_5 : decode cJx4a65c_grow_92f84 5 = .ok (.istore_n 2, 1) := by decide +kernel
theorem dJx4a65c_grow_92f84_6 : decode cJx4a65c_grow_92f84 6 = .ok (.iload_n 2, 1) := by decide +kernel
theorem dJx4a65c_grow_92f84_7 : decode cJx4a65c_grow_92f84 7 = .ok (.ifCond .gt 13, 3) := by decide +kernel
theorem dJx4a65c_grow_92f84_10 : decode cJx4a65c_grow_92f84 10 = .ok (.aload_n 0, 1) := by decide +kernel
theorem dJx4a65c_grow_92f84_11 : decode cJx4a65c_grow_92f84 11 = .ok (.getfield 9, 3) := by decide +kernel
theorem dJx4a65c_grow_92f84_14 : decode cJx4a65c_grow_92f84 14 = .ok (.getstatic 39, 3) := by decide +kernel
theorem dJx4a65c_grow_92f84_17 : decode cJx4a65c_grow_92f84 17 = .ok (.if_acmp .eq 28, 3) := by decide +kernel
theorem dJx4a65c_grow_92f84_45 : decode cJx4a65c_grow_92f84 45 = .ok (.aload_n 0, 1) := by decide +kernel
theorem dJx4a65c_grow_92f84_46 : decode cJx4a65c_grow_92f84 46 = .ok (.bipush 10, 2) := by decide +kernel
theorem dJx4a65c_grow_92f84_48 : decode cJx4a65c_grow_92f84 48 = .ok (.iload_n 1, 1) := by decide +kernel
theorem dJx4a65c_grow_92f84_49 : decode cJx4a65c_grow_92f84 49 = .ok (.invokestatic 79, 3) := by decide +kernel
theorem dJx4a65c_grow_92f84_52 : decode cJx4a65c_grow_92f84 52 = .ok (.anewarray 7, 3) := by decide +kernel
theorem dJx4a65c_grow_92f84_55 : decode cJx4a65c_grow_92f84 55 = .ok (.dup_x1, 1) := by decide +kernel
theorem dJx4a65c_grow_92f84_56 : decode cJx4a65c_grow_92f84 56 = .ok (.putfield 9, 3) := by decide +kernel
theorem dJx4a65c_grow_92f84_59 : decode cJx4a65c_grow_92f84 59 = .ok (.areturn, 1) := by decide +kernel
set_option maxRecDepth 20000 in
theorem ggJx4a65c_grow_d5877_Jx4a65c_grow_92f84 : GoodIn wsJx4a65c_grow_d5877 wsJx4a65c_grow_92f84 := goodIn_r _ [6, 7, 8, 9, 10, 11, 12, 13, 14, 15, 16, 17, 18, 19, 20, 21, 22, 23, 24, 25, 26, 27, 28, 29, 30, 31, 32, 33, 34, 35, 36, 37, 38, 39, 40, 41, 42, 43, 44, 45] (by decide +kernel) (by decide +kernel)
set_option maxRecDepth 20000 in
theorem gJx4a65c_grow_d5877_Jx4a65c_grow_92f84 : GoodIn wsJx4a65c_grow_d5877 (wsV RJx4a65c 69 RJx4a65c yJx4a65c_grow_92f84 wsJx4a65c_grow_92f84) := goodIn_app (goodIn_of _ (by decide +kernel)) ggJx4a65c_grow_d5877_Jx4a65c_grow_92f84
theorem dJx4a65c_grow_d5877_0 : decode cJx4a65c_grow_d5877 0 = .ok (.aload_n 0, 1) := by decide +kernel
theorem dJx4a65c_grow_d5877_1 : decode cJx4a65c_grow_d5877 1 = .ok (.aload_n 0, 1) := by decide +kernel
theorem dJx4a65c_grow_d5877_2 : decode cJx4a65c_grow_d5877 2 = .ok (.getfield 48, 3) := by decide +kernel
theorem dJx4a65c_grow_d5877_5 : decode cJx4a65c_grow_d5877 5 = .ok (.iconst 1, 1) := by decide +kernel
theorem dJx4a65c_grow_d5877_6 : decode cJx4a65c_grow_d5877 6 = .ok (.iadd, 1) := by decide +kernel
theorem dJx4a65c_grow_d5877_7 : decode cJx4a65c_grow_d5877 7 = .ok (.invokevirtual 69, 3) := by decide +kernel
theorem dJx4a65c_grow_d5877_10 : decode cJx4a65c_grow_d5877 10 = .ok (.areturn, 1) := by decide +kernel
set_option maxRecDepth 20000 in
theorem ggJx4a65c_add_72be8_Jx4a65c_grow_d5877 : GoodIn wsJx4a65c_add_72be8 wsJx4a65c_grow_d5877 := goodIn_r _ [6, 1, 7, 8, 9, 5, 10, 11, 12, 13, 14, 15, 16, 17, 18, 19, 20, 21, 22, 23, 24, 25, 26, 27, 28, 29, 30, 31, 32, 33, 34, 35, 36, 37, 38, 39, 40, 41, 42, 43, 44, 45, 46, 47, 48, 49] (by decide +kernel) (by decide +kernel)
set_option maxRecDepth 20000 in
theorem gJx4a65c_add_72be8_Jx4a65c_grow_d5877 : GoodIn wsJx4a65c_add_72be8 (wsV RJx4a65c 129 RJx4a65c yJx4a65c_grow_d5877 wsJx4a65c_grow_d5877) := goodIn_app (goodIn_of _ (by decide +kernel)) ggJx4a65c_add_72be8_Jx4a65c_grow_d5877
theorem dJx4a65c_add_72be8_0 : decode cJx4a65c_add_72be8 0 = .ok (.iload_n 3, 1) := by decide +kernel
theorem dJx4a65c_add_72be8_1 : decode cJx4a65c_add_72be8 1 = .ok (.aload_n 2, 1) := by decide +kernel
theorem dJx4a65c_add_72be8_2 : decode cJx4a65c_add_72be8 2 = .ok (.arraylength, 1) := by decide +kernel
theorem dJx4a65c_add_72be8_3 : decode cJx4a65c_add_72be8 3 = .ok (.if_icmp .ne 8, 3) := by decide +kernel
theorem dJx4a65c_add_72be8_6 : decode cJx4a65c_add_72be8 6 = .ok (.aload_n 0, 1) := by decide +kernel
theorem dJx4a65c_add_72be8_7 : decode cJx4a65c_add_72be8 7 = .ok (.invokevirtual 129, 3) := by decide +kernel
theorem dJx4a65c_add_72be8_10 : decode cJx4a65c_add_72be8 10 = .ok (.astore_n 2, 1) := by decide +kernel
theorem dJx4a65c_add_72be8_11 : decode cJx4a65c_add_72be8 11 = .ok (.aload_n 2, 1) := by decide +kernel
theorem dJx4a65c_add_72be8_12 : decode cJx4a65c_add_72be8 12 = .ok (.iload_n 3, 1) := by decide +kernel
theorem dJx4a65c_add_72be8_13 : decode cJx4a65c_add_72be8 13 = .ok (.aload_n 1, 1) := by decide +kernel
theorem dJx4a65c_add_72be8_14 : decode cJx4a65c_add_72be8 14 = .ok (.aastore, 1) := by decide +kernel
theorem dJx4a65c_add_72be8_15 : decode cJx4a65c_add_72be8 15 = .ok (.aload_n 0, 1) := by decide +kernel
theorem dJx4a65c_add_72be8_16 : decode cJx4a65c_add_72be8 16 = .ok (.iload_n 3, 1) := by decide +kernel
theorem dJx4a65c_add_72be8_17 : decode cJx4a65c_add_72be8 17 = .ok (.iconst 1, 1) := by decide +kernel
theorem dJx4a65c_add_72be8_18 : decode cJx4a65c_add_72be8 18 = .ok (.iadd, 1) := by decide +kernel
theorem dJx4a65c_add_72be8_19 : decode cJx4a65c_add_72be8 19 = .ok (.putfield 48, 3) := by decide +kernel
theorem dJx4a65c_add_72be8_22 : decode cJx4a65c_add_72be8 22 = .ok (.return_, 1) := by decide +kernel
set_option maxRecDepth 20000 in
theorem ggJx4a65c_add_9ea2d_Jx4a65c_add_72be8 : GoodIn wsJx4a65c_add_9ea2d wsJx4a65c_add_72be8 := goodIn_r _ [9, 4, 10, 11, 12, 8, 13, 14, 15, 16, 17, 3, 18, 19, 20, 21, 22, 23, 24, 25, 26, 27, 28, 29, 30, 31, 32, 33, 34, 35, 36, 37, 38, 39, 40, 41, 42, 43, 44, 45, 46, 47, 48, 49, 50, 51, 52, 58, 59, 60] (by decide +kernel) (by decide +kernel)
set_option maxRecDepth 20000 in
theorem gJx4a65c_add_9ea2d_Jx4a65c_add_72be8 : GoodIn wsJx4a65c_add_9ea2d (wsV RJx4a65c 131 RJx4a65c yJx4a65c_add_72be8 wsJx4a65c_add_72be8) := goodIn_app (goodIn_of _ (by decide +kernel)) ggJx4a65c_add_9ea2d_Jx4a65c_add_72be8
theorem dJx4a65c_add_9ea2d_0 : decode cJx4a65c_add_9ea2d 0 = .ok (.aload_n 0, 1) := by decide +kernel
theorem dJx4a65c_add_9ea2d_1 : decode cJx4a65c_add_9ea2d 1 = .ok (.dup, 1) := by decide +kernel
theorem dJx4a65c_add_9ea2d_2 : decode cJx4a65c_add_9ea2d 2 = .ok (.getfield 63, 3) := by decide +kernel
theorem dJx4a65c_add_9ea2d_5 : decode cJx4a65c_add_9ea2d 5 = .ok (.iconst 1, 1) := by decide +kernel
theorem dJx4a65c_add_9ea2d_6 : decode cJx4a65c_add_9ea2d 6 = .ok (.iadd, 1) := by decide +kernel
theorem dJx4a65c_add_9ea2d_7 : decode cJx4a65c_add_9ea2d 7 = .ok (.putfield 63, 3) := by decide +kernel
theorem dJx4a65c_add_9ea2d_10 : decode cJx4a65c_add_9ea2d 10 = .ok (.aload_n 0, 1) := by decide +kernel
theorem dJx4a65c_add_9ea2d_11 : decode cJx4a65c_add_9ea2d 11 = .ok (.aload_n 1, 1) := by decide +kernel
theorem dJx4a65c_add_9ea2d_12 : decode cJx4a65c_add_9ea2d 12 = .ok (.aload_n 0, 1) := by decide +kernel
theorem dJx4a65c_add_9ea2d_13 : decode cJx4a65c_add_9ea2d 13 = .ok (.getfield 9, 3) := by decide +kernel
theorem dJx4a65c_add_9ea2d_16 : decode cJx4a65c_add_9ea2d 16 = .ok (.aload_n 0, 1) := by decide +kernel
theorem dJx4a65c_add_9ea2d_17 : decode cJx4a65c_add_9ea2d 17 = .ok (.getfield 48, 3) := by decide +kernel
theorem dJx4a65c_add_9ea2d_20 : decode cJx4a65c_add_9ea2d 20 = .ok (.invokevirtual 131, 3) := by decide +kernel
theorem dJx4a65c_add_9ea2d_23 : decode cJx4a65c_add_9ea2d 23 = .ok (.iconst 1, 1) := by decide +kernel
theorem dJx4a65c_add_9ea2d_24 : decode cJx4a65c_add_9ea2d 24 = .ok (.ireturn, 1) := by decide +kernel
theorem nA1 {v li sz : Nat} {e : va_E} (h1 : v ≠ li) (h2 : v < sz) : ¬ va_A [(li, e)] sz v := by
  rintro (⟨k, e', h⟩ | h)
  · match k, h with
    | 0, h =>
      have h9 : (li, e) = (v, e') := Option.some.inj h
      exact h1 (congrArg Prod.fst h9).symm
    | k + 1, h => simp at h
  · omega
theorem nA2 {v li g1 sz : Nat} {e f : va_E} (h1 : v ≠ li) (h3 : v ≠ g1) (h2 : v < sz) : ¬ va_A [(li, e), (g1, f)] sz v := by
  rintro (⟨k, e', h⟩ | h)
  · match k, h with
    | 0, h =>
      have h9 : (li, e) = (v, e') := Option.some.inj h
      exact h1 (congrArg Prod.fst h9).symm
    | 1, h =>
      have h9 : (g1, f) = (v, e') := Option.some.inj h
      exact h3 (congrArg Prod.fst h9).symm
    | k + 2, h => simp at h
  · omega
set_option maxHeartbeats 4000000 in
set_option maxRecDepth 100000 in
theorem c_AL_grow1 (l : Launch) (dC : Nat → ClassId) (dI : Nat → Nat → Nat) (d : Nat) (tc : Nat) (ad : Nat → Nat) (li : Nat) (q1 : Int32) (sz : Nat) : Met l yJx4a65c_grow_92f84 wsJx4a65c_grow_92f84 ({ frames := 1, cells := 1, slots := 10, locals := 14 }) (va_Pc [.ref li, .int 1] (PZ dC dI d tc ad sz [(li, .inr (4, [.int q1, .ref d, .int 0]))] [])) (va_Qr (fun _ : Unit => True) (fun _ ra t => ∃ (kO : ClassId), va_P (dC, dI) vwCl [(li, .inr (4, [.int q1, .ref ra, .int 0])), (ra, .inl (kO, 10, .inr (.inr (.inr (.inr (fun _ => none))))))] t.heap ∧ va_K (dC, dI) vwCl [(kO, .object "java/lang/Object")] t ∧ va_D (va_A [(li, .inr (4, [.int q1, .ref d, .int 0]))] sz) [(li, .inr (4, [.int q1, .ref ra, .int 0])), (ra, .inl (kO, 10, .inr (.inr (.inr (.inr (fun _ => none))))))]) (va_A [(li, .inr (4, [.int q1, .ref d, .int 0]))] sz)) 1 10 (va_A [(li, .inr (4, [.int q1, .ref d, .int 0]))] sz) := by
  refine Met.ofW (cc := cJx4a65c_grow_92f84) (maxL := 4) (ret := (some (.array (.object "java/lang/Object")))) (by decide) rfl ?_
  intro p e s m args below meth c s₁ B hml hv
  obtain ⟨rfl, hsz, hP, hK, hD0, hF, hZ⟩ := hv
  have hx := B.exec
  have hb := B.bytes
  have hr := B.returns
  have hts := atoms_spec (ws := wsJx4a65c_grow_92f84) B.pre
  have hown : s.vm.findClass RJx4a65c = some m.cls := findClass_of_methodNamed B.named
  have hlocks := B.notSynchronized
  subst hsz
  have hD := hD0.self (sz := s.heap.size)
  generalize hAe : va_A [(li, .inr (4, [.int q1, .ref d, .int 0]))] s.heap.size = A at hD hZ ⊢
  have hA : ∀ q : Nat, s.heap.size ≤ q → A q := fun q h => by rw [← hAe]; exact Or.inr h
  have hS : va_S A s.heap s.heap [] := va_S.rf
  have hl := lv_entry ([.ref li, .int 1]) (n := 4) (Nat.le_of_ble_eq_true rfl)
  rw [lg_entry_eq]
  generalize (lg_sl ([.ref li, .int 1]) ++ List.replicate (4 - (lg_sl ([.ref li, .int 1])).length) Slot.unset).toArray = ls at hl ⊢
  have hl : lv_has ls 4 [(0, .ref li), (1, .int 1)] := hl
  refine lv_aload_n hx hb dJx4a65c_grow_92f84_0 rfl (lv_at hl 0 rfl) ?_
  refine va_get (D := (dC, dI)) (ci := 4) (v := .ref d) (C := RJx4a65c) (T := TJx4a65c) (N := 3) hx hb hts (fun _ h9 => List.mem_cons_of_mem _ (List.mem_append_right _ (h9))) hown hK hP 0 rfl rfl 1 (by decide) (hts (.fieldLink RJx4a65c 9 "java/util/ArrayList" "elementData" "[Ljava/lang/Object;") (List.mem_of_getElem? (i := 1) rfl)) (fun _ h9 => h9) rfl dJx4a65c_grow_92f84_1 ?_
  refine va_tlen hx hb hZ.2.1 hS (v := 0) rfl dJx4a65c_grow_92f84_4 ?_
  refine lv_istore_n (lv' := [(2, .int 0), (0, .ref li), (1, .int 1)]) hx hb dJx4a65c_grow_92f84_5 rfl hl (by decide) rfl (fun ls hl => ?_)
  refine lv_iload_n hx hb dJx4a65c_grow_92f84_6 rfl (lv_at hl 0 rfl) ?_
  refine lv_if_gt (tgt := 20) hx hb dJx4a65c_grow_92f84_7 (by decide) (fun c_1 => absurd c_1 (by decide)) (fun _ => ?_)
  refine lv_aload_n hx hb dJx4a65c_grow_92f84_10 rfl (lv_at hl 1 rfl) ?_
  refine va_get (D := (dC, dI)) (ci := 4) (v := .ref d) (C := RJx4a65c) (T := TJx4a65c) (N := 3) hx hb hts (fun _ h9 => List.mem_cons_of_mem _ (List.mem_append_right _ (h9))) hown hK hP 0 rfl rfl 1 (by decide) (hts (.fieldLink RJx4a65c 9 "java/util/ArrayList" "elementData" "[Ljava/lang/Object;") (List.mem_of_getElem? (i := 1) rfl)) (fun _ h9 => h9) rfl dJx4a65c_grow_92f84_11 ?_
  refine va_gets hx hb hZ.1 hS hown (hts (.fieldLink RJx4a65c 39 "java/util/ArrayList" "DEFAULTCAPACITY_EMPTY_ELEMENTDATA" "[Ljava/lang/Object;") (List.mem_of_getElem? (i := 2) rfl)) (fun _ h9 => h9) dJx4a65c_grow_92f84_14 ?_
  refine lv_acmp_eq (rx := some d) (ry := some d) (tgt := 45) hx hb dJx4a65c_grow_92f84_17 (by decide) (fun _ => ?_) (fun h9 => absurd rfl h9)
  refine lv_aload_n hx hb dJx4a65c_grow_92f84_45 rfl (lv_at hl 1 rfl) ?_
  refine lv_bipush (v := 10) hx hb dJx4a65c_grow_92f84_46 (by decide) ?_
  refine lv_iload_n hx hb dJx4a65c_grow_92f84_48 rfl (lv_at hl 2 rfl) ?_
  refine va_mmax hx hb (hml.trans hl.1.symm) hown (hts (.methodLink RJx4a65c 79 Lib.Math.max.name) (List.mem_of_getElem? (i := 3) rfl)) (hts (.static Lib.Math.max.name) (List.mem_of_getElem? (i := 4) rfl)) (hts (.initialized "java/lang/Math") (List.mem_of_getElem? (i := 5) rfl)) (hts (.code Lib.Math.max.name Lib.Math.max.code 2 (some .int)) (List.mem_of_getElem? (i := 6) rfl)) (Nat.le_of_ble_eq_true rfl) (Nat.le_of_ble_eq_true rfl) (Nat.le_of_ble_eq_true rfl) (Nat.le_of_ble_eq_true rfl) dJx4a65c_grow_92f84_49 ?_
  refine lv_topi (fun f_2 ef_2 => ?_)
  obtain rfl : f_2 = 10 := ef_2.trans (by decide)
  refine va_newq hx hb hown (hts (.classLink RJx4a65c 7 "java/lang/Object") (List.mem_of_getElem? (i := 7) rfl)) (Ft.ao hF "java/lang/Object" (by decide)) hK hP hD hS hA (by decide) (N' := 10) (by decide) (Nat.le_of_ble_eq_true rfl) (Nat.le_of_ble_eq_true rfl) (Nat.le_of_ble_eq_true rfl) dJx4a65c_grow_92f84_52 (fun q_3 k_4 H hK hP hD hS => ?_)
  have hP : va_P (dC, dI) vwCl [(li, .inr (4, [.int q1, .ref d, .int 0])), (q_3, .inl (k_4, 10, .inr (.inr (.inr (.inr (fun _ => none))))))] H := hP
  have hD : va_D A [(li, .inr (4, [.int q1, .ref d, .int 0])), (q_3, .inl (k_4, 10, .inr (.inr (.inr (.inr (fun _ => none))))))] := hD
  have hK : va_K (dC, dI) vwCl [(k_4, .object "java/lang/Object")] s := hK
  refine W.widen (k := 1) (n := 10) (Nat.le_of_ble_eq_true rfl) (Nat.le_of_ble_eq_true rfl) ?_
  refine lv_dup_x1 hx hb dJx4a65c_grow_92f84_55 rfl rfl ?_
  refine va_put (D := (dC, dI)) (ci := 4) (v := .ref q_3) (ty := .array (.object "java/lang/Object")) (C := RJx4a65c) (T := TJx4a65c) (N := 3) hx hb hts (fun _ h9 => List.mem_cons_of_mem _ (List.mem_append_right _ (h9))) tyJx4a65c tyJx4a65c_ok nmJx4a65c hown hK hP hD hS 0 rfl rfl 1 (by decide) (hts (.fieldLink RJx4a65c 9 "java/util/ArrayList" "elementData" "[Ljava/lang/Object;") (List.mem_of_getElem? (i := 1) rfl)) (fun _ h9 => h9) rfl (by decide +kernel) rfl rfl (Nat.le_of_ble_eq_true rfl) dJx4a65c_grow_92f84_56 (fun H locs hP hD hS => ?_)
  have hP : va_P (dC, dI) vwCl [(li, .inr (4, [.int q1, .ref q_3, .int 0])), (q_3, .inl (k_4, 10, .inr (.inr (.inr (.inr (fun _ => none))))))] H := hP
  have hD : va_D A [(li, .inr (4, [.int q1, .ref q_3, .int 0])), (q_3, .inl (k_4, 10, .inr (.inr (.inr (.inr (fun _ => none))))))] := hD
  have hP9 := hP.sub (ws' := [(li, .inr (4, [.int q1, .ref q_3, .int 0])), (q_3, .inl (k_4, 10, .inr (.inr (.inr (.inr (fun _ => none))))))]) [0, 1] rfl
  have hD9 := hD.sub (ws' := [(li, .inr (4, [.int q1, .ref q_3, .int 0])), (q_3, .inl (k_4, 10, .inr (.inr (.inr (.inr (fun _ => none))))))]) [0, 1] (by decide) rfl
  have hK9 := hK.sub (tys' := [(k_4, .object "java/lang/Object")]) [0] rfl
  exact W.aret (v := .ref q_3) hx hb hr (Or.inr ⟨_, rfl⟩) (Or.inr ⟨_, rfl⟩) (fun t ht hW => ⟨⟨(), _, rfl, trivial, k_4, by rw [ht]; exact hP9, va_K.moved hW.alike hK9, hD9⟩, hS.F ht⟩) hS.2.2 dJx4a65c_grow_92f84_59

set_option maxHeartbeats 4000000 in
set_option maxRecDepth 100000 in
theorem c_AL_grow0 (l : Launch) (dC : Nat → ClassId) (dI : Nat → Nat → Nat) (d : Nat) (tc : Nat) (ad : Nat → Nat) (li : Nat) (q1 : Int32) (sz : Nat) : Met l yJx4a65c_grow_d5877 wsJx4a65c_grow_d5877 ({ frames := 2, cells := 1, slots := 10, locals := 37 }) (va_Pc [.ref li] (PZ dC dI d tc ad sz [(li, .inr (4, [.int q1, .ref d, .int 0]))] [])) (va_Qr (fun _ : Unit => True) (fun _ ra t => ∃ (kO : ClassId), va_P (dC, dI) vwCl [(li, .inr (4, [.int q1, .ref ra, .int 0])), (ra, .inl (kO, 10, .inr (.inr (.inr (.inr (fun _ => none))))))] t.heap ∧ va_K (dC, dI) vwCl [(kO, .object "java/lang/Object")] t ∧ va_D (va_A [(li, .inr (4, [.int q1, .ref d, .int 0]))] sz) [(li, .inr (4, [.int q1, .ref ra, .int 0])), (ra, .inl (kO, 10, .inr (.inr (.inr (.inr (fun _ => none))))))]) (va_A [(li, .inr (4, [.int q1, .ref d, .int 0]))] sz)) 1 10 (va_A [(li, .inr (4, [.int q1, .ref d, .int 0]))] sz) := by
  refine Met.ofW (cc := cJx4a65c_grow_d5877) (maxL := 1) (ret := (some (.array (.object "java/lang/Object")))) (by decide) rfl ?_
  intro p e s m args below meth c s₁ B hml hv
  obtain ⟨rfl, hsz, hP, hK, hD0, hF, hZ⟩ := hv
  have hx := B.exec
  have hb := B.bytes
  have hr := B.returns
  have hts := atoms_spec (ws := wsJx4a65c_grow_d5877) B.pre
  have hown : s.vm.findClass RJx4a65c = some m.cls := findClass_of_methodNamed B.named
  have hlocks := B.notSynchronized
  subst hsz
  have hD := hD0.self (sz := s.heap.size)
  generalize hAe : va_A [(li, .inr (4, [.int q1, .ref d, .int 0]))] s.heap.size = A at hD hZ ⊢
  have hA : ∀ q : Nat, s.heap.size ≤ q → A q := fun q h => by rw [← hAe]; exact Or.inr h
  have hS : va_S A s.heap s.heap [] := va_S.rf
  have hl := lv_entry ([.ref li]) (n := 1) (Nat.le_of_ble_eq_true rfl)
  rw [lg_entry_eq]
  generalize (lg_sl ([.ref li]) ++ List.replicate (1 - (lg_sl ([.ref li])).length) Slot.unset).toArray = ls at hl ⊢
  have hl : lv_has ls 1 [(0, .ref li)] := hl
  refine lv_aload_n hx hb dJx4a65c_grow_d5877_0 rfl (lv_at hl 0 rfl) ?_
  refine lv_aload_n hx hb dJx4a65c_grow_d5877_1 rfl (lv_at hl 0 rfl) ?_
  refine va_get (D := (dC, dI)) (ci := 4) (v := .int 0) (C := RJx4a65c) (T := TJx4a65c) (N := 3) hx hb hts (fun _ h9 => List.mem_cons_of_mem _ (List.mem_append_right _ (h9))) hown hK hP 0 rfl rfl 2 (by decide) (hts (.fieldLink RJx4a65c 48 "java/util/ArrayList" "size" "I") (List.mem_of_getElem? (i := 1) rfl)) (fun _ h9 => h9) rfl dJx4a65c_grow_d5877_2 ?_
  refine lv_iconst (v := 1) hx hb dJx4a65c_grow_d5877_5 (by decide) ?_
  refine lv_iadd hx hb dJx4a65c_grow_d5877_6 ?_
  refine lv_topi (fun f_1 ef_1 => ?_)
  obtain rfl : f_1 = 1 := ef_1.trans (by decide)
  have hPc := hP.sub (ws' := [(li, .inr (4, [.int q1, .ref d, .int 0]))]) [0] rfl
  have hDc := hD.sub (ws' := [(li, .inr (4, [.int q1, .ref d, .int 0]))]) [0] (by decide) rfl
  have hKc := hK.sub (tys' := []) [] rfl
  have hFc := va_free (wc := [(li, .inr (4, [.int q1, .ref d, .int 0]))]) hD hS hA [0] rfl
  refine va_callr (va_runV (As := [.int 1]) (rest := []) ⟨hx, hb, hml, hown, hts⟩ (c_AL_grow1 l dC dI d tc ad li q1 s.heap.size) (cwV 1 hts gJx4a65c_grow_d5877_Jx4a65c_grow_92f84 rfl rfl rfl (by decide +kernel) ⟨Nat.le_of_ble_eq_true rfl, Nat.le_of_ble_eq_true rfl⟩) ⟨PZ_blind, va_recv hK hP (ci := 4) (q0 := 0) rfl rfl, PZ_pre hPc hKc hDc hF hZ hS hFc⟩ rfl rfl hl.1 rfl (lv_room (Nat.le_of_ble_eq_true rfl)) dJx4a65c_grow_d5877_7 ⟨Nat.le_of_ble_eq_true rfl, Nat.le_of_ble_eq_true rfl⟩) hS (fun q _ h => hFc q h) hFc (fun u r_2 t H1 locs ht hvm hw hB hz1 hk1 hS => ?_)
  obtain ⟨kO_3, hP1, hK1, hD1⟩ := hB
  rw [ht] at hP1
  have hK1 := va_K.moved hvm.symm hK1
  obtain ⟨hP, hD⟩ := va_join (wr := []) (w1 := [(li, .inr (4, [.int q1, .ref r_2, .int 0])), (r_2, .inl (kO_3, 10, .inr (.inr (.inr (.inr (fun _ => none))))))]) hP hD [0] [] rfl rfl (by decide) (by decide) hk1 hFc hP1 hD1
  have hK := hK.app hK1
  generalize H1 = H at hP hS ⊢
  have hP : va_P (dC, dI) vwCl [(li, .inr (4, [.int q1, .ref r_2, .int 0])), (r_2, .inl (kO_3, 10, .inr (.inr (.inr (.inr (fun _ => none))))))] H := hP
  have hD : va_D A [(li, .inr (4, [.int q1, .ref r_2, .int 0])), (r_2, .inl (kO_3, 10, .inr (.inr (.inr (.inr (fun _ => none))))))] := hD
  have hK : va_K (dC, dI) vwCl [(kO_3, .object "java/lang/Object")] s := hK
  refine W.widen (k := 1) (n := 10) (Nat.le_of_ble_eq_true rfl) (Nat.le_of_ble_eq_true rfl) ?_
  have hP9 := hP.sub (ws' := [(li, .inr (4, [.int q1, .ref r_2, .int 0])), (r_2, .inl (kO_3, 10, .inr (.inr (.inr (.inr (fun _ => none))))))]) [0, 1] rfl
  have hD9 := hD.sub (ws' := [(li, .inr (4, [.int q1, .ref r_2, .int 0])), (r_2, .inl (kO_3, 10, .inr (.inr (.inr (.inr (fun _ => none))))))]) [0, 1] (by decide) rfl
  have hK9 := hK.sub (tys' := [(kO_3, .object "java/lang/Object")]) [0] rfl
  exact W.aret (v := .ref r_2) hx hb hr (Or.inr ⟨_, rfl⟩) (Or.inr ⟨_, rfl⟩) (fun t ht hW => ⟨⟨(), _, rfl, trivial, kO_3, by rw [ht]; exact hP9, va_K.moved hW.alike hK9, hD9⟩, hS.F ht⟩) hS.2.2 dJx4a65c_grow_d5877_10

set_option maxRecDepth 20000 in
theorem ggX9_candidate_X9_isProvince : GoodIn wsX9_candidate wsX9_isProvince := goodIn_r _ [9] (by decide +kernel) (by decide +kernel)
set_option maxRecDepth 20000 in
theorem gX9_candidate_X9_isProvince : GoodIn wsX9_candidate (va_wsS RX9 62 yX9_isProvince wsX9_isProvince) := goodIn_app (goodIn_of _ (by decide +kernel)) ggX9_candidate_X9_isProvince
set_option maxRecDepth 20000 in
theorem ggX9_candidate_Jx4a65c_size_8abf5 : GoodIn wsX9_candidate wsJx4a65c_size_8abf5 := goodIn_r _ [28, 29, 164, 165, 166] (by decide +kernel) (by decide +kernel)
set_option maxRecDepth 20000 in
theorem gX9_candidate_Jx4a65c_size_8abf5_f56Jx4a65c : GoodIn wsX9_candidate (va_wsF RX9 56 RJx4a65c ⟨"java/util/List", "size", "()I"⟩ yJx4a65c_size_8abf5 wsJx4a65c_size_8abf5) := goodIn_app (goodIn_of _ (by decide +kernel)) ggX9_candidate_Jx4a65c_size_8abf5
set_option maxRecDepth 20000 in
theorem ggX9_candidate_X6_init : GoodIn wsX9_candidate wsX6_init := goodIn_r _ [31, 32, 33, 34, 35, 36, 37, 38, 39, 27, 40, 41, 42, 43, 44, 45, 46, 47, 48, 49, 50, 51, 52, 53, 54, 55, 152, 153, 154, 155, 156, 157, 158, 164, 165, 166, 159, 160, 161, 162, 163] (by decide +kernel) (by decide +kernel)
set_option maxRecDepth 20000 in
theorem gX9_candidate_X6_init_n68 : GoodIn wsX9_candidate (wsX6_init) := ggX9_candidate_X6_init
set_option maxRecDepth 20000 in
theorem ggX9_candidate_Jx4a65c_add_9ea2d : GoodIn wsX9_candidate wsJx4a65c_add_9ea2d := goodIn_r _ [134, 78, 22, 45, 29, 135, 136, 137, 27, 138, 87, 88, 89, 90, 91, 92, 93, 94, 44, 95, 96, 97, 98, 99, 100, 101, 102, 103, 104, 105, 106, 107, 108, 109, 110, 111, 112, 113, 114, 115, 116, 117, 118, 119, 120, 121, 122, 123, 124, 125, 80, 81, 82, 159, 160, 161, 162, 163, 164, 165, 166] (by decide +kernel) (by decide +kernel)
set_option maxRecDepth 20000 in
theorem gX9_candidate_Jx4a65c_add_9ea2d_f72Jx4a65c : GoodIn wsX9_candidate (va_wsF RX9 72 RJx4a65c ⟨"java/util/List", "add", "(Ljava/lang/Object;)Z"⟩ yJx4a65c_add_9ea2d wsJx4a65c_add_9ea2d) := goodIn_app (goodIn_of _ (by decide +kernel)) ggX9_candidate_Jx4a65c_add_9ea2d
theorem dX9_candidate_0 : decode cX9_candidate 0 = .ok (.iload_n 1, 1) := by decide +kernel
theorem dX9_candidate_1 : decode cX9_candidate 1 = .ok (.invokestatic 62, 3) := by decide +kernel
theorem dX9_candidate_4 : decode cX9_candidate 4 = .ok (.ifCond .ne 5, 3) := by decide +kernel
theorem dX9_candidate_9 : decode cX9_candidate 9 = .ok (.aload_n 0, 1) := by decide +kernel
theorem dX9_candidate_10 : decode cX9_candidate 10 = .ok (.getfield 10, 3) := by decide +kernel
theorem dX9_candidate_13 : decode cX9_candidate 13 = .ok (.invokeinterface 56 1, 5) := by decide +kernel
theorem dX9_candidate_18 : decode cX9_candidate 18 = .ok (.bipush 24, 2) := by decide +kernel
theorem dX9_candidate_20 : decode cX9_candidate 20 = .ok (.if_icmp .ne 6, 3) := by decide +kernel
theorem dX9_candidate_26 : decode cX9_candidate 26 = .ok (.new 66, 3) := by decide +kernel
theorem dX9_candidate_29 : decode cX9_candidate 29 = .ok (.dup, 1) := by decide +kernel
theorem dX9_candidate_30 : decode cX9_candidate 30 = .ok (.invokespecial 68, 3) := by decide +kernel
theorem dX9_candidate_33 : decode cX9_candidate 33 = .ok (.astore_n 2, 1) := by decide +kernel
theorem dX9_candidate_34 : decode cX9_candidate 34 = .ok (.aload_n 2, 1) := by decide +kernel
theorem dX9_candidate_35 : decode cX9_candidate 35 = .ok (.iload_n 1, 1) := by decide +kernel
theorem dX9_candidate_36 : decode cX9_candidate 36 = .ok (.putfield 69, 3) := by decide +kernel
theorem dX9_candidate_39 : decode cX9_candidate 39 = .ok (.aload_n 0, 1) := by decide +kernel
theorem dX9_candidate_40 : decode cX9_candidate 40 = .ok (.getfield 10, 3) := by decide +kernel
theorem dX9_candidate_43 : decode cX9_candidate 43 = .ok (.aload_n 2, 1) := by decide +kernel
theorem dX9_candidate_44 : decode cX9_candidate 44 = .ok (.invokeinterface 72 2, 5) := by decide +kernel
theorem dX9_candidate_49 : decode cX9_candidate 49 = .ok (.pop, 1) := by decide +kernel
theorem dX9_candidate_50 : decode cX9_candidate 50 = .ok (.aload_n 0, 1) := by decide +kernel
theorem dX9_candidate_51 : decode cX9_candidate 51 = .ok (.getfield 10, 3) := by decide +kernel
theorem dX9_candidate_54 : decode cX9_candidate 54 = .ok (.invokeinterface 56 1, 5) := by decide +kernel
theorem dX9_candidate_59 : decode cX9_candidate 59 = .ok (.iconst 1, 1) := by decide +kernel
theorem dX9_candidate_60 : decode cX9_candidate 60 = .ok (.isub, 1) := by decide +kernel
theorem dX9_candidate_61 : decode cX9_candidate 61 = .ok (.ireturn, 1) := by decide +kernel
theorem dfX6 : ∀ j, j < 7 → defaultValue (tyX6 j) = vp_V [.int 0, .null, .int 0, .int 0, .int 0, .null, .null] j := by
  intro j hj
  rcases (show j = 0 ∨ j = 1 ∨ j = 2 ∨ j = 3 ∨ j = 4 ∨ j = 5 ∨ j = 6 by omega) with rfl | rfl | rfl | rfl | rfl | rfl | rfl <;> rfl
