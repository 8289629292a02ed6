theorem dX0_isOpenedBy_0 : decode cX0_isOpenedBy 0 = .ok (.iconst 0, 1) := by decide +kernel
theorem dX0_isOpenedBy_1 : decode cX0_isOpenedBy 1 = .ok (.istore_n 2, 1) := by decide +kernel
theorem dX0_isOpenedBy_2 : decode cX0_isOpenedBy 2 = .ok (.iconst 0, 1) := by decide +kernel
theorem dX0_isOpenedBy_3 : decode cX0_isOpenedBy 3 = .ok (.istore_n 3, 1) := by decide +kernel
theorem dX0_isOpenedBy_4 : decode cX0_isOpenedBy 4 = .ok (.iload_n 3, 1) := by decide +kernel
theorem dX0_isOpenedBy_5 : decode cX0_isOpenedBy 5 = .ok (.bipush 8, 2) := by decide +kernel
theorem dX0_isOpenedBy_7 : decode cX0_isOpenedBy 7 = .ok (.if_icmp .ge 27, 3) := by decide +kernel
theorem dX0_isOpenedBy_10 : decode cX0_isOpenedBy 10 = .ok (.iload_n 1, 1) := by decide +kernel
theorem dX0_isOpenedBy_11 : decode cX0_isOpenedBy 11 = .ok (.iload_n 3, 1) := by decide +kernel
theorem dX0_isOpenedBy_12 : decode cX0_isOpenedBy 12 = .ok (.ishr, 1) := by decide +kernel
theorem dX0_isOpenedBy_13 : decode cX0_isOpenedBy 13 = .ok (.iconst 1, 1) := by decide +kernel
theorem dX0_isOpenedBy_14 : decode cX0_isOpenedBy 14 = .ok (.iand, 1) := by decide +kernel
theorem dX0_isOpenedBy_15 : decode cX0_isOpenedBy 15 = .ok (.iconst 1, 1) := by decide +kernel
theorem dX0_isOpenedBy_16 : decode cX0_isOpenedBy 16 = .ok (.if_icmp .ne 12, 3) := by decide +kernel
theorem dX0_isOpenedBy_19 : decode cX0_isOpenedBy 19 = .ok (.iload_n 2, 1) := by decide +kernel
theorem dX0_isOpenedBy_20 : decode cX0_isOpenedBy 20 = .ok (.aload_n 0, 1) := by decide +kernel
theorem dX0_isOpenedBy_21 : decode cX0_isOpenedBy 21 = .ok (.getfield 29, 3) := by decide +kernel
theorem dX0_isOpenedBy_24 : decode cX0_isOpenedBy 24 = .ok (.iload_n 3, 1) := by decide +kernel
theorem dX0_isOpenedBy_25 : decode cX0_isOpenedBy 25 = .ok (.iaload, 1) := by decide +kernel
theorem dX0_isOpenedBy_26 : decode cX0_isOpenedBy 26 = .ok (.ior, 1) := by decide +kernel
theorem dX0_isOpenedBy_27 : decode cX0_isOpenedBy 27 = .ok (.istore_n 2, 1) := by decide +kernel
theorem dX0_isOpenedBy_28 : decode cX0_isOpenedBy 28 = .ok (.iinc 3 1, 3) := by decide +kernel
theorem dX0_isOpenedBy_31 : decode cX0_isOpenedBy 31 = .ok (.goto (-27), 3) := by decide +kernel
theorem dX0_isOpenedBy_34 : decode cX0_isOpenedBy 34 = .ok (.iconst 1, 1) := by decide +kernel
theorem dX0_isOpenedBy_35 : decode cX0_isOpenedBy 35 = .ok (.istore_n 3, 1) := by decide +kernel
theorem dX0_isOpenedBy_36 : decode cX0_isOpenedBy 36 = .ok (.iconst 1, 1) := by decide +kernel
theorem dX0_isOpenedBy_37 : decode cX0_isOpenedBy 37 = .ok (.istore 4, 2) := by decide +kernel
theorem dX0_isOpenedBy_39 : decode cX0_isOpenedBy 39 = .ok (.iload 4, 2) := by decide +kernel
theorem dX0_isOpenedBy_41 : decode cX0_isOpenedBy 41 = .ok (.iconst 4, 1) := by decide +kernel
theorem dX0_isOpenedBy_42 : decode cX0_isOpenedBy 42 = .ok (.if_icmp .ge 46, 3) := by decide +kernel
theorem dX0_isOpenedBy_45 : decode cX0_isOpenedBy 45 = .ok (.iconst 0, 1) := by decide +kernel
theorem dX0_isOpenedBy_46 : decode cX0_isOpenedBy 46 = .ok (.istore 5, 2) := by decide +kernel
theorem dX0_isOpenedBy_48 : decode cX0_isOpenedBy 48 = .ok (.iload 5, 2) := by decide +kernel
theorem dX0_isOpenedBy_50 : decode cX0_isOpenedBy 50 = .ok (.iconst 4, 1) := by decide +kernel
theorem dX0_isOpenedBy_51 : decode cX0_isOpenedBy 51 = .ok (.if_icmp .ge 31, 3) := by decide +kernel
theorem dX0_isOpenedBy_54 : decode cX0_isOpenedBy 54 = .ok (.iload_n 3, 1) := by decide +kernel
theorem dX0_isOpenedBy_55 : decode cX0_isOpenedBy 55 = .ok (.iload 5, 2) := by decide +kernel
theorem dX0_isOpenedBy_57 : decode cX0_isOpenedBy 57 = .ok (.ishr, 1) := by decide +kernel
theorem dX0_isOpenedBy_58 : decode cX0_isOpenedBy 58 = .ok (.iconst 1, 1) := by decide +kernel
theorem dX0_isOpenedBy_59 : decode cX0_isOpenedBy 59 = .ok (.iand, 1) := by decide +kernel
theorem dX0_isOpenedBy_60 : decode cX0_isOpenedBy 60 = .ok (.iconst 1, 1) := by decide +kernel
theorem dX0_isOpenedBy_61 : decode cX0_isOpenedBy 61 = .ok (.if_icmp .ne 15, 3) := by decide +kernel
theorem dX0_isOpenedBy_64 : decode cX0_isOpenedBy 64 = .ok (.iload_n 3, 1) := by decide +kernel
theorem dX0_isOpenedBy_65 : decode cX0_isOpenedBy 65 = .ok (.iload_n 2, 1) := by decide +kernel
theorem dX0_isOpenedBy_66 : decode cX0_isOpenedBy 66 = .ok (.iconst 4, 1) := by decide +kernel
theorem dX0_isOpenedBy_67 : decode cX0_isOpenedBy 67 = .ok (.iload 5, 2) := by decide +kernel
theorem dX0_isOpenedBy_69 : decode cX0_isOpenedBy 69 = .ok (.imul, 1) := by decide +kernel
theorem dX0_isOpenedBy_70 : decode cX0_isOpenedBy 70 = .ok (.ishr, 1) := by decide +kernel
theorem dX0_isOpenedBy_71 : decode cX0_isOpenedBy 71 = .ok (.bipush 15, 2) := by decide +kernel
theorem dX0_isOpenedBy_73 : decode cX0_isOpenedBy 73 = .ok (.iand, 1) := by decide +kernel
theorem dX0_isOpenedBy_74 : decode cX0_isOpenedBy 74 = .ok (.ior, 1) := by decide +kernel
theorem dX0_isOpenedBy_75 : decode cX0_isOpenedBy 75 = .ok (.istore_n 3, 1) := by decide +kernel
theorem dX0_isOpenedBy_76 : decode cX0_isOpenedBy 76 = .ok (.iinc 5 1, 3) := by decide +kernel
theorem dX0_isOpenedBy_79 : decode cX0_isOpenedBy 79 = .ok (.goto (-31), 3) := by decide +kernel
theorem dX0_isOpenedBy_82 : decode cX0_isOpenedBy 82 = .ok (.iinc 4 1, 3) := by decide +kernel
theorem dX0_isOpenedBy_85 : decode cX0_isOpenedBy 85 = .ok (.goto (-46), 3) := by decide +kernel
theorem dX0_isOpenedBy_88 : decode cX0_isOpenedBy 88 = .ok (.iload_n 3, 1) := by decide +kernel
theorem dX0_isOpenedBy_89 : decode cX0_isOpenedBy 89 = .ok (.iconst 3, 1) := by decide +kernel
theorem dX0_isOpenedBy_90 : decode cX0_isOpenedBy 90 = .ok (.ishr, 1) := by decide +kernel
theorem dX0_isOpenedBy_91 : decode cX0_isOpenedBy 91 = .ok (.iconst 1, 1) := by decide +kernel
theorem dX0_isOpenedBy_92 : decode cX0_isOpenedBy 92 = .ok (.iand, 1) := by decide +kernel
theorem dX0_isOpenedBy_93 : decode cX0_isOpenedBy 93 = .ok (.iconst 1, 1) := by decide +kernel
theorem dX0_isOpenedBy_94 : decode cX0_isOpenedBy 94 = .ok (.if_icmp .ne 7, 3) := by decide +kernel
theorem dX0_isOpenedBy_97 : decode cX0_isOpenedBy 97 = .ok (.iconst 1, 1) := by decide +kernel
theorem dX0_isOpenedBy_98 : decode cX0_isOpenedBy 98 = .ok (.goto 4, 3) := by decide +kernel
theorem dX0_isOpenedBy_101 : decode cX0_isOpenedBy 101 = .ok (.iconst 0, 1) := by decide +kernel
theorem dX0_isOpenedBy_102 : decode cX0_isOpenedBy 102 = .ok (.ireturn, 1) := by decide +kernel
theorem dX5_fewest_29 : decode cX5_fewest 29 = .ok (.iload_n 3, 1) := by decide +kernel
theorem dX5_fewest_30 : decode cX5_fewest 30 = .ok (.istore_n 1, 1) := by decide +kernel
theorem dX5_fewest_31 : decode cX5_fewest 31 = .ok (.iload_n 3, 1) := by decide +kernel
theorem dX5_fewest_32 : decode cX5_fewest 32 = .ok (.invokestatic 179, 3) := by decide +kernel
theorem dX5_fewest_35 : decode cX5_fewest 35 = .ok (.istore_n 2, 1) := by decide +kernel
theorem dX5_find_12 : decode cX5_find 12 = .ok (.aload_n 0, 1) := by decide +kernel
theorem dX5_find_13 : decode cX5_find 13 = .ok (.getfield 11, 3) := by decide +kernel
theorem dX5_find_16 : decode cX5_find 16 = .ok (.iload_n 1, 1) := by decide +kernel
theorem dX5_find_17 : decode cX5_find 17 = .ok (.aaload, 1) := by decide +kernel
theorem dX5_find_18 : decode cX5_find 18 = .ok (.goto 4, 3) := by decide +kernel
set_option maxRecDepth 20000 in
theorem ggX5_openedBy_X5_find : GoodIn wsX5_openedBy wsX5_find := goodIn_r _ [6, 1, 7, 13, 14, 15, 16, 17, 18, 19, 20, 21, 22, 23, 24, 25, 26] (by decide +kernel) (by decide +kernel)
set_option maxRecDepth 20000 in
theorem gX5_openedBy_X5_find : GoodIn wsX5_openedBy (wsV RX5 86 RX5 yX5_find wsX5_find) := goodIn_app (goodIn_of _ (by decide +kernel)) ggX5_openedBy_X5_find
set_option maxRecDepth 20000 in
theorem ggX5_openedBy_X0_isOpenedBy : GoodIn wsX5_openedBy wsX0_isOpenedBy := goodIn_r _ [11, 12, 27, 28, 29, 30, 31, 32, 33, 34, 35, 36] (by decide +kernel) (by decide +kernel)
set_option maxRecDepth 20000 in
theorem gX5_openedBy_X0_isOpenedBy_n278 : GoodIn wsX5_openedBy (wsX0_isOpenedBy) := ggX5_openedBy_X0_isOpenedBy
theorem dX5_openedBy_12 : decode cX5_openedBy 12 = .ok (.aload_n 0, 1) := by decide +kernel
theorem dX5_openedBy_13 : decode cX5_openedBy 13 = .ok (.iload_n 3, 1) := by decide +kernel
theorem dX5_openedBy_14 : decode cX5_openedBy 14 = .ok (.invokevirtual 86, 3) := by decide +kernel
theorem dX5_openedBy_17 : decode cX5_openedBy 17 = .ok (.astore 4, 2) := by decide +kernel
theorem dX5_openedBy_19 : decode cX5_openedBy 19 = .ok (.aload 4, 2) := by decide +kernel
theorem dX5_openedBy_21 : decode cX5_openedBy 21 = .ok (.ifnull 15, 3) := by decide +kernel
theorem dX5_openedBy_24 : decode cX5_openedBy 24 = .ok (.aload 4, 2) := by decide +kernel
theorem dX5_openedBy_26 : decode cX5_openedBy 26 = .ok (.iload_n 1, 1) := by decide +kernel
theorem dX5_openedBy_27 : decode cX5_openedBy 27 = .ok (.invokevirtual 278, 3) := by decide +kernel
theorem dX5_openedBy_30 : decode cX5_openedBy 30 = .ok (.ifCond .eq 6, 3) := by decide +kernel
theorem dX5_openedBy_33 : decode cX5_openedBy 33 = .ok (.iinc 2 1, 3) := by decide +kernel
theorem dX5_openedBy_36 : decode cX5_openedBy 36 = .ok (.iinc 3 1, 3) := by decide +kernel
theorem dX5_openedBy_39 : decode cX5_openedBy 39 = .ok (.goto (-35), 3) := by decide +kernel
set_option maxHeartbeats 4000000 in
set_option maxRecDepth 100000 in
theorem c_R_isOpened (l : Launch) (dC : Nat → ClassId) (dI : Nat → Nat → Nat) (q : Nat) (g1 : Nat) (g2 : Nat) (g3 : Nat) (kg : ClassId) (set : Int32) : Met l yX0_isOpenedBy wsX0_isOpenedBy ({ frames := 0, cells := 0, slots := 0, locals := 0 }) (va_Pc [.ref q, .int set] (PS dC dI [(q, .inr (5, [.int 0, .null, .int (-1), .int (-1), .int 0, .int 0, .ref g1, .ref g2, .ref g3, .int 0])), (g1, .inl (kg, 8, .inl (fun _ => 0)))] [(kg, .int)])) (vp_Si (fun _ => True)) 0 0 (fun _ => False) := by
  refine Met.ofW (cc := cX0_isOpenedBy) (maxL := 6) (ret := (some .boolean)) (by decide) rfl ?_
  intro p e s m args below meth c s₁ B hml hv
  obtain ⟨rfl, hP, hK, hF⟩ := hv
  have hx := B.exec
  have hb := B.bytes
  have hr := B.returns
  have hts := atoms_spec (ws := wsX0_isOpenedBy) B.pre
  have hown : s.vm.findClass RX0 = some m.cls := findClass_of_methodNamed B.named
  have hlocks := B.notSynchronized
  have hl := lv_entry ([.ref q, .int set]) (n := 6) (Nat.le_of_ble_eq_true rfl)
  rw [lg_entry_eq]
  generalize (lg_sl ([.ref q, .int set]) ++ List.replicate (6 - (lg_sl ([.ref q, .int set])).length) Slot.unset).toArray = ls at hl ⊢
  have hl : lv_has ls 6 [(0, .ref q), (1, .int set)] := hl
  refine lv_iconst (v := 0) hx hb dX0_isOpenedBy_0 (by decide) ?_
  refine lv_istore_n (lv' := [(2, .int 0), (0, .ref q), (1, .int set)]) hx hb dX0_isOpenedBy_1 rfl hl (by decide) rfl (fun ls hl => ?_)
  refine lv_iconst (v := 0) hx hb dX0_isOpenedBy_2 (by decide) ?_
  refine lv_istore_n (lv' := [(3, .int 0), (2, .int 0), (0, .ref q), (1, .int set)]) hx hb dX0_isOpenedBy_3 rfl hl (by decide) rfl (fun ls hl => ?_)
  obtain ⟨n_1, en_1⟩ : ∃ n_1 : Int32, n_1 = 0 := ⟨_, rfl⟩
  obtain ⟨v_2, ev_v_2⟩ : ∃ v_2 : Int32, v_2 = 0 := ⟨_, rfl⟩
  replace hl : lv_has ls 6 [(3, .int n_1), (2, .int v_2), (0, .ref q), (1, .int set)] := by rw [en_1, ev_v_2]; exact hl
  obtain ⟨i_1, hi_1, ei_1, es_1⟩ : ∃ i : Nat, i ≤ 8 ∧ n_1 = nI i ∧ i = 0 := ⟨0, by omega, en_1, rfl⟩
  obtain ⟨k_1, hk_1⟩ : ∃ k : Nat, 8 - i_1 < k := ⟨9, by omega⟩
  clear en_1 ev_v_2 es_1
  induction k_1 generalizing n_1 v_2 i_1 ls with
  | zero => exact absurd hk_1 (by omega)
  | succ k_1 ih_1 =>
    refine lv_iload_n hx hb dX0_isOpenedBy_4 rfl (lv_at hl 0 rfl) ?_
    refine lv_bipush (v := 8) hx hb dX0_isOpenedBy_5 (by decide) ?_
    refine lv_icmp_ge (tgt := 34) hx hb dX0_isOpenedBy_7 (by decide) (fun c_3 => ?_) (fun c_3 => ?_)
    · skip
      refine lv_iconst (v := 1) hx hb dX0_isOpenedBy_34 (by decide) ?_
      refine lv_istore_n (lv' := [(3, .int 1), (2, .int v_2), (0, .ref q), (1, .int set)]) hx hb dX0_isOpenedBy_35 rfl hl (by decide) rfl (fun ls hl => ?_)
      refine lv_iconst (v := 1) hx hb dX0_isOpenedBy_36 (by decide) ?_
      refine lv_istore (lv' := [(4, .int 1), (3, .int 1), (2, .int v_2), (0, .ref q), (1, .int set)]) hx hb dX0_isOpenedBy_37 hl (by decide) rfl (fun ls hl => ?_)
      obtain ⟨n_4, en_2⟩ : ∃ n_4 : Int32, n_4 = 1 := ⟨_, rfl⟩
      obtain ⟨v_5, ev_v_5⟩ : ∃ v_5 : Int32, v_5 = 1 := ⟨_, rfl⟩
      replace hl : lv_has ls 6 [(4, .int n_4), (3, .int v_5), (2, .int v_2), (0, .ref q), (1, .int set)] := by rw [en_2, ev_v_5]; exact hl
      obtain ⟨i_2, hi_2, ei_2, es_2⟩ : ∃ i : Nat, i ≤ 4 ∧ n_4 = nI i ∧ i = 1 := ⟨1, by omega, en_2, rfl⟩
      obtain ⟨k_2, hk_2⟩ : ∃ k : Nat, 4 - i_2 < k := ⟨5, by omega⟩
      clear en_2 ev_v_5 es_2
      induction k_2 generalizing n_4 v_5 i_2 ls with
      | zero => exact absurd hk_2 (by omega)
      | succ k_2 ih_2 =>
        refine lv_iload hx hb dX0_isOpenedBy_39 (lv_at hl 0 rfl) ?_
        refine lv_iconst (v := 4) hx hb dX0_isOpenedBy_41 (by decide) ?_
        refine lv_icmp_ge (tgt := 88) hx hb dX0_isOpenedBy_42 (by decide) (fun c_6 => ?_) (fun c_6 => ?_)
        · skip
          refine lv_iload_n hx hb dX0_isOpenedBy_88 rfl (lv_at hl 1 rfl) ?_
          refine lv_iconst (v := 3) hx hb dX0_isOpenedBy_89 (by decide) ?_
          refine lv_ishr hx hb dX0_isOpenedBy_90 ?_
          refine lv_iconst (v := 1) hx hb dX0_isOpenedBy_91 (by decide) ?_
          refine lv_iand hx hb dX0_isOpenedBy_92 ?_
          refine lv_iconst (v := 1) hx hb dX0_isOpenedBy_93 (by decide) ?_
          refine lv_icmp_ne (tgt := 101) hx hb dX0_isOpenedBy_94 (by decide) (fun c_7 => ?_) (fun c_7 => ?_)
          · skip
            refine lv_iconst (v := 0) hx hb dX0_isOpenedBy_101 (by decide) ?_
            exact W.zret (v := 0) hx hb hr (by decide) (fun t ht hW => ⟨_, rfl, trivial, ht⟩) (fun _ h9 => absurd h9 List.not_mem_nil) dX0_isOpenedBy_102
          · skip
            refine lv_iconst (v := 1) hx hb dX0_isOpenedBy_97 (by decide) ?_
            refine lv_goto (tgt := 102) hx hb dX0_isOpenedBy_98 (by decide) ?_
            exact W.zret (v := 1) hx hb hr (by decide) (fun t ht hW => ⟨_, rfl, trivial, ht⟩) (fun _ h9 => absurd h9 List.not_mem_nil) dX0_isOpenedBy_102
        · skip
          refine lv_iconst (v := 0) hx hb dX0_isOpenedBy_45 (by decide) ?_
          refine lv_istore (lv' := [(5, .int 0), (4, .int n_4), (3, .int v_5), (2, .int v_2), (0, .ref q), (1, .int set)]) hx hb dX0_isOpenedBy_46 hl (by decide) rfl (fun ls hl => ?_)
          obtain ⟨n_8, en_3⟩ : ∃ n_8 : Int32, n_8 = 0 := ⟨_, rfl⟩
          obtain ⟨v_9, ev_v_9⟩ : ∃ v_9 : Int32, v_9 = v_5 := ⟨_, rfl⟩
          replace hl : lv_has ls 6 [(5, .int n_8), (4, .int n_4), (3, .int v_9), (2, .int v_2), (0, .ref q), (1, .int set)] := by rw [en_3, ev_v_9]; exact hl
          obtain ⟨i_3, hi_3, ei_3, es_3⟩ : ∃ i : Nat, i ≤ 4 ∧ n_8 = nI i ∧ i = 0 := ⟨0, by omega, en_3, rfl⟩
          obtain ⟨k_3, hk_3⟩ : ∃ k : Nat, 4 - i_3 < k := ⟨5, by omega⟩
          clear en_3 ev_v_9 es_3
          induction k_3 generalizing n_8 v_9 i_3 ls with
          | zero => exact absurd hk_3 (by omega)
          | succ k_3 ih_3 =>
            refine lv_iload hx hb dX0_isOpenedBy_48 (lv_at hl 0 rfl) ?_
            refine lv_iconst (v := 4) hx hb dX0_isOpenedBy_50 (by decide) ?_
            refine lv_icmp_ge (tgt := 82) hx hb dX0_isOpenedBy_51 (by decide) (fun c_10 => ?_) (fun c_10 => ?_)
            · skip
              refine lv_iinc (v := n_4 + 1) (lv' := [(4, .int (n_4 + 1)), (5, .int n_8), (3, .int v_9), (2, .int v_2), (0, .ref q), (1, .int set)]) hx hb dX0_isOpenedBy_82 hl (k := 1) rfl rfl (by decide) rfl (fun ls hl => ?_)
              refine lv_goto (tgt := 39) hx hb dX0_isOpenedBy_85 (by decide) ?_
              have hlt_2 := (i_lt hi_2 (by decide) ei_2 (show ¬ nI 4 ≤ n_4 from c_6))
              exact ih_2 (ls := ls) (v_5 := v_9) (n_4 := n_4 + 1) (i_2 := i_2 + 1) (hl := lv_sub hl [0, 2, 3, 4, 5] rfl) (hi_2 := hlt_2) (ei_2 := by rw [ei_2]; exact nI_1 i_2) (hk_2 := by omega)
            · skip
              refine lv_iload_n hx hb dX0_isOpenedBy_54 rfl (lv_at hl 2 rfl) ?_
              refine lv_iload hx hb dX0_isOpenedBy_55 (lv_at hl 0 rfl) ?_
              refine lv_ishr hx hb dX0_isOpenedBy_57 ?_
              refine lv_iconst (v := 1) hx hb dX0_isOpenedBy_58 (by decide) ?_
              refine lv_iand hx hb dX0_isOpenedBy_59 ?_
              refine lv_iconst (v := 1) hx hb dX0_isOpenedBy_60 (by decide) ?_
              refine lv_icmp_ne (tgt := 76) hx hb dX0_isOpenedBy_61 (by decide) (fun c_11 => ?_) (fun c_11 => ?_)
              · skip
                refine lv_iinc (v := n_8 + 1) (lv' := [(5, .int (n_8 + 1)), (4, .int n_4), (3, .int v_9), (2, .int v_2), (0, .ref q), (1, .int set)]) hx hb dX0_isOpenedBy_76 hl (k := 0) rfl rfl (by decide) rfl (fun ls hl => ?_)
                refine lv_goto (tgt := 48) hx hb dX0_isOpenedBy_79 (by decide) ?_
                have hlt_3 := (i_lt hi_3 (by decide) ei_3 (show ¬ nI 4 ≤ n_8 from c_10))
                exact ih_3 (ls := ls) (v_9 := v_9) (n_8 := n_8 + 1) (i_3 := i_3 + 1) (hl := lv_sub hl [0, 1, 2, 3, 4, 5] rfl) (hi_3 := hlt_3) (ei_3 := by rw [ei_3]; exact nI_1 i_3) (hk_3 := by omega)
              · skip
                refine lv_iload_n hx hb dX0_isOpenedBy_64 rfl (lv_at hl 2 rfl) ?_
                refine lv_iload_n hx hb dX0_isOpenedBy_65 rfl (lv_at hl 3 rfl) ?_
                refine lv_iconst (v := 4) hx hb dX0_isOpenedBy_66 (by decide) ?_
                refine lv_iload hx hb dX0_isOpenedBy_67 (lv_at hl 0 rfl) ?_
                refine lv_imul hx hb dX0_isOpenedBy_69 ?_
                refine lv_ishr hx hb dX0_isOpenedBy_70 ?_
                refine lv_bipush (v := 15) hx hb dX0_isOpenedBy_71 (by decide) ?_
                refine lv_iand hx hb dX0_isOpenedBy_73 ?_
                refine lv_ior hx hb dX0_isOpenedBy_74 ?_
                refine lv_istore_n (lv' := [(3, .int (v_9 ||| ((v_2 >>> ((4 * n_8) &&& 31)) &&& 15))), (5, .int n_8), (4, .int n_4), (2, .int v_2), (0, .ref q), (1, .int set)]) hx hb dX0_isOpenedBy_75 rfl hl (by decide) rfl (fun ls hl => ?_)
                refine lv_iinc (v := n_8 + 1) (lv' := [(5, .int (n_8 + 1)), (3, .int (v_9 ||| ((v_2 >>> ((4 * n_8) &&& 31)) &&& 15))), (4, .int n_4), (2, .int v_2), (0, .ref q), (1, .int set)]) hx hb dX0_isOpenedBy_76 hl (k := 1) rfl rfl (by decide) rfl (fun ls hl => ?_)
                refine lv_goto (tgt := 48) hx hb dX0_isOpenedBy_79 (by decide) ?_
                have hlt_3 := (i_lt hi_3 (by decide) ei_3 (show ¬ nI 4 ≤ n_8 from c_10))
                exact ih_3 (ls := ls) (v_9 := v_9 ||| ((v_2 >>> ((4 * n_8) &&& 31)) &&& 15)) (n_8 := n_8 + 1) (i_3 := i_3 + 1) (hl := lv_sub hl [0, 2, 1, 3, 4, 5] rfl) (hi_3 := hlt_3) (ei_3 := by rw [ei_3]; exact nI_1 i_3) (hk_3 := by omega)
    · skip
      refine lv_iload_n hx hb dX0_isOpenedBy_10 rfl (lv_at hl 3 rfl) ?_
      refine lv_iload_n hx hb dX0_isOpenedBy_11 rfl (lv_at hl 0 rfl) ?_
      refine lv_ishr hx hb dX0_isOpenedBy_12 ?_
      refine lv_iconst (v := 1) hx hb dX0_isOpenedBy_13 (by decide) ?_
      refine lv_iand hx hb dX0_isOpenedBy_14 ?_
      refine lv_iconst (v := 1) hx hb dX0_isOpenedBy_15 (by decide) ?_
      refine lv_icmp_ne (tgt := 28) hx hb dX0_isOpenedBy_16 (by decide) (fun c_12 => ?_) (fun c_12 => ?_)
      · skip
        refine lv_iinc (v := n_1 + 1) (lv' := [(3, .int (n_1 + 1)), (2, .int v_2), (0, .ref q), (1, .int set)]) hx hb dX0_isOpenedBy_28 hl (k := 0) rfl rfl (by decide) rfl (fun ls hl => ?_)
        refine lv_goto (tgt := 4) hx hb dX0_isOpenedBy_31 (by decide) ?_
        have hlt_1 := (i_lt hi_1 (by decide) ei_1 (show ¬ nI 8 ≤ n_1 from c_3))
        exact ih_1 (ls := ls) (v_2 := v_2) (n_1 := n_1 + 1) (i_1 := i_1 + 1) (hl := lv_sub hl [0, 1, 2, 3] rfl) (hi_1 := hlt_1) (ei_1 := by rw [ei_1]; exact nI_1 i_1) (hk_1 := by omega)
      · skip
        refine lv_iload_n hx hb dX0_isOpenedBy_19 rfl (lv_at hl 1 rfl) ?_
        refine lv_aload_n hx hb dX0_isOpenedBy_20 rfl (lv_at hl 2 rfl) ?_
        refine va_get (D := (dC, dI)) (ci := 5) (v := .ref g1) (C := RX0) (T := TX0) (N := 10) hx hb hts (fun _ h9 => List.mem_cons_of_mem _ (List.mem_append_right _ (h9))) hown hK hP 0 rfl rfl 6 (by decide) (hts (.fieldLink RX0 29 "ExamHalls$Candidate" "seenBits" "[I") (List.mem_of_getElem? (i := 1) rfl)) (fun _ h9 => h9) rfl dX0_isOpenedBy_21 ?_
        refine lv_iload_n hx hb dX0_isOpenedBy_24 rfl (lv_at hl 0 rfl) ?_
        refine va_iald hx hb hK hP 1 0 rfl rfl (by rw [ei_1]; exact vp_in_nI (Nat.lt_of_lt_of_le (i_lt hi_1 (by decide) ei_1 (show ¬ nI 8 ≤ n_1 from c_3)) (by decide : 8 ≤ 8)) (by decide)) dX0_isOpenedBy_25 ?_
        refine lv_topi (fun f_13 ef_13 => ?_)
        obtain rfl : f_13 = 0 := ef_13
        refine lv_ior hx hb dX0_isOpenedBy_26 ?_
        refine lv_istore_n (lv' := [(2, .int (v_2 ||| 0)), (3, .int n_1), (0, .ref q), (1, .int set)]) hx hb dX0_isOpenedBy_27 rfl hl (by decide) rfl (fun ls hl => ?_)
        refine lv_iinc (v := n_1 + 1) (lv' := [(3, .int (n_1 + 1)), (2, .int (v_2 ||| 0)), (0, .ref q), (1, .int set)]) hx hb dX0_isOpenedBy_28 hl (k := 1) rfl rfl (by decide) rfl (fun ls hl => ?_)
        refine lv_goto (tgt := 4) hx hb dX0_isOpenedBy_31 (by decide) ?_
        have hlt_1 := (i_lt hi_1 (by decide) ei_1 (show ¬ nI 8 ≤ n_1 from c_3))
        exact ih_1 (ls := ls) (v_2 := v_2 ||| 0) (n_1 := n_1 + 1) (i_1 := i_1 + 1) (hl := lv_sub hl [0, 1, 2, 3] rfl) (hi_1 := hlt_1) (ei_1 := by rw [ei_1]; exact nI_1 i_1) (hk_1 := by omega)

set_option maxHeartbeats 4000000 in
set_option maxRecDepth 100000 in
theorem c_R_find (l : Launch) (dC : Nat → ClassId) (dI : Nat → Nat → Nat) (x : Nat) (cd : Nat) (rd : Nat) (tp : Nat) (fo : Nat) (qu : Nat) (sh : Nat) (vs : Nat) (pa : Nat) (pb : Nat) (kC : ClassId) (fc : Nat → Option Nat) (n : Int32) (q : Nat) (hn0 : ¬ n < 0) (hn1 : n < 7) (hnb : vp_in n 24) (hfq : fc n.toNatClampNeg = some q) : Met l yX5_find wsX5_find ({ frames := 0, cells := 0, slots := 0, locals := 0 }) (va_Pc [.ref x, .int n] (PS dC dI [(x, .inr (10, [.ref cd, .int 7, .ref rd, .int 0, .ref tp, .ref fo, .int 10, .ref qu, .int 0, .int 0, .ref sh, .ref vs, .ref pa, .ref pb])), (cd, .inl (kC, 24, .inr (.inr (.inr (.inr fc)))))] [(kC, .object "ExamHalls$Candidate")])) (va_Sq (fun r => r = some q)) 0 0 (fun _ => False) := by
  refine Met.ofW (cc := cX5_find) (maxL := 2) (ret := (some (.object "ExamHalls$Candidate"))) (by decide) rfl ?_
  intro p e s m args below meth c s₁ B hml hv
  obtain ⟨rfl, hP, hK, hF⟩ := hv
  have hx := B.exec
  have hb := B.bytes
  have hr := B.returns
  have hts := atoms_spec (ws := wsX5_find) B.pre
  have hown : s.vm.findClass RX5 = some m.cls := findClass_of_methodNamed B.named
  have hlocks := B.notSynchronized
  have hl := lv_entry ([.ref x, .int n]) (n := 2) (Nat.le_of_ble_eq_true rfl)
  rw [lg_entry_eq]
  generalize (lg_sl ([.ref x, .int n]) ++ List.replicate (2 - (lg_sl ([.ref x, .int n])).length) Slot.unset).toArray = ls at hl ⊢
  have hl : lv_has ls 2 [(0, .ref x), (1, .int n)] := hl
  refine lv_iload_n hx hb dX5_find_0 rfl (lv_at hl 1 rfl) ?_
  refine lv_if_lt (tgt := 21) hx hb dX5_find_1 (by decide) (fun c_1 => absurd c_1 hn0) (fun _ => ?_)
  refine lv_iload_n hx hb dX5_find_4 rfl (lv_at hl 1 rfl) ?_
  refine lv_aload_n hx hb dX5_find_5 rfl (lv_at hl 0 rfl) ?_
  refine va_get (D := (dC, dI)) (ci := 10) (v := .int 7) (C := RX5) (T := TX5) (N := 14) hx hb hts (fun _ h9 => List.mem_cons_of_mem _ (List.mem_append_right _ (h9))) hown hK hP 0 rfl rfl 1 (by decide) (hts (.fieldLink RX5 15 "ExamHalls" "candidateCount" "I") (List.mem_of_getElem? (i := 1) rfl)) (fun _ h9 => h9) rfl dX5_find_6 ?_
  refine lv_icmp_ge (tgt := 21) hx hb dX5_find_9 (by decide) (fun c_2 => absurd c_2 (Int32.not_le.mpr hn1)) (fun _ => ?_)
  refine lv_aload_n hx hb dX5_find_12 rfl (lv_at hl 0 rfl) ?_
  refine va_get (D := (dC, dI)) (ci := 10) (v := .ref cd) (C := RX5) (T := TX5) (N := 14) hx hb hts (fun _ h9 => List.mem_cons_of_mem _ (List.mem_append_right _ (h9))) hown hK hP 0 rfl rfl 0 (by decide) (hts (.fieldLink RX5 11 "ExamHalls" "candidates" "[LExamHalls$Candidate;") (List.mem_of_getElem? (i := 2) rfl)) (fun _ h9 => h9) rfl dX5_find_13 ?_
  refine lv_iload_n hx hb dX5_find_16 rfl (lv_at hl 1 rfl) ?_
  refine mn_ald hx hb hK hP 1 0 rfl rfl rfl hnb hfq dX5_find_17 ?_
  refine lv_goto (tgt := 22) hx hb dX5_find_18 (by decide) ?_
  exact W.aret (v := .ref q) hx hb hr (Or.inl ⟨_, rfl⟩) (Or.inr ⟨_, rfl⟩) (fun t ht hW => ⟨some q, rfl, rfl, ht⟩) (fun _ h9 => absurd h9 List.not_mem_nil) dX5_find_22

set_option maxHeartbeats 4000000 in
set_option maxRecDepth 100000 in
theorem c_R_Xopened (l : Launch) (dC : Nat → ClassId) (dI : Nat → Nat → Nat) (x : Nat) (cd : Nat) (rd : Nat) (tp : Nat) (fo : Nat) (qu : Nat) (sh : Nat) (vs : Nat) (pa : Nat) (pb : Nat) (kC : ClassId) (fc : Nat → Option Nat) (kg : ClassId) (FL : va_W) (set : Int32) (hX : XI kg 7 fc FL) : Met l yX5_openedBy wsX5_openedBy ({ frames := 1, cells := 0, slots := 0, locals := 25 }) (va_Pc [.ref x, .int set] (PS dC dI ([(x, .inr (10, [.ref cd, .int 7, .ref rd, .int 0, .ref tp, .ref fo, .int 10, .ref qu, .int 0, .int 0, .ref sh, .ref vs, .ref pa, .ref pb])), (cd, .inl (kC, 24, .inr (.inr (.inr (.inr fc)))))] ++ FL) [(kC, .object "ExamHalls$Candidate"), (kg, .int)])) (vp_Si (fun _ => True)) 0 0 (fun _ => False) := by
  refine Met.ofW (cc := cX5_openedBy) (maxL := 5) (ret := (some .int)) (by decide) rfl ?_
  intro p e s m args below meth c s₁ B hml hv
  obtain ⟨rfl, hP, hK, hF⟩ := hv
  have hx := B.exec
  have hb := B.bytes
  have hr := B.returns
  have hts := atoms_spec (ws := wsX5_openedBy) B.pre
  have hown : s.vm.findClass RX5 = some m.cls := findClass_of_methodNamed B.named
  have hlocks := B.notSynchronized
  have hl := lv_entry ([.ref x, .int set]) (n := 5) (Nat.le_of_ble_eq_true rfl)
  rw [lg_entry_eq]
  generalize (lg_sl ([.ref x, .int set]) ++ List.replicate (5 - (lg_sl ([.ref x, .int set])).length) Slot.unset).toArray = ls at hl ⊢
  have hl : lv_has ls 5 [(0, .ref x), (1, .int set)] := hl
  have hP0 := hP
  have hP : va_P (dC, dI) vwCl [(x, .inr (10, [.ref cd, .int 7, .ref rd, .int 0, .ref tp, .ref fo, .int 10, .ref qu, .int 0, .int 0, .ref sh, .ref vs, .ref pa, .ref pb])), (cd, .inl (kC, 24, .inr (.inr (.inr (.inr fc)))))] s.heap := P_mem hP0 (fun q h => List.mem_append_left _ h)
  refine lv_iconst (v := 0) hx hb dX5_openedBy_0 (by decide) ?_
  refine lv_istore_n (lv' := [(2, .int 0), (0, .ref x), (1, .int set)]) hx hb dX5_openedBy_1 rfl hl (by decide) rfl (fun ls hl => ?_)
  refine lv_iconst (v := 0) hx hb dX5_openedBy_2 (by decide) ?_
  refine lv_istore_n (lv' := [(3, .int 0), (2, .int 0), (0, .ref x), (1, .int set)]) hx hb dX5_openedBy_3 rfl hl (by decide) rfl (fun ls hl => ?_)
  obtain ⟨n_1, en_1⟩ : ∃ n_1 : Int32, n_1 = 0 := ⟨_, rfl⟩
  obtain ⟨v_2, ev_v_2⟩ : ∃ v_2 : Int32, v_2 = 0 := ⟨_, rfl⟩
  replace hl : lv_has ls 5 [(3, .int n_1), (2, .int v_2), (0, .ref x), (1, .int set)] := by rw [en_1, ev_v_2]; exact hl
  obtain ⟨i_1, hi_1, ei_1, es_1⟩ : ∃ i : Nat, i ≤ 7 ∧ n_1 = nI i ∧ i = 0 := ⟨0, by omega, en_1, rfl⟩
  obtain ⟨k_1, hk_1⟩ : ∃ k : Nat, 7 - i_1 < k := ⟨8, by omega⟩
  clear en_1 ev_v_2 es_1
  induction k_1 generalizing n_1 v_2 i_1 ls with
  | zero => exact absurd hk_1 (by omega)
  | succ k_1 ih_1 =>
    refine lv_iload_n hx hb dX5_openedBy_4 rfl (lv_at hl 0 rfl) ?_
    refine lv_aload_n hx hb dX5_openedBy_5 rfl (lv_at hl 2 rfl) ?_
    refine va_get (D := (dC, dI)) (ci := 10) (v := .int 7) (C := RX5) (T := TX5) (N := 14) hx hb hts (fun _ h9 => List.mem_cons_of_mem _ (List.mem_append_left _ (List.mem_append_right _ (h9)))) hown hK hP 0 rfl rfl 1 (by decide) (hts (.fieldLink RX5 15 "ExamHalls" "candidateCount" "I") (List.mem_of_getElem? (i := 1) rfl)) (fun _ h9 => h9) rfl dX5_openedBy_6 ?_
    refine lv_icmp_ge (tgt := 42) hx hb dX5_openedBy_9 (by decide) (fun c_3 => ?_) (fun c_3 => ?_)
    · skip
      refine lv_iload_n hx hb dX5_openedBy_42 rfl (lv_at hl 1 rfl) ?_
      exact W.iret (v := v_2) hx hb hr (fun t ht hW => ⟨_, rfl, trivial, ht⟩) (fun _ h9 => absurd h9 List.not_mem_nil) dX5_openedBy_43
    · skip
      have hj_1 := (i_lt hi_1 (by decide) ei_1 (show ¬ nI 7 ≤ n_1 from c_3))
      obtain ⟨q_j, g1_j, g2_j, g3_j, hf_j, hm1_j, hm2_j⟩ := hX i_1 hj_1
      have hP : va_P (dC, dI) vwCl [(x, .inr (10, [.ref cd, .int 7, .ref rd, .int 0, .ref tp, .ref fo, .int 10, .ref qu, .int 0, .int 0, .ref sh, .ref vs, .ref pa, .ref pb])), (cd, .inl (kC, 24, .inr (.inr (.inr (.inr fc))))), (q_j, .inr (5, [.int 0, .null, .int (-1), .int (-1), .int 0, .int 0, .ref g1_j, .ref g2_j, .ref g3_j, .int 0])), (g1_j, .inl (kg, 8, .inl (fun _ => 0)))] s.heap := P_mem (ws' := [(x, .inr (10, [.ref cd, .int 7, .ref rd, .int 0, .ref tp, .ref fo, .int 10, .ref qu, .int 0, .int 0, .ref sh, .ref vs, .ref pa, .ref pb])), (cd, .inl (kC, 24, .inr (.inr (.inr (.inr fc))))), (q_j, .inr (5, [.int 0, .null, .int (-1), .int (-1), .int 0, .int 0, .ref g1_j, .ref g2_j, .ref g3_j, .int 0])), (g1_j, .inl (kg, 8, .inl (fun _ => 0)))]) hP0 (mem_app (X := [(x, .inr (10, [.ref cd, .int 7, .ref rd, .int 0, .ref tp, .ref fo, .int 10, .ref qu, .int 0, .int 0, .ref sh, .ref vs, .ref pa, .ref pb])), (cd, .inl (kC, 24, .inr (.inr (.inr (.inr fc)))))]) (mem_2 hm1_j hm2_j))
      refine lv_aload_n hx hb dX5_openedBy_12 rfl (lv_at hl 2 rfl) ?_
      refine lv_iload_n hx hb dX5_openedBy_13 rfl (lv_at hl 0 rfl) ?_
      refine va_csq (va_Run.run (va_runV (As := [.int n_1]) (rest := []) ⟨hx, hb, hml, hown, hts⟩ (c_R_find l dC dI x cd rd tp fo qu sh vs pa pb kC fc n_1 q_j (by rw [ei_1]; exact nI_pos (by omega)) (by rw [ei_1]; exact (show nI i_1 < nI 7 from nI_lt hj_1 (by decide))) (by rw [ei_1]; exact vp_in_nI (by omega) (by decide)) (by rw [ei_1, nI_clamp (by omega)]; exact hf_j)) (cwV 1 hts gX5_openedBy_X5_find rfl rfl rfl (by decide +kernel) ⟨Nat.le_of_ble_eq_true rfl, Nat.le_of_ble_eq_true rfl⟩) ⟨PS_blind, va_recv hK hP (ci := 10) (q0 := 0) rfl rfl, PS_pre (hP.sub (ws' := [(x, .inr (10, [.ref cd, .int 7, .ref rd, .int 0, .ref tp, .ref fo, .int 10, .ref qu, .int 0, .int 0, .ref sh, .ref vs, .ref pa, .ref pb])), (cd, .inl (kC, 24, .inr (.inr (.inr (.inr fc)))))]) [0, 1] rfl) (hK.sub (tys' := [(kC, .object "ExamHalls$Candidate")]) [0] rfl) hF⟩ rfl rfl hl.1 rfl (lv_room (Nat.le_of_ble_eq_true rfl)) dX5_openedBy_14 ⟨Nat.le_of_ble_eq_true rfl, Nat.le_of_ble_eq_true rfl⟩)) (fun r_4 hr_4 => ?_)
      subst hr_4
      refine W.eq (g2 := F0 m 17 ls [.ref q_j]) rfl ?_
      refine lv_astore (lv' := [(4, .ref q_j), (3, .int n_1), (2, .int v_2), (0, .ref x), (1, .int set)]) hx hb dX5_openedBy_17 hl (by decide) rfl (fun ls hl => ?_)
      refine lv_aload hx hb dX5_openedBy_19 (lv_at hl 0 rfl) ?_
      refine lv_ifnull hx hb dX5_openedBy_21 ?_
      refine lv_aload hx hb dX5_openedBy_24 (lv_at hl 0 rfl) ?_
      refine lv_iload_n hx hb dX5_openedBy_26 rfl (lv_at hl 4 rfl) ?_
      refine vp_callSi (va_Run.run (va_runVN (As := [.int set]) (rest := []) ⟨hx, hb, hml, hown, hts⟩ (c_R_isOpened l dC dI q_j g1_j g2_j g3_j kg set) ⟨va_cnB 1 hts gX5_openedBy_X0_isOpenedBy_n278 rfl rfl rfl (Ft.nm hF (RX5, 278, yX0_isOpenedBy, RX5) (by decide +kernel)) (hts (.initialized RX0) (List.mem_of_getElem? (i := 9) rfl)) (by decide +kernel) ⟨Nat.le_of_ble_eq_true rfl, Nat.le_of_ble_eq_true rfl⟩, (hts (.instanceMethod yX0_isOpenedBy) (List.mem_of_getElem? (i := 8) rfl)), (hts (.selects RX0 yX0_isOpenedBy yX0_isOpenedBy) (List.mem_of_getElem? (i := 10) rfl))⟩ ⟨PS_blind, va_recv hK hP (ci := 5) (q0 := 2) rfl rfl, PS_pre (hP.sub (ws' := [(q_j, .inr (5, [.int 0, .null, .int (-1), .int (-1), .int 0, .int 0, .ref g1_j, .ref g2_j, .ref g3_j, .int 0])), (g1_j, .inl (kg, 8, .inl (fun _ => 0)))]) [2, 3] rfl) (hK.sub (tys' := [(kg, .int)]) [1] rfl) hF⟩ rfl rfl hl.1 rfl (lv_room (Nat.le_of_ble_eq_true rfl)) dX5_openedBy_27 ⟨Nat.le_of_ble_eq_true rfl, Nat.le_of_ble_eq_true rfl⟩)) (fun r_5 hr_5 => ?_)
      refine lv_if_eq (tgt := 36) hx hb dX5_openedBy_30 (by decide) (fun c_6 => ?_) (fun c_6 => ?_)
      · skip
        refine lv_iinc (v := n_1 + 1) (lv' := [(3, .int (n_1 + 1)), (4, .ref q_j), (2, .int v_2), (0, .ref x), (1, .int set)]) hx hb dX5_openedBy_36 hl (k := 1) rfl rfl (by decide) rfl (fun ls hl => ?_)
        refine lv_goto (tgt := 4) hx hb dX5_openedBy_39 (by decide) ?_
        have hlt_1 := (i_lt hi_1 (by decide) ei_1 (show ¬ nI 7 ≤ n_1 from c_3))
        exact ih_1 (ls := ls) (v_2 := v_2) (n_1 := n_1 + 1) (i_1 := i_1 + 1) (hl := lv_sub hl [0, 2, 3, 4] rfl) (hi_1 := hlt_1) (ei_1 := by rw [ei_1]; exact nI_1 i_1) (hk_1 := by omega)
      · skip
        refine lv_iinc (v := v_2 + 1) (lv' := [(2, .int (v_2 + 1)), (4, .ref q_j), (3, .int n_1), (0, .ref x), (1, .int set)]) hx hb dX5_openedBy_33 hl (k := 2) rfl rfl (by decide) rfl (fun ls hl => ?_)
        refine lv_iinc (v := n_1 + 1) (lv' := [(3, .int (n_1 + 1)), (2, .int (v_2 + 1)), (4, .ref q_j), (0, .ref x), (1, .int set)]) hx hb dX5_openedBy_36 hl (k := 2) rfl rfl (by decide) rfl (fun ls hl => ?_)
        refine lv_goto (tgt := 4) hx hb dX5_openedBy_39 (by decide) ?_
        have hlt_1 := (i_lt hi_1 (by decide) ei_1 (show ¬ nI 7 ≤ n_1 from c_3))
        exact ih_1 (ls := ls) (v_2 := v_2 + 1) (n_1 := n_1 + 1) (i_1 := i_1 + 1) (hl := lv_sub hl [0, 1, 3, 4] rfl) (hi_1 := hlt_1) (ei_1 := by rw [ei_1]; exact nI_1 i_1) (hk_1 := by omega)

set_option maxHeartbeats 4000000 in
set_option maxRecDepth 100000 in
theorem c_R_Xfewest (l : Launch) (dC : Nat → ClassId) (dI : Nat → Nat → Nat) (x : Nat) (cd : Nat) (rd : Nat) (tp : Nat) (fo : Nat) (qu : Nat) (sh : Nat) (vs : Nat) (pa : Nat) (pb : Nat) (kC : ClassId) (fc : Nat → Option Nat) (kg : ClassId) (FL : va_W) (hX : XI kg 7 fc FL) : Met l yX5_fewest wsX5_fewest ({ frames := 2, cells := 0, slots := 0, locals := 49 }) (va_Pc [.ref x] (PS dC dI ([(x, .inr (10, [.ref cd, .int 7, .ref rd, .int 0, .ref tp, .ref fo, .int 10, .ref qu, .int 0, .int 0, .ref sh, .ref vs, .ref pa, .ref pb])), (cd, .inl (kC, 24, .inr (.inr (.inr (.inr fc)))))] ++ FL) [(kC, .object "ExamHalls$Candidate"), (kg, .int)])) (vp_Si (fun _ => True)) 0 0 (fun _ => False) := by
  refine Met.ofW (cc := cX5_fewest) (maxL := 4) (ret := (some .int)) (by decide) rfl ?_
  intro p e s m args below meth c s₁ B hml hv
  obtain ⟨rfl, hP, hK, hF⟩ := hv
  have hx := B.exec
  have hb := B.bytes
  have hr := B.returns
  have hts := atoms_spec (ws := wsX5_fewest) B.pre
  have hown : s.vm.findClass RX5 = some m.cls := findClass_of_methodNamed B.named
  have hlocks := B.notSynchronized
  have hl := lv_entry ([.ref x]) (n := 4) (Nat.le_of_ble_eq_true rfl)
  rw [lg_entry_eq]
  generalize (lg_sl ([.ref x]) ++ List.replicate (4 - (lg_sl ([.ref x])).length) Slot.unset).toArray = ls at hl ⊢
  have hl : lv_has ls 4 [(0, .ref x)] := hl
  have hP0 := hP
  have hP : va_P (dC, dI) vwCl [(x, .inr (10, [.ref cd, .int 7, .ref rd, .int 0, .ref tp, .ref fo, .int 10, .ref qu, .int 0, .int 0, .ref sh, .ref vs, .ref pa, .ref pb])), (cd, .inl (kC, 24, .inr (.inr (.inr (.inr fc)))))] s.heap := P_mem hP0 (fun q h => List.mem_append_left _ h)
  refine lv_iconst (v := 0) hx hb dX5_fewest_0 (by decide) ?_
  refine lv_istore_n (lv' := [(1, .int 0), (0, .ref x)]) hx hb dX5_fewest_1 rfl hl (by decide) rfl (fun ls hl => ?_)
  refine lv_iconst (v := 4) hx hb dX5_fewest_2 (by decide) ?_
  refine lv_istore_n (lv' := [(2, .int 4), (1, .int 0), (0, .ref x)]) hx hb dX5_fewest_3 rfl hl (by decide) rfl (fun ls hl => ?_)
  refine lv_iconst (v := 1) hx hb dX5_fewest_4 (by decide) ?_
  refine lv_istore_n (lv' := [(3, .int 1), (2, .int 4), (1, .int 0), (0, .ref x)]) hx hb dX5_fewest_5 rfl hl (by decide) rfl (fun ls hl => ?_)
  obtain ⟨n_1, en_1⟩ : ∃ n_1 : Int32, n_1 = 1 := ⟨_, rfl⟩
  obtain ⟨v_2, ev_v_2⟩ : ∃ v_2 : Int32, v_2 = 4 := ⟨_, rfl⟩
  obtain ⟨v_3, ev_v_3⟩ : ∃ v_3 : Int32, v_3 = 0 := ⟨_, rfl⟩
  replace hl : lv_has ls 4 [(3, .int n_1), (2, .int v_2), (1, .int v_3), (0, .ref x)] := by rw [en_1, ev_v_2, ev_v_3]; exact hl
  obtain ⟨i_1, hi_1, ei_1, es_1⟩ : ∃ i : Nat, i ≤ 256 ∧ n_1 = nI i ∧ i = 1 := ⟨1, by omega, en_1, rfl⟩
  obtain ⟨k_1, hk_1⟩ : ∃ k : Nat, 256 - i_1 < k := ⟨257, by omega⟩
  clear en_1 ev_v_2 ev_v_3 es_1
  induction k_1 generalizing n_1 v_2 v_3 i_1 ls with
  | zero => exact absurd hk_1 (by omega)
  | succ k_1 ih_1 =>
    refine lv_iload_n hx hb dX5_fewest_6 rfl (lv_at hl 0 rfl) ?_
    refine lv_sipush (v := 256) hx hb dX5_fewest_7 (by decide) ?_
    refine lv_icmp_ge (tgt := 42) hx hb dX5_fewest_10 (by decide) (fun c_4 => ?_) (fun c_4 => ?_)
    · skip
      refine lv_iload_n hx hb dX5_fewest_42 rfl (lv_at hl 2 rfl) ?_
      exact W.iret (v := v_3) hx hb hr (fun t ht hW => ⟨_, rfl, trivial, ht⟩) (fun _ h9 => absurd h9 List.not_mem_nil) dX5_fewest_43
    · skip
      refine lv_iload_n hx hb dX5_fewest_13 rfl (lv_at hl 0 rfl) ?_
      refine vp_callSi (va_Run.run (va_runS (As := [.int n_1]) (rest := []) ⟨hx, hb, hml, hown, hts⟩ (c_J_bitCount l dC dI n_1) (va_cwS 1 hts gX5_fewest_J6_bitCount_0f7a4 rfl rfl rfl (by decide +kernel) ⟨Nat.le_of_ble_eq_true rfl, Nat.le_of_ble_eq_true rfl⟩) ⟨PS_blind, PS_pre (hP.sub (ws' := []) [] rfl) (hK.sub (tys' := []) [] rfl) hF⟩ rfl rfl hl.1 rfl (lv_room (Nat.le_of_ble_eq_true rfl)) dX5_fewest_14 ⟨Nat.le_of_ble_eq_true rfl, Nat.le_of_ble_eq_true rfl⟩)) (fun r_5 hr_5 => ?_)
      refine lv_iload_n hx hb dX5_fewest_17 rfl (lv_at hl 1 rfl) ?_
      refine lv_icmp_ge (tgt := 36) hx hb dX5_fewest_18 (by decide) (fun c_6 => ?_) (fun c_6 => ?_)
      · skip
        refine lv_iinc (v := n_1 + 1) (lv' := [(3, .int (n_1 + 1)), (2, .int v_2), (1, .int v_3), (0, .ref x)]) hx hb dX5_fewest_36 hl (k := 0) rfl rfl (by decide) rfl (fun ls hl => ?_)
        refine lv_goto (tgt := 6) hx hb dX5_fewest_39 (by decide) ?_
        have hlt_1 := (i_lt hi_1 (by decide) ei_1 (show ¬ nI 256 ≤ n_1 from c_4))
        exact ih_1 (ls := ls) (v_2 := v_2) (v_3 := v_3) (n_1 := n_1 + 1) (i_1 := i_1 + 1) (hl := lv_sub hl [0, 1, 2, 3] rfl) (hi_1 := hlt_1) (ei_1 := by rw [ei_1]; exact nI_1 i_1) (hk_1 := by omega)
      · skip
        refine lv_aload_n hx hb dX5_fewest_21 rfl (lv_at hl 3 rfl) ?_
        refine lv_iload_n hx hb dX5_fewest_22 rfl (lv_at hl 0 rfl) ?_
        refine vp_callSi (va_Run.run (va_runV (As := [.int n_1]) (rest := []) ⟨hx, hb, hml, hown, hts⟩ (c_R_Xopened l dC dI x cd rd tp fo qu sh vs pa pb kC fc kg FL n_1 hX) (cwV 1 hts gX5_fewest_X5_openedBy rfl rfl rfl (by decide +kernel) ⟨Nat.le_of_ble_eq_true rfl, Nat.le_of_ble_eq_true rfl⟩) ⟨PS_blind, va_recv hK hP (ci := 10) (q0 := 0) rfl rfl, PS_pre hP0 hK hF⟩ rfl rfl hl.1 rfl (lv_room (Nat.le_of_ble_eq_true rfl)) dX5_fewest_23 ⟨Nat.le_of_ble_eq_true rfl, Nat.le_of_ble_eq_true rfl⟩)) (fun r_7 hr_7 => ?_)
        refine lv_if_le (tgt := 36) hx hb dX5_fewest_26 (by decide) (fun c_8 => ?_) (fun c_8 => ?_)
        · skip
          refine lv_iinc (v := n_1 + 1) (lv' := [(3, .int (n_1 + 1)), (2, .int v_2), (1, .int v_3), (0, .ref x)]) hx hb dX5_fewest_36 hl (k := 0) rfl rfl (by decide) rfl (fun ls hl => ?_)
          refine lv_goto (tgt := 6) hx hb dX5_fewest_39 (by decide) ?_
          have hlt_1 := (i_lt hi_1 (by decide) ei_1 (show ¬ nI 256 ≤ n_1 from c_4))
          exact ih_1 (ls := ls) (v_2 := v_2) (v_3 := v_3) (n_1 := n_1 + 1) (i_1 := i_1 + 1) (hl := lv_sub hl [0, 1, 2, 3] rfl) (hi_1 := hlt_1) (ei_1 := by rw [ei_1]; exact nI_1 i_1) (hk_1 := by omega)
        · skip
          refine lv_iload_n hx hb dX5_fewest_29 rfl (lv_at hl 0 rfl) ?_
          refine lv_istore_n (lv' := [(1, .int n_1), (3, .int n_1), (2, .int v_2), (0, .ref x)]) hx hb dX5_fewest_30 rfl hl (by decide) rfl (fun ls hl => ?_)
          refine lv_iload_n hx hb dX5_fewest_31 rfl (lv_at hl 1 rfl) ?_
          refine vp_callSi (va_Run.run (va_runS (As := [.int n_1]) (rest := []) ⟨hx, hb, hml, hown, hts⟩ (c_J_bitCount l dC dI n_1) (va_cwS 1 hts gX5_fewest_J6_bitCount_0f7a4 rfl rfl rfl (by decide +kernel) ⟨Nat.le_of_ble_eq_true rfl, Nat.le_of_ble_eq_true rfl⟩) ⟨PS_blind, PS_pre (hP.sub (ws' := []) [] rfl) (hK.sub (tys' := []) [] rfl) hF⟩ rfl rfl hl.1 rfl (lv_room (Nat.le_of_ble_eq_true rfl)) dX5_fewest_32 ⟨Nat.le_of_ble_eq_true rfl, Nat.le_of_ble_eq_true rfl⟩)) (fun r_9 hr_9 => ?_)
          refine lv_istore_n (lv' := [(2, .int r_9), (1, .int n_1), (3, .int n_1), (0, .ref x)]) hx hb dX5_fewest_35 rfl hl (by decide) rfl (fun ls hl => ?_)
          refine lv_iinc (v := n_1 + 1) (lv' := [(3, .int (n_1 + 1)), (2, .int r_9), (1, .int n_1), (0, .ref x)]) hx hb dX5_fewest_36 hl (k := 2) rfl rfl (by decide) rfl (fun ls hl => ?_)
          refine lv_goto (tgt := 6) hx hb dX5_fewest_39 (by decide) ?_
          have hlt_1 := (i_lt hi_1 (by decide) ei_1 (show ¬ nI 256 ≤ n_1 from c_4))
          exact ih_1 (ls := ls) (v_2 := r_9) (v_3 := n_1) (n_1 := n_1 + 1) (i_1 := i_1 + 1) (hl := lv_sub hl [0, 1, 2, 3] rfl) (hi_1 := hlt_1) (ei_1 := by rw [ei_1]; exact nI_1 i_1) (hk_1 := by omega)
