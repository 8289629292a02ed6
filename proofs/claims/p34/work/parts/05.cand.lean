
set_option maxHeartbeats 4000000 in
set_option maxRecDepth 100000 in
theorem c_R_X0 (l : Launch) (dC : Nat → ClassId) (dI : Nat → Nat → Nat) (y : Nat) (v : Int32) (sz : Nat) : Met l yX0_init wsX0_init ({ frames := 1, cells := 3, slots := 14, locals := 12 }) (va_Pc [.ref y, .int v] (PQ dC dI sz [(y, .inr (5, [.int 0, .null, .int 0, .int 0, .int 0, .int 0, .null, .null, .null, .int 0]))] [])) (va_Qv (fun _ : Unit => True) (fun _ t => ∃ (g1 : Nat) (g2 : Nat) (g3 : Nat) (kg : ClassId), va_P (dC, dI) vwCl [(y, .inr (5, [.int v, .null, .int (-1), .int (-1), .int 0, .int 0, .ref g1, .ref g2, .ref g3, .int 0])), (g1, .inl (kg, 8, .inl (fun _ => 0)))] t.heap ∧ va_K (dC, dI) vwCl [(kg, .int)] t ∧ va_D (va_A [(y, .inr (5, [.int 0, .null, .int 0, .int 0, .int 0, .int 0, .null, .null, .null, .int 0]))] sz) [(y, .inr (5, [.int v, .null, .int (-1), .int (-1), .int 0, .int 0, .ref g1, .ref g2, .ref g3, .int 0])), (g1, .inl (kg, 8, .inl (fun _ => 0)))]) (va_A [(y, .inr (5, [.int 0, .null, .int 0, .int 0, .int 0, .int 0, .null, .null, .null, .int 0]))] sz)) 3 14 (va_A [(y, .inr (5, [.int 0, .null, .int 0, .int 0, .int 0, .int 0, .null, .null, .null, .int 0]))] sz) := by
  refine Met.ofW (cc := cX0_init) (maxL := 2) (ret := none) (by decide) rfl ?_
  intro p e s m args below meth c s₁ B hml hv
  obtain ⟨rfl, hsz, hP, hK, hD0, hF⟩ := hv
  have hx := B.exec
  have hb := B.bytes
  have hr := B.returns
  have hts := atoms_spec (ws := wsX0_init) B.pre
  have hown : s.vm.findClass RX0 = some m.cls := findClass_of_methodNamed B.named
  have hlocks := B.notSynchronized
  have hin : meth.name = "<init>" := (name_of_methodNamed B.named B.method).1
  subst hsz
  have hD := hD0.self (sz := s.heap.size)
  generalize hAe : va_A [(y, .inr (5, [.int 0, .null, .int 0, .int 0, .int 0, .int 0, .null, .null, .null, .int 0]))] s.heap.size = A at hD ⊢
  have hA : ∀ q : Nat, s.heap.size ≤ q → A q := fun q h => by rw [← hAe]; exact Or.inr h
  have hS : va_S A s.heap s.heap [] := va_S.rf
  have hl := lv_entry ([.ref y, .int v]) (n := 2) (Nat.le_of_ble_eq_true rfl)
  rw [lg_entry_eq]
  generalize (lg_sl ([.ref y, .int v]) ++ List.replicate (2 - (lg_sl ([.ref y, .int v])).length) Slot.unset).toArray = ls at hl ⊢
  have hl : lv_has ls 2 [(0, .ref y), (1, .int v)] := hl
  refine lv_aload_n hx hb dX0_init_0 rfl (lv_at hl 0 rfl) ?_
  refine W.objInit hx hb hown (hts (.methodLink RX0 3 objectInit) (List.mem_of_getElem? (i := 1) rfl)) (hts (.instanceMethod objectInit) (List.mem_of_getElem? (i := 2) rfl)) (hts _ (List.mem_of_getElem? (i := 3) rfl)) rfl (by rw [hml]; exact hl.1) rfl dX0_init_1 (Nat.le_of_ble_eq_true rfl) (Nat.le_of_ble_eq_true rfl) ?_
  refine W.eq (g2 := F0 m 4 ls []) rfl ?_
  refine lv_aload_n hx hb dX0_init_4 rfl (lv_at hl 0 rfl) ?_
  refine lv_null hx hb dX0_init_5 ?_
  refine va_put (D := (dC, dI)) (ci := 5) (v := .null) (ty := .object "ExamHalls$Essay") (C := RX0) (T := TX0) (N := 10) hx hb hts (fun _ h9 => List.mem_cons_of_mem _ (List.mem_append_right _ (h9))) tyX0 tyX0_ok nmX0 hown hK hP hD hS 0 rfl rfl 1 (by decide) (hts (.fieldLink RX0 9 "ExamHalls$Candidate" "text" "LExamHalls$Essay;") (List.mem_of_getElem? (i := 4) rfl)) (fun _ h9 => h9) rfl (by decide +kernel) rfl rfl (Nat.le_of_ble_eq_true rfl) dX0_init_6 (fun H locs hP hD hS => ?_)
  have hP : va_P (dC, dI) vwCl [(y, .inr (5, [.int 0, .null, .int 0, .int 0, .int 0, .int 0, .null, .null, .null, .int 0]))] H := hP
  have hD : va_D A [(y, .inr (5, [.int 0, .null, .int 0, .int 0, .int 0, .int 0, .null, .null, .null, .int 0]))] := hD
  refine lv_aload_n hx hb dX0_init_9 rfl (lv_at hl 0 rfl) ?_
  refine lv_iconst (v := (-1)) hx hb dX0_init_10 (by decide) ?_
  refine va_put (D := (dC, dI)) (ci := 5) (v := .int (-1)) (ty := .int) (C := RX0) (T := TX0) (N := 10) hx hb hts (fun _ h9 => List.mem_cons_of_mem _ (List.mem_append_right _ (h9))) tyX0 tyX0_ok nmX0 hown hK hP hD hS 0 rfl rfl 2 (by decide) (hts (.fieldLink RX0 15 "ExamHalls$Candidate" "number" "I") (List.mem_of_getElem? (i := 5) rfl)) (fun _ h9 => h9) rfl (by decide +kernel) rfl rfl (Nat.le_of_ble_eq_true rfl) dX0_init_11 (fun H locs hP hD hS => ?_)
  have hP : va_P (dC, dI) vwCl [(y, .inr (5, [.int 0, .null, .int (-1), .int 0, .int 0, .int 0, .null, .null, .null, .int 0]))] H := hP
  have hD : va_D A [(y, .inr (5, [.int 0, .null, .int (-1), .int 0, .int 0, .int 0, .null, .null, .null, .int 0]))] := hD
  refine lv_aload_n hx hb dX0_init_14 rfl (lv_at hl 0 rfl) ?_
  refine lv_iconst (v := (-1)) hx hb dX0_init_15 (by decide) ?_
  refine va_put (D := (dC, dI)) (ci := 5) (v := .int (-1)) (ty := .int) (C := RX0) (T := TX0) (N := 10) hx hb hts (fun _ h9 => List.mem_cons_of_mem _ (List.mem_append_right _ (h9))) tyX0 tyX0_ok nmX0 hown hK hP hD hS 0 rfl rfl 3 (by decide) (hts (.fieldLink RX0 19 "ExamHalls$Candidate" "place" "I") (List.mem_of_getElem? (i := 6) rfl)) (fun _ h9 => h9) rfl (by decide +kernel) rfl rfl (Nat.le_of_ble_eq_true rfl) dX0_init_16 (fun H locs hP hD hS => ?_)
  have hP : va_P (dC, dI) vwCl [(y, .inr (5, [.int 0, .null, .int (-1), .int (-1), .int 0, .int 0, .null, .null, .null, .int 0]))] H := hP
  have hD : va_D A [(y, .inr (5, [.int 0, .null, .int (-1), .int (-1), .int 0, .int 0, .null, .null, .null, .int 0]))] := hD
  refine lv_aload_n hx hb dX0_init_19 rfl (lv_at hl 0 rfl) ?_
  refine lv_iconst (v := 0) hx hb dX0_init_20 (by decide) ?_
  refine va_put (D := (dC, dI)) (ci := 5) (v := .int 0) (ty := .boolean) (C := RX0) (T := TX0) (N := 10) hx hb hts (fun _ h9 => List.mem_cons_of_mem _ (List.mem_append_right _ (h9))) tyX0 tyX0_ok nmX0 hown hK hP hD hS 0 rfl rfl 4 (by decide) (hts (.fieldLink RX0 22 "ExamHalls$Candidate" "struck" "Z") (List.mem_of_getElem? (i := 7) rfl)) (fun _ h9 => h9) rfl (by decide +kernel) (by decide) (by decide) (Nat.le_of_ble_eq_true rfl) dX0_init_21 (fun H locs hP hD hS => ?_)
  have hP : va_P (dC, dI) vwCl [(y, .inr (5, [.int 0, .null, .int (-1), .int (-1), .int 0, .int 0, .null, .null, .null, .int 0]))] H := hP
  have hD : va_D A [(y, .inr (5, [.int 0, .null, .int (-1), .int (-1), .int 0, .int 0, .null, .null, .null, .int 0]))] := hD
  refine lv_aload_n hx hb dX0_init_24 rfl (lv_at hl 0 rfl) ?_
  refine lv_iconst (v := 0) hx hb dX0_init_25 (by decide) ?_
  refine va_put (D := (dC, dI)) (ci := 5) (v := .int 0) (ty := .int) (C := RX0) (T := TX0) (N := 10) hx hb hts (fun _ h9 => List.mem_cons_of_mem _ (List.mem_append_right _ (h9))) tyX0 tyX0_ok nmX0 hown hK hP hD hS 0 rfl rfl 5 (by decide) (hts (.fieldLink RX0 26 "ExamHalls$Candidate" "kinBits" "I") (List.mem_of_getElem? (i := 8) rfl)) (fun _ h9 => h9) rfl (by decide +kernel) rfl rfl (Nat.le_of_ble_eq_true rfl) dX0_init_26 (fun H locs hP hD hS => ?_)
  have hP : va_P (dC, dI) vwCl [(y, .inr (5, [.int 0, .null, .int (-1), .int (-1), .int 0, .int 0, .null, .null, .null, .int 0]))] H := hP
  have hD : va_D A [(y, .inr (5, [.int 0, .null, .int (-1), .int (-1), .int 0, .int 0, .null, .null, .null, .int 0]))] := hD
  refine lv_aload_n hx hb dX0_init_29 rfl (lv_at hl 0 rfl) ?_
  refine lv_bipush (v := 8) hx hb dX0_init_30 (by decide) ?_
  refine va_newa (atype := .int) (ty := .int) (a0 := (8, (.inl (fun _ => 0)))) hx hb (hts (.arrayClass .int) (List.mem_of_getElem? (i := 9) rfl)) rfl hK hP hD hS hA (fun _ => rfl) (by decide) (by decide) (Nat.le_of_ble_eq_true rfl) (Nat.le_of_ble_eq_true rfl) (Nat.le_of_ble_eq_true rfl) dX0_init_32 (fun q_1 k_2 H hK hP hD hS => ?_)
  have hP : va_P (dC, dI) vwCl [(y, .inr (5, [.int 0, .null, .int (-1), .int (-1), .int 0, .int 0, .null, .null, .null, .int 0])), (q_1, .inl (k_2, 8, .inl (fun _ => 0)))] H := hP
  have hD : va_D A [(y, .inr (5, [.int 0, .null, .int (-1), .int (-1), .int 0, .int 0, .null, .null, .null, .int 0])), (q_1, .inl (k_2, 8, .inl (fun _ => 0)))] := hD
  have hK : va_K (dC, dI) vwCl [(k_2, .int)] s := hK
  refine W.widen (k := 1) (n := 8) (Nat.le_of_ble_eq_true rfl) (Nat.le_of_ble_eq_true rfl) ?_
  refine va_putF (D := (dC, dI)) (ci := 5) (v := .ref q_1) (ty := .array .int) (C := RX0) (T := TX0) (N := 10) hx hb hts (fun _ h9 => List.mem_cons_of_mem _ (List.mem_append_right _ (h9))) tyX0 tyX0_ok nmX0 hown hK hP hD hS 0 rfl rfl 6 (by decide) (hts (.fieldLink RX0 29 "ExamHalls$Candidate" "seenBits" "[I") (List.mem_of_getElem? (i := 10) rfl)) (fun _ h9 => h9) rfl hin rfl (by decide +kernel) rfl rfl (Nat.le_of_ble_eq_true rfl) dX0_init_34 (fun H locs hP hD hS => ?_)
  have hP : va_P (dC, dI) vwCl [(y, .inr (5, [.int 0, .null, .int (-1), .int (-1), .int 0, .int 0, .ref q_1, .null, .null, .int 0])), (q_1, .inl (k_2, 8, .inl (fun _ => 0)))] H := hP
  have hD : va_D A [(y, .inr (5, [.int 0, .null, .int (-1), .int (-1), .int 0, .int 0, .ref q_1, .null, .null, .int 0])), (q_1, .inl (k_2, 8, .inl (fun _ => 0)))] := hD
  refine lv_aload_n hx hb dX0_init_37 rfl (lv_at hl 0 rfl) ?_
  refine lv_iconst (v := 3) hx hb dX0_init_38 (by decide) ?_
  refine va_newa (atype := .int) (ty := .int) (a0 := (3, (.inl (fun _ => 0)))) hx hb (hts (.arrayClass .int) (List.mem_of_getElem? (i := 9) rfl)) rfl hK hP hD hS hA (fun _ => rfl) (by decide) (by decide) (Nat.le_of_ble_eq_true rfl) (Nat.le_of_ble_eq_true rfl) (Nat.le_of_ble_eq_true rfl) dX0_init_39 (fun q_3 k_4 H hK hP hD hS => ?_)
  have hP : va_P (dC, dI) vwCl [(y, .inr (5, [.int 0, .null, .int (-1), .int (-1), .int 0, .int 0, .ref q_1, .null, .null, .int 0])), (q_1, .inl (k_2, 8, .inl (fun _ => 0))), (q_3, .inl (k_4, 3, .inl (fun _ => 0)))] H := hP
  have hD : va_D A [(y, .inr (5, [.int 0, .null, .int (-1), .int (-1), .int 0, .int 0, .ref q_1, .null, .null, .int 0])), (q_1, .inl (k_2, 8, .inl (fun _ => 0))), (q_3, .inl (k_4, 3, .inl (fun _ => 0)))] := hD
  have hK : va_K (dC, dI) vwCl [(k_2, .int), (k_4, .int)] s := hK
  refine W.widen (k := 2) (n := 11) (Nat.le_of_ble_eq_true rfl) (Nat.le_of_ble_eq_true rfl) ?_
  refine va_putF (D := (dC, dI)) (ci := 5) (v := .ref q_3) (ty := .array .int) (C := RX0) (T := TX0) (N := 10) hx hb hts (fun _ h9 => List.mem_cons_of_mem _ (List.mem_append_right _ (h9))) tyX0 tyX0_ok nmX0 hown hK hP hD hS 0 rfl rfl 7 (by decide) (hts (.fieldLink RX0 33 "ExamHalls$Candidate" "readBy" "[I") (List.mem_of_getElem? (i := 11) rfl)) (fun _ h9 => h9) rfl hin rfl (by decide +kernel) rfl rfl (Nat.le_of_ble_eq_true rfl) dX0_init_41 (fun H locs hP hD hS => ?_)
  have hP : va_P (dC, dI) vwCl [(y, .inr (5, [.int 0, .null, .int (-1), .int (-1), .int 0, .int 0, .ref q_1, .ref q_3, .null, .int 0])), (q_1, .inl (k_2, 8, .inl (fun _ => 0))), (q_3, .inl (k_4, 3, .inl (fun _ => 0)))] H := hP
  have hD : va_D A [(y, .inr (5, [.int 0, .null, .int (-1), .int (-1), .int 0, .int 0, .ref q_1, .ref q_3, .null, .int 0])), (q_1, .inl (k_2, 8, .inl (fun _ => 0))), (q_3, .inl (k_4, 3, .inl (fun _ => 0)))] := hD
  refine lv_aload_n hx hb dX0_init_44 rfl (lv_at hl 0 rfl) ?_
  refine lv_iconst (v := 3) hx hb dX0_init_45 (by decide) ?_
  refine va_newa (atype := .int) (ty := .int) (a0 := (3, (.inl (fun _ => 0)))) hx hb (hts (.arrayClass .int) (List.mem_of_getElem? (i := 9) rfl)) rfl hK hP hD hS hA (fun _ => rfl) (by decide) (by decide) (Nat.le_of_ble_eq_true rfl) (Nat.le_of_ble_eq_true rfl) (Nat.le_of_ble_eq_true rfl) dX0_init_46 (fun q_5 k_6 H hK hP hD hS => ?_)
  have hP : va_P (dC, dI) vwCl [(y, .inr (5, [.int 0, .null, .int (-1), .int (-1), .int 0, .int 0, .ref q_1, .ref q_3, .null, .int 0])), (q_1, .inl (k_2, 8, .inl (fun _ => 0))), (q_3, .inl (k_4, 3, .inl (fun _ => 0))), (q_5, .inl (k_6, 3, .inl (fun _ => 0)))] H := hP
  have hD : va_D A [(y, .inr (5, [.int 0, .null, .int (-1), .int (-1), .int 0, .int 0, .ref q_1, .ref q_3, .null, .int 0])), (q_1, .inl (k_2, 8, .inl (fun _ => 0))), (q_3, .inl (k_4, 3, .inl (fun _ => 0))), (q_5, .inl (k_6, 3, .inl (fun _ => 0)))] := hD
  have hK : va_K (dC, dI) vwCl [(k_2, .int), (k_4, .int), (k_6, .int)] s := hK
  refine W.widen (k := 3) (n := 14) (Nat.le_of_ble_eq_true rfl) (Nat.le_of_ble_eq_true rfl) ?_
  refine va_putF (D := (dC, dI)) (ci := 5) (v := .ref q_5) (ty := .array .int) (C := RX0) (T := TX0) (N := 10) hx hb hts (fun _ h9 => List.mem_cons_of_mem _ (List.mem_append_right _ (h9))) tyX0 tyX0_ok nmX0 hown hK hP hD hS 0 rfl rfl 8 (by decide) (hts (.fieldLink RX0 36 "ExamHalls$Candidate" "marks" "[I") (List.mem_of_getElem? (i := 12) rfl)) (fun _ h9 => h9) rfl hin rfl (by decide +kernel) rfl rfl (Nat.le_of_ble_eq_true rfl) dX0_init_48 (fun H locs hP hD hS => ?_)
  have hP : va_P (dC, dI) vwCl [(y, .inr (5, [.int 0, .null, .int (-1), .int (-1), .int 0, .int 0, .ref q_1, .ref q_3, .ref q_5, .int 0])), (q_1, .inl (k_2, 8, .inl (fun _ => 0))), (q_3, .inl (k_4, 3, .inl (fun _ => 0))), (q_5, .inl (k_6, 3, .inl (fun _ => 0)))] H := hP
  have hD : va_D A [(y, .inr (5, [.int 0, .null, .int (-1), .int (-1), .int 0, .int 0, .ref q_1, .ref q_3, .ref q_5, .int 0])), (q_1, .inl (k_2, 8, .inl (fun _ => 0))), (q_3, .inl (k_4, 3, .inl (fun _ => 0))), (q_5, .inl (k_6, 3, .inl (fun _ => 0)))] := hD
  refine lv_aload_n hx hb dX0_init_51 rfl (lv_at hl 0 rfl) ?_
  refine lv_iconst (v := 0) hx hb dX0_init_52 (by decide) ?_
  refine va_put (D := (dC, dI)) (ci := 5) (v := .int 0) (ty := .int) (C := RX0) (T := TX0) (N := 10) hx hb hts (fun _ h9 => List.mem_cons_of_mem _ (List.mem_append_right _ (h9))) tyX0 tyX0_ok nmX0 hown hK hP hD hS 0 rfl rfl 9 (by decide) (hts (.fieldLink RX0 39 "ExamHalls$Candidate" "readingCount" "I") (List.mem_of_getElem? (i := 13) rfl)) (fun _ h9 => h9) rfl (by decide +kernel) rfl rfl (Nat.le_of_ble_eq_true rfl) dX0_init_53 (fun H locs hP hD hS => ?_)
  have hP : va_P (dC, dI) vwCl [(y, .inr (5, [.int 0, .null, .int (-1), .int (-1), .int 0, .int 0, .ref q_1, .ref q_3, .ref q_5, .int 0])), (q_1, .inl (k_2, 8, .inl (fun _ => 0))), (q_3, .inl (k_4, 3, .inl (fun _ => 0))), (q_5, .inl (k_6, 3, .inl (fun _ => 0)))] H := hP
  have hD : va_D A [(y, .inr (5, [.int 0, .null, .int (-1), .int (-1), .int 0, .int 0, .ref q_1, .ref q_3, .ref q_5, .int 0])), (q_1, .inl (k_2, 8, .inl (fun _ => 0))), (q_3, .inl (k_4, 3, .inl (fun _ => 0))), (q_5, .inl (k_6, 3, .inl (fun _ => 0)))] := hD
  refine lv_aload_n hx hb dX0_init_56 rfl (lv_at hl 0 rfl) ?_
  refine lv_iload_n hx hb dX0_init_57 rfl (lv_at hl 1 rfl) ?_
  refine va_putF (D := (dC, dI)) (ci := 5) (v := .int v) (ty := .int) (C := RX0) (T := TX0) (N := 10) hx hb hts (fun _ h9 => List.mem_cons_of_mem _ (List.mem_append_right _ (h9))) tyX0 tyX0_ok nmX0 hown hK hP hD hS 0 rfl rfl 0 (by decide) (hts (.fieldLink RX0 42 "ExamHalls$Candidate" "province" "I") (List.mem_of_getElem? (i := 14) rfl)) (fun _ h9 => h9) rfl hin rfl (by decide +kernel) rfl rfl (Nat.le_of_ble_eq_true rfl) dX0_init_58 (fun H locs hP hD hS => ?_)
  have hP : va_P (dC, dI) vwCl [(y, .inr (5, [.int v, .null, .int (-1), .int (-1), .int 0, .int 0, .ref q_1, .ref q_3, .ref q_5, .int 0])), (q_1, .inl (k_2, 8, .inl (fun _ => 0))), (q_3, .inl (k_4, 3, .inl (fun _ => 0))), (q_5, .inl (k_6, 3, .inl (fun _ => 0)))] H := hP
  have hD : va_D A [(y, .inr (5, [.int v, .null, .int (-1), .int (-1), .int 0, .int 0, .ref q_1, .ref q_3, .ref q_5, .int 0])), (q_1, .inl (k_2, 8, .inl (fun _ => 0))), (q_3, .inl (k_4, 3, .inl (fun _ => 0))), (q_5, .inl (k_6, 3, .inl (fun _ => 0)))] := hD
  have hP9 := hP.sub (ws' := [(y, .inr (5, [.int v, .null, .int (-1), .int (-1), .int 0, .int 0, .ref q_1, .ref q_3, .ref q_5, .int 0])), (q_1, .inl (k_2, 8, .inl (fun _ => 0)))]) [0, 1] rfl
  have hD9 := hD.sub (ws' := [(y, .inr (5, [.int v, .null, .int (-1), .int (-1), .int 0, .int 0, .ref q_1, .ref q_3, .ref q_5, .int 0])), (q_1, .inl (k_2, 8, .inl (fun _ => 0)))]) [0, 1] (by decide) rfl
  have hK9 := hK.sub (tys' := [(k_2, .int)]) [0] rfl
  exact W.vret hx hb hr (fun t ht hW => ⟨⟨(), rfl, trivial, q_1, q_3, q_5, k_2, by rw [ht]; exact hP9, va_K.moved hW.alike hK9, hD9⟩, hS.F ht⟩) hS.2.2 dX0_init_61

set_option maxHeartbeats 4000000 in
set_option maxRecDepth 100000 in
theorem c_R_Xcand (l : Launch) (dC : Nat → ClassId) (dI : Nat → Nat → Nat) (x : Nat) (cd : Nat) (rd : Nat) (tp : Nat) (fo : Nat) (qu : Nat) (sh : Nat) (vs : Nat) (pa : Nat) (pb : Nat) (kC : ClassId) (fc : Nat → Option Nat) (z : Int32) (sz : Nat) (hz0 : ¬ z < 0) (hz1 : z < 24) (hzb : vp_in z 24) : Met l yX5_candidate wsX5_candidate ({ frames := 2, cells := 4, slots := 24, locals := 33 }) (va_Pc [.ref x, .int 0] (PQ dC dI sz [(x, .inr (10, [.ref cd, .int z, .ref rd, .int 0, .ref tp, .ref fo, .int 10, .ref qu, .int 0, .int 0, .ref sh, .ref vs, .ref pa, .ref pb])), (cd, .inl (kC, 24, .inr (.inr (.inr (.inr fc)))))] [(kC, .object "ExamHalls$Candidate")])) (va_Qi (fun r (_ : Unit) => True) (fun _ t => ∃ (q : Nat) (g1 : Nat) (g2 : Nat) (g3 : Nat) (kg : ClassId) (fd : Nat → Option Nat), va_P (dC, dI) vwCl [(x, .inr (10, [.ref cd, .int (z + 1), .ref rd, .int 0, .ref tp, .ref fo, .int 10, .ref qu, .int 0, .int 0, .ref sh, .ref vs, .ref pa, .ref pb])), (cd, .inl (kC, 24, .inr (.inr (.inr (.inr fd))))), (q, .inr (5, [.int 0, .null, .int (-1), .int (-1), .int 0, .int 0, .ref g1, .ref g2, .ref g3, .int 0])), (g1, .inl (kg, 8, .inl (fun _ => 0)))] t.heap ∧ va_K (dC, dI) vwCl [(kC, .object "ExamHalls$Candidate"), (kg, .int)] t ∧ va_D (va_A [(x, .inr (10, [.ref cd, .int z, .ref rd, .int 0, .ref tp, .ref fo, .int 10, .ref qu, .int 0, .int 0, .ref sh, .ref vs, .ref pa, .ref pb])), (cd, .inl (kC, 24, .inr (.inr (.inr (.inr fc)))))] sz) [(x, .inr (10, [.ref cd, .int (z + 1), .ref rd, .int 0, .ref tp, .ref fo, .int 10, .ref qu, .int 0, .int 0, .ref sh, .ref vs, .ref pa, .ref pb])), (cd, .inl (kC, 24, .inr (.inr (.inr (.inr fd))))), (q, .inr (5, [.int 0, .null, .int (-1), .int (-1), .int 0, .int 0, .ref g1, .ref g2, .ref g3, .int 0])), (g1, .inl (kg, 8, .inl (fun _ => 0)))] ∧ va_up fc (z : Int32).toNatClampNeg (some q) = fd) (va_A [(x, .inr (10, [.ref cd, .int z, .ref rd, .int 0, .ref tp, .ref fo, .int 10, .ref qu, .int 0, .int 0, .ref sh, .ref vs, .ref pa, .ref pb])), (cd, .inl (kC, 24, .inr (.inr (.inr (.inr fc)))))] sz)) 4 24 (va_A [(x, .inr (10, [.ref cd, .int z, .ref rd, .int 0, .ref tp, .ref fo, .int 10, .ref qu, .int 0, .int 0, .ref sh, .ref vs, .ref pa, .ref pb])), (cd, .inl (kC, 24, .inr (.inr (.inr (.inr fc)))))] sz) := by
  refine Met.ofW (cc := cX5_candidate) (maxL := 2) (ret := (some .int)) (by decide) rfl ?_
  intro p e s m args below meth c s₁ B hml hv
  obtain ⟨rfl, hsz, hP, hK, hD0, hF⟩ := hv
  have hx := B.exec
  have hb := B.bytes
  have hr := B.returns
  have hts := atoms_spec (ws := wsX5_candidate) B.pre
  have hown : s.vm.findClass RX5 = some m.cls := findClass_of_methodNamed B.named
  have hlocks := B.notSynchronized
  subst hsz
  have hD := hD0.self (sz := s.heap.size)
  generalize hAe : va_A [(x, .inr (10, [.ref cd, .int z, .ref rd, .int 0, .ref tp, .ref fo, .int 10, .ref qu, .int 0, .int 0, .ref sh, .ref vs, .ref pa, .ref pb])), (cd, .inl (kC, 24, .inr (.inr (.inr (.inr fc)))))] s.heap.size = A at hD ⊢
  have hA : ∀ q : Nat, s.heap.size ≤ q → A q := fun q h => by rw [← hAe]; exact Or.inr h
  have hS : va_S A s.heap s.heap [] := va_S.rf
  have hl := lv_entry ([.ref x, .int 0]) (n := 2) (Nat.le_of_ble_eq_true rfl)
  rw [lg_entry_eq]
  generalize (lg_sl ([.ref x, .int 0]) ++ List.replicate (2 - (lg_sl ([.ref x, .int 0])).length) Slot.unset).toArray = ls at hl ⊢
  have hl : lv_has ls 2 [(0, .ref x), (1, .int 0)] := hl
  refine lv_iload_n hx hb dX5_candidate_0 rfl (lv_at hl 1 rfl) ?_
  refine lv_iconst (v := 0) hx hb dX5_candidate_1 (by decide) ?_
  refine lv_iconst (v := 3) hx hb dX5_candidate_2 (by decide) ?_
  refine vp_callSi (va_Run.run (va_runS (As := [.int 0, .int 0, .int 3]) (rest := []) ⟨hx, hb, hml, hown, hts⟩ (c_X_isWithin l dC dI 0 0 3) (va_cwS 3 hts gX5_candidate_X5_isWithin rfl rfl rfl (by decide +kernel) ⟨Nat.le_of_ble_eq_true rfl, Nat.le_of_ble_eq_true rfl⟩) ⟨PS_blind, PS_pre (hP.sub (ws' := []) [] rfl) (hK.sub (tys' := []) [] rfl) hF⟩ rfl rfl hl.1 rfl (lv_room (Nat.le_of_ble_eq_true rfl)) dX5_candidate_3 ⟨Nat.le_of_ble_eq_true rfl, Nat.le_of_ble_eq_true rfl⟩)) (fun r_1 hr_1 => ?_)
  subst hr_1
  refine lv_if_ne (tgt := 11) hx hb dX5_candidate_6 (by decide) (fun _ => ?_) (fun c_2 => absurd c_2 (by decide))
  refine lv_aload_n hx hb dX5_candidate_11 rfl (lv_at hl 0 rfl) ?_
  refine va_get (D := (dC, dI)) (ci := 10) (v := .int z) (C := RX5) (T := TX5) (N := 14) hx hb hts (fun _ h9 => List.mem_cons_of_mem _ (List.mem_append_left _ (List.mem_append_right _ (h9)))) hown hK hP 0 rfl rfl 1 (by decide) (hts (.fieldLink RX5 15 "ExamHalls" "candidateCount" "I") (List.mem_of_getElem? (i := 1) rfl)) (fun _ h9 => h9) rfl dX5_candidate_12 ?_
  refine lv_if_lt (tgt := 30) hx hb dX5_candidate_15 (by decide) (fun c_3 => absurd c_3 hz0) (fun _ => ?_)
  refine lv_aload_n hx hb dX5_candidate_18 rfl (lv_at hl 0 rfl) ?_
  refine va_get (D := (dC, dI)) (ci := 10) (v := .int z) (C := RX5) (T := TX5) (N := 14) hx hb hts (fun _ h9 => List.mem_cons_of_mem _ (List.mem_append_left _ (List.mem_append_right _ (h9)))) hown hK hP 0 rfl rfl 1 (by decide) (hts (.fieldLink RX5 15 "ExamHalls" "candidateCount" "I") (List.mem_of_getElem? (i := 1) rfl)) (fun _ h9 => h9) rfl dX5_candidate_19 ?_
  refine lv_aload_n hx hb dX5_candidate_22 rfl (lv_at hl 0 rfl) ?_
  refine va_get (D := (dC, dI)) (ci := 10) (v := .ref cd) (C := RX5) (T := TX5) (N := 14) hx hb hts (fun _ h9 => List.mem_cons_of_mem _ (List.mem_append_left _ (List.mem_append_right _ (h9)))) hown hK hP 0 rfl rfl 0 (by decide) (hts (.fieldLink RX5 11 "ExamHalls" "candidates" "[LExamHalls$Candidate;") (List.mem_of_getElem? (i := 2) rfl)) (fun _ h9 => h9) rfl dX5_candidate_23 ?_
  refine va_alen hx hb hK hP 1 0 rfl rfl (v := 24) rfl dX5_candidate_26 ?_
  refine lv_icmp_lt (tgt := 33) hx hb dX5_candidate_27 (by decide) (fun _ => ?_) (fun c_4 => absurd hz1 c_4)
  refine lv_aload_n hx hb dX5_candidate_33 rfl (lv_at hl 0 rfl) ?_
  refine va_get (D := (dC, dI)) (ci := 10) (v := .ref cd) (C := RX5) (T := TX5) (N := 14) hx hb hts (fun _ h9 => List.mem_cons_of_mem _ (List.mem_append_left _ (List.mem_append_right _ (h9)))) hown hK hP 0 rfl rfl 0 (by decide) (hts (.fieldLink RX5 11 "ExamHalls" "candidates" "[LExamHalls$Candidate;") (List.mem_of_getElem? (i := 2) rfl)) (fun _ h9 => h9) rfl dX5_candidate_34 ?_
  refine lv_aload_n hx hb dX5_candidate_37 rfl (lv_at hl 0 rfl) ?_
  refine va_get (D := (dC, dI)) (ci := 10) (v := .int z) (C := RX5) (T := TX5) (N := 14) hx hb hts (fun _ h9 => List.mem_cons_of_mem _ (List.mem_append_left _ (List.mem_append_right _ (h9)))) hown hK hP 0 rfl rfl 1 (by decide) (hts (.fieldLink RX5 15 "ExamHalls" "candidateCount" "I") (List.mem_of_getElem? (i := 1) rfl)) (fun _ h9 => h9) rfl dX5_candidate_38 ?_
  refine va_new (ci := 5) (fs := [.int 0, .null, .int 0, .int 0, .int 0, .int 0, .null, .null, .null, .int 0]) (C := RX0) (T := TX0) (N := 10) hx hb hts (fun _ h9 => List.mem_cons_of_mem _ (List.mem_append_right _ (h9))) tyX0 tyX0_ok hown (hts (.classLink RX5 9 RX0) (List.mem_of_getElem? (i := 3) rfl)) (hts (.instantiable RX0 10) (List.mem_of_getElem? (i := 4) rfl)) (hts (.initialized RX0) (List.mem_of_getElem? (i := 5) rfl)) hK hP hD hS hA rfl dfX0 (Nat.le_of_ble_eq_true rfl) (Nat.le_of_ble_eq_true rfl) dX5_candidate_41 (fun q_5 H hP hD hS => ?_)
  have hP : va_P (dC, dI) vwCl [(x, .inr (10, [.ref cd, .int z, .ref rd, .int 0, .ref tp, .ref fo, .int 10, .ref qu, .int 0, .int 0, .ref sh, .ref vs, .ref pa, .ref pb])), (cd, .inl (kC, 24, .inr (.inr (.inr (.inr fc))))), (q_5, .inr (5, [.int 0, .null, .int 0, .int 0, .int 0, .int 0, .null, .null, .null, .int 0]))] H := hP
  have hD : va_D A [(x, .inr (10, [.ref cd, .int z, .ref rd, .int 0, .ref tp, .ref fo, .int 10, .ref qu, .int 0, .int 0, .ref sh, .ref vs, .ref pa, .ref pb])), (cd, .inl (kC, 24, .inr (.inr (.inr (.inr fc))))), (q_5, .inr (5, [.int 0, .null, .int 0, .int 0, .int 0, .int 0, .null, .null, .null, .int 0]))] := hD
  refine W.widen (k := 1) (n := 10) (Nat.le_of_ble_eq_true rfl) (Nat.le_of_ble_eq_true rfl) ?_
  refine lv_dup hx hb dX5_candidate_44 rfl ?_
  refine lv_iload_n hx hb dX5_candidate_45 rfl (lv_at hl 1 rfl) ?_
  have hPc := hP.sub (ws' := [(q_5, .inr (5, [.int 0, .null, .int 0, .int 0, .int 0, .int 0, .null, .null, .null, .int 0]))]) [2] rfl
  have hDc := hD.sub (ws' := [(q_5, .inr (5, [.int 0, .null, .int 0, .int 0, .int 0, .int 0, .null, .null, .null, .int 0]))]) [2] (by decide) rfl
  have hKc := hK.sub (tys' := []) [] rfl
  have hFc := va_free (wc := [(q_5, .inr (5, [.int 0, .null, .int 0, .int 0, .int 0, .int 0, .null, .null, .null, .int 0]))]) hD hS hA [2] rfl
  refine va_callv (va_runIN (As := [.int 0]) (rest := [.ref q_5, .int z, .ref cd]) ⟨hx, hb, hml, hown, hts⟩ (c_R_X0 l dC dI q_5 0 H.size) ⟨va_cnB 1 hts gX5_candidate_X0_init_n72 rfl rfl rfl (Ft.nm hF (RX5, 72, yX0_init, RX5) (by decide +kernel)) (hts (.initialized RX0) (List.mem_of_getElem? (i := 5) rfl)) (by decide +kernel) ⟨Nat.le_of_ble_eq_true rfl, Nat.le_of_ble_eq_true rfl⟩, rfl, (hts (.instanceMethod yX0_init) (List.mem_of_getElem? (i := 10) rfl))⟩ ⟨PQ_blind, PQ_pre hPc hKc hDc hF⟩ rfl rfl hl.1 rfl (lv_room (Nat.le_of_ble_eq_true rfl)) dX5_candidate_46 ⟨Nat.le_of_ble_eq_true rfl, Nat.le_of_ble_eq_true rfl⟩) hS (fun q _ h => hFc q h) hFc (fun u t H1 locs ht hvm hw hB hz1 hk1 hS => ?_)
  obtain ⟨g1_7, g2_8, g3_9, kg_10, hP1, hK1, hD1⟩ := hB
  rw [ht] at hP1
  have hK1 := va_K.moved hvm.symm hK1
  obtain ⟨hP, hD⟩ := va_join (wr := [(x, .inr (10, [.ref cd, .int z, .ref rd, .int 0, .ref tp, .ref fo, .int 10, .ref qu, .int 0, .int 0, .ref sh, .ref vs, .ref pa, .ref pb])), (cd, .inl (kC, 24, .inr (.inr (.inr (.inr fc)))))]) (w1 := [(q_5, .inr (5, [.int 0, .null, .int (-1), .int (-1), .int 0, .int 0, .ref g1_7, .ref g2_8, .ref g3_9, .int 0])), (g1_7, .inl (kg_10, 8, .inl (fun _ => 0)))]) hP hD [2] [0, 1] rfl rfl (by decide) (by decide) hk1 hFc hP1 hD1
  have hK := hK.app hK1
  generalize H1 = H at hP hS ⊢
  have hP : va_P (dC, dI) vwCl [(x, .inr (10, [.ref cd, .int z, .ref rd, .int 0, .ref tp, .ref fo, .int 10, .ref qu, .int 0, .int 0, .ref sh, .ref vs, .ref pa, .ref pb])), (cd, .inl (kC, 24, .inr (.inr (.inr (.inr fc))))), (q_5, .inr (5, [.int 0, .null, .int (-1), .int (-1), .int 0, .int 0, .ref g1_7, .ref g2_8, .ref g3_9, .int 0])), (g1_7, .inl (kg_10, 8, .inl (fun _ => 0)))] H := hP
  have hD : va_D A [(x, .inr (10, [.ref cd, .int z, .ref rd, .int 0, .ref tp, .ref fo, .int 10, .ref qu, .int 0, .int 0, .ref sh, .ref vs, .ref pa, .ref pb])), (cd, .inl (kC, 24, .inr (.inr (.inr (.inr fc))))), (q_5, .inr (5, [.int 0, .null, .int (-1), .int (-1), .int 0, .int 0, .ref g1_7, .ref g2_8, .ref g3_9, .int 0])), (g1_7, .inl (kg_10, 8, .inl (fun _ => 0)))] := hD
  have hK : va_K (dC, dI) vwCl [(kC, .object "ExamHalls$Candidate"), (kg_10, .int)] s := hK
  refine W.widen (k := 4) (n := 24) (Nat.le_of_ble_eq_true rfl) (Nat.le_of_ble_eq_true rfl) ?_
  refine va_astq hx hb hK hP hD hS 1 0 2 5 (r := (RX0, TX0, 10)) rfl rfl rfl rfl hzb dX5_candidate_49 (fun H locs hP hD hS => ?_)
  have hP : va_P (dC, dI) vwCl [(x, .inr (10, [.ref cd, .int z, .ref rd, .int 0, .ref tp, .ref fo, .int 10, .ref qu, .int 0, .int 0, .ref sh, .ref vs, .ref pa, .ref pb])), (cd, .inl (kC, 24, .inr (.inr (.inr (.inr (va_up fc (z : Int32).toNatClampNeg (some q_5))))))), (q_5, .inr (5, [.int 0, .null, .int (-1), .int (-1), .int 0, .int 0, .ref g1_7, .ref g2_8, .ref g3_9, .int 0])), (g1_7, .inl (kg_10, 8, .inl (fun _ => 0)))] H := hP
  have hD : va_D A [(x, .inr (10, [.ref cd, .int z, .ref rd, .int 0, .ref tp, .ref fo, .int 10, .ref qu, .int 0, .int 0, .ref sh, .ref vs, .ref pa, .ref pb])), (cd, .inl (kC, 24, .inr (.inr (.inr (.inr (va_up fc (z : Int32).toNatClampNeg (some q_5))))))), (q_5, .inr (5, [.int 0, .null, .int (-1), .int (-1), .int 0, .int 0, .ref g1_7, .ref g2_8, .ref g3_9, .int 0])), (g1_7, .inl (kg_10, 8, .inl (fun _ => 0)))] := hD
  generalize hq_a_11 : (va_up fc (z : Int32).toNatClampNeg (some q_5)) = a_11 at hP hD
  refine lv_aload_n hx hb dX5_candidate_50 rfl (lv_at hl 0 rfl) ?_
  refine lv_dup hx hb dX5_candidate_51 rfl ?_
  refine va_get (D := (dC, dI)) (ci := 10) (v := .int z) (C := RX5) (T := TX5) (N := 14) hx hb hts (fun _ h9 => List.mem_cons_of_mem _ (List.mem_append_left _ (List.mem_append_right _ (h9)))) hown hK hP 0 rfl rfl 1 (by decide) (hts (.fieldLink RX5 15 "ExamHalls" "candidateCount" "I") (List.mem_of_getElem? (i := 1) rfl)) (fun _ h9 => h9) rfl dX5_candidate_52 ?_
  refine lv_iconst (v := 1) hx hb dX5_candidate_55 (by decide) ?_
  refine lv_iadd hx hb dX5_candidate_56 ?_
  refine va_put (D := (dC, dI)) (ci := 10) (v := .int (z + 1)) (ty := .int) (C := RX5) (T := TX5) (N := 14) hx hb hts (fun _ h9 => List.mem_cons_of_mem _ (List.mem_append_left _ (List.mem_append_right _ (h9)))) tyX5 tyX5_ok nmX5 hown hK hP hD hS 0 rfl rfl 1 (by decide) (hts (.fieldLink RX5 15 "ExamHalls" "candidateCount" "I") (List.mem_of_getElem? (i := 1) rfl)) (fun _ h9 => h9) rfl (by decide +kernel) rfl rfl (Nat.le_of_ble_eq_true rfl) dX5_candidate_57 (fun H locs hP hD hS => ?_)
  have hP : va_P (dC, dI) vwCl [(x, .inr (10, [.ref cd, .int (z + 1), .ref rd, .int 0, .ref tp, .ref fo, .int 10, .ref qu, .int 0, .int 0, .ref sh, .ref vs, .ref pa, .ref pb])), (cd, .inl (kC, 24, .inr (.inr (.inr (.inr a_11))))), (q_5, .inr (5, [.int 0, .null, .int (-1), .int (-1), .int 0, .int 0, .ref g1_7, .ref g2_8, .ref g3_9, .int 0])), (g1_7, .inl (kg_10, 8, .inl (fun _ => 0)))] H := hP
  have hD : va_D A [(x, .inr (10, [.ref cd, .int (z + 1), .ref rd, .int 0, .ref tp, .ref fo, .int 10, .ref qu, .int 0, .int 0, .ref sh, .ref vs, .ref pa, .ref pb])), (cd, .inl (kC, 24, .inr (.inr (.inr (.inr a_11))))), (q_5, .inr (5, [.int 0, .null, .int (-1), .int (-1), .int 0, .int 0, .ref g1_7, .ref g2_8, .ref g3_9, .int 0])), (g1_7, .inl (kg_10, 8, .inl (fun _ => 0)))] := hD
  refine lv_aload_n hx hb dX5_candidate_60 rfl (lv_at hl 0 rfl) ?_
  refine va_get (D := (dC, dI)) (ci := 10) (v := .int (z + 1)) (C := RX5) (T := TX5) (N := 14) hx hb hts (fun _ h9 => List.mem_cons_of_mem _ (List.mem_append_left _ (List.mem_append_right _ (h9)))) hown hK hP 0 rfl rfl 1 (by decide) (hts (.fieldLink RX5 15 "ExamHalls" "candidateCount" "I") (List.mem_of_getElem? (i := 1) rfl)) (fun _ h9 => h9) rfl dX5_candidate_61 ?_
  refine lv_iconst (v := 1) hx hb dX5_candidate_64 (by decide) ?_
  refine lv_isub hx hb dX5_candidate_65 ?_
  have hP9 := hP.sub (ws' := [(x, .inr (10, [.ref cd, .int (z + 1), .ref rd, .int 0, .ref tp, .ref fo, .int 10, .ref qu, .int 0, .int 0, .ref sh, .ref vs, .ref pa, .ref pb])), (cd, .inl (kC, 24, .inr (.inr (.inr (.inr a_11))))), (q_5, .inr (5, [.int 0, .null, .int (-1), .int (-1), .int 0, .int 0, .ref g1_7, .ref g2_8, .ref g3_9, .int 0])), (g1_7, .inl (kg_10, 8, .inl (fun _ => 0)))]) [0, 1, 2, 3] rfl
  have hD9 := hD.sub (ws' := [(x, .inr (10, [.ref cd, .int (z + 1), .ref rd, .int 0, .ref tp, .ref fo, .int 10, .ref qu, .int 0, .int 0, .ref sh, .ref vs, .ref pa, .ref pb])), (cd, .inl (kC, 24, .inr (.inr (.inr (.inr a_11))))), (q_5, .inr (5, [.int 0, .null, .int (-1), .int (-1), .int 0, .int 0, .ref g1_7, .ref g2_8, .ref g3_9, .int 0])), (g1_7, .inl (kg_10, 8, .inl (fun _ => 0)))]) [0, 1, 2, 3] (by decide) rfl
  have hK9 := hK.sub (tys' := [(kC, .object "ExamHalls$Candidate"), (kg_10, .int)]) [0, 1] rfl
  exact W.iret (v := (z + 1) - 1) hx hb hr (fun t ht hW => ⟨⟨_, (), rfl, trivial, q_5, g1_7, g2_8, g3_9, kg_10, a_11, by rw [ht]; exact hP9, va_K.moved hW.alike hK9, hD9, hq_a_11⟩, hS.F ht⟩) hS.2.2 dX5_candidate_66

set_option maxHeartbeats 4000000 in
set_option maxRecDepth 100000 in
theorem c_R_X6 (l : Launch) (dC : Nat → ClassId) (dI : Nat → Nat → Nat) (d : Nat) (tc : Nat) (ad : Nat → Nat) (y : Nat) (sz : Nat) : Met l yX6_init wsX6_init ({ frames := 4, cells := 42, slots := 171, locals := 72 }) (va_Pc [.ref y] (PZ dC dI d tc ad sz [(y, .inr (11, [.int 0, .null, .int 0, .int 0, .int 0, .null, .null]))] [])) (va_Qv (fun _ : Unit => True) (fun _ t => ∃ (g1 : Nat) (g2 : Nat) (L : va_W) (k1 : ClassId) (k2 : ClassId) (k3 : ClassId), va_P (dC, dI) vwCl ([(y, .inr (11, [.int 0, .null, .int (-1), .int (-1), .int 0, .ref g1, .ref g2]))] ++ L) t.heap ∧ va_K (dC, dI) vwCl [] t ∧ va_D (va_A [(y, .inr (11, [.int 0, .null, .int 0, .int 0, .int 0, .null, .null]))] sz) ([(y, .inr (11, [.int 0, .null, .int (-1), .int (-1), .int 0, .ref g1, .ref g2]))] ++ L) ∧ Kz k1 k2 k3 t ∧ mn_s k3 8 (mn_s k2 4 (mn_1 k1 4)) L g1) (va_A [(y, .inr (11, [.int 0, .null, .int 0, .int 0, .int 0, .null, .null]))] sz)) 42 171 (va_A [(y, .inr (11, [.int 0, .null, .int 0, .int 0, .int 0, .null, .null]))] sz) := by
  refine Met.ofW (cc := cX6_init) (maxL := 1) (ret := none) (by decide) rfl ?_
  intro p e s m args below meth c s₁ B hml hv
  obtain ⟨rfl, hsz, hP, hK, hD0, hF, hZ⟩ := hv
  have hx := B.exec
  have hb := B.bytes
  have hr := B.returns
  have hts := atoms_spec (ws := wsX6_init) B.pre
  have hown : s.vm.findClass RX6 = some m.cls := findClass_of_methodNamed B.named
  have hlocks := B.notSynchronized
  have hin : meth.name = "<init>" := (name_of_methodNamed B.named B.method).1
  subst hsz
  have hD := hD0.self (sz := s.heap.size)
  generalize hAe : va_A [(y, .inr (11, [.int 0, .null, .int 0, .int 0, .int 0, .null, .null]))] s.heap.size = A at hD hZ ⊢
  have hA : ∀ q : Nat, s.heap.size ≤ q → A q := fun q h => by rw [← hAe]; exact Or.inr h
  have hS : va_S A s.heap s.heap [] := va_S.rf
  have hl := lv_entry ([.ref y]) (n := 1) (Nat.le_of_ble_eq_true rfl)
  rw [lg_entry_eq]
  generalize (lg_sl ([.ref y]) ++ List.replicate (1 - (lg_sl ([.ref y])).length) Slot.unset).toArray = ls at hl ⊢
  have hl : lv_has ls 1 [(0, .ref y)] := hl
  refine lv_aload_n hx hb dX6_init_0 rfl (lv_at hl 0 rfl) ?_
  refine W.objInit hx hb hown (hts (.methodLink RX6 3 objectInit) (List.mem_of_getElem? (i := 1) rfl)) (hts (.instanceMethod objectInit) (List.mem_of_getElem? (i := 2) rfl)) (hts _ (List.mem_of_getElem? (i := 3) rfl)) rfl (by rw [hml]; exact hl.1) rfl dX6_init_1 (Nat.le_of_ble_eq_true rfl) (Nat.le_of_ble_eq_true rfl) ?_
  refine W.eq (g2 := F0 m 4 ls []) rfl ?_
  refine lv_aload_n hx hb dX6_init_4 rfl (lv_at hl 0 rfl) ?_
  refine lv_iconst (v := (-1)) hx hb dX6_init_5 (by decide) ?_
  refine va_put (D := (dC, dI)) (ci := 11) (v := .int (-1)) (ty := .int) (C := RX6) (T := TX6) (N := 7) hx hb hts (fun _ h9 => List.mem_cons_of_mem _ (List.mem_append_left _ (List.mem_append_left _ (List.mem_append_right _ (h9))))) tyX6 tyX6_ok nmX6 hown hK hP hD hS 0 rfl rfl 2 (by decide) (hts (.fieldLink RX6 9 "ExamHallsModel$Candidate" "number" "I") (List.mem_of_getElem? (i := 4) rfl)) (fun _ h9 => h9) rfl (by decide +kernel) rfl rfl (Nat.le_of_ble_eq_true rfl) dX6_init_6 (fun H locs hP hD hS => ?_)
  have hP : va_P (dC, dI) vwCl [(y, .inr (11, [.int 0, .null, .int (-1), .int 0, .int 0, .null, .null]))] H := hP
  have hD : va_D A [(y, .inr (11, [.int 0, .null, .int (-1), .int 0, .int 0, .null, .null]))] := hD
  refine lv_aload_n hx hb dX6_init_9 rfl (lv_at hl 0 rfl) ?_
  refine lv_iconst (v := (-1)) hx hb dX6_init_10 (by decide) ?_
  refine va_put (D := (dC, dI)) (ci := 11) (v := .int (-1)) (ty := .int) (C := RX6) (T := TX6) (N := 7) hx hb hts (fun _ h9 => List.mem_cons_of_mem _ (List.mem_append_left _ (List.mem_append_left _ (List.mem_append_right _ (h9))))) tyX6 tyX6_ok nmX6 hown hK hP hD hS 0 rfl rfl 3 (by decide) (hts (.fieldLink RX6 15 "ExamHallsModel$Candidate" "cell" "I") (List.mem_of_getElem? (i := 5) rfl)) (fun _ h9 => h9) rfl (by decide +kernel) rfl rfl (Nat.le_of_ble_eq_true rfl) dX6_init_11 (fun H locs hP hD hS => ?_)
  have hP : va_P (dC, dI) vwCl [(y, .inr (11, [.int 0, .null, .int (-1), .int (-1), .int 0, .null, .null]))] H := hP
  have hD : va_D A [(y, .inr (11, [.int 0, .null, .int (-1), .int (-1), .int 0, .null, .null]))] := hD
  refine lv_aload_n hx hb dX6_init_14 rfl (lv_at hl 0 rfl) ?_
  refine lv_bipush (v := 8) hx hb dX6_init_15 (by decide) ?_
  refine lv_iconst (v := 4) hx hb dX6_init_17 (by decide) ?_
  refine lv_iconst (v := 4) hx hb dX6_init_18 (by decide) ?_
  obtain ⟨cy, ca, ka, hcy, hka, hkk, hca⟩ := hF.2.2.2.2.2.1
  obtain ⟨cb, cd, kd, hcb, hkd, hkkd, hcd⟩ := hF.2.2.2.2.2.2.1
  obtain ⟨cy2, kyy, cz, hcy2, hky, hkky⟩ := hF.2.2.2.2.2.2.2.1
  cases hcy2.symm.trans hcy
  cases hcb.symm.trans hca
  have hz9 : Kz cy ca cd s := ⟨hcy, hca, hcd⟩
  refine mk_W3n (n1 := 8) (n2 := 4) (n3 := 4) (kc := 41) (ns := 168) (P := mn_s cd (8 : Int32).toNatClampNeg (mn_s ca (4 : Int32).toNatClampNeg (mn_1 cy (4 : Int32).toNatClampNeg))) hx hb hown (va_Nw.use rfl hF.2.2.2.2.2.2.2.2) hcd (fun f V hV => ?_) dX6_init_19 (Nat.le_of_ble_eq_true rfl) (Nat.le_of_ble_eq_true rfl) hP hD hS hA (fun q_1 L_2 H locs hP hD hS hsn => ?_)
  · obtain ⟨k1, hk1, he1⟩ := hV.2.2 _ _ hka
    obtain ⟨k2, hk2, he2⟩ := hV.2.2 _ _ hky
    obtain ⟨k3, hk3, he3⟩ := hV.2.2 _ _ hkd
    exact mkn_step (n := 8) (kc := 5) (ns := 20) (mn_s_up mn_1_up) hk3 (by rw [he3]; exact hkkd) rfl (by decide) (by decide) (by decide) (by decide) (mkn_step (n := 4) (kc := 1) (ns := 4) mn_1_up hk1 (by rw [he1]; exact hkk) rfl (by decide) (by decide) (by decide) (by decide) (mkn_one (k := 4) hk2 (by rw [he2]; exact hkky) (by decide) (by decide) rfl rfl (by decide) rfl))
  rw [show (8 : Int32).toNatClampNeg = 8 from by decide, show (4 : Int32).toNatClampNeg = 4 from by decide] at hsn
  have hP : va_P (dC, dI) vwCl ([(y, .inr (11, [.int 0, .null, .int (-1), .int (-1), .int 0, .null, .null]))] ++ L_2) H := hP
  have hD : va_D A ([(y, .inr (11, [.int 0, .null, .int (-1), .int (-1), .int 0, .null, .null]))] ++ L_2) := hD
  refine W.widen (k := 41) (n := 168) (Nat.le_of_ble_eq_true rfl) (Nat.le_of_ble_eq_true rfl) ?_
  refine va_put (D := (dC, dI)) (ci := 11) (v := .ref q_1) (ty := .array (.array (.array .boolean))) (C := RX6) (T := TX6) (N := 7) hx hb hts (fun _ h9 => List.mem_cons_of_mem _ (List.mem_append_left _ (List.mem_append_left _ (List.mem_append_right _ (h9))))) tyX6 tyX6_ok nmX6 hown hK hP hD hS 0 rfl rfl 5 (by decide) (hts (.fieldLink RX6 20 "ExamHallsModel$Candidate" "seen" "[[[Z") (List.mem_of_getElem? (i := 6) rfl)) (fun _ h9 => h9) rfl (by decide +kernel) rfl rfl (Nat.le_of_ble_eq_true rfl) dX6_init_23 (fun H locs hP hD hS => ?_)
  have hP : va_P (dC, dI) vwCl ([(y, .inr (11, [.int 0, .null, .int (-1), .int (-1), .int 0, .ref q_1, .null]))] ++ L_2) H := hP
  have hD : va_D A ([(y, .inr (11, [.int 0, .null, .int (-1), .int (-1), .int 0, .ref q_1, .null]))] ++ L_2) := hD
  refine lv_aload_n hx hb dX6_init_26 rfl (lv_at hl 0 rfl) ?_
  refine va_new (ci := 4) (fs := [.int 0, .null, .int 0]) (C := RJx4a65c) (T := TJx4a65c) (N := 3) hx hb hts (fun _ h9 => List.mem_cons_of_mem _ (List.mem_append_left _ (List.mem_append_right _ (h9)))) tyJx4a65c tyJx4a65c_ok hown (hts (.classLink RX6 23 RJx4a65c) (List.mem_of_getElem? (i := 7) rfl)) (hts (.instantiable RJx4a65c 3) (List.mem_of_getElem? (i := 8) rfl)) (hts (.initialized RJx4a65c) (List.mem_of_getElem? (i := 9) rfl)) hK hP hD hS hA rfl dfJx4a65c (Nat.le_of_ble_eq_true rfl) (Nat.le_of_ble_eq_true rfl) dX6_init_27 (fun q_3 H hP hD hS => ?_)
  replace hP := hP.swap
  replace hD := hD.swap
  have hP : va_P (dC, dI) vwCl ([(y, .inr (11, [.int 0, .null, .int (-1), .int (-1), .int 0, .ref q_1, .null])), (q_3, .inr (4, [.int 0, .null, .int 0]))] ++ L_2) H := hP
  have hD : va_D A ([(y, .inr (11, [.int 0, .null, .int (-1), .int (-1), .int 0, .ref q_1, .null])), (q_3, .inr (4, [.int 0, .null, .int 0]))] ++ L_2) := hD
  refine W.widen (k := 42) (n := 171) (Nat.le_of_ble_eq_true rfl) (Nat.le_of_ble_eq_true rfl) ?_
  refine lv_dup hx hb dX6_init_30 rfl ?_
  have hPc := hP.sub (ws' := [(q_3, .inr (4, [.int 0, .null, .int 0]))]) [1] rfl
  have hDc := hD.sub (ws' := [(q_3, .inr (4, [.int 0, .null, .int 0]))]) [1] (by decide) rfl
  have hKc := hK.sub (tys' := []) [] rfl
  have hFc := va_free (wc := [(q_3, .inr (4, [.int 0, .null, .int 0]))]) hD hS hA [1] rfl
  refine va_callv (va_runI (As := []) (rest := [.ref q_3, .ref y]) ⟨hx, hb, hml, hown, hts⟩ (c_AL_init l dC dI d tc ad q_3 H.size) (cwI 0 hts gX6_init_Jx4a65c_init_da8c8 rfl rfl rfl (hts (.initialized RJx4a65c) (List.mem_of_getElem? (i := 9) rfl)) (hts (.methodLink RX6 25 yJx4a65c_init_da8c8) (List.mem_of_getElem? (i := 11) rfl)) (hts (.instanceMethod yJx4a65c_init_da8c8) (List.mem_of_getElem? (i := 12) rfl)) rfl (by decide +kernel) ⟨Nat.le_of_ble_eq_true rfl, Nat.le_of_ble_eq_true rfl⟩) ⟨PZ_blind, PZ_pre hPc hKc hDc hF hZ hS hFc⟩ rfl rfl hl.1 rfl (lv_room (Nat.le_of_ble_eq_true rfl)) dX6_init_31 ⟨Nat.le_of_ble_eq_true rfl, Nat.le_of_ble_eq_true rfl⟩) hS (fun q _ h => hFc q h) hFc (fun u t H1 locs ht hvm hw hB hz1 hk1 hS => ?_)
  obtain ⟨hP1, hK1, hD1⟩ := hB
  rw [ht] at hP1
  have hK1 := va_K.moved hvm.symm hK1
  obtain ⟨hP, hD⟩ := va_joinQ (pl := L_2) (wr := [(y, .inr (11, [.int 0, .null, .int (-1), .int (-1), .int 0, .ref q_1, .null]))]) (w1 := [(q_3, .inr (4, [.int 0, .ref d, .int 0]))]) hP hD [1] [0] rfl rfl (by decide) (by decide) hk1 hFc hP1 hD1
  have hK := hK.app hK1
  generalize H1 = H at hP hS ⊢
  have hP : va_P (dC, dI) vwCl ([(y, .inr (11, [.int 0, .null, .int (-1), .int (-1), .int 0, .ref q_1, .null])), (q_3, .inr (4, [.int 0, .ref d, .int 0]))] ++ L_2) H := hP
  have hD : va_D A ([(y, .inr (11, [.int 0, .null, .int (-1), .int (-1), .int 0, .ref q_1, .null])), (q_3, .inr (4, [.int 0, .ref d, .int 0]))] ++ L_2) := hD
  have hK : va_K (dC, dI) vwCl [] s := hK
  refine W.widen (k := 42) (n := 171) (Nat.le_of_ble_eq_true rfl) (Nat.le_of_ble_eq_true rfl) ?_
  refine va_put (D := (dC, dI)) (ci := 11) (v := .ref q_3) (ty := .object "java/util/List") (C := RX6) (T := TX6) (N := 7) hx hb hts (fun _ h9 => List.mem_cons_of_mem _ (List.mem_append_left _ (List.mem_append_left _ (List.mem_append_right _ (h9))))) tyX6 tyX6_ok nmX6 hown hK hP hD hS 0 rfl rfl 6 (by decide) (hts (.fieldLink RX6 26 "ExamHallsModel$Candidate" "readings" "Ljava/util/List;") (List.mem_of_getElem? (i := 10) rfl)) (fun _ h9 => h9) rfl (by decide +kernel) rfl rfl (Nat.le_of_ble_eq_true rfl) dX6_init_34 (fun H locs hP hD hS => ?_)
  have hP : va_P (dC, dI) vwCl ([(y, .inr (11, [.int 0, .null, .int (-1), .int (-1), .int 0, .ref q_1, .ref q_3])), (q_3, .inr (4, [.int 0, .ref d, .int 0]))] ++ L_2) H := hP
  have hD : va_D A ([(y, .inr (11, [.int 0, .null, .int (-1), .int (-1), .int 0, .ref q_1, .ref q_3])), (q_3, .inr (4, [.int 0, .ref d, .int 0]))] ++ L_2) := hD
  have hP9 := va_P.part (X := [(y, .inr (11, [.int 0, .null, .int (-1), .int (-1), .int 0, .ref q_1, .ref q_3])), (q_3, .inr (4, [.int 0, .ref d, .int 0]))]) (cx := [(y, .inr (11, [.int 0, .null, .int (-1), .int (-1), .int 0, .ref q_1, .ref q_3]))]) (pl := L_2) hP [0] rfl
  have hD9 := va_D.part (X := [(y, .inr (11, [.int 0, .null, .int (-1), .int (-1), .int 0, .ref q_1, .ref q_3])), (q_3, .inr (4, [.int 0, .ref d, .int 0]))]) (cx := [(y, .inr (11, [.int 0, .null, .int (-1), .int (-1), .int 0, .ref q_1, .ref q_3]))]) (pl := L_2) hD [0] (by decide) rfl
  have hK9 := hK.sub (tys' := []) [] rfl
  exact W.vret hx hb hr (fun t ht hW => ⟨⟨(), rfl, trivial, q_1, q_3, L_2, cy, ca, cd, by rw [ht]; exact hP9, va_K.moved hW.alike hK9, hD9, hz9.moved hW.alike, hsn⟩, hS.F ht⟩) hS.2.2 dX6_init_37

set_option maxHeartbeats 4000000 in
set_option maxRecDepth 100000 in
theorem c_R_add3f (l : Launch) (dC : Nat → ClassId) (dI : Nat → Nat → Nat) (d : Nat) (tc : Nat) (ad : Nat → Nat) (li : Nat) (q1 : Int32) (v : Nat) (sz : Nat) (hvn : v ≠ li) (hvl : v < sz) : Met l yJx4a65c_add_72be8 wsJx4a65c_add_72be8 ({ frames := 3, cells := 1, slots := 10, locals := 57 }) (va_Pc [.ref li, .ref v, .ref d, .int 0] (PE dC dI d tc ad sz [(li, .inr (4, [.int q1, .ref d, .int 0]))] [] v)) (va_Qv (fun _ : Unit => True) (fun _ t => ∃ (g1 : Nat) (kO : ClassId) (fa : Nat → Option Nat), va_P (dC, dI) vwCl [(li, .inr (4, [.int q1, .ref g1, .int 1])), (g1, .inl (kO, 10, .inr (.inr (.inr (.inr fa)))))] t.heap ∧ va_K (dC, dI) vwCl [(kO, .object "java/lang/Object")] t ∧ va_D (va_A [(li, .inr (4, [.int q1, .ref d, .int 0]))] sz) [(li, .inr (4, [.int q1, .ref g1, .int 1])), (g1, .inl (kO, 10, .inr (.inr (.inr (.inr fa)))))] ∧ va_up (fun _ => none) (0 : Int32).toNatClampNeg (some v) = fa) (va_A [(li, .inr (4, [.int q1, .ref d, .int 0]))] sz)) 1 10 (va_A [(li, .inr (4, [.int q1, .ref d, .int 0]))] sz) := by
  refine Met.ofW (cc := cJx4a65c_add_72be8) (maxL := 4) (ret := none) (by decide) rfl ?_
  intro p e s m args below meth c s₁ B hml hv
  obtain ⟨rfl, hsz, hP, hK, hD0, hF, hZ, hE⟩ := hv
  have hx := B.exec
  have hb := B.bytes
  have hr := B.returns
  have hts := atoms_spec (ws := wsJx4a65c_add_72be8) B.pre
  have hown : s.vm.findClass RJx4a65c = some m.cls := findClass_of_methodNamed B.named
  have hlocks := B.notSynchronized
  subst hsz
  have hD := hD0.self (sz := s.heap.size)
  have hvA := nA1 (e := .inr (4, [.int q1, .ref d, .int 0])) hvn hvl
  generalize hAe : va_A [(li, .inr (4, [.int q1, .ref d, .int 0]))] s.heap.size = A at hD hZ hvA ⊢
  have hA : ∀ q : Nat, s.heap.size ≤ q → A q := fun q h => by rw [← hAe]; exact Or.inr h
  have hS : va_S A s.heap s.heap [] := va_S.rf
  have hl := lv_entry ([.ref li, .ref v, .ref d, .int 0]) (n := 4) (Nat.le_of_ble_eq_true rfl)
  rw [lg_entry_eq]
  generalize (lg_sl ([.ref li, .ref v, .ref d, .int 0]) ++ List.replicate (4 - (lg_sl ([.ref li, .ref v, .ref d, .int 0])).length) Slot.unset).toArray = ls at hl ⊢
  have hl : lv_has ls 4 [(0, .ref li), (1, .ref v), (2, .ref d), (3, .int 0)] := hl
  refine lv_iload_n hx hb dJx4a65c_add_72be8_0 rfl (lv_at hl 3 rfl) ?_
  refine lv_aload_n hx hb dJx4a65c_add_72be8_1 rfl (lv_at hl 2 rfl) ?_
  refine va_tlen hx hb hZ.2.1 hS (v := 0) rfl dJx4a65c_add_72be8_2 ?_
  refine lv_icmp_ne (tgt := 11) hx hb dJx4a65c_add_72be8_3 (by decide) (fun c_1 => absurd (by decide) c_1) (fun _ => ?_)
  refine lv_aload_n hx hb dJx4a65c_add_72be8_6 rfl (lv_at hl 0 rfl) ?_
  have hPc := hP.sub (ws' := [(li, .inr (4, [.int q1, .ref d, .int 0]))]) [0] rfl
  have hDc := hD.sub (ws' := [(li, .inr (4, [.int q1, .ref d, .int 0]))]) [0] (by decide) rfl
  have hKc := hK.sub (tys' := []) [] rfl
  have hFc := va_free (wc := [(li, .inr (4, [.int q1, .ref d, .int 0]))]) hD hS hA [0] rfl
  refine va_callr (va_runV (As := []) (rest := []) ⟨hx, hb, hml, hown, hts⟩ (c_AL_grow0 l dC dI d tc ad li q1 s.heap.size) (cwV 0 hts gJx4a65c_add_72be8_Jx4a65c_grow_d5877 rfl rfl rfl (by decide +kernel) ⟨Nat.le_of_ble_eq_true rfl, Nat.le_of_ble_eq_true rfl⟩) ⟨PZ_blind, va_recv hK hP (ci := 4) (q0 := 0) rfl rfl, PZ_pre hPc hKc hDc hF hZ hS hFc⟩ rfl rfl hl.1 rfl (lv_room (Nat.le_of_ble_eq_true rfl)) dJx4a65c_add_72be8_7 ⟨Nat.le_of_ble_eq_true rfl, Nat.le_of_ble_eq_true rfl⟩) hS (fun q _ h => hFc q h) hFc (fun u r_2 t H1 locs ht hvm hw hB hz1 hk1 hS => ?_)
  obtain ⟨kO_3, hP1, hK1, hD1⟩ := hB
  rw [ht] at hP1
  have hK1 := va_K.moved hvm.symm hK1
  obtain ⟨hP, hD⟩ := va_join (wr := []) (w1 := [(li, .inr (4, [.int q1, .ref r_2, .int 0])), (r_2, .inl (kO_3, 10, .inr (.inr (.inr (.inr (fun _ => none))))))]) hP hD [0] [] rfl rfl (by decide) (by decide) hk1 hFc hP1 hD1
  have hK := hK.app hK1
  generalize H1 = H at hP hS ⊢
  have hP : va_P (dC, dI) vwCl [(li, .inr (4, [.int q1, .ref r_2, .int 0])), (r_2, .inl (kO_3, 10, .inr (.inr (.inr (.inr (fun _ => none))))))] H := hP
  have hD : va_D A [(li, .inr (4, [.int q1, .ref r_2, .int 0])), (r_2, .inl (kO_3, 10, .inr (.inr (.inr (.inr (fun _ => none))))))] := hD
  have hK : va_K (dC, dI) vwCl [(kO_3, .object "java/lang/Object")] s := hK
  refine W.widen (k := 1) (n := 10) (Nat.le_of_ble_eq_true rfl) (Nat.le_of_ble_eq_true rfl) ?_
  refine lv_astore_n (lv' := [(2, .ref r_2), (0, .ref li), (1, .ref v), (3, .int 0)]) hx hb dJx4a65c_add_72be8_10 rfl hl (by decide) rfl (fun ls hl => ?_)
  refine lv_aload_n hx hb dJx4a65c_add_72be8_11 rfl (lv_at hl 0 rfl) ?_
  refine lv_iload_n hx hb dJx4a65c_add_72be8_12 rfl (lv_at hl 3 rfl) ?_
  refine lv_aload_n hx hb dJx4a65c_add_72be8_13 rfl (lv_at hl 2 rfl) ?_
  refine va_astqM hx hb hK hP hD hS 1 0 rfl rfl (any_kept hE (hS.2.1 v hvl hvA)) (by unfold vp_in; decide) dJx4a65c_add_72be8_14 (fun H locs hP hD hS => ?_)
  have hP : va_P (dC, dI) vwCl [(li, .inr (4, [.int q1, .ref r_2, .int 0])), (r_2, .inl (kO_3, 10, .inr (.inr (.inr (.inr (va_up (fun _ => none) (0 : Int32).toNatClampNeg (some v)))))))] H := hP
  have hD : va_D A [(li, .inr (4, [.int q1, .ref r_2, .int 0])), (r_2, .inl (kO_3, 10, .inr (.inr (.inr (.inr (va_up (fun _ => none) (0 : Int32).toNatClampNeg (some v)))))))] := hD
  generalize hq_a_4 : (va_up (fun _ => none) (0 : Int32).toNatClampNeg (some v)) = a_4 at hP hD
  refine lv_aload_n hx hb dJx4a65c_add_72be8_15 rfl (lv_at hl 1 rfl) ?_
  refine lv_iload_n hx hb dJx4a65c_add_72be8_16 rfl (lv_at hl 3 rfl) ?_
  refine lv_iconst (v := 1) hx hb dJx4a65c_add_72be8_17 (by decide) ?_
  refine lv_iadd hx hb dJx4a65c_add_72be8_18 ?_
  refine lv_topi (fun f_5 ef_5 => ?_)
  obtain rfl : f_5 = 1 := ef_5.trans (by decide)
  refine va_put (D := (dC, dI)) (ci := 4) (v := .int 1) (ty := .int) (C := RJx4a65c) (T := TJx4a65c) (N := 3) hx hb hts (fun _ h9 => List.mem_cons_of_mem _ (List.mem_append_right _ (h9))) tyJx4a65c tyJx4a65c_ok nmJx4a65c hown hK hP hD hS 0 rfl rfl 2 (by decide) (hts (.fieldLink RJx4a65c 48 "java/util/ArrayList" "size" "I") (List.mem_of_getElem? (i := 1) rfl)) (fun _ h9 => h9) rfl (by decide +kernel) rfl rfl (Nat.le_of_ble_eq_true rfl) dJx4a65c_add_72be8_19 (fun H locs hP hD hS => ?_)
  have hP : va_P (dC, dI) vwCl [(li, .inr (4, [.int q1, .ref r_2, .int 1])), (r_2, .inl (kO_3, 10, .inr (.inr (.inr (.inr a_4)))))] H := hP
  have hD : va_D A [(li, .inr (4, [.int q1, .ref r_2, .int 1])), (r_2, .inl (kO_3, 10, .inr (.inr (.inr (.inr a_4)))))] := hD
  have hP9 := hP.sub (ws' := [(li, .inr (4, [.int q1, .ref r_2, .int 1])), (r_2, .inl (kO_3, 10, .inr (.inr (.inr (.inr a_4)))))]) [0, 1] rfl
  have hD9 := hD.sub (ws' := [(li, .inr (4, [.int q1, .ref r_2, .int 1])), (r_2, .inl (kO_3, 10, .inr (.inr (.inr (.inr a_4)))))]) [0, 1] (by decide) rfl
  have hK9 := hK.sub (tys' := [(kO_3, .object "java/lang/Object")]) [0] rfl
  exact W.vret hx hb hr (fun t ht hW => ⟨⟨(), rfl, trivial, r_2, kO_3, a_4, by rw [ht]; exact hP9, va_K.moved hW.alike hK9, hD9, (by first | exact hq_a_4 | rfl)⟩, hS.F ht⟩) hS.2.2 dJx4a65c_add_72be8_22

set_option maxHeartbeats 4000000 in
set_option maxRecDepth 100000 in
theorem c_R_addf (l : Launch) (dC : Nat → ClassId) (dI : Nat → Nat → Nat) (d : Nat) (tc : Nat) (ad : Nat → Nat) (li : Nat) (q1 : Int32) (v : Nat) (sz : Nat) (hvn : v ≠ li) (hvl : v < sz) : Met l yJx4a65c_add_9ea2d wsJx4a65c_add_9ea2d ({ frames := 4, cells := 1, slots := 10, locals := 80 }) (va_Pc [.ref li, .ref v] (PE dC dI d tc ad sz [(li, .inr (4, [.int q1, .ref d, .int 0]))] [] v)) (va_Qi (fun r (_ : Unit) => r = 1) (fun _ t => ∃ (hm : Int32) (g1 : Nat) (kO : ClassId) (fa : Nat → Option Nat), va_P (dC, dI) vwCl [(li, .inr (4, [.int hm, .ref g1, .int 1])), (g1, .inl (kO, 10, .inr (.inr (.inr (.inr fa)))))] t.heap ∧ va_K (dC, dI) vwCl [(kO, .object "java/lang/Object")] t ∧ va_D (va_A [(li, .inr (4, [.int q1, .ref d, .int 0]))] sz) [(li, .inr (4, [.int hm, .ref g1, .int 1])), (g1, .inl (kO, 10, .inr (.inr (.inr (.inr fa)))))] ∧ va_up (fun _ => none) (0 : Int32).toNatClampNeg (some v) = fa) (va_A [(li, .inr (4, [.int q1, .ref d, .int 0]))] sz)) 1 10 (va_A [(li, .inr (4, [.int q1, .ref d, .int 0]))] sz) := by
  refine Met.ofW (cc := cJx4a65c_add_9ea2d) (maxL := 2) (ret := (some .boolean)) (by decide) rfl ?_
  intro p e s m args below meth c s₁ B hml hv
  obtain ⟨rfl, hsz, hP, hK, hD0, hF, hZ, hE⟩ := hv
  have hx := B.exec
  have hb := B.bytes
  have hr := B.returns
  have hts := atoms_spec (ws := wsJx4a65c_add_9ea2d) B.pre
  have hown : s.vm.findClass RJx4a65c = some m.cls := findClass_of_methodNamed B.named
  have hlocks := B.notSynchronized
  subst hsz
  have hD := hD0.self (sz := s.heap.size)
  have hvA := nA1 (e := .inr (4, [.int q1, .ref d, .int 0])) hvn hvl
  generalize hAe : va_A [(li, .inr (4, [.int q1, .ref d, .int 0]))] s.heap.size = A at hD hZ hvA ⊢
  have hA : ∀ q : Nat, s.heap.size ≤ q → A q := fun q h => by rw [← hAe]; exact Or.inr h
  have hS : va_S A s.heap s.heap [] := va_S.rf
  have hl := lv_entry ([.ref li, .ref v]) (n := 2) (Nat.le_of_ble_eq_true rfl)
  rw [lg_entry_eq]
  generalize (lg_sl ([.ref li, .ref v]) ++ List.replicate (2 - (lg_sl ([.ref li, .ref v])).length) Slot.unset).toArray = ls at hl ⊢
  have hl : lv_has ls 2 [(0, .ref li), (1, .ref v)] := hl
  refine lv_aload_n hx hb dJx4a65c_add_9ea2d_0 rfl (lv_at hl 0 rfl) ?_
  refine lv_dup hx hb dJx4a65c_add_9ea2d_1 rfl ?_
  refine va_get (D := (dC, dI)) (ci := 4) (v := .int q1) (C := RJx4a65c) (T := TJx4a65c) (N := 3) hx hb hts (fun _ h9 => List.mem_cons_of_mem _ (List.mem_append_right _ (h9))) hown hK hP 0 rfl rfl 0 (by decide) (hts (.fieldLink RJx4a65c 63 "java/util/ArrayList" "modCount" "I") (List.mem_of_getElem? (i := 1) rfl)) (u_same (hts (.sameField "java/util/ArrayList" "java/util/AbstractList" "modCount" "I") (List.mem_of_getElem? (i := 2) rfl))) rfl dJx4a65c_add_9ea2d_2 ?_
  refine lv_iconst (v := 1) hx hb dJx4a65c_add_9ea2d_5 (by decide) ?_
  refine lv_iadd hx hb dJx4a65c_add_9ea2d_6 ?_
  refine va_put (D := (dC, dI)) (ci := 4) (v := .int (q1 + 1)) (ty := .int) (C := RJx4a65c) (T := TJx4a65c) (N := 3) hx hb hts (fun _ h9 => List.mem_cons_of_mem _ (List.mem_append_right _ (h9))) tyJx4a65c tyJx4a65c_ok nmJx4a65c hown hK hP hD hS 0 rfl rfl 0 (by decide) (hts (.fieldLink RJx4a65c 63 "java/util/ArrayList" "modCount" "I") (List.mem_of_getElem? (i := 1) rfl)) (u_same (hts (.sameField "java/util/ArrayList" "java/util/AbstractList" "modCount" "I") (List.mem_of_getElem? (i := 2) rfl))) rfl (by decide +kernel) rfl rfl (Nat.le_of_ble_eq_true rfl) dJx4a65c_add_9ea2d_7 (fun H locs hP hD hS => ?_)
  have hP : va_P (dC, dI) vwCl [(li, .inr (4, [.int (q1 + 1), .ref d, .int 0]))] H := hP
  have hD : va_D A [(li, .inr (4, [.int (q1 + 1), .ref d, .int 0]))] := hD
  refine lv_aload_n hx hb dJx4a65c_add_9ea2d_10 rfl (lv_at hl 0 rfl) ?_
  refine lv_aload_n hx hb dJx4a65c_add_9ea2d_11 rfl (lv_at hl 1 rfl) ?_
  refine lv_aload_n hx hb dJx4a65c_add_9ea2d_12 rfl (lv_at hl 0 rfl) ?_
  refine va_get (D := (dC, dI)) (ci := 4) (v := .ref d) (C := RJx4a65c) (T := TJx4a65c) (N := 3) hx hb hts (fun _ h9 => List.mem_cons_of_mem _ (List.mem_append_right _ (h9))) hown hK hP 0 rfl rfl 1 (by decide) (hts (.fieldLink RJx4a65c 9 "java/util/ArrayList" "elementData" "[Ljava/lang/Object;") (List.mem_of_getElem? (i := 3) rfl)) (fun _ h9 => h9) rfl dJx4a65c_add_9ea2d_13 ?_
  refine lv_aload_n hx hb dJx4a65c_add_9ea2d_16 rfl (lv_at hl 0 rfl) ?_
  refine va_get (D := (dC, dI)) (ci := 4) (v := .int 0) (C := RJx4a65c) (T := TJx4a65c) (N := 3) hx hb hts (fun _ h9 => List.mem_cons_of_mem _ (List.mem_append_right _ (h9))) hown hK hP 0 rfl rfl 2 (by decide) (hts (.fieldLink RJx4a65c 48 "java/util/ArrayList" "size" "I") (List.mem_of_getElem? (i := 4) rfl)) (fun _ h9 => h9) rfl dJx4a65c_add_9ea2d_17 ?_
  have hPc := hP.sub (ws' := [(li, .inr (4, [.int (q1 + 1), .ref d, .int 0]))]) [0] rfl
  have hDc := hD.sub (ws' := [(li, .inr (4, [.int (q1 + 1), .ref d, .int 0]))]) [0] (by decide) rfl
  have hKc := hK.sub (tys' := []) [] rfl
  have hFc := va_free (wc := [(li, .inr (4, [.int (q1 + 1), .ref d, .int 0]))]) hD hS hA [0] rfl
  refine va_callv (va_runV (As := [.ref v, .ref d, .int 0]) (rest := []) ⟨hx, hb, hml, hown, hts⟩ (c_R_add3f l dC dI d tc ad li (q1 + 1) v H.size hvn (Nat.lt_of_lt_of_le hvl hS.1)) (cwV 3 hts gJx4a65c_add_9ea2d_Jx4a65c_add_72be8 rfl rfl rfl (by decide +kernel) ⟨Nat.le_of_ble_eq_true rfl, Nat.le_of_ble_eq_true rfl⟩) ⟨PE_blind, va_recv hK hP (ci := 4) (q0 := 0) rfl rfl, PE_pre hPc hKc hDc hF hZ hS hFc (any_kept hE (hS.2.1 v hvl hvA))⟩ rfl rfl hl.1 rfl (lv_room (Nat.le_of_ble_eq_true rfl)) dJx4a65c_add_9ea2d_20 ⟨Nat.le_of_ble_eq_true rfl, Nat.le_of_ble_eq_true rfl⟩) hS (fun q _ h => hFc q h) hFc (fun u t H1 locs ht hvm hw hB hz1 hk1 hS => ?_)
  obtain ⟨g1_2, kO_3, fa_4, hP1, hK1, hD1, hx_5⟩ := hB
  rw [ht] at hP1
  have hK1 := va_K.moved hvm.symm hK1
  obtain ⟨hP, hD⟩ := va_join (wr := []) (w1 := [(li, .inr (4, [.int (q1 + 1), .ref g1_2, .int 1])), (g1_2, .inl (kO_3, 10, .inr (.inr (.inr (.inr fa_4)))))]) hP hD [0] [] rfl rfl (by decide) (by decide) hk1 hFc hP1 hD1
  have hK := hK.app hK1
  generalize H1 = H at hP hS ⊢
  have hP : va_P (dC, dI) vwCl [(li, .inr (4, [.int (q1 + 1), .ref g1_2, .int 1])), (g1_2, .inl (kO_3, 10, .inr (.inr (.inr (.inr fa_4)))))] H := hP
  have hD : va_D A [(li, .inr (4, [.int (q1 + 1), .ref g1_2, .int 1])), (g1_2, .inl (kO_3, 10, .inr (.inr (.inr (.inr fa_4)))))] := hD
  have hK : va_K (dC, dI) vwCl [(kO_3, .object "java/lang/Object")] s := hK
  refine W.widen (k := 1) (n := 10) (Nat.le_of_ble_eq_true rfl) (Nat.le_of_ble_eq_true rfl) ?_
  refine lv_iconst (v := 1) hx hb dJx4a65c_add_9ea2d_23 (by decide) ?_
  have hP9 := hP.sub (ws' := [(li, .inr (4, [.int (q1 + 1), .ref g1_2, .int 1])), (g1_2, .inl (kO_3, 10, .inr (.inr (.inr (.inr fa_4)))))]) [0, 1] rfl
  have hD9 := hD.sub (ws' := [(li, .inr (4, [.int (q1 + 1), .ref g1_2, .int 1])), (g1_2, .inl (kO_3, 10, .inr (.inr (.inr (.inr fa_4)))))]) [0, 1] (by decide) rfl
  have hK9 := hK.sub (tys' := [(kO_3, .object "java/lang/Object")]) [0] rfl
  exact W.zret (v := 1) hx hb hr (by decide) (fun t ht hW => ⟨⟨_, (), rfl, rfl, (q1 + 1), g1_2, kO_3, fa_4, by rw [ht]; exact hP9, va_K.moved hW.alike hK9, hD9, hx_5⟩, hS.F ht⟩) hS.2.2 dJx4a65c_add_9ea2d_24

set_option maxHeartbeats 4000000 in
set_option maxRecDepth 100000 in
theorem c_R_add3n (l : Launch) (dC : Nat → ClassId) (dI : Nat → Nat → Nat) (d : Nat) (tc : Nat) (ad : Nat → Nat) (li : Nat) (q1 : Int32) (v : Nat) (g1 : Nat) (z : Int32) (kO : ClassId) (fa : Nat → Option Nat) (sz : Nat) (hvn : v ≠ li) (hvl : v < sz) (hvg : v ≠ g1) (hz1 : vp_in z 10) (hz2 : ¬ z = 10) : Met l yJx4a65c_add_72be8 wsJx4a65c_add_72be8 ({ frames := 0, cells := 0, slots := 0, locals := 0 }) (va_Pc [.ref li, .ref v, .ref g1, .int z] (PE dC dI d tc ad sz [(li, .inr (4, [.int q1, .ref g1, .int z])), (g1, .inl (kO, 10, .inr (.inr (.inr (.inr fa)))))] [(kO, .object "java/lang/Object")] v)) (va_Qv (fun _ : Unit => True) (fun _ t => ∃ (fb : Nat → Option Nat), va_P (dC, dI) vwCl [(li, .inr (4, [.int q1, .ref g1, .int (z + 1)])), (g1, .inl (kO, 10, .inr (.inr (.inr (.inr fb)))))] t.heap ∧ va_K (dC, dI) vwCl [(kO, .object "java/lang/Object")] t ∧ va_D (va_A [(li, .inr (4, [.int q1, .ref g1, .int z])), (g1, .inl (kO, 10, .inr (.inr (.inr (.inr fa)))))] sz) [(li, .inr (4, [.int q1, .ref g1, .int (z + 1)])), (g1, .inl (kO, 10, .inr (.inr (.inr (.inr fb)))))] ∧ va_up fa (z : Int32).toNatClampNeg (some v) = fb) (va_A [(li, .inr (4, [.int q1, .ref g1, .int z])), (g1, .inl (kO, 10, .inr (.inr (.inr (.inr fa)))))] sz)) 0 0 (va_A [(li, .inr (4, [.int q1, .ref g1, .int z])), (g1, .inl (kO, 10, .inr (.inr (.inr (.inr fa)))))] sz) := by
  refine Met.ofW (cc := cJx4a65c_add_72be8) (maxL := 4) (ret := none) (by decide) rfl ?_
  intro p e s m args below meth c s₁ B hml hv
  obtain ⟨rfl, hsz, hP, hK, hD0, hF, hZ, hE⟩ := hv
  have hx := B.exec
  have hb := B.bytes
  have hr := B.returns
  have hts := atoms_spec (ws := wsJx4a65c_add_72be8) B.pre
  have hown : s.vm.findClass RJx4a65c = some m.cls := findClass_of_methodNamed B.named
  have hlocks := B.notSynchronized
  subst hsz
  have hD := hD0.self (sz := s.heap.size)
  have hvA := nA2 (e := .inr (4, [.int q1, .ref g1, .int z])) (f := .inl (kO, 10, .inr (.inr (.inr (.inr fa))))) hvn hvg hvl
  generalize hAe : va_A [(li, .inr (4, [.int q1, .ref g1, .int z])), (g1, .inl (kO, 10, .inr (.inr (.inr (.inr fa)))))] s.heap.size = A at hD hZ hvA ⊢
  have hA : ∀ q : Nat, s.heap.size ≤ q → A q := fun q h => by rw [← hAe]; exact Or.inr h
  have hS : va_S A s.heap s.heap [] := va_S.rf
  have hl := lv_entry ([.ref li, .ref v, .ref g1, .int z]) (n := 4) (Nat.le_of_ble_eq_true rfl)
  rw [lg_entry_eq]
  generalize (lg_sl ([.ref li, .ref v, .ref g1, .int z]) ++ List.replicate (4 - (lg_sl ([.ref li, .ref v, .ref g1, .int z])).length) Slot.unset).toArray = ls at hl ⊢
  have hl : lv_has ls 4 [(0, .ref li), (1, .ref v), (2, .ref g1), (3, .int z)] := hl
  refine lv_iload_n hx hb dJx4a65c_add_72be8_0 rfl (lv_at hl 3 rfl) ?_
  refine lv_aload_n hx hb dJx4a65c_add_72be8_1 rfl (lv_at hl 2 rfl) ?_
  refine va_alen hx hb hK hP 1 0 rfl rfl (v := 10) rfl dJx4a65c_add_72be8_2 ?_
  refine lv_icmp_ne (tgt := 11) hx hb dJx4a65c_add_72be8_3 (by decide) (fun _ => ?_) (fun c_1 => absurd c_1 hz2)
  refine lv_aload_n hx hb dJx4a65c_add_72be8_11 rfl (lv_at hl 2 rfl) ?_
  refine lv_iload_n hx hb dJx4a65c_add_72be8_12 rfl (lv_at hl 3 rfl) ?_
  refine lv_aload_n hx hb dJx4a65c_add_72be8_13 rfl (lv_at hl 1 rfl) ?_
  refine va_astqM hx hb hK hP hD hS 1 0 rfl rfl (any_kept hE (hS.2.1 v hvl hvA)) hz1 dJx4a65c_add_72be8_14 (fun H locs hP hD hS => ?_)
  have hP : va_P (dC, dI) vwCl [(li, .inr (4, [.int q1, .ref g1, .int z])), (g1, .inl (kO, 10, .inr (.inr (.inr (.inr (va_up fa (z : Int32).toNatClampNeg (some v)))))))] H := hP
  have hD : va_D A [(li, .inr (4, [.int q1, .ref g1, .int z])), (g1, .inl (kO, 10, .inr (.inr (.inr (.inr (va_up fa (z : Int32).toNatClampNeg (some v)))))))] := hD
  generalize hq_a_2 : (va_up fa (z : Int32).toNatClampNeg (some v)) = a_2 at hP hD
  refine lv_aload_n hx hb dJx4a65c_add_72be8_15 rfl (lv_at hl 0 rfl) ?_
  refine lv_iload_n hx hb dJx4a65c_add_72be8_16 rfl (lv_at hl 3 rfl) ?_
  refine lv_iconst (v := 1) hx hb dJx4a65c_add_72be8_17 (by decide) ?_
  refine lv_iadd hx hb dJx4a65c_add_72be8_18 ?_
  refine va_put (D := (dC, dI)) (ci := 4) (v := .int (z + 1)) (ty := .int) (C := RJx4a65c) (T := TJx4a65c) (N := 3) hx hb hts (fun _ h9 => List.mem_cons_of_mem _ (List.mem_append_right _ (h9))) tyJx4a65c tyJx4a65c_ok nmJx4a65c hown hK hP hD hS 0 rfl rfl 2 (by decide) (hts (.fieldLink RJx4a65c 48 "java/util/ArrayList" "size" "I") (List.mem_of_getElem? (i := 1) rfl)) (fun _ h9 => h9) rfl (by decide +kernel) rfl rfl (Nat.le_of_ble_eq_true rfl) dJx4a65c_add_72be8_19 (fun H locs hP hD hS => ?_)
  have hP : va_P (dC, dI) vwCl [(li, .inr (4, [.int q1, .ref g1, .int (z + 1)])), (g1, .inl (kO, 10, .inr (.inr (.inr (.inr a_2)))))] H := hP
  have hD : va_D A [(li, .inr (4, [.int q1, .ref g1, .int (z + 1)])), (g1, .inl (kO, 10, .inr (.inr (.inr (.inr a_2)))))] := hD
  have hP9 := hP.sub (ws' := [(li, .inr (4, [.int q1, .ref g1, .int (z + 1)])), (g1, .inl (kO, 10, .inr (.inr (.inr (.inr a_2)))))]) [0, 1] rfl
  have hD9 := hD.sub (ws' := [(li, .inr (4, [.int q1, .ref g1, .int (z + 1)])), (g1, .inl (kO, 10, .inr (.inr (.inr (.inr a_2)))))]) [0, 1] (by decide) rfl
  have hK9 := hK.sub (tys' := [(kO, .object "java/lang/Object")]) [0] rfl
  exact W.vret hx hb hr (fun t ht hW => ⟨⟨(), rfl, trivial, a_2, by rw [ht]; exact hP9, va_K.moved hW.alike hK9, hD9, (by first | exact hq_a_2 | rfl)⟩, hS.F ht⟩) hS.2.2 dJx4a65c_add_72be8_22

set_option maxHeartbeats 4000000 in
set_option maxRecDepth 100000 in
theorem c_R_addn (l : Launch) (dC : Nat → ClassId) (dI : Nat → Nat → Nat) (d : Nat) (tc : Nat) (ad : Nat → Nat) (li : Nat) (q1 : Int32) (v : Nat) (g1 : Nat) (z : Int32) (kO : ClassId) (fa : Nat → Option Nat) (sz : Nat) (hvn : v ≠ li) (hvl : v < sz) (hvg : v ≠ g1) (hz1 : vp_in z 10) (hz2 : ¬ z = 10) : Met l yJx4a65c_add_9ea2d wsJx4a65c_add_9ea2d ({ frames := 1, cells := 0, slots := 0, locals := 23 }) (va_Pc [.ref li, .ref v] (PE dC dI d tc ad sz [(li, .inr (4, [.int q1, .ref g1, .int z])), (g1, .inl (kO, 10, .inr (.inr (.inr (.inr fa)))))] [(kO, .object "java/lang/Object")] v)) (va_Qi (fun r (_ : Unit) => r = 1) (fun _ t => ∃ (hm : Int32) (fb : Nat → Option Nat), va_P (dC, dI) vwCl [(li, .inr (4, [.int hm, .ref g1, .int (z + 1)])), (g1, .inl (kO, 10, .inr (.inr (.inr (.inr fb)))))] t.heap ∧ va_K (dC, dI) vwCl [(kO, .object "java/lang/Object")] t ∧ va_D (va_A [(li, .inr (4, [.int q1, .ref g1, .int z])), (g1, .inl (kO, 10, .inr (.inr (.inr (.inr fa)))))] sz) [(li, .inr (4, [.int hm, .ref g1, .int (z + 1)])), (g1, .inl (kO, 10, .inr (.inr (.inr (.inr fb)))))] ∧ va_up fa (z : Int32).toNatClampNeg (some v) = fb) (va_A [(li, .inr (4, [.int q1, .ref g1, .int z])), (g1, .inl (kO, 10, .inr (.inr (.inr (.inr fa)))))] sz)) 0 0 (va_A [(li, .inr (4, [.int q1, .ref g1, .int z])), (g1, .inl (kO, 10, .inr (.inr (.inr (.inr fa)))))] sz) := by
  refine Met.ofW (cc := cJx4a65c_add_9ea2d) (maxL := 2) (ret := (some .boolean)) (by decide) rfl ?_
  intro p e s m args below meth c s₁ B hml hv
  obtain ⟨rfl, hsz, hP, hK, hD0, hF, hZ, hE⟩ := hv
  have hx := B.exec
  have hb := B.bytes
  have hr := B.returns
  have hts := atoms_spec (ws := wsJx4a65c_add_9ea2d) B.pre
  have hown : s.vm.findClass RJx4a65c = some m.cls := findClass_of_methodNamed B.named
  have hlocks := B.notSynchronized
  subst hsz
  have hD := hD0.self (sz := s.heap.size)
  have hvA := nA2 (e := .inr (4, [.int q1, .ref g1, .int z])) (f := .inl (kO, 10, .inr (.inr (.inr (.inr fa))))) hvn hvg hvl
  generalize hAe : va_A [(li, .inr (4, [.int q1, .ref g1, .int z])), (g1, .inl (kO, 10, .inr (.inr (.inr (.inr fa)))))] s.heap.size = A at hD hZ hvA ⊢
  have hA : ∀ q : Nat, s.heap.size ≤ q → A q := fun q h => by rw [← hAe]; exact Or.inr h
  have hS : va_S A s.heap s.heap [] := va_S.rf
  have hl := lv_entry ([.ref li, .ref v]) (n := 2) (Nat.le_of_ble_eq_true rfl)
  rw [lg_entry_eq]
  generalize (lg_sl ([.ref li, .ref v]) ++ List.replicate (2 - (lg_sl ([.ref li, .ref v])).length) Slot.unset).toArray = ls at hl ⊢
  have hl : lv_has ls 2 [(0, .ref li), (1, .ref v)] := hl
  refine lv_aload_n hx hb dJx4a65c_add_9ea2d_0 rfl (lv_at hl 0 rfl) ?_
  refine lv_dup hx hb dJx4a65c_add_9ea2d_1 rfl ?_
  refine va_get (D := (dC, dI)) (ci := 4) (v := .int q1) (C := RJx4a65c) (T := TJx4a65c) (N := 3) hx hb hts (fun _ h9 => List.mem_cons_of_mem _ (List.mem_append_right _ (h9))) hown hK hP 0 rfl rfl 0 (by decide) (hts (.fieldLink RJx4a65c 63 "java/util/ArrayList" "modCount" "I") (List.mem_of_getElem? (i := 1) rfl)) (u_same (hts (.sameField "java/util/ArrayList" "java/util/AbstractList" "modCount" "I") (List.mem_of_getElem? (i := 2) rfl))) rfl dJx4a65c_add_9ea2d_2 ?_
  refine lv_iconst (v := 1) hx hb dJx4a65c_add_9ea2d_5 (by decide) ?_
  refine lv_iadd hx hb dJx4a65c_add_9ea2d_6 ?_
  refine va_put (D := (dC, dI)) (ci := 4) (v := .int (q1 + 1)) (ty := .int) (C := RJx4a65c) (T := TJx4a65c) (N := 3) hx hb hts (fun _ h9 => List.mem_cons_of_mem _ (List.mem_append_right _ (h9))) tyJx4a65c tyJx4a65c_ok nmJx4a65c hown hK hP hD hS 0 rfl rfl 0 (by decide) (hts (.fieldLink RJx4a65c 63 "java/util/ArrayList" "modCount" "I") (List.mem_of_getElem? (i := 1) rfl)) (u_same (hts (.sameField "java/util/ArrayList" "java/util/AbstractList" "modCount" "I") (List.mem_of_getElem? (i := 2) rfl))) rfl (by decide +kernel) rfl rfl (Nat.le_of_ble_eq_true rfl) dJx4a65c_add_9ea2d_7 (fun H locs hP hD hS => ?_)
  have hP : va_P (dC, dI) vwCl [(li, .inr (4, [.int (q1 + 1), .ref g1, .int z])), (g1, .inl (kO, 10, .inr (.inr (.inr (.inr fa)))))] H := hP
  have hD : va_D A [(li, .inr (4, [.int (q1 + 1), .ref g1, .int z])), (g1, .inl (kO, 10, .inr (.inr (.inr (.inr fa)))))] := hD
  refine lv_aload_n hx hb dJx4a65c_add_9ea2d_10 rfl (lv_at hl 0 rfl) ?_
  refine lv_aload_n hx hb dJx4a65c_add_9ea2d_11 rfl (lv_at hl 1 rfl) ?_
  refine lv_aload_n hx hb dJx4a65c_add_9ea2d_12 rfl (lv_at hl 0 rfl) ?_
  refine va_get (D := (dC, dI)) (ci := 4) (v := .ref g1) (C := RJx4a65c) (T := TJx4a65c) (N := 3) hx hb hts (fun _ h9 => List.mem_cons_of_mem _ (List.mem_append_right _ (h9))) hown hK hP 0 rfl rfl 1 (by decide) (hts (.fieldLink RJx4a65c 9 "java/util/ArrayList" "elementData" "[Ljava/lang/Object;") (List.mem_of_getElem? (i := 3) rfl)) (fun _ h9 => h9) rfl dJx4a65c_add_9ea2d_13 ?_
  refine lv_aload_n hx hb dJx4a65c_add_9ea2d_16 rfl (lv_at hl 0 rfl) ?_
  refine va_get (D := (dC, dI)) (ci := 4) (v := .int z) (C := RJx4a65c) (T := TJx4a65c) (N := 3) hx hb hts (fun _ h9 => List.mem_cons_of_mem _ (List.mem_append_right _ (h9))) hown hK hP 0 rfl rfl 2 (by decide) (hts (.fieldLink RJx4a65c 48 "java/util/ArrayList" "size" "I") (List.mem_of_getElem? (i := 4) rfl)) (fun _ h9 => h9) rfl dJx4a65c_add_9ea2d_17 ?_
  have hPc := hP.sub (ws' := [(li, .inr (4, [.int (q1 + 1), .ref g1, .int z])), (g1, .inl (kO, 10, .inr (.inr (.inr (.inr fa)))))]) [0, 1] rfl
  have hDc := hD.sub (ws' := [(li, .inr (4, [.int (q1 + 1), .ref g1, .int z])), (g1, .inl (kO, 10, .inr (.inr (.inr (.inr fa)))))]) [0, 1] (by decide) rfl
  have hKc := hK.sub (tys' := [(kO, .object "java/lang/Object")]) [0] rfl
  have hFc := va_free (wc := [(li, .inr (4, [.int (q1 + 1), .ref g1, .int z])), (g1, .inl (kO, 10, .inr (.inr (.inr (.inr fa)))))]) hD hS hA [0, 1] rfl
  refine va_callv (va_runV (As := [.ref v, .ref g1, .int z]) (rest := []) ⟨hx, hb, hml, hown, hts⟩ (c_R_add3n l dC dI d tc ad li (q1 + 1) v g1 z kO fa H.size hvn (Nat.lt_of_lt_of_le hvl hS.1) hvg hz1 hz2) (cwV 3 hts gJx4a65c_add_9ea2d_Jx4a65c_add_72be8 rfl rfl rfl (by decide +kernel) ⟨Nat.le_of_ble_eq_true rfl, Nat.le_of_ble_eq_true rfl⟩) ⟨PE_blind, va_recv hK hP (ci := 4) (q0 := 0) rfl rfl, PE_pre hPc hKc hDc hF hZ hS hFc (any_kept hE (hS.2.1 v hvl hvA))⟩ rfl rfl hl.1 rfl (lv_room (Nat.le_of_ble_eq_true rfl)) dJx4a65c_add_9ea2d_20 ⟨Nat.le_of_ble_eq_true rfl, Nat.le_of_ble_eq_true rfl⟩) hS (fun q _ h => hFc q h) hFc (fun u t H1 locs ht hvm hw hB hz1 hk1 hS => ?_)
  obtain ⟨fb_2, hP1, hK1, hD1, hx_3⟩ := hB
  rw [ht] at hP1
  have hK1 := va_K.moved hvm.symm hK1
  obtain ⟨hP, hD⟩ := va_join (wr := []) (w1 := [(li, .inr (4, [.int (q1 + 1), .ref g1, .int (z + 1)])), (g1, .inl (kO, 10, .inr (.inr (.inr (.inr fb_2)))))]) hP hD [0, 1] [] rfl rfl (by decide) (by decide) hk1 hFc hP1 hD1
  have hK := hK.app hK1
  generalize H1 = H at hP hS ⊢
  have hP : va_P (dC, dI) vwCl [(li, .inr (4, [.int (q1 + 1), .ref g1, .int (z + 1)])), (g1, .inl (kO, 10, .inr (.inr (.inr (.inr fb_2)))))] H := hP
  have hD : va_D A [(li, .inr (4, [.int (q1 + 1), .ref g1, .int (z + 1)])), (g1, .inl (kO, 10, .inr (.inr (.inr (.inr fb_2)))))] := hD
  have hK : va_K (dC, dI) vwCl [(kO, .object "java/lang/Object"), (kO, .object "java/lang/Object")] s := hK
  refine W.widen (k := 0) (n := 0) (Nat.le_of_ble_eq_true rfl) (Nat.le_of_ble_eq_true rfl) ?_
  refine lv_iconst (v := 1) hx hb dJx4a65c_add_9ea2d_23 (by decide) ?_
  have hP9 := hP.sub (ws' := [(li, .inr (4, [.int (q1 + 1), .ref g1, .int (z + 1)])), (g1, .inl (kO, 10, .inr (.inr (.inr (.inr fb_2)))))]) [0, 1] rfl
  have hD9 := hD.sub (ws' := [(li, .inr (4, [.int (q1 + 1), .ref g1, .int (z + 1)])), (g1, .inl (kO, 10, .inr (.inr (.inr (.inr fb_2)))))]) [0, 1] (by decide) rfl
  have hK9 := hK.sub (tys' := [(kO, .object "java/lang/Object")]) [0] rfl
  exact W.zret (v := 1) hx hb hr (by decide) (fun t ht hW => ⟨⟨_, (), rfl, rfl, (q1 + 1), fb_2, by rw [ht]; exact hP9, va_K.moved hW.alike hK9, hD9, hx_3⟩, hS.F ht⟩) hS.2.2 dJx4a65c_add_9ea2d_24

set_option maxHeartbeats 4000000 in
set_option maxRecDepth 100000 in
theorem c_R_Mcand0 (l : Launch) (dC : Nat → ClassId) (dI : Nat → Nat → Nat) (d : Nat) (tc : Nat) (ad : Nat → Nat) (mx : Nat) (lc : Nat) (lr : Nat) (kn : Nat) (lt : Nat) (ml : Nat) (mm : Nat) (lp : Nat) (lb : Nat) (mq : Nat) (sz : Nat) : Met l yX9_candidate wsX9_candidate ({ frames := 5, cells := 44, slots := 188, locals := 101 }) (va_Pc [.ref mx, .int 0] (PZ dC dI d tc ad sz [(mx, .inr (14, [.ref lc, .ref lr, .ref kn, .ref lt, .ref ml, .ref mm, .ref lp, .ref lb, .ref mq, .int 1, .int 10, .int 0, .int 0])), (lc, .inr (4, [.int 0, .ref d, .int 0]))] [])) (va_Qi (fun r (_ : Unit) => True) (fun _ t => ∃ (q : Nat) (sn : Nat) (rd : Nat) (L : va_W) (k1 : ClassId) (k2 : ClassId) (k3 : ClassId) (hm : Int32) (g1 : Nat) (kO : ClassId) (fb : Nat → Option Nat), va_P (dC, dI) vwCl ([(mx, .inr (14, [.ref lc, .ref lr, .ref kn, .ref lt, .ref ml, .ref mm, .ref lp, .ref lb, .ref mq, .int 1, .int 10, .int 0, .int 0])), (lc, .inr (4, [.int hm, .ref g1, .int 1])), (g1, .inl (kO, 10, .inr (.inr (.inr (.inr fb))))), (q, .inr (11, [.int 0, .null, .int (-1), .int (-1), .int 0, .ref sn, .ref rd]))] ++ L) t.heap ∧ va_K (dC, dI) vwCl [(kO, .object "java/lang/Object")] t ∧ va_D (va_A [(mx, .inr (14, [.ref lc, .ref lr, .ref kn, .ref lt, .ref ml, .ref mm, .ref lp, .ref lb, .ref mq, .int 1, .int 10, .int 0, .int 0])), (lc, .inr (4, [.int 0, .ref d, .int 0]))] sz) ([(mx, .inr (14, [.ref lc, .ref lr, .ref kn, .ref lt, .ref ml, .ref mm, .ref lp, .ref lb, .ref mq, .int 1, .int 10, .int 0, .int 0])), (lc, .inr (4, [.int hm, .ref g1, .int 1])), (g1, .inl (kO, 10, .inr (.inr (.inr (.inr fb))))), (q, .inr (11, [.int 0, .null, .int (-1), .int (-1), .int 0, .ref sn, .ref rd]))] ++ L) ∧ Kz k1 k2 k3 t ∧ mn_s k3 8 (mn_s k2 4 (mn_1 k1 4)) L sn ∧ va_up (fun _ => none) (0 : Int32).toNatClampNeg (some q) = fb) (va_A [(mx, .inr (14, [.ref lc, .ref lr, .ref kn, .ref lt, .ref ml, .ref mm, .ref lp, .ref lb, .ref mq, .int 1, .int 10, .int 0, .int 0])), (lc, .inr (4, [.int 0, .ref d, .int 0]))] sz)) 44 188 (va_A [(mx, .inr (14, [.ref lc, .ref lr, .ref kn, .ref lt, .ref ml, .ref mm, .ref lp, .ref lb, .ref mq, .int 1, .int 10, .int 0, .int 0])), (lc, .inr (4, [.int 0, .ref d, .int 0]))] sz) := by
  refine Met.ofW (cc := cX9_candidate) (maxL := 3) (ret := (some .int)) (by decide) rfl ?_
  intro p e s m args below meth c s₁ B hml hv
  obtain ⟨rfl, hsz, hP, hK, hD0, hF, hZ⟩ := hv
  have hx := B.exec
  have hb := B.bytes
  have hr := B.returns
  have hts := atoms_spec (ws := wsX9_candidate) B.pre
  have hown : s.vm.findClass RX9 = some m.cls := findClass_of_methodNamed B.named
  have hlocks := B.notSynchronized
  subst hsz
  have hD := hD0.self (sz := s.heap.size)
  generalize hAe : va_A [(mx, .inr (14, [.ref lc, .ref lr, .ref kn, .ref lt, .ref ml, .ref mm, .ref lp, .ref lb, .ref mq, .int 1, .int 10, .int 0, .int 0])), (lc, .inr (4, [.int 0, .ref d, .int 0]))] s.heap.size = A at hD hZ ⊢
  have hA : ∀ q : Nat, s.heap.size ≤ q → A q := fun q h => by rw [← hAe]; exact Or.inr h
  have hS : va_S A s.heap s.heap [] := va_S.rf
  have hl := lv_entry ([.ref mx, .int 0]) (n := 3) (Nat.le_of_ble_eq_true rfl)
  rw [lg_entry_eq]
  generalize (lg_sl ([.ref mx, .int 0]) ++ List.replicate (3 - (lg_sl ([.ref mx, .int 0])).length) Slot.unset).toArray = ls at hl ⊢
  have hl : lv_has ls 3 [(0, .ref mx), (1, .int 0)] := hl
  refine lv_iload_n hx hb dX9_candidate_0 rfl (lv_at hl 1 rfl) ?_
  refine vp_callSi (va_Run.run (va_runS (As := [.int 0]) (rest := []) ⟨hx, hb, hml, hown, hts⟩ (c_M_isProvince l dC dI 0) (va_cwS 1 hts gX9_candidate_X9_isProvince rfl rfl rfl (by decide +kernel) ⟨Nat.le_of_ble_eq_true rfl, Nat.le_of_ble_eq_true rfl⟩) ⟨PS_blind, PS_pre (hP.sub (ws' := []) [] rfl) hK hF⟩ rfl rfl hl.1 rfl (lv_room (Nat.le_of_ble_eq_true rfl)) dX9_candidate_1 ⟨Nat.le_of_ble_eq_true rfl, Nat.le_of_ble_eq_true rfl⟩)) (fun r_1 hr_1 => ?_)
  subst hr_1
  refine lv_if_ne (tgt := 9) hx hb dX9_candidate_4 (by decide) (fun _ => ?_) (fun c_2 => absurd c_2 (by decide))
  refine lv_aload_n hx hb dX9_candidate_9 rfl (lv_at hl 0 rfl) ?_
  refine va_get (D := (dC, dI)) (ci := 14) (v := .ref lc) (C := RX9) (T := TX9) (N := 13) hx hb hts (fun _ h9 => List.mem_cons_of_mem _ (List.mem_append_left _ (List.mem_append_left _ (List.mem_append_left _ (List.mem_append_right _ (h9)))))) hown hK hP 0 rfl rfl 0 (by decide) (hts (.fieldLink RX9 10 "ExamHallsModel" "candidates" "Ljava/util/List;") (List.mem_of_getElem? (i := 1) rfl)) (fun _ h9 => h9) rfl dX9_candidate_10 ?_
  refine va_csFi (va_runF (hK.1 4 _ rfl).2 (As := []) (rest := []) ⟨hx, hb, hml, hown, hts⟩ (c_AL_size l dC dI lc 0 d 0) (va_cwF 0 hts gX9_candidate_Jx4a65c_size_8abf5_f56Jx4a65c rfl rfl rfl (Ft.fw hF (RJx4a65c, ⟨"java/util/List", "size", "()I"⟩, yJx4a65c_size_8abf5) (by decide +kernel)) (by decide +kernel) ⟨Nat.le_of_ble_eq_true rfl, Nat.le_of_ble_eq_true rfl⟩) ⟨PS_blind, va_recv hK hP (ci := 4) (q0 := 1) rfl rfl, PS_pre (hP.sub (ws' := [(lc, .inr (4, [.int 0, .ref d, .int 0]))]) [1] rfl) hK hF⟩ rfl rfl hl.1 rfl (lv_room (Nat.le_of_ble_eq_true rfl)) dX9_candidate_13 ⟨Nat.le_of_ble_eq_true rfl, Nat.le_of_ble_eq_true rfl⟩) (fun r_3 hr_3 => ?_)
  subst hr_3
  refine lv_bipush (v := 24) hx hb dX9_candidate_18 (by decide) ?_
  refine lv_icmp_ne (tgt := 26) hx hb dX9_candidate_20 (by decide) (fun _ => ?_) (fun c_4 => absurd c_4 (by decide))
  refine va_new (ci := 11) (fs := [.int 0, .null, .int 0, .int 0, .int 0, .null, .null]) (C := RX6) (T := TX6) (N := 7) hx hb hts (fun _ h9 => List.mem_cons_of_mem _ (List.mem_append_left _ (List.mem_append_left _ (List.mem_append_right _ (h9))))) tyX6 tyX6_ok hown (hts (.classLink RX9 66 RX6) (List.mem_of_getElem? (i := 2) rfl)) (hts (.instantiable RX6 7) (List.mem_of_getElem? (i := 3) rfl)) (hts (.initialized RX6) (List.mem_of_getElem? (i := 4) rfl)) hK hP hD hS hA rfl dfX6 (Nat.le_of_ble_eq_true rfl) (Nat.le_of_ble_eq_true rfl) dX9_candidate_26 (fun q_5 H hP hD hS => ?_)
  have hP : va_P (dC, dI) vwCl [(mx, .inr (14, [.ref lc, .ref lr, .ref kn, .ref lt, .ref ml, .ref mm, .ref lp, .ref lb, .ref mq, .int 1, .int 10, .int 0, .int 0])), (lc, .inr (4, [.int 0, .ref d, .int 0])), (q_5, .inr (11, [.int 0, .null, .int 0, .int 0, .int 0, .null, .null]))] H := hP
  have hD : va_D A [(mx, .inr (14, [.ref lc, .ref lr, .ref kn, .ref lt, .ref ml, .ref mm, .ref lp, .ref lb, .ref mq, .int 1, .int 10, .int 0, .int 0])), (lc, .inr (4, [.int 0, .ref d, .int 0])), (q_5, .inr (11, [.int 0, .null, .int 0, .int 0, .int 0, .null, .null]))] := hD
  refine W.widen (k := 1) (n := 7) (Nat.le_of_ble_eq_true rfl) (Nat.le_of_ble_eq_true rfl) ?_
  refine lv_dup hx hb dX9_candidate_29 rfl ?_
  have hPc := hP.sub (ws' := [(q_5, .inr (11, [.int 0, .null, .int 0, .int 0, .int 0, .null, .null]))]) [2] rfl
  have hDc := hD.sub (ws' := [(q_5, .inr (11, [.int 0, .null, .int 0, .int 0, .int 0, .null, .null]))]) [2] (by decide) rfl
  have hKc := hK.sub (tys' := []) [] rfl
  have hFc := va_free (wc := [(q_5, .inr (11, [.int 0, .null, .int 0, .int 0, .int 0, .null, .null]))]) hD hS hA [2] rfl
  refine va_callv (va_runIN (As := []) (rest := [.ref q_5]) ⟨hx, hb, hml, hown, hts⟩ (c_R_X6 l dC dI d tc ad q_5 H.size) ⟨va_cnB 0 hts gX9_candidate_X6_init_n68 rfl rfl rfl (Ft.nm hF (RX9, 68, yX6_init, RX9) (by decide +kernel)) (hts (.initialized RX6) (List.mem_of_getElem? (i := 4) rfl)) (by decide +kernel) ⟨Nat.le_of_ble_eq_true rfl, Nat.le_of_ble_eq_true rfl⟩, rfl, (hts (.instanceMethod yX6_init) (List.mem_of_getElem? (i := 30) rfl))⟩ ⟨PZ_blind, PZ_pre hPc hKc hDc hF hZ hS hFc⟩ rfl rfl hl.1 rfl (lv_room (Nat.le_of_ble_eq_true rfl)) dX9_candidate_30 ⟨Nat.le_of_ble_eq_true rfl, Nat.le_of_ble_eq_true rfl⟩) hS (fun q _ h => hFc q h) hFc (fun u t H1 locs ht hvm hw hB hz1 hk1 hS => ?_)
  obtain ⟨g1_7, g2_8, L_9, k1_10, k2_11, k3_12, hP1, hK1, hD1, hx_13, hx_14⟩ := hB
  have hz9 := Kz.moved hvm.symm hx_13
  have hsn := hx_14
  rw [ht] at hP1
  have hK1 := va_K.moved hvm.symm hK1
  obtain ⟨hP, hD⟩ := va_join (wr := [(mx, .inr (14, [.ref lc, .ref lr, .ref kn, .ref lt, .ref ml, .ref mm, .ref lp, .ref lb, .ref mq, .int 1, .int 10, .int 0, .int 0])), (lc, .inr (4, [.int 0, .ref d, .int 0]))]) (w1 := [(q_5, .inr (11, [.int 0, .null, .int (-1), .int (-1), .int 0, .ref g1_7, .ref g2_8]))] ++ L_9) hP hD [2] [0, 1] rfl rfl (by decide) (by decide) hk1 hFc hP1 hD1
  have hK := hK.app hK1
  generalize H1 = H at hP hS ⊢
  have hP : va_P (dC, dI) vwCl ([(mx, .inr (14, [.ref lc, .ref lr, .ref kn, .ref lt, .ref ml, .ref mm, .ref lp, .ref lb, .ref mq, .int 1, .int 10, .int 0, .int 0])), (lc, .inr (4, [.int 0, .ref d, .int 0])), (q_5, .inr (11, [.int 0, .null, .int (-1), .int (-1), .int 0, .ref g1_7, .ref g2_8]))] ++ L_9) H := hP
  have hD : va_D A ([(mx, .inr (14, [.ref lc, .ref lr, .ref kn, .ref lt, .ref ml, .ref mm, .ref lp, .ref lb, .ref mq, .int 1, .int 10, .int 0, .int 0])), (lc, .inr (4, [.int 0, .ref d, .int 0])), (q_5, .inr (11, [.int 0, .null, .int (-1), .int (-1), .int 0, .ref g1_7, .ref g2_8]))] ++ L_9) := hD
  have hK : va_K (dC, dI) vwCl [] s := hK
  refine W.widen (k := 43) (n := 178) (Nat.le_of_ble_eq_true rfl) (Nat.le_of_ble_eq_true rfl) ?_
  refine lv_astore_n (lv' := [(2, .ref q_5), (0, .ref mx), (1, .int 0)]) hx hb dX9_candidate_33 rfl hl (by decide) rfl (fun ls hl => ?_)
  refine lv_aload_n hx hb dX9_candidate_34 rfl (lv_at hl 0 rfl) ?_
  refine lv_iload_n hx hb dX9_candidate_35 rfl (lv_at hl 2 rfl) ?_
  refine va_put (D := (dC, dI)) (ci := 11) (v := .int 0) (ty := .int) (C := RX6) (T := TX6) (N := 7) hx hb hts (fun _ h9 => List.mem_cons_of_mem _ (List.mem_append_left _ (List.mem_append_left _ (List.mem_append_right _ (h9))))) tyX6 tyX6_ok nmX6 hown hK hP hD hS 2 rfl rfl 0 (by decide) (hts (.fieldLink RX9 69 "ExamHallsModel$Candidate" "province" "I") (List.mem_of_getElem? (i := 5) rfl)) (fun _ h9 => h9) rfl (by decide +kernel) rfl rfl (Nat.le_of_ble_eq_true rfl) dX9_candidate_36 (fun H locs hP hD hS => ?_)
  have hP : va_P (dC, dI) vwCl ([(mx, .inr (14, [.ref lc, .ref lr, .ref kn, .ref lt, .ref ml, .ref mm, .ref lp, .ref lb, .ref mq, .int 1, .int 10, .int 0, .int 0])), (lc, .inr (4, [.int 0, .ref d, .int 0])), (q_5, .inr (11, [.int 0, .null, .int (-1), .int (-1), .int 0, .ref g1_7, .ref g2_8]))] ++ L_9) H := hP
  have hD : va_D A ([(mx, .inr (14, [.ref lc, .ref lr, .ref kn, .ref lt, .ref ml, .ref mm, .ref lp, .ref lb, .ref mq, .int 1, .int 10, .int 0, .int 0])), (lc, .inr (4, [.int 0, .ref d, .int 0])), (q_5, .inr (11, [.int 0, .null, .int (-1), .int (-1), .int 0, .ref g1_7, .ref g2_8]))] ++ L_9) := hD
  refine lv_aload_n hx hb dX9_candidate_39 rfl (lv_at hl 1 rfl) ?_
  refine va_get (D := (dC, dI)) (ci := 14) (v := .ref lc) (C := RX9) (T := TX9) (N := 13) hx hb hts (fun _ h9 => List.mem_cons_of_mem _ (List.mem_append_left _ (List.mem_append_left _ (List.mem_append_left _ (List.mem_append_right _ (h9)))))) hown hK hP 0 rfl rfl 0 (by decide) (hts (.fieldLink RX9 10 "ExamHallsModel" "candidates" "Ljava/util/List;") (List.mem_of_getElem? (i := 1) rfl)) (fun _ h9 => h9) rfl dX9_candidate_40 ?_
  refine lv_aload_n hx hb dX9_candidate_43 rfl (lv_at hl 0 rfl) ?_
  have hPc := hP.sub (ws' := [(lc, .inr (4, [.int 0, .ref d, .int 0]))]) [1] rfl
  have hDc := hD.sub (ws' := [(lc, .inr (4, [.int 0, .ref d, .int 0]))]) [1] (by decide) rfl
  have hKc := hK.sub (tys' := []) [] rfl
  have hFc := va_free (wc := [(lc, .inr (4, [.int 0, .ref d, .int 0]))]) hD hS hA [1] rfl
  refine va_callFi (va_runF (hK.1 4 _ rfl).2 (As := [.ref q_5]) (rest := []) ⟨hx, hb, hml, hown, hts⟩ (c_R_addf l dC dI d tc ad lc 0 q_5 H.size (fun h9 => absurd (hD.1 2 1 _ _ rfl rfl h9) (by decide)) (hP 2 _ rfl).lt) (va_cwF 1 hts gX9_candidate_Jx4a65c_add_9ea2d_f72Jx4a65c rfl rfl rfl (Ft.fw hF (RJx4a65c, ⟨"java/util/List", "add", "(Ljava/lang/Object;)Z"⟩, yJx4a65c_add_9ea2d) (by decide +kernel)) (by decide +kernel) ⟨Nat.le_of_ble_eq_true rfl, Nat.le_of_ble_eq_true rfl⟩) ⟨PE_blind, va_recv hK hP (ci := 4) (q0 := 1) rfl rfl, PE_pre hPc hKc hDc hF hZ hS hFc (any_obj hF hK hP (ci := 11) (q0 := 2) rfl rfl (by decide +kernel))⟩ rfl rfl hl.1 rfl (lv_room (Nat.le_of_ble_eq_true rfl)) dX9_candidate_44 ⟨Nat.le_of_ble_eq_true rfl, Nat.le_of_ble_eq_true rfl⟩) hS (fun q _ h => hFc q h) hFc (fun r_15 u t H1 locs ht hvm hw hB hz1 hk1 hS => ?_)
  obtain ⟨hm_16, g1_17, kO_18, fa_19, hP1, hK1, hD1, hx_20⟩ := hB
  rw [ht] at hP1
  have hK1 := va_K.moved hvm.symm hK1
  obtain ⟨hP, hD⟩ := va_joinQ (pl := L_9) (wr := [(mx, .inr (14, [.ref lc, .ref lr, .ref kn, .ref lt, .ref ml, .ref mm, .ref lp, .ref lb, .ref mq, .int 1, .int 10, .int 0, .int 0])), (q_5, .inr (11, [.int 0, .null, .int (-1), .int (-1), .int 0, .ref g1_7, .ref g2_8]))]) (w1 := [(lc, .inr (4, [.int hm_16, .ref g1_17, .int 1])), (g1_17, .inl (kO_18, 10, .inr (.inr (.inr (.inr fa_19)))))]) hP hD [1] [0, 2] rfl rfl (by decide) (by decide) hk1 hFc hP1 hD1
  have hK := hK.app hK1
  generalize H1 = H at hP hS ⊢
  have hP : va_P (dC, dI) vwCl ([(mx, .inr (14, [.ref lc, .ref lr, .ref kn, .ref lt, .ref ml, .ref mm, .ref lp, .ref lb, .ref mq, .int 1, .int 10, .int 0, .int 0])), (q_5, .inr (11, [.int 0, .null, .int (-1), .int (-1), .int 0, .ref g1_7, .ref g2_8])), (lc, .inr (4, [.int hm_16, .ref g1_17, .int 1])), (g1_17, .inl (kO_18, 10, .inr (.inr (.inr (.inr fa_19)))))] ++ L_9) H := hP
  have hD : va_D A ([(mx, .inr (14, [.ref lc, .ref lr, .ref kn, .ref lt, .ref ml, .ref mm, .ref lp, .ref lb, .ref mq, .int 1, .int 10, .int 0, .int 0])), (q_5, .inr (11, [.int 0, .null, .int (-1), .int (-1), .int 0, .ref g1_7, .ref g2_8])), (lc, .inr (4, [.int hm_16, .ref g1_17, .int 1])), (g1_17, .inl (kO_18, 10, .inr (.inr (.inr (.inr fa_19)))))] ++ L_9) := hD
  have hK : va_K (dC, dI) vwCl [(kO_18, .object "java/lang/Object")] s := hK
  refine W.widen (k := 44) (n := 188) (Nat.le_of_ble_eq_true rfl) (Nat.le_of_ble_eq_true rfl) ?_
  obtain rfl := hw
  refine lv_pop hx hb dX9_candidate_49 rfl ?_
  refine lv_aload_n hx hb dX9_candidate_50 rfl (lv_at hl 1 rfl) ?_
  refine va_get (D := (dC, dI)) (ci := 14) (v := .ref lc) (C := RX9) (T := TX9) (N := 13) hx hb hts (fun _ h9 => List.mem_cons_of_mem _ (List.mem_append_left _ (List.mem_append_left _ (List.mem_append_left _ (List.mem_append_right _ (h9)))))) hown hK hP 0 rfl rfl 0 (by decide) (hts (.fieldLink RX9 10 "ExamHallsModel" "candidates" "Ljava/util/List;") (List.mem_of_getElem? (i := 1) rfl)) (fun _ h9 => h9) rfl dX9_candidate_51 ?_
  refine va_csFi (va_runF (hK.1 4 _ rfl).2 (As := []) (rest := []) ⟨hx, hb, hml, hown, hts⟩ (c_AL_size l dC dI lc hm_16 g1_17 1) (va_cwF 0 hts gX9_candidate_Jx4a65c_size_8abf5_f56Jx4a65c rfl rfl rfl (Ft.fw hF (RJx4a65c, ⟨"java/util/List", "size", "()I"⟩, yJx4a65c_size_8abf5) (by decide +kernel)) (by decide +kernel) ⟨Nat.le_of_ble_eq_true rfl, Nat.le_of_ble_eq_true rfl⟩) ⟨PS_blind, va_recv hK hP (ci := 4) (q0 := 2) rfl rfl, PS_pre (hP.sub (ws' := [(lc, .inr (4, [.int hm_16, .ref g1_17, .int 1]))]) [2] rfl) (hK.sub (tys' := []) [] rfl) hF⟩ rfl rfl hl.1 rfl (lv_room (Nat.le_of_ble_eq_true rfl)) dX9_candidate_54 ⟨Nat.le_of_ble_eq_true rfl, Nat.le_of_ble_eq_true rfl⟩) (fun r_21 hr_21 => ?_)
  subst hr_21
  refine lv_iconst (v := 1) hx hb dX9_candidate_59 (by decide) ?_
  refine lv_isub hx hb dX9_candidate_60 ?_
  refine lv_topi (fun f_22 ef_22 => ?_)
  obtain rfl : f_22 = 0 := ef_22.trans (by decide)
  have hP9 := va_P.part (X := [(mx, .inr (14, [.ref lc, .ref lr, .ref kn, .ref lt, .ref ml, .ref mm, .ref lp, .ref lb, .ref mq, .int 1, .int 10, .int 0, .int 0])), (q_5, .inr (11, [.int 0, .null, .int (-1), .int (-1), .int 0, .ref g1_7, .ref g2_8])), (lc, .inr (4, [.int hm_16, .ref g1_17, .int 1])), (g1_17, .inl (kO_18, 10, .inr (.inr (.inr (.inr fa_19)))))]) (cx := [(mx, .inr (14, [.ref lc, .ref lr, .ref kn, .ref lt, .ref ml, .ref mm, .ref lp, .ref lb, .ref mq, .int 1, .int 10, .int 0, .int 0])), (lc, .inr (4, [.int hm_16, .ref g1_17, .int 1])), (g1_17, .inl (kO_18, 10, .inr (.inr (.inr (.inr fa_19))))), (q_5, .inr (11, [.int 0, .null, .int (-1), .int (-1), .int 0, .ref g1_7, .ref g2_8]))]) (pl := L_9) hP [0, 2, 3, 1] rfl
  have hD9 := va_D.part (X := [(mx, .inr (14, [.ref lc, .ref lr, .ref kn, .ref lt, .ref ml, .ref mm, .ref lp, .ref lb, .ref mq, .int 1, .int 10, .int 0, .int 0])), (q_5, .inr (11, [.int 0, .null, .int (-1), .int (-1), .int 0, .ref g1_7, .ref g2_8])), (lc, .inr (4, [.int hm_16, .ref g1_17, .int 1])), (g1_17, .inl (kO_18, 10, .inr (.inr (.inr (.inr fa_19)))))]) (cx := [(mx, .inr (14, [.ref lc, .ref lr, .ref kn, .ref lt, .ref ml, .ref mm, .ref lp, .ref lb, .ref mq, .int 1, .int 10, .int 0, .int 0])), (lc, .inr (4, [.int hm_16, .ref g1_17, .int 1])), (g1_17, .inl (kO_18, 10, .inr (.inr (.inr (.inr fa_19))))), (q_5, .inr (11, [.int 0, .null, .int (-1), .int (-1), .int 0, .ref g1_7, .ref g2_8]))]) (pl := L_9) hD [0, 2, 3, 1] (by decide) rfl
  have hK9 := hK.sub (tys' := [(kO_18, .object "java/lang/Object")]) [0] rfl
  exact W.iret (v := 0) hx hb hr (fun t ht hW => ⟨⟨_, (), rfl, trivial, q_5, g1_7, g2_8, L_9, k1_10, k2_11, k3_12, hm_16, g1_17, kO_18, fa_19, by rw [ht]; exact hP9, va_K.moved hW.alike hK9, hD9, hz9.moved hW.alike, hsn, hx_20⟩, hS.F ht⟩) hS.2.2 dX9_candidate_61

set_option maxHeartbeats 4000000 in
set_option maxRecDepth 100000 in
theorem c_R_Mcand (l : Launch) (dC : Nat → ClassId) (dI : Nat → Nat → Nat) (d : Nat) (tc : Nat) (ad : Nat → Nat) (mx : Nat) (lc : Nat) (lr : Nat) (kn : Nat) (lt : Nat) (ml : Nat) (mm : Nat) (lp : Nat) (lb : Nat) (mq : Nat) (q1 : Int32) (g1 : Nat) (z : Int32) (kO : ClassId) (fa : Nat → Option Nat) (sz : Nat) (hzA : vp_in z 10) (hzB : ¬ z = 10) (hz24 : ¬ z = 24) : Met l yX9_candidate wsX9_candidate ({ frames := 5, cells := 43, slots := 178, locals := 92 }) (va_Pc [.ref mx, .int 0] (PZ dC dI d tc ad sz [(mx, .inr (14, [.ref lc, .ref lr, .ref kn, .ref lt, .ref ml, .ref mm, .ref lp, .ref lb, .ref mq, .int 1, .int 10, .int 0, .int 0])), (lc, .inr (4, [.int q1, .ref g1, .int z])), (g1, .inl (kO, 10, .inr (.inr (.inr (.inr fa)))))] [(kO, .object "java/lang/Object")])) (va_Qi (fun r (_ : Unit) => True) (fun _ t => ∃ (q : Nat) (sn : Nat) (rd : Nat) (L : va_W) (k1 : ClassId) (k2 : ClassId) (k3 : ClassId) (hm : Int32) (fb : Nat → Option Nat), va_P (dC, dI) vwCl ([(mx, .inr (14, [.ref lc, .ref lr, .ref kn, .ref lt, .ref ml, .ref mm, .ref lp, .ref lb, .ref mq, .int 1, .int 10, .int 0, .int 0])), (lc, .inr (4, [.int hm, .ref g1, .int (z + 1)])), (g1, .inl (kO, 10, .inr (.inr (.inr (.inr fb))))), (q, .inr (11, [.int 0, .null, .int (-1), .int (-1), .int 0, .ref sn, .ref rd]))] ++ L) t.heap ∧ va_K (dC, dI) vwCl [(kO, .object "java/lang/Object")] t ∧ va_D (va_A [(mx, .inr (14, [.ref lc, .ref lr, .ref kn, .ref lt, .ref ml, .ref mm, .ref lp, .ref lb, .ref mq, .int 1, .int 10, .int 0, .int 0])), (lc, .inr (4, [.int q1, .ref g1, .int z])), (g1, .inl (kO, 10, .inr (.inr (.inr (.inr fa)))))] sz) ([(mx, .inr (14, [.ref lc, .ref lr, .ref kn, .ref lt, .ref ml, .ref mm, .ref lp, .ref lb, .ref mq, .int 1, .int 10, .int 0, .int 0])), (lc, .inr (4, [.int hm, .ref g1, .int (z + 1)])), (g1, .inl (kO, 10, .inr (.inr (.inr (.inr fb))))), (q, .inr (11, [.int 0, .null, .int (-1), .int (-1), .int 0, .ref sn, .ref rd]))] ++ L) ∧ Kz k1 k2 k3 t ∧ mn_s k3 8 (mn_s k2 4 (mn_1 k1 4)) L sn ∧ va_up fa (z : Int32).toNatClampNeg (some q) = fb) (va_A [(mx, .inr (14, [.ref lc, .ref lr, .ref kn, .ref lt, .ref ml, .ref mm, .ref lp, .ref lb, .ref mq, .int 1, .int 10, .int 0, .int 0])), (lc, .inr (4, [.int q1, .ref g1, .int z])), (g1, .inl (kO, 10, .inr (.inr (.inr (.inr fa)))))] sz)) 43 178 (va_A [(mx, .inr (14, [.ref lc, .ref lr, .ref kn, .ref lt, .ref ml, .ref mm, .ref lp, .ref lb, .ref mq, .int 1, .int 10, .int 0, .int 0])), (lc, .inr (4, [.int q1, .ref g1, .int z])), (g1, .inl (kO, 10, .inr (.inr (.inr (.inr fa)))))] sz) := by
  refine Met.ofW (cc := cX9_candidate) (maxL := 3) (ret := (some .int)) (by decide) rfl ?_
  intro p e s m args below meth c s₁ B hml hv
  obtain ⟨rfl, hsz, hP, hK, hD0, hF, hZ⟩ := hv
  have hx := B.exec
  have hb := B.bytes
  have hr := B.returns
  have hts := atoms_spec (ws := wsX9_candidate) B.pre
  have hown : s.vm.findClass RX9 = some m.cls := findClass_of_methodNamed B.named
  have hlocks := B.notSynchronized
  subst hsz
  have hD := hD0.self (sz := s.heap.size)
  generalize hAe : va_A [(mx, .inr (14, [.ref lc, .ref lr, .ref kn, .ref lt, .ref ml, .ref mm, .ref lp, .ref lb, .ref mq, .int 1, .int 10, .int 0, .int 0])), (lc, .inr (4, [.int q1, .ref g1, .int z])), (g1, .inl (kO, 10, .inr (.inr (.inr (.inr fa)))))] s.heap.size = A at hD hZ ⊢
  have hA : ∀ q : Nat, s.heap.size ≤ q → A q := fun q h => by rw [← hAe]; exact Or.inr h
  have hS : va_S A s.heap s.heap [] := va_S.rf
  have hl := lv_entry ([.ref mx, .int 0]) (n := 3) (Nat.le_of_ble_eq_true rfl)
  rw [lg_entry_eq]
  generalize (lg_sl ([.ref mx, .int 0]) ++ List.replicate (3 - (lg_sl ([.ref mx, .int 0])).length) Slot.unset).toArray = ls at hl ⊢
  have hl : lv_has ls 3 [(0, .ref mx), (1, .int 0)] := hl
  refine lv_iload_n hx hb dX9_candidate_0 rfl (lv_at hl 1 rfl) ?_
  refine vp_callSi (va_Run.run (va_runS (As := [.int 0]) (rest := []) ⟨hx, hb, hml, hown, hts⟩ (c_M_isProvince l dC dI 0) (va_cwS 1 hts gX9_candidate_X9_isProvince rfl rfl rfl (by decide +kernel) ⟨Nat.le_of_ble_eq_true rfl, Nat.le_of_ble_eq_true rfl⟩) ⟨PS_blind, PS_pre (hP.sub (ws' := []) [] rfl) (hK.sub (tys' := []) [] rfl) hF⟩ rfl rfl hl.1 rfl (lv_room (Nat.le_of_ble_eq_true rfl)) dX9_candidate_1 ⟨Nat.le_of_ble_eq_true rfl, Nat.le_of_ble_eq_true rfl⟩)) (fun r_1 hr_1 => ?_)
  subst hr_1
  refine lv_if_ne (tgt := 9) hx hb dX9_candidate_4 (by decide) (fun _ => ?_) (fun c_2 => absurd c_2 (by decide))
  refine lv_aload_n hx hb dX9_candidate_9 rfl (lv_at hl 0 rfl) ?_
  refine va_get (D := (dC, dI)) (ci := 14) (v := .ref lc) (C := RX9) (T := TX9) (N := 13) hx hb hts (fun _ h9 => List.mem_cons_of_mem _ (List.mem_append_left _ (List.mem_append_left _ (List.mem_append_left _ (List.mem_append_right _ (h9)))))) hown hK hP 0 rfl rfl 0 (by decide) (hts (.fieldLink RX9 10 "ExamHallsModel" "candidates" "Ljava/util/List;") (List.mem_of_getElem? (i := 1) rfl)) (fun _ h9 => h9) rfl dX9_candidate_10 ?_
  refine va_csFi (va_runF (hK.1 4 _ rfl).2 (As := []) (rest := []) ⟨hx, hb, hml, hown, hts⟩ (c_AL_size l dC dI lc q1 g1 z) (va_cwF 0 hts gX9_candidate_Jx4a65c_size_8abf5_f56Jx4a65c rfl rfl rfl (Ft.fw hF (RJx4a65c, ⟨"java/util/List", "size", "()I"⟩, yJx4a65c_size_8abf5) (by decide +kernel)) (by decide +kernel) ⟨Nat.le_of_ble_eq_true rfl, Nat.le_of_ble_eq_true rfl⟩) ⟨PS_blind, va_recv hK hP (ci := 4) (q0 := 1) rfl rfl, PS_pre (hP.sub (ws' := [(lc, .inr (4, [.int q1, .ref g1, .int z]))]) [1] rfl) (hK.sub (tys' := []) [] rfl) hF⟩ rfl rfl hl.1 rfl (lv_room (Nat.le_of_ble_eq_true rfl)) dX9_candidate_13 ⟨Nat.le_of_ble_eq_true rfl, Nat.le_of_ble_eq_true rfl⟩) (fun r_3 hr_3 => ?_)
  replace hr_3 := Eq.symm hr_3
  subst hr_3
  refine lv_bipush (v := 24) hx hb dX9_candidate_18 (by decide) ?_
  refine lv_icmp_ne (tgt := 26) hx hb dX9_candidate_20 (by decide) (fun _ => ?_) (fun c_4 => absurd c_4 hz24)
  refine va_new (ci := 11) (fs := [.int 0, .null, .int 0, .int 0, .int 0, .null, .null]) (C := RX6) (T := TX6) (N := 7) hx hb hts (fun _ h9 => List.mem_cons_of_mem _ (List.mem_append_left _ (List.mem_append_left _ (List.mem_append_right _ (h9))))) tyX6 tyX6_ok hown (hts (.classLink RX9 66 RX6) (List.mem_of_getElem? (i := 2) rfl)) (hts (.instantiable RX6 7) (List.mem_of_getElem? (i := 3) rfl)) (hts (.initialized RX6) (List.mem_of_getElem? (i := 4) rfl)) hK hP hD hS hA rfl dfX6 (Nat.le_of_ble_eq_true rfl) (Nat.le_of_ble_eq_true rfl) dX9_candidate_26 (fun q_5 H hP hD hS => ?_)
  have hP : va_P (dC, dI) vwCl [(mx, .inr (14, [.ref lc, .ref lr, .ref kn, .ref lt, .ref ml, .ref mm, .ref lp, .ref lb, .ref mq, .int 1, .int 10, .int 0, .int 0])), (lc, .inr (4, [.int q1, .ref g1, .int z])), (g1, .inl (kO, 10, .inr (.inr (.inr (.inr fa))))), (q_5, .inr (11, [.int 0, .null, .int 0, .int 0, .int 0, .null, .null]))] H := hP
  have hD : va_D A [(mx, .inr (14, [.ref lc, .ref lr, .ref kn, .ref lt, .ref ml, .ref mm, .ref lp, .ref lb, .ref mq, .int 1, .int 10, .int 0, .int 0])), (lc, .inr (4, [.int q1, .ref g1, .int z])), (g1, .inl (kO, 10, .inr (.inr (.inr (.inr fa))))), (q_5, .inr (11, [.int 0, .null, .int 0, .int 0, .int 0, .null, .null]))] := hD
  refine W.widen (k := 1) (n := 7) (Nat.le_of_ble_eq_true rfl) (Nat.le_of_ble_eq_true rfl) ?_
  refine lv_dup hx hb dX9_candidate_29 rfl ?_
  have hPc := hP.sub (ws' := [(q_5, .inr (11, [.int 0, .null, .int 0, .int 0, .int 0, .null, .null]))]) [3] rfl
  have hDc := hD.sub (ws' := [(q_5, .inr (11, [.int 0, .null, .int 0, .int 0, .int 0, .null, .null]))]) [3] (by decide) rfl
  have hKc := hK.sub (tys' := []) [] rfl
  have hFc := va_free (wc := [(q_5, .inr (11, [.int 0, .null, .int 0, .int 0, .int 0, .null, .null]))]) hD hS hA [3] rfl
  refine va_callv (va_runIN (As := []) (rest := [.ref q_5]) ⟨hx, hb, hml, hown, hts⟩ (c_R_X6 l dC dI d tc ad q_5 H.size) ⟨va_cnB 0 hts gX9_candidate_X6_init_n68 rfl rfl rfl (Ft.nm hF (RX9, 68, yX6_init, RX9) (by decide +kernel)) (hts (.initialized RX6) (List.mem_of_getElem? (i := 4) rfl)) (by decide +kernel) ⟨Nat.le_of_ble_eq_true rfl, Nat.le_of_ble_eq_true rfl⟩, rfl, (hts (.instanceMethod yX6_init) (List.mem_of_getElem? (i := 30) rfl))⟩ ⟨PZ_blind, PZ_pre hPc hKc hDc hF hZ hS hFc⟩ rfl rfl hl.1 rfl (lv_room (Nat.le_of_ble_eq_true rfl)) dX9_candidate_30 ⟨Nat.le_of_ble_eq_true rfl, Nat.le_of_ble_eq_true rfl⟩) hS (fun q _ h => hFc q h) hFc (fun u t H1 locs ht hvm hw hB hz1 hk1 hS => ?_)
  obtain ⟨g1_7, g2_8, L_9, k1_10, k2_11, k3_12, hP1, hK1, hD1, hx_13, hx_14⟩ := hB
  have hz9 := Kz.moved hvm.symm hx_13
  have hsn := hx_14
  rw [ht] at hP1
  have hK1 := va_K.moved hvm.symm hK1
  obtain ⟨hP, hD⟩ := va_join (wr := [(mx, .inr (14, [.ref lc, .ref lr, .ref kn, .ref lt, .ref ml, .ref mm, .ref lp, .ref lb, .ref mq, .int 1, .int 10, .int 0, .int 0])), (lc, .inr (4, [.int q1, .ref g1, .int z])), (g1, .inl (kO, 10, .inr (.inr (.inr (.inr fa)))))]) (w1 := [(q_5, .inr (11, [.int 0, .null, .int (-1), .int (-1), .int 0, .ref g1_7, .ref g2_8]))] ++ L_9) hP hD [3] [0, 1, 2] rfl rfl (by decide) (by decide) hk1 hFc hP1 hD1
  have hK := hK.app hK1
  generalize H1 = H at hP hS ⊢
  have hP : va_P (dC, dI) vwCl ([(mx, .inr (14, [.ref lc, .ref lr, .ref kn, .ref lt, .ref ml, .ref mm, .ref lp, .ref lb, .ref mq, .int 1, .int 10, .int 0, .int 0])), (lc, .inr (4, [.int q1, .ref g1, .int z])), (g1, .inl (kO, 10, .inr (.inr (.inr (.inr fa))))), (q_5, .inr (11, [.int 0, .null, .int (-1), .int (-1), .int 0, .ref g1_7, .ref g2_8]))] ++ L_9) H := hP
  have hD : va_D A ([(mx, .inr (14, [.ref lc, .ref lr, .ref kn, .ref lt, .ref ml, .ref mm, .ref lp, .ref lb, .ref mq, .int 1, .int 10, .int 0, .int 0])), (lc, .inr (4, [.int q1, .ref g1, .int z])), (g1, .inl (kO, 10, .inr (.inr (.inr (.inr fa))))), (q_5, .inr (11, [.int 0, .null, .int (-1), .int (-1), .int 0, .ref g1_7, .ref g2_8]))] ++ L_9) := hD
  have hK : va_K (dC, dI) vwCl [(kO, .object "java/lang/Object")] s := hK
  refine W.widen (k := 43) (n := 178) (Nat.le_of_ble_eq_true rfl) (Nat.le_of_ble_eq_true rfl) ?_
  refine lv_astore_n (lv' := [(2, .ref q_5), (0, .ref mx), (1, .int 0)]) hx hb dX9_candidate_33 rfl hl (by decide) rfl (fun ls hl => ?_)
  refine lv_aload_n hx hb dX9_candidate_34 rfl (lv_at hl 0 rfl) ?_
  refine lv_iload_n hx hb dX9_candidate_35 rfl (lv_at hl 2 rfl) ?_
  refine va_put (D := (dC, dI)) (ci := 11) (v := .int 0) (ty := .int) (C := RX6) (T := TX6) (N := 7) hx hb hts (fun _ h9 => List.mem_cons_of_mem _ (List.mem_append_left _ (List.mem_append_left _ (List.mem_append_right _ (h9))))) tyX6 tyX6_ok nmX6 hown hK hP hD hS 3 rfl rfl 0 (by decide) (hts (.fieldLink RX9 69 "ExamHallsModel$Candidate" "province" "I") (List.mem_of_getElem? (i := 5) rfl)) (fun _ h9 => h9) rfl (by decide +kernel) rfl rfl (Nat.le_of_ble_eq_true rfl) dX9_candidate_36 (fun H locs hP hD hS => ?_)
  have hP : va_P (dC, dI) vwCl ([(mx, .inr (14, [.ref lc, .ref lr, .ref kn, .ref lt, .ref ml, .ref mm, .ref lp, .ref lb, .ref mq, .int 1, .int 10, .int 0, .int 0])), (lc, .inr (4, [.int q1, .ref g1, .int z])), (g1, .inl (kO, 10, .inr (.inr (.inr (.inr fa))))), (q_5, .inr (11, [.int 0, .null, .int (-1), .int (-1), .int 0, .ref g1_7, .ref g2_8]))] ++ L_9) H := hP
  have hD : va_D A ([(mx, .inr (14, [.ref lc, .ref lr, .ref kn, .ref lt, .ref ml, .ref mm, .ref lp, .ref lb, .ref mq, .int 1, .int 10, .int 0, .int 0])), (lc, .inr (4, [.int q1, .ref g1, .int z])), (g1, .inl (kO, 10, .inr (.inr (.inr (.inr fa))))), (q_5, .inr (11, [.int 0, .null, .int (-1), .int (-1), .int 0, .ref g1_7, .ref g2_8]))] ++ L_9) := hD
  refine lv_aload_n hx hb dX9_candidate_39 rfl (lv_at hl 1 rfl) ?_
  refine va_get (D := (dC, dI)) (ci := 14) (v := .ref lc) (C := RX9) (T := TX9) (N := 13) hx hb hts (fun _ h9 => List.mem_cons_of_mem _ (List.mem_append_left _ (List.mem_append_left _ (List.mem_append_left _ (List.mem_append_right _ (h9)))))) hown hK hP 0 rfl rfl 0 (by decide) (hts (.fieldLink RX9 10 "ExamHallsModel" "candidates" "Ljava/util/List;") (List.mem_of_getElem? (i := 1) rfl)) (fun _ h9 => h9) rfl dX9_candidate_40 ?_
  refine lv_aload_n hx hb dX9_candidate_43 rfl (lv_at hl 0 rfl) ?_
  have hPc := hP.sub (ws' := [(lc, .inr (4, [.int q1, .ref g1, .int z])), (g1, .inl (kO, 10, .inr (.inr (.inr (.inr fa)))))]) [1, 2] rfl
  have hDc := hD.sub (ws' := [(lc, .inr (4, [.int q1, .ref g1, .int z])), (g1, .inl (kO, 10, .inr (.inr (.inr (.inr fa)))))]) [1, 2] (by decide) rfl
  have hKc := hK.sub (tys' := [(kO, .object "java/lang/Object")]) [0] rfl
  have hFc := va_free (wc := [(lc, .inr (4, [.int q1, .ref g1, .int z])), (g1, .inl (kO, 10, .inr (.inr (.inr (.inr fa)))))]) hD hS hA [1, 2] rfl
  refine va_callFi (va_runF (hK.1 4 _ rfl).2 (As := [.ref q_5]) (rest := []) ⟨hx, hb, hml, hown, hts⟩ (c_R_addn l dC dI d tc ad lc q1 q_5 g1 z kO fa H.size (fun h9 => absurd (hD.1 3 1 _ _ rfl rfl h9) (by decide)) (hP 3 _ rfl).lt (fun h9 => absurd (hD.1 3 2 _ _ rfl rfl h9) (by decide)) hzA hzB) (va_cwF 1 hts gX9_candidate_Jx4a65c_add_9ea2d_f72Jx4a65c rfl rfl rfl (Ft.fw hF (RJx4a65c, ⟨"java/util/List", "add", "(Ljava/lang/Object;)Z"⟩, yJx4a65c_add_9ea2d) (by decide +kernel)) (by decide +kernel) ⟨Nat.le_of_ble_eq_true rfl, Nat.le_of_ble_eq_true rfl⟩) ⟨PE_blind, va_recv hK hP (ci := 4) (q0 := 1) rfl rfl, PE_pre hPc hKc hDc hF hZ hS hFc (any_obj hF hK hP (ci := 11) (q0 := 3) rfl rfl (by decide +kernel))⟩ rfl rfl hl.1 rfl (lv_room (Nat.le_of_ble_eq_true rfl)) dX9_candidate_44 ⟨Nat.le_of_ble_eq_true rfl, Nat.le_of_ble_eq_true rfl⟩) hS (fun q _ h => hFc q h) hFc (fun r_15 u t H1 locs ht hvm hw hB hz1 hk1 hS => ?_)
  obtain ⟨hm_16, fb_17, hP1, hK1, hD1, hx_18⟩ := hB
  rw [ht] at hP1
  have hK1 := va_K.moved hvm.symm hK1
  obtain ⟨hP, hD⟩ := va_joinQ (pl := L_9) (wr := [(mx, .inr (14, [.ref lc, .ref lr, .ref kn, .ref lt, .ref ml, .ref mm, .ref lp, .ref lb, .ref mq, .int 1, .int 10, .int 0, .int 0])), (q_5, .inr (11, [.int 0, .null, .int (-1), .int (-1), .int 0, .ref g1_7, .ref g2_8]))]) (w1 := [(lc, .inr (4, [.int hm_16, .ref g1, .int (z + 1)])), (g1, .inl (kO, 10, .inr (.inr (.inr (.inr fb_17)))))]) hP hD [1, 2] [0, 3] rfl rfl (by decide) (by decide) hk1 hFc hP1 hD1
  have hK := hK.app hK1
  generalize H1 = H at hP hS ⊢
  have hP : va_P (dC, dI) vwCl ([(mx, .inr (14, [.ref lc, .ref lr, .ref kn, .ref lt, .ref ml, .ref mm, .ref lp, .ref lb, .ref mq, .int 1, .int 10, .int 0, .int 0])), (q_5, .inr (11, [.int 0, .null, .int (-1), .int (-1), .int 0, .ref g1_7, .ref g2_8])), (lc, .inr (4, [.int hm_16, .ref g1, .int (z + 1)])), (g1, .inl (kO, 10, .inr (.inr (.inr (.inr fb_17)))))] ++ L_9) H := hP
  have hD : va_D A ([(mx, .inr (14, [.ref lc, .ref lr, .ref kn, .ref lt, .ref ml, .ref mm, .ref lp, .ref lb, .ref mq, .int 1, .int 10, .int 0, .int 0])), (q_5, .inr (11, [.int 0, .null, .int (-1), .int (-1), .int 0, .ref g1_7, .ref g2_8])), (lc, .inr (4, [.int hm_16, .ref g1, .int (z + 1)])), (g1, .inl (kO, 10, .inr (.inr (.inr (.inr fb_17)))))] ++ L_9) := hD
  have hK : va_K (dC, dI) vwCl [(kO, .object "java/lang/Object"), (kO, .object "java/lang/Object")] s := hK
  refine W.widen (k := 43) (n := 178) (Nat.le_of_ble_eq_true rfl) (Nat.le_of_ble_eq_true rfl) ?_
  obtain rfl := hw
  refine lv_pop hx hb dX9_candidate_49 rfl ?_
  refine lv_aload_n hx hb dX9_candidate_50 rfl (lv_at hl 1 rfl) ?_
  refine va_get (D := (dC, dI)) (ci := 14) (v := .ref lc) (C := RX9) (T := TX9) (N := 13) hx hb hts (fun _ h9 => List.mem_cons_of_mem _ (List.mem_append_left _ (List.mem_append_left _ (List.mem_append_left _ (List.mem_append_right _ (h9)))))) hown hK hP 0 rfl rfl 0 (by decide) (hts (.fieldLink RX9 10 "ExamHallsModel" "candidates" "Ljava/util/List;") (List.mem_of_getElem? (i := 1) rfl)) (fun _ h9 => h9) rfl dX9_candidate_51 ?_
  refine va_csFi (va_runF (hK.1 4 _ rfl).2 (As := []) (rest := []) ⟨hx, hb, hml, hown, hts⟩ (c_AL_size l dC dI lc hm_16 g1 (z + 1)) (va_cwF 0 hts gX9_candidate_Jx4a65c_size_8abf5_f56Jx4a65c rfl rfl rfl (Ft.fw hF (RJx4a65c, ⟨"java/util/List", "size", "()I"⟩, yJx4a65c_size_8abf5) (by decide +kernel)) (by decide +kernel) ⟨Nat.le_of_ble_eq_true rfl, Nat.le_of_ble_eq_true rfl⟩) ⟨PS_blind, va_recv hK hP (ci := 4) (q0 := 2) rfl rfl, PS_pre (hP.sub (ws' := [(lc, .inr (4, [.int hm_16, .ref g1, .int (z + 1)]))]) [2] rfl) (hK.sub (tys' := []) [] rfl) hF⟩ rfl rfl hl.1 rfl (lv_room (Nat.le_of_ble_eq_true rfl)) dX9_candidate_54 ⟨Nat.le_of_ble_eq_true rfl, Nat.le_of_ble_eq_true rfl⟩) (fun r_19 hr_19 => ?_)
  subst hr_19
  refine lv_iconst (v := 1) hx hb dX9_candidate_59 (by decide) ?_
  refine lv_isub hx hb dX9_candidate_60 ?_
  have hP9 := va_P.part (X := [(mx, .inr (14, [.ref lc, .ref lr, .ref kn, .ref lt, .ref ml, .ref mm, .ref lp, .ref lb, .ref mq, .int 1, .int 10, .int 0, .int 0])), (q_5, .inr (11, [.int 0, .null, .int (-1), .int (-1), .int 0, .ref g1_7, .ref g2_8])), (lc, .inr (4, [.int hm_16, .ref g1, .int (z + 1)])), (g1, .inl (kO, 10, .inr (.inr (.inr (.inr fb_17)))))]) (cx := [(mx, .inr (14, [.ref lc, .ref lr, .ref kn, .ref lt, .ref ml, .ref mm, .ref lp, .ref lb, .ref mq, .int 1, .int 10, .int 0, .int 0])), (lc, .inr (4, [.int hm_16, .ref g1, .int (z + 1)])), (g1, .inl (kO, 10, .inr (.inr (.inr (.inr fb_17))))), (q_5, .inr (11, [.int 0, .null, .int (-1), .int (-1), .int 0, .ref g1_7, .ref g2_8]))]) (pl := L_9) hP [0, 2, 3, 1] rfl
  have hD9 := va_D.part (X := [(mx, .inr (14, [.ref lc, .ref lr, .ref kn, .ref lt, .ref ml, .ref mm, .ref lp, .ref lb, .ref mq, .int 1, .int 10, .int 0, .int 0])), (q_5, .inr (11, [.int 0, .null, .int (-1), .int (-1), .int 0, .ref g1_7, .ref g2_8])), (lc, .inr (4, [.int hm_16, .ref g1, .int (z + 1)])), (g1, .inl (kO, 10, .inr (.inr (.inr (.inr fb_17)))))]) (cx := [(mx, .inr (14, [.ref lc, .ref lr, .ref kn, .ref lt, .ref ml, .ref mm, .ref lp, .ref lb, .ref mq, .int 1, .int 10, .int 0, .int 0])), (lc, .inr (4, [.int hm_16, .ref g1, .int (z + 1)])), (g1, .inl (kO, 10, .inr (.inr (.inr (.inr fb_17))))), (q_5, .inr (11, [.int 0, .null, .int (-1), .int (-1), .int 0, .ref g1_7, .ref g2_8]))]) (pl := L_9) hD [0, 2, 3, 1] (by decide) rfl
  have hK9 := hK.sub (tys' := [(kO, .object "java/lang/Object")]) [0] rfl
  exact W.iret (v := (z + 1) - 1) hx hb hr (fun t ht hW => ⟨⟨_, (), rfl, trivial, q_5, g1_7, g2_8, L_9, k1_10, k2_11, k3_12, hm_16, fb_17, by rw [ht]; exact hP9, va_K.moved hW.alike hK9, hD9, hz9.moved hW.alike, hsn, hx_18⟩, hS.F ht⟩) hS.2.2 dX9_candidate_61
