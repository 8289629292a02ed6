set_option maxHeartbeats 4000000 in
set_option maxRecDepth 100000 in
theorem law_body {p : Program} {l : Launch} {e : Env} {s : State} {m : MethodId} {below : List Frame} {meth : Method} {c : Code} {dC : Nat → ClassId} {dI : Nat → Nat → Nat} {b : Nat} {xs : Nat → Int32} {A : Nat → Prop} {d tc : Nat} {ad : Nat → Nat} {x : Nat} {cd : Nat} {rd : Nat} {tp : Nat} {fo : Nat} {qu : Nat} {sh : Nat} {vs : Nat} {pa : Nat} {pb : Nat} {tb : Nat} {le : Nat} {mo : Nat} {os : Nat} {ps : Nat} {br : Nat} {kl : ClassId} {km : ClassId} {ko : ClassId} {kp : ClassId} {kb : ClassId} {fl : Nat → Int32} {fm : Nat → Int32} {kC : ClassId} {kR : ClassId} {kB : ClassId} {kq : ClassId} {mx : Nat} {lc : Nat} {lr : Nat} {kn : Nat} {lt : Nat} {ml : Nat} {mm : Nat} {lp : Nat} {lb : Nat} {mq : Nat} {kl2 : ClassId} {km2 : ClassId} {kq2 : ClassId} {fl2 : Nat → Int32} {fm2 : Nat → Int32} (C0 : lw_At p s m meth c b 5 xs) (hbA : ¬ A b) (hA : ∀ q, s.heap.size ≤ q → A q) (hAs : ∀ q, A q → s.heap.size ≤ q) (hF : Ft s) (hZ : Zt d tc ad A s s.heap) {H : Heap} {locs : List Loc} (hK : va_K (dC, dI) vwCl [(kC, .object "ExamHalls$Candidate"), (kR, .object "ExamHalls$Reader"), (kB, .byte), (kl, .int), (km, .int), (ko, .int), (kp, .int), (kb, .long), (kq, .int), (kl2, .int), (km2, .int), (kq2, .int)] s) (hP : va_P (dC, dI) vwCl [(x, .inr (10, [.ref cd, .int 0, .ref rd, .int 0, .ref tp, .ref fo, .int 10, .ref qu, .int 0, .int 0, .ref sh, .ref vs, .ref pa, .ref pb])), (cd, .inl (kC, 24, .inr (.inr (.inr (.inr (fun _ => none)))))), (rd, .inl (kR, 6, .inr (.inr (.inr (.inr (fun _ => none)))))), (tp, .inr (9, [.ref tb, .int 0])), (tb, .inl (kB, 250, .inl (fun _ => 0))), (fo, .inr (7, [.int 1, .ref le, .ref mo, .ref os, .ref ps, .int 0, .ref br, .int 0])), (le, .inl (kl, 8, .inl fl)), (mo, .inl (km, 8, .inl fm)), (os, .inl (ko, 6, .inl (fun _ => 0))), (ps, .inl (kp, 6, .inl (fun _ => 0))), (br, .inl (kb, 8, .inr (.inl (fun _ => 0)))), (qu, .inl (kq, 4, .inl (fun _ => 0))), (mx, .inr (14, [.ref lc, .ref lr, .ref kn, .ref lt, .ref ml, .ref mm, .ref lp, .ref lb, .ref mq, .int 1, .int 10, .int 0, .int 0])), (lc, .inr (4, [.int 0, .ref d, .int 0])), (lr, .inr (4, [.int 0, .ref d, .int 0])), (lt, .inr (4, [.int 0, .ref d, .int 0])), (lp, .inr (4, [.int 0, .ref d, .int 0])), (lb, .inr (4, [.int 0, .ref d, .int 0])), (ml, .inl (kl2, 8, .inl fl2)), (mm, .inl (km2, 8, .inl fm2)), (mq, .inl (kq2, 4, .inl (fun _ => 0)))] H) (hD : va_D A [(x, .inr (10, [.ref cd, .int 0, .ref rd, .int 0, .ref tp, .ref fo, .int 10, .ref qu, .int 0, .int 0, .ref sh, .ref vs, .ref pa, .ref pb])), (cd, .inl (kC, 24, .inr (.inr (.inr (.inr (fun _ => none)))))), (rd, .inl (kR, 6, .inr (.inr (.inr (.inr (fun _ => none)))))), (tp, .inr (9, [.ref tb, .int 0])), (tb, .inl (kB, 250, .inl (fun _ => 0))), (fo, .inr (7, [.int 1, .ref le, .ref mo, .ref os, .ref ps, .int 0, .ref br, .int 0])), (le, .inl (kl, 8, .inl fl)), (mo, .inl (km, 8, .inl fm)), (os, .inl (ko, 6, .inl (fun _ => 0))), (ps, .inl (kp, 6, .inl (fun _ => 0))), (br, .inl (kb, 8, .inr (.inl (fun _ => 0)))), (qu, .inl (kq, 4, .inl (fun _ => 0))), (mx, .inr (14, [.ref lc, .ref lr, .ref kn, .ref lt, .ref ml, .ref mm, .ref lp, .ref lb, .ref mq, .int 1, .int 10, .int 0, .int 0])), (lc, .inr (4, [.int 0, .ref d, .int 0])), (lr, .inr (4, [.int 0, .ref d, .int 0])), (lt, .inr (4, [.int 0, .ref d, .int 0])), (lp, .inr (4, [.int 0, .ref d, .int 0])), (lb, .inr (4, [.int 0, .ref d, .int 0])), (ml, .inl (kl2, 8, .inl fl2)), (mm, .inl (km2, 8, .inl fm2)), (mq, .inl (kq2, 4, .inl (fun _ => 0)))]) (hS : va_S A s.heap H locs) {ls : Array Slot} (hl : lv_has ls 4 [(3, .int 0), (2, .ref mx), (1, .ref x), (0, .ref b)]) : W p l e room_1 s m #[Value.ref b] below meth c H locs 50 1070 (lw_Z below #[Value.ref b] s) (F0 m 18 ls []) := by
  obtain ⟨hx, hb, hr, hml, hown, hts0, hX, hbl, hlocks, hgv⟩ := id C0
  have hts := wsL_hts hts0
  refine lv_iload_n hx hb dL_law_18 rfl (lv_at hl 0 rfl) ?_
  refine lv_aload_n hx hb dL_law_19 rfl (lv_at hl 3 rfl) ?_
  refine va_slen hx hb hX hbl hbA hS dL_law_20 ?_
  refine lv_topi (fun f_1 ef_1 => ?_)
  obtain rfl : f_1 = 5 := ef_1
  refine lv_iconst (v := 5) hx hb dL_law_21 (by decide) ?_
  refine lv_isub hx hb dL_law_22 ?_
  refine lv_topi (fun f_2 ef_2 => ?_)
  obtain rfl : f_2 = 0 := ef_2.trans (by decide)
  refine lv_icmp_gt (tgt := 1223) hx hb dL_law_23 (by decide) (fun c_3 => absurd c_3 (by decide)) (fun _ => ?_)
  refine lv_aload_n hx hb dL_law_26 rfl (lv_at hl 3 rfl) ?_
  refine lv_iload_n hx hb dL_law_27 rfl (lv_at hl 0 rfl) ?_
  refine va_sld hx hb hX hbl hbA hS (by unfold vp_in; decide) dL_law_28 ?_
  refine lv_bipush (v := 63) hx hb dL_law_29 (by decide) ?_
  refine lv_iand hx hb dL_law_31 ?_
  generalize hx9 : ((xs (0 : Int32).toNatClampNeg) &&& 63) = v9
  rcases pk_ix v9 (n := 34) (by decide) with h9 | h9 | ⟨j, hj, rfl⟩
  · refine lv_tableOut (tgt := 1217) hx hb dL_law_32 (Or.inl (by have := Int32.lt_iff_toInt_lt.mp h9; simpa using this)) (by decide) ?_
    exact law_case34 (C0 := C0) hbA hA hAs hF hZ hK hP hD hS hl
  · refine lv_tableOut (tgt := 1217) hx hb dL_law_32 (Or.inr (by have := Int32.le_iff_toInt_le.mp h9; rw [nI_toInt (by decide)] at this; omega)) (by decide) ?_
    exact law_case34 (C0 := C0) hbA hA hAs hF hZ hK hP hD hS hl
  · clear hx9
    match j, hj with
    | 0, _ =>
      refine lv_tableIn (tgt := 184) hx hb dL_law_32 (by decide) (by decide) (off := 152) (by decide) (by decide) ?_
      exact law_case0 (C0 := C0) hbA hA hAs hF hZ hK hP hD hS hl
    | 1, _ =>
      refine lv_tableIn (tgt := 207) hx hb dL_law_32 (by decide) (by decide) (off := 175) (by decide) (by decide) ?_
      exact law_case1 (C0 := C0) hbA hA hAs hF hZ hK hP hD hS hl
    | 2, _ =>
      refine lv_tableIn (tgt := 270) hx hb dL_law_32 (by decide) (by decide) (off := 238) (by decide) (by decide) ?_
      exact law_case2 (C0 := C0) hbA hA hAs hF hZ hK hP hD hS hl
    | 3, _ =>
      refine lv_tableIn (tgt := 293) hx hb dL_law_32 (by decide) (by decide) (off := 261) (by decide) (by decide) ?_
      exact law_case3 (C0 := C0) hbA hA hAs hF hZ hK hP hD hS hl
    | 4, _ =>
      refine lv_tableIn (tgt := 326) hx hb dL_law_32 (by decide) (by decide) (off := 294) (by decide) (by decide) ?_
      exact law_case4 (C0 := C0) hbA hA hAs hF hZ hK hP hD hS hl
    | 5, _ =>
      refine lv_tableIn (tgt := 370) hx hb dL_law_32 (by decide) (by decide) (off := 338) (by decide) (by decide) ?_
      exact law_case5 (C0 := C0) hbA hA hAs hF hZ hK hP hD hS hl
    | 6, _ =>
      refine lv_tableIn (tgt := 393) hx hb dL_law_32 (by decide) (by decide) (off := 361) (by decide) (by decide) ?_
      exact law_case6 (C0 := C0) hbA hA hAs hF hZ hK hP hD hS hl
    | 7, _ =>
      refine lv_tableIn (tgt := 436) hx hb dL_law_32 (by decide) (by decide) (off := 404) (by decide) (by decide) ?_
      exact law_case7 (C0 := C0) hbA hA hAs hF hZ hK hP hD hS hl
    | 8, _ =>
      refine lv_tableIn (tgt := 469) hx hb dL_law_32 (by decide) (by decide) (off := 437) (by decide) (by decide) ?_
      exact law_case8 (C0 := C0) hbA hA hAs hF hZ hK hP hD hS hl
    | 9, _ =>
      refine lv_tableIn (tgt := 522) hx hb dL_law_32 (by decide) (by decide) (off := 490) (by decide) (by decide) ?_
      exact law_case9 (C0 := C0) hbA hA hAs hF hZ hK hP hD hS hl
    | 10, _ =>
      refine lv_tableIn (tgt := 545) hx hb dL_law_32 (by decide) (by decide) (off := 513) (by decide) (by decide) ?_
      exact law_case10 (C0 := C0) hbA hA hAs hF hZ hK hP hD hS hl
    | 11, _ =>
      refine lv_tableIn (tgt := 578) hx hb dL_law_32 (by decide) (by decide) (off := 546) (by decide) (by decide) ?_
      exact law_case11 (C0 := C0) hbA hA hAs hF hZ hK hP hD hS hl
    | 12, _ =>
      refine lv_tableIn (tgt := 611) hx hb dL_law_32 (by decide) (by decide) (off := 579) (by decide) (by decide) ?_
      exact law_case12 (C0 := C0) hbA hA hAs hF hZ hK hP hD hS hl
    | 13, _ =>
      refine lv_tableIn (tgt := 664) hx hb dL_law_32 (by decide) (by decide) (off := 632) (by decide) (by decide) ?_
      exact law_case13 (C0 := C0) hbA hA hAs hF hZ hK hP hD hS hl
    | 14, _ =>
      refine lv_tableIn (tgt := 687) hx hb dL_law_32 (by decide) (by decide) (off := 655) (by decide) (by decide) ?_
      exact law_case14 (C0 := C0) hbA hA hAs hF hZ hK hP hD hS hl
    | 15, _ =>
      refine lv_tableIn (tgt := 700) hx hb dL_law_32 (by decide) (by decide) (off := 668) (by decide) (by decide) ?_
      exact law_case15 (C0 := C0) hbA hA hAs hF hZ hK hP hD hS hl
    | 16, _ =>
      refine lv_tableIn (tgt := 733) hx hb dL_law_32 (by decide) (by decide) (off := 701) (by decide) (by decide) ?_
      exact law_case16 (C0 := C0) hbA hA hAs hF hZ hK hP hD hS hl
    | 17, _ =>
      refine lv_tableIn (tgt := 746) hx hb dL_law_32 (by decide) (by decide) (off := 714) (by decide) (by decide) ?_
      exact law_case17 (C0 := C0) hbA hA hAs hF hZ hK hP hD hS hl
    | 18, _ =>
      refine lv_tableIn (tgt := 759) hx hb dL_law_32 (by decide) (by decide) (off := 727) (by decide) (by decide) ?_
      exact law_case18 (C0 := C0) hbA hA hAs hF hZ hK hP hD hS hl
    | 19, _ =>
      refine lv_tableIn (tgt := 782) hx hb dL_law_32 (by decide) (by decide) (off := 750) (by decide) (by decide) ?_
      exact law_case19 (C0 := C0) hbA hA hAs hF hZ hK hP hD hS hl
    | 20, _ =>
      refine lv_tableIn (tgt := 825) hx hb dL_law_32 (by decide) (by decide) (off := 793) (by decide) (by decide) ?_
      exact law_case20 (C0 := C0) hbA hA hAs hF hZ hK hP hD hS hl
    | 21, _ =>
      refine lv_tableIn (tgt := 868) hx hb dL_law_32 (by decide) (by decide) (off := 836) (by decide) (by decide) ?_
      exact law_case21 (C0 := C0) hbA hA hAs hF hZ hK hP hD hS hl
    | 22, _ =>
      refine lv_tableIn (tgt := 891) hx hb dL_law_32 (by decide) (by decide) (off := 859) (by decide) (by decide) ?_
      exact law_case22 (C0 := C0) hbA hA hAs hF hZ hK hP hD hS hl
    | 23, _ =>
      refine lv_tableIn (tgt := 914) hx hb dL_law_32 (by decide) (by decide) (off := 882) (by decide) (by decide) ?_
      exact law_case23 (C0 := C0) hbA hA hAs hF hZ hK hP hD hS hl
    | 24, _ =>
      refine lv_tableIn (tgt := 947) hx hb dL_law_32 (by decide) (by decide) (off := 915) (by decide) (by decide) ?_
      exact law_case24 (C0 := C0) hbA hA hAs hF hZ hK hP hD hS hl
    | 25, _ =>
      refine lv_tableIn (tgt := 980) hx hb dL_law_32 (by decide) (by decide) (off := 948) (by decide) (by decide) ?_
      exact law_case25 (C0 := C0) hbA hA hAs hF hZ hK hP hD hS hl
    | 26, _ =>
      refine lv_tableIn (tgt := 1013) hx hb dL_law_32 (by decide) (by decide) (off := 981) (by decide) (by decide) ?_
      exact law_case26 (C0 := C0) hbA hA hAs hF hZ hK hP hD hS hl
    | 27, _ =>
      refine lv_tableIn (tgt := 1036) hx hb dL_law_32 (by decide) (by decide) (off := 1004) (by decide) (by decide) ?_
      exact law_case27 (C0 := C0) hbA hA hAs hF hZ hK hP hD hS hl
    | 28, _ =>
      refine lv_tableIn (tgt := 1059) hx hb dL_law_32 (by decide) (by decide) (off := 1027) (by decide) (by decide) ?_
      exact law_case28 (C0 := C0) hbA hA hAs hF hZ hK hP hD hS hl
    | 29, _ =>
      refine lv_tableIn (tgt := 1092) hx hb dL_law_32 (by decide) (by decide) (off := 1060) (by decide) (by decide) ?_
      exact law_case29 (C0 := C0) hbA hA hAs hF hZ hK hP hD hS hl
    | 30, _ =>
      refine lv_tableIn (tgt := 1115) hx hb dL_law_32 (by decide) (by decide) (off := 1083) (by decide) (by decide) ?_
      exact law_case30 (C0 := C0) hbA hA hAs hF hZ hK hP hD hS hl
    | 31, _ =>
      refine lv_tableIn (tgt := 1148) hx hb dL_law_32 (by decide) (by decide) (off := 1116) (by decide) (by decide) ?_
      exact law_case31 (C0 := C0) hbA hA hAs hF hZ hK hP hD hS hl
    | 32, _ =>
      refine lv_tableIn (tgt := 1181) hx hb dL_law_32 (by decide) (by decide) (off := 1149) (by decide) (by decide) ?_
      exact law_case32 (C0 := C0) hbA hA hAs hF hZ hK hP hD hS hl
    | 33, _ =>
      refine lv_tableIn (tgt := 1194) hx hb dL_law_32 (by decide) (by decide) (off := 1162) (by decide) (by decide) ?_
      exact law_case33 (C0 := C0) hbA hA hAs hF hZ hK hP hD hS hl
    | j + 34, h => omega
set_option maxHeartbeats 4000000 in
set_option maxRecDepth 100000 in
theorem whole_start {p : Program} {e : Env} {s : State} {m : MethodId} {below : List Frame} {meth : Method} {c : Code} (l : Launch) (hflags : l.flags = flags0) {b L : Nat} {xs : Nat → Int32} (hL : L ≤ 5) (C0 : lw_At p s m meth c b L xs) : W p l e room_1 s m #[Value.ref b] below meth c s.heap [] 0 0 (lw_Z below #[Value.ref b] s) (entryFrame m ([Value.ref b] : List Value).toArray 4) := by
  obtain ⟨hx, hb, hr, hml, hown, hts0, hX, hbl, hlocks, hgv⟩ := id C0
  have hts := wsL_hts hts0
  have hF := ft_of hts0
  obtain ⟨dC, dI, hKc⟩ := kn_of hts0
  generalize hAe : (fun q : Nat => s.heap.size ≤ q) = A
  have hA : ∀ q : Nat, s.heap.size ≤ q → A q := fun q h => by rw [← hAe]; exact h
  have hAs : ∀ q : Nat, A q → s.heap.size ≤ q := fun q h => by rw [← hAe] at h; exact h
  have hbA : ¬ A b := fun h => absurd (hAs _ h) (Nat.not_le.mpr hbl)
  obtain ⟨d, tc, ad, hZ⟩ := zt_of (A := A) hts0 hgv (fun a h1 h2 => absurd (hAs _ h2) (Nat.not_le.mpr h1))
  have hS : va_S A s.heap s.heap [] := va_S.rf
  have hK : va_K (dC, dI) vwCl [] s := ⟨hKc, fun k q h => by simp at h⟩
  have hP : va_P (dC, dI) vwCl [] s.heap := fun k q h => by simp at h
  have hD : va_D A [] := ⟨fun i j p q h => by simp at h, fun k q h => by simp at h⟩
  have hl := lv_entry ([.ref b]) (n := 4) (Nat.le_of_ble_eq_true rfl)
  rw [lg_entry_eq]
  generalize (lg_sl ([.ref b]) ++ List.replicate (4 - (lg_sl ([.ref b])).length) Slot.unset).toArray = ls at hl ⊢
  have hl : lv_has ls 4 [(0, .ref b)] := hl
  refine va_new (ci := 10) (fs := [.null, .int 0, .null, .int 0, .null, .null, .int 0, .null, .int 0, .int 0, .null, .null, .null, .null]) (C := RX5) (T := TX5) (N := 14) hx hb hts inlX5 tyX5 tyX5_ok hown (hts0 (.classLink RL 7 RX5) (List.mem_of_getElem? (i := 133) (by decide +kernel))) (hts0 (.instantiable RX5 14) (List.mem_of_getElem? (i := 134) (by decide +kernel))) (hts0 (.initialized RX5) (List.mem_of_getElem? (i := 94) (by decide +kernel))) hK hP hD hS hA rfl dfX5 (Nat.le_of_ble_eq_true rfl) (Nat.le_of_ble_eq_true rfl) dL_law_0 (fun q_1 H hP hD hS => ?_)
  have hP : va_P (dC, dI) vwCl [(q_1, .inr (10, [.null, .int 0, .null, .int 0, .null, .null, .int 0, .null, .int 0, .int 0, .null, .null, .null, .null]))] H := hP
  have hD : va_D A [(q_1, .inr (10, [.null, .int 0, .null, .int 0, .null, .null, .int 0, .null, .int 0, .int 0, .null, .null, .null, .null]))] := hD
  refine W.widen (k := 1) (n := 14) (Nat.le_of_ble_eq_true rfl) (Nat.le_of_ble_eq_true rfl) ?_
  refine lv_dup hx hb dL_law_3 rfl ?_
  have hPc := hP.sub (ws' := [(q_1, .inr (10, [.null, .int 0, .null, .int 0, .null, .null, .int 0, .null, .int 0, .int 0, .null, .null, .null, .null]))]) [0] rfl
  have hDc := hD.sub (ws' := [(q_1, .inr (10, [.null, .int 0, .null, .int 0, .null, .null, .int 0, .null, .int 0, .int 0, .null, .null, .null, .null]))]) [0] (by decide) rfl
  have hKc := hK.sub (tys' := []) [] rfl
  have hFc := va_free (wc := [(q_1, .inr (10, [.null, .int 0, .null, .int 0, .null, .null, .int 0, .null, .int 0, .int 0, .null, .null, .null, .null]))]) hD hS hA [0] rfl
  refine va_callv (va_runI (As := []) (rest := [.ref q_1]) ⟨hx, hb, hml, hown, hts⟩ (c_X5_init l dC dI q_1 H.size) (cwI 0 hts gL_law_X5_init rfl rfl rfl (hts0 (.initialized RX5) (List.mem_of_getElem? (i := 94) (by decide +kernel))) (hts0 (.methodLink RL 9 yX5_init) (List.mem_of_getElem? (i := 135) (by decide +kernel))) (hts0 (.instanceMethod yX5_init) (List.mem_of_getElem? (i := 136) (by decide +kernel))) rfl (by decide +kernel) ⟨Nat.le_of_ble_eq_true rfl, Nat.le_of_ble_eq_true rfl⟩) ⟨PQ_blind, PQ_pre hPc hKc hDc hF⟩ rfl rfl hl.1 rfl (lv_room (Nat.le_of_ble_eq_true rfl)) dL_law_4 ⟨Nat.le_of_ble_eq_true rfl, Nat.le_of_ble_eq_true rfl⟩) hS (fun q _ h => hFc q h) hFc (fun u t H1 locs ht hvm hw hB hz1 hk1 hS => ?_)
  obtain ⟨cd_3, rd_4, tp_5, fo_6, qu_7, sh_8, vs_9, pa_10, pb_11, tb_12, le_13, mo_14, os_15, ps_16, br_17, kl_18, km_19, ko_20, kp_21, kb_22, fl_23, fm_24, kC_25, kR_26, kB_27, kq_28, hP1, hK1, hD1⟩ := hB
  rw [ht] at hP1
  have hK1 := va_K.moved hvm.symm hK1
  obtain ⟨hP, hD⟩ := va_join (wr := []) (w1 := [(q_1, .inr (10, [.ref cd_3, .int 0, .ref rd_4, .int 0, .ref tp_5, .ref fo_6, .int 10, .ref qu_7, .int 0, .int 0, .ref sh_8, .ref vs_9, .ref pa_10, .ref pb_11])), (cd_3, .inl (kC_25, 24, .inr (.inr (.inr (.inr (fun _ => none)))))), (rd_4, .inl (kR_26, 6, .inr (.inr (.inr (.inr (fun _ => none)))))), (tp_5, .inr (9, [.ref tb_12, .int 0])), (tb_12, .inl (kB_27, 250, .inl (fun _ => 0))), (fo_6, .inr (7, [.int 1, .ref le_13, .ref mo_14, .ref os_15, .ref ps_16, .int 0, .ref br_17, .int 0])), (le_13, .inl (kl_18, 8, .inl fl_23)), (mo_14, .inl (km_19, 8, .inl fm_24)), (os_15, .inl (ko_20, 6, .inl (fun _ => 0))), (ps_16, .inl (kp_21, 6, .inl (fun _ => 0))), (br_17, .inl (kb_22, 8, .inr (.inl (fun _ => 0)))), (qu_7, .inl (kq_28, 4, .inl (fun _ => 0)))]) hP hD [0] [] rfl rfl (by decide) (by decide) hk1 hFc hP1 hD1
  have hK := hK.app hK1
  generalize H1 = H at hP hS ⊢
  have hP : va_P (dC, dI) vwCl [(q_1, .inr (10, [.ref cd_3, .int 0, .ref rd_4, .int 0, .ref tp_5, .ref fo_6, .int 10, .ref qu_7, .int 0, .int 0, .ref sh_8, .ref vs_9, .ref pa_10, .ref pb_11])), (cd_3, .inl (kC_25, 24, .inr (.inr (.inr (.inr (fun _ => none)))))), (rd_4, .inl (kR_26, 6, .inr (.inr (.inr (.inr (fun _ => none)))))), (tp_5, .inr (9, [.ref tb_12, .int 0])), (tb_12, .inl (kB_27, 250, .inl (fun _ => 0))), (fo_6, .inr (7, [.int 1, .ref le_13, .ref mo_14, .ref os_15, .ref ps_16, .int 0, .ref br_17, .int 0])), (le_13, .inl (kl_18, 8, .inl fl_23)), (mo_14, .inl (km_19, 8, .inl fm_24)), (os_15, .inl (ko_20, 6, .inl (fun _ => 0))), (ps_16, .inl (kp_21, 6, .inl (fun _ => 0))), (br_17, .inl (kb_22, 8, .inr (.inl (fun _ => 0)))), (qu_7, .inl (kq_28, 4, .inl (fun _ => 0)))] H := hP
  have hD : va_D A [(q_1, .inr (10, [.ref cd_3, .int 0, .ref rd_4, .int 0, .ref tp_5, .ref fo_6, .int 10, .ref qu_7, .int 0, .int 0, .ref sh_8, .ref vs_9, .ref pa_10, .ref pb_11])), (cd_3, .inl (kC_25, 24, .inr (.inr (.inr (.inr (fun _ => none)))))), (rd_4, .inl (kR_26, 6, .inr (.inr (.inr (.inr (fun _ => none)))))), (tp_5, .inr (9, [.ref tb_12, .int 0])), (tb_12, .inl (kB_27, 250, .inl (fun _ => 0))), (fo_6, .inr (7, [.int 1, .ref le_13, .ref mo_14, .ref os_15, .ref ps_16, .int 0, .ref br_17, .int 0])), (le_13, .inl (kl_18, 8, .inl fl_23)), (mo_14, .inl (km_19, 8, .inl fm_24)), (os_15, .inl (ko_20, 6, .inl (fun _ => 0))), (ps_16, .inl (kp_21, 6, .inl (fun _ => 0))), (br_17, .inl (kb_22, 8, .inr (.inl (fun _ => 0)))), (qu_7, .inl (kq_28, 4, .inl (fun _ => 0)))] := hD
  have hK : va_K (dC, dI) vwCl [(kC_25, .object "ExamHalls$Candidate"), (kR_26, .object "ExamHalls$Reader"), (kB_27, .byte), (kl_18, .int), (km_19, .int), (ko_20, .int), (kp_21, .int), (kb_22, .long), (kq_28, .int)] s := hK
  refine W.widen (k := 16) (n := 422) (Nat.le_of_ble_eq_true rfl) (Nat.le_of_ble_eq_true rfl) ?_
  refine lv_astore_n (lv' := [(1, .ref q_1), (0, .ref b)]) hx hb dL_law_7 rfl hl (by decide) rfl (fun ls hl => ?_)
  refine va_new (ci := 14) (fs := [.null, .null, .null, .null, .null, .null, .null, .null, .null, .int 0, .int 0, .int 0, .int 0]) (C := RX9) (T := TX9) (N := 13) hx hb hts inlX9 tyX9 tyX9_ok hown (hts0 (.classLink RL 10 RX9) (List.mem_of_getElem? (i := 742) (by decide +kernel))) (hts0 (.instantiable RX9 13) (List.mem_of_getElem? (i := 743) (by decide +kernel))) (hts0 (.initialized RX9) (List.mem_of_getElem? (i := 97) (by decide +kernel))) hK hP hD hS hA rfl dfX9 (Nat.le_of_ble_eq_true rfl) (Nat.le_of_ble_eq_true rfl) dL_law_8 (fun q_29 H hP hD hS => ?_)
  have hP : va_P (dC, dI) vwCl [(q_1, .inr (10, [.ref cd_3, .int 0, .ref rd_4, .int 0, .ref tp_5, .ref fo_6, .int 10, .ref qu_7, .int 0, .int 0, .ref sh_8, .ref vs_9, .ref pa_10, .ref pb_11])), (cd_3, .inl (kC_25, 24, .inr (.inr (.inr (.inr (fun _ => none)))))), (rd_4, .inl (kR_26, 6, .inr (.inr (.inr (.inr (fun _ => none)))))), (tp_5, .inr (9, [.ref tb_12, .int 0])), (tb_12, .inl (kB_27, 250, .inl (fun _ => 0))), (fo_6, .inr (7, [.int 1, .ref le_13, .ref mo_14, .ref os_15, .ref ps_16, .int 0, .ref br_17, .int 0])), (le_13, .inl (kl_18, 8, .inl fl_23)), (mo_14, .inl (km_19, 8, .inl fm_24)), (os_15, .inl (ko_20, 6, .inl (fun _ => 0))), (ps_16, .inl (kp_21, 6, .inl (fun _ => 0))), (br_17, .inl (kb_22, 8, .inr (.inl (fun _ => 0)))), (qu_7, .inl (kq_28, 4, .inl (fun _ => 0))), (q_29, .inr (14, [.null, .null, .null, .null, .null, .null, .null, .null, .null, .int 0, .int 0, .int 0, .int 0]))] H := hP
  have hD : va_D A [(q_1, .inr (10, [.ref cd_3, .int 0, .ref rd_4, .int 0, .ref tp_5, .ref fo_6, .int 10, .ref qu_7, .int 0, .int 0, .ref sh_8, .ref vs_9, .ref pa_10, .ref pb_11])), (cd_3, .inl (kC_25, 24, .inr (.inr (.inr (.inr (fun _ => none)))))), (rd_4, .inl (kR_26, 6, .inr (.inr (.inr (.inr (fun _ => none)))))), (tp_5, .inr (9, [.ref tb_12, .int 0])), (tb_12, .inl (kB_27, 250, .inl (fun _ => 0))), (fo_6, .inr (7, [.int 1, .ref le_13, .ref mo_14, .ref os_15, .ref ps_16, .int 0, .ref br_17, .int 0])), (le_13, .inl (kl_18, 8, .inl fl_23)), (mo_14, .inl (km_19, 8, .inl fm_24)), (os_15, .inl (ko_20, 6, .inl (fun _ => 0))), (ps_16, .inl (kp_21, 6, .inl (fun _ => 0))), (br_17, .inl (kb_22, 8, .inr (.inl (fun _ => 0)))), (qu_7, .inl (kq_28, 4, .inl (fun _ => 0))), (q_29, .inr (14, [.null, .null, .null, .null, .null, .null, .null, .null, .null, .int 0, .int 0, .int 0, .int 0]))] := hD
  refine W.widen (k := 17) (n := 435) (Nat.le_of_ble_eq_true rfl) (Nat.le_of_ble_eq_true rfl) ?_
  refine lv_dup hx hb dL_law_11 rfl ?_
  have hPc := hP.sub (ws' := [(q_29, .inr (14, [.null, .null, .null, .null, .null, .null, .null, .null, .null, .int 0, .int 0, .int 0, .int 0]))]) [12] rfl
  have hDc := hD.sub (ws' := [(q_29, .inr (14, [.null, .null, .null, .null, .null, .null, .null, .null, .null, .int 0, .int 0, .int 0, .int 0]))]) [12] (by decide) rfl
  have hKc := hK.sub (tys' := []) [] rfl
  have hFc := va_free (wc := [(q_29, .inr (14, [.null, .null, .null, .null, .null, .null, .null, .null, .null, .int 0, .int 0, .int 0, .int 0]))]) hD hS hA [12] rfl
  refine va_callv (va_runI (As := []) (rest := [.ref q_29]) ⟨hx, hb, hml, hown, hts⟩ (c_X9_init l dC dI d tc ad q_29 H.size) (cwI 0 hts gL_law_X9_init rfl rfl rfl (hts0 (.initialized RX9) (List.mem_of_getElem? (i := 97) (by decide +kernel))) (hts0 (.methodLink RL 12 yX9_init) (List.mem_of_getElem? (i := 744) (by decide +kernel))) (hts0 (.instanceMethod yX9_init) (List.mem_of_getElem? (i := 745) (by decide +kernel))) rfl (by decide +kernel) ⟨Nat.le_of_ble_eq_true rfl, Nat.le_of_ble_eq_true rfl⟩) ⟨PZ_blind, PZ_pre hPc hKc hDc hF hZ hS hFc⟩ rfl rfl hl.1 rfl (lv_room (Nat.le_of_ble_eq_true rfl)) dL_law_12 ⟨Nat.le_of_ble_eq_true rfl, Nat.le_of_ble_eq_true rfl⟩) hS (fun q _ h => hFc q h) hFc (fun u t H1 locs ht hvm hw hB hz1 hk1 hS => ?_)
  obtain ⟨lc_31, lr_32, kn_33, lt_34, ml_35, mm_36, lp_37, lb_38, mq_39, kl_40, km_41, kq_42, fl_43, fm_44, hP1, hK1, hD1⟩ := hB
  rw [ht] at hP1
  have hK1 := va_K.moved hvm.symm hK1
  obtain ⟨hP, hD⟩ := va_join (wr := [(q_1, .inr (10, [.ref cd_3, .int 0, .ref rd_4, .int 0, .ref tp_5, .ref fo_6, .int 10, .ref qu_7, .int 0, .int 0, .ref sh_8, .ref vs_9, .ref pa_10, .ref pb_11])), (cd_3, .inl (kC_25, 24, .inr (.inr (.inr (.inr (fun _ => none)))))), (rd_4, .inl (kR_26, 6, .inr (.inr (.inr (.inr (fun _ => none)))))), (tp_5, .inr (9, [.ref tb_12, .int 0])), (tb_12, .inl (kB_27, 250, .inl (fun _ => 0))), (fo_6, .inr (7, [.int 1, .ref le_13, .ref mo_14, .ref os_15, .ref ps_16, .int 0, .ref br_17, .int 0])), (le_13, .inl (kl_18, 8, .inl fl_23)), (mo_14, .inl (km_19, 8, .inl fm_24)), (os_15, .inl (ko_20, 6, .inl (fun _ => 0))), (ps_16, .inl (kp_21, 6, .inl (fun _ => 0))), (br_17, .inl (kb_22, 8, .inr (.inl (fun _ => 0)))), (qu_7, .inl (kq_28, 4, .inl (fun _ => 0)))]) (w1 := [(q_29, .inr (14, [.ref lc_31, .ref lr_32, .ref kn_33, .ref lt_34, .ref ml_35, .ref mm_36, .ref lp_37, .ref lb_38, .ref mq_39, .int 1, .int 10, .int 0, .int 0])), (lc_31, .inr (4, [.int 0, .ref d, .int 0])), (lr_32, .inr (4, [.int 0, .ref d, .int 0])), (lt_34, .inr (4, [.int 0, .ref d, .int 0])), (lp_37, .inr (4, [.int 0, .ref d, .int 0])), (lb_38, .inr (4, [.int 0, .ref d, .int 0])), (ml_35, .inl (kl_40, 8, .inl fl_43)), (mm_36, .inl (km_41, 8, .inl fm_44)), (mq_39, .inl (kq_42, 4, .inl (fun _ => 0)))]) hP hD [12] [0, 1, 2, 3, 4, 5, 6, 7, 8, 9, 10, 11] rfl rfl (by decide) (by decide) hk1 hFc hP1 hD1
  have hK := hK.app hK1
  generalize H1 = H at hP hS ⊢
  have hP : va_P (dC, dI) vwCl [(q_1, .inr (10, [.ref cd_3, .int 0, .ref rd_4, .int 0, .ref tp_5, .ref fo_6, .int 10, .ref qu_7, .int 0, .int 0, .ref sh_8, .ref vs_9, .ref pa_10, .ref pb_11])), (cd_3, .inl (kC_25, 24, .inr (.inr (.inr (.inr (fun _ => none)))))), (rd_4, .inl (kR_26, 6, .inr (.inr (.inr (.inr (fun _ => none)))))), (tp_5, .inr (9, [.ref tb_12, .int 0])), (tb_12, .inl (kB_27, 250, .inl (fun _ => 0))), (fo_6, .inr (7, [.int 1, .ref le_13, .ref mo_14, .ref os_15, .ref ps_16, .int 0, .ref br_17, .int 0])), (le_13, .inl (kl_18, 8, .inl fl_23)), (mo_14, .inl (km_19, 8, .inl fm_24)), (os_15, .inl (ko_20, 6, .inl (fun _ => 0))), (ps_16, .inl (kp_21, 6, .inl (fun _ => 0))), (br_17, .inl (kb_22, 8, .inr (.inl (fun _ => 0)))), (qu_7, .inl (kq_28, 4, .inl (fun _ => 0))), (q_29, .inr (14, [.ref lc_31, .ref lr_32, .ref kn_33, .ref lt_34, .ref ml_35, .ref mm_36, .ref lp_37, .ref lb_38, .ref mq_39, .int 1, .int 10, .int 0, .int 0])), (lc_31, .inr (4, [.int 0, .ref d, .int 0])), (lr_32, .inr (4, [.int 0, .ref d, .int 0])), (lt_34, .inr (4, [.int 0, .ref d, .int 0])), (lp_37, .inr (4, [.int 0, .ref d, .int 0])), (lb_38, .inr (4, [.int 0, .ref d, .int 0])), (ml_35, .inl (kl_40, 8, .inl fl_43)), (mm_36, .inl (km_41, 8, .inl fm_44)), (mq_39, .inl (kq_42, 4, .inl (fun _ => 0)))] H := hP
  have hD : va_D A [(q_1, .inr (10, [.ref cd_3, .int 0, .ref rd_4, .int 0, .ref tp_5, .ref fo_6, .int 10, .ref qu_7, .int 0, .int 0, .ref sh_8, .ref vs_9, .ref pa_10, .ref pb_11])), (cd_3, .inl (kC_25, 24, .inr (.inr (.inr (.inr (fun _ => none)))))), (rd_4, .inl (kR_26, 6, .inr (.inr (.inr (.inr (fun _ => none)))))), (tp_5, .inr (9, [.ref tb_12, .int 0])), (tb_12, .inl (kB_27, 250, .inl (fun _ => 0))), (fo_6, .inr (7, [.int 1, .ref le_13, .ref mo_14, .ref os_15, .ref ps_16, .int 0, .ref br_17, .int 0])), (le_13, .inl (kl_18, 8, .inl fl_23)), (mo_14, .inl (km_19, 8, .inl fm_24)), (os_15, .inl (ko_20, 6, .inl (fun _ => 0))), (ps_16, .inl (kp_21, 6, .inl (fun _ => 0))), (br_17, .inl (kb_22, 8, .inr (.inl (fun _ => 0)))), (qu_7, .inl (kq_28, 4, .inl (fun _ => 0))), (q_29, .inr (14, [.ref lc_31, .ref lr_32, .ref kn_33, .ref lt_34, .ref ml_35, .ref mm_36, .ref lp_37, .ref lb_38, .ref mq_39, .int 1, .int 10, .int 0, .int 0])), (lc_31, .inr (4, [.int 0, .ref d, .int 0])), (lr_32, .inr (4, [.int 0, .ref d, .int 0])), (lt_34, .inr (4, [.int 0, .ref d, .int 0])), (lp_37, .inr (4, [.int 0, .ref d, .int 0])), (lb_38, .inr (4, [.int 0, .ref d, .int 0])), (ml_35, .inl (kl_40, 8, .inl fl_43)), (mm_36, .inl (km_41, 8, .inl fm_44)), (mq_39, .inl (kq_42, 4, .inl (fun _ => 0)))] := hD
  have hK : va_K (dC, dI) vwCl [(kC_25, .object "ExamHalls$Candidate"), (kR_26, .object "ExamHalls$Reader"), (kB_27, .byte), (kl_18, .int), (km_19, .int), (ko_20, .int), (kp_21, .int), (kb_22, .long), (kq_28, .int), (kl_40, .int), (km_41, .int), (kq_42, .int)] s := hK
  refine W.widen (k := 50) (n := 1070) (Nat.le_of_ble_eq_true rfl) (Nat.le_of_ble_eq_true rfl) ?_
  refine lv_astore_n (lv' := [(2, .ref q_29), (1, .ref q_1), (0, .ref b)]) hx hb dL_law_15 rfl hl (by decide) rfl (fun ls hl => ?_)
  refine lv_iconst (v := 0) hx hb dL_law_16 (by decide) ?_
  refine lv_istore_n (lv' := [(3, .int 0), (2, .ref q_29), (1, .ref q_1), (0, .ref b)]) hx hb dL_law_17 rfl hl (by decide) rfl (fun ls hl => ?_)
  rcases (show L = 0 ∨ L = 1 ∨ L = 2 ∨ L = 3 ∨ L = 4 ∨ L = 5 by omega) with rfl | rfl | rfl | rfl | rfl | rfl
  · exact law_short0 (C0 := C0) hbA hAs hS (lv_sub hl [0, 3] rfl) (Nat.le_of_ble_eq_true rfl) (Nat.le_of_ble_eq_true rfl)
  · exact law_short1 (C0 := C0) hbA hAs hS (lv_sub hl [0, 3] rfl) (Nat.le_of_ble_eq_true rfl) (Nat.le_of_ble_eq_true rfl)
  · exact law_short2 (C0 := C0) hbA hAs hS (lv_sub hl [0, 3] rfl) (Nat.le_of_ble_eq_true rfl) (Nat.le_of_ble_eq_true rfl)
  · exact law_short3 (C0 := C0) hbA hAs hS (lv_sub hl [0, 3] rfl) (Nat.le_of_ble_eq_true rfl) (Nat.le_of_ble_eq_true rfl)
  · exact law_short4 (C0 := C0) hbA hAs hS (lv_sub hl [0, 3] rfl) (Nat.le_of_ble_eq_true rfl) (Nat.le_of_ble_eq_true rfl)
  · exact law_body (C0 := C0) hbA hA hAs hF hZ (hK.sub [0, 1, 2, 3, 4, 5, 6, 7, 8, 9, 10, 11] rfl) (hP.sub [0, 1, 2, 3, 4, 5, 6, 7, 8, 9, 10, 11, 12, 13, 14, 15, 16, 17, 18, 19, 20] rfl) (hD.sub [0, 1, 2, 3, 4, 5, 6, 7, 8, 9, 10, 11, 12, 13, 14, 15, 16, 17, 18, 19, 20] (by decide) rfl) hS (lv_sub hl [0, 1, 2, 3] rfl)
