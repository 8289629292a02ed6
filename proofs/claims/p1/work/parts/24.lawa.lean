set_option maxHeartbeats 4000000 in
set_option maxRecDepth 100000 in
theorem law_end {p : Program} {l : Launch} {e : Env} {s : State} {m : MethodId} {below : List Frame} {meth : Method} {c : Code} {b : Nat} {xs : Nat → Int32} {A : Nat → Prop} (C0 : lw_At p s m meth c b 5 xs) (hbA : ¬ A b) (hAs : ∀ q, A q → s.heap.size ≤ q) {H : Heap} {locs : List Loc} (hS : va_S A s.heap H locs) {ls : Array Slot} (hl : lv_has ls 4 [(3, .int 5), (0, .ref b)]) {cells slots : Nat} (h1 : cells ≤ 600002) (h2 : slots ≤ 7302232) : W p l e room_1 s m #[Value.ref b] below meth c H locs cells slots (lw_Z below #[Value.ref b] s) (F0 m 18 ls []) := by
  obtain ⟨hx, hb, hr, hml, hown, hts0, hX, hbl, hlocks, hgv⟩ := C0
  refine lv_iload_n hx hb dL_law_18 rfl (lv_at hl 0 rfl) ?_
  refine lv_aload_n hx hb dL_law_19 rfl (lv_at hl 1 rfl) ?_
  refine va_slen hx hb hX hbl hbA hS dL_law_20 ?_
  refine lv_topi (fun f_1 ef_1 => ?_)
  obtain rfl : f_1 = 5 := ef_1
  refine lv_iconst (v := 5) hx hb dL_law_21 (by decide) ?_
  refine lv_isub hx hb dL_law_22 ?_
  refine lv_topi (fun f_2 ef_2 => ?_)
  obtain rfl : f_2 = 0 := ef_2.trans (by decide)
  refine lv_icmp_gt (tgt := 1223) hx hb dL_law_23 (by decide) (fun _ => ?_) (fun c_3 => absurd (by decide) c_3)
  refine lv_iconst (v := 1) hx hb dL_law_1223 (by decide) ?_
  refine va_forget (fun q hq => hAs _ (hS.2.2 q hq)) ?_
  refine W.widen (k := 600002) (n := 7302232) h1 h2 ?_
  exact lw_ret hx hb hr hlocks dL_law_1224

set_option maxHeartbeats 4000000 in
set_option maxRecDepth 100000 in
theorem law_short0 {p : Program} {l : Launch} {e : Env} {s : State} {m : MethodId} {below : List Frame} {meth : Method} {c : Code} {b : Nat} {xs : Nat → Int32} {A : Nat → Prop} (C0 : lw_At p s m meth c b 0 xs) (hbA : ¬ A b) (hAs : ∀ q, A q → s.heap.size ≤ q) {H : Heap} {locs : List Loc} (hS : va_S A s.heap H locs) {ls : Array Slot} (hl : lv_has ls 4 [(3, .int 0), (0, .ref b)]) {cells slots : Nat} (h1 : cells ≤ 600002) (h2 : slots ≤ 7302232) : W p l e room_1 s m #[Value.ref b] below meth c H locs cells slots (lw_Z below #[Value.ref b] s) (F0 m 18 ls []) := by
  obtain ⟨hx, hb, hr, hml, hown, hts0, hX, hbl, hlocks, hgv⟩ := C0
  refine lv_iload_n hx hb dL_law_18 rfl (lv_at hl 0 rfl) ?_
  refine lv_aload_n hx hb dL_law_19 rfl (lv_at hl 1 rfl) ?_
  refine va_slen hx hb hX hbl hbA hS dL_law_20 ?_
  refine lv_topi (fun f_1 ef_1 => ?_)
  obtain rfl : f_1 = 0 := ef_1
  refine lv_iconst (v := 5) hx hb dL_law_21 (by decide) ?_
  refine lv_isub hx hb dL_law_22 ?_
  refine lv_topi (fun f_2 ef_2 => ?_)
  obtain rfl : f_2 = (-5) := ef_2.trans (by decide)
  refine lv_icmp_gt (tgt := 1223) hx hb dL_law_23 (by decide) (fun _ => ?_) (fun c_3 => absurd (by decide) c_3)
  refine lv_iconst (v := 1) hx hb dL_law_1223 (by decide) ?_
  refine va_forget (fun q hq => hAs _ (hS.2.2 q hq)) ?_
  refine W.widen (k := 600002) (n := 7302232) h1 h2 ?_
  exact lw_ret hx hb hr hlocks dL_law_1224

set_option maxHeartbeats 4000000 in
set_option maxRecDepth 100000 in
theorem law_short1 {p : Program} {l : Launch} {e : Env} {s : State} {m : MethodId} {below : List Frame} {meth : Method} {c : Code} {b : Nat} {xs : Nat → Int32} {A : Nat → Prop} (C0 : lw_At p s m meth c b 1 xs) (hbA : ¬ A b) (hAs : ∀ q, A q → s.heap.size ≤ q) {H : Heap} {locs : List Loc} (hS : va_S A s.heap H locs) {ls : Array Slot} (hl : lv_has ls 4 [(3, .int 0), (0, .ref b)]) {cells slots : Nat} (h1 : cells ≤ 600002) (h2 : slots ≤ 7302232) : W p l e room_1 s m #[Value.ref b] below meth c H locs cells slots (lw_Z below #[Value.ref b] s) (F0 m 18 ls []) := by
  obtain ⟨hx, hb, hr, hml, hown, hts0, hX, hbl, hlocks, hgv⟩ := C0
  refine lv_iload_n hx hb dL_law_18 rfl (lv_at hl 0 rfl) ?_
  refine lv_aload_n hx hb dL_law_19 rfl (lv_at hl 1 rfl) ?_
  refine va_slen hx hb hX hbl hbA hS dL_law_20 ?_
  refine lv_topi (fun f_1 ef_1 => ?_)
  obtain rfl : f_1 = 1 := ef_1
  refine lv_iconst (v := 5) hx hb dL_law_21 (by decide) ?_
  refine lv_isub hx hb dL_law_22 ?_
  refine lv_topi (fun f_2 ef_2 => ?_)
  obtain rfl : f_2 = (-4) := ef_2.trans (by decide)
  refine lv_icmp_gt (tgt := 1223) hx hb dL_law_23 (by decide) (fun _ => ?_) (fun c_3 => absurd (by decide) c_3)
  refine lv_iconst (v := 1) hx hb dL_law_1223 (by decide) ?_
  refine va_forget (fun q hq => hAs _ (hS.2.2 q hq)) ?_
  refine W.widen (k := 600002) (n := 7302232) h1 h2 ?_
  exact lw_ret hx hb hr hlocks dL_law_1224

set_option maxHeartbeats 4000000 in
set_option maxRecDepth 100000 in
theorem law_short2 {p : Program} {l : Launch} {e : Env} {s : State} {m : MethodId} {below : List Frame} {meth : Method} {c : Code} {b : Nat} {xs : Nat → Int32} {A : Nat → Prop} (C0 : lw_At p s m meth c b 2 xs) (hbA : ¬ A b) (hAs : ∀ q, A q → s.heap.size ≤ q) {H : Heap} {locs : List Loc} (hS : va_S A s.heap H locs) {ls : Array Slot} (hl : lv_has ls 4 [(3, .int 0), (0, .ref b)]) {cells slots : Nat} (h1 : cells ≤ 600002) (h2 : slots ≤ 7302232) : W p l e room_1 s m #[Value.ref b] below meth c H locs cells slots (lw_Z below #[Value.ref b] s) (F0 m 18 ls []) := by
  obtain ⟨hx, hb, hr, hml, hown, hts0, hX, hbl, hlocks, hgv⟩ := C0
  refine lv_iload_n hx hb dL_law_18 rfl (lv_at hl 0 rfl) ?_
  refine lv_aload_n hx hb dL_law_19 rfl (lv_at hl 1 rfl) ?_
  refine va_slen hx hb hX hbl hbA hS dL_law_20 ?_
  refine lv_topi (fun f_1 ef_1 => ?_)
  obtain rfl : f_1 = 2 := ef_1
  refine lv_iconst (v := 5) hx hb dL_law_21 (by decide) ?_
  refine lv_isub hx hb dL_law_22 ?_
  refine lv_topi (fun f_2 ef_2 => ?_)
  obtain rfl : f_2 = (-3) := ef_2.trans (by decide)
  refine lv_icmp_gt (tgt := 1223) hx hb dL_law_23 (by decide) (fun _ => ?_) (fun c_3 => absurd (by decide) c_3)
  refine lv_iconst (v := 1) hx hb dL_law_1223 (by decide) ?_
  refine va_forget (fun q hq => hAs _ (hS.2.2 q hq)) ?_
  refine W.widen (k := 600002) (n := 7302232) h1 h2 ?_
  exact lw_ret hx hb hr hlocks dL_law_1224

set_option maxHeartbeats 4000000 in
set_option maxRecDepth 100000 in
theorem law_short3 {p : Program} {l : Launch} {e : Env} {s : State} {m : MethodId} {below : List Frame} {meth : Method} {c : Code} {b : Nat} {xs : Nat → Int32} {A : Nat → Prop} (C0 : lw_At p s m meth c b 3 xs) (hbA : ¬ A b) (hAs : ∀ q, A q → s.heap.size ≤ q) {H : Heap} {locs : List Loc} (hS : va_S A s.heap H locs) {ls : Array Slot} (hl : lv_has ls 4 [(3, .int 0), (0, .ref b)]) {cells slots : Nat} (h1 : cells ≤ 600002) (h2 : slots ≤ 7302232) : W p l e room_1 s m #[Value.ref b] below meth c H locs cells slots (lw_Z below #[Value.ref b] s) (F0 m 18 ls []) := by
  obtain ⟨hx, hb, hr, hml, hown, hts0, hX, hbl, hlocks, hgv⟩ := C0
  refine lv_iload_n hx hb dL_law_18 rfl (lv_at hl 0 rfl) ?_
  refine lv_aload_n hx hb dL_law_19 rfl (lv_at hl 1 rfl) ?_
  refine va_slen hx hb hX hbl hbA hS dL_law_20 ?_
  refine lv_topi (fun f_1 ef_1 => ?_)
  obtain rfl : f_1 = 3 := ef_1
  refine lv_iconst (v := 5) hx hb dL_law_21 (by decide) ?_
  refine lv_isub hx hb dL_law_22 ?_
  refine lv_topi (fun f_2 ef_2 => ?_)
  obtain rfl : f_2 = (-2) := ef_2.trans (by decide)
  refine lv_icmp_gt (tgt := 1223) hx hb dL_law_23 (by decide) (fun _ => ?_) (fun c_3 => absurd (by decide) c_3)
  refine lv_iconst (v := 1) hx hb dL_law_1223 (by decide) ?_
  refine va_forget (fun q hq => hAs _ (hS.2.2 q hq)) ?_
  refine W.widen (k := 600002) (n := 7302232) h1 h2 ?_
  exact lw_ret hx hb hr hlocks dL_law_1224

set_option maxHeartbeats 4000000 in
set_option maxRecDepth 100000 in
theorem law_short4 {p : Program} {l : Launch} {e : Env} {s : State} {m : MethodId} {below : List Frame} {meth : Method} {c : Code} {b : Nat} {xs : Nat → Int32} {A : Nat → Prop} (C0 : lw_At p s m meth c b 4 xs) (hbA : ¬ A b) (hAs : ∀ q, A q → s.heap.size ≤ q) {H : Heap} {locs : List Loc} (hS : va_S A s.heap H locs) {ls : Array Slot} (hl : lv_has ls 4 [(3, .int 0), (0, .ref b)]) {cells slots : Nat} (h1 : cells ≤ 600002) (h2 : slots ≤ 7302232) : W p l e room_1 s m #[Value.ref b] below meth c H locs cells slots (lw_Z below #[Value.ref b] s) (F0 m 18 ls []) := by
  obtain ⟨hx, hb, hr, hml, hown, hts0, hX, hbl, hlocks, hgv⟩ := C0
  refine lv_iload_n hx hb dL_law_18 rfl (lv_at hl 0 rfl) ?_
  refine lv_aload_n hx hb dL_law_19 rfl (lv_at hl 1 rfl) ?_
  refine va_slen hx hb hX hbl hbA hS dL_law_20 ?_
  refine lv_topi (fun f_1 ef_1 => ?_)
  obtain rfl : f_1 = 4 := ef_1
  refine lv_iconst (v := 5) hx hb dL_law_21 (by decide) ?_
  refine lv_isub hx hb dL_law_22 ?_
  refine lv_topi (fun f_2 ef_2 => ?_)
  obtain rfl : f_2 = (-1) := ef_2.trans (by decide)
  refine lv_icmp_gt (tgt := 1223) hx hb dL_law_23 (by decide) (fun _ => ?_) (fun c_3 => absurd (by decide) c_3)
  refine lv_iconst (v := 1) hx hb dL_law_1223 (by decide) ?_
  refine va_forget (fun q hq => hAs _ (hS.2.2 q hq)) ?_
  refine W.widen (k := 600002) (n := 7302232) h1 h2 ?_
  exact lw_ret hx hb hr hlocks dL_law_1224
set_option maxHeartbeats 4000000 in
set_option maxRecDepth 100000 in
theorem law_case0 {p : Program} {l : Launch} {e : Env} {s : State} {m : MethodId} {below : List Frame} {meth : Method} {c : Code} {dC : Nat → ClassId} {dI : Nat → Nat → Nat} {b : Nat} {xs : Nat → Int32} {A : Nat → Prop} {d tc : Nat} {ad : Nat → Nat} {x : Nat} {cd : Nat} {rd : Nat} {tp : Nat} {fo : Nat} {qu : Nat} {sh : Nat} {vs : Nat} {pa : Nat} {pb : Nat} {tb : Nat} {le : Nat} {mo : Nat} {os : Nat} {ps : Nat} {br : Nat} {kl : ClassId} {km : ClassId} {ko : ClassId} {kp : ClassId} {kb : ClassId} {fl : Nat → Int32} {fm : Nat → Int32} {kC : ClassId} {kR : ClassId} {kB : ClassId} {kq : ClassId} {mx : Nat} {lc : Nat} {lr : Nat} {kn : Nat} {lt : Nat} {ml : Nat} {mm : Nat} {lp : Nat} {lb : Nat} {mq : Nat} {kl2 : ClassId} {km2 : ClassId} {kq2 : ClassId} {fl2 : Nat → Int32} {fm2 : Nat → Int32} (C0 : lw_At p s m meth c b 5 xs) (hbA : ¬ A b) (hA : ∀ q, s.heap.size ≤ q → A q) (hAs : ∀ q, A q → s.heap.size ≤ q) (hF : Ft s) (hZ : Zt d tc ad A s s.heap) {H : Heap} {locs : List Loc} (hK : va_K (dC, dI) vwCl [(kC, .object "ExamHalls$Candidate"), (kR, .object "ExamHalls$Reader"), (kB, .byte), (kl, .int), (km, .int), (ko, .int), (kp, .int), (kb, .long), (kq, .int), (kl2, .int), (km2, .int), (kq2, .int)] s) (hP : va_P (dC, dI) vwCl [(x, .inr (10, [.ref cd, .int 0, .ref rd, .int 0, .ref tp, .ref fo, .int 10, .ref qu, .int 0, .int 0, .ref sh, .ref vs, .ref pa, .ref pb])), (cd, .inl (kC, 24, .inr (.inr (.inr (.inr (fun _ => none)))))), (rd, .inl (kR, 6, .inr (.inr (.inr (.inr (fun _ => none)))))), (tp, .inr (9, [.ref tb, .int 0])), (tb, .inl (kB, 250, .inl (fun _ => 0))), (fo, .inr (7, [.int 1, .ref le, .ref mo, .ref os, .ref ps, .int 0, .ref br, .int 0])), (le, .inl (kl, 8, .inl fl)), (mo, .inl (km, 8, .inl fm)), (os, .inl (ko, 6, .inl (fun _ => 0))), (ps, .inl (kp, 6, .inl (fun _ => 0))), (br, .inl (kb, 8, .inr (.inl (fun _ => 0)))), (qu, .inl (kq, 4, .inl (fun _ => 0))), (mx, .inr (14, [.ref lc, .ref lr, .ref kn, .ref lt, .ref ml, .ref mm, .ref lp, .ref lb, .ref mq, .int 1, .int 10, .int 0, .int 0])), (lc, .inr (4, [.int 0, .ref d, .int 0])), (lr, .inr (4, [.int 0, .ref d, .int 0])), (lt, .inr (4, [.int 0, .ref d, .int 0])), (lp, .inr (4, [.int 0, .ref d, .int 0])), (lb, .inr (4, [.int 0, .ref d, .int 0])), (ml, .inl (kl2, 8, .inl fl2)), (mm, .inl (km2, 8, .inl fm2)), (mq, .inl (kq2, 4, .inl (fun _ => 0)))] H) (hD : va_D A [(x, .inr (10, [.ref cd, .int 0, .ref rd, .int 0, .ref tp, .ref fo, .int 10, .ref qu, .int 0, .int 0, .ref sh, .ref vs, .ref pa, .ref pb])), (cd, .inl (kC, 24, .inr (.inr (.inr (.inr (fun _ => none)))))), (rd, .inl (kR, 6, .inr (.inr (.inr (.inr (fun _ => none)))))), (tp, .inr (9, [.ref tb, .int 0])), (tb, .inl (kB, 250, .inl (fun _ => 0))), (fo, .inr (7, [.int 1, .ref le, .ref mo, .ref os, .ref ps, .int 0, .ref br, .int 0])), (le, .inl (kl, 8, .inl fl)), (mo, .inl (km, 8, .inl fm)), (os, .inl (ko, 6, .inl (fun _ => 0))), (ps, .inl (kp, 6, .inl (fun _ => 0))), (br, .inl (kb, 8, .inr (.inl (fun _ => 0)))), (qu, .inl (kq, 4, .inl (fun _ => 0))), (mx, .inr (14, [.ref lc, .ref lr, .ref kn, .ref lt, .ref ml, .ref mm, .ref lp, .ref lb, .ref mq, .int 1, .int 10, .int 0, .int 0])), (lc, .inr (4, [.int 0, .ref d, .int 0])), (lr, .inr (4, [.int 0, .ref d, .int 0])), (lt, .inr (4, [.int 0, .ref d, .int 0])), (lp, .inr (4, [.int 0, .ref d, .int 0])), (lb, .inr (4, [.int 0, .ref d, .int 0])), (ml, .inl (kl2, 8, .inl fl2)), (mm, .inl (km2, 8, .inl fm2)), (mq, .inl (kq2, 4, .inl (fun _ => 0)))]) (hS : va_S A s.heap H locs) {ls : Array Slot} (hl : lv_has ls 4 [(3, .int 0), (2, .ref mx), (1, .ref x), (0, .ref b)]) : W p l e room_1 s m #[Value.ref b] below meth c H locs 50 1070 (lw_Z below #[Value.ref b] s) (F0 m 184 ls []) := by
  obtain ⟨hx, hb, hr, hml, hown, hts0, hX, hbl, hlocks, hgv⟩ := id C0
  have hts := wsL_hts hts0
  refine lv_aload_n hx hb dL_law_184 rfl (lv_at hl 2 rfl) ?_
  refine lv_aload_n hx hb dL_law_185 rfl (lv_at hl 3 rfl) ?_
  refine lv_iload_n hx hb dL_law_186 rfl (lv_at hl 0 rfl) ?_
  refine lv_iconst (v := 1) hx hb dL_law_187 (by decide) ?_
  refine lv_iadd hx hb dL_law_188 ?_
  refine lv_topi (fun f_1 ef_1 => ?_)
  obtain rfl : f_1 = 1 := ef_1.trans (by decide)
  refine va_sld hx hb hX hbl hbA hS (by unfold vp_in; decide) dL_law_189 ?_
  have hPc := hP.sub (ws' := [(x, .inr (10, [.ref cd, .int 0, .ref rd, .int 0, .ref tp, .ref fo, .int 10, .ref qu, .int 0, .int 0, .ref sh, .ref vs, .ref pa, .ref pb])), (cd, .inl (kC, 24, .inr (.inr (.inr (.inr (fun _ => none))))))]) [0, 1] rfl
  have hDc := hD.sub (ws' := [(x, .inr (10, [.ref cd, .int 0, .ref rd, .int 0, .ref tp, .ref fo, .int 10, .ref qu, .int 0, .int 0, .ref sh, .ref vs, .ref pa, .ref pb])), (cd, .inl (kC, 24, .inr (.inr (.inr (.inr (fun _ => none))))))]) [0, 1] (by decide) rfl
  have hKc := hK.sub (tys' := [(kC, .object "ExamHalls$Candidate")]) [0] rfl
  have hFc := va_free (wc := [(x, .inr (10, [.ref cd, .int 0, .ref rd, .int 0, .ref tp, .ref fo, .int 10, .ref qu, .int 0, .int 0, .ref sh, .ref vs, .ref pa, .ref pb])), (cd, .inl (kC, 24, .inr (.inr (.inr (.inr (fun _ => none))))))]) hD hS hA [0, 1] rfl
  refine va_calli (va_runV (As := [.int (xs (1 : Int32).toNatClampNeg)]) (rest := []) ⟨hx, hb, hml, hown, hts⟩ (c_X_candidate l dC dI x cd rd tp fo qu sh vs pa pb kC (xs (1 : Int32).toNatClampNeg) H.size) (cwV 1 hts gL_law_X5_candidate rfl rfl rfl (by decide +kernel) ⟨Nat.le_of_ble_eq_true rfl, Nat.le_of_ble_eq_true rfl⟩) ⟨PQ_blind, va_recv hK hP (ci := 10) (q0 := 0) rfl rfl, PQ_pre hPc hKc hDc hF⟩ rfl rfl hl.1 rfl (lv_room (Nat.le_of_ble_eq_true rfl)) dL_law_190 ⟨Nat.le_of_ble_eq_true rfl, Nat.le_of_ble_eq_true rfl⟩) hS (fun q _ h => hFc q h) hFc (fun r_2 u t H1 locs ht hvm hw hB hz1 hk1 hS => ?_)
  have hP1 : va_P (dC, dI) vwCl [] H1 := fun k q h => by simp at h
  have hD1 : va_D (va_A [(x, .inr (10, [.ref cd, .int 0, .ref rd, .int 0, .ref tp, .ref fo, .int 10, .ref qu, .int 0, .int 0, .ref sh, .ref vs, .ref pa, .ref pb])), (cd, .inl (kC, 24, .inr (.inr (.inr (.inr (fun _ => none))))))] H.size) [] := ⟨fun i j p q h => by simp at h, fun k q h => by simp at h⟩
  obtain ⟨hP, hD⟩ := va_join (wr := [(rd, .inl (kR, 6, .inr (.inr (.inr (.inr (fun _ => none)))))), (tp, .inr (9, [.ref tb, .int 0])), (tb, .inl (kB, 250, .inl (fun _ => 0))), (fo, .inr (7, [.int 1, .ref le, .ref mo, .ref os, .ref ps, .int 0, .ref br, .int 0])), (le, .inl (kl, 8, .inl fl)), (mo, .inl (km, 8, .inl fm)), (os, .inl (ko, 6, .inl (fun _ => 0))), (ps, .inl (kp, 6, .inl (fun _ => 0))), (br, .inl (kb, 8, .inr (.inl (fun _ => 0)))), (qu, .inl (kq, 4, .inl (fun _ => 0))), (mx, .inr (14, [.ref lc, .ref lr, .ref kn, .ref lt, .ref ml, .ref mm, .ref lp, .ref lb, .ref mq, .int 1, .int 10, .int 0, .int 0])), (lc, .inr (4, [.int 0, .ref d, .int 0])), (lr, .inr (4, [.int 0, .ref d, .int 0])), (lt, .inr (4, [.int 0, .ref d, .int 0])), (lp, .inr (4, [.int 0, .ref d, .int 0])), (lb, .inr (4, [.int 0, .ref d, .int 0])), (ml, .inl (kl2, 8, .inl fl2)), (mm, .inl (km2, 8, .inl fm2)), (mq, .inl (kq2, 4, .inl (fun _ => 0)))]) (w1 := []) hP hD [0, 1] [2, 3, 4, 5, 6, 7, 8, 9, 10, 11, 12, 13, 14, 15, 16, 17, 18, 19, 20] rfl rfl (by decide) (by decide) hk1 hFc hP1 hD1
  generalize H1 = H at hP hS ⊢
  have hP : va_P (dC, dI) vwCl [(rd, .inl (kR, 6, .inr (.inr (.inr (.inr (fun _ => none)))))), (tp, .inr (9, [.ref tb, .int 0])), (tb, .inl (kB, 250, .inl (fun _ => 0))), (fo, .inr (7, [.int 1, .ref le, .ref mo, .ref os, .ref ps, .int 0, .ref br, .int 0])), (le, .inl (kl, 8, .inl fl)), (mo, .inl (km, 8, .inl fm)), (os, .inl (ko, 6, .inl (fun _ => 0))), (ps, .inl (kp, 6, .inl (fun _ => 0))), (br, .inl (kb, 8, .inr (.inl (fun _ => 0)))), (qu, .inl (kq, 4, .inl (fun _ => 0))), (mx, .inr (14, [.ref lc, .ref lr, .ref kn, .ref lt, .ref ml, .ref mm, .ref lp, .ref lb, .ref mq, .int 1, .int 10, .int 0, .int 0])), (lc, .inr (4, [.int 0, .ref d, .int 0])), (lr, .inr (4, [.int 0, .ref d, .int 0])), (lt, .inr (4, [.int 0, .ref d, .int 0])), (lp, .inr (4, [.int 0, .ref d, .int 0])), (lb, .inr (4, [.int 0, .ref d, .int 0])), (ml, .inl (kl2, 8, .inl fl2)), (mm, .inl (km2, 8, .inl fm2)), (mq, .inl (kq2, 4, .inl (fun _ => 0)))] H := hP
  have hD : va_D A [(rd, .inl (kR, 6, .inr (.inr (.inr (.inr (fun _ => none)))))), (tp, .inr (9, [.ref tb, .int 0])), (tb, .inl (kB, 250, .inl (fun _ => 0))), (fo, .inr (7, [.int 1, .ref le, .ref mo, .ref os, .ref ps, .int 0, .ref br, .int 0])), (le, .inl (kl, 8, .inl fl)), (mo, .inl (km, 8, .inl fm)), (os, .inl (ko, 6, .inl (fun _ => 0))), (ps, .inl (kp, 6, .inl (fun _ => 0))), (br, .inl (kb, 8, .inr (.inl (fun _ => 0)))), (qu, .inl (kq, 4, .inl (fun _ => 0))), (mx, .inr (14, [.ref lc, .ref lr, .ref kn, .ref lt, .ref ml, .ref mm, .ref lp, .ref lb, .ref mq, .int 1, .int 10, .int 0, .int 0])), (lc, .inr (4, [.int 0, .ref d, .int 0])), (lr, .inr (4, [.int 0, .ref d, .int 0])), (lt, .inr (4, [.int 0, .ref d, .int 0])), (lp, .inr (4, [.int 0, .ref d, .int 0])), (lb, .inr (4, [.int 0, .ref d, .int 0])), (ml, .inl (kl2, 8, .inl fl2)), (mm, .inl (km2, 8, .inl fm2)), (mq, .inl (kq2, 4, .inl (fun _ => 0)))] := hD
  have hK : va_K (dC, dI) vwCl [(kC, .object "ExamHalls$Candidate"), (kR, .object "ExamHalls$Reader"), (kB, .byte), (kl, .int), (km, .int), (ko, .int), (kp, .int), (kb, .long), (kq, .int), (kl2, .int), (km2, .int), (kq2, .int)] s := hK
  refine W.widen (k := 54) (n := 1094) (Nat.le_of_ble_eq_true rfl) (Nat.le_of_ble_eq_true rfl) ?_
  obtain rfl := hw
  refine lv_aload_n hx hb dL_law_193 rfl (lv_at hl 1 rfl) ?_
  refine lv_aload_n hx hb dL_law_194 rfl (lv_at hl 3 rfl) ?_
  refine lv_iload_n hx hb dL_law_195 rfl (lv_at hl 0 rfl) ?_
  refine lv_iconst (v := 1) hx hb dL_law_196 (by decide) ?_
  refine lv_iadd hx hb dL_law_197 ?_
  refine lv_topi (fun f_3 ef_3 => ?_)
  obtain rfl : f_3 = 1 := ef_3.trans (by decide)
  refine va_sld hx hb hX hbl hbA hS (by unfold vp_in; decide) dL_law_198 ?_
  have hPc := hP.sub (ws' := [(mx, .inr (14, [.ref lc, .ref lr, .ref kn, .ref lt, .ref ml, .ref mm, .ref lp, .ref lb, .ref mq, .int 1, .int 10, .int 0, .int 0])), (lc, .inr (4, [.int 0, .ref d, .int 0]))]) [10, 11] rfl
  have hDc := hD.sub (ws' := [(mx, .inr (14, [.ref lc, .ref lr, .ref kn, .ref lt, .ref ml, .ref mm, .ref lp, .ref lb, .ref mq, .int 1, .int 10, .int 0, .int 0])), (lc, .inr (4, [.int 0, .ref d, .int 0]))]) [10, 11] (by decide) rfl
  have hKc := hK.sub (tys' := []) [] rfl
  have hFc := va_free (wc := [(mx, .inr (14, [.ref lc, .ref lr, .ref kn, .ref lt, .ref ml, .ref mm, .ref lp, .ref lb, .ref mq, .int 1, .int 10, .int 0, .int 0])), (lc, .inr (4, [.int 0, .ref d, .int 0]))]) hD hS hA [10, 11] rfl
  refine va_calli (va_runV (As := [.int (xs (1 : Int32).toNatClampNeg)]) (rest := [.int (sp_X_candidate (xs (1 : Int32).toNatClampNeg))]) ⟨hx, hb, hml, hown, hts⟩ (c_M_candidate l dC dI d tc ad mx lc lr kn lt ml mm lp lb mq (xs (1 : Int32).toNatClampNeg) H.size) (cwV 1 hts gL_law_X9_candidate rfl rfl rfl (by decide +kernel) ⟨Nat.le_of_ble_eq_true rfl, Nat.le_of_ble_eq_true rfl⟩) ⟨PZ_blind, va_recv hK hP (ci := 14) (q0 := 10) rfl rfl, PZ_pre hPc hKc hDc hF hZ hS hFc⟩ rfl rfl hl.1 rfl (lv_room (Nat.le_of_ble_eq_true rfl)) dL_law_199 ⟨Nat.le_of_ble_eq_true rfl, Nat.le_of_ble_eq_true rfl⟩) hS (fun q _ h => hFc q h) hFc (fun r_4 u t H1 locs ht hvm hw hB hz1 hk1 hS => ?_)
  have hP1 : va_P (dC, dI) vwCl [] H1 := fun k q h => by simp at h
  have hD1 : va_D (va_A [(mx, .inr (14, [.ref lc, .ref lr, .ref kn, .ref lt, .ref ml, .ref mm, .ref lp, .ref lb, .ref mq, .int 1, .int 10, .int 0, .int 0])), (lc, .inr (4, [.int 0, .ref d, .int 0]))] H.size) [] := ⟨fun i j p q h => by simp at h, fun k q h => by simp at h⟩
  obtain ⟨hP, hD⟩ := va_join (wr := [(rd, .inl (kR, 6, .inr (.inr (.inr (.inr (fun _ => none)))))), (tp, .inr (9, [.ref tb, .int 0])), (tb, .inl (kB, 250, .inl (fun _ => 0))), (fo, .inr (7, [.int 1, .ref le, .ref mo, .ref os, .ref ps, .int 0, .ref br, .int 0])), (le, .inl (kl, 8, .inl fl)), (mo, .inl (km, 8, .inl fm)), (os, .inl (ko, 6, .inl (fun _ => 0))), (ps, .inl (kp, 6, .inl (fun _ => 0))), (br, .inl (kb, 8, .inr (.inl (fun _ => 0)))), (qu, .inl (kq, 4, .inl (fun _ => 0))), (lr, .inr (4, [.int 0, .ref d, .int 0])), (lt, .inr (4, [.int 0, .ref d, .int 0])), (lp, .inr (4, [.int 0, .ref d, .int 0])), (lb, .inr (4, [.int 0, .ref d, .int 0])), (ml, .inl (kl2, 8, .inl fl2)), (mm, .inl (km2, 8, .inl fm2)), (mq, .inl (kq2, 4, .inl (fun _ => 0)))]) (w1 := []) hP hD [10, 11] [0, 1, 2, 3, 4, 5, 6, 7, 8, 9, 12, 13, 14, 15, 16, 17, 18] rfl rfl (by decide) (by decide) hk1 hFc hP1 hD1
  generalize H1 = H at hP hS ⊢
  have hP : va_P (dC, dI) vwCl [(rd, .inl (kR, 6, .inr (.inr (.inr (.inr (fun _ => none)))))), (tp, .inr (9, [.ref tb, .int 0])), (tb, .inl (kB, 250, .inl (fun _ => 0))), (fo, .inr (7, [.int 1, .ref le, .ref mo, .ref os, .ref ps, .int 0, .ref br, .int 0])), (le, .inl (kl, 8, .inl fl)), (mo, .inl (km, 8, .inl fm)), (os, .inl (ko, 6, .inl (fun _ => 0))), (ps, .inl (kp, 6, .inl (fun _ => 0))), (br, .inl (kb, 8, .inr (.inl (fun _ => 0)))), (qu, .inl (kq, 4, .inl (fun _ => 0))), (lr, .inr (4, [.int 0, .ref d, .int 0])), (lt, .inr (4, [.int 0, .ref d, .int 0])), (lp, .inr (4, [.int 0, .ref d, .int 0])), (lb, .inr (4, [.int 0, .ref d, .int 0])), (ml, .inl (kl2, 8, .inl fl2)), (mm, .inl (km2, 8, .inl fm2)), (mq, .inl (kq2, 4, .inl (fun _ => 0)))] H := hP
  have hD : va_D A [(rd, .inl (kR, 6, .inr (.inr (.inr (.inr (fun _ => none)))))), (tp, .inr (9, [.ref tb, .int 0])), (tb, .inl (kB, 250, .inl (fun _ => 0))), (fo, .inr (7, [.int 1, .ref le, .ref mo, .ref os, .ref ps, .int 0, .ref br, .int 0])), (le, .inl (kl, 8, .inl fl)), (mo, .inl (km, 8, .inl fm)), (os, .inl (ko, 6, .inl (fun _ => 0))), (ps, .inl (kp, 6, .inl (fun _ => 0))), (br, .inl (kb, 8, .inr (.inl (fun _ => 0)))), (qu, .inl (kq, 4, .inl (fun _ => 0))), (lr, .inr (4, [.int 0, .ref d, .int 0])), (lt, .inr (4, [.int 0, .ref d, .int 0])), (lp, .inr (4, [.int 0, .ref d, .int 0])), (lb, .inr (4, [.int 0, .ref d, .int 0])), (ml, .inl (kl2, 8, .inl fl2)), (mm, .inl (km2, 8, .inl fm2)), (mq, .inl (kq2, 4, .inl (fun _ => 0)))] := hD
  have hK : va_K (dC, dI) vwCl [(kC, .object "ExamHalls$Candidate"), (kR, .object "ExamHalls$Reader"), (kB, .byte), (kl, .int), (km, .int), (ko, .int), (kp, .int), (kb, .long), (kq, .int), (kl2, .int), (km2, .int), (kq2, .int)] s := hK
  refine W.widen (k := 98) (n := 1282) (Nat.le_of_ble_eq_true rfl) (Nat.le_of_ble_eq_true rfl) ?_
  obtain rfl := hw
  refine lv_icmp_eq (tgt := 1217) hx hb dL_law_202 (by decide) (fun _ => ?_) (fun c9 => absurd (eq_candidate _) c9)
  refine lv_iinc (v := 5) (lv' := [(3, .int 5), (2, .ref mx), (1, .ref x), (0, .ref b)]) hx hb dL_law_1217 hl (k := 0) rfl (by decide) (by decide) rfl (fun ls hl => ?_)
  refine lv_goto (tgt := 18) hx hb dL_law_1220 (by decide) ?_
  exact law_end (C0 := C0) hbA hAs hS (lv_sub hl [0, 3] rfl) (Nat.le_of_ble_eq_true rfl) (Nat.le_of_ble_eq_true rfl)

set_option maxHeartbeats 4000000 in
set_option maxRecDepth 100000 in
theorem law_case1 {p : Program} {l : Launch} {e : Env} {s : State} {m : MethodId} {below : List Frame} {meth : Method} {c : Code} {dC : Nat → ClassId} {dI : Nat → Nat → Nat} {b : Nat} {xs : Nat → Int32} {A : Nat → Prop} {d tc : Nat} {ad : Nat → Nat} {x : Nat} {cd : Nat} {rd : Nat} {tp : Nat} {fo : Nat} {qu : Nat} {sh : Nat} {vs : Nat} {pa : Nat} {pb : Nat} {tb : Nat} {le : Nat} {mo : Nat} {os : Nat} {ps : Nat} {br : Nat} {kl : ClassId} {km : ClassId} {ko : ClassId} {kp : ClassId} {kb : ClassId} {fl : Nat → Int32} {fm : Nat → Int32} {kC : ClassId} {kR : ClassId} {kB : ClassId} {kq : ClassId} {mx : Nat} {lc : Nat} {lr : Nat} {kn : Nat} {lt : Nat} {ml : Nat} {mm : Nat} {lp : Nat} {lb : Nat} {mq : Nat} {kl2 : ClassId} {km2 : ClassId} {kq2 : ClassId} {fl2 : Nat → Int32} {fm2 : Nat → Int32} (C0 : lw_At p s m meth c b 5 xs) (hbA : ¬ A b) (hA : ∀ q, s.heap.size ≤ q → A q) (hAs : ∀ q, A q → s.heap.size ≤ q) (hF : Ft s) (hZ : Zt d tc ad A s s.heap) {H : Heap} {locs : List Loc} (hK : va_K (dC, dI) vwCl [(kC, .object "ExamHalls$Candidate"), (kR, .object "ExamHalls$Reader"), (kB, .byte), (kl, .int), (km, .int), (ko, .int), (kp, .int), (kb, .long), (kq, .int), (kl2, .int), (km2, .int), (kq2, .int)] s) (hP : va_P (dC, dI) vwCl [(x, .inr (10, [.ref cd, .int 0, .ref rd, .int 0, .ref tp, .ref fo, .int 10, .ref qu, .int 0, .int 0, .ref sh, .ref vs, .ref pa, .ref pb])), (cd, .inl (kC, 24, .inr (.inr (.inr (.inr (fun _ => none)))))), (rd, .inl (kR, 6, .inr (.inr (.inr (.inr (fun _ => none)))))), (tp, .inr (9, [.ref tb, .int 0])), (tb, .inl (kB, 250, .inl (fun _ => 0))), (fo, .inr (7, [.int 1, .ref le, .ref mo, .ref os, .ref ps, .int 0, .ref br, .int 0])), (le, .inl (kl, 8, .inl fl)), (mo, .inl (km, 8, .inl fm)), (os, .inl (ko, 6, .inl (fun _ => 0))), (ps, .inl (kp, 6, .inl (fun _ => 0))), (br, .inl (kb, 8, .inr (.inl (fun _ => 0)))), (qu, .inl (kq, 4, .inl (fun _ => 0))), (mx, .inr (14, [.ref lc, .ref lr, .ref kn, .ref lt, .ref ml, .ref mm, .ref lp, .ref lb, .ref mq, .int 1, .int 10, .int 0, .int 0])), (lc, .inr (4, [.int 0, .ref d, .int 0])), (lr, .inr (4, [.int 0, .ref d, .int 0])), (lt, .inr (4, [.int 0, .ref d, .int 0])), (lp, .inr (4, [.int 0, .ref d, .int 0])), (lb, .inr (4, [.int 0, .ref d, .int 0])), (ml, .inl (kl2, 8, .inl fl2)), (mm, .inl (km2, 8, .inl fm2)), (mq, .inl (kq2, 4, .inl (fun _ => 0)))] H) (hD : va_D A [(x, .inr (10, [.ref cd, .int 0, .ref rd, .int 0, .ref tp, .ref fo, .int 10, .ref qu, .int 0, .int 0, .ref sh, .ref vs, .ref pa, .ref pb])), (cd, .inl (kC, 24, .inr (.inr (.inr (.inr (fun _ => none)))))), (rd, .inl (kR, 6, .inr (.inr (.inr (.inr (fun _ => none)))))), (tp, .inr (9, [.ref tb, .int 0])), (tb, .inl (kB, 250, .inl (fun _ => 0))), (fo, .inr (7, [.int 1, .ref le, .ref mo, .ref os, .ref ps, .int 0, .ref br, .int 0])), (le, .inl (kl, 8, .inl fl)), (mo, .inl (km, 8, .inl fm)), (os, .inl (ko, 6, .inl (fun _ => 0))), (ps, .inl (kp, 6, .inl (fun _ => 0))), (br, .inl (kb, 8, .inr (.inl (fun _ => 0)))), (qu, .inl (kq, 4, .inl (fun _ => 0))), (mx, .inr (14, [.ref lc, .ref lr, .ref kn, .ref lt, .ref ml, .ref mm, .ref lp, .ref lb, .ref mq, .int 1, .int 10, .int 0, .int 0])), (lc, .inr (4, [.int 0, .ref d, .int 0])), (lr, .inr (4, [.int 0, .ref d, .int 0])), (lt, .inr (4, [.int 0, .ref d, .int 0])), (lp, .inr (4, [.int 0, .ref d, .int 0])), (lb, .inr (4, [.int 0, .ref d, .int 0])), (ml, .inl (kl2, 8, .inl fl2)), (mm, .inl (km2, 8, .inl fm2)), (mq, .inl (kq2, 4, .inl (fun _ => 0)))]) (hS : va_S A s.heap H locs) {ls : Array Slot} (hl : lv_has ls 4 [(3, .int 0), (2, .ref mx), (1, .ref x), (0, .ref b)]) : W p l e room_1 s m #[Value.ref b] below meth c H locs 50 1070 (lw_Z below #[Value.ref b] s) (F0 m 207 ls []) := by
  obtain ⟨hx, hb, hr, hml, hown, hts0, hX, hbl, hlocks, hgv⟩ := id C0
  have hts := wsL_hts hts0
  refine lv_aload_n hx hb dL_law_207 rfl (lv_at hl 2 rfl) ?_
  refine lv_aload_n hx hb dL_law_208 rfl (lv_at hl 3 rfl) ?_
  refine lv_iload_n hx hb dL_law_209 rfl (lv_at hl 0 rfl) ?_
  refine lv_iconst (v := 1) hx hb dL_law_210 (by decide) ?_
  refine lv_iadd hx hb dL_law_211 ?_
  refine lv_topi (fun f_1 ef_1 => ?_)
  obtain rfl : f_1 = 1 := ef_1.trans (by decide)
  refine va_sld hx hb hX hbl hbA hS (by unfold vp_in; decide) dL_law_212 ?_
  refine lv_i2l hx hb dL_law_213 rfl ?_
  refine lv_bipush (v := 32) hx hb dL_law_214 (by decide) ?_
  refine lv_lshl hx hb dL_law_216 rfl ?_
  refine lv_aload_n hx hb dL_law_217 rfl (lv_at hl 3 rfl) ?_
  refine lv_iload_n hx hb dL_law_218 rfl (lv_at hl 0 rfl) ?_
  refine lv_iconst (v := 2) hx hb dL_law_219 (by decide) ?_
  refine lv_iadd hx hb dL_law_220 ?_
  refine lv_topi (fun f_3 ef_3 => ?_)
  obtain rfl : f_3 = 2 := ef_3.trans (by decide)
  refine va_sld hx hb hX hbl hbA hS (by unfold vp_in; decide) dL_law_221 ?_
  refine lv_i2l hx hb dL_law_222 rfl ?_
  refine lv_ldc2 (v := 4294967295) hx hb hown (hts (.constantLong RL 18 (4294967295)) (List.mem_of_getElem? (i := 6) rfl)) dL_law_223 ?_
  refine lv_land hx hb dL_law_226 ?_
  refine lv_lor hx hb dL_law_227 ?_
  refine lv_aload_n hx hb dL_law_228 rfl (lv_at hl 3 rfl) ?_
  refine lv_iload_n hx hb dL_law_229 rfl (lv_at hl 0 rfl) ?_
  refine lv_iconst (v := 3) hx hb dL_law_230 (by decide) ?_
  refine lv_iadd hx hb dL_law_231 ?_
  refine lv_topi (fun f_4 ef_4 => ?_)
  obtain rfl : f_4 = 3 := ef_4.trans (by decide)
  refine va_sld hx hb hX hbl hbA hS (by unfold vp_in; decide) dL_law_232 ?_
  have hPc := hP.sub (ws' := [(x, .inr (10, [.ref cd, .int 0, .ref rd, .int 0, .ref tp, .ref fo, .int 10, .ref qu, .int 0, .int 0, .ref sh, .ref vs, .ref pa, .ref pb])), (tp, .inr (9, [.ref tb, .int 0])), (tb, .inl (kB, 250, .inl (fun _ => 0)))]) [0, 3, 4] rfl
  have hDc := hD.sub (ws' := [(x, .inr (10, [.ref cd, .int 0, .ref rd, .int 0, .ref tp, .ref fo, .int 10, .ref qu, .int 0, .int 0, .ref sh, .ref vs, .ref pa, .ref pb])), (tp, .inr (9, [.ref tb, .int 0])), (tb, .inl (kB, 250, .inl (fun _ => 0)))]) [0, 3, 4] (by decide) rfl
  have hKc := hK.sub (tys' := [(kB, .byte)]) [2] rfl
  have hFc := va_free (wc := [(x, .inr (10, [.ref cd, .int 0, .ref rd, .int 0, .ref tp, .ref fo, .int 10, .ref qu, .int 0, .int 0, .ref sh, .ref vs, .ref pa, .ref pb])), (tp, .inr (9, [.ref tb, .int 0])), (tb, .inl (kB, 250, .inl (fun _ => 0)))]) hD hS hA [0, 3, 4] rfl
  refine va_calli (va_runV (As := [.long ((((xs (1 : Int32).toNatClampNeg).toInt64) <<< ((32 : Int32).toInt64 &&& 63)) ||| (((xs (2 : Int32).toNatClampNeg).toInt64) &&& 4294967295)), .int (xs (3 : Int32).toNatClampNeg)]) (rest := []) ⟨hx, hb, hml, hown, hts⟩ (c_X_feed l dC dI x cd rd tp fo qu sh vs pa pb tb kB ((((xs (1 : Int32).toNatClampNeg).toInt64) <<< ((32 : Int32).toInt64 &&& 63)) ||| (((xs (2 : Int32).toNatClampNeg).toInt64) &&& 4294967295)) (xs (3 : Int32).toNatClampNeg) H.size) (cwV 2 hts gL_law_X5_feed rfl rfl rfl (by decide +kernel) ⟨Nat.le_of_ble_eq_true rfl, Nat.le_of_ble_eq_true rfl⟩) ⟨PQ_blind, va_recv hK hP (ci := 10) (q0 := 0) rfl rfl, PQ_pre hPc hKc hDc hF⟩ rfl rfl hl.1 rfl (lv_room (Nat.le_of_ble_eq_true rfl)) dL_law_233 ⟨Nat.le_of_ble_eq_true rfl, Nat.le_of_ble_eq_true rfl⟩) hS (fun q _ h => hFc q h) hFc (fun r_5 u t H1 locs ht hvm hw hB hz1 hk1 hS => ?_)
  have hP1 : va_P (dC, dI) vwCl [] H1 := fun k q h => by simp at h
  have hD1 : va_D (va_A [(x, .inr (10, [.ref cd, .int 0, .ref rd, .int 0, .ref tp, .ref fo, .int 10, .ref qu, .int 0, .int 0, .ref sh, .ref vs, .ref pa, .ref pb])), (tp, .inr (9, [.ref tb, .int 0])), (tb, .inl (kB, 250, .inl (fun _ => 0)))] H.size) [] := ⟨fun i j p q h => by simp at h, fun k q h => by simp at h⟩
  obtain ⟨hP, hD⟩ := va_join (wr := [(cd, .inl (kC, 24, .inr (.inr (.inr (.inr (fun _ => none)))))), (rd, .inl (kR, 6, .inr (.inr (.inr (.inr (fun _ => none)))))), (fo, .inr (7, [.int 1, .ref le, .ref mo, .ref os, .ref ps, .int 0, .ref br, .int 0])), (le, .inl (kl, 8, .inl fl)), (mo, .inl (km, 8, .inl fm)), (os, .inl (ko, 6, .inl (fun _ => 0))), (ps, .inl (kp, 6, .inl (fun _ => 0))), (br, .inl (kb, 8, .inr (.inl (fun _ => 0)))), (qu, .inl (kq, 4, .inl (fun _ => 0))), (mx, .inr (14, [.ref lc, .ref lr, .ref kn, .ref lt, .ref ml, .ref mm, .ref lp, .ref lb, .ref mq, .int 1, .int 10, .int 0, .int 0])), (lc, .inr (4, [.int 0, .ref d, .int 0])), (lr, .inr (4, [.int 0, .ref d, .int 0])), (lt, .inr (4, [.int 0, .ref d, .int 0])), (lp, .inr (4, [.int 0, .ref d, .int 0])), (lb, .inr (4, [.int 0, .ref d, .int 0])), (ml, .inl (kl2, 8, .inl fl2)), (mm, .inl (km2, 8, .inl fm2)), (mq, .inl (kq2, 4, .inl (fun _ => 0)))]) (w1 := []) hP hD [0, 3, 4] [1, 2, 5, 6, 7, 8, 9, 10, 11, 12, 13, 14, 15, 16, 17, 18, 19, 20] rfl rfl (by decide) (by decide) hk1 hFc hP1 hD1
  generalize H1 = H at hP hS ⊢
  have hP : va_P (dC, dI) vwCl [(cd, .inl (kC, 24, .inr (.inr (.inr (.inr (fun _ => none)))))), (rd, .inl (kR, 6, .inr (.inr (.inr (.inr (fun _ => none)))))), (fo, .inr (7, [.int 1, .ref le, .ref mo, .ref os, .ref ps, .int 0, .ref br, .int 0])), (le, .inl (kl, 8, .inl fl)), (mo, .inl (km, 8, .inl fm)), (os, .inl (ko, 6, .inl (fun _ => 0))), (ps, .inl (kp, 6, .inl (fun _ => 0))), (br, .inl (kb, 8, .inr (.inl (fun _ => 0)))), (qu, .inl (kq, 4, .inl (fun _ => 0))), (mx, .inr (14, [.ref lc, .ref lr, .ref kn, .ref lt, .ref ml, .ref mm, .ref lp, .ref lb, .ref mq, .int 1, .int 10, .int 0, .int 0])), (lc, .inr (4, [.int 0, .ref d, .int 0])), (lr, .inr (4, [.int 0, .ref d, .int 0])), (lt, .inr (4, [.int 0, .ref d, .int 0])), (lp, .inr (4, [.int 0, .ref d, .int 0])), (lb, .inr (4, [.int 0, .ref d, .int 0])), (ml, .inl (kl2, 8, .inl fl2)), (mm, .inl (km2, 8, .inl fm2)), (mq, .inl (kq2, 4, .inl (fun _ => 0)))] H := hP
  have hD : va_D A [(cd, .inl (kC, 24, .inr (.inr (.inr (.inr (fun _ => none)))))), (rd, .inl (kR, 6, .inr (.inr (.inr (.inr (fun _ => none)))))), (fo, .inr (7, [.int 1, .ref le, .ref mo, .ref os, .ref ps, .int 0, .ref br, .int 0])), (le, .inl (kl, 8, .inl fl)), (mo, .inl (km, 8, .inl fm)), (os, .inl (ko, 6, .inl (fun _ => 0))), (ps, .inl (kp, 6, .inl (fun _ => 0))), (br, .inl (kb, 8, .inr (.inl (fun _ => 0)))), (qu, .inl (kq, 4, .inl (fun _ => 0))), (mx, .inr (14, [.ref lc, .ref lr, .ref kn, .ref lt, .ref ml, .ref mm, .ref lp, .ref lb, .ref mq, .int 1, .int 10, .int 0, .int 0])), (lc, .inr (4, [.int 0, .ref d, .int 0])), (lr, .inr (4, [.int 0, .ref d, .int 0])), (lt, .inr (4, [.int 0, .ref d, .int 0])), (lp, .inr (4, [.int 0, .ref d, .int 0])), (lb, .inr (4, [.int 0, .ref d, .int 0])), (ml, .inl (kl2, 8, .inl fl2)), (mm, .inl (km2, 8, .inl fm2)), (mq, .inl (kq2, 4, .inl (fun _ => 0)))] := hD
  have hK : va_K (dC, dI) vwCl [(kC, .object "ExamHalls$Candidate"), (kR, .object "ExamHalls$Reader"), (kB, .byte), (kl, .int), (km, .int), (ko, .int), (kp, .int), (kb, .long), (kq, .int), (kl2, .int), (km2, .int), (kq2, .int)] s := hK
  refine W.widen (k := 50) (n := 1070) (Nat.le_of_ble_eq_true rfl) (Nat.le_of_ble_eq_true rfl) ?_
  obtain rfl := hw
  refine lv_aload_n hx hb dL_law_236 rfl (lv_at hl 1 rfl) ?_
  refine lv_aload_n hx hb dL_law_237 rfl (lv_at hl 3 rfl) ?_
  refine lv_iload_n hx hb dL_law_238 rfl (lv_at hl 0 rfl) ?_
  refine lv_iconst (v := 1) hx hb dL_law_239 (by decide) ?_
  refine lv_iadd hx hb dL_law_240 ?_
  refine lv_topi (fun f_6 ef_6 => ?_)
  obtain rfl : f_6 = 1 := ef_6.trans (by decide)
  refine va_sld hx hb hX hbl hbA hS (by unfold vp_in; decide) dL_law_241 ?_
  refine lv_i2l hx hb dL_law_242 rfl ?_
  refine lv_bipush (v := 32) hx hb dL_law_243 (by decide) ?_
  refine lv_lshl hx hb dL_law_245 rfl ?_
  refine lv_aload_n hx hb dL_law_246 rfl (lv_at hl 3 rfl) ?_
  refine lv_iload_n hx hb dL_law_247 rfl (lv_at hl 0 rfl) ?_
  refine lv_iconst (v := 2) hx hb dL_law_248 (by decide) ?_
  refine lv_iadd hx hb dL_law_249 ?_
  refine lv_topi (fun f_8 ef_8 => ?_)
  obtain rfl : f_8 = 2 := ef_8.trans (by decide)
  refine va_sld hx hb hX hbl hbA hS (by unfold vp_in; decide) dL_law_250 ?_
  refine lv_i2l hx hb dL_law_251 rfl ?_
  refine lv_ldc2 (v := 4294967295) hx hb hown (hts (.constantLong RL 18 (4294967295)) (List.mem_of_getElem? (i := 6) rfl)) dL_law_252 ?_
  refine lv_land hx hb dL_law_255 ?_
  refine lv_lor hx hb dL_law_256 ?_
  refine lv_aload_n hx hb dL_law_257 rfl (lv_at hl 3 rfl) ?_
  refine lv_iload_n hx hb dL_law_258 rfl (lv_at hl 0 rfl) ?_
  refine lv_iconst (v := 3) hx hb dL_law_259 (by decide) ?_
  refine lv_iadd hx hb dL_law_260 ?_
  refine lv_topi (fun f_9 ef_9 => ?_)
  obtain rfl : f_9 = 3 := ef_9.trans (by decide)
  refine va_sld hx hb hX hbl hbA hS (by unfold vp_in; decide) dL_law_261 ?_
  have hPc := hP.sub (ws' := [(mx, .inr (14, [.ref lc, .ref lr, .ref kn, .ref lt, .ref ml, .ref mm, .ref lp, .ref lb, .ref mq, .int 1, .int 10, .int 0, .int 0])), (lt, .inr (4, [.int 0, .ref d, .int 0]))]) [9, 12] rfl
  have hDc := hD.sub (ws' := [(mx, .inr (14, [.ref lc, .ref lr, .ref kn, .ref lt, .ref ml, .ref mm, .ref lp, .ref lb, .ref mq, .int 1, .int 10, .int 0, .int 0])), (lt, .inr (4, [.int 0, .ref d, .int 0]))]) [9, 12] (by decide) rfl
  have hKc := hK.sub (tys' := []) [] rfl
  have hFc := va_free (wc := [(mx, .inr (14, [.ref lc, .ref lr, .ref kn, .ref lt, .ref ml, .ref mm, .ref lp, .ref lb, .ref mq, .int 1, .int 10, .int 0, .int 0])), (lt, .inr (4, [.int 0, .ref d, .int 0]))]) hD hS hA [9, 12] rfl
  refine va_calli (va_runV (As := [.long ((((xs (1 : Int32).toNatClampNeg).toInt64) <<< ((32 : Int32).toInt64 &&& 63)) ||| (((xs (2 : Int32).toNatClampNeg).toInt64) &&& 4294967295)), .int (xs (3 : Int32).toNatClampNeg)]) (rest := [.int (sp_X_feed (xs (3 : Int32).toNatClampNeg))]) ⟨hx, hb, hml, hown, hts⟩ (c_M_feed l dC dI d tc ad mx lc lr kn lt ml mm lp lb mq ((((xs (1 : Int32).toNatClampNeg).toInt64) <<< ((32 : Int32).toInt64 &&& 63)) ||| (((xs (2 : Int32).toNatClampNeg).toInt64) &&& 4294967295)) (xs (3 : Int32).toNatClampNeg) H.size) (cwV 2 hts gL_law_X9_feed rfl rfl rfl (by decide +kernel) ⟨Nat.le_of_ble_eq_true rfl, Nat.le_of_ble_eq_true rfl⟩) ⟨PZ_blind, va_recv hK hP (ci := 14) (q0 := 9) rfl rfl, PZ_pre hPc hKc hDc hF hZ hS hFc⟩ rfl rfl hl.1 rfl (lv_room (Nat.le_of_ble_eq_true rfl)) dL_law_262 ⟨Nat.le_of_ble_eq_true rfl, Nat.le_of_ble_eq_true rfl⟩) hS (fun q _ h => hFc q h) hFc (fun r_10 u t H1 locs ht hvm hw hB hz1 hk1 hS => ?_)
  have hP1 : va_P (dC, dI) vwCl [] H1 := fun k q h => by simp at h
  have hD1 : va_D (va_A [(mx, .inr (14, [.ref lc, .ref lr, .ref kn, .ref lt, .ref ml, .ref mm, .ref lp, .ref lb, .ref mq, .int 1, .int 10, .int 0, .int 0])), (lt, .inr (4, [.int 0, .ref d, .int 0]))] H.size) [] := ⟨fun i j p q h => by simp at h, fun k q h => by simp at h⟩
  obtain ⟨hP, hD⟩ := va_join (wr := [(cd, .inl (kC, 24, .inr (.inr (.inr (.inr (fun _ => none)))))), (rd, .inl (kR, 6, .inr (.inr (.inr (.inr (fun _ => none)))))), (fo, .inr (7, [.int 1, .ref le, .ref mo, .ref os, .ref ps, .int 0, .ref br, .int 0])), (le, .inl (kl, 8, .inl fl)), (mo, .inl (km, 8, .inl fm)), (os, .inl (ko, 6, .inl (fun _ => 0))), (ps, .inl (kp, 6, .inl (fun _ => 0))), (br, .inl (kb, 8, .inr (.inl (fun _ => 0)))), (qu, .inl (kq, 4, .inl (fun _ => 0))), (lc, .inr (4, [.int 0, .ref d, .int 0])), (lr, .inr (4, [.int 0, .ref d, .int 0])), (lp, .inr (4, [.int 0, .ref d, .int 0])), (lb, .inr (4, [.int 0, .ref d, .int 0])), (ml, .inl (kl2, 8, .inl fl2)), (mm, .inl (km2, 8, .inl fm2)), (mq, .inl (kq2, 4, .inl (fun _ => 0)))]) (w1 := []) hP hD [9, 12] [0, 1, 2, 3, 4, 5, 6, 7, 8, 10, 11, 13, 14, 15, 16, 17] rfl rfl (by decide) (by decide) hk1 hFc hP1 hD1
  generalize H1 = H at hP hS ⊢
  have hP : va_P (dC, dI) vwCl [(cd, .inl (kC, 24, .inr (.inr (.inr (.inr (fun _ => none)))))), (rd, .inl (kR, 6, .inr (.inr (.inr (.inr (fun _ => none)))))), (fo, .inr (7, [.int 1, .ref le, .ref mo, .ref os, .ref ps, .int 0, .ref br, .int 0])), (le, .inl (kl, 8, .inl fl)), (mo, .inl (km, 8, .inl fm)), (os, .inl (ko, 6, .inl (fun _ => 0))), (ps, .inl (kp, 6, .inl (fun _ => 0))), (br, .inl (kb, 8, .inr (.inl (fun _ => 0)))), (qu, .inl (kq, 4, .inl (fun _ => 0))), (lc, .inr (4, [.int 0, .ref d, .int 0])), (lr, .inr (4, [.int 0, .ref d, .int 0])), (lp, .inr (4, [.int 0, .ref d, .int 0])), (lb, .inr (4, [.int 0, .ref d, .int 0])), (ml, .inl (kl2, 8, .inl fl2)), (mm, .inl (km2, 8, .inl fm2)), (mq, .inl (kq2, 4, .inl (fun _ => 0)))] H := hP
  have hD : va_D A [(cd, .inl (kC, 24, .inr (.inr (.inr (.inr (fun _ => none)))))), (rd, .inl (kR, 6, .inr (.inr (.inr (.inr (fun _ => none)))))), (fo, .inr (7, [.int 1, .ref le, .ref mo, .ref os, .ref ps, .int 0, .ref br, .int 0])), (le, .inl (kl, 8, .inl fl)), (mo, .inl (km, 8, .inl fm)), (os, .inl (ko, 6, .inl (fun _ => 0))), (ps, .inl (kp, 6, .inl (fun _ => 0))), (br, .inl (kb, 8, .inr (.inl (fun _ => 0)))), (qu, .inl (kq, 4, .inl (fun _ => 0))), (lc, .inr (4, [.int 0, .ref d, .int 0])), (lr, .inr (4, [.int 0, .ref d, .int 0])), (lp, .inr (4, [.int 0, .ref d, .int 0])), (lb, .inr (4, [.int 0, .ref d, .int 0])), (ml, .inl (kl2, 8, .inl fl2)), (mm, .inl (km2, 8, .inl fm2)), (mq, .inl (kq2, 4, .inl (fun _ => 0)))] := hD
  have hK : va_K (dC, dI) vwCl [(kC, .object "ExamHalls$Candidate"), (kR, .object "ExamHalls$Reader"), (kB, .byte), (kl, .int), (km, .int), (ko, .int), (kp, .int), (kb, .long), (kq, .int), (kl2, .int), (km2, .int), (kq2, .int)] s := hK
  refine W.widen (k := 59) (n := 1088) (Nat.le_of_ble_eq_true rfl) (Nat.le_of_ble_eq_true rfl) ?_
  obtain rfl := hw
  refine lv_icmp_eq (tgt := 1217) hx hb dL_law_265 (by decide) (fun _ => ?_) (fun c9 => absurd (eq_feed _) c9)
  refine lv_iinc (v := 5) (lv' := [(3, .int 5), (2, .ref mx), (1, .ref x), (0, .ref b)]) hx hb dL_law_1217 hl (k := 0) rfl (by decide) (by decide) rfl (fun ls hl => ?_)
  refine lv_goto (tgt := 18) hx hb dL_law_1220 (by decide) ?_
  exact law_end (C0 := C0) hbA hAs hS (lv_sub hl [0, 3] rfl) (Nat.le_of_ble_eq_true rfl) (Nat.le_of_ble_eq_true rfl)

set_option maxHeartbeats 4000000 in
set_option maxRecDepth 100000 in
theorem law_case2 {p : Program} {l : Launch} {e : Env} {s : State} {m : MethodId} {below : List Frame} {meth : Method} {c : Code} {dC : Nat → ClassId} {dI : Nat → Nat → Nat} {b : Nat} {xs : Nat → Int32} {A : Nat → Prop} {d tc : Nat} {ad : Nat → Nat} {x : Nat} {cd : Nat} {rd : Nat} {tp : Nat} {fo : Nat} {qu : Nat} {sh : Nat} {vs : Nat} {pa : Nat} {pb : Nat} {tb : Nat} {le : Nat} {mo : Nat} {os : Nat} {ps : Nat} {br : Nat} {kl : ClassId} {km : ClassId} {ko : ClassId} {kp : ClassId} {kb : ClassId} {fl : Nat → Int32} {fm : Nat → Int32} {kC : ClassId} {kR : ClassId} {kB : ClassId} {kq : ClassId} {mx : Nat} {lc : Nat} {lr : Nat} {kn : Nat} {lt : Nat} {ml : Nat} {mm : Nat} {lp : Nat} {lb : Nat} {mq : Nat} {kl2 : ClassId} {km2 : ClassId} {kq2 : ClassId} {fl2 : Nat → Int32} {fm2 : Nat → Int32} (C0 : lw_At p s m meth c b 5 xs) (hbA : ¬ A b) (hA : ∀ q, s.heap.size ≤ q → A q) (hAs : ∀ q, A q → s.heap.size ≤ q) (hF : Ft s) (hZ : Zt d tc ad A s s.heap) {H : Heap} {locs : List Loc} (hK : va_K (dC, dI) vwCl [(kC, .object "ExamHalls$Candidate"), (kR, .object "ExamHalls$Reader"), (kB, .byte), (kl, .int), (km, .int), (ko, .int), (kp, .int), (kb, .long), (kq, .int), (kl2, .int), (km2, .int), (kq2, .int)] s) (hP : va_P (dC, dI) vwCl [(x, .inr (10, [.ref cd, .int 0, .ref rd, .int 0, .ref tp, .ref fo, .int 10, .ref qu, .int 0, .int 0, .ref sh, .ref vs, .ref pa, .ref pb])), (cd, .inl (kC, 24, .inr (.inr (.inr (.inr (fun _ => none)))))), (rd, .inl (kR, 6, .inr (.inr (.inr (.inr (fun _ => none)))))), (tp, .inr (9, [.ref tb, .int 0])), (tb, .inl (kB, 250, .inl (fun _ => 0))), (fo, .inr (7, [.int 1, .ref le, .ref mo, .ref os, .ref ps, .int 0, .ref br, .int 0])), (le, .inl (kl, 8, .inl fl)), (mo, .inl (km, 8, .inl fm)), (os, .inl (ko, 6, .inl (fun _ => 0))), (ps, .inl (kp, 6, .inl (fun _ => 0))), (br, .inl (kb, 8, .inr (.inl (fun _ => 0)))), (qu, .inl (kq, 4, .inl (fun _ => 0))), (mx, .inr (14, [.ref lc, .ref lr, .ref kn, .ref lt, .ref ml, .ref mm, .ref lp, .ref lb, .ref mq, .int 1, .int 10, .int 0, .int 0])), (lc, .inr (4, [.int 0, .ref d, .int 0])), (lr, .inr (4, [.int 0, .ref d, .int 0])), (lt, .inr (4, [.int 0, .ref d, .int 0])), (lp, .inr (4, [.int 0, .ref d, .int 0])), (lb, .inr (4, [.int 0, .ref d, .int 0])), (ml, .inl (kl2, 8, .inl fl2)), (mm, .inl (km2, 8, .inl fm2)), (mq, .inl (kq2, 4, .inl (fun _ => 0)))] H) (hD : va_D A [(x, .inr (10, [.ref cd, .int 0, .ref rd, .int 0, .ref tp, .ref fo, .int 10, .ref qu, .int 0, .int 0, .ref sh, .ref vs, .ref pa, .ref pb])), (cd, .inl (kC, 24, .inr (.inr (.inr (.inr (fun _ => none)))))), (rd, .inl (kR, 6, .inr (.inr (.inr (.inr (fun _ => none)))))), (tp, .inr (9, [.ref tb, .int 0])), (tb, .inl (kB, 250, .inl (fun _ => 0))), (fo, .inr (7, [.int 1, .ref le, .ref mo, .ref os, .ref ps, .int 0, .ref br, .int 0])), (le, .inl (kl, 8, .inl fl)), (mo, .inl (km, 8, .inl fm)), (os, .inl (ko, 6, .inl (fun _ => 0))), (ps, .inl (kp, 6, .inl (fun _ => 0))), (br, .inl (kb, 8, .inr (.inl (fun _ => 0)))), (qu, .inl (kq, 4, .inl (fun _ => 0))), (mx, .inr (14, [.ref lc, .ref lr, .ref kn, .ref lt, .ref ml, .ref mm, .ref lp, .ref lb, .ref mq, .int 1, .int 10, .int 0, .int 0])), (lc, .inr (4, [.int 0, .ref d, .int 0])), (lr, .inr (4, [.int 0, .ref d, .int 0])), (lt, .inr (4, [.int 0, .ref d, .int 0])), (lp, .inr (4, [.int 0, .ref d, .int 0])), (lb, .inr (4, [.int 0, .ref d, .int 0])), (ml, .inl (kl2, 8, .inl fl2)), (mm, .inl (km2, 8, .inl fm2)), (mq, .inl (kq2, 4, .inl (fun _ => 0)))]) (hS : va_S A s.heap H locs) {ls : Array Slot} (hl : lv_has ls 4 [(3, .int 0), (2, .ref mx), (1, .ref x), (0, .ref b)]) : W p l e room_1 s m #[Value.ref b] below meth c H locs 50 1070 (lw_Z below #[Value.ref b] s) (F0 m 270 ls []) := by
  obtain ⟨hx, hb, hr, hml, hown, hts0, hX, hbl, hlocks, hgv⟩ := id C0
  have hts := wsL_hts hts0
  refine lv_aload_n hx hb dL_law_270 rfl (lv_at hl 2 rfl) ?_
  refine lv_aload_n hx hb dL_law_271 rfl (lv_at hl 3 rfl) ?_
  refine lv_iload_n hx hb dL_law_272 rfl (lv_at hl 0 rfl) ?_
  refine lv_iconst (v := 1) hx hb dL_law_273 (by decide) ?_
  refine lv_iadd hx hb dL_law_274 ?_
  refine lv_topi (fun f_1 ef_1 => ?_)
  obtain rfl : f_1 = 1 := ef_1.trans (by decide)
  refine va_sld hx hb hX hbl hbA hS (by unfold vp_in; decide) dL_law_275 ?_
  refine vp_callSi (va_Run.run (va_runV (As := [.int (xs (1 : Int32).toNatClampNeg)]) (rest := []) ⟨hx, hb, hml, hown, hts⟩ (c_X_essay l dC dI x cd rd tp fo qu sh vs pa pb (xs (1 : Int32).toNatClampNeg)) (cwV 1 hts gL_law_X5_essay rfl rfl rfl (by decide +kernel) ⟨Nat.le_of_ble_eq_true rfl, Nat.le_of_ble_eq_true rfl⟩) ⟨PS_blind, va_recv hK hP (ci := 10) (q0 := 0) rfl rfl, PS_pre (hP.sub (ws' := [(x, .inr (10, [.ref cd, .int 0, .ref rd, .int 0, .ref tp, .ref fo, .int 10, .ref qu, .int 0, .int 0, .ref sh, .ref vs, .ref pa, .ref pb]))]) [0] rfl) (hK.sub (tys' := []) [] rfl) hF⟩ rfl rfl hl.1 rfl (lv_room (Nat.le_of_ble_eq_true rfl)) dL_law_276 ⟨Nat.le_of_ble_eq_true rfl, Nat.le_of_ble_eq_true rfl⟩)) (fun r_2 hr_2 => ?_)
  subst hr_2
  refine lv_aload_n hx hb dL_law_279 rfl (lv_at hl 1 rfl) ?_
  refine lv_aload_n hx hb dL_law_280 rfl (lv_at hl 3 rfl) ?_
  refine lv_iload_n hx hb dL_law_281 rfl (lv_at hl 0 rfl) ?_
  refine lv_iconst (v := 1) hx hb dL_law_282 (by decide) ?_
  refine lv_iadd hx hb dL_law_283 ?_
  refine lv_topi (fun f_3 ef_3 => ?_)
  obtain rfl : f_3 = 1 := ef_3.trans (by decide)
  refine va_sld hx hb hX hbl hbA hS (by unfold vp_in; decide) dL_law_284 ?_
  refine vp_callSi (va_Run.run (va_runV (As := [.int (xs (1 : Int32).toNatClampNeg)]) (rest := [.int (-1)]) ⟨hx, hb, hml, hown, hts⟩ (c_M_essay l dC dI mx lc lr kn lt ml mm lp lb mq d (xs (1 : Int32).toNatClampNeg)) (cwV 1 hts gL_law_X9_essay rfl rfl rfl (by decide +kernel) ⟨Nat.le_of_ble_eq_true rfl, Nat.le_of_ble_eq_true rfl⟩) ⟨PS_blind, va_recv hK hP (ci := 14) (q0 := 12) rfl rfl, PS_pre (hP.sub (ws' := [(mx, .inr (14, [.ref lc, .ref lr, .ref kn, .ref lt, .ref ml, .ref mm, .ref lp, .ref lb, .ref mq, .int 1, .int 10, .int 0, .int 0])), (lc, .inr (4, [.int 0, .ref d, .int 0]))]) [12, 13] rfl) (hK.sub (tys' := []) [] rfl) hF⟩ rfl rfl hl.1 rfl (lv_room (Nat.le_of_ble_eq_true rfl)) dL_law_285 ⟨Nat.le_of_ble_eq_true rfl, Nat.le_of_ble_eq_true rfl⟩)) (fun r_4 hr_4 => ?_)
  subst hr_4
  refine lv_icmp_eq (tgt := 1217) hx hb dL_law_288 (by decide) (fun _ => ?_) (fun c9 => absurd (by decide) c9)
  refine lv_iinc (v := 5) (lv' := [(3, .int 5), (2, .ref mx), (1, .ref x), (0, .ref b)]) hx hb dL_law_1217 hl (k := 0) rfl (by decide) (by decide) rfl (fun ls hl => ?_)
  refine lv_goto (tgt := 18) hx hb dL_law_1220 (by decide) ?_
  exact law_end (C0 := C0) hbA hAs hS (lv_sub hl [0, 3] rfl) (Nat.le_of_ble_eq_true rfl) (Nat.le_of_ble_eq_true rfl)

set_option maxHeartbeats 4000000 in
set_option maxRecDepth 100000 in
theorem law_case3 {p : Program} {l : Launch} {e : Env} {s : State} {m : MethodId} {below : List Frame} {meth : Method} {c : Code} {dC : Nat → ClassId} {dI : Nat → Nat → Nat} {b : Nat} {xs : Nat → Int32} {A : Nat → Prop} {d tc : Nat} {ad : Nat → Nat} {x : Nat} {cd : Nat} {rd : Nat} {tp : Nat} {fo : Nat} {qu : Nat} {sh : Nat} {vs : Nat} {pa : Nat} {pb : Nat} {tb : Nat} {le : Nat} {mo : Nat} {os : Nat} {ps : Nat} {br : Nat} {kl : ClassId} {km : ClassId} {ko : ClassId} {kp : ClassId} {kb : ClassId} {fl : Nat → Int32} {fm : Nat → Int32} {kC : ClassId} {kR : ClassId} {kB : ClassId} {kq : ClassId} {mx : Nat} {lc : Nat} {lr : Nat} {kn : Nat} {lt : Nat} {ml : Nat} {mm : Nat} {lp : Nat} {lb : Nat} {mq : Nat} {kl2 : ClassId} {km2 : ClassId} {kq2 : ClassId} {fl2 : Nat → Int32} {fm2 : Nat → Int32} (C0 : lw_At p s m meth c b 5 xs) (hbA : ¬ A b) (hA : ∀ q, s.heap.size ≤ q → A q) (hAs : ∀ q, A q → s.heap.size ≤ q) (hF : Ft s) (hZ : Zt d tc ad A s s.heap) {H : Heap} {locs : List Loc} (hK : va_K (dC, dI) vwCl [(kC, .object "ExamHalls$Candidate"), (kR, .object "ExamHalls$Reader"), (kB, .byte), (kl, .int), (km, .int), (ko, .int), (kp, .int), (kb, .long), (kq, .int), (kl2, .int), (km2, .int), (kq2, .int)] s) (hP : va_P (dC, dI) vwCl [(x, .inr (10, [.ref cd, .int 0, .ref rd, .int 0, .ref tp, .ref fo, .int 10, .ref qu, .int 0, .int 0, .ref sh, .ref vs, .ref pa, .ref pb])), (cd, .inl (kC, 24, .inr (.inr (.inr (.inr (fun _ => none)))))), (rd, .inl (kR, 6, .inr (.inr (.inr (.inr (fun _ => none)))))), (tp, .inr (9, [.ref tb, .int 0])), (tb, .inl (kB, 250, .inl (fun _ => 0))), (fo, .inr (7, [.int 1, .ref le, .ref mo, .ref os, .ref ps, .int 0, .ref br, .int 0])), (le, .inl (kl, 8, .inl fl)), (mo, .inl (km, 8, .inl fm)), (os, .inl (ko, 6, .inl (fun _ => 0))), (ps, .inl (kp, 6, .inl (fun _ => 0))), (br, .inl (kb, 8, .inr (.inl (fun _ => 0)))), (qu, .inl (kq, 4, .inl (fun _ => 0))), (mx, .inr (14, [.ref lc, .ref lr, .ref kn, .ref lt, .ref ml, .ref mm, .ref lp, .ref lb, .ref mq, .int 1, .int 10, .int 0, .int 0])), (lc, .inr (4, [.int 0, .ref d, .int 0])), (lr, .inr (4, [.int 0, .ref d, .int 0])), (lt, .inr (4, [.int 0, .ref d, .int 0])), (lp, .inr (4, [.int 0, .ref d, .int 0])), (lb, .inr (4, [.int 0, .ref d, .int 0])), (ml, .inl (kl2, 8, .inl fl2)), (mm, .inl (km2, 8, .inl fm2)), (mq, .inl (kq2, 4, .inl (fun _ => 0)))] H) (hD : va_D A [(x, .inr (10, [.ref cd, .int 0, .ref rd, .int 0, .ref tp, .ref fo, .int 10, .ref qu, .int 0, .int 0, .ref sh, .ref vs, .ref pa, .ref pb])), (cd, .inl (kC, 24, .inr (.inr (.inr (.inr (fun _ => none)))))), (rd, .inl (kR, 6, .inr (.inr (.inr (.inr (fun _ => none)))))), (tp, .inr (9, [.ref tb, .int 0])), (tb, .inl (kB, 250, .inl (fun _ => 0))), (fo, .inr (7, [.int 1, .ref le, .ref mo, .ref os, .ref ps, .int 0, .ref br, .int 0])), (le, .inl (kl, 8, .inl fl)), (mo, .inl (km, 8, .inl fm)), (os, .inl (ko, 6, .inl (fun _ => 0))), (ps, .inl (kp, 6, .inl (fun _ => 0))), (br, .inl (kb, 8, .inr (.inl (fun _ => 0)))), (qu, .inl (kq, 4, .inl (fun _ => 0))), (mx, .inr (14, [.ref lc, .ref lr, .ref kn, .ref lt, .ref ml, .ref mm, .ref lp, .ref lb, .ref mq, .int 1, .int 10, .int 0, .int 0])), (lc, .inr (4, [.int 0, .ref d, .int 0])), (lr, .inr (4, [.int 0, .ref d, .int 0])), (lt, .inr (4, [.int 0, .ref d, .int 0])), (lp, .inr (4, [.int 0, .ref d, .int 0])), (lb, .inr (4, [.int 0, .ref d, .int 0])), (ml, .inl (kl2, 8, .inl fl2)), (mm, .inl (km2, 8, .inl fm2)), (mq, .inl (kq2, 4, .inl (fun _ => 0)))]) (hS : va_S A s.heap H locs) {ls : Array Slot} (hl : lv_has ls 4 [(3, .int 0), (2, .ref mx), (1, .ref x), (0, .ref b)]) : W p l e room_1 s m #[Value.ref b] below meth c H locs 50 1070 (lw_Z below #[Value.ref b] s) (F0 m 293 ls []) := by
  obtain ⟨hx, hb, hr, hml, hown, hts0, hX, hbl, hlocks, hgv⟩ := id C0
  have hts := wsL_hts hts0
  refine lv_aload_n hx hb dL_law_293 rfl (lv_at hl 2 rfl) ?_
  refine lv_aload_n hx hb dL_law_294 rfl (lv_at hl 3 rfl) ?_
  refine lv_iload_n hx hb dL_law_295 rfl (lv_at hl 0 rfl) ?_
  refine lv_iconst (v := 1) hx hb dL_law_296 (by decide) ?_
  refine lv_iadd hx hb dL_law_297 ?_
  refine lv_topi (fun f_1 ef_1 => ?_)
  obtain rfl : f_1 = 1 := ef_1.trans (by decide)
  refine va_sld hx hb hX hbl hbA hS (by unfold vp_in; decide) dL_law_298 ?_
  refine lv_aload_n hx hb dL_law_299 rfl (lv_at hl 3 rfl) ?_
  refine lv_iload_n hx hb dL_law_300 rfl (lv_at hl 0 rfl) ?_
  refine lv_iconst (v := 2) hx hb dL_law_301 (by decide) ?_
  refine lv_iadd hx hb dL_law_302 ?_
  refine lv_topi (fun f_2 ef_2 => ?_)
  obtain rfl : f_2 = 2 := ef_2.trans (by decide)
  refine va_sld hx hb hX hbl hbA hS (by unfold vp_in; decide) dL_law_303 ?_
  refine vp_callSi (va_Run.run (va_runV (As := [.int (xs (1 : Int32).toNatClampNeg), .int (xs (2 : Int32).toNatClampNeg)]) (rest := []) ⟨hx, hb, hml, hown, hts⟩ (c_X_legs l dC dI x cd rd tp fo qu sh vs pa pb (xs (1 : Int32).toNatClampNeg) (xs (2 : Int32).toNatClampNeg)) (cwV 2 hts gL_law_X5_legs rfl rfl rfl (by decide +kernel) ⟨Nat.le_of_ble_eq_true rfl, Nat.le_of_ble_eq_true rfl⟩) ⟨PS_blind, va_recv hK hP (ci := 10) (q0 := 0) rfl rfl, PS_pre (hP.sub (ws' := [(x, .inr (10, [.ref cd, .int 0, .ref rd, .int 0, .ref tp, .ref fo, .int 10, .ref qu, .int 0, .int 0, .ref sh, .ref vs, .ref pa, .ref pb]))]) [0] rfl) (hK.sub (tys' := []) [] rfl) hF⟩ rfl rfl hl.1 rfl (lv_room (Nat.le_of_ble_eq_true rfl)) dL_law_304 ⟨Nat.le_of_ble_eq_true rfl, Nat.le_of_ble_eq_true rfl⟩)) (fun r_3 hr_3 => ?_)
  subst hr_3
  refine lv_aload_n hx hb dL_law_307 rfl (lv_at hl 1 rfl) ?_
  refine lv_aload_n hx hb dL_law_308 rfl (lv_at hl 3 rfl) ?_
  refine lv_iload_n hx hb dL_law_309 rfl (lv_at hl 0 rfl) ?_
  refine lv_iconst (v := 1) hx hb dL_law_310 (by decide) ?_
  refine lv_iadd hx hb dL_law_311 ?_
  refine lv_topi (fun f_4 ef_4 => ?_)
  obtain rfl : f_4 = 1 := ef_4.trans (by decide)
  refine va_sld hx hb hX hbl hbA hS (by unfold vp_in; decide) dL_law_312 ?_
  refine lv_aload_n hx hb dL_law_313 rfl (lv_at hl 3 rfl) ?_
  refine lv_iload_n hx hb dL_law_314 rfl (lv_at hl 0 rfl) ?_
  refine lv_iconst (v := 2) hx hb dL_law_315 (by decide) ?_
  refine lv_iadd hx hb dL_law_316 ?_
  refine lv_topi (fun f_5 ef_5 => ?_)
  obtain rfl : f_5 = 2 := ef_5.trans (by decide)
  refine va_sld hx hb hX hbl hbA hS (by unfold vp_in; decide) dL_law_317 ?_
  refine vp_callSi (va_Run.run (va_runV (As := [.int (xs (1 : Int32).toNatClampNeg), .int (xs (2 : Int32).toNatClampNeg)]) (rest := [.int (-1)]) ⟨hx, hb, hml, hown, hts⟩ (c_M_legs l dC dI mx lc lr kn lt ml mm lp lb mq d (xs (1 : Int32).toNatClampNeg) (xs (2 : Int32).toNatClampNeg)) (cwV 2 hts gL_law_X9_legs rfl rfl rfl (by decide +kernel) ⟨Nat.le_of_ble_eq_true rfl, Nat.le_of_ble_eq_true rfl⟩) ⟨PS_blind, va_recv hK hP (ci := 14) (q0 := 12) rfl rfl, PS_pre (hP.sub (ws' := [(mx, .inr (14, [.ref lc, .ref lr, .ref kn, .ref lt, .ref ml, .ref mm, .ref lp, .ref lb, .ref mq, .int 1, .int 10, .int 0, .int 0])), (lc, .inr (4, [.int 0, .ref d, .int 0]))]) [12, 13] rfl) (hK.sub (tys' := []) [] rfl) hF⟩ rfl rfl hl.1 rfl (lv_room (Nat.le_of_ble_eq_true rfl)) dL_law_318 ⟨Nat.le_of_ble_eq_true rfl, Nat.le_of_ble_eq_true rfl⟩)) (fun r_6 hr_6 => ?_)
  subst hr_6
  refine lv_icmp_eq (tgt := 1217) hx hb dL_law_321 (by decide) (fun _ => ?_) (fun c9 => absurd (by decide) c9)
  refine lv_iinc (v := 5) (lv' := [(3, .int 5), (2, .ref mx), (1, .ref x), (0, .ref b)]) hx hb dL_law_1217 hl (k := 0) rfl (by decide) (by decide) rfl (fun ls hl => ?_)
  refine lv_goto (tgt := 18) hx hb dL_law_1220 (by decide) ?_
  exact law_end (C0 := C0) hbA hAs hS (lv_sub hl [0, 3] rfl) (Nat.le_of_ble_eq_true rfl) (Nat.le_of_ble_eq_true rfl)

set_option maxHeartbeats 4000000 in
set_option maxRecDepth 100000 in
theorem law_case4 {p : Program} {l : Launch} {e : Env} {s : State} {m : MethodId} {below : List Frame} {meth : Method} {c : Code} {dC : Nat → ClassId} {dI : Nat → Nat → Nat} {b : Nat} {xs : Nat → Int32} {A : Nat → Prop} {d tc : Nat} {ad : Nat → Nat} {x : Nat} {cd : Nat} {rd : Nat} {tp : Nat} {fo : Nat} {qu : Nat} {sh : Nat} {vs : Nat} {pa : Nat} {pb : Nat} {tb : Nat} {le : Nat} {mo : Nat} {os : Nat} {ps : Nat} {br : Nat} {kl : ClassId} {km : ClassId} {ko : ClassId} {kp : ClassId} {kb : ClassId} {fl : Nat → Int32} {fm : Nat → Int32} {kC : ClassId} {kR : ClassId} {kB : ClassId} {kq : ClassId} {mx : Nat} {lc : Nat} {lr : Nat} {kn : Nat} {lt : Nat} {ml : Nat} {mm : Nat} {lp : Nat} {lb : Nat} {mq : Nat} {kl2 : ClassId} {km2 : ClassId} {kq2 : ClassId} {fl2 : Nat → Int32} {fm2 : Nat → Int32} (C0 : lw_At p s m meth c b 5 xs) (hbA : ¬ A b) (hA : ∀ q, s.heap.size ≤ q → A q) (hAs : ∀ q, A q → s.heap.size ≤ q) (hF : Ft s) (hZ : Zt d tc ad A s s.heap) {H : Heap} {locs : List Loc} (hK : va_K (dC, dI) vwCl [(kC, .object "ExamHalls$Candidate"), (kR, .object "ExamHalls$Reader"), (kB, .byte), (kl, .int), (km, .int), (ko, .int), (kp, .int), (kb, .long), (kq, .int), (kl2, .int), (km2, .int), (kq2, .int)] s) (hP : va_P (dC, dI) vwCl [(x, .inr (10, [.ref cd, .int 0, .ref rd, .int 0, .ref tp, .ref fo, .int 10, .ref qu, .int 0, .int 0, .ref sh, .ref vs, .ref pa, .ref pb])), (cd, .inl (kC, 24, .inr (.inr (.inr (.inr (fun _ => none)))))), (rd, .inl (kR, 6, .inr (.inr (.inr (.inr (fun _ => none)))))), (tp, .inr (9, [.ref tb, .int 0])), (tb, .inl (kB, 250, .inl (fun _ => 0))), (fo, .inr (7, [.int 1, .ref le, .ref mo, .ref os, .ref ps, .int 0, .ref br, .int 0])), (le, .inl (kl, 8, .inl fl)), (mo, .inl (km, 8, .inl fm)), (os, .inl (ko, 6, .inl (fun _ => 0))), (ps, .inl (kp, 6, .inl (fun _ => 0))), (br, .inl (kb, 8, .inr (.inl (fun _ => 0)))), (qu, .inl (kq, 4, .inl (fun _ => 0))), (mx, .inr (14, [.ref lc, .ref lr, .ref kn, .ref lt, .ref ml, .ref mm, .ref lp, .ref lb, .ref mq, .int 1, .int 10, .int 0, .int 0])), (lc, .inr (4, [.int 0, .ref d, .int 0])), (lr, .inr (4, [.int 0, .ref d, .int 0])), (lt, .inr (4, [.int 0, .ref d, .int 0])), (lp, .inr (4, [.int 0, .ref d, .int 0])), (lb, .inr (4, [.int 0, .ref d, .int 0])), (ml, .inl (kl2, 8, .inl fl2)), (mm, .inl (km2, 8, .inl fm2)), (mq, .inl (kq2, 4, .inl (fun _ => 0)))] H) (hD : va_D A [(x, .inr (10, [.ref cd, .int 0, .ref rd, .int 0, .ref tp, .ref fo, .int 10, .ref qu, .int 0, .int 0, .ref sh, .ref vs, .ref pa, .ref pb])), (cd, .inl (kC, 24, .inr (.inr (.inr (.inr (fun _ => none)))))), (rd, .inl (kR, 6, .inr (.inr (.inr (.inr (fun _ => none)))))), (tp, .inr (9, [.ref tb, .int 0])), (tb, .inl (kB, 250, .inl (fun _ => 0))), (fo, .inr (7, [.int 1, .ref le, .ref mo, .ref os, .ref ps, .int 0, .ref br, .int 0])), (le, .inl (kl, 8, .inl fl)), (mo, .inl (km, 8, .inl fm)), (os, .inl (ko, 6, .inl (fun _ => 0))), (ps, .inl (kp, 6, .inl (fun _ => 0))), (br, .inl (kb, 8, .inr (.inl (fun _ => 0)))), (qu, .inl (kq, 4, .inl (fun _ => 0))), (mx, .inr (14, [.ref lc, .ref lr, .ref kn, .ref lt, .ref ml, .ref mm, .ref lp, .ref lb, .ref mq, .int 1, .int 10, .int 0, .int 0])), (lc, .inr (4, [.int 0, .ref d, .int 0])), (lr, .inr (4, [.int 0, .ref d, .int 0])), (lt, .inr (4, [.int 0, .ref d, .int 0])), (lp, .inr (4, [.int 0, .ref d, .int 0])), (lb, .inr (4, [.int 0, .ref d, .int 0])), (ml, .inl (kl2, 8, .inl fl2)), (mm, .inl (km2, 8, .inl fm2)), (mq, .inl (kq2, 4, .inl (fun _ => 0)))]) (hS : va_S A s.heap H locs) {ls : Array Slot} (hl : lv_has ls 4 [(3, .int 0), (2, .ref mx), (1, .ref x), (0, .ref b)]) : W p l e room_1 s m #[Value.ref b] below meth c H locs 50 1070 (lw_Z below #[Value.ref b] s) (F0 m 326 ls []) := by
  obtain ⟨hx, hb, hr, hml, hown, hts0, hX, hbl, hlocks, hgv⟩ := id C0
  have hts := wsL_hts hts0
  refine lv_aload_n hx hb dL_law_326 rfl (lv_at hl 2 rfl) ?_
  refine lv_aload_n hx hb dL_law_327 rfl (lv_at hl 3 rfl) ?_
  refine lv_iload_n hx hb dL_law_328 rfl (lv_at hl 0 rfl) ?_
  refine lv_iconst (v := 1) hx hb dL_law_329 (by decide) ?_
  refine lv_iadd hx hb dL_law_330 ?_
  refine lv_topi (fun f_1 ef_1 => ?_)
  obtain rfl : f_1 = 1 := ef_1.trans (by decide)
  refine va_sld hx hb hX hbl hbA hS (by unfold vp_in; decide) dL_law_331 ?_
  refine lv_aload_n hx hb dL_law_332 rfl (lv_at hl 3 rfl) ?_
  refine lv_iload_n hx hb dL_law_333 rfl (lv_at hl 0 rfl) ?_
  refine lv_iconst (v := 2) hx hb dL_law_334 (by decide) ?_
  refine lv_iadd hx hb dL_law_335 ?_
  refine lv_topi (fun f_2 ef_2 => ?_)
  obtain rfl : f_2 = 2 := ef_2.trans (by decide)
  refine va_sld hx hb hX hbl hbA hS (by unfold vp_in; decide) dL_law_336 ?_
  refine lv_aload_n hx hb dL_law_337 rfl (lv_at hl 3 rfl) ?_
  refine lv_iload_n hx hb dL_law_338 rfl (lv_at hl 0 rfl) ?_
  refine lv_iconst (v := 3) hx hb dL_law_339 (by decide) ?_
  refine lv_iadd hx hb dL_law_340 ?_
  refine lv_topi (fun f_3 ef_3 => ?_)
  obtain rfl : f_3 = 3 := ef_3.trans (by decide)
  refine va_sld hx hb hX hbl hbA hS (by unfold vp_in; decide) dL_law_341 ?_
  refine vp_callSl (va_Run.run (va_runV (As := [.int (xs (1 : Int32).toNatClampNeg), .int (xs (2 : Int32).toNatClampNeg), .int (xs (3 : Int32).toNatClampNeg)]) (rest := []) ⟨hx, hb, hml, hown, hts⟩ (c_X_word l dC dI x cd rd tp fo qu sh vs pa pb (xs (1 : Int32).toNatClampNeg) (xs (2 : Int32).toNatClampNeg) (xs (3 : Int32).toNatClampNeg)) (cwV 3 hts gL_law_X5_word rfl rfl rfl (by decide +kernel) ⟨Nat.le_of_ble_eq_true rfl, Nat.le_of_ble_eq_true rfl⟩) ⟨PS_blind, va_recv hK hP (ci := 10) (q0 := 0) rfl rfl, PS_pre (hP.sub (ws' := [(x, .inr (10, [.ref cd, .int 0, .ref rd, .int 0, .ref tp, .ref fo, .int 10, .ref qu, .int 0, .int 0, .ref sh, .ref vs, .ref pa, .ref pb]))]) [0] rfl) (hK.sub (tys' := []) [] rfl) hF⟩ rfl rfl hl.1 rfl (lv_room (Nat.le_of_ble_eq_true rfl)) dL_law_342 ⟨Nat.le_of_ble_eq_true rfl, Nat.le_of_ble_eq_true rfl⟩)) (fun r_4 hr_4 => ?_)
  subst hr_4
  refine lv_aload_n hx hb dL_law_345 rfl (lv_at hl 1 rfl) ?_
  refine lv_aload_n hx hb dL_law_346 rfl (lv_at hl 3 rfl) ?_
  refine lv_iload_n hx hb dL_law_347 rfl (lv_at hl 0 rfl) ?_
  refine lv_iconst (v := 1) hx hb dL_law_348 (by decide) ?_
  refine lv_iadd hx hb dL_law_349 ?_
  refine lv_topi (fun f_5 ef_5 => ?_)
  obtain rfl : f_5 = 1 := ef_5.trans (by decide)
  refine va_sld hx hb hX hbl hbA hS (by unfold vp_in; decide) dL_law_350 ?_
  refine lv_aload_n hx hb dL_law_351 rfl (lv_at hl 3 rfl) ?_
  refine lv_iload_n hx hb dL_law_352 rfl (lv_at hl 0 rfl) ?_
  refine lv_iconst (v := 2) hx hb dL_law_353 (by decide) ?_
  refine lv_iadd hx hb dL_law_354 ?_
  refine lv_topi (fun f_6 ef_6 => ?_)
  obtain rfl : f_6 = 2 := ef_6.trans (by decide)
  refine va_sld hx hb hX hbl hbA hS (by unfold vp_in; decide) dL_law_355 ?_
  refine lv_aload_n hx hb dL_law_356 rfl (lv_at hl 3 rfl) ?_
  refine lv_iload_n hx hb dL_law_357 rfl (lv_at hl 0 rfl) ?_
  refine lv_iconst (v := 3) hx hb dL_law_358 (by decide) ?_
  refine lv_iadd hx hb dL_law_359 ?_
  refine lv_topi (fun f_7 ef_7 => ?_)
  obtain rfl : f_7 = 3 := ef_7.trans (by decide)
  refine va_sld hx hb hX hbl hbA hS (by unfold vp_in; decide) dL_law_360 ?_
  refine vp_callSl (va_Run.run (va_runV (As := [.int (xs (1 : Int32).toNatClampNeg), .int (xs (2 : Int32).toNatClampNeg), .int (xs (3 : Int32).toNatClampNeg)]) (rest := [.long 0]) ⟨hx, hb, hml, hown, hts⟩ (c_M_word l dC dI mx lc lr kn lt ml mm lp lb mq d (xs (1 : Int32).toNatClampNeg) (xs (2 : Int32).toNatClampNeg) (xs (3 : Int32).toNatClampNeg)) (cwV 3 hts gL_law_X9_word rfl rfl rfl (by decide +kernel) ⟨Nat.le_of_ble_eq_true rfl, Nat.le_of_ble_eq_true rfl⟩) ⟨PS_blind, va_recv hK hP (ci := 14) (q0 := 12) rfl rfl, PS_pre (hP.sub (ws' := [(mx, .inr (14, [.ref lc, .ref lr, .ref kn, .ref lt, .ref ml, .ref mm, .ref lp, .ref lb, .ref mq, .int 1, .int 10, .int 0, .int 0])), (lc, .inr (4, [.int 0, .ref d, .int 0]))]) [12, 13] rfl) (hK.sub (tys' := []) [] rfl) hF⟩ rfl rfl hl.1 rfl (lv_room (Nat.le_of_ble_eq_true rfl)) dL_law_361 ⟨Nat.le_of_ble_eq_true rfl, Nat.le_of_ble_eq_true rfl⟩)) (fun r_8 hr_8 => ?_)
  subst hr_8
  refine W.lcmp hx hb dL_law_364 ?_
  refine lv_if_eq (tgt := 1217) hx hb dL_law_365 (by decide) (fun _ => ?_) (fun c9 => absurd (by decide) c9)
  refine lv_iinc (v := 5) (lv' := [(3, .int 5), (2, .ref mx), (1, .ref x), (0, .ref b)]) hx hb dL_law_1217 hl (k := 0) rfl (by decide) (by decide) rfl (fun ls hl => ?_)
  refine lv_goto (tgt := 18) hx hb dL_law_1220 (by decide) ?_
  exact law_end (C0 := C0) hbA hAs hS (lv_sub hl [0, 3] rfl) (Nat.le_of_ble_eq_true rfl) (Nat.le_of_ble_eq_true rfl)

set_option maxHeartbeats 4000000 in
set_option maxRecDepth 100000 in
theorem law_case5 {p : Program} {l : Launch} {e : Env} {s : State} {m : MethodId} {below : List Frame} {meth : Method} {c : Code} {dC : Nat → ClassId} {dI : Nat → Nat → Nat} {b : Nat} {xs : Nat → Int32} {A : Nat → Prop} {d tc : Nat} {ad : Nat → Nat} {x : Nat} {cd : Nat} {rd : Nat} {tp : Nat} {fo : Nat} {qu : Nat} {sh : Nat} {vs : Nat} {pa : Nat} {pb : Nat} {tb : Nat} {le : Nat} {mo : Nat} {os : Nat} {ps : Nat} {br : Nat} {kl : ClassId} {km : ClassId} {ko : ClassId} {kp : ClassId} {kb : ClassId} {fl : Nat → Int32} {fm : Nat → Int32} {kC : ClassId} {kR : ClassId} {kB : ClassId} {kq : ClassId} {mx : Nat} {lc : Nat} {lr : Nat} {kn : Nat} {lt : Nat} {ml : Nat} {mm : Nat} {lp : Nat} {lb : Nat} {mq : Nat} {kl2 : ClassId} {km2 : ClassId} {kq2 : ClassId} {fl2 : Nat → Int32} {fm2 : Nat → Int32} (C0 : lw_At p s m meth c b 5 xs) (hbA : ¬ A b) (hA : ∀ q, s.heap.size ≤ q → A q) (hAs : ∀ q, A q → s.heap.size ≤ q) (hF : Ft s) (hZ : Zt d tc ad A s s.heap) {H : Heap} {locs : List Loc} (hK : va_K (dC, dI) vwCl [(kC, .object "ExamHalls$Candidate"), (kR, .object "ExamHalls$Reader"), (kB, .byte), (kl, .int), (km, .int), (ko, .int), (kp, .int), (kb, .long), (kq, .int), (kl2, .int), (km2, .int), (kq2, .int)] s) (hP : va_P (dC, dI) vwCl [(x, .inr (10, [.ref cd, .int 0, .ref rd, .int 0, .ref tp, .ref fo, .int 10, .ref qu, .int 0, .int 0, .ref sh, .ref vs, .ref pa, .ref pb])), (cd, .inl (kC, 24, .inr (.inr (.inr (.inr (fun _ => none)))))), (rd, .inl (kR, 6, .inr (.inr (.inr (.inr (fun _ => none)))))), (tp, .inr (9, [.ref tb, .int 0])), (tb, .inl (kB, 250, .inl (fun _ => 0))), (fo, .inr (7, [.int 1, .ref le, .ref mo, .ref os, .ref ps, .int 0, .ref br, .int 0])), (le, .inl (kl, 8, .inl fl)), (mo, .inl (km, 8, .inl fm)), (os, .inl (ko, 6, .inl (fun _ => 0))), (ps, .inl (kp, 6, .inl (fun _ => 0))), (br, .inl (kb, 8, .inr (.inl (fun _ => 0)))), (qu, .inl (kq, 4, .inl (fun _ => 0))), (mx, .inr (14, [.ref lc, .ref lr, .ref kn, .ref lt, .ref ml, .ref mm, .ref lp, .ref lb, .ref mq, .int 1, .int 10, .int 0, .int 0])), (lc, .inr (4, [.int 0, .ref d, .int 0])), (lr, .inr (4, [.int 0, .ref d, .int 0])), (lt, .inr (4, [.int 0, .ref d, .int 0])), (lp, .inr (4, [.int 0, .ref d, .int 0])), (lb, .inr (4, [.int 0, .ref d, .int 0])), (ml, .inl (kl2, 8, .inl fl2)), (mm, .inl (km2, 8, .inl fm2)), (mq, .inl (kq2, 4, .inl (fun _ => 0)))] H) (hD : va_D A [(x, .inr (10, [.ref cd, .int 0, .ref rd, .int 0, .ref tp, .ref fo, .int 10, .ref qu, .int 0, .int 0, .ref sh, .ref vs, .ref pa, .ref pb])), (cd, .inl (kC, 24, .inr (.inr (.inr (.inr (fun _ => none)))))), (rd, .inl (kR, 6, .inr (.inr (.inr (.inr (fun _ => none)))))), (tp, .inr (9, [.ref tb, .int 0])), (tb, .inl (kB, 250, .inl (fun _ => 0))), (fo, .inr (7, [.int 1, .ref le, .ref mo, .ref os, .ref ps, .int 0, .ref br, .int 0])), (le, .inl (kl, 8, .inl fl)), (mo, .inl (km, 8, .inl fm)), (os, .inl (ko, 6, .inl (fun _ => 0))), (ps, .inl (kp, 6, .inl (fun _ => 0))), (br, .inl (kb, 8, .inr (.inl (fun _ => 0)))), (qu, .inl (kq, 4, .inl (fun _ => 0))), (mx, .inr (14, [.ref lc, .ref lr, .ref kn, .ref lt, .ref ml, .ref mm, .ref lp, .ref lb, .ref mq, .int 1, .int 10, .int 0, .int 0])), (lc, .inr (4, [.int 0, .ref d, .int 0])), (lr, .inr (4, [.int 0, .ref d, .int 0])), (lt, .inr (4, [.int 0, .ref d, .int 0])), (lp, .inr (4, [.int 0, .ref d, .int 0])), (lb, .inr (4, [.int 0, .ref d, .int 0])), (ml, .inl (kl2, 8, .inl fl2)), (mm, .inl (km2, 8, .inl fm2)), (mq, .inl (kq2, 4, .inl (fun _ => 0)))]) (hS : va_S A s.heap H locs) {ls : Array Slot} (hl : lv_has ls 4 [(3, .int 0), (2, .ref mx), (1, .ref x), (0, .ref b)]) : W p l e room_1 s m #[Value.ref b] below meth c H locs 50 1070 (lw_Z below #[Value.ref b] s) (F0 m 370 ls []) := by
  obtain ⟨hx, hb, hr, hml, hown, hts0, hX, hbl, hlocks, hgv⟩ := id C0
  have hts := wsL_hts hts0
  refine lv_aload_n hx hb dL_law_370 rfl (lv_at hl 2 rfl) ?_
  refine lv_aload_n hx hb dL_law_371 rfl (lv_at hl 3 rfl) ?_
  refine lv_iload_n hx hb dL_law_372 rfl (lv_at hl 0 rfl) ?_
  refine lv_iconst (v := 1) hx hb dL_law_373 (by decide) ?_
  refine lv_iadd hx hb dL_law_374 ?_
  refine lv_topi (fun f_1 ef_1 => ?_)
  obtain rfl : f_1 = 1 := ef_1.trans (by decide)
  refine va_sld hx hb hX hbl hbA hS (by unfold vp_in; decide) dL_law_375 ?_
  have hPc := hP.sub (ws' := [(x, .inr (10, [.ref cd, .int 0, .ref rd, .int 0, .ref tp, .ref fo, .int 10, .ref qu, .int 0, .int 0, .ref sh, .ref vs, .ref pa, .ref pb])), (fo, .inr (7, [.int 1, .ref le, .ref mo, .ref os, .ref ps, .int 0, .ref br, .int 0]))]) [0, 5] rfl
  have hDc := hD.sub (ws' := [(x, .inr (10, [.ref cd, .int 0, .ref rd, .int 0, .ref tp, .ref fo, .int 10, .ref qu, .int 0, .int 0, .ref sh, .ref vs, .ref pa, .ref pb])), (fo, .inr (7, [.int 1, .ref le, .ref mo, .ref os, .ref ps, .int 0, .ref br, .int 0]))]) [0, 5] (by decide) rfl
  have hKc := hK.sub (tys' := []) [] rfl
  have hFc := va_free (wc := [(x, .inr (10, [.ref cd, .int 0, .ref rd, .int 0, .ref tp, .ref fo, .int 10, .ref qu, .int 0, .int 0, .ref sh, .ref vs, .ref pa, .ref pb])), (fo, .inr (7, [.int 1, .ref le, .ref mo, .ref os, .ref ps, .int 0, .ref br, .int 0]))]) hD hS hA [0, 5] rfl
  refine va_calli (va_runV (As := [.int (xs (1 : Int32).toNatClampNeg)]) (rest := []) ⟨hx, hb, hml, hown, hts⟩ (c_X_form l dC dI x cd rd tp fo qu sh vs pa pb le mo os ps br (xs (1 : Int32).toNatClampNeg) H.size) (cwV 1 hts gL_law_X5_form rfl rfl rfl (by decide +kernel) ⟨Nat.le_of_ble_eq_true rfl, Nat.le_of_ble_eq_true rfl⟩) ⟨PQ_blind, va_recv hK hP (ci := 10) (q0 := 0) rfl rfl, PQ_pre hPc hKc hDc hF⟩ rfl rfl hl.1 rfl (lv_room (Nat.le_of_ble_eq_true rfl)) dL_law_376 ⟨Nat.le_of_ble_eq_true rfl, Nat.le_of_ble_eq_true rfl⟩) hS (fun q _ h => hFc q h) hFc (fun r_2 u t H1 locs ht hvm hw hB hz1 hk1 hS => ?_)
  have hP1 : va_P (dC, dI) vwCl [] H1 := fun k q h => by simp at h
  have hD1 : va_D (va_A [(x, .inr (10, [.ref cd, .int 0, .ref rd, .int 0, .ref tp, .ref fo, .int 10, .ref qu, .int 0, .int 0, .ref sh, .ref vs, .ref pa, .ref pb])), (fo, .inr (7, [.int 1, .ref le, .ref mo, .ref os, .ref ps, .int 0, .ref br, .int 0]))] H.size) [] := ⟨fun i j p q h => by simp at h, fun k q h => by simp at h⟩
  obtain ⟨hP, hD⟩ := va_join (wr := [(cd, .inl (kC, 24, .inr (.inr (.inr (.inr (fun _ => none)))))), (rd, .inl (kR, 6, .inr (.inr (.inr (.inr (fun _ => none)))))), (tp, .inr (9, [.ref tb, .int 0])), (tb, .inl (kB, 250, .inl (fun _ => 0))), (le, .inl (kl, 8, .inl fl)), (mo, .inl (km, 8, .inl fm)), (os, .inl (ko, 6, .inl (fun _ => 0))), (ps, .inl (kp, 6, .inl (fun _ => 0))), (br, .inl (kb, 8, .inr (.inl (fun _ => 0)))), (qu, .inl (kq, 4, .inl (fun _ => 0))), (mx, .inr (14, [.ref lc, .ref lr, .ref kn, .ref lt, .ref ml, .ref mm, .ref lp, .ref lb, .ref mq, .int 1, .int 10, .int 0, .int 0])), (lc, .inr (4, [.int 0, .ref d, .int 0])), (lr, .inr (4, [.int 0, .ref d, .int 0])), (lt, .inr (4, [.int 0, .ref d, .int 0])), (lp, .inr (4, [.int 0, .ref d, .int 0])), (lb, .inr (4, [.int 0, .ref d, .int 0])), (ml, .inl (kl2, 8, .inl fl2)), (mm, .inl (km2, 8, .inl fm2)), (mq, .inl (kq2, 4, .inl (fun _ => 0)))]) (w1 := []) hP hD [0, 5] [1, 2, 3, 4, 6, 7, 8, 9, 10, 11, 12, 13, 14, 15, 16, 17, 18, 19, 20] rfl rfl (by decide) (by decide) hk1 hFc hP1 hD1
  generalize H1 = H at hP hS ⊢
  have hP : va_P (dC, dI) vwCl [(cd, .inl (kC, 24, .inr (.inr (.inr (.inr (fun _ => none)))))), (rd, .inl (kR, 6, .inr (.inr (.inr (.inr (fun _ => none)))))), (tp, .inr (9, [.ref tb, .int 0])), (tb, .inl (kB, 250, .inl (fun _ => 0))), (le, .inl (kl, 8, .inl fl)), (mo, .inl (km, 8, .inl fm)), (os, .inl (ko, 6, .inl (fun _ => 0))), (ps, .inl (kp, 6, .inl (fun _ => 0))), (br, .inl (kb, 8, .inr (.inl (fun _ => 0)))), (qu, .inl (kq, 4, .inl (fun _ => 0))), (mx, .inr (14, [.ref lc, .ref lr, .ref kn, .ref lt, .ref ml, .ref mm, .ref lp, .ref lb, .ref mq, .int 1, .int 10, .int 0, .int 0])), (lc, .inr (4, [.int 0, .ref d, .int 0])), (lr, .inr (4, [.int 0, .ref d, .int 0])), (lt, .inr (4, [.int 0, .ref d, .int 0])), (lp, .inr (4, [.int 0, .ref d, .int 0])), (lb, .inr (4, [.int 0, .ref d, .int 0])), (ml, .inl (kl2, 8, .inl fl2)), (mm, .inl (km2, 8, .inl fm2)), (mq, .inl (kq2, 4, .inl (fun _ => 0)))] H := hP
  have hD : va_D A [(cd, .inl (kC, 24, .inr (.inr (.inr (.inr (fun _ => none)))))), (rd, .inl (kR, 6, .inr (.inr (.inr (.inr (fun _ => none)))))), (tp, .inr (9, [.ref tb, .int 0])), (tb, .inl (kB, 250, .inl (fun _ => 0))), (le, .inl (kl, 8, .inl fl)), (mo, .inl (km, 8, .inl fm)), (os, .inl (ko, 6, .inl (fun _ => 0))), (ps, .inl (kp, 6, .inl (fun _ => 0))), (br, .inl (kb, 8, .inr (.inl (fun _ => 0)))), (qu, .inl (kq, 4, .inl (fun _ => 0))), (mx, .inr (14, [.ref lc, .ref lr, .ref kn, .ref lt, .ref ml, .ref mm, .ref lp, .ref lb, .ref mq, .int 1, .int 10, .int 0, .int 0])), (lc, .inr (4, [.int 0, .ref d, .int 0])), (lr, .inr (4, [.int 0, .ref d, .int 0])), (lt, .inr (4, [.int 0, .ref d, .int 0])), (lp, .inr (4, [.int 0, .ref d, .int 0])), (lb, .inr (4, [.int 0, .ref d, .int 0])), (ml, .inl (kl2, 8, .inl fl2)), (mm, .inl (km2, 8, .inl fm2)), (mq, .inl (kq2, 4, .inl (fun _ => 0)))] := hD
  have hK : va_K (dC, dI) vwCl [(kC, .object "ExamHalls$Candidate"), (kR, .object "ExamHalls$Reader"), (kB, .byte), (kl, .int), (km, .int), (ko, .int), (kp, .int), (kb, .long), (kq, .int), (kl2, .int), (km2, .int), (kq2, .int)] s := hK
  refine W.widen (k := 50) (n := 1070) (Nat.le_of_ble_eq_true rfl) (Nat.le_of_ble_eq_true rfl) ?_
  obtain rfl := hw
  refine lv_aload_n hx hb dL_law_379 rfl (lv_at hl 1 rfl) ?_
  refine lv_aload_n hx hb dL_law_380 rfl (lv_at hl 3 rfl) ?_
  refine lv_iload_n hx hb dL_law_381 rfl (lv_at hl 0 rfl) ?_
  refine lv_iconst (v := 1) hx hb dL_law_382 (by decide) ?_
  refine lv_iadd hx hb dL_law_383 ?_
  refine lv_topi (fun f_3 ef_3 => ?_)
  obtain rfl : f_3 = 1 := ef_3.trans (by decide)
  refine va_sld hx hb hX hbl hbA hS (by unfold vp_in; decide) dL_law_384 ?_
  have hPc := hP.sub (ws' := [(mx, .inr (14, [.ref lc, .ref lr, .ref kn, .ref lt, .ref ml, .ref mm, .ref lp, .ref lb, .ref mq, .int 1, .int 10, .int 0, .int 0]))]) [10] rfl
  have hDc := hD.sub (ws' := [(mx, .inr (14, [.ref lc, .ref lr, .ref kn, .ref lt, .ref ml, .ref mm, .ref lp, .ref lb, .ref mq, .int 1, .int 10, .int 0, .int 0]))]) [10] (by decide) rfl
  have hKc := hK.sub (tys' := []) [] rfl
  have hFc := va_free (wc := [(mx, .inr (14, [.ref lc, .ref lr, .ref kn, .ref lt, .ref ml, .ref mm, .ref lp, .ref lb, .ref mq, .int 1, .int 10, .int 0, .int 0]))]) hD hS hA [10] rfl
  refine va_calli (va_runV (As := [.int (xs (1 : Int32).toNatClampNeg)]) (rest := [.int (sp_X_form (xs (1 : Int32).toNatClampNeg))]) ⟨hx, hb, hml, hown, hts⟩ (c_M_form l dC dI mx lc lr kn lt ml mm lp lb mq (xs (1 : Int32).toNatClampNeg) H.size) (cwV 1 hts gL_law_X9_form rfl rfl rfl (by decide +kernel) ⟨Nat.le_of_ble_eq_true rfl, Nat.le_of_ble_eq_true rfl⟩) ⟨PQ_blind, va_recv hK hP (ci := 14) (q0 := 10) rfl rfl, PQ_pre hPc hKc hDc hF⟩ rfl rfl hl.1 rfl (lv_room (Nat.le_of_ble_eq_true rfl)) dL_law_385 ⟨Nat.le_of_ble_eq_true rfl, Nat.le_of_ble_eq_true rfl⟩) hS (fun q _ h => hFc q h) hFc (fun r_4 u t H1 locs ht hvm hw hB hz1 hk1 hS => ?_)
  have hP1 : va_P (dC, dI) vwCl [] H1 := fun k q h => by simp at h
  have hD1 : va_D (va_A [(mx, .inr (14, [.ref lc, .ref lr, .ref kn, .ref lt, .ref ml, .ref mm, .ref lp, .ref lb, .ref mq, .int 1, .int 10, .int 0, .int 0]))] H.size) [] := ⟨fun i j p q h => by simp at h, fun k q h => by simp at h⟩
  obtain ⟨hP, hD⟩ := va_join (wr := [(cd, .inl (kC, 24, .inr (.inr (.inr (.inr (fun _ => none)))))), (rd, .inl (kR, 6, .inr (.inr (.inr (.inr (fun _ => none)))))), (tp, .inr (9, [.ref tb, .int 0])), (tb, .inl (kB, 250, .inl (fun _ => 0))), (le, .inl (kl, 8, .inl fl)), (mo, .inl (km, 8, .inl fm)), (os, .inl (ko, 6, .inl (fun _ => 0))), (ps, .inl (kp, 6, .inl (fun _ => 0))), (br, .inl (kb, 8, .inr (.inl (fun _ => 0)))), (qu, .inl (kq, 4, .inl (fun _ => 0))), (lc, .inr (4, [.int 0, .ref d, .int 0])), (lr, .inr (4, [.int 0, .ref d, .int 0])), (lt, .inr (4, [.int 0, .ref d, .int 0])), (lp, .inr (4, [.int 0, .ref d, .int 0])), (lb, .inr (4, [.int 0, .ref d, .int 0])), (ml, .inl (kl2, 8, .inl fl2)), (mm, .inl (km2, 8, .inl fm2)), (mq, .inl (kq2, 4, .inl (fun _ => 0)))]) (w1 := []) hP hD [10] [0, 1, 2, 3, 4, 5, 6, 7, 8, 9, 11, 12, 13, 14, 15, 16, 17, 18] rfl rfl (by decide) (by decide) hk1 hFc hP1 hD1
  generalize H1 = H at hP hS ⊢
  have hP : va_P (dC, dI) vwCl [(cd, .inl (kC, 24, .inr (.inr (.inr (.inr (fun _ => none)))))), (rd, .inl (kR, 6, .inr (.inr (.inr (.inr (fun _ => none)))))), (tp, .inr (9, [.ref tb, .int 0])), (tb, .inl (kB, 250, .inl (fun _ => 0))), (le, .inl (kl, 8, .inl fl)), (mo, .inl (km, 8, .inl fm)), (os, .inl (ko, 6, .inl (fun _ => 0))), (ps, .inl (kp, 6, .inl (fun _ => 0))), (br, .inl (kb, 8, .inr (.inl (fun _ => 0)))), (qu, .inl (kq, 4, .inl (fun _ => 0))), (lc, .inr (4, [.int 0, .ref d, .int 0])), (lr, .inr (4, [.int 0, .ref d, .int 0])), (lt, .inr (4, [.int 0, .ref d, .int 0])), (lp, .inr (4, [.int 0, .ref d, .int 0])), (lb, .inr (4, [.int 0, .ref d, .int 0])), (ml, .inl (kl2, 8, .inl fl2)), (mm, .inl (km2, 8, .inl fm2)), (mq, .inl (kq2, 4, .inl (fun _ => 0)))] H := hP
  have hD : va_D A [(cd, .inl (kC, 24, .inr (.inr (.inr (.inr (fun _ => none)))))), (rd, .inl (kR, 6, .inr (.inr (.inr (.inr (fun _ => none)))))), (tp, .inr (9, [.ref tb, .int 0])), (tb, .inl (kB, 250, .inl (fun _ => 0))), (le, .inl (kl, 8, .inl fl)), (mo, .inl (km, 8, .inl fm)), (os, .inl (ko, 6, .inl (fun _ => 0))), (ps, .inl (kp, 6, .inl (fun _ => 0))), (br, .inl (kb, 8, .inr (.inl (fun _ => 0)))), (qu, .inl (kq, 4, .inl (fun _ => 0))), (lc, .inr (4, [.int 0, .ref d, .int 0])), (lr, .inr (4, [.int 0, .ref d, .int 0])), (lt, .inr (4, [.int 0, .ref d, .int 0])), (lp, .inr (4, [.int 0, .ref d, .int 0])), (lb, .inr (4, [.int 0, .ref d, .int 0])), (ml, .inl (kl2, 8, .inl fl2)), (mm, .inl (km2, 8, .inl fm2)), (mq, .inl (kq2, 4, .inl (fun _ => 0)))] := hD
  have hK : va_K (dC, dI) vwCl [(kC, .object "ExamHalls$Candidate"), (kR, .object "ExamHalls$Reader"), (kB, .byte), (kl, .int), (km, .int), (ko, .int), (kp, .int), (kb, .long), (kq, .int), (kl2, .int), (km2, .int), (kq2, .int)] s := hK
  refine W.widen (k := 50) (n := 1070) (Nat.le_of_ble_eq_true rfl) (Nat.le_of_ble_eq_true rfl) ?_
  obtain rfl := hw
  refine lv_icmp_eq (tgt := 1217) hx hb dL_law_388 (by decide) (fun _ => ?_) (fun c9 => absurd (eq_form _) c9)
  refine lv_iinc (v := 5) (lv' := [(3, .int 5), (2, .ref mx), (1, .ref x), (0, .ref b)]) hx hb dL_law_1217 hl (k := 0) rfl (by decide) (by decide) rfl (fun ls hl => ?_)
  refine lv_goto (tgt := 18) hx hb dL_law_1220 (by decide) ?_
  exact law_end (C0 := C0) hbA hAs hS (lv_sub hl [0, 3] rfl) (Nat.le_of_ble_eq_true rfl) (Nat.le_of_ble_eq_true rfl)

set_option maxHeartbeats 4000000 in
set_option maxRecDepth 100000 in
theorem law_case6 {p : Program} {l : Launch} {e : Env} {s : State} {m : MethodId} {below : List Frame} {meth : Method} {c : Code} {dC : Nat → ClassId} {dI : Nat → Nat → Nat} {b : Nat} {xs : Nat → Int32} {A : Nat → Prop} {d tc : Nat} {ad : Nat → Nat} {x : Nat} {cd : Nat} {rd : Nat} {tp : Nat} {fo : Nat} {qu : Nat} {sh : Nat} {vs : Nat} {pa : Nat} {pb : Nat} {tb : Nat} {le : Nat} {mo : Nat} {os : Nat} {ps : Nat} {br : Nat} {kl : ClassId} {km : ClassId} {ko : ClassId} {kp : ClassId} {kb : ClassId} {fl : Nat → Int32} {fm : Nat → Int32} {kC : ClassId} {kR : ClassId} {kB : ClassId} {kq : ClassId} {mx : Nat} {lc : Nat} {lr : Nat} {kn : Nat} {lt : Nat} {ml : Nat} {mm : Nat} {lp : Nat} {lb : Nat} {mq : Nat} {kl2 : ClassId} {km2 : ClassId} {kq2 : ClassId} {fl2 : Nat → Int32} {fm2 : Nat → Int32} (C0 : lw_At p s m meth c b 5 xs) (hbA : ¬ A b) (hA : ∀ q, s.heap.size ≤ q → A q) (hAs : ∀ q, A q → s.heap.size ≤ q) (hF : Ft s) (hZ : Zt d tc ad A s s.heap) {H : Heap} {locs : List Loc} (hK : va_K (dC, dI) vwCl [(kC, .object "ExamHalls$Candidate"), (kR, .object "ExamHalls$Reader"), (kB, .byte), (kl, .int), (km, .int), (ko, .int), (kp, .int), (kb, .long), (kq, .int), (kl2, .int), (km2, .int), (kq2, .int)] s) (hP : va_P (dC, dI) vwCl [(x, .inr (10, [.ref cd, .int 0, .ref rd, .int 0, .ref tp, .ref fo, .int 10, .ref qu, .int 0, .int 0, .ref sh, .ref vs, .ref pa, .ref pb])), (cd, .inl (kC, 24, .inr (.inr (.inr (.inr (fun _ => none)))))), (rd, .inl (kR, 6, .inr (.inr (.inr (.inr (fun _ => none)))))), (tp, .inr (9, [.ref tb, .int 0])), (tb, .inl (kB, 250, .inl (fun _ => 0))), (fo, .inr (7, [.int 1, .ref le, .ref mo, .ref os, .ref ps, .int 0, .ref br, .int 0])), (le, .inl (kl, 8, .inl fl)), (mo, .inl (km, 8, .inl fm)), (os, .inl (ko, 6, .inl (fun _ => 0))), (ps, .inl (kp, 6, .inl (fun _ => 0))), (br, .inl (kb, 8, .inr (.inl (fun _ => 0)))), (qu, .inl (kq, 4, .inl (fun _ => 0))), (mx, .inr (14, [.ref lc, .ref lr, .ref kn, .ref lt, .ref ml, .ref mm, .ref lp, .ref lb, .ref mq, .int 1, .int 10, .int 0, .int 0])), (lc, .inr (4, [.int 0, .ref d, .int 0])), (lr, .inr (4, [.int 0, .ref d, .int 0])), (lt, .inr (4, [.int 0, .ref d, .int 0])), (lp, .inr (4, [.int 0, .ref d, .int 0])), (lb, .inr (4, [.int 0, .ref d, .int 0])), (ml, .inl (kl2, 8, .inl fl2)), (mm, .inl (km2, 8, .inl fm2)), (mq, .inl (kq2, 4, .inl (fun _ => 0)))] H) (hD : va_D A [(x, .inr (10, [.ref cd, .int 0, .ref rd, .int 0, .ref tp, .ref fo, .int 10, .ref qu, .int 0, .int 0, .ref sh, .ref vs, .ref pa, .ref pb])), (cd, .inl (kC, 24, .inr (.inr (.inr (.inr (fun _ => none)))))), (rd, .inl (kR, 6, .inr (.inr (.inr (.inr (fun _ => none)))))), (tp, .inr (9, [.ref tb, .int 0])), (tb, .inl (kB, 250, .inl (fun _ => 0))), (fo, .inr (7, [.int 1, .ref le, .ref mo, .ref os, .ref ps, .int 0, .ref br, .int 0])), (le, .inl (kl, 8, .inl fl)), (mo, .inl (km, 8, .inl fm)), (os, .inl (ko, 6, .inl (fun _ => 0))), (ps, .inl (kp, 6, .inl (fun _ => 0))), (br, .inl (kb, 8, .inr (.inl (fun _ => 0)))), (qu, .inl (kq, 4, .inl (fun _ => 0))), (mx, .inr (14, [.ref lc, .ref lr, .ref kn, .ref lt, .ref ml, .ref mm, .ref lp, .ref lb, .ref mq, .int 1, .int 10, .int 0, .int 0])), (lc, .inr (4, [.int 0, .ref d, .int 0])), (lr, .inr (4, [.int 0, .ref d, .int 0])), (lt, .inr (4, [.int 0, .ref d, .int 0])), (lp, .inr (4, [.int 0, .ref d, .int 0])), (lb, .inr (4, [.int 0, .ref d, .int 0])), (ml, .inl (kl2, 8, .inl fl2)), (mm, .inl (km2, 8, .inl fm2)), (mq, .inl (kq2, 4, .inl (fun _ => 0)))]) (hS : va_S A s.heap H locs) {ls : Array Slot} (hl : lv_has ls 4 [(3, .int 0), (2, .ref mx), (1, .ref x), (0, .ref b)]) : W p l e room_1 s m #[Value.ref b] below meth c H locs 50 1070 (lw_Z below #[Value.ref b] s) (F0 m 393 ls []) := by
  obtain ⟨hx, hb, hr, hml, hown, hts0, hX, hbl, hlocks, hgv⟩ := id C0
  have hts := wsL_hts hts0
  refine lv_aload_n hx hb dL_law_393 rfl (lv_at hl 2 rfl) ?_
  refine lv_aload_n hx hb dL_law_394 rfl (lv_at hl 3 rfl) ?_
  refine lv_iload_n hx hb dL_law_395 rfl (lv_at hl 0 rfl) ?_
  refine lv_iconst (v := 1) hx hb dL_law_396 (by decide) ?_
  refine lv_iadd hx hb dL_law_397 ?_
  refine lv_topi (fun f_1 ef_1 => ?_)
  obtain rfl : f_1 = 1 := ef_1.trans (by decide)
  refine va_sld hx hb hX hbl hbA hS (by unfold vp_in; decide) dL_law_398 ?_
  refine lv_aload_n hx hb dL_law_399 rfl (lv_at hl 3 rfl) ?_
  refine lv_iload_n hx hb dL_law_400 rfl (lv_at hl 0 rfl) ?_
  refine lv_iconst (v := 2) hx hb dL_law_401 (by decide) ?_
  refine lv_iadd hx hb dL_law_402 ?_
  refine lv_topi (fun f_2 ef_2 => ?_)
  obtain rfl : f_2 = 2 := ef_2.trans (by decide)
  refine va_sld hx hb hX hbl hbA hS (by unfold vp_in; decide) dL_law_403 ?_
  refine lv_aload_n hx hb dL_law_404 rfl (lv_at hl 3 rfl) ?_
  refine lv_iload_n hx hb dL_law_405 rfl (lv_at hl 0 rfl) ?_
  refine lv_iconst (v := 3) hx hb dL_law_406 (by decide) ?_
  refine lv_iadd hx hb dL_law_407 ?_
  refine lv_topi (fun f_3 ef_3 => ?_)
  obtain rfl : f_3 = 3 := ef_3.trans (by decide)
  refine va_sld hx hb hX hbl hbA hS (by unfold vp_in; decide) dL_law_408 ?_
  have hPc := hP.sub (ws' := [(x, .inr (10, [.ref cd, .int 0, .ref rd, .int 0, .ref tp, .ref fo, .int 10, .ref qu, .int 0, .int 0, .ref sh, .ref vs, .ref pa, .ref pb])), (fo, .inr (7, [.int 1, .ref le, .ref mo, .ref os, .ref ps, .int 0, .ref br, .int 0])), (le, .inl (kl, 8, .inl fl)), (mo, .inl (km, 8, .inl fm))]) [0, 5, 6, 7] rfl
  have hDc := hD.sub (ws' := [(x, .inr (10, [.ref cd, .int 0, .ref rd, .int 0, .ref tp, .ref fo, .int 10, .ref qu, .int 0, .int 0, .ref sh, .ref vs, .ref pa, .ref pb])), (fo, .inr (7, [.int 1, .ref le, .ref mo, .ref os, .ref ps, .int 0, .ref br, .int 0])), (le, .inl (kl, 8, .inl fl)), (mo, .inl (km, 8, .inl fm))]) [0, 5, 6, 7] (by decide) rfl
  have hKc := hK.sub (tys' := [(kl, .int), (km, .int)]) [3, 4] rfl
  have hFc := va_free (wc := [(x, .inr (10, [.ref cd, .int 0, .ref rd, .int 0, .ref tp, .ref fo, .int 10, .ref qu, .int 0, .int 0, .ref sh, .ref vs, .ref pa, .ref pb])), (fo, .inr (7, [.int 1, .ref le, .ref mo, .ref os, .ref ps, .int 0, .ref br, .int 0])), (le, .inl (kl, 8, .inl fl)), (mo, .inl (km, 8, .inl fm))]) hD hS hA [0, 5, 6, 7] rfl
  refine va_calli (va_runV (As := [.int (xs (1 : Int32).toNatClampNeg), .int (xs (2 : Int32).toNatClampNeg), .int (xs (3 : Int32).toNatClampNeg)]) (rest := []) ⟨hx, hb, hml, hown, hts⟩ (c_X_measure l dC dI x cd rd tp fo qu sh vs pa pb le mo os ps br kl km fl fm (xs (1 : Int32).toNatClampNeg) (xs (2 : Int32).toNatClampNeg) (xs (3 : Int32).toNatClampNeg) H.size) (cwV 3 hts gL_law_X5_measure rfl rfl rfl (by decide +kernel) ⟨Nat.le_of_ble_eq_true rfl, Nat.le_of_ble_eq_true rfl⟩) ⟨PQ_blind, va_recv hK hP (ci := 10) (q0 := 0) rfl rfl, PQ_pre hPc hKc hDc hF⟩ rfl rfl hl.1 rfl (lv_room (Nat.le_of_ble_eq_true rfl)) dL_law_409 ⟨Nat.le_of_ble_eq_true rfl, Nat.le_of_ble_eq_true rfl⟩) hS (fun q _ h => hFc q h) hFc (fun r_4 u t H1 locs ht hvm hw hB hz1 hk1 hS => ?_)
  have hP1 : va_P (dC, dI) vwCl [] H1 := fun k q h => by simp at h
  have hD1 : va_D (va_A [(x, .inr (10, [.ref cd, .int 0, .ref rd, .int 0, .ref tp, .ref fo, .int 10, .ref qu, .int 0, .int 0, .ref sh, .ref vs, .ref pa, .ref pb])), (fo, .inr (7, [.int 1, .ref le, .ref mo, .ref os, .ref ps, .int 0, .ref br, .int 0])), (le, .inl (kl, 8, .inl fl)), (mo, .inl (km, 8, .inl fm))] H.size) [] := ⟨fun i j p q h => by simp at h, fun k q h => by simp at h⟩
  obtain ⟨hP, hD⟩ := va_join (wr := [(cd, .inl (kC, 24, .inr (.inr (.inr (.inr (fun _ => none)))))), (rd, .inl (kR, 6, .inr (.inr (.inr (.inr (fun _ => none)))))), (tp, .inr (9, [.ref tb, .int 0])), (tb, .inl (kB, 250, .inl (fun _ => 0))), (os, .inl (ko, 6, .inl (fun _ => 0))), (ps, .inl (kp, 6, .inl (fun _ => 0))), (br, .inl (kb, 8, .inr (.inl (fun _ => 0)))), (qu, .inl (kq, 4, .inl (fun _ => 0))), (mx, .inr (14, [.ref lc, .ref lr, .ref kn, .ref lt, .ref ml, .ref mm, .ref lp, .ref lb, .ref mq, .int 1, .int 10, .int 0, .int 0])), (lc, .inr (4, [.int 0, .ref d, .int 0])), (lr, .inr (4, [.int 0, .ref d, .int 0])), (lt, .inr (4, [.int 0, .ref d, .int 0])), (lp, .inr (4, [.int 0, .ref d, .int 0])), (lb, .inr (4, [.int 0, .ref d, .int 0])), (ml, .inl (kl2, 8, .inl fl2)), (mm, .inl (km2, 8, .inl fm2)), (mq, .inl (kq2, 4, .inl (fun _ => 0)))]) (w1 := []) hP hD [0, 5, 6, 7] [1, 2, 3, 4, 8, 9, 10, 11, 12, 13, 14, 15, 16, 17, 18, 19, 20] rfl rfl (by decide) (by decide) hk1 hFc hP1 hD1
  generalize H1 = H at hP hS ⊢
  have hP : va_P (dC, dI) vwCl [(cd, .inl (kC, 24, .inr (.inr (.inr (.inr (fun _ => none)))))), (rd, .inl (kR, 6, .inr (.inr (.inr (.inr (fun _ => none)))))), (tp, .inr (9, [.ref tb, .int 0])), (tb, .inl (kB, 250, .inl (fun _ => 0))), (os, .inl (ko, 6, .inl (fun _ => 0))), (ps, .inl (kp, 6, .inl (fun _ => 0))), (br, .inl (kb, 8, .inr (.inl (fun _ => 0)))), (qu, .inl (kq, 4, .inl (fun _ => 0))), (mx, .inr (14, [.ref lc, .ref lr, .ref kn, .ref lt, .ref ml, .ref mm, .ref lp, .ref lb, .ref mq, .int 1, .int 10, .int 0, .int 0])), (lc, .inr (4, [.int 0, .ref d, .int 0])), (lr, .inr (4, [.int 0, .ref d, .int 0])), (lt, .inr (4, [.int 0, .ref d, .int 0])), (lp, .inr (4, [.int 0, .ref d, .int 0])), (lb, .inr (4, [.int 0, .ref d, .int 0])), (ml, .inl (kl2, 8, .inl fl2)), (mm, .inl (km2, 8, .inl fm2)), (mq, .inl (kq2, 4, .inl (fun _ => 0)))] H := hP
  have hD : va_D A [(cd, .inl (kC, 24, .inr (.inr (.inr (.inr (fun _ => none)))))), (rd, .inl (kR, 6, .inr (.inr (.inr (.inr (fun _ => none)))))), (tp, .inr (9, [.ref tb, .int 0])), (tb, .inl (kB, 250, .inl (fun _ => 0))), (os, .inl (ko, 6, .inl (fun _ => 0))), (ps, .inl (kp, 6, .inl (fun _ => 0))), (br, .inl (kb, 8, .inr (.inl (fun _ => 0)))), (qu, .inl (kq, 4, .inl (fun _ => 0))), (mx, .inr (14, [.ref lc, .ref lr, .ref kn, .ref lt, .ref ml, .ref mm, .ref lp, .ref lb, .ref mq, .int 1, .int 10, .int 0, .int 0])), (lc, .inr (4, [.int 0, .ref d, .int 0])), (lr, .inr (4, [.int 0, .ref d, .int 0])), (lt, .inr (4, [.int 0, .ref d, .int 0])), (lp, .inr (4, [.int 0, .ref d, .int 0])), (lb, .inr (4, [.int 0, .ref d, .int 0])), (ml, .inl (kl2, 8, .inl fl2)), (mm, .inl (km2, 8, .inl fm2)), (mq, .inl (kq2, 4, .inl (fun _ => 0)))] := hD
  have hK : va_K (dC, dI) vwCl [(kC, .object "ExamHalls$Candidate"), (kR, .object "ExamHalls$Reader"), (kB, .byte), (kl, .int), (km, .int), (ko, .int), (kp, .int), (kb, .long), (kq, .int), (kl2, .int), (km2, .int), (kq2, .int)] s := hK
  refine W.widen (k := 50) (n := 1070) (Nat.le_of_ble_eq_true rfl) (Nat.le_of_ble_eq_true rfl) ?_
  obtain rfl := hw
  refine lv_aload_n hx hb dL_law_412 rfl (lv_at hl 1 rfl) ?_
  refine lv_aload_n hx hb dL_law_413 rfl (lv_at hl 3 rfl) ?_
  refine lv_iload_n hx hb dL_law_414 rfl (lv_at hl 0 rfl) ?_
  refine lv_iconst (v := 1) hx hb dL_law_415 (by decide) ?_
  refine lv_iadd hx hb dL_law_416 ?_
  refine lv_topi (fun f_5 ef_5 => ?_)
  obtain rfl : f_5 = 1 := ef_5.trans (by decide)
  refine va_sld hx hb hX hbl hbA hS (by unfold vp_in; decide) dL_law_417 ?_
  refine lv_aload_n hx hb dL_law_418 rfl (lv_at hl 3 rfl) ?_
  refine lv_iload_n hx hb dL_law_419 rfl (lv_at hl 0 rfl) ?_
  refine lv_iconst (v := 2) hx hb dL_law_420 (by decide) ?_
  refine lv_iadd hx hb dL_law_421 ?_
  refine lv_topi (fun f_6 ef_6 => ?_)
  obtain rfl : f_6 = 2 := ef_6.trans (by decide)
  refine va_sld hx hb hX hbl hbA hS (by unfold vp_in; decide) dL_law_422 ?_
  refine lv_aload_n hx hb dL_law_423 rfl (lv_at hl 3 rfl) ?_
  refine lv_iload_n hx hb dL_law_424 rfl (lv_at hl 0 rfl) ?_
  refine lv_iconst (v := 3) hx hb dL_law_425 (by decide) ?_
  refine lv_iadd hx hb dL_law_426 ?_
  refine lv_topi (fun f_7 ef_7 => ?_)
  obtain rfl : f_7 = 3 := ef_7.trans (by decide)
  refine va_sld hx hb hX hbl hbA hS (by unfold vp_in; decide) dL_law_427 ?_
  have hPc := hP.sub (ws' := [(mx, .inr (14, [.ref lc, .ref lr, .ref kn, .ref lt, .ref ml, .ref mm, .ref lp, .ref lb, .ref mq, .int 1, .int 10, .int 0, .int 0])), (ml, .inl (kl2, 8, .inl fl2)), (mm, .inl (km2, 8, .inl fm2))]) [8, 14, 15] rfl
  have hDc := hD.sub (ws' := [(mx, .inr (14, [.ref lc, .ref lr, .ref kn, .ref lt, .ref ml, .ref mm, .ref lp, .ref lb, .ref mq, .int 1, .int 10, .int 0, .int 0])), (ml, .inl (kl2, 8, .inl fl2)), (mm, .inl (km2, 8, .inl fm2))]) [8, 14, 15] (by decide) rfl
  have hKc := hK.sub (tys' := [(kl2, .int), (km2, .int)]) [9, 10] rfl
  have hFc := va_free (wc := [(mx, .inr (14, [.ref lc, .ref lr, .ref kn, .ref lt, .ref ml, .ref mm, .ref lp, .ref lb, .ref mq, .int 1, .int 10, .int 0, .int 0])), (ml, .inl (kl2, 8, .inl fl2)), (mm, .inl (km2, 8, .inl fm2))]) hD hS hA [8, 14, 15] rfl
  refine va_calli (va_runV (As := [.int (xs (1 : Int32).toNatClampNeg), .int (xs (2 : Int32).toNatClampNeg), .int (xs (3 : Int32).toNatClampNeg)]) (rest := [.int (sp_X_measure (xs (1 : Int32).toNatClampNeg) (xs (2 : Int32).toNatClampNeg) (xs (3 : Int32).toNatClampNeg))]) ⟨hx, hb, hml, hown, hts⟩ (c_M_measure l dC dI mx lc lr kn lt ml mm lp lb mq kl2 km2 fl2 fm2 (xs (1 : Int32).toNatClampNeg) (xs (2 : Int32).toNatClampNeg) (xs (3 : Int32).toNatClampNeg) H.size) (cwV 3 hts gL_law_X9_measure rfl rfl rfl (by decide +kernel) ⟨Nat.le_of_ble_eq_true rfl, Nat.le_of_ble_eq_true rfl⟩) ⟨PQ_blind, va_recv hK hP (ci := 14) (q0 := 8) rfl rfl, PQ_pre hPc hKc hDc hF⟩ rfl rfl hl.1 rfl (lv_room (Nat.le_of_ble_eq_true rfl)) dL_law_428 ⟨Nat.le_of_ble_eq_true rfl, Nat.le_of_ble_eq_true rfl⟩) hS (fun q _ h => hFc q h) hFc (fun r_8 u t H1 locs ht hvm hw hB hz1 hk1 hS => ?_)
  have hP1 : va_P (dC, dI) vwCl [] H1 := fun k q h => by simp at h
  have hD1 : va_D (va_A [(mx, .inr (14, [.ref lc, .ref lr, .ref kn, .ref lt, .ref ml, .ref mm, .ref lp, .ref lb, .ref mq, .int 1, .int 10, .int 0, .int 0])), (ml, .inl (kl2, 8, .inl fl2)), (mm, .inl (km2, 8, .inl fm2))] H.size) [] := ⟨fun i j p q h => by simp at h, fun k q h => by simp at h⟩
  obtain ⟨hP, hD⟩ := va_join (wr := [(cd, .inl (kC, 24, .inr (.inr (.inr (.inr (fun _ => none)))))), (rd, .inl (kR, 6, .inr (.inr (.inr (.inr (fun _ => none)))))), (tp, .inr (9, [.ref tb, .int 0])), (tb, .inl (kB, 250, .inl (fun _ => 0))), (os, .inl (ko, 6, .inl (fun _ => 0))), (ps, .inl (kp, 6, .inl (fun _ => 0))), (br, .inl (kb, 8, .inr (.inl (fun _ => 0)))), (qu, .inl (kq, 4, .inl (fun _ => 0))), (lc, .inr (4, [.int 0, .ref d, .int 0])), (lr, .inr (4, [.int 0, .ref d, .int 0])), (lt, .inr (4, [.int 0, .ref d, .int 0])), (lp, .inr (4, [.int 0, .ref d, .int 0])), (lb, .inr (4, [.int 0, .ref d, .int 0])), (mq, .inl (kq2, 4, .inl (fun _ => 0)))]) (w1 := []) hP hD [8, 14, 15] [0, 1, 2, 3, 4, 5, 6, 7, 9, 10, 11, 12, 13, 16] rfl rfl (by decide) (by decide) hk1 hFc hP1 hD1
  generalize H1 = H at hP hS ⊢
  have hP : va_P (dC, dI) vwCl [(cd, .inl (kC, 24, .inr (.inr (.inr (.inr (fun _ => none)))))), (rd, .inl (kR, 6, .inr (.inr (.inr (.inr (fun _ => none)))))), (tp, .inr (9, [.ref tb, .int 0])), (tb, .inl (kB, 250, .inl (fun _ => 0))), (os, .inl (ko, 6, .inl (fun _ => 0))), (ps, .inl (kp, 6, .inl (fun _ => 0))), (br, .inl (kb, 8, .inr (.inl (fun _ => 0)))), (qu, .inl (kq, 4, .inl (fun _ => 0))), (lc, .inr (4, [.int 0, .ref d, .int 0])), (lr, .inr (4, [.int 0, .ref d, .int 0])), (lt, .inr (4, [.int 0, .ref d, .int 0])), (lp, .inr (4, [.int 0, .ref d, .int 0])), (lb, .inr (4, [.int 0, .ref d, .int 0])), (mq, .inl (kq2, 4, .inl (fun _ => 0)))] H := hP
  have hD : va_D A [(cd, .inl (kC, 24, .inr (.inr (.inr (.inr (fun _ => none)))))), (rd, .inl (kR, 6, .inr (.inr (.inr (.inr (fun _ => none)))))), (tp, .inr (9, [.ref tb, .int 0])), (tb, .inl (kB, 250, .inl (fun _ => 0))), (os, .inl (ko, 6, .inl (fun _ => 0))), (ps, .inl (kp, 6, .inl (fun _ => 0))), (br, .inl (kb, 8, .inr (.inl (fun _ => 0)))), (qu, .inl (kq, 4, .inl (fun _ => 0))), (lc, .inr (4, [.int 0, .ref d, .int 0])), (lr, .inr (4, [.int 0, .ref d, .int 0])), (lt, .inr (4, [.int 0, .ref d, .int 0])), (lp, .inr (4, [.int 0, .ref d, .int 0])), (lb, .inr (4, [.int 0, .ref d, .int 0])), (mq, .inl (kq2, 4, .inl (fun _ => 0)))] := hD
  have hK : va_K (dC, dI) vwCl [(kC, .object "ExamHalls$Candidate"), (kR, .object "ExamHalls$Reader"), (kB, .byte), (kl, .int), (km, .int), (ko, .int), (kp, .int), (kb, .long), (kq, .int), (kl2, .int), (km2, .int), (kq2, .int)] s := hK
  refine W.widen (k := 50) (n := 1070) (Nat.le_of_ble_eq_true rfl) (Nat.le_of_ble_eq_true rfl) ?_
  obtain rfl := hw
  refine lv_icmp_eq (tgt := 1217) hx hb dL_law_431 (by decide) (fun _ => ?_) (fun c9 => absurd (eq_measure _ _ _) c9)
  refine lv_iinc (v := 5) (lv' := [(3, .int 5), (2, .ref mx), (1, .ref x), (0, .ref b)]) hx hb dL_law_1217 hl (k := 0) rfl (by decide) (by decide) rfl (fun ls hl => ?_)
  refine lv_goto (tgt := 18) hx hb dL_law_1220 (by decide) ?_
  exact law_end (C0 := C0) hbA hAs hS (lv_sub hl [0, 3] rfl) (Nat.le_of_ble_eq_true rfl) (Nat.le_of_ble_eq_true rfl)

set_option maxHeartbeats 4000000 in
set_option maxRecDepth 100000 in
theorem law_case7 {p : Program} {l : Launch} {e : Env} {s : State} {m : MethodId} {below : List Frame} {meth : Method} {c : Code} {dC : Nat → ClassId} {dI : Nat → Nat → Nat} {b : Nat} {xs : Nat → Int32} {A : Nat → Prop} {d tc : Nat} {ad : Nat → Nat} {x : Nat} {cd : Nat} {rd : Nat} {tp : Nat} {fo : Nat} {qu : Nat} {sh : Nat} {vs : Nat} {pa : Nat} {pb : Nat} {tb : Nat} {le : Nat} {mo : Nat} {os : Nat} {ps : Nat} {br : Nat} {kl : ClassId} {km : ClassId} {ko : ClassId} {kp : ClassId} {kb : ClassId} {fl : Nat → Int32} {fm : Nat → Int32} {kC : ClassId} {kR : ClassId} {kB : ClassId} {kq : ClassId} {mx : Nat} {lc : Nat} {lr : Nat} {kn : Nat} {lt : Nat} {ml : Nat} {mm : Nat} {lp : Nat} {lb : Nat} {mq : Nat} {kl2 : ClassId} {km2 : ClassId} {kq2 : ClassId} {fl2 : Nat → Int32} {fm2 : Nat → Int32} (C0 : lw_At p s m meth c b 5 xs) (hbA : ¬ A b) (hA : ∀ q, s.heap.size ≤ q → A q) (hAs : ∀ q, A q → s.heap.size ≤ q) (hF : Ft s) (hZ : Zt d tc ad A s s.heap) {H : Heap} {locs : List Loc} (hK : va_K (dC, dI) vwCl [(kC, .object "ExamHalls$Candidate"), (kR, .object "ExamHalls$Reader"), (kB, .byte), (kl, .int), (km, .int), (ko, .int), (kp, .int), (kb, .long), (kq, .int), (kl2, .int), (km2, .int), (kq2, .int)] s) (hP : va_P (dC, dI) vwCl [(x, .inr (10, [.ref cd, .int 0, .ref rd, .int 0, .ref tp, .ref fo, .int 10, .ref qu, .int 0, .int 0, .ref sh, .ref vs, .ref pa, .ref pb])), (cd, .inl (kC, 24, .inr (.inr (.inr (.inr (fun _ => none)))))), (rd, .inl (kR, 6, .inr (.inr (.inr (.inr (fun _ => none)))))), (tp, .inr (9, [.ref tb, .int 0])), (tb, .inl (kB, 250, .inl (fun _ => 0))), (fo, .inr (7, [.int 1, .ref le, .ref mo, .ref os, .ref ps, .int 0, .ref br, .int 0])), (le, .inl (kl, 8, .inl fl)), (mo, .inl (km, 8, .inl fm)), (os, .inl (ko, 6, .inl (fun _ => 0))), (ps, .inl (kp, 6, .inl (fun _ => 0))), (br, .inl (kb, 8, .inr (.inl (fun _ => 0)))), (qu, .inl (kq, 4, .inl (fun _ => 0))), (mx, .inr (14, [.ref lc, .ref lr, .ref kn, .ref lt, .ref ml, .ref mm, .ref lp, .ref lb, .ref mq, .int 1, .int 10, .int 0, .int 0])), (lc, .inr (4, [.int 0, .ref d, .int 0])), (lr, .inr (4, [.int 0, .ref d, .int 0])), (lt, .inr (4, [.int 0, .ref d, .int 0])), (lp, .inr (4, [.int 0, .ref d, .int 0])), (lb, .inr (4, [.int 0, .ref d, .int 0])), (ml, .inl (kl2, 8, .inl fl2)), (mm, .inl (km2, 8, .inl fm2)), (mq, .inl (kq2, 4, .inl (fun _ => 0)))] H) (hD : va_D A [(x, .inr (10, [.ref cd, .int 0, .ref rd, .int 0, .ref tp, .ref fo, .int 10, .ref qu, .int 0, .int 0, .ref sh, .ref vs, .ref pa, .ref pb])), (cd, .inl (kC, 24, .inr (.inr (.inr (.inr (fun _ => none)))))), (rd, .inl (kR, 6, .inr (.inr (.inr (.inr (fun _ => none)))))), (tp, .inr (9, [.ref tb, .int 0])), (tb, .inl (kB, 250, .inl (fun _ => 0))), (fo, .inr (7, [.int 1, .ref le, .ref mo, .ref os, .ref ps, .int 0, .ref br, .int 0])), (le, .inl (kl, 8, .inl fl)), (mo, .inl (km, 8, .inl fm)), (os, .inl (ko, 6, .inl (fun _ => 0))), (ps, .inl (kp, 6, .inl (fun _ => 0))), (br, .inl (kb, 8, .inr (.inl (fun _ => 0)))), (qu, .inl (kq, 4, .inl (fun _ => 0))), (mx, .inr (14, [.ref lc, .ref lr, .ref kn, .ref lt, .ref ml, .ref mm, .ref lp, .ref lb, .ref mq, .int 1, .int 10, .int 0, .int 0])), (lc, .inr (4, [.int 0, .ref d, .int 0])), (lr, .inr (4, [.int 0, .ref d, .int 0])), (lt, .inr (4, [.int 0, .ref d, .int 0])), (lp, .inr (4, [.int 0, .ref d, .int 0])), (lb, .inr (4, [.int 0, .ref d, .int 0])), (ml, .inl (kl2, 8, .inl fl2)), (mm, .inl (km2, 8, .inl fm2)), (mq, .inl (kq2, 4, .inl (fun _ => 0)))]) (hS : va_S A s.heap H locs) {ls : Array Slot} (hl : lv_has ls 4 [(3, .int 0), (2, .ref mx), (1, .ref x), (0, .ref b)]) : W p l e room_1 s m #[Value.ref b] below meth c H locs 50 1070 (lw_Z below #[Value.ref b] s) (F0 m 436 ls []) := by
  obtain ⟨hx, hb, hr, hml, hown, hts0, hX, hbl, hlocks, hgv⟩ := id C0
  have hts := wsL_hts hts0
  refine lv_aload_n hx hb dL_law_436 rfl (lv_at hl 2 rfl) ?_
  refine lv_aload_n hx hb dL_law_437 rfl (lv_at hl 3 rfl) ?_
  refine lv_iload_n hx hb dL_law_438 rfl (lv_at hl 0 rfl) ?_
  refine lv_iconst (v := 1) hx hb dL_law_439 (by decide) ?_
  refine lv_iadd hx hb dL_law_440 ?_
  refine lv_topi (fun f_1 ef_1 => ?_)
  obtain rfl : f_1 = 1 := ef_1.trans (by decide)
  refine va_sld hx hb hX hbl hbA hS (by unfold vp_in; decide) dL_law_441 ?_
  refine lv_aload_n hx hb dL_law_442 rfl (lv_at hl 3 rfl) ?_
  refine lv_iload_n hx hb dL_law_443 rfl (lv_at hl 0 rfl) ?_
  refine lv_iconst (v := 2) hx hb dL_law_444 (by decide) ?_
  refine lv_iadd hx hb dL_law_445 ?_
  refine lv_topi (fun f_2 ef_2 => ?_)
  obtain rfl : f_2 = 2 := ef_2.trans (by decide)
  refine va_sld hx hb hX hbl hbA hS (by unfold vp_in; decide) dL_law_446 ?_
  have hPc := hP.sub (ws' := [(x, .inr (10, [.ref cd, .int 0, .ref rd, .int 0, .ref tp, .ref fo, .int 10, .ref qu, .int 0, .int 0, .ref sh, .ref vs, .ref pa, .ref pb])), (fo, .inr (7, [.int 1, .ref le, .ref mo, .ref os, .ref ps, .int 0, .ref br, .int 0])), (os, .inl (ko, 6, .inl (fun _ => 0))), (ps, .inl (kp, 6, .inl (fun _ => 0)))]) [0, 5, 8, 9] rfl
  have hDc := hD.sub (ws' := [(x, .inr (10, [.ref cd, .int 0, .ref rd, .int 0, .ref tp, .ref fo, .int 10, .ref qu, .int 0, .int 0, .ref sh, .ref vs, .ref pa, .ref pb])), (fo, .inr (7, [.int 1, .ref le, .ref mo, .ref os, .ref ps, .int 0, .ref br, .int 0])), (os, .inl (ko, 6, .inl (fun _ => 0))), (ps, .inl (kp, 6, .inl (fun _ => 0)))]) [0, 5, 8, 9] (by decide) rfl
  have hKc := hK.sub (tys' := [(ko, .int), (kp, .int)]) [5, 6] rfl
  have hFc := va_free (wc := [(x, .inr (10, [.ref cd, .int 0, .ref rd, .int 0, .ref tp, .ref fo, .int 10, .ref qu, .int 0, .int 0, .ref sh, .ref vs, .ref pa, .ref pb])), (fo, .inr (7, [.int 1, .ref le, .ref mo, .ref os, .ref ps, .int 0, .ref br, .int 0])), (os, .inl (ko, 6, .inl (fun _ => 0))), (ps, .inl (kp, 6, .inl (fun _ => 0)))]) hD hS hA [0, 5, 8, 9] rfl
  refine va_calli (va_runV (As := [.int (xs (1 : Int32).toNatClampNeg), .int (xs (2 : Int32).toNatClampNeg)]) (rest := []) ⟨hx, hb, hml, hown, hts⟩ (c_X_parallel l dC dI x cd rd tp fo qu sh vs pa pb le mo os ps br ko kp (xs (1 : Int32).toNatClampNeg) (xs (2 : Int32).toNatClampNeg) H.size) (cwV 2 hts gL_law_X5_parallel rfl rfl rfl (by decide +kernel) ⟨Nat.le_of_ble_eq_true rfl, Nat.le_of_ble_eq_true rfl⟩) ⟨PQ_blind, va_recv hK hP (ci := 10) (q0 := 0) rfl rfl, PQ_pre hPc hKc hDc hF⟩ rfl rfl hl.1 rfl (lv_room (Nat.le_of_ble_eq_true rfl)) dL_law_447 ⟨Nat.le_of_ble_eq_true rfl, Nat.le_of_ble_eq_true rfl⟩) hS (fun q _ h => hFc q h) hFc (fun r_3 u t H1 locs ht hvm hw hB hz1 hk1 hS => ?_)
  have hP1 : va_P (dC, dI) vwCl [] H1 := fun k q h => by simp at h
  have hD1 : va_D (va_A [(x, .inr (10, [.ref cd, .int 0, .ref rd, .int 0, .ref tp, .ref fo, .int 10, .ref qu, .int 0, .int 0, .ref sh, .ref vs, .ref pa, .ref pb])), (fo, .inr (7, [.int 1, .ref le, .ref mo, .ref os, .ref ps, .int 0, .ref br, .int 0])), (os, .inl (ko, 6, .inl (fun _ => 0))), (ps, .inl (kp, 6, .inl (fun _ => 0)))] H.size) [] := ⟨fun i j p q h => by simp at h, fun k q h => by simp at h⟩
  obtain ⟨hP, hD⟩ := va_join (wr := [(cd, .inl (kC, 24, .inr (.inr (.inr (.inr (fun _ => none)))))), (rd, .inl (kR, 6, .inr (.inr (.inr (.inr (fun _ => none)))))), (tp, .inr (9, [.ref tb, .int 0])), (tb, .inl (kB, 250, .inl (fun _ => 0))), (le, .inl (kl, 8, .inl fl)), (mo, .inl (km, 8, .inl fm)), (br, .inl (kb, 8, .inr (.inl (fun _ => 0)))), (qu, .inl (kq, 4, .inl (fun _ => 0))), (mx, .inr (14, [.ref lc, .ref lr, .ref kn, .ref lt, .ref ml, .ref mm, .ref lp, .ref lb, .ref mq, .int 1, .int 10, .int 0, .int 0])), (lc, .inr (4, [.int 0, .ref d, .int 0])), (lr, .inr (4, [.int 0, .ref d, .int 0])), (lt, .inr (4, [.int 0, .ref d, .int 0])), (lp, .inr (4, [.int 0, .ref d, .int 0])), (lb, .inr (4, [.int 0, .ref d, .int 0])), (ml, .inl (kl2, 8, .inl fl2)), (mm, .inl (km2, 8, .inl fm2)), (mq, .inl (kq2, 4, .inl (fun _ => 0)))]) (w1 := []) hP hD [0, 5, 8, 9] [1, 2, 3, 4, 6, 7, 10, 11, 12, 13, 14, 15, 16, 17, 18, 19, 20] rfl rfl (by decide) (by decide) hk1 hFc hP1 hD1
  generalize H1 = H at hP hS ⊢
  have hP : va_P (dC, dI) vwCl [(cd, .inl (kC, 24, .inr (.inr (.inr (.inr (fun _ => none)))))), (rd, .inl (kR, 6, .inr (.inr (.inr (.inr (fun _ => none)))))), (tp, .inr (9, [.ref tb, .int 0])), (tb, .inl (kB, 250, .inl (fun _ => 0))), (le, .inl (kl, 8, .inl fl)), (mo, .inl (km, 8, .inl fm)), (br, .inl (kb, 8, .inr (.inl (fun _ => 0)))), (qu, .inl (kq, 4, .inl (fun _ => 0))), (mx, .inr (14, [.ref lc, .ref lr, .ref kn, .ref lt, .ref ml, .ref mm, .ref lp, .ref lb, .ref mq, .int 1, .int 10, .int 0, .int 0])), (lc, .inr (4, [.int 0, .ref d, .int 0])), (lr, .inr (4, [.int 0, .ref d, .int 0])), (lt, .inr (4, [.int 0, .ref d, .int 0])), (lp, .inr (4, [.int 0, .ref d, .int 0])), (lb, .inr (4, [.int 0, .ref d, .int 0])), (ml, .inl (kl2, 8, .inl fl2)), (mm, .inl (km2, 8, .inl fm2)), (mq, .inl (kq2, 4, .inl (fun _ => 0)))] H := hP
  have hD : va_D A [(cd, .inl (kC, 24, .inr (.inr (.inr (.inr (fun _ => none)))))), (rd, .inl (kR, 6, .inr (.inr (.inr (.inr (fun _ => none)))))), (tp, .inr (9, [.ref tb, .int 0])), (tb, .inl (kB, 250, .inl (fun _ => 0))), (le, .inl (kl, 8, .inl fl)), (mo, .inl (km, 8, .inl fm)), (br, .inl (kb, 8, .inr (.inl (fun _ => 0)))), (qu, .inl (kq, 4, .inl (fun _ => 0))), (mx, .inr (14, [.ref lc, .ref lr, .ref kn, .ref lt, .ref ml, .ref mm, .ref lp, .ref lb, .ref mq, .int 1, .int 10, .int 0, .int 0])), (lc, .inr (4, [.int 0, .ref d, .int 0])), (lr, .inr (4, [.int 0, .ref d, .int 0])), (lt, .inr (4, [.int 0, .ref d, .int 0])), (lp, .inr (4, [.int 0, .ref d, .int 0])), (lb, .inr (4, [.int 0, .ref d, .int 0])), (ml, .inl (kl2, 8, .inl fl2)), (mm, .inl (km2, 8, .inl fm2)), (mq, .inl (kq2, 4, .inl (fun _ => 0)))] := hD
  have hK : va_K (dC, dI) vwCl [(kC, .object "ExamHalls$Candidate"), (kR, .object "ExamHalls$Reader"), (kB, .byte), (kl, .int), (km, .int), (ko, .int), (kp, .int), (kb, .long), (kq, .int), (kl2, .int), (km2, .int), (kq2, .int)] s := hK
  refine W.widen (k := 50) (n := 1070) (Nat.le_of_ble_eq_true rfl) (Nat.le_of_ble_eq_true rfl) ?_
  obtain rfl := hw
  refine lv_aload_n hx hb dL_law_450 rfl (lv_at hl 1 rfl) ?_
  refine lv_aload_n hx hb dL_law_451 rfl (lv_at hl 3 rfl) ?_
  refine lv_iload_n hx hb dL_law_452 rfl (lv_at hl 0 rfl) ?_
  refine lv_iconst (v := 1) hx hb dL_law_453 (by decide) ?_
  refine lv_iadd hx hb dL_law_454 ?_
  refine lv_topi (fun f_4 ef_4 => ?_)
  obtain rfl : f_4 = 1 := ef_4.trans (by decide)
  refine va_sld hx hb hX hbl hbA hS (by unfold vp_in; decide) dL_law_455 ?_
  refine lv_aload_n hx hb dL_law_456 rfl (lv_at hl 3 rfl) ?_
  refine lv_iload_n hx hb dL_law_457 rfl (lv_at hl 0 rfl) ?_
  refine lv_iconst (v := 2) hx hb dL_law_458 (by decide) ?_
  refine lv_iadd hx hb dL_law_459 ?_
  refine lv_topi (fun f_5 ef_5 => ?_)
  obtain rfl : f_5 = 2 := ef_5.trans (by decide)
  refine va_sld hx hb hX hbl hbA hS (by unfold vp_in; decide) dL_law_460 ?_
  have hPc := hP.sub (ws' := [(mx, .inr (14, [.ref lc, .ref lr, .ref kn, .ref lt, .ref ml, .ref mm, .ref lp, .ref lb, .ref mq, .int 1, .int 10, .int 0, .int 0])), (lp, .inr (4, [.int 0, .ref d, .int 0]))]) [8, 12] rfl
  have hDc := hD.sub (ws' := [(mx, .inr (14, [.ref lc, .ref lr, .ref kn, .ref lt, .ref ml, .ref mm, .ref lp, .ref lb, .ref mq, .int 1, .int 10, .int 0, .int 0])), (lp, .inr (4, [.int 0, .ref d, .int 0]))]) [8, 12] (by decide) rfl
  have hKc := hK.sub (tys' := []) [] rfl
  have hFc := va_free (wc := [(mx, .inr (14, [.ref lc, .ref lr, .ref kn, .ref lt, .ref ml, .ref mm, .ref lp, .ref lb, .ref mq, .int 1, .int 10, .int 0, .int 0])), (lp, .inr (4, [.int 0, .ref d, .int 0]))]) hD hS hA [8, 12] rfl
  refine va_calli (va_runV (As := [.int (xs (1 : Int32).toNatClampNeg), .int (xs (2 : Int32).toNatClampNeg)]) (rest := [.int (sp_X_parallel (xs (1 : Int32).toNatClampNeg) (xs (2 : Int32).toNatClampNeg))]) ⟨hx, hb, hml, hown, hts⟩ (c_M_parallel l dC dI d tc ad mx lc lr kn lt ml mm lp lb mq (xs (1 : Int32).toNatClampNeg) (xs (2 : Int32).toNatClampNeg) H.size) (cwV 2 hts gL_law_X9_parallel rfl rfl rfl (by decide +kernel) ⟨Nat.le_of_ble_eq_true rfl, Nat.le_of_ble_eq_true rfl⟩) ⟨PZ_blind, va_recv hK hP (ci := 14) (q0 := 8) rfl rfl, PZ_pre hPc hKc hDc hF hZ hS hFc⟩ rfl rfl hl.1 rfl (lv_room (Nat.le_of_ble_eq_true rfl)) dL_law_461 ⟨Nat.le_of_ble_eq_true rfl, Nat.le_of_ble_eq_true rfl⟩) hS (fun q _ h => hFc q h) hFc (fun r_6 u t H1 locs ht hvm hw hB hz1 hk1 hS => ?_)
  have hP1 : va_P (dC, dI) vwCl [] H1 := fun k q h => by simp at h
  have hD1 : va_D (va_A [(mx, .inr (14, [.ref lc, .ref lr, .ref kn, .ref lt, .ref ml, .ref mm, .ref lp, .ref lb, .ref mq, .int 1, .int 10, .int 0, .int 0])), (lp, .inr (4, [.int 0, .ref d, .int 0]))] H.size) [] := ⟨fun i j p q h => by simp at h, fun k q h => by simp at h⟩
  obtain ⟨hP, hD⟩ := va_join (wr := [(cd, .inl (kC, 24, .inr (.inr (.inr (.inr (fun _ => none)))))), (rd, .inl (kR, 6, .inr (.inr (.inr (.inr (fun _ => none)))))), (tp, .inr (9, [.ref tb, .int 0])), (tb, .inl (kB, 250, .inl (fun _ => 0))), (le, .inl (kl, 8, .inl fl)), (mo, .inl (km, 8, .inl fm)), (br, .inl (kb, 8, .inr (.inl (fun _ => 0)))), (qu, .inl (kq, 4, .inl (fun _ => 0))), (lc, .inr (4, [.int 0, .ref d, .int 0])), (lr, .inr (4, [.int 0, .ref d, .int 0])), (lt, .inr (4, [.int 0, .ref d, .int 0])), (lb, .inr (4, [.int 0, .ref d, .int 0])), (ml, .inl (kl2, 8, .inl fl2)), (mm, .inl (km2, 8, .inl fm2)), (mq, .inl (kq2, 4, .inl (fun _ => 0)))]) (w1 := []) hP hD [8, 12] [0, 1, 2, 3, 4, 5, 6, 7, 9, 10, 11, 13, 14, 15, 16] rfl rfl (by decide) (by decide) hk1 hFc hP1 hD1
  generalize H1 = H at hP hS ⊢
  have hP : va_P (dC, dI) vwCl [(cd, .inl (kC, 24, .inr (.inr (.inr (.inr (fun _ => none)))))), (rd, .inl (kR, 6, .inr (.inr (.inr (.inr (fun _ => none)))))), (tp, .inr (9, [.ref tb, .int 0])), (tb, .inl (kB, 250, .inl (fun _ => 0))), (le, .inl (kl, 8, .inl fl)), (mo, .inl (km, 8, .inl fm)), (br, .inl (kb, 8, .inr (.inl (fun _ => 0)))), (qu, .inl (kq, 4, .inl (fun _ => 0))), (lc, .inr (4, [.int 0, .ref d, .int 0])), (lr, .inr (4, [.int 0, .ref d, .int 0])), (lt, .inr (4, [.int 0, .ref d, .int 0])), (lb, .inr (4, [.int 0, .ref d, .int 0])), (ml, .inl (kl2, 8, .inl fl2)), (mm, .inl (km2, 8, .inl fm2)), (mq, .inl (kq2, 4, .inl (fun _ => 0)))] H := hP
  have hD : va_D A [(cd, .inl (kC, 24, .inr (.inr (.inr (.inr (fun _ => none)))))), (rd, .inl (kR, 6, .inr (.inr (.inr (.inr (fun _ => none)))))), (tp, .inr (9, [.ref tb, .int 0])), (tb, .inl (kB, 250, .inl (fun _ => 0))), (le, .inl (kl, 8, .inl fl)), (mo, .inl (km, 8, .inl fm)), (br, .inl (kb, 8, .inr (.inl (fun _ => 0)))), (qu, .inl (kq, 4, .inl (fun _ => 0))), (lc, .inr (4, [.int 0, .ref d, .int 0])), (lr, .inr (4, [.int 0, .ref d, .int 0])), (lt, .inr (4, [.int 0, .ref d, .int 0])), (lb, .inr (4, [.int 0, .ref d, .int 0])), (ml, .inl (kl2, 8, .inl fl2)), (mm, .inl (km2, 8, .inl fm2)), (mq, .inl (kq2, 4, .inl (fun _ => 0)))] := hD
  have hK : va_K (dC, dI) vwCl [(kC, .object "ExamHalls$Candidate"), (kR, .object "ExamHalls$Reader"), (kB, .byte), (kl, .int), (km, .int), (ko, .int), (kp, .int), (kb, .long), (kq, .int), (kl2, .int), (km2, .int), (kq2, .int)] s := hK
  refine W.widen (k := 52) (n := 1082) (Nat.le_of_ble_eq_true rfl) (Nat.le_of_ble_eq_true rfl) ?_
  obtain rfl := hw
  refine lv_icmp_eq (tgt := 1217) hx hb dL_law_464 (by decide) (fun _ => ?_) (fun c9 => absurd (eq_parallel _ _) c9)
  refine lv_iinc (v := 5) (lv' := [(3, .int 5), (2, .ref mx), (1, .ref x), (0, .ref b)]) hx hb dL_law_1217 hl (k := 0) rfl (by decide) (by decide) rfl (fun ls hl => ?_)
  refine lv_goto (tgt := 18) hx hb dL_law_1220 (by decide) ?_
  exact law_end (C0 := C0) hbA hAs hS (lv_sub hl [0, 3] rfl) (Nat.le_of_ble_eq_true rfl) (Nat.le_of_ble_eq_true rfl)

set_option maxHeartbeats 4000000 in
set_option maxRecDepth 100000 in
theorem law_case8 {p : Program} {l : Launch} {e : Env} {s : State} {m : MethodId} {below : List Frame} {meth : Method} {c : Code} {dC : Nat → ClassId} {dI : Nat → Nat → Nat} {b : Nat} {xs : Nat → Int32} {A : Nat → Prop} {d tc : Nat} {ad : Nat → Nat} {x : Nat} {cd : Nat} {rd : Nat} {tp : Nat} {fo : Nat} {qu : Nat} {sh : Nat} {vs : Nat} {pa : Nat} {pb : Nat} {tb : Nat} {le : Nat} {mo : Nat} {os : Nat} {ps : Nat} {br : Nat} {kl : ClassId} {km : ClassId} {ko : ClassId} {kp : ClassId} {kb : ClassId} {fl : Nat → Int32} {fm : Nat → Int32} {kC : ClassId} {kR : ClassId} {kB : ClassId} {kq : ClassId} {mx : Nat} {lc : Nat} {lr : Nat} {kn : Nat} {lt : Nat} {ml : Nat} {mm : Nat} {lp : Nat} {lb : Nat} {mq : Nat} {kl2 : ClassId} {km2 : ClassId} {kq2 : ClassId} {fl2 : Nat → Int32} {fm2 : Nat → Int32} (C0 : lw_At p s m meth c b 5 xs) (hbA : ¬ A b) (hA : ∀ q, s.heap.size ≤ q → A q) (hAs : ∀ q, A q → s.heap.size ≤ q) (hF : Ft s) (hZ : Zt d tc ad A s s.heap) {H : Heap} {locs : List Loc} (hK : va_K (dC, dI) vwCl [(kC, .object "ExamHalls$Candidate"), (kR, .object "ExamHalls$Reader"), (kB, .byte), (kl, .int), (km, .int), (ko, .int), (kp, .int), (kb, .long), (kq, .int), (kl2, .int), (km2, .int), (kq2, .int)] s) (hP : va_P (dC, dI) vwCl [(x, .inr (10, [.ref cd, .int 0, .ref rd, .int 0, .ref tp, .ref fo, .int 10, .ref qu, .int 0, .int 0, .ref sh, .ref vs, .ref pa, .ref pb])), (cd, .inl (kC, 24, .inr (.inr (.inr (.inr (fun _ => none)))))), (rd, .inl (kR, 6, .inr (.inr (.inr (.inr (fun _ => none)))))), (tp, .inr (9, [.ref tb, .int 0])), (tb, .inl (kB, 250, .inl (fun _ => 0))), (fo, .inr (7, [.int 1, .ref le, .ref mo, .ref os, .ref ps, .int 0, .ref br, .int 0])), (le, .inl (kl, 8, .inl fl)), (mo, .inl (km, 8, .inl fm)), (os, .inl (ko, 6, .inl (fun _ => 0))), (ps, .inl (kp, 6, .inl (fun _ => 0))), (br, .inl (kb, 8, .inr (.inl (fun _ => 0)))), (qu, .inl (kq, 4, .inl (fun _ => 0))), (mx, .inr (14, [.ref lc, .ref lr, .ref kn, .ref lt, .ref ml, .ref mm, .ref lp, .ref lb, .ref mq, .int 1, .int 10, .int 0, .int 0])), (lc, .inr (4, [.int 0, .ref d, .int 0])), (lr, .inr (4, [.int 0, .ref d, .int 0])), (lt, .inr (4, [.int 0, .ref d, .int 0])), (lp, .inr (4, [.int 0, .ref d, .int 0])), (lb, .inr (4, [.int 0, .ref d, .int 0])), (ml, .inl (kl2, 8, .inl fl2)), (mm, .inl (km2, 8, .inl fm2)), (mq, .inl (kq2, 4, .inl (fun _ => 0)))] H) (hD : va_D A [(x, .inr (10, [.ref cd, .int 0, .ref rd, .int 0, .ref tp, .ref fo, .int 10, .ref qu, .int 0, .int 0, .ref sh, .ref vs, .ref pa, .ref pb])), (cd, .inl (kC, 24, .inr (.inr (.inr (.inr (fun _ => none)))))), (rd, .inl (kR, 6, .inr (.inr (.inr (.inr (fun _ => none)))))), (tp, .inr (9, [.ref tb, .int 0])), (tb, .inl (kB, 250, .inl (fun _ => 0))), (fo, .inr (7, [.int 1, .ref le, .ref mo, .ref os, .ref ps, .int 0, .ref br, .int 0])), (le, .inl (kl, 8, .inl fl)), (mo, .inl (km, 8, .inl fm)), (os, .inl (ko, 6, .inl (fun _ => 0))), (ps, .inl (kp, 6, .inl (fun _ => 0))), (br, .inl (kb, 8, .inr (.inl (fun _ => 0)))), (qu, .inl (kq, 4, .inl (fun _ => 0))), (mx, .inr (14, [.ref lc, .ref lr, .ref kn, .ref lt, .ref ml, .ref mm, .ref lp, .ref lb, .ref mq, .int 1, .int 10, .int 0, .int 0])), (lc, .inr (4, [.int 0, .ref d, .int 0])), (lr, .inr (4, [.int 0, .ref d, .int 0])), (lt, .inr (4, [.int 0, .ref d, .int 0])), (lp, .inr (4, [.int 0, .ref d, .int 0])), (lb, .inr (4, [.int 0, .ref d, .int 0])), (ml, .inl (kl2, 8, .inl fl2)), (mm, .inl (km2, 8, .inl fm2)), (mq, .inl (kq2, 4, .inl (fun _ => 0)))]) (hS : va_S A s.heap H locs) {ls : Array Slot} (hl : lv_has ls 4 [(3, .int 0), (2, .ref mx), (1, .ref x), (0, .ref b)]) : W p l e room_1 s m #[Value.ref b] below meth c H locs 50 1070 (lw_Z below #[Value.ref b] s) (F0 m 469 ls []) := by
  obtain ⟨hx, hb, hr, hml, hown, hts0, hX, hbl, hlocks, hgv⟩ := id C0
  have hts := wsL_hts hts0
  refine lv_aload_n hx hb dL_law_469 rfl (lv_at hl 2 rfl) ?_
  refine lv_aload_n hx hb dL_law_470 rfl (lv_at hl 3 rfl) ?_
  refine lv_iload_n hx hb dL_law_471 rfl (lv_at hl 0 rfl) ?_
  refine lv_iconst (v := 1) hx hb dL_law_472 (by decide) ?_
  refine lv_iadd hx hb dL_law_473 ?_
  refine lv_topi (fun f_1 ef_1 => ?_)
  obtain rfl : f_1 = 1 := ef_1.trans (by decide)
  refine va_sld hx hb hX hbl hbA hS (by unfold vp_in; decide) dL_law_474 ?_
  refine lv_i2l hx hb dL_law_475 rfl ?_
  refine lv_bipush (v := 32) hx hb dL_law_476 (by decide) ?_
  refine lv_lshl hx hb dL_law_478 rfl ?_
  refine lv_aload_n hx hb dL_law_479 rfl (lv_at hl 3 rfl) ?_
  refine lv_iload_n hx hb dL_law_480 rfl (lv_at hl 0 rfl) ?_
  refine lv_iconst (v := 2) hx hb dL_law_481 (by decide) ?_
  refine lv_iadd hx hb dL_law_482 ?_
  refine lv_topi (fun f_3 ef_3 => ?_)
  obtain rfl : f_3 = 2 := ef_3.trans (by decide)
  refine va_sld hx hb hX hbl hbA hS (by unfold vp_in; decide) dL_law_483 ?_
  refine lv_i2l hx hb dL_law_484 rfl ?_
  refine lv_ldc2 (v := 4294967295) hx hb hown (hts (.constantLong RL 18 (4294967295)) (List.mem_of_getElem? (i := 6) rfl)) dL_law_485 ?_
  refine lv_land hx hb dL_law_488 ?_
  refine lv_lor hx hb dL_law_489 ?_
  have hPc := hP.sub (ws' := [(x, .inr (10, [.ref cd, .int 0, .ref rd, .int 0, .ref tp, .ref fo, .int 10, .ref qu, .int 0, .int 0, .ref sh, .ref vs, .ref pa, .ref pb])), (fo, .inr (7, [.int 1, .ref le, .ref mo, .ref os, .ref ps, .int 0, .ref br, .int 0])), (br, .inl (kb, 8, .inr (.inl (fun _ => 0))))]) [0, 5, 10] rfl
  have hDc := hD.sub (ws' := [(x, .inr (10, [.ref cd, .int 0, .ref rd, .int 0, .ref tp, .ref fo, .int 10, .ref qu, .int 0, .int 0, .ref sh, .ref vs, .ref pa, .ref pb])), (fo, .inr (7, [.int 1, .ref le, .ref mo, .ref os, .ref ps, .int 0, .ref br, .int 0])), (br, .inl (kb, 8, .inr (.inl (fun _ => 0))))]) [0, 5, 10] (by decide) rfl
  have hKc := hK.sub (tys' := [(kb, .long)]) [7] rfl
  have hFc := va_free (wc := [(x, .inr (10, [.ref cd, .int 0, .ref rd, .int 0, .ref tp, .ref fo, .int 10, .ref qu, .int 0, .int 0, .ref sh, .ref vs, .ref pa, .ref pb])), (fo, .inr (7, [.int 1, .ref le, .ref mo, .ref os, .ref ps, .int 0, .ref br, .int 0])), (br, .inl (kb, 8, .inr (.inl (fun _ => 0))))]) hD hS hA [0, 5, 10] rfl
  refine va_calli (va_runV (As := [.long ((((xs (1 : Int32).toNatClampNeg).toInt64) <<< ((32 : Int32).toInt64 &&& 63)) ||| (((xs (2 : Int32).toNatClampNeg).toInt64) &&& 4294967295))]) (rest := []) ⟨hx, hb, hml, hown, hts⟩ (c_X_bar l dC dI x cd rd tp fo qu sh vs pa pb le mo os ps br kb ((((xs (1 : Int32).toNatClampNeg).toInt64) <<< ((32 : Int32).toInt64 &&& 63)) ||| (((xs (2 : Int32).toNatClampNeg).toInt64) &&& 4294967295)) H.size) (cwV 1 hts gL_law_X5_bar rfl rfl rfl (by decide +kernel) ⟨Nat.le_of_ble_eq_true rfl, Nat.le_of_ble_eq_true rfl⟩) ⟨PQ_blind, va_recv hK hP (ci := 10) (q0 := 0) rfl rfl, PQ_pre hPc hKc hDc hF⟩ rfl rfl hl.1 rfl (lv_room (Nat.le_of_ble_eq_true rfl)) dL_law_490 ⟨Nat.le_of_ble_eq_true rfl, Nat.le_of_ble_eq_true rfl⟩) hS (fun q _ h => hFc q h) hFc (fun r_4 u t H1 locs ht hvm hw hB hz1 hk1 hS => ?_)
  have hP1 : va_P (dC, dI) vwCl [] H1 := fun k q h => by simp at h
  have hD1 : va_D (va_A [(x, .inr (10, [.ref cd, .int 0, .ref rd, .int 0, .ref tp, .ref fo, .int 10, .ref qu, .int 0, .int 0, .ref sh, .ref vs, .ref pa, .ref pb])), (fo, .inr (7, [.int 1, .ref le, .ref mo, .ref os, .ref ps, .int 0, .ref br, .int 0])), (br, .inl (kb, 8, .inr (.inl (fun _ => 0))))] H.size) [] := ⟨fun i j p q h => by simp at h, fun k q h => by simp at h⟩
  obtain ⟨hP, hD⟩ := va_join (wr := [(cd, .inl (kC, 24, .inr (.inr (.inr (.inr (fun _ => none)))))), (rd, .inl (kR, 6, .inr (.inr (.inr (.inr (fun _ => none)))))), (tp, .inr (9, [.ref tb, .int 0])), (tb, .inl (kB, 250, .inl (fun _ => 0))), (le, .inl (kl, 8, .inl fl)), (mo, .inl (km, 8, .inl fm)), (os, .inl (ko, 6, .inl (fun _ => 0))), (ps, .inl (kp, 6, .inl (fun _ => 0))), (qu, .inl (kq, 4, .inl (fun _ => 0))), (mx, .inr (14, [.ref lc, .ref lr, .ref kn, .ref lt, .ref ml, .ref mm, .ref lp, .ref lb, .ref mq, .int 1, .int 10, .int 0, .int 0])), (lc, .inr (4, [.int 0, .ref d, .int 0])), (lr, .inr (4, [.int 0, .ref d, .int 0])), (lt, .inr (4, [.int 0, .ref d, .int 0])), (lp, .inr (4, [.int 0, .ref d, .int 0])), (lb, .inr (4, [.int 0, .ref d, .int 0])), (ml, .inl (kl2, 8, .inl fl2)), (mm, .inl (km2, 8, .inl fm2)), (mq, .inl (kq2, 4, .inl (fun _ => 0)))]) (w1 := []) hP hD [0, 5, 10] [1, 2, 3, 4, 6, 7, 8, 9, 11, 12, 13, 14, 15, 16, 17, 18, 19, 20] rfl rfl (by decide) (by decide) hk1 hFc hP1 hD1
  generalize H1 = H at hP hS ⊢
  have hP : va_P (dC, dI) vwCl [(cd, .inl (kC, 24, .inr (.inr (.inr (.inr (fun _ => none)))))), (rd, .inl (kR, 6, .inr (.inr (.inr (.inr (fun _ => none)))))), (tp, .inr (9, [.ref tb, .int 0])), (tb, .inl (kB, 250, .inl (fun _ => 0))), (le, .inl (kl, 8, .inl fl)), (mo, .inl (km, 8, .inl fm)), (os, .inl (ko, 6, .inl (fun _ => 0))), (ps, .inl (kp, 6, .inl (fun _ => 0))), (qu, .inl (kq, 4, .inl (fun _ => 0))), (mx, .inr (14, [.ref lc, .ref lr, .ref kn, .ref lt, .ref ml, .ref mm, .ref lp, .ref lb, .ref mq, .int 1, .int 10, .int 0, .int 0])), (lc, .inr (4, [.int 0, .ref d, .int 0])), (lr, .inr (4, [.int 0, .ref d, .int 0])), (lt, .inr (4, [.int 0, .ref d, .int 0])), (lp, .inr (4, [.int 0, .ref d, .int 0])), (lb, .inr (4, [.int 0, .ref d, .int 0])), (ml, .inl (kl2, 8, .inl fl2)), (mm, .inl (km2, 8, .inl fm2)), (mq, .inl (kq2, 4, .inl (fun _ => 0)))] H := hP
  have hD : va_D A [(cd, .inl (kC, 24, .inr (.inr (.inr (.inr (fun _ => none)))))), (rd, .inl (kR, 6, .inr (.inr (.inr (.inr (fun _ => none)))))), (tp, .inr (9, [.ref tb, .int 0])), (tb, .inl (kB, 250, .inl (fun _ => 0))), (le, .inl (kl, 8, .inl fl)), (mo, .inl (km, 8, .inl fm)), (os, .inl (ko, 6, .inl (fun _ => 0))), (ps, .inl (kp, 6, .inl (fun _ => 0))), (qu, .inl (kq, 4, .inl (fun _ => 0))), (mx, .inr (14, [.ref lc, .ref lr, .ref kn, .ref lt, .ref ml, .ref mm, .ref lp, .ref lb, .ref mq, .int 1, .int 10, .int 0, .int 0])), (lc, .inr (4, [.int 0, .ref d, .int 0])), (lr, .inr (4, [.int 0, .ref d, .int 0])), (lt, .inr (4, [.int 0, .ref d, .int 0])), (lp, .inr (4, [.int 0, .ref d, .int 0])), (lb, .inr (4, [.int 0, .ref d, .int 0])), (ml, .inl (kl2, 8, .inl fl2)), (mm, .inl (km2, 8, .inl fm2)), (mq, .inl (kq2, 4, .inl (fun _ => 0)))] := hD
  have hK : va_K (dC, dI) vwCl [(kC, .object "ExamHalls$Candidate"), (kR, .object "ExamHalls$Reader"), (kB, .byte), (kl, .int), (km, .int), (ko, .int), (kp, .int), (kb, .long), (kq, .int), (kl2, .int), (km2, .int), (kq2, .int)] s := hK
  refine W.widen (k := 50) (n := 1070) (Nat.le_of_ble_eq_true rfl) (Nat.le_of_ble_eq_true rfl) ?_
  obtain rfl := hw
  refine lv_aload_n hx hb dL_law_493 rfl (lv_at hl 1 rfl) ?_
  refine lv_aload_n hx hb dL_law_494 rfl (lv_at hl 3 rfl) ?_
  refine lv_iload_n hx hb dL_law_495 rfl (lv_at hl 0 rfl) ?_
  refine lv_iconst (v := 1) hx hb dL_law_496 (by decide) ?_
  refine lv_iadd hx hb dL_law_497 ?_
  refine lv_topi (fun f_5 ef_5 => ?_)
  obtain rfl : f_5 = 1 := ef_5.trans (by decide)
  refine va_sld hx hb hX hbl hbA hS (by unfold vp_in; decide) dL_law_498 ?_
  refine lv_i2l hx hb dL_law_499 rfl ?_
  refine lv_bipush (v := 32) hx hb dL_law_500 (by decide) ?_
  refine lv_lshl hx hb dL_law_502 rfl ?_
  refine lv_aload_n hx hb dL_law_503 rfl (lv_at hl 3 rfl) ?_
  refine lv_iload_n hx hb dL_law_504 rfl (lv_at hl 0 rfl) ?_
  refine lv_iconst (v := 2) hx hb dL_law_505 (by decide) ?_
  refine lv_iadd hx hb dL_law_506 ?_
  refine lv_topi (fun f_7 ef_7 => ?_)
  obtain rfl : f_7 = 2 := ef_7.trans (by decide)
  refine va_sld hx hb hX hbl hbA hS (by unfold vp_in; decide) dL_law_507 ?_
  refine lv_i2l hx hb dL_law_508 rfl ?_
  refine lv_ldc2 (v := 4294967295) hx hb hown (hts (.constantLong RL 18 (4294967295)) (List.mem_of_getElem? (i := 6) rfl)) dL_law_509 ?_
  refine lv_land hx hb dL_law_512 ?_
  refine lv_lor hx hb dL_law_513 ?_
  have hPc := hP.sub (ws' := [(mx, .inr (14, [.ref lc, .ref lr, .ref kn, .ref lt, .ref ml, .ref mm, .ref lp, .ref lb, .ref mq, .int 1, .int 10, .int 0, .int 0])), (lb, .inr (4, [.int 0, .ref d, .int 0]))]) [9, 14] rfl
  have hDc := hD.sub (ws' := [(mx, .inr (14, [.ref lc, .ref lr, .ref kn, .ref lt, .ref ml, .ref mm, .ref lp, .ref lb, .ref mq, .int 1, .int 10, .int 0, .int 0])), (lb, .inr (4, [.int 0, .ref d, .int 0]))]) [9, 14] (by decide) rfl
  have hKc := hK.sub (tys' := []) [] rfl
  have hFc := va_free (wc := [(mx, .inr (14, [.ref lc, .ref lr, .ref kn, .ref lt, .ref ml, .ref mm, .ref lp, .ref lb, .ref mq, .int 1, .int 10, .int 0, .int 0])), (lb, .inr (4, [.int 0, .ref d, .int 0]))]) hD hS hA [9, 14] rfl
  refine va_calli (va_runV (As := [.long ((((xs (1 : Int32).toNatClampNeg).toInt64) <<< ((32 : Int32).toInt64 &&& 63)) ||| (((xs (2 : Int32).toNatClampNeg).toInt64) &&& 4294967295))]) (rest := [.int (sp_X_bar ((((xs (1 : Int32).toNatClampNeg).toInt64) <<< ((32 : Int32).toInt64 &&& 63)) ||| (((xs (2 : Int32).toNatClampNeg).toInt64) &&& 4294967295)))]) ⟨hx, hb, hml, hown, hts⟩ (c_M_bar l dC dI d tc ad mx lc lr kn lt ml mm lp lb mq ((((xs (1 : Int32).toNatClampNeg).toInt64) <<< ((32 : Int32).toInt64 &&& 63)) ||| (((xs (2 : Int32).toNatClampNeg).toInt64) &&& 4294967295)) H.size) (cwV 1 hts gL_law_X9_bar rfl rfl rfl (by decide +kernel) ⟨Nat.le_of_ble_eq_true rfl, Nat.le_of_ble_eq_true rfl⟩) ⟨PZ_blind, va_recv hK hP (ci := 14) (q0 := 9) rfl rfl, PZ_pre hPc hKc hDc hF hZ hS hFc⟩ rfl rfl hl.1 rfl (lv_room (Nat.le_of_ble_eq_true rfl)) dL_law_514 ⟨Nat.le_of_ble_eq_true rfl, Nat.le_of_ble_eq_true rfl⟩) hS (fun q _ h => hFc q h) hFc (fun r_8 u t H1 locs ht hvm hw hB hz1 hk1 hS => ?_)
  have hP1 : va_P (dC, dI) vwCl [] H1 := fun k q h => by simp at h
  have hD1 : va_D (va_A [(mx, .inr (14, [.ref lc, .ref lr, .ref kn, .ref lt, .ref ml, .ref mm, .ref lp, .ref lb, .ref mq, .int 1, .int 10, .int 0, .int 0])), (lb, .inr (4, [.int 0, .ref d, .int 0]))] H.size) [] := ⟨fun i j p q h => by simp at h, fun k q h => by simp at h⟩
  obtain ⟨hP, hD⟩ := va_join (wr := [(cd, .inl (kC, 24, .inr (.inr (.inr (.inr (fun _ => none)))))), (rd, .inl (kR, 6, .inr (.inr (.inr (.inr (fun _ => none)))))), (tp, .inr (9, [.ref tb, .int 0])), (tb, .inl (kB, 250, .inl (fun _ => 0))), (le, .inl (kl, 8, .inl fl)), (mo, .inl (km, 8, .inl fm)), (os, .inl (ko, 6, .inl (fun _ => 0))), (ps, .inl (kp, 6, .inl (fun _ => 0))), (qu, .inl (kq, 4, .inl (fun _ => 0))), (lc, .inr (4, [.int 0, .ref d, .int 0])), (lr, .inr (4, [.int 0, .ref d, .int 0])), (lt, .inr (4, [.int 0, .ref d, .int 0])), (lp, .inr (4, [.int 0, .ref d, .int 0])), (ml, .inl (kl2, 8, .inl fl2)), (mm, .inl (km2, 8, .inl fm2)), (mq, .inl (kq2, 4, .inl (fun _ => 0)))]) (w1 := []) hP hD [9, 14] [0, 1, 2, 3, 4, 5, 6, 7, 8, 10, 11, 12, 13, 15, 16, 17] rfl rfl (by decide) (by decide) hk1 hFc hP1 hD1
  generalize H1 = H at hP hS ⊢
  have hP : va_P (dC, dI) vwCl [(cd, .inl (kC, 24, .inr (.inr (.inr (.inr (fun _ => none)))))), (rd, .inl (kR, 6, .inr (.inr (.inr (.inr (fun _ => none)))))), (tp, .inr (9, [.ref tb, .int 0])), (tb, .inl (kB, 250, .inl (fun _ => 0))), (le, .inl (kl, 8, .inl fl)), (mo, .inl (km, 8, .inl fm)), (os, .inl (ko, 6, .inl (fun _ => 0))), (ps, .inl (kp, 6, .inl (fun _ => 0))), (qu, .inl (kq, 4, .inl (fun _ => 0))), (lc, .inr (4, [.int 0, .ref d, .int 0])), (lr, .inr (4, [.int 0, .ref d, .int 0])), (lt, .inr (4, [.int 0, .ref d, .int 0])), (lp, .inr (4, [.int 0, .ref d, .int 0])), (ml, .inl (kl2, 8, .inl fl2)), (mm, .inl (km2, 8, .inl fm2)), (mq, .inl (kq2, 4, .inl (fun _ => 0)))] H := hP
  have hD : va_D A [(cd, .inl (kC, 24, .inr (.inr (.inr (.inr (fun _ => none)))))), (rd, .inl (kR, 6, .inr (.inr (.inr (.inr (fun _ => none)))))), (tp, .inr (9, [.ref tb, .int 0])), (tb, .inl (kB, 250, .inl (fun _ => 0))), (le, .inl (kl, 8, .inl fl)), (mo, .inl (km, 8, .inl fm)), (os, .inl (ko, 6, .inl (fun _ => 0))), (ps, .inl (kp, 6, .inl (fun _ => 0))), (qu, .inl (kq, 4, .inl (fun _ => 0))), (lc, .inr (4, [.int 0, .ref d, .int 0])), (lr, .inr (4, [.int 0, .ref d, .int 0])), (lt, .inr (4, [.int 0, .ref d, .int 0])), (lp, .inr (4, [.int 0, .ref d, .int 0])), (ml, .inl (kl2, 8, .inl fl2)), (mm, .inl (km2, 8, .inl fm2)), (mq, .inl (kq2, 4, .inl (fun _ => 0)))] := hD
  have hK : va_K (dC, dI) vwCl [(kC, .object "ExamHalls$Candidate"), (kR, .object "ExamHalls$Reader"), (kB, .byte), (kl, .int), (km, .int), (ko, .int), (kp, .int), (kb, .long), (kq, .int), (kl2, .int), (km2, .int), (kq2, .int)] s := hK
  refine W.widen (k := 55) (n := 1112) (Nat.le_of_ble_eq_true rfl) (Nat.le_of_ble_eq_true rfl) ?_
  obtain rfl := hw
  refine lv_icmp_eq (tgt := 1217) hx hb dL_law_517 (by decide) (fun _ => ?_) (fun c9 => absurd (eq_bar _) c9)
  refine lv_iinc (v := 5) (lv' := [(3, .int 5), (2, .ref mx), (1, .ref x), (0, .ref b)]) hx hb dL_law_1217 hl (k := 0) rfl (by decide) (by decide) rfl (fun ls hl => ?_)
  refine lv_goto (tgt := 18) hx hb dL_law_1220 (by decide) ?_
  exact law_end (C0 := C0) hbA hAs hS (lv_sub hl [0, 3] rfl) (Nat.le_of_ble_eq_true rfl) (Nat.le_of_ble_eq_true rfl)
