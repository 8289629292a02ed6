theorem dL_law_0 : decode cL_law 0 = .ok (.new 7, 3) := by decide +kernel
theorem dL_law_3 : decode cL_law 3 = .ok (.dup, 1) := by decide +kernel
theorem dL_law_4 : decode cL_law 4 = .ok (.invokespecial 9, 3) := by decide +kernel
theorem dL_law_7 : decode cL_law 7 = .ok (.astore_n 1, 1) := by decide +kernel
theorem dL_law_8 : decode cL_law 8 = .ok (.new 10, 3) := by decide +kernel
theorem dL_law_11 : decode cL_law 11 = .ok (.dup, 1) := by decide +kernel
theorem dL_law_12 : decode cL_law 12 = .ok (.invokespecial 12, 3) := by decide +kernel
theorem dL_law_15 : decode cL_law 15 = .ok (.astore_n 2, 1) := by decide +kernel
theorem dL_law_16 : decode cL_law 16 = .ok (.iconst 0, 1) := by decide +kernel
theorem dL_law_17 : decode cL_law 17 = .ok (.istore_n 3, 1) := by decide +kernel
theorem dL_law_18 : decode cL_law 18 = .ok (.iload_n 3, 1) := by decide +kernel
theorem dL_law_19 : decode cL_law 19 = .ok (.aload_n 0, 1) := by decide +kernel
theorem dL_law_20 : decode cL_law 20 = .ok (.arraylength, 1) := by decide +kernel
theorem dL_law_21 : decode cL_law 21 = .ok (.iconst 5, 1) := by decide +kernel
theorem dL_law_22 : decode cL_law 22 = .ok (.isub, 1) := by decide +kernel
theorem dL_law_23 : decode cL_law 23 = .ok (.if_icmp .gt 1199, 3) := by decide +kernel
theorem dL_law_26 : decode cL_law 26 = .ok (.aload_n 0, 1) := by decide +kernel
theorem dL_law_27 : decode cL_law 27 = .ok (.iload_n 3, 1) := by decide +kernel
theorem dL_law_28 : decode cL_law 28 = .ok (.iaload, 1) := by decide +kernel
theorem dL_law_29 : decode cL_law 29 = .ok (.bipush 63, 2) := by decide +kernel
theorem dL_law_31 : decode cL_law 31 = .ok (.iand, 1) := by decide +kernel
theorem dL_law_32 : decode cL_law 32 = .ok (.tableswitch 1184 0 33 #[152, 175, 238, 261, 294, 337, 360, 403, 436, 489, 512, 545, 578, 631, 654, 667, 700, 713, 726, 749, 792, 835, 858, 881, 914, 947, 980, 1003, 1026, 1059, 1082, 1115, 1148, 1161], 152) := by decide +kernel
theorem dL_law_184 : decode cL_law 184 = .ok (.aload_n 1, 1) := by decide +kernel
theorem dL_law_185 : decode cL_law 185 = .ok (.aload_n 0, 1) := by decide +kernel
theorem dL_law_186 : decode cL_law 186 = .ok (.iload_n 3, 1) := by decide +kernel
theorem dL_law_187 : decode cL_law 187 = .ok (.iconst 1, 1) := by decide +kernel
theorem dL_law_188 : decode cL_law 188 = .ok (.iadd, 1) := by decide +kernel
theorem dL_law_189 : decode cL_law 189 = .ok (.iaload, 1) := by decide +kernel
theorem dL_law_190 : decode cL_law 190 = .ok (.invokevirtual 13, 3) := by decide +kernel
theorem dL_law_193 : decode cL_law 193 = .ok (.pop, 1) := by decide +kernel
theorem dL_law_194 : decode cL_law 194 = .ok (.aload_n 2, 1) := by decide +kernel
theorem dL_law_195 : decode cL_law 195 = .ok (.aload_n 0, 1) := by decide +kernel
theorem dL_law_196 : decode cL_law 196 = .ok (.iload_n 3, 1) := by decide +kernel
theorem dL_law_197 : decode cL_law 197 = .ok (.iconst 1, 1) := by decide +kernel
theorem dL_law_198 : decode cL_law 198 = .ok (.iadd, 1) := by decide +kernel
theorem dL_law_199 : decode cL_law 199 = .ok (.iaload, 1) := by decide +kernel
theorem dL_law_200 : decode cL_law 200 = .ok (.invokevirtual 17, 3) := by decide +kernel
theorem dL_law_203 : decode cL_law 203 = .ok (.pop, 1) := by decide +kernel
theorem dL_law_204 : decode cL_law 204 = .ok (.goto 1012, 3) := by decide +kernel
theorem dL_law_686 : decode cL_law 686 = .ok (.aload_n 1, 1) := by decide +kernel
theorem dL_law_687 : decode cL_law 687 = .ok (.invokevirtual 78, 3) := by decide +kernel
theorem dL_law_690 : decode cL_law 690 = .ok (.pop, 1) := by decide +kernel
theorem dL_law_691 : decode cL_law 691 = .ok (.aload_n 2, 1) := by decide +kernel
theorem dL_law_692 : decode cL_law 692 = .ok (.invokevirtual 82, 3) := by decide +kernel
theorem dL_law_695 : decode cL_law 695 = .ok (.pop, 1) := by decide +kernel
theorem dL_law_696 : decode cL_law 696 = .ok (.goto 520, 3) := by decide +kernel
theorem dL_law_1216 : decode cL_law 1216 = .ok (.iinc 3 5, 3) := by decide +kernel
theorem dL_law_1219 : decode cL_law 1219 = .ok (.goto (-1201), 3) := by decide +kernel
theorem dL_law_1222 : decode cL_law 1222 = .ok (.iconst 1, 1) := by decide +kernel
theorem dL_law_1223 : decode cL_law 1223 = .ok (.ireturn, 1) := by decide +kernel
theorem dfX5 : ∀ j, j < 14 → defaultValue (tyX5 j) = vp_V [.null, .int 0, .null, .int 0, .null, .null, .int 0, .null, .int 0, .int 0, .null, .null, .null, .null] j := by
  intro j hj
  rcases (show j = 0 ∨ j = 1 ∨ j = 2 ∨ j = 3 ∨ j = 4 ∨ j = 5 ∨ j = 6 ∨ j = 7 ∨ j = 8 ∨ j = 9 ∨ j = 10 ∨ j = 11 ∨ j = 12 ∨ j = 13 by omega) with rfl | rfl | rfl | rfl | rfl | rfl | rfl | rfl | rfl | rfl | rfl | rfl | rfl | rfl <;> rfl
theorem dfX9 : ∀ j, j < 13 → defaultValue (tyX9 j) = vp_V [.null, .null, .null, .null, .null, .null, .null, .null, .null, .int 0, .int 0, .int 0, .int 0] j := by
  intro j hj
  rcases (show j = 0 ∨ j = 1 ∨ j = 2 ∨ j = 3 ∨ j = 4 ∨ j = 5 ∨ j = 6 ∨ j = 7 ∨ j = 8 ∨ j = 9 ∨ j = 10 ∨ j = 11 ∨ j = 12 by omega) with rfl | rfl | rfl | rfl | rfl | rfl | rfl | rfl | rfl | rfl | rfl | rfl | rfl <;> rfl
set_option maxHeartbeats 4000000 in
set_option maxRecDepth 100000 in
theorem law_end {p : Program} {l : Launch} {e : Env} {s : State} {m : MethodId} {below : List Frame} {meth : Method} {c : Code} {b : Nat} {A : Nat → Prop} {x mx : Nat} (C0 : lw_At p s m meth c b 2310 scf) (hbA : ¬ A b) (hAs : ∀ q, A q → s.heap.size ≤ q) {H : Heap} {locs : List Loc} (hS : va_S A s.heap H locs) (hG : s.heap.size + 812175 ≤ H.size) {ls : Array Slot} (hl : lv_has ls 4 [(3, .int (nI 2310)), (2, .ref mx), (1, .ref x), (0, .ref b)]) {cells slots : Nat} (h1 : cells ≤ 840000) (h2 : slots ≤ 4000000) : W p l e bigR s m #[Value.ref b] below meth c H locs (cells) (slots) (lw_Z below #[Value.ref b] s) (F0 m 18 ls []) := by
  obtain ⟨hx, hb, hr, hml, hown, hts, hX0, hbl, hlocks, hgv⟩ := id C0
  refine lv_iload_n hx hb dL_law_18 rfl (lv_at hl 0 rfl) ?_
  refine lv_aload_n hx hb dL_law_19 rfl (lv_at hl 3 rfl) ?_
  refine va_slen hx hb hX0 hbl hbA hS dL_law_20 ?_
  refine lv_topi (fun f1 ef1 => ?_)
  obtain rfl : f1 = 2310 := ef1.trans (by decide)
  refine lv_iconst (v := 5) hx hb dL_law_21 (by decide) ?_
  refine lv_isub hx hb dL_law_22 ?_
  refine lv_topi (fun f2 ef2 => ?_)
  obtain rfl : f2 = 2305 := ef2.trans (by decide)
  refine lv_icmp_gt (tgt := 1222) hx hb dL_law_23 (by decide) (fun _ => ?_) (fun c9 => absurd (show nI 2305 < nI 2310 from nI_lt (by decide) (by decide)) c9)
  refine lv_iconst (v := 1) hx hb dL_law_1222 (by decide) ?_
  refine va_forget (fun q hq => hAs _ (hS.2.2 q hq)) ?_
  refine W.widen (k := 840000) (n := 4000000) h1 h2 ?_
  exact lw_ret hx hb hr hlocks hG dL_law_1223

set_option maxHeartbeats 4000000 in
set_option maxRecDepth 100000 in
theorem law_few {p : Program} {l : Launch} {e : Env} {s : State} {m : MethodId} {below : List Frame} {meth : Method} {c : Code} {dC : Nat → ClassId} {dI : Nat → Nat → Nat} {b : Nat} {A : Nat → Prop} {x cd rd tp fo qu sh vs pa pb mx lc lr kn lt ml mm lp lb mq ed : Nat} {kC kg kO k1 k2 k3 : ClassId} {fc fa : Nat → Option Nat} {hm : Int32} {FL : va_W} (C0 : lw_At p s m meth c b 2310 scf) (hbA : ¬ A b) (hA : ∀ q, s.heap.size ≤ q → A q) (hAs : ∀ q, A q → s.heap.size ≤ q) (hF : Ft s) (hK : va_K (dC, dI) vwCl [(kC, .object "ExamHalls$Candidate"), (kg, .int), (kO, .object "java/lang/Object"), (k3, .array (.array .boolean)), (k2, .array .boolean), (k1, .boolean)] s) (hX : XI kg 7 fc FL) (hM : MI k1 k2 k3 7 fa FL) : ∀ (k t : Nat) (H : Heap) (locs : List Loc) (ls : Array Slot), t + k = 462 → 7 ≤ t → va_P (dC, dI) vwCl ([(x, .inr (10, [.ref cd, .int 7, .ref rd, .int 0, .ref tp, .ref fo, .int 10, .ref qu, .int 0, .int 0, .ref sh, .ref vs, .ref pa, .ref pb])), (cd, .inl (kC, 24, .inr (.inr (.inr (.inr fc))))), (mx, .inr (14, [.ref lc, .ref lr, .ref kn, .ref lt, .ref ml, .ref mm, .ref lp, .ref lb, .ref mq, .int 1, .int 10, .int 0, .int 0])), (lc, .inr (4, [.int hm, .ref ed, .int 7])), (ed, .inl (kO, 10, .inr (.inr (.inr (.inr fa)))))] ++ FL) H → va_D A ([(x, .inr (10, [.ref cd, .int 7, .ref rd, .int 0, .ref tp, .ref fo, .int 10, .ref qu, .int 0, .int 0, .ref sh, .ref vs, .ref pa, .ref pb])), (cd, .inl (kC, 24, .inr (.inr (.inr (.inr fc))))), (mx, .inr (14, [.ref lc, .ref lr, .ref kn, .ref lt, .ref ml, .ref mm, .ref lp, .ref lb, .ref mq, .int 1, .int 10, .int 0, .int 0])), (lc, .inr (4, [.int hm, .ref ed, .int 7])), (ed, .inl (kO, 10, .inr (.inr (.inr (.inr fa)))))] ++ FL) → va_S A s.heap H locs → s.heap.size + 1785 * t ≤ H.size + 12495 → lv_has ls 4 [(3, .int (nI (5 * t))), (2, .ref mx), (1, .ref x), (0, .ref b)] → W p l e bigR s m #[Value.ref b] below meth c H locs (500 + 1792 * t) (3000 + 7168 * t) (lw_Z below #[Value.ref b] s) (F0 m 18 ls []) := by
  obtain ⟨hx, hb, hr, hml, hown, hts, hX0, hbl, hlocks, hgv⟩ := id C0
  intro k
  induction k with
  | zero =>
    intro t H locs ls hk h7 hP hD hS hg hl
    obtain rfl : t = 462 := by omega
    exact law_end C0 hbA hAs hS (by omega) hl (by omega) (by omega)
  | succ k ih =>
    intro t H locs ls hk h7 hP hD hS hg hl
    refine lv_iload_n hx hb dL_law_18 rfl (lv_at hl 0 rfl) ?_
    refine lv_aload_n hx hb dL_law_19 rfl (lv_at hl 3 rfl) ?_
    refine va_slen hx hb hX0 hbl hbA hS dL_law_20 ?_
    refine lv_topi (fun f1 ef1 => ?_)
    obtain rfl : f1 = 2310 := ef1.trans (by decide)
    refine lv_iconst (v := 5) hx hb dL_law_21 (by decide) ?_
    refine lv_isub hx hb dL_law_22 ?_
    refine lv_topi (fun f2 ef2 => ?_)
    obtain rfl : f2 = 2305 := ef2.trans (by decide)
    refine lv_icmp_gt (tgt := 1222) hx hb dL_law_23 (by decide) (fun c9 => absurd c9 (show ¬ nI 2305 < nI (5 * t) from nI_nlt (by omega) (by decide))) (fun _ => ?_)
    refine lv_aload_n hx hb dL_law_26 rfl (lv_at hl 3 rfl) ?_
    refine lv_iload_n hx hb dL_law_27 rfl (lv_at hl 0 rfl) ?_
    refine va_sld hx hb hX0 hbl hbA hS (vp_in_nI (by omega) (by decide)) dL_law_28 ?_
    refine lv_topi (fun f3 ef3 => ?_)
    obtain rfl : f3 = 14 := ef3.trans (by rw [nI_clamp (by omega)]; exact scf_14 (by omega))
    refine lv_bipush (v := 63) hx hb dL_law_29 (by decide) ?_
    refine lv_iand hx hb dL_law_31 ?_
    refine lv_topi (fun f4 ef4 => ?_)
    obtain rfl : f4 = 14 := ef4.trans (by decide)
    refine lv_tableIn (tgt := 686) hx hb dL_law_32 (by decide) (by decide) (off := 654) (by decide) (by decide) ?_
    refine lv_aload_n hx hb dL_law_686 rfl (lv_at hl 2 rfl) ?_
    refine vp_callSi (va_Run.run (va_runV (As := []) (rest := []) ⟨hx, hb, hml, hown, hts⟩ (c_R_Xfewest l dC dI x cd rd tp fo qu sh vs pa pb kC fc kg FL hX) (cwV 0 hts gL_law_X5_fewest rfl rfl rfl (by decide +kernel) ⟨Nat.le_of_ble_eq_true rfl, Nat.le_of_ble_eq_true rfl⟩) ⟨PS_blind, va_recv hK hP (ci := 10) (q0 := 0) rfl rfl, PS_pre (va_P.part (X := [(x, .inr (10, [.ref cd, .int 7, .ref rd, .int 0, .ref tp, .ref fo, .int 10, .ref qu, .int 0, .int 0, .ref sh, .ref vs, .ref pa, .ref pb])), (cd, .inl (kC, 24, .inr (.inr (.inr (.inr fc))))), (mx, .inr (14, [.ref lc, .ref lr, .ref kn, .ref lt, .ref ml, .ref mm, .ref lp, .ref lb, .ref mq, .int 1, .int 10, .int 0, .int 0])), (lc, .inr (4, [.int hm, .ref ed, .int 7])), (ed, .inl (kO, 10, .inr (.inr (.inr (.inr fa)))))]) (cx := [(x, .inr (10, [.ref cd, .int 7, .ref rd, .int 0, .ref tp, .ref fo, .int 10, .ref qu, .int 0, .int 0, .ref sh, .ref vs, .ref pa, .ref pb])), (cd, .inl (kC, 24, .inr (.inr (.inr (.inr fc)))))]) (pl := FL) hP [0, 1] rfl) (hK.sub (tys' := [(kC, .object "ExamHalls$Candidate"), (kg, .int)]) [0, 1] rfl) hF⟩ rfl rfl hl.1 rfl (lv_room (Nat.le_of_ble_eq_true rfl)) dL_law_687 ⟨by show _ ≤ 840000; omega, by show _ ≤ 4000000; omega⟩)) (fun r_1 hr_1 => ?_)
    refine lv_pop hx hb dL_law_690 rfl ?_
    refine lv_aload_n hx hb dL_law_691 rfl (lv_at hl 1 rfl) ?_
    refine va_calli (va_runV (As := []) (rest := []) ⟨hx, hb, hml, hown, hts⟩ (c_R_Mfewest l dC dI mx lc lr kn lt ml mm lp lb mq hm ed kO fa k1 k2 k3 FL H.size hM) (cwV 0 hts gL_law_X9_fewest rfl rfl rfl (by decide +kernel) ⟨Nat.le_of_ble_eq_true rfl, Nat.le_of_ble_eq_true rfl⟩) ⟨PR_blind, va_recv hK hP (ci := 14) (q0 := 2) rfl rfl, PR_pre (va_P.part (X := [(x, .inr (10, [.ref cd, .int 7, .ref rd, .int 0, .ref tp, .ref fo, .int 10, .ref qu, .int 0, .int 0, .ref sh, .ref vs, .ref pa, .ref pb])), (cd, .inl (kC, 24, .inr (.inr (.inr (.inr fc))))), (mx, .inr (14, [.ref lc, .ref lr, .ref kn, .ref lt, .ref ml, .ref mm, .ref lp, .ref lb, .ref mq, .int 1, .int 10, .int 0, .int 0])), (lc, .inr (4, [.int hm, .ref ed, .int 7])), (ed, .inl (kO, 10, .inr (.inr (.inr (.inr fa)))))]) (cx := [(mx, .inr (14, [.ref lc, .ref lr, .ref kn, .ref lt, .ref ml, .ref mm, .ref lp, .ref lb, .ref mq, .int 1, .int 10, .int 0, .int 0])), (lc, .inr (4, [.int hm, .ref ed, .int 7])), (ed, .inl (kO, 10, .inr (.inr (.inr (.inr fa)))))]) (pl := FL) hP [2, 3, 4] rfl) (hK.sub (tys' := [(kO, .object "java/lang/Object"), (k3, .array (.array .boolean)), (k2, .array .boolean), (k1, .boolean)]) [2, 3, 4, 5] rfl) hF⟩ rfl rfl hl.1 rfl (lv_room (Nat.le_of_ble_eq_true rfl)) dL_law_692 ⟨by show 500 + 1792 * t + 1792 ≤ 840000; omega, by show 3000 + 7168 * t + 7168 ≤ 4000000; omega⟩) hS rA_no (rA_h hS hA) (fun r9 u T9 H1 locs ht hvm hw hB hz1 hk1 hS => ?_)
    rw [ht] at hB
    have hP := hP.kept (fun k q hq => hk1 q.1 (hP k q hq).lt (fun h9 => absurd h9 (Nat.not_le.mpr (hP k q hq).lt)))
    refine lv_pop hx hb dL_law_695 rfl ?_
    refine lv_goto (tgt := 1216) hx hb dL_law_696 (by decide) ?_
    refine lv_iinc (v := nI (5 * t) + 5) (lv' := [(3, .int (nI (5 * t) + 5)), (2, .ref mx), (1, .ref x), (0, .ref b)]) hx hb dL_law_1216 hl (k := 0) rfl rfl (by decide) rfl (fun ls hl => ?_)
    refine lv_goto (tgt := 18) hx hb dL_law_1219 (by decide) ?_
    have e5 : nI (5 * t) + 5 = nI (5 * (t + 1)) := nI_add (5 * t) 5
    rw [e5] at hl
    refine W.widen (k := 500 + 1792 * (t + 1)) (n := 3000 + 7168 * (t + 1)) (by omega) (by omega) ?_
    exact ih (t + 1) H1 locs ls (by omega) (by omega) hP hD hS (by omega) hl

set_option maxHeartbeats 4000000 in
set_option maxRecDepth 100000 in
theorem law_cand {p : Program} {l : Launch} {e : Env} {s : State} {m : MethodId} {below : List Frame} {meth : Method} {c : Code} {dC : Nat → ClassId} {dI : Nat → Nat → Nat} {b : Nat} {A : Nat → Prop} {d tc : Nat} {ad : Nat → Nat} {x cd rd tp fo qu sh vs pa pb mx lc lr kn lt ml mm lp lb mq ed : Nat} {kC kg kO k1 k2 k3 : ClassId} (C0 : lw_At p s m meth c b 2310 scf) (hbA : ¬ A b) (hA : ∀ q, s.heap.size ≤ q → A q) (hAs : ∀ q, A q → s.heap.size ≤ q) (hF : Ft s) (hZ : Zt d tc ad A s s.heap) (hz : Kz k1 k2 k3 s) (hK : va_K (dC, dI) vwCl [(kC, .object "ExamHalls$Candidate"), (kg, .int), (kO, .object "java/lang/Object")] s) : ∀ (k t : Nat) (fc fa : Nat → Option Nat) (hm : Int32) (FL : va_W) (H : Heap) (locs : List Loc) (ls : Array Slot), t + k = 7 → 1 ≤ t → XI kg t fc FL → MI k1 k2 k3 t fa FL → va_P (dC, dI) vwCl ([(x, .inr (10, [.ref cd, .int (nI t), .ref rd, .int 0, .ref tp, .ref fo, .int 10, .ref qu, .int 0, .int 0, .ref sh, .ref vs, .ref pa, .ref pb])), (cd, .inl (kC, 24, .inr (.inr (.inr (.inr fc))))), (mx, .inr (14, [.ref lc, .ref lr, .ref kn, .ref lt, .ref ml, .ref mm, .ref lp, .ref lb, .ref mq, .int 1, .int 10, .int 0, .int 0])), (lc, .inr (4, [.int hm, .ref ed, .int (nI t)])), (ed, .inl (kO, 10, .inr (.inr (.inr (.inr fa)))))] ++ FL) H → va_D A ([(x, .inr (10, [.ref cd, .int (nI t), .ref rd, .int 0, .ref tp, .ref fo, .int 10, .ref qu, .int 0, .int 0, .ref sh, .ref vs, .ref pa, .ref pb])), (cd, .inl (kC, 24, .inr (.inr (.inr (.inr fc))))), (mx, .inr (14, [.ref lc, .ref lr, .ref kn, .ref lt, .ref ml, .ref mm, .ref lp, .ref lb, .ref mq, .int 1, .int 10, .int 0, .int 0])), (lc, .inr (4, [.int hm, .ref ed, .int (nI t)])), (ed, .inl (kO, 10, .inr (.inr (.inr (.inr fa)))))] ++ FL) → va_S A s.heap H locs → lv_has ls 4 [(3, .int (nI (5 * t))), (2, .ref mx), (1, .ref x), (0, .ref b)] → W p l e bigR s m #[Value.ref b] below meth c H locs (100 + 48 * t) (1300 + 210 * t) (lw_Z below #[Value.ref b] s) (F0 m 18 ls []) := by
  obtain ⟨hx, hb, hr, hml, hown, hts, hX0, hbl, hlocks, hgv⟩ := id C0
  intro k
  induction k with
  | zero =>
    intro t fc fa hm FL H locs ls hk h1 hX hM hP hD hS hl
    obtain rfl : t = 7 := by omega
    refine W.widen (k := 500 + 1792 * 7) (n := 3000 + 7168 * 7) (by omega) (by omega) ?_
    exact law_few C0 hbA hA hAs hF (kz_K hF hz hK) hX hM 455 7 H locs ls (by omega) (by omega) hP hD hS (by have h9 := hS.1; omega) hl
  | succ k ih =>
    intro t fc fa hm FL H locs ls hk h1 hX hM hP hD hS hl
    refine lv_iload_n hx hb dL_law_18 rfl (lv_at hl 0 rfl) ?_
    refine lv_aload_n hx hb dL_law_19 rfl (lv_at hl 3 rfl) ?_
    refine va_slen hx hb hX0 hbl hbA hS dL_law_20 ?_
    refine lv_topi (fun f1 ef1 => ?_)
    obtain rfl : f1 = 2310 := ef1.trans (by decide)
    refine lv_iconst (v := 5) hx hb dL_law_21 (by decide) ?_
    refine lv_isub hx hb dL_law_22 ?_
    refine lv_topi (fun f2 ef2 => ?_)
    obtain rfl : f2 = 2305 := ef2.trans (by decide)
    refine lv_icmp_gt (tgt := 1222) hx hb dL_law_23 (by decide) (fun c9 => absurd c9 (show ¬ nI 2305 < nI (5 * t) from nI_nlt (by omega) (by decide))) (fun _ => ?_)
    refine lv_aload_n hx hb dL_law_26 rfl (lv_at hl 3 rfl) ?_
    refine lv_iload_n hx hb dL_law_27 rfl (lv_at hl 0 rfl) ?_
    refine va_sld hx hb hX0 hbl hbA hS (vp_in_nI (by omega) (by decide)) dL_law_28 ?_
    refine lv_topi (fun f3 ef3 => ?_)
    obtain rfl : f3 = 0 := ef3.trans (by rw [nI_clamp (by omega)]; exact scf_0 (by omega))
    refine lv_bipush (v := 63) hx hb dL_law_29 (by decide) ?_
    refine lv_iand hx hb dL_law_31 ?_
    refine lv_topi (fun f4 ef4 => ?_)
    obtain rfl : f4 = 0 := ef4.trans (by decide)
    refine lv_tableIn (tgt := 184) hx hb dL_law_32 (by decide) (by decide) (off := 152) (by decide) (by decide) ?_
    refine lv_aload_n hx hb dL_law_184 rfl (lv_at hl 2 rfl) ?_
    refine lv_aload_n hx hb dL_law_185 rfl (lv_at hl 3 rfl) ?_
    refine lv_iload_n hx hb dL_law_186 rfl (lv_at hl 0 rfl) ?_
    refine lv_iconst (v := 1) hx hb dL_law_187 (by decide) ?_
    refine lv_iadd hx hb dL_law_188 ?_
    refine lv_topi (fun f184 ef184 => ?_)
    obtain rfl : f184 = nI (5 * t + 1) := ef184.trans (nI_1 _)
    refine va_sld hx hb hX0 hbl hbA hS (vp_in_nI (by omega) (by decide)) dL_law_189 ?_
    refine lv_topi (fun g184 eg184 => ?_)
    obtain rfl : g184 = 0 := eg184.trans (by rw [nI_clamp (by omega)]; exact scf_0 (by omega))
    have hPc := hP.sub (ws' := [(x, .inr (10, [.ref cd, .int (nI t), .ref rd, .int 0, .ref tp, .ref fo, .int 10, .ref qu, .int 0, .int 0, .ref sh, .ref vs, .ref pa, .ref pb])), (cd, .inl (kC, 24, .inr (.inr (.inr (.inr fc)))))]) [0, 1] rfl
    have hDc := hD.sub (ws' := [(x, .inr (10, [.ref cd, .int (nI t), .ref rd, .int 0, .ref tp, .ref fo, .int 10, .ref qu, .int 0, .int 0, .ref sh, .ref vs, .ref pa, .ref pb])), (cd, .inl (kC, 24, .inr (.inr (.inr (.inr fc)))))]) [0, 1] (by decide) rfl
    have hKc := hK.sub (tys' := [(kC, .object "ExamHalls$Candidate")]) [0] rfl
    have hFc := va_free (wc := [(x, .inr (10, [.ref cd, .int (nI t), .ref rd, .int 0, .ref tp, .ref fo, .int 10, .ref qu, .int 0, .int 0, .ref sh, .ref vs, .ref pa, .ref pb])), (cd, .inl (kC, 24, .inr (.inr (.inr (.inr fc)))))]) hD hS hA [0, 1] rfl
    refine va_calli (va_runV (As := [.int 0]) (rest := []) ⟨hx, hb, hml, hown, hts⟩ (c_R_Xcand l dC dI x cd rd tp fo qu sh vs pa pb kC fc (nI t) H.size (nI_pos (by omega)) (show nI t < nI 24 from nI_lt (by omega) (by decide)) (vp_in_nI (by omega) (by decide))) (cwV 1 hts gL_law_X5_candidate rfl rfl rfl (by decide +kernel) ⟨Nat.le_of_ble_eq_true rfl, Nat.le_of_ble_eq_true rfl⟩) ⟨PQ_blind, va_recv hK hP (ci := 10) (q0 := 0) rfl rfl, PQ_pre hPc hKc hDc hF⟩ rfl rfl hl.1 rfl (lv_room (Nat.le_of_ble_eq_true rfl)) dL_law_190 ⟨by show _ ≤ 840000; omega, by show _ ≤ 4000000; omega⟩) hS (fun q _ h => hFc q h) hFc (fun r_1 u T9 H1 locs ht hvm hw hB hz1 hk1 hS => ?_)
    obtain ⟨q_2, g1_3, g2_4, g3_5, kg_6, fd_7, hP1, hK1, hD1, hx_8⟩ := hB
    rw [ht] at hP1
    have hK1 := va_K.moved hvm.symm hK1
    obtain ⟨hP, hD⟩ := va_joinQ (pl := FL) (wr := [(mx, .inr (14, [.ref lc, .ref lr, .ref kn, .ref lt, .ref ml, .ref mm, .ref lp, .ref lb, .ref mq, .int 1, .int 10, .int 0, .int 0])), (lc, .inr (4, [.int hm, .ref ed, .int (nI t)])), (ed, .inl (kO, 10, .inr (.inr (.inr (.inr fa)))))]) (w1 := [(x, .inr (10, [.ref cd, .int ((nI t) + 1), .ref rd, .int 0, .ref tp, .ref fo, .int 10, .ref qu, .int 0, .int 0, .ref sh, .ref vs, .ref pa, .ref pb])), (cd, .inl (kC, 24, .inr (.inr (.inr (.inr fd_7))))), (q_2, .inr (5, [.int 0, .null, .int (-1), .int (-1), .int 0, .int 0, .ref g1_3, .ref g2_4, .ref g3_5, .int 0])), (g1_3, .inl (kg_6, 8, .inl (fun _ => 0)))]) hP hD [0, 1] [2, 3, 4] rfl rfl (by decide) (by decide) hk1 hFc hP1 hD1
    have hK := hK.app hK1
    generalize H1 = H at hP hS ⊢
    have hP : va_P (dC, dI) vwCl ([(mx, .inr (14, [.ref lc, .ref lr, .ref kn, .ref lt, .ref ml, .ref mm, .ref lp, .ref lb, .ref mq, .int 1, .int 10, .int 0, .int 0])), (lc, .inr (4, [.int hm, .ref ed, .int (nI t)])), (ed, .inl (kO, 10, .inr (.inr (.inr (.inr fa))))), (x, .inr (10, [.ref cd, .int ((nI t) + 1), .ref rd, .int 0, .ref tp, .ref fo, .int 10, .ref qu, .int 0, .int 0, .ref sh, .ref vs, .ref pa, .ref pb])), (cd, .inl (kC, 24, .inr (.inr (.inr (.inr fd_7))))), (q_2, .inr (5, [.int 0, .null, .int (-1), .int (-1), .int 0, .int 0, .ref g1_3, .ref g2_4, .ref g3_5, .int 0])), (g1_3, .inl (kg_6, 8, .inl (fun _ => 0)))] ++ FL) H := hP
    have hD : va_D A ([(mx, .inr (14, [.ref lc, .ref lr, .ref kn, .ref lt, .ref ml, .ref mm, .ref lp, .ref lb, .ref mq, .int 1, .int 10, .int 0, .int 0])), (lc, .inr (4, [.int hm, .ref ed, .int (nI t)])), (ed, .inl (kO, 10, .inr (.inr (.inr (.inr fa))))), (x, .inr (10, [.ref cd, .int ((nI t) + 1), .ref rd, .int 0, .ref tp, .ref fo, .int 10, .ref qu, .int 0, .int 0, .ref sh, .ref vs, .ref pa, .ref pb])), (cd, .inl (kC, 24, .inr (.inr (.inr (.inr fd_7))))), (q_2, .inr (5, [.int 0, .null, .int (-1), .int (-1), .int 0, .int 0, .ref g1_3, .ref g2_4, .ref g3_5, .int 0])), (g1_3, .inl (kg_6, 8, .inl (fun _ => 0)))] ++ FL) := hD
    have hK : va_K (dC, dI) vwCl [(kC, .object "ExamHalls$Candidate"), (kg, .int), (kO, .object "java/lang/Object"), (kC, .object "ExamHalls$Candidate"), (kg_6, .int)] s := hK
    refine lv_pop hx hb dL_law_193 rfl ?_
    have hkk : kg = kg_6 := kI_one (Vm.Alike.refl _) hK hK (i := 1) (i' := 4) rfl rfl
    subst hkk
    have hP := va_P.part (X := [(mx, .inr (14, [.ref lc, .ref lr, .ref kn, .ref lt, .ref ml, .ref mm, .ref lp, .ref lb, .ref mq, .int 1, .int 10, .int 0, .int 0])), (lc, .inr (4, [.int hm, .ref ed, .int (nI t)])), (ed, .inl (kO, 10, .inr (.inr (.inr (.inr fa))))), (x, .inr (10, [.ref cd, .int ((nI t) + 1), .ref rd, .int 0, .ref tp, .ref fo, .int 10, .ref qu, .int 0, .int 0, .ref sh, .ref vs, .ref pa, .ref pb])), (cd, .inl (kC, 24, .inr (.inr (.inr (.inr fd_7))))), (q_2, .inr (5, [.int 0, .null, .int (-1), .int (-1), .int 0, .int 0, .ref g1_3, .ref g2_4, .ref g3_5, .int 0])), (g1_3, .inl (kg, 8, .inl (fun _ => 0)))]) (cx := [(x, .inr (10, [.ref cd, .int ((nI t) + 1), .ref rd, .int 0, .ref tp, .ref fo, .int 10, .ref qu, .int 0, .int 0, .ref sh, .ref vs, .ref pa, .ref pb])), (cd, .inl (kC, 24, .inr (.inr (.inr (.inr fd_7))))), (mx, .inr (14, [.ref lc, .ref lr, .ref kn, .ref lt, .ref ml, .ref mm, .ref lp, .ref lb, .ref mq, .int 1, .int 10, .int 0, .int 0])), (lc, .inr (4, [.int hm, .ref ed, .int (nI t)])), (ed, .inl (kO, 10, .inr (.inr (.inr (.inr fa))))), (q_2, .inr (5, [.int 0, .null, .int (-1), .int (-1), .int 0, .int 0, .ref g1_3, .ref g2_4, .ref g3_5, .int 0])), (g1_3, .inl (kg, 8, .inl (fun _ => 0)))]) (pl := FL) hP [3, 4, 0, 1, 2, 5, 6] rfl
    have hD := va_D.part (X := [(mx, .inr (14, [.ref lc, .ref lr, .ref kn, .ref lt, .ref ml, .ref mm, .ref lp, .ref lb, .ref mq, .int 1, .int 10, .int 0, .int 0])), (lc, .inr (4, [.int hm, .ref ed, .int (nI t)])), (ed, .inl (kO, 10, .inr (.inr (.inr (.inr fa))))), (x, .inr (10, [.ref cd, .int ((nI t) + 1), .ref rd, .int 0, .ref tp, .ref fo, .int 10, .ref qu, .int 0, .int 0, .ref sh, .ref vs, .ref pa, .ref pb])), (cd, .inl (kC, 24, .inr (.inr (.inr (.inr fd_7))))), (q_2, .inr (5, [.int 0, .null, .int (-1), .int (-1), .int 0, .int 0, .ref g1_3, .ref g2_4, .ref g3_5, .int 0])), (g1_3, .inl (kg, 8, .inl (fun _ => 0)))]) (cx := [(x, .inr (10, [.ref cd, .int ((nI t) + 1), .ref rd, .int 0, .ref tp, .ref fo, .int 10, .ref qu, .int 0, .int 0, .ref sh, .ref vs, .ref pa, .ref pb])), (cd, .inl (kC, 24, .inr (.inr (.inr (.inr fd_7))))), (mx, .inr (14, [.ref lc, .ref lr, .ref kn, .ref lt, .ref ml, .ref mm, .ref lp, .ref lb, .ref mq, .int 1, .int 10, .int 0, .int 0])), (lc, .inr (4, [.int hm, .ref ed, .int (nI t)])), (ed, .inl (kO, 10, .inr (.inr (.inr (.inr fa))))), (q_2, .inr (5, [.int 0, .null, .int (-1), .int (-1), .int 0, .int 0, .ref g1_3, .ref g2_4, .ref g3_5, .int 0])), (g1_3, .inl (kg, 8, .inl (fun _ => 0)))]) (pl := FL) hD [3, 4, 0, 1, 2, 5, 6] (by decide) rfl
    have hP : va_P (dC, dI) vwCl ([(x, .inr (10, [.ref cd, .int ((nI t) + 1), .ref rd, .int 0, .ref tp, .ref fo, .int 10, .ref qu, .int 0, .int 0, .ref sh, .ref vs, .ref pa, .ref pb])), (cd, .inl (kC, 24, .inr (.inr (.inr (.inr fd_7))))), (mx, .inr (14, [.ref lc, .ref lr, .ref kn, .ref lt, .ref ml, .ref mm, .ref lp, .ref lb, .ref mq, .int 1, .int 10, .int 0, .int 0])), (lc, .inr (4, [.int hm, .ref ed, .int (nI t)])), (ed, .inl (kO, 10, .inr (.inr (.inr (.inr fa)))))] ++ ((q_2, .inr (5, [.int 0, .null, .int (-1), .int (-1), .int 0, .int 0, .ref g1_3, .ref g2_4, .ref g3_5, .int 0])) :: (g1_3, .inl (kg, 8, .inl (fun _ => 0))) :: FL)) H := hP
    have hD : va_D A ([(x, .inr (10, [.ref cd, .int ((nI t) + 1), .ref rd, .int 0, .ref tp, .ref fo, .int 10, .ref qu, .int 0, .int 0, .ref sh, .ref vs, .ref pa, .ref pb])), (cd, .inl (kC, 24, .inr (.inr (.inr (.inr fd_7))))), (mx, .inr (14, [.ref lc, .ref lr, .ref kn, .ref lt, .ref ml, .ref mm, .ref lp, .ref lb, .ref mq, .int 1, .int 10, .int 0, .int 0])), (lc, .inr (4, [.int hm, .ref ed, .int (nI t)])), (ed, .inl (kO, 10, .inr (.inr (.inr (.inr fa)))))] ++ ((q_2, .inr (5, [.int 0, .null, .int (-1), .int (-1), .int 0, .int 0, .ref g1_3, .ref g2_4, .ref g3_5, .int 0])) :: (g1_3, .inl (kg, 8, .inl (fun _ => 0))) :: FL)) := hD
    rw [nI_1] at hP hD
    rw [nI_clamp (by omega)] at hx_8
    have hX : XI kg (t + 1) fd_7 ((q_2, .inr (5, [.int 0, .null, .int (-1), .int (-1), .int 0, .int 0, .ref g1_3, .ref g2_4, .ref g3_5, .int 0])) :: (g1_3, .inl (kg, 8, .inl (fun _ => 0))) :: FL) := XI.more (hX.up (fun q h => List.mem_cons_of_mem _ (List.mem_cons_of_mem _ h))) hx_8 List.mem_cons_self (List.mem_cons_of_mem _ List.mem_cons_self)
    replace hM : MI k1 k2 k3 t fa ((q_2, .inr (5, [.int 0, .null, .int (-1), .int (-1), .int 0, .int 0, .ref g1_3, .ref g2_4, .ref g3_5, .int 0])) :: (g1_3, .inl (kg, 8, .inl (fun _ => 0))) :: FL) := hM.up (fun q h => List.mem_cons_of_mem _ (List.mem_cons_of_mem _ h))
    generalize (((q_2, .inr (5, [.int 0, .null, .int (-1), .int (-1), .int 0, .int 0, .ref g1_3, .ref g2_4, .ref g3_5, .int 0])) :: (g1_3, .inl (kg, 8, .inl (fun _ => 0))) :: FL) : va_W) = FL_b at hP hD hX hM
    have hP : va_P (dC, dI) vwCl ([(x, .inr (10, [.ref cd, .int (nI (t + 1)), .ref rd, .int 0, .ref tp, .ref fo, .int 10, .ref qu, .int 0, .int 0, .ref sh, .ref vs, .ref pa, .ref pb])), (cd, .inl (kC, 24, .inr (.inr (.inr (.inr fd_7))))), (mx, .inr (14, [.ref lc, .ref lr, .ref kn, .ref lt, .ref ml, .ref mm, .ref lp, .ref lb, .ref mq, .int 1, .int 10, .int 0, .int 0])), (lc, .inr (4, [.int hm, .ref ed, .int (nI t)])), (ed, .inl (kO, 10, .inr (.inr (.inr (.inr fa)))))] ++ FL_b) H := hP
    have hD : va_D A ([(x, .inr (10, [.ref cd, .int (nI (t + 1)), .ref rd, .int 0, .ref tp, .ref fo, .int 10, .ref qu, .int 0, .int 0, .ref sh, .ref vs, .ref pa, .ref pb])), (cd, .inl (kC, 24, .inr (.inr (.inr (.inr fd_7))))), (mx, .inr (14, [.ref lc, .ref lr, .ref kn, .ref lt, .ref ml, .ref mm, .ref lp, .ref lb, .ref mq, .int 1, .int 10, .int 0, .int 0])), (lc, .inr (4, [.int hm, .ref ed, .int (nI t)])), (ed, .inl (kO, 10, .inr (.inr (.inr (.inr fa)))))] ++ FL_b) := hD
    have hK := hK.sub (tys' := [(kC, .object "ExamHalls$Candidate"), (kg, .int), (kO, .object "java/lang/Object")]) [0, 1, 2] rfl
    refine lv_aload_n hx hb dL_law_194 rfl (lv_at hl 1 rfl) ?_
    refine lv_aload_n hx hb dL_law_195 rfl (lv_at hl 3 rfl) ?_
    refine lv_iload_n hx hb dL_law_196 rfl (lv_at hl 0 rfl) ?_
    refine lv_iconst (v := 1) hx hb dL_law_197 (by decide) ?_
    refine lv_iadd hx hb dL_law_198 ?_
    refine lv_topi (fun f194 ef194 => ?_)
    obtain rfl : f194 = nI (5 * t + 1) := ef194.trans (nI_1 _)
    refine va_sld hx hb hX0 hbl hbA hS (vp_in_nI (by omega) (by decide)) dL_law_199 ?_
    refine lv_topi (fun g194 eg194 => ?_)
    obtain rfl : g194 = 0 := eg194.trans (by rw [nI_clamp (by omega)]; exact scf_0 (by omega))
    have hPc := hP.sub (ws' := [(mx, .inr (14, [.ref lc, .ref lr, .ref kn, .ref lt, .ref ml, .ref mm, .ref lp, .ref lb, .ref mq, .int 1, .int 10, .int 0, .int 0])), (lc, .inr (4, [.int hm, .ref ed, .int (nI t)])), (ed, .inl (kO, 10, .inr (.inr (.inr (.inr fa)))))]) [2, 3, 4] rfl
    have hDc := hD.sub (ws' := [(mx, .inr (14, [.ref lc, .ref lr, .ref kn, .ref lt, .ref ml, .ref mm, .ref lp, .ref lb, .ref mq, .int 1, .int 10, .int 0, .int 0])), (lc, .inr (4, [.int hm, .ref ed, .int (nI t)])), (ed, .inl (kO, 10, .inr (.inr (.inr (.inr fa)))))]) [2, 3, 4] (by decide) rfl
    have hKc := hK.sub (tys' := [(kO, .object "java/lang/Object")]) [2] rfl
    have hFc := va_free (wc := [(mx, .inr (14, [.ref lc, .ref lr, .ref kn, .ref lt, .ref ml, .ref mm, .ref lp, .ref lb, .ref mq, .int 1, .int 10, .int 0, .int 0])), (lc, .inr (4, [.int hm, .ref ed, .int (nI t)])), (ed, .inl (kO, 10, .inr (.inr (.inr (.inr fa)))))]) hD hS hA [2, 3, 4] rfl
    refine va_calli (va_runV (As := [.int 0]) (rest := []) ⟨hx, hb, hml, hown, hts⟩ (c_R_Mcand l dC dI d tc ad mx lc lr kn lt ml mm lp lb mq hm ed (nI t) kO fa H.size (vp_in_nI (by omega) (by decide)) (fun h9 => absurd ((nI_eq (by omega) (by decide)).mp (show nI t = nI 10 from h9)) (by omega)) (fun h9 => absurd ((nI_eq (by omega) (by decide)).mp (show nI t = nI 24 from h9)) (by omega))) (cwV 1 hts gL_law_X9_candidate rfl rfl rfl (by decide +kernel) ⟨Nat.le_of_ble_eq_true rfl, Nat.le_of_ble_eq_true rfl⟩) ⟨PZ_blind, va_recv hK hP (ci := 14) (q0 := 2) rfl rfl, PZ_pre hPc hKc hDc hF hZ hS hFc⟩ rfl rfl hl.1 rfl (lv_room (Nat.le_of_ble_eq_true rfl)) dL_law_200 ⟨by show _ ≤ 840000; omega, by show _ ≤ 4000000; omega⟩) hS (fun q _ h => hFc q h) hFc (fun r_9 u T9 H1 locs ht hvm hw hB hz1 hk1 hS => ?_)
    obtain ⟨q_10, sn_11, rd_12, L_13, k1_14, k2_15, k3_16, hm_17, fb_18, hP1, hK1, hD1, hx_19, hx_20, hx_21⟩ := hB
    rw [ht] at hP1
    have hK1 := va_K.moved hvm.symm hK1
    obtain ⟨hP, hD⟩ := va_joinQ (pl := FL_b) (wr := [(x, .inr (10, [.ref cd, .int (nI (t + 1)), .ref rd, .int 0, .ref tp, .ref fo, .int 10, .ref qu, .int 0, .int 0, .ref sh, .ref vs, .ref pa, .ref pb])), (cd, .inl (kC, 24, .inr (.inr (.inr (.inr fd_7)))))]) (w1 := [(mx, .inr (14, [.ref lc, .ref lr, .ref kn, .ref lt, .ref ml, .ref mm, .ref lp, .ref lb, .ref mq, .int 1, .int 10, .int 0, .int 0])), (lc, .inr (4, [.int hm_17, .ref ed, .int ((nI t) + 1)])), (ed, .inl (kO, 10, .inr (.inr (.inr (.inr fb_18))))), (q_10, .inr (11, [.int 0, .null, .int (-1), .int (-1), .int 0, .ref sn_11, .ref rd_12]))] ++ L_13) hP hD [2, 3, 4] [0, 1] rfl rfl (by decide) (by decide) hk1 hFc hP1 hD1
    have hK := hK.app hK1
    generalize H1 = H at hP hS ⊢
    have hP : va_P (dC, dI) vwCl (([(x, .inr (10, [.ref cd, .int (nI (t + 1)), .ref rd, .int 0, .ref tp, .ref fo, .int 10, .ref qu, .int 0, .int 0, .ref sh, .ref vs, .ref pa, .ref pb])), (cd, .inl (kC, 24, .inr (.inr (.inr (.inr fd_7))))), (mx, .inr (14, [.ref lc, .ref lr, .ref kn, .ref lt, .ref ml, .ref mm, .ref lp, .ref lb, .ref mq, .int 1, .int 10, .int 0, .int 0])), (lc, .inr (4, [.int hm_17, .ref ed, .int ((nI t) + 1)])), (ed, .inl (kO, 10, .inr (.inr (.inr (.inr fb_18))))), (q_10, .inr (11, [.int 0, .null, .int (-1), .int (-1), .int 0, .ref sn_11, .ref rd_12]))] ++ L_13) ++ FL_b) H := hP
    have hD : va_D A (([(x, .inr (10, [.ref cd, .int (nI (t + 1)), .ref rd, .int 0, .ref tp, .ref fo, .int 10, .ref qu, .int 0, .int 0, .ref sh, .ref vs, .ref pa, .ref pb])), (cd, .inl (kC, 24, .inr (.inr (.inr (.inr fd_7))))), (mx, .inr (14, [.ref lc, .ref lr, .ref kn, .ref lt, .ref ml, .ref mm, .ref lp, .ref lb, .ref mq, .int 1, .int 10, .int 0, .int 0])), (lc, .inr (4, [.int hm_17, .ref ed, .int ((nI t) + 1)])), (ed, .inl (kO, 10, .inr (.inr (.inr (.inr fb_18))))), (q_10, .inr (11, [.int 0, .null, .int (-1), .int (-1), .int 0, .ref sn_11, .ref rd_12]))] ++ L_13) ++ FL_b) := hD
    have hK : va_K (dC, dI) vwCl [(kC, .object "ExamHalls$Candidate"), (kg, .int), (kO, .object "java/lang/Object"), (kO, .object "java/lang/Object")] s := hK
    rw [List.append_assoc] at hP hD
    have hP : va_P (dC, dI) vwCl ([(x, .inr (10, [.ref cd, .int (nI (t + 1)), .ref rd, .int 0, .ref tp, .ref fo, .int 10, .ref qu, .int 0, .int 0, .ref sh, .ref vs, .ref pa, .ref pb])), (cd, .inl (kC, 24, .inr (.inr (.inr (.inr fd_7))))), (mx, .inr (14, [.ref lc, .ref lr, .ref kn, .ref lt, .ref ml, .ref mm, .ref lp, .ref lb, .ref mq, .int 1, .int 10, .int 0, .int 0])), (lc, .inr (4, [.int hm_17, .ref ed, .int ((nI t) + 1)])), (ed, .inl (kO, 10, .inr (.inr (.inr (.inr fb_18))))), (q_10, .inr (11, [.int 0, .null, .int (-1), .int (-1), .int 0, .ref sn_11, .ref rd_12]))] ++ (L_13 ++ FL_b)) H := hP
    have hD : va_D A ([(x, .inr (10, [.ref cd, .int (nI (t + 1)), .ref rd, .int 0, .ref tp, .ref fo, .int 10, .ref qu, .int 0, .int 0, .ref sh, .ref vs, .ref pa, .ref pb])), (cd, .inl (kC, 24, .inr (.inr (.inr (.inr fd_7))))), (mx, .inr (14, [.ref lc, .ref lr, .ref kn, .ref lt, .ref ml, .ref mm, .ref lp, .ref lb, .ref mq, .int 1, .int 10, .int 0, .int 0])), (lc, .inr (4, [.int hm_17, .ref ed, .int ((nI t) + 1)])), (ed, .inl (kO, 10, .inr (.inr (.inr (.inr fb_18))))), (q_10, .inr (11, [.int 0, .null, .int (-1), .int (-1), .int 0, .ref sn_11, .ref rd_12]))] ++ (L_13 ++ FL_b)) := hD
    have hz1 := Kz.moved hvm.symm hx_19
    obtain ⟨e1, e2, e3⟩ := Kz.one hz hz1
    subst e1 e2 e3
    have hP := va_P.part (X := [(x, .inr (10, [.ref cd, .int (nI (t + 1)), .ref rd, .int 0, .ref tp, .ref fo, .int 10, .ref qu, .int 0, .int 0, .ref sh, .ref vs, .ref pa, .ref pb])), (cd, .inl (kC, 24, .inr (.inr (.inr (.inr fd_7))))), (mx, .inr (14, [.ref lc, .ref lr, .ref kn, .ref lt, .ref ml, .ref mm, .ref lp, .ref lb, .ref mq, .int 1, .int 10, .int 0, .int 0])), (lc, .inr (4, [.int hm_17, .ref ed, .int ((nI t) + 1)])), (ed, .inl (kO, 10, .inr (.inr (.inr (.inr fb_18))))), (q_10, .inr (11, [.int 0, .null, .int (-1), .int (-1), .int 0, .ref sn_11, .ref rd_12]))]) (cx := [(x, .inr (10, [.ref cd, .int (nI (t + 1)), .ref rd, .int 0, .ref tp, .ref fo, .int 10, .ref qu, .int 0, .int 0, .ref sh, .ref vs, .ref pa, .ref pb])), (cd, .inl (kC, 24, .inr (.inr (.inr (.inr fd_7))))), (mx, .inr (14, [.ref lc, .ref lr, .ref kn, .ref lt, .ref ml, .ref mm, .ref lp, .ref lb, .ref mq, .int 1, .int 10, .int 0, .int 0])), (lc, .inr (4, [.int hm_17, .ref ed, .int ((nI t) + 1)])), (ed, .inl (kO, 10, .inr (.inr (.inr (.inr fb_18))))), (q_10, .inr (11, [.int 0, .null, .int (-1), .int (-1), .int 0, .ref sn_11, .ref rd_12]))]) (pl := (L_13 ++ FL_b)) hP [0, 1, 2, 3, 4, 5] rfl
    have hD := va_D.part (X := [(x, .inr (10, [.ref cd, .int (nI (t + 1)), .ref rd, .int 0, .ref tp, .ref fo, .int 10, .ref qu, .int 0, .int 0, .ref sh, .ref vs, .ref pa, .ref pb])), (cd, .inl (kC, 24, .inr (.inr (.inr (.inr fd_7))))), (mx, .inr (14, [.ref lc, .ref lr, .ref kn, .ref lt, .ref ml, .ref mm, .ref lp, .ref lb, .ref mq, .int 1, .int 10, .int 0, .int 0])), (lc, .inr (4, [.int hm_17, .ref ed, .int ((nI t) + 1)])), (ed, .inl (kO, 10, .inr (.inr (.inr (.inr fb_18))))), (q_10, .inr (11, [.int 0, .null, .int (-1), .int (-1), .int 0, .ref sn_11, .ref rd_12]))]) (cx := [(x, .inr (10, [.ref cd, .int (nI (t + 1)), .ref rd, .int 0, .ref tp, .ref fo, .int 10, .ref qu, .int 0, .int 0, .ref sh, .ref vs, .ref pa, .ref pb])), (cd, .inl (kC, 24, .inr (.inr (.inr (.inr fd_7))))), (mx, .inr (14, [.ref lc, .ref lr, .ref kn, .ref lt, .ref ml, .ref mm, .ref lp, .ref lb, .ref mq, .int 1, .int 10, .int 0, .int 0])), (lc, .inr (4, [.int hm_17, .ref ed, .int ((nI t) + 1)])), (ed, .inl (kO, 10, .inr (.inr (.inr (.inr fb_18))))), (q_10, .inr (11, [.int 0, .null, .int (-1), .int (-1), .int 0, .ref sn_11, .ref rd_12]))]) (pl := (L_13 ++ FL_b)) hD [0, 1, 2, 3, 4, 5] (by decide) rfl
    have hP : va_P (dC, dI) vwCl ([(x, .inr (10, [.ref cd, .int (nI (t + 1)), .ref rd, .int 0, .ref tp, .ref fo, .int 10, .ref qu, .int 0, .int 0, .ref sh, .ref vs, .ref pa, .ref pb])), (cd, .inl (kC, 24, .inr (.inr (.inr (.inr fd_7))))), (mx, .inr (14, [.ref lc, .ref lr, .ref kn, .ref lt, .ref ml, .ref mm, .ref lp, .ref lb, .ref mq, .int 1, .int 10, .int 0, .int 0])), (lc, .inr (4, [.int hm_17, .ref ed, .int ((nI t) + 1)])), (ed, .inl (kO, 10, .inr (.inr (.inr (.inr fb_18)))))] ++ ((q_10, .inr (11, [.int 0, .null, .int (-1), .int (-1), .int 0, .ref sn_11, .ref rd_12])) :: (L_13 ++ FL_b))) H := hP
    have hD : va_D A ([(x, .inr (10, [.ref cd, .int (nI (t + 1)), .ref rd, .int 0, .ref tp, .ref fo, .int 10, .ref qu, .int 0, .int 0, .ref sh, .ref vs, .ref pa, .ref pb])), (cd, .inl (kC, 24, .inr (.inr (.inr (.inr fd_7))))), (mx, .inr (14, [.ref lc, .ref lr, .ref kn, .ref lt, .ref ml, .ref mm, .ref lp, .ref lb, .ref mq, .int 1, .int 10, .int 0, .int 0])), (lc, .inr (4, [.int hm_17, .ref ed, .int ((nI t) + 1)])), (ed, .inl (kO, 10, .inr (.inr (.inr (.inr fb_18)))))] ++ ((q_10, .inr (11, [.int 0, .null, .int (-1), .int (-1), .int 0, .ref sn_11, .ref rd_12])) :: (L_13 ++ FL_b))) := hD
    rw [nI_1] at hP hD
    rw [nI_clamp (by omega)] at hx_21
    have hM : MI k1 k2 k3 (t + 1) fb_18 ((q_10, .inr (11, [.int 0, .null, .int (-1), .int (-1), .int 0, .ref sn_11, .ref rd_12])) :: (L_13 ++ FL_b)) := MI.more (hM.up (fun q h => List.mem_cons_of_mem _ (List.mem_append_right _ h))) hx_21 List.mem_cons_self (mn_s_up (mn_s_up mn_1_up) _ _ _ (fun q h => List.mem_cons_of_mem _ (List.mem_append_left _ h)) hx_20)
    replace hX := hX.up (L' := ((q_10, .inr (11, [.int 0, .null, .int (-1), .int (-1), .int 0, .ref sn_11, .ref rd_12])) :: (L_13 ++ FL_b))) (fun q h => List.mem_cons_of_mem _ (List.mem_append_right _ h))
    generalize (((q_10, .inr (11, [.int 0, .null, .int (-1), .int (-1), .int 0, .ref sn_11, .ref rd_12])) :: (L_13 ++ FL_b)) : va_W) = FL_d at hP hD hX hM
    have hK := hK.sub (tys' := [(kC, .object "ExamHalls$Candidate"), (kg, .int), (kO, .object "java/lang/Object")]) [0, 1, 2] rfl
    refine lv_pop hx hb dL_law_203 rfl ?_
    refine lv_goto (tgt := 1216) hx hb dL_law_204 (by decide) ?_
    refine lv_iinc (v := nI (5 * t) + 5) (lv' := [(3, .int (nI (5 * t) + 5)), (2, .ref mx), (1, .ref x), (0, .ref b)]) hx hb dL_law_1216 hl (k := 0) rfl rfl (by decide) rfl (fun ls hl => ?_)
    refine lv_goto (tgt := 18) hx hb dL_law_1219 (by decide) ?_
    have e5 : nI (5 * t) + 5 = nI (5 * (t + 1)) := nI_add (5 * t) 5
    rw [e5] at hl
    refine W.widen (k := 100 + 48 * (t + 1)) (n := 1300 + 210 * (t + 1)) (by omega) (by omega) ?_
    exact ih (t + 1) _ _ _ _ H locs ls (by omega) (by omega) hX hM hP hD hS hl

set_option maxHeartbeats 4000000 in
set_option maxRecDepth 100000 in
theorem law_first {p : Program} {l : Launch} {e : Env} {s : State} {m : MethodId} {below : List Frame} {meth : Method} {c : Code} {dC : Nat → ClassId} {dI : Nat → Nat → Nat} {b : Nat} {A : Nat → Prop} {d tc : Nat} {ad : Nat → Nat} {x cd rd tp fo qu sh vs pa pb mx lc lr kn lt ml mm lp lb mq : Nat} {kC k1 k2 k3 : ClassId} (C0 : lw_At p s m meth c b 2310 scf) (hbA : ¬ A b) (hA : ∀ q, s.heap.size ≤ q → A q) (hAs : ∀ q, A q → s.heap.size ≤ q) (hF : Ft s) (hZ : Zt d tc ad A s s.heap) (hz : Kz k1 k2 k3 s) {H : Heap} {locs : List Loc} {ls : Array Slot} (hK : va_K (dC, dI) vwCl [(kC, .object "ExamHalls$Candidate")] s) (hP : va_P (dC, dI) vwCl [(x, .inr (10, [.ref cd, .int 0, .ref rd, .int 0, .ref tp, .ref fo, .int 10, .ref qu, .int 0, .int 0, .ref sh, .ref vs, .ref pa, .ref pb])), (cd, .inl (kC, 24, .inr (.inr (.inr (.inr (fun _ => none)))))), (mx, .inr (14, [.ref lc, .ref lr, .ref kn, .ref lt, .ref ml, .ref mm, .ref lp, .ref lb, .ref mq, .int 1, .int 10, .int 0, .int 0])), (lc, .inr (4, [.int 0, .ref d, .int 0]))] H) (hD : va_D A [(x, .inr (10, [.ref cd, .int 0, .ref rd, .int 0, .ref tp, .ref fo, .int 10, .ref qu, .int 0, .int 0, .ref sh, .ref vs, .ref pa, .ref pb])), (cd, .inl (kC, 24, .inr (.inr (.inr (.inr (fun _ => none)))))), (mx, .inr (14, [.ref lc, .ref lr, .ref kn, .ref lt, .ref ml, .ref mm, .ref lp, .ref lb, .ref mq, .int 1, .int 10, .int 0, .int 0])), (lc, .inr (4, [.int 0, .ref d, .int 0]))]) (hS : va_S A s.heap H locs) (hl : lv_has ls 4 [(3, .int 0), (2, .ref mx), (1, .ref x), (0, .ref b)]) : W p l e bigR s m #[Value.ref b] below meth c H locs (50) (1070) (lw_Z below #[Value.ref b] s) (F0 m 18 ls []) := by
  obtain ⟨hx, hb, hr, hml, hown, hts, hX0, hbl, hlocks, hgv⟩ := id C0
  have hl : lv_has ls 4 [(3, .int (nI (5 * 0))), (2, .ref mx), (1, .ref x), (0, .ref b)] := hl
  refine lv_iload_n hx hb dL_law_18 rfl (lv_at hl 0 rfl) ?_
  refine lv_aload_n hx hb dL_law_19 rfl (lv_at hl 3 rfl) ?_
  refine va_slen hx hb hX0 hbl hbA hS dL_law_20 ?_
  refine lv_topi (fun f1 ef1 => ?_)
  obtain rfl : f1 = 2310 := ef1.trans (by decide)
  refine lv_iconst (v := 5) hx hb dL_law_21 (by decide) ?_
  refine lv_isub hx hb dL_law_22 ?_
  refine lv_topi (fun f2 ef2 => ?_)
  obtain rfl : f2 = 2305 := ef2.trans (by decide)
  refine lv_icmp_gt (tgt := 1222) hx hb dL_law_23 (by decide) (fun c9 => absurd c9 (show ¬ nI 2305 < nI (5 * 0) from nI_nlt (by omega) (by decide))) (fun _ => ?_)
  refine lv_aload_n hx hb dL_law_26 rfl (lv_at hl 3 rfl) ?_
  refine lv_iload_n hx hb dL_law_27 rfl (lv_at hl 0 rfl) ?_
  refine va_sld hx hb hX0 hbl hbA hS (vp_in_nI (by omega) (by decide)) dL_law_28 ?_
  refine lv_topi (fun f3 ef3 => ?_)
  obtain rfl : f3 = 0 := ef3.trans (by rw [nI_clamp (by omega)]; exact scf_0 (by omega))
  refine lv_bipush (v := 63) hx hb dL_law_29 (by decide) ?_
  refine lv_iand hx hb dL_law_31 ?_
  refine lv_topi (fun f4 ef4 => ?_)
  obtain rfl : f4 = 0 := ef4.trans (by decide)
  refine lv_tableIn (tgt := 184) hx hb dL_law_32 (by decide) (by decide) (off := 152) (by decide) (by decide) ?_
  refine lv_aload_n hx hb dL_law_184 rfl (lv_at hl 2 rfl) ?_
  refine lv_aload_n hx hb dL_law_185 rfl (lv_at hl 3 rfl) ?_
  refine lv_iload_n hx hb dL_law_186 rfl (lv_at hl 0 rfl) ?_
  refine lv_iconst (v := 1) hx hb dL_law_187 (by decide) ?_
  refine lv_iadd hx hb dL_law_188 ?_
  refine lv_topi (fun f184 ef184 => ?_)
  obtain rfl : f184 = nI (5 * 0 + 1) := ef184.trans (nI_1 _)
  refine va_sld hx hb hX0 hbl hbA hS (vp_in_nI (by omega) (by decide)) dL_law_189 ?_
  refine lv_topi (fun g184 eg184 => ?_)
  obtain rfl : g184 = 0 := eg184.trans (by rw [nI_clamp (by omega)]; exact scf_0 (by omega))
  have hPc := hP.sub (ws' := [(x, .inr (10, [.ref cd, .int 0, .ref rd, .int 0, .ref tp, .ref fo, .int 10, .ref qu, .int 0, .int 0, .ref sh, .ref vs, .ref pa, .ref pb])), (cd, .inl (kC, 24, .inr (.inr (.inr (.inr (fun _ => none))))))]) [0, 1] rfl
  have hDc := hD.sub (ws' := [(x, .inr (10, [.ref cd, .int 0, .ref rd, .int 0, .ref tp, .ref fo, .int 10, .ref qu, .int 0, .int 0, .ref sh, .ref vs, .ref pa, .ref pb])), (cd, .inl (kC, 24, .inr (.inr (.inr (.inr (fun _ => none))))))]) [0, 1] (by decide) rfl
  have hKc := hK.sub (tys' := [(kC, .object "ExamHalls$Candidate")]) [0] rfl
  have hFc := va_free (wc := [(x, .inr (10, [.ref cd, .int 0, .ref rd, .int 0, .ref tp, .ref fo, .int 10, .ref qu, .int 0, .int 0, .ref sh, .ref vs, .ref pa, .ref pb])), (cd, .inl (kC, 24, .inr (.inr (.inr (.inr (fun _ => none))))))]) hD hS hA [0, 1] rfl
  refine va_calli (va_runV (As := [.int 0]) (rest := []) ⟨hx, hb, hml, hown, hts⟩ (c_R_Xcand l dC dI x cd rd tp fo qu sh vs pa pb kC (fun _ => none) 0 H.size (by decide) (by decide) (by unfold vp_in; decide)) (cwV 1 hts gL_law_X5_candidate rfl rfl rfl (by decide +kernel) ⟨Nat.le_of_ble_eq_true rfl, Nat.le_of_ble_eq_true rfl⟩) ⟨PQ_blind, va_recv hK hP (ci := 10) (q0 := 0) rfl rfl, PQ_pre hPc hKc hDc hF⟩ rfl rfl hl.1 rfl (lv_room (Nat.le_of_ble_eq_true rfl)) dL_law_190 ⟨by show _ ≤ 840000; omega, by show _ ≤ 4000000; omega⟩) hS (fun q _ h => hFc q h) hFc (fun r_1 u T9 H1 locs ht hvm hw hB hz1 hk1 hS => ?_)
  obtain ⟨q_2, g1_3, g2_4, g3_5, kg_6, fd_7, hP1, hK1, hD1, hx_8⟩ := hB
  rw [ht] at hP1
  have hK1 := va_K.moved hvm.symm hK1
  obtain ⟨hP, hD⟩ := va_join (wr := [(mx, .inr (14, [.ref lc, .ref lr, .ref kn, .ref lt, .ref ml, .ref mm, .ref lp, .ref lb, .ref mq, .int 1, .int 10, .int 0, .int 0])), (lc, .inr (4, [.int 0, .ref d, .int 0]))]) (w1 := [(x, .inr (10, [.ref cd, .int (0 + 1), .ref rd, .int 0, .ref tp, .ref fo, .int 10, .ref qu, .int 0, .int 0, .ref sh, .ref vs, .ref pa, .ref pb])), (cd, .inl (kC, 24, .inr (.inr (.inr (.inr fd_7))))), (q_2, .inr (5, [.int 0, .null, .int (-1), .int (-1), .int 0, .int 0, .ref g1_3, .ref g2_4, .ref g3_5, .int 0])), (g1_3, .inl (kg_6, 8, .inl (fun _ => 0)))]) hP hD [0, 1] [2, 3] rfl rfl (by decide) (by decide) hk1 hFc hP1 hD1
  have hK := hK.app hK1
  generalize H1 = H at hP hS ⊢
  have hP : va_P (dC, dI) vwCl [(mx, .inr (14, [.ref lc, .ref lr, .ref kn, .ref lt, .ref ml, .ref mm, .ref lp, .ref lb, .ref mq, .int 1, .int 10, .int 0, .int 0])), (lc, .inr (4, [.int 0, .ref d, .int 0])), (x, .inr (10, [.ref cd, .int (0 + 1), .ref rd, .int 0, .ref tp, .ref fo, .int 10, .ref qu, .int 0, .int 0, .ref sh, .ref vs, .ref pa, .ref pb])), (cd, .inl (kC, 24, .inr (.inr (.inr (.inr fd_7))))), (q_2, .inr (5, [.int 0, .null, .int (-1), .int (-1), .int 0, .int 0, .ref g1_3, .ref g2_4, .ref g3_5, .int 0])), (g1_3, .inl (kg_6, 8, .inl (fun _ => 0)))] H := hP
  have hD : va_D A [(mx, .inr (14, [.ref lc, .ref lr, .ref kn, .ref lt, .ref ml, .ref mm, .ref lp, .ref lb, .ref mq, .int 1, .int 10, .int 0, .int 0])), (lc, .inr (4, [.int 0, .ref d, .int 0])), (x, .inr (10, [.ref cd, .int (0 + 1), .ref rd, .int 0, .ref tp, .ref fo, .int 10, .ref qu, .int 0, .int 0, .ref sh, .ref vs, .ref pa, .ref pb])), (cd, .inl (kC, 24, .inr (.inr (.inr (.inr fd_7))))), (q_2, .inr (5, [.int 0, .null, .int (-1), .int (-1), .int 0, .int 0, .ref g1_3, .ref g2_4, .ref g3_5, .int 0])), (g1_3, .inl (kg_6, 8, .inl (fun _ => 0)))] := hD
  have hK : va_K (dC, dI) vwCl [(kC, .object "ExamHalls$Candidate"), (kC, .object "ExamHalls$Candidate"), (kg_6, .int)] s := hK
  refine lv_pop hx hb dL_law_193 rfl ?_
  have hP := hP.sub (ws' := [(x, .inr (10, [.ref cd, .int (0 + 1), .ref rd, .int 0, .ref tp, .ref fo, .int 10, .ref qu, .int 0, .int 0, .ref sh, .ref vs, .ref pa, .ref pb])), (cd, .inl (kC, 24, .inr (.inr (.inr (.inr fd_7))))), (mx, .inr (14, [.ref lc, .ref lr, .ref kn, .ref lt, .ref ml, .ref mm, .ref lp, .ref lb, .ref mq, .int 1, .int 10, .int 0, .int 0])), (lc, .inr (4, [.int 0, .ref d, .int 0])), (q_2, .inr (5, [.int 0, .null, .int (-1), .int (-1), .int 0, .int 0, .ref g1_3, .ref g2_4, .ref g3_5, .int 0])), (g1_3, .inl (kg_6, 8, .inl (fun _ => 0)))]) [2, 3, 0, 1, 4, 5] rfl
  have hD := hD.sub (ws' := [(x, .inr (10, [.ref cd, .int (0 + 1), .ref rd, .int 0, .ref tp, .ref fo, .int 10, .ref qu, .int 0, .int 0, .ref sh, .ref vs, .ref pa, .ref pb])), (cd, .inl (kC, 24, .inr (.inr (.inr (.inr fd_7))))), (mx, .inr (14, [.ref lc, .ref lr, .ref kn, .ref lt, .ref ml, .ref mm, .ref lp, .ref lb, .ref mq, .int 1, .int 10, .int 0, .int 0])), (lc, .inr (4, [.int 0, .ref d, .int 0])), (q_2, .inr (5, [.int 0, .null, .int (-1), .int (-1), .int 0, .int 0, .ref g1_3, .ref g2_4, .ref g3_5, .int 0])), (g1_3, .inl (kg_6, 8, .inl (fun _ => 0)))]) [2, 3, 0, 1, 4, 5] (by decide) rfl
  have hP : va_P (dC, dI) vwCl ([(x, .inr (10, [.ref cd, .int (0 + 1), .ref rd, .int 0, .ref tp, .ref fo, .int 10, .ref qu, .int 0, .int 0, .ref sh, .ref vs, .ref pa, .ref pb])), (cd, .inl (kC, 24, .inr (.inr (.inr (.inr fd_7))))), (mx, .inr (14, [.ref lc, .ref lr, .ref kn, .ref lt, .ref ml, .ref mm, .ref lp, .ref lb, .ref mq, .int 1, .int 10, .int 0, .int 0])), (lc, .inr (4, [.int 0, .ref d, .int 0]))] ++ ((q_2, .inr (5, [.int 0, .null, .int (-1), .int (-1), .int 0, .int 0, .ref g1_3, .ref g2_4, .ref g3_5, .int 0])) :: (g1_3, .inl (kg_6, 8, .inl (fun _ => 0))) :: [])) H := hP
  have hD : va_D A ([(x, .inr (10, [.ref cd, .int (0 + 1), .ref rd, .int 0, .ref tp, .ref fo, .int 10, .ref qu, .int 0, .int 0, .ref sh, .ref vs, .ref pa, .ref pb])), (cd, .inl (kC, 24, .inr (.inr (.inr (.inr fd_7))))), (mx, .inr (14, [.ref lc, .ref lr, .ref kn, .ref lt, .ref ml, .ref mm, .ref lp, .ref lb, .ref mq, .int 1, .int 10, .int 0, .int 0])), (lc, .inr (4, [.int 0, .ref d, .int 0]))] ++ ((q_2, .inr (5, [.int 0, .null, .int (-1), .int (-1), .int 0, .int 0, .ref g1_3, .ref g2_4, .ref g3_5, .int 0])) :: (g1_3, .inl (kg_6, 8, .inl (fun _ => 0))) :: [])) := hD
  rw [show (0 : Int32) + 1 = nI 1 from by decide] at hP hD
  rw [show (0 : Int32).toNatClampNeg = 0 from by decide] at hx_8
  have hX : XI kg_6 1 fd_7 ((q_2, .inr (5, [.int 0, .null, .int (-1), .int (-1), .int 0, .int 0, .ref g1_3, .ref g2_4, .ref g3_5, .int 0])) :: (g1_3, .inl (kg_6, 8, .inl (fun _ => 0))) :: []) := XI.more (XI.zero (fc := fun _ => none)) hx_8 List.mem_cons_self (List.mem_cons_of_mem _ List.mem_cons_self)
  generalize (((q_2, .inr (5, [.int 0, .null, .int (-1), .int (-1), .int 0, .int 0, .ref g1_3, .ref g2_4, .ref g3_5, .int 0])) :: (g1_3, .inl (kg_6, 8, .inl (fun _ => 0))) :: []) : va_W) = FL_a at hP hD hX
  have hP : va_P (dC, dI) vwCl ([(x, .inr (10, [.ref cd, .int (nI 1), .ref rd, .int 0, .ref tp, .ref fo, .int 10, .ref qu, .int 0, .int 0, .ref sh, .ref vs, .ref pa, .ref pb])), (cd, .inl (kC, 24, .inr (.inr (.inr (.inr fd_7))))), (mx, .inr (14, [.ref lc, .ref lr, .ref kn, .ref lt, .ref ml, .ref mm, .ref lp, .ref lb, .ref mq, .int 1, .int 10, .int 0, .int 0])), (lc, .inr (4, [.int 0, .ref d, .int 0]))] ++ FL_a) H := hP
  have hD : va_D A ([(x, .inr (10, [.ref cd, .int (nI 1), .ref rd, .int 0, .ref tp, .ref fo, .int 10, .ref qu, .int 0, .int 0, .ref sh, .ref vs, .ref pa, .ref pb])), (cd, .inl (kC, 24, .inr (.inr (.inr (.inr fd_7))))), (mx, .inr (14, [.ref lc, .ref lr, .ref kn, .ref lt, .ref ml, .ref mm, .ref lp, .ref lb, .ref mq, .int 1, .int 10, .int 0, .int 0])), (lc, .inr (4, [.int 0, .ref d, .int 0]))] ++ FL_a) := hD
  have hK := hK.sub (tys' := [(kC, .object "ExamHalls$Candidate"), (kg_6, .int)]) [0, 2] rfl
  refine lv_aload_n hx hb dL_law_194 rfl (lv_at hl 1 rfl) ?_
  refine lv_aload_n hx hb dL_law_195 rfl (lv_at hl 3 rfl) ?_
  refine lv_iload_n hx hb dL_law_196 rfl (lv_at hl 0 rfl) ?_
  refine lv_iconst (v := 1) hx hb dL_law_197 (by decide) ?_
  refine lv_iadd hx hb dL_law_198 ?_
  refine lv_topi (fun f194 ef194 => ?_)
  obtain rfl : f194 = nI (5 * 0 + 1) := ef194.trans (nI_1 _)
  refine va_sld hx hb hX0 hbl hbA hS (vp_in_nI (by omega) (by decide)) dL_law_199 ?_
  refine lv_topi (fun g194 eg194 => ?_)
  obtain rfl : g194 = 0 := eg194.trans (by rw [nI_clamp (by omega)]; exact scf_0 (by omega))
  have hPc := hP.sub (ws' := [(mx, .inr (14, [.ref lc, .ref lr, .ref kn, .ref lt, .ref ml, .ref mm, .ref lp, .ref lb, .ref mq, .int 1, .int 10, .int 0, .int 0])), (lc, .inr (4, [.int 0, .ref d, .int 0]))]) [2, 3] rfl
  have hDc := hD.sub (ws' := [(mx, .inr (14, [.ref lc, .ref lr, .ref kn, .ref lt, .ref ml, .ref mm, .ref lp, .ref lb, .ref mq, .int 1, .int 10, .int 0, .int 0])), (lc, .inr (4, [.int 0, .ref d, .int 0]))]) [2, 3] (by decide) rfl
  have hKc := hK.sub (tys' := []) [] rfl
  have hFc := va_free (wc := [(mx, .inr (14, [.ref lc, .ref lr, .ref kn, .ref lt, .ref ml, .ref mm, .ref lp, .ref lb, .ref mq, .int 1, .int 10, .int 0, .int 0])), (lc, .inr (4, [.int 0, .ref d, .int 0]))]) hD hS hA [2, 3] rfl
  refine va_calli (va_runV (As := [.int 0]) (rest := []) ⟨hx, hb, hml, hown, hts⟩ (c_R_Mcand0 l dC dI d tc ad mx lc lr kn lt ml mm lp lb mq H.size) (cwV 1 hts gL_law_X9_candidate rfl rfl rfl (by decide +kernel) ⟨Nat.le_of_ble_eq_true rfl, Nat.le_of_ble_eq_true rfl⟩) ⟨PZ_blind, va_recv hK hP (ci := 14) (q0 := 2) rfl rfl, PZ_pre hPc hKc hDc hF hZ hS hFc⟩ rfl rfl hl.1 rfl (lv_room (Nat.le_of_ble_eq_true rfl)) dL_law_200 ⟨by show _ ≤ 840000; omega, by show _ ≤ 4000000; omega⟩) hS (fun q _ h => hFc q h) hFc (fun r_9 u T9 H1 locs ht hvm hw hB hz1 hk1 hS => ?_)
  obtain ⟨q_10, sn_11, rd_12, L_13, k1_14, k2_15, k3_16, hm_17, g1_18, kO_19, fb_20, hP1, hK1, hD1, hx_21, hx_22, hx_23⟩ := hB
  rw [ht] at hP1
  have hK1 := va_K.moved hvm.symm hK1
  obtain ⟨hP, hD⟩ := va_joinQ (pl := FL_a) (wr := [(x, .inr (10, [.ref cd, .int (nI 1), .ref rd, .int 0, .ref tp, .ref fo, .int 10, .ref qu, .int 0, .int 0, .ref sh, .ref vs, .ref pa, .ref pb])), (cd, .inl (kC, 24, .inr (.inr (.inr (.inr fd_7)))))]) (w1 := [(mx, .inr (14, [.ref lc, .ref lr, .ref kn, .ref lt, .ref ml, .ref mm, .ref lp, .ref lb, .ref mq, .int 1, .int 10, .int 0, .int 0])), (lc, .inr (4, [.int hm_17, .ref g1_18, .int 1])), (g1_18, .inl (kO_19, 10, .inr (.inr (.inr (.inr fb_20))))), (q_10, .inr (11, [.int 0, .null, .int (-1), .int (-1), .int 0, .ref sn_11, .ref rd_12]))] ++ L_13) hP hD [2, 3] [0, 1] rfl rfl (by decide) (by decide) hk1 hFc hP1 hD1
  have hK := hK.app hK1
  generalize H1 = H at hP hS ⊢
  have hP : va_P (dC, dI) vwCl (([(x, .inr (10, [.ref cd, .int (nI 1), .ref rd, .int 0, .ref tp, .ref fo, .int 10, .ref qu, .int 0, .int 0, .ref sh, .ref vs, .ref pa, .ref pb])), (cd, .inl (kC, 24, .inr (.inr (.inr (.inr fd_7))))), (mx, .inr (14, [.ref lc, .ref lr, .ref kn, .ref lt, .ref ml, .ref mm, .ref lp, .ref lb, .ref mq, .int 1, .int 10, .int 0, .int 0])), (lc, .inr (4, [.int hm_17, .ref g1_18, .int 1])), (g1_18, .inl (kO_19, 10, .inr (.inr (.inr (.inr fb_20))))), (q_10, .inr (11, [.int 0, .null, .int (-1), .int (-1), .int 0, .ref sn_11, .ref rd_12]))] ++ L_13) ++ FL_a) H := hP
  have hD : va_D A (([(x, .inr (10, [.ref cd, .int (nI 1), .ref rd, .int 0, .ref tp, .ref fo, .int 10, .ref qu, .int 0, .int 0, .ref sh, .ref vs, .ref pa, .ref pb])), (cd, .inl (kC, 24, .inr (.inr (.inr (.inr fd_7))))), (mx, .inr (14, [.ref lc, .ref lr, .ref kn, .ref lt, .ref ml, .ref mm, .ref lp, .ref lb, .ref mq, .int 1, .int 10, .int 0, .int 0])), (lc, .inr (4, [.int hm_17, .ref g1_18, .int 1])), (g1_18, .inl (kO_19, 10, .inr (.inr (.inr (.inr fb_20))))), (q_10, .inr (11, [.int 0, .null, .int (-1), .int (-1), .int 0, .ref sn_11, .ref rd_12]))] ++ L_13) ++ FL_a) := hD
  have hK : va_K (dC, dI) vwCl [(kC, .object "ExamHalls$Candidate"), (kg_6, .int), (kO_19, .object "java/lang/Object")] s := hK
  rw [List.append_assoc] at hP hD
  have hP : va_P (dC, dI) vwCl ([(x, .inr (10, [.ref cd, .int (nI 1), .ref rd, .int 0, .ref tp, .ref fo, .int 10, .ref qu, .int 0, .int 0, .ref sh, .ref vs, .ref pa, .ref pb])), (cd, .inl (kC, 24, .inr (.inr (.inr (.inr fd_7))))), (mx, .inr (14, [.ref lc, .ref lr, .ref kn, .ref lt, .ref ml, .ref mm, .ref lp, .ref lb, .ref mq, .int 1, .int 10, .int 0, .int 0])), (lc, .inr (4, [.int hm_17, .ref g1_18, .int 1])), (g1_18, .inl (kO_19, 10, .inr (.inr (.inr (.inr fb_20))))), (q_10, .inr (11, [.int 0, .null, .int (-1), .int (-1), .int 0, .ref sn_11, .ref rd_12]))] ++ (L_13 ++ FL_a)) H := hP
  have hD : va_D A ([(x, .inr (10, [.ref cd, .int (nI 1), .ref rd, .int 0, .ref tp, .ref fo, .int 10, .ref qu, .int 0, .int 0, .ref sh, .ref vs, .ref pa, .ref pb])), (cd, .inl (kC, 24, .inr (.inr (.inr (.inr fd_7))))), (mx, .inr (14, [.ref lc, .ref lr, .ref kn, .ref lt, .ref ml, .ref mm, .ref lp, .ref lb, .ref mq, .int 1, .int 10, .int 0, .int 0])), (lc, .inr (4, [.int hm_17, .ref g1_18, .int 1])), (g1_18, .inl (kO_19, 10, .inr (.inr (.inr (.inr fb_20))))), (q_10, .inr (11, [.int 0, .null, .int (-1), .int (-1), .int 0, .ref sn_11, .ref rd_12]))] ++ (L_13 ++ FL_a)) := hD
  have hz1 := Kz.moved hvm.symm hx_21
  obtain ⟨e1, e2, e3⟩ := Kz.one hz hz1
  subst e1 e2 e3
  have hP := va_P.part (X := [(x, .inr (10, [.ref cd, .int (nI 1), .ref rd, .int 0, .ref tp, .ref fo, .int 10, .ref qu, .int 0, .int 0, .ref sh, .ref vs, .ref pa, .ref pb])), (cd, .inl (kC, 24, .inr (.inr (.inr (.inr fd_7))))), (mx, .inr (14, [.ref lc, .ref lr, .ref kn, .ref lt, .ref ml, .ref mm, .ref lp, .ref lb, .ref mq, .int 1, .int 10, .int 0, .int 0])), (lc, .inr (4, [.int hm_17, .ref g1_18, .int 1])), (g1_18, .inl (kO_19, 10, .inr (.inr (.inr (.inr fb_20))))), (q_10, .inr (11, [.int 0, .null, .int (-1), .int (-1), .int 0, .ref sn_11, .ref rd_12]))]) (cx := [(x, .inr (10, [.ref cd, .int (nI 1), .ref rd, .int 0, .ref tp, .ref fo, .int 10, .ref qu, .int 0, .int 0, .ref sh, .ref vs, .ref pa, .ref pb])), (cd, .inl (kC, 24, .inr (.inr (.inr (.inr fd_7))))), (mx, .inr (14, [.ref lc, .ref lr, .ref kn, .ref lt, .ref ml, .ref mm, .ref lp, .ref lb, .ref mq, .int 1, .int 10, .int 0, .int 0])), (lc, .inr (4, [.int hm_17, .ref g1_18, .int 1])), (g1_18, .inl (kO_19, 10, .inr (.inr (.inr (.inr fb_20))))), (q_10, .inr (11, [.int 0, .null, .int (-1), .int (-1), .int 0, .ref sn_11, .ref rd_12]))]) (pl := (L_13 ++ FL_a)) hP [0, 1, 2, 3, 4, 5] rfl
  have hD := va_D.part (X := [(x, .inr (10, [.ref cd, .int (nI 1), .ref rd, .int 0, .ref tp, .ref fo, .int 10, .ref qu, .int 0, .int 0, .ref sh, .ref vs, .ref pa, .ref pb])), (cd, .inl (kC, 24, .inr (.inr (.inr (.inr fd_7))))), (mx, .inr (14, [.ref lc, .ref lr, .ref kn, .ref lt, .ref ml, .ref mm, .ref lp, .ref lb, .ref mq, .int 1, .int 10, .int 0, .int 0])), (lc, .inr (4, [.int hm_17, .ref g1_18, .int 1])), (g1_18, .inl (kO_19, 10, .inr (.inr (.inr (.inr fb_20))))), (q_10, .inr (11, [.int 0, .null, .int (-1), .int (-1), .int 0, .ref sn_11, .ref rd_12]))]) (cx := [(x, .inr (10, [.ref cd, .int (nI 1), .ref rd, .int 0, .ref tp, .ref fo, .int 10, .ref qu, .int 0, .int 0, .ref sh, .ref vs, .ref pa, .ref pb])), (cd, .inl (kC, 24, .inr (.inr (.inr (.inr fd_7))))), (mx, .inr (14, [.ref lc, .ref lr, .ref kn, .ref lt, .ref ml, .ref mm, .ref lp, .ref lb, .ref mq, .int 1, .int 10, .int 0, .int 0])), (lc, .inr (4, [.int hm_17, .ref g1_18, .int 1])), (g1_18, .inl (kO_19, 10, .inr (.inr (.inr (.inr fb_20))))), (q_10, .inr (11, [.int 0, .null, .int (-1), .int (-1), .int 0, .ref sn_11, .ref rd_12]))]) (pl := (L_13 ++ FL_a)) hD [0, 1, 2, 3, 4, 5] (by decide) rfl
  have hP : va_P (dC, dI) vwCl ([(x, .inr (10, [.ref cd, .int (nI 1), .ref rd, .int 0, .ref tp, .ref fo, .int 10, .ref qu, .int 0, .int 0, .ref sh, .ref vs, .ref pa, .ref pb])), (cd, .inl (kC, 24, .inr (.inr (.inr (.inr fd_7))))), (mx, .inr (14, [.ref lc, .ref lr, .ref kn, .ref lt, .ref ml, .ref mm, .ref lp, .ref lb, .ref mq, .int 1, .int 10, .int 0, .int 0])), (lc, .inr (4, [.int hm_17, .ref g1_18, .int 1])), (g1_18, .inl (kO_19, 10, .inr (.inr (.inr (.inr fb_20)))))] ++ ((q_10, .inr (11, [.int 0, .null, .int (-1), .int (-1), .int 0, .ref sn_11, .ref rd_12])) :: (L_13 ++ FL_a))) H := hP
  have hD : va_D A ([(x, .inr (10, [.ref cd, .int (nI 1), .ref rd, .int 0, .ref tp, .ref fo, .int 10, .ref qu, .int 0, .int 0, .ref sh, .ref vs, .ref pa, .ref pb])), (cd, .inl (kC, 24, .inr (.inr (.inr (.inr fd_7))))), (mx, .inr (14, [.ref lc, .ref lr, .ref kn, .ref lt, .ref ml, .ref mm, .ref lp, .ref lb, .ref mq, .int 1, .int 10, .int 0, .int 0])), (lc, .inr (4, [.int hm_17, .ref g1_18, .int 1])), (g1_18, .inl (kO_19, 10, .inr (.inr (.inr (.inr fb_20)))))] ++ ((q_10, .inr (11, [.int 0, .null, .int (-1), .int (-1), .int 0, .ref sn_11, .ref rd_12])) :: (L_13 ++ FL_a))) := hD
  rw [show (0 : Int32).toNatClampNeg = 0 from by decide] at hx_23
  have hM : MI k1 k2 k3 1 fb_20 ((q_10, .inr (11, [.int 0, .null, .int (-1), .int (-1), .int 0, .ref sn_11, .ref rd_12])) :: (L_13 ++ FL_a)) := MI.more (MI.zero (fa := fun _ => none)) hx_23 List.mem_cons_self (mn_s_up (mn_s_up mn_1_up) _ _ _ (fun q h => List.mem_cons_of_mem _ (List.mem_append_left _ h)) hx_22)
  replace hX := hX.up (L' := ((q_10, .inr (11, [.int 0, .null, .int (-1), .int (-1), .int 0, .ref sn_11, .ref rd_12])) :: (L_13 ++ FL_a))) (fun q h => List.mem_cons_of_mem _ (List.mem_append_right _ h))
  generalize (((q_10, .inr (11, [.int 0, .null, .int (-1), .int (-1), .int 0, .ref sn_11, .ref rd_12])) :: (L_13 ++ FL_a)) : va_W) = FL_c at hP hD hX hM
  refine lv_pop hx hb dL_law_203 rfl ?_
  refine lv_goto (tgt := 1216) hx hb dL_law_204 (by decide) ?_
  refine lv_iinc (v := nI (5 * 0) + 5) (lv' := [(3, .int (nI (5 * 0) + 5)), (2, .ref mx), (1, .ref x), (0, .ref b)]) hx hb dL_law_1216 hl (k := 0) rfl rfl (by decide) rfl (fun ls hl => ?_)
  refine lv_goto (tgt := 18) hx hb dL_law_1219 (by decide) ?_
  have e5 : nI (5 * 0) + 5 = nI (5 * (0 + 1)) := nI_add (5 * 0) 5
  rw [e5] at hl
  refine W.widen (k := 100 + 48 * 1) (n := 1300 + 210 * 1) (by omega) (by omega) ?_
  exact law_cand C0 hbA hA hAs hF hZ hz (hK.sub (tys' := [(kC, .object "ExamHalls$Candidate"), (kg_6, .int), (kO_19, .object "java/lang/Object")]) [0, 1, 2] rfl) 6 1 _ _ _ _ H locs ls (by omega) (by omega) hX hM hP hD hS hl

set_option maxHeartbeats 4000000 in
set_option maxRecDepth 100000 in
theorem whole_start {p : Program} {e : Env} {s : State} {m : MethodId} {below : List Frame} {meth : Method} {c : Code} (l : Launch) {b : Nat} (C0 : lw_At p s m meth c b 2310 scf) : W p l e bigR s m #[Value.ref b] below meth c s.heap [] 0 0 (lw_Z below #[Value.ref b] s) (entryFrame m ([Value.ref b] : List Value).toArray 4) := by
  obtain ⟨hx, hb, hr, hml, hown, hts, hX0, hbl, hlocks, hgv⟩ := id C0
  have hF := ft_of hts
  obtain ⟨dC, dI, hKc⟩ := kn_of hts
  generalize hAe : (fun q : Nat => s.heap.size ≤ q) = A
  have hA : ∀ q : Nat, s.heap.size ≤ q → A q := fun q h => by rw [← hAe]; exact h
  have hAs : ∀ q : Nat, A q → s.heap.size ≤ q := fun q h => by rw [← hAe] at h; exact h
  have hbA : ¬ A b := fun h => absurd (hAs _ h) (Nat.not_le.mpr hbl)
  obtain ⟨d, tc, ad, hZ⟩ := zt_of (A := A) hts hgv (fun a h1 h2 => absurd (hAs _ h2) (Nat.not_le.mpr h1))
  obtain ⟨k1, k2, k3, hz⟩ := kz_of hF
  have hS : va_S A s.heap s.heap [] := va_S.rf
  have hK : va_K (dC, dI) vwCl [] s := ⟨hKc, fun k q h => by simp at h⟩
  have hP : va_P (dC, dI) vwCl [] s.heap := mn_nil_world
  have hD : va_D A [] := mn_nil_apart
  have hl := lv_entry ([.ref b]) (n := 4) (Nat.le_of_ble_eq_true rfl)
  rw [lg_entry_eq]
  generalize (lg_sl ([.ref b]) ++ List.replicate (4 - (lg_sl ([.ref b])).length) Slot.unset).toArray = ls at hl ⊢
  have hl : lv_has ls 4 [(0, .ref b)] := hl
  refine va_new (ci := 10) (fs := [.null, .int 0, .null, .int 0, .null, .null, .int 0, .null, .int 0, .int 0, .null, .null, .null, .null]) (C := RX5) (T := TX5) (N := 14) hx hb hts inlX5 tyX5 tyX5_ok hown (hts (.classLink RL 7 RX5) (List.mem_of_getElem? (i := 133) (by decide +kernel))) (hts (.instantiable RX5 14) (List.mem_of_getElem? (i := 134) (by decide +kernel))) (hts (.initialized RX5) (List.mem_of_getElem? (i := 94) (by decide +kernel))) hK hP hD hS hA rfl dfX5 (Nat.le_of_ble_eq_true rfl) (Nat.le_of_ble_eq_true rfl) dL_law_0 (fun q_1 H hP hD hS => ?_)
  have hP : va_P (dC, dI) vwCl [(q_1, .inr (10, [.null, .int 0, .null, .int 0, .null, .null, .int 0, .null, .int 0, .int 0, .null, .null, .null, .null]))] H := hP
  have hD : va_D A [(q_1, .inr (10, [.null, .int 0, .null, .int 0, .null, .null, .int 0, .null, .int 0, .int 0, .null, .null, .null, .null]))] := hD
  refine W.widen (k := 1) (n := 14) (Nat.le_of_ble_eq_true rfl) (Nat.le_of_ble_eq_true rfl) ?_
  refine lv_dup hx hb dL_law_3 rfl ?_
  have hPc := hP.sub (ws' := [(q_1, .inr (10, [.null, .int 0, .null, .int 0, .null, .null, .int 0, .null, .int 0, .int 0, .null, .null, .null, .null]))]) [0] rfl
  have hDc := hD.sub (ws' := [(q_1, .inr (10, [.null, .int 0, .null, .int 0, .null, .null, .int 0, .null, .int 0, .int 0, .null, .null, .null, .null]))]) [0] (by decide) rfl
  have hKc := hK.sub (tys' := []) [] rfl
  have hFc := va_free (wc := [(q_1, .inr (10, [.null, .int 0, .null, .int 0, .null, .null, .int 0, .null, .int 0, .int 0, .null, .null, .null, .null]))]) hD hS hA [0] rfl
  refine va_callv (va_runI (As := []) (rest := [.ref q_1]) ⟨hx, hb, hml, hown, hts⟩ (c_X5_init l dC dI q_1 H.size) (cwI 0 hts gL_law_X5_init rfl rfl rfl (hts (.initialized RX5) (List.mem_of_getElem? (i := 94) (by decide +kernel))) (hts (.methodLink RL 9 yX5_init) (List.mem_of_getElem? (i := 135) (by decide +kernel))) (hts (.instanceMethod yX5_init) (List.mem_of_getElem? (i := 136) (by decide +kernel))) rfl (by decide +kernel) ⟨Nat.le_of_ble_eq_true rfl, Nat.le_of_ble_eq_true rfl⟩) ⟨PQ_blind, PQ_pre hPc hKc hDc hF⟩ rfl rfl hl.1 rfl (lv_room (Nat.le_of_ble_eq_true rfl)) dL_law_4 ⟨Nat.le_of_ble_eq_true rfl, Nat.le_of_ble_eq_true rfl⟩) hS (fun q _ h => hFc q h) hFc (fun u t H1 locs ht hvm hw hB hz1 hk1 hS => ?_)
  obtain ⟨cd_3, rd_4, tp_5, fo_6, qu_7, sh_8, vs_9, pa_10, pb_11, tb_12, le_13, mo_14, os_15, ps_16, br_17, kl_18, km_19, ko_20, kp_21, kb_22, fl_23, fm_24, kC_25, kR_26, kB_27, kq_28, hP1, hK1, hD1⟩ := hB
  rw [ht] at hP1
  have hK1 := va_K.moved hvm.symm hK1
  obtain ⟨hP, hD⟩ := va_join (wr := []) (w1 := [(q_1, .inr (10, [.ref cd_3, .int 0, .ref rd_4, .int 0, .ref tp_5, .ref fo_6, .int 10, .ref qu_7, .int 0, .int 0, .ref sh_8, .ref vs_9, .ref pa_10, .ref pb_11])), (cd_3, .inl (kC_25, 24, .inr (.inr (.inr (.inr (fun _ => none)))))), (rd_4, .inl (kR_26, 6, .inr (.inr (.inr (.inr (fun _ => none)))))), (tp_5, .inr (9, [.ref tb_12, .int 0])), (tb_12, .inl (kB_27, 250, .inl (fun _ => 0))), (fo_6, .inr (7, [.int 1, .ref le_13, .ref mo_14, .ref os_15, .ref ps_16, .int 0, .ref br_17, .int 0])), (le_13, .inl (kl_18, 8, .inl fl_23)), (mo_14, .inl (km_19, 8, .inl fm_24)), (os_15, .inl (ko_20, 6, .inl (fun _ => 0))), (ps_16, .inl (kp_21, 6, .inl (fun _ => 0))), (br_17, .inl (kb_22, 8, .inr (.inl (fun _ => 0)))), (qu_7, .inl (kq_28, 4, .inl (fun _ => 0)))]) hP hD [0] [] rfl rfl (by decide) (by decide) hk1 hFc hP1 hD1
  have hK := hK.app hK1
  generalize H1 = H at hP hS ⊢
  have hP : va_P (dC, dI) vwCl [(q_1, .inr (10, [.ref cd_3, .int 0, .ref rd_4, .int 0, .ref tp_5, .ref fo_6, .int 10, .ref qu_7, .int 0, .int 0, .ref sh_8, .ref vs_9, .ref pa_10, .ref pb_11])), (cd_3, .inl (kC_25, 24, .inr (.inr (.inr (.inr (fun _ => none)))))), (rd_4, .inl (kR_26, 6, .inr (.inr (.inr (.inr (fun _ => none)))))), (tp_5, .inr (9, [.ref tb_12, .int 0])), (tb_12, .inl (kB_27, 250, .inl (fun _ => 0))), (fo_6, .inr (7, [.int 1, .ref le_13, .ref mo_14, .ref os_15, .ref ps_16, .int 0, .ref br_17, .int 0])), (le_13, .inl (kl_18, 8, .inl fl_23)), (mo_14, .inl (km_19, 8, .inl fm_24)), (os_15, .inl (ko_20, 6, .inl (fun _ => 0))), (ps_16, .inl (kp_21, 6, .inl (fun _ => 0))), (br_17, .inl (kb_22, 8, .inr (.inl (fun _ => 0)))), (qu_7, .inl (kq_28, 4, .inl (fun _ => 0)))] H := hP
  have hD : va_D A [(q_1, .inr (10, [.ref cd_3, .int 0, .ref rd_4, .int 0, .ref tp_5, .ref fo_6, .int 10, .ref qu_7, .int 0, .int 0, .ref sh_8, .ref vs_9, .ref pa_10, .ref pb_11])), (cd_3, .inl (kC_25, 24, .inr (.inr (.inr (.inr (fun _ => none)))))), (rd_4, .inl (kR_26, 6, .inr (.inr (.inr (.inr (fun _ => none)))))), (tp_5, .inr (9, [.ref tb_12, .int 0])), (tb_12, .inl (kB_27, 250, .inl (fun _ => 0))), (fo_6, .inr (7, [.int 1, .ref le_13, .ref mo_14, .ref os_15, .ref ps_16, .int 0, .ref br_17, .int 0])), (le_13, .inl (kl_18, 8, .inl fl_23)), (mo_14, .inl (km_19, 8, .inl fm_24)), (os_15, .inl (ko_20, 6, .inl (fun _ => 0))), (ps_16, .inl (kp_21, 6, .inl (fun _ => 0))), (br_17, .inl (kb_22, 8, .inr (.inl (fun _ => 0)))), (qu_7, .inl (kq_28, 4, .inl (fun _ => 0)))] := hD
  have hK : va_K (dC, dI) vwCl [(kC_25, .object "ExamHalls$Candidate"), (kR_26, .object "ExamHalls$Reader"), (kB_27, .byte), (kl_18, .int), (km_19, .int), (ko_20, .int), (kp_21, .int), (kb_22, .long), (kq_28, .int)] s := hK
  refine W.widen (k := 16) (n := 422) (Nat.le_of_ble_eq_true rfl) (Nat.le_of_ble_eq_true rfl) ?_
  refine lv_astore_n (lv' := [(1, .ref q_1), (0, .ref b)]) hx hb dL_law_7 rfl hl (by decide) rfl (fun ls hl => ?_)
  refine va_new (ci := 14) (fs := [.null, .null, .null, .null, .null, .null, .null, .null, .null, .int 0, .int 0, .int 0, .int 0]) (C := RX9) (T := TX9) (N := 13) hx hb hts inlX9 tyX9 tyX9_ok hown (hts (.classLink RL 10 RX9) (List.mem_of_getElem? (i := 742) (by decide +kernel))) (hts (.instantiable RX9 13) (List.mem_of_getElem? (i := 743) (by decide +kernel))) (hts (.initialized RX9) (List.mem_of_getElem? (i := 97) (by decide +kernel))) hK hP hD hS hA rfl dfX9 (Nat.le_of_ble_eq_true rfl) (Nat.le_of_ble_eq_true rfl) dL_law_8 (fun q_29 H hP hD hS => ?_)
  have hP : va_P (dC, dI) vwCl [(q_1, .inr (10, [.ref cd_3, .int 0, .ref rd_4, .int 0, .ref tp_5, .ref fo_6, .int 10, .ref qu_7, .int 0, .int 0, .ref sh_8, .ref vs_9, .ref pa_10, .ref pb_11])), (cd_3, .inl (kC_25, 24, .inr (.inr (.inr (.inr (fun _ => none)))))), (rd_4, .inl (kR_26, 6, .inr (.inr (.inr (.inr (fun _ => none)))))), (tp_5, .inr (9, [.ref tb_12, .int 0])), (tb_12, .inl (kB_27, 250, .inl (fun _ => 0))), (fo_6, .inr (7, [.int 1, .ref le_13, .ref mo_14, .ref os_15, .ref ps_16, .int 0, .ref br_17, .int 0])), (le_13, .inl (kl_18, 8, .inl fl_23)), (mo_14, .inl (km_19, 8, .inl fm_24)), (os_15, .inl (ko_20, 6, .inl (fun _ => 0))), (ps_16, .inl (kp_21, 6, .inl (fun _ => 0))), (br_17, .inl (kb_22, 8, .inr (.inl (fun _ => 0)))), (qu_7, .inl (kq_28, 4, .inl (fun _ => 0))), (q_29, .inr (14, [.null, .null, .null, .null, .null, .null, .null, .null, .null, .int 0, .int 0, .int 0, .int 0]))] H := hP
  have hD : va_D A [(q_1, .inr (10, [.ref cd_3, .int 0, .ref rd_4, .int 0, .ref tp_5, .ref fo_6, .int 10, .ref qu_7, .int 0, .int 0, .ref sh_8, .ref vs_9, .ref pa_10, .ref pb_11])), (cd_3, .inl (kC_25, 24, .inr (.inr (.inr (.inr (fun _ => none)))))), (rd_4, .inl (kR_26, 6, .inr (.inr (.inr (.inr (fun _ => none)))))), (tp_5, .inr (9, [.ref tb_12, .int 0])), (tb_12, .inl (kB_27, 250, .inl (fun _ => 0))), (fo_6, .inr (7, [.int 1, .ref le_13, .ref mo_14, .ref os_15, .ref ps_16, .int 0, .ref br_17, .int 0])), (le_13, .inl (kl_18, 8, .inl fl_23)), (mo_14, .inl (km_19, 8, .inl fm_24)), (os_15, .inl (ko_20, 6, .inl (fun _ => 0))), (ps_16, .inl (kp_21, 6, .inl (fun _ => 0))), (br_17, .inl (kb_22, 8, .inr (.inl (fun _ => 0)))), (qu_7, .inl (kq_28, 4, .inl (fun _ => 0))), (q_29, .inr (14, [.null, .null, .null, .null, .null, .null, .null, .null, .null, .int 0, .int 0, .int 0, .int 0]))] := hD
  refine W.widen (k := 17) (n := 435) (Nat.le_of_ble_eq_true rfl) (Nat.le_of_ble_eq_true rfl) ?_
  refine lv_dup hx hb dL_law_11 rfl ?_
  have hPc := hP.sub (ws' := [(q_29, .inr (14, [.null, .null, .null, .null, .null, .null, .null, .null, .null, .int 0, .int 0, .int 0, .int 0]))]) [12] rfl
  have hDc := hD.sub (ws' := [(q_29, .inr (14, [.null, .null, .null, .null, .null, .null, .null, .null, .null, .int 0, .int 0, .int 0, .int 0]))]) [12] (by decide) rfl
  have hKc := hK.sub (tys' := []) [] rfl
  have hFc := va_free (wc := [(q_29, .inr (14, [.null, .null, .null, .null, .null, .null, .null, .null, .null, .int 0, .int 0, .int 0, .int 0]))]) hD hS hA [12] rfl
  refine va_callv (va_runI (As := []) (rest := [.ref q_29]) ⟨hx, hb, hml, hown, hts⟩ (c_X9_init l dC dI d tc ad q_29 H.size) (cwI 0 hts gL_law_X9_init rfl rfl rfl (hts (.initialized RX9) (List.mem_of_getElem? (i := 97) (by decide +kernel))) (hts (.methodLink RL 12 yX9_init) (List.mem_of_getElem? (i := 744) (by decide +kernel))) (hts (.instanceMethod yX9_init) (List.mem_of_getElem? (i := 745) (by decide +kernel))) rfl (by decide +kernel) ⟨Nat.le_of_ble_eq_true rfl, Nat.le_of_ble_eq_true rfl⟩) ⟨PZ_blind, PZ_pre hPc hKc hDc hF hZ hS hFc⟩ rfl rfl hl.1 rfl (lv_room (Nat.le_of_ble_eq_true rfl)) dL_law_12 ⟨Nat.le_of_ble_eq_true rfl, Nat.le_of_ble_eq_true rfl⟩) hS (fun q _ h => hFc q h) hFc (fun u t H1 locs ht hvm hw hB hz1 hk1 hS => ?_)
  obtain ⟨lc_31, lr_32, kn_33, lt_34, ml_35, mm_36, lp_37, lb_38, mq_39, kl_40, km_41, kq_42, fl_43, fm_44, hP1, hK1, hD1⟩ := hB
  rw [ht] at hP1
  have hK1 := va_K.moved hvm.symm hK1
  obtain ⟨hP, hD⟩ := va_join (wr := [(q_1, .inr (10, [.ref cd_3, .int 0, .ref rd_4, .int 0, .ref tp_5, .ref fo_6, .int 10, .ref qu_7, .int 0, .int 0, .ref sh_8, .ref vs_9, .ref pa_10, .ref pb_11])), (cd_3, .inl (kC_25, 24, .inr (.inr (.inr (.inr (fun _ => none)))))), (rd_4, .inl (kR_26, 6, .inr (.inr (.inr (.inr (fun _ => none)))))), (tp_5, .inr (9, [.ref tb_12, .int 0])), (tb_12, .inl (kB_27, 250, .inl (fun _ => 0))), (fo_6, .inr (7, [.int 1, .ref le_13, .ref mo_14, .ref os_15, .ref ps_16, .int 0, .ref br_17, .int 0])), (le_13, .inl (kl_18, 8, .inl fl_23)), (mo_14, .inl (km_19, 8, .inl fm_24)), (os_15, .inl (ko_20, 6, .inl (fun _ => 0))), (ps_16, .inl (kp_21, 6, .inl (fun _ => 0))), (br_17, .inl (kb_22, 8, .inr (.inl (fun _ => 0)))), (qu_7, .inl (kq_28, 4, .inl (fun _ => 0)))]) (w1 := [(q_29, .inr (14, [.ref lc_31, .ref lr_32, .ref kn_33, .ref lt_34, .ref ml_35, .ref mm_36, .ref lp_37, .ref lb_38, .ref mq_39, .int 1, .int 10, .int 0, .int 0])), (lc_31, .inr (4, [.int 0, .ref d, .int 0])), (lr_32, .inr (4, [.int 0, .ref d, .int 0])), (lt_34, .inr (4, [.int 0, .ref d, .int 0])), (lp_37, .inr (4, [.int 0, .ref d, .int 0])), (lb_38, .inr (4, [.int 0, .ref d, .int 0])), (ml_35, .inl (kl_40, 8, .inl fl_43)), (mm_36, .inl (km_41, 8, .inl fm_44)), (mq_39, .inl (kq_42, 4, .inl (fun _ => 0)))]) hP hD [12] [0, 1, 2, 3, 4, 5, 6, 7, 8, 9, 10, 11] rfl rfl (by decide) (by decide) hk1 hFc hP1 hD1
  have hK := hK.app hK1
  generalize H1 = H at hP hS ⊢
  have hP : va_P (dC, dI) vwCl [(q_1, .inr (10, [.ref cd_3, .int 0, .ref rd_4, .int 0, .ref tp_5, .ref fo_6, .int 10, .ref qu_7, .int 0, .int 0, .ref sh_8, .ref vs_9, .ref pa_10, .ref pb_11])), (cd_3, .inl (kC_25, 24, .inr (.inr (.inr (.inr (fun _ => none)))))), (rd_4, .inl (kR_26, 6, .inr (.inr (.inr (.inr (fun _ => none)))))), (tp_5, .inr (9, [.ref tb_12, .int 0])), (tb_12, .inl (kB_27, 250, .inl (fun _ => 0))), (fo_6, .inr (7, [.int 1, .ref le_13, .ref mo_14, .ref os_15, .ref ps_16, .int 0, .ref br_17, .int 0])), (le_13, .inl (kl_18, 8, .inl fl_23)), (mo_14, .inl (km_19, 8, .inl fm_24)), (os_15, .inl (ko_20, 6, .inl (fun _ => 0))), (ps_16, .inl (kp_21, 6, .inl (fun _ => 0))), (br_17, .inl (kb_22, 8, .inr (.inl (fun _ => 0)))), (qu_7, .inl (kq_28, 4, .inl (fun _ => 0))), (q_29, .inr (14, [.ref lc_31, .ref lr_32, .ref kn_33, .ref lt_34, .ref ml_35, .ref mm_36, .ref lp_37, .ref lb_38, .ref mq_39, .int 1, .int 10, .int 0, .int 0])), (lc_31, .inr (4, [.int 0, .ref d, .int 0])), (lr_32, .inr (4, [.int 0, .ref d, .int 0])), (lt_34, .inr (4, [.int 0, .ref d, .int 0])), (lp_37, .inr (4, [.int 0, .ref d, .int 0])), (lb_38, .inr (4, [.int 0, .ref d, .int 0])), (ml_35, .inl (kl_40, 8, .inl fl_43)), (mm_36, .inl (km_41, 8, .inl fm_44)), (mq_39, .inl (kq_42, 4, .inl (fun _ => 0)))] H := hP
  have hD : va_D A [(q_1, .inr (10, [.ref cd_3, .int 0, .ref rd_4, .int 0, .ref tp_5, .ref fo_6, .int 10, .ref qu_7, .int 0, .int 0, .ref sh_8, .ref vs_9, .ref pa_10, .ref pb_11])), (cd_3, .inl (kC_25, 24, .inr (.inr (.inr (.inr (fun _ => none)))))), (rd_4, .inl (kR_26, 6, .inr (.inr (.inr (.inr (fun _ => none)))))), (tp_5, .inr (9, [.ref tb_12, .int 0])), (tb_12, .inl (kB_27, 250, .inl (fun _ => 0))), (fo_6, .inr (7, [.int 1, .ref le_13, .ref mo_14, .ref os_15, .ref ps_16, .int 0, .ref br_17, .int 0])), (le_13, .inl (kl_18, 8, .inl fl_23)), (mo_14, .inl (km_19, 8, .inl fm_24)), (os_15, .inl (ko_20, 6, .inl (fun _ => 0))), (ps_16, .inl (kp_21, 6, .inl (fun _ => 0))), (br_17, .inl (kb_22, 8, .inr (.inl (fun _ => 0)))), (qu_7, .inl (kq_28, 4, .inl (fun _ => 0))), (q_29, .inr (14, [.ref lc_31, .ref lr_32, .ref kn_33, .ref lt_34, .ref ml_35, .ref mm_36, .ref lp_37, .ref lb_38, .ref mq_39, .int 1, .int 10, .int 0, .int 0])), (lc_31, .inr (4, [.int 0, .ref d, .int 0])), (lr_32, .inr (4, [.int 0, .ref d, .int 0])), (lt_34, .inr (4, [.int 0, .ref d, .int 0])), (lp_37, .inr (4, [.int 0, .ref d, .int 0])), (lb_38, .inr (4, [.int 0, .ref d, .int 0])), (ml_35, .inl (kl_40, 8, .inl fl_43)), (mm_36, .inl (km_41, 8, .inl fm_44)), (mq_39, .inl (kq_42, 4, .inl (fun _ => 0)))] := hD
  have hK : va_K (dC, dI) vwCl [(kC_25, .object "ExamHalls$Candidate"), (kR_26, .object "ExamHalls$Reader"), (kB_27, .byte), (kl_18, .int), (km_19, .int), (ko_20, .int), (kp_21, .int), (kb_22, .long), (kq_28, .int), (kl_40, .int), (km_41, .int), (kq_42, .int)] s := hK
  refine W.widen (k := 50) (n := 1070) (Nat.le_of_ble_eq_true rfl) (Nat.le_of_ble_eq_true rfl) ?_
  refine lv_astore_n (lv' := [(2, .ref q_29), (1, .ref q_1), (0, .ref b)]) hx hb dL_law_15 rfl hl (by decide) rfl (fun ls hl => ?_)
  refine lv_iconst (v := 0) hx hb dL_law_16 (by decide) ?_
  refine lv_istore_n (lv' := [(3, .int 0), (2, .ref q_29), (1, .ref q_1), (0, .ref b)]) hx hb dL_law_17 rfl hl (by decide) rfl (fun ls hl => ?_)
  have hP := hP.sub (ws' := [(q_1, .inr (10, [.ref cd_3, .int 0, .ref rd_4, .int 0, .ref tp_5, .ref fo_6, .int 10, .ref qu_7, .int 0, .int 0, .ref sh_8, .ref vs_9, .ref pa_10, .ref pb_11])), (cd_3, .inl (kC_25, 24, .inr (.inr (.inr (.inr (fun _ => none)))))), (q_29, .inr (14, [.ref lc_31, .ref lr_32, .ref kn_33, .ref lt_34, .ref ml_35, .ref mm_36, .ref lp_37, .ref lb_38, .ref mq_39, .int 1, .int 10, .int 0, .int 0])), (lc_31, .inr (4, [.int 0, .ref d, .int 0]))]) [0, 1, 12, 13] rfl
  have hD := hD.sub (ws' := [(q_1, .inr (10, [.ref cd_3, .int 0, .ref rd_4, .int 0, .ref tp_5, .ref fo_6, .int 10, .ref qu_7, .int 0, .int 0, .ref sh_8, .ref vs_9, .ref pa_10, .ref pb_11])), (cd_3, .inl (kC_25, 24, .inr (.inr (.inr (.inr (fun _ => none)))))), (q_29, .inr (14, [.ref lc_31, .ref lr_32, .ref kn_33, .ref lt_34, .ref ml_35, .ref mm_36, .ref lp_37, .ref lb_38, .ref mq_39, .int 1, .int 10, .int 0, .int 0])), (lc_31, .inr (4, [.int 0, .ref d, .int 0]))]) [0, 1, 12, 13] (by decide) rfl
  have hK := hK.sub (tys' := [(kC_25, .object "ExamHalls$Candidate")]) [0] rfl
  replace hl : lv_has ls 4 [(3, .int 0), (2, .ref q_29), (1, .ref q_1), (0, .ref b)] := lv_sub hl [0, 1, 2, 3] rfl
  exact law_first C0 hbA hA hAs hF hZ hz hK hP hD hS hl
