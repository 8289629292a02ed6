def nmL : List (String × Nat × MethodName × String) := [(RX5, 30, yX4_init, RX5), (RX5, 37, yX2_init, RX5), (RX5, 72, yX0_init, RX5), (RX5, 130, yX2_setMeasure, RX5), (RX5, 137, yX2_addParallel, RX5), (RX5, 184, yX3_init, RX5)]
def nfL : List (String × Nat × String × String × String × String) := [(RX5, 129, "ExamHalls$Form", "legCount", "I", RX5), (RX5, 134, "ExamHalls$Form", "parallelCount", "I", RX5)]
def q9_Obj : String := "java/lang/Object"
def ncL : List String := ["java/lang/Integer", "ExamHallsModel$Candidate", "ExamHallsModel$Reader", "java/lang/String", "[I"]
def fwL : List (String × MethodName × MethodName) := []
def aoL : List String := ["ExamHalls$Candidate", "ExamHalls$Reader"]
/-! what the contracts share: the nest mates' and interfaces' words, pure and writing starts -/
theorem ft_nest {a : String} {i : Nat} {x : MethodName} {h : String} {u U : State} (e : u.vm = U.vm) (z : va_Nw (.methodLinkNest a i x h) u) : va_Nw (.methodLinkNest a i x h) U := va_Nw.same rfl e z
def ft_ao (t : FieldType) (U : State) : Prop := ∃ (comp c : ClassId) (k : Class), U.vm.findClass (FieldType.array t).toString = some comp ∧ U.vm.classes[c]? = some k ∧ k.kind = .array comp (.array t) ∧ U.vm.findClass ("[" ++ (FieldType.array t).toString) = some c
theorem ft_ao.moved {t : FieldType} {u U : State} (hvm : u.vm.Alike U.vm) (h : ft_ao t u) : ft_ao t U := by
  obtain ⟨comp, c, k, h1, h2, h3, h4⟩ := h
  obtain ⟨k', hk', he⟩ := hvm.2.2 _ _ h2
  exact ⟨comp, c, k', by rw [hvm.findClass]; exact h1, hk', by rw [he]; exact h3, by rw [hvm.findClass]; exact h4⟩
def Ft (U : State) : Prop :=
  (∀ q ∈ nmL, va_Nw (.methodLinkNest q.1 q.2.1 q.2.2.1 q.2.2.2) U) ∧
  (∀ q ∈ nfL, va_Nw (.fieldLinkNest q.1 q.2.1 q.2.2.1 q.2.2.2.1 q.2.2.2.2.1 q.2.2.2.2.2) U) ∧
  (∀ q ∈ ncL, va_Nw (.castable q q9_Obj) U) ∧
  (∀ q ∈ fwL, va_Fw q.1 q.2.1 q.2.2 U) ∧
  (∀ q ∈ aoL, va_AO q U) ∧ ft_ao .boolean U ∧ ft_ao (.array .boolean) U
theorem fw_ne : ∀ q ∈ fwL, q.2.1.cls ≠ "java/lang/invoke/MethodHandle" ∧ q.2.1.cls ≠ "java/lang/invoke/VarHandle" := by decide +kernel
theorem Ft.warm {s U : State} (hW : s.WarmedH U.vm) (h : Ft s) : Ft U :=
  ⟨fun q hq => va_Nw.warmM hW (h.1 q hq), fun q hq => va_Nw.warmF hW (h.2.1 q hq), fun q hq => va_Nw.warmC hW (h.2.2.1 q hq), fun q hq => va_Fw.moved (fw_ne q hq) hW.alike (h.2.2.2.1 q hq), fun q hq => va_AO.moved hW.alike (h.2.2.2.2.1 q hq), ft_ao.moved hW.alike h.2.2.2.2.2.1, ft_ao.moved hW.alike h.2.2.2.2.2.2⟩
theorem Ft.same {u U : State} (e : u.vm = U.vm) (h : Ft u) : Ft U := by
  have ea : u.vm.Alike U.vm := by rw [e]; exact Vm.Alike.refl _
  exact ⟨fun q hq => va_Nw.same rfl e (h.1 q hq), fun q hq => va_Nw.same rfl e (h.2.1 q hq), fun q hq => va_Nw.same rfl e (h.2.2.1 q hq), fun q hq => va_Fw.moved (fw_ne q hq) ea (h.2.2.2.1 q hq), fun q hq => va_AO.moved ea (h.2.2.2.2.1 q hq), ft_ao.moved ea h.2.2.2.2.2.1, ft_ao.moved ea h.2.2.2.2.2.2⟩
theorem Ft.nm {U : State} (h : Ft U) (q : String × Nat × MethodName × String) (hq : q ∈ nmL) : va_Nw (.methodLinkNest q.1 q.2.1 q.2.2.1 q.2.2.2) U := h.1 q hq
theorem Ft.nf {U : State} {args : Array Value} (h : Ft U) (q : String × Nat × String × String × String × String) (hq : q ∈ nfL) : (Cond.fieldLinkNest q.1 q.2.1 q.2.2.1 q.2.2.2.1 q.2.2.2.2.1 q.2.2.2.2.2).before args U = true := va_Nw.use rfl (h.2.1 q hq)
theorem Ft.nc {U : State} (h : Ft U) (q : String) (hq : q ∈ ncL) : va_Nw (.castable q q9_Obj) U := h.2.2.1 q hq
theorem Ft.fw {U : State} (h : Ft U) (q : String × MethodName × MethodName) (hq : q ∈ fwL) : va_Fw q.1 q.2.1 q.2.2 U := h.2.2.2.1 q hq
theorem Ft.ao {U : State} (h : Ft U) (q : String) (hq : q ∈ aoL) : va_AO q U := h.2.2.2.2.1 q hq
/-- a pure method's start -/
def PS (dC : Nat → ClassId) (dI : Nat → Nat → Nat) (W : va_W) (TY : List (ClassId × FieldType)) (U : State) : Prop := va_P (dC, dI) vwCl W U.heap ∧ va_K (dC, dI) vwCl TY U ∧ Ft U
/-- a writing method's start -/
def PQ (dC : Nat → ClassId) (dI : Nat → Nat → Nat) (sz : Nat) (W : va_W) (TY : List (ClassId × FieldType)) (U : State) : Prop := U.heap.size = sz ∧ va_P (dC, dI) vwCl W U.heap ∧ va_K (dC, dI) vwCl TY U ∧ va_D (fun _ => True) W ∧ Ft U
theorem PS_blind {av : List Value} {dC : Nat → ClassId} {dI : Nat → Nat → Nat} {W : va_W} {TY : List (ClassId × FieldType)} : FrameBlind (va_Pc av (PS dC dI W TY)) := fun a U g mk q => by
  obtain ⟨q0, qP, qK, qF⟩ := q
  exact ⟨q0, qP, va_K.moved (u := U) (U := U.calling g mk a) (Vm.Alike.refl U.vm) qK, Ft.same (u := U) (U := U.calling g mk a) rfl qF⟩
theorem PQ_blind {av : List Value} {dC : Nat → ClassId} {dI : Nat → Nat → Nat} {sz : Nat} {W : va_W} {TY : List (ClassId × FieldType)} : FrameBlind (va_Pc av (PQ dC dI sz W TY)) := fun a U g mk q => by
  obtain ⟨q0, q1, qP, qK, qD, qF⟩ := q
  exact ⟨q0, q1, qP, va_K.moved (u := U) (U := U.calling g mk a) (Vm.Alike.refl U.vm) qK, qD, Ft.same (u := U) (U := U.calling g mk a) rfl qF⟩
theorem PS_pre {av : List Value} {dC : Nat → ClassId} {dI : Nat → Nat → Nat} {W : va_W} {TY : List (ClassId × FieldType)} {s : State} {H : Heap} (hP : va_P (dC, dI) vwCl W H) (hK : va_K (dC, dI) vwCl TY s) (hF : Ft s) : ∀ U : State, U.heap = H → s.WarmedH U.vm → va_Pc av (PS dC dI W TY) av.toArray U :=
  fun U hU hW => ⟨rfl, by rw [hU]; exact hP, va_K.moved hW.alike hK, hF.warm hW⟩
theorem PQ_pre {av : List Value} {dC : Nat → ClassId} {dI : Nat → Nat → Nat} {W : va_W} {TY : List (ClassId × FieldType)} {s : State} {H : Heap} {A : Nat → Prop} (hP : va_P (dC, dI) vwCl W H) (hK : va_K (dC, dI) vwCl TY s) (hD : va_D A W) (hF : Ft s) : ∀ U : State, U.heap = H → s.WarmedH U.vm → va_Pc av (PQ dC dI H.size W TY) av.toArray U :=
  fun U hU hW => ⟨rfl, by rw [hU], by rw [hU]; exact hP, va_K.moved hW.alike hK, hD.weaken (fun _ _ _ _ => trivial), hF.warm hW⟩
/-! what is read of the JDK's statics: the shared empty row of ArrayList, the cache of Integers, String's flag, a formatter -/
def Zt (d tc : Nat) (ad : Nat → Nat) (A : Nat → Prop) (U : State) (H : Heap) : Prop :=
  va_Z "java/util/ArrayList" "DEFAULTCAPACITY_EMPTY_ELEMENTDATA" "[Ljava/lang/Object;" (.ref d) A U H ∧
  va_T (.object "java/lang/Object") d 0 (fun _ => .null) A U H ∧
  va_Z "java/lang/Integer$IntegerCache" "high" "I" (.int 127) A U H ∧
  va_Z "java/lang/Integer$IntegerCache" "cache" "[Ljava/lang/Integer;" (.ref tc) A U H ∧
  va_T (.object "java/lang/Integer") tc 256 (fun j => .ref (ad j)) A U H ∧
  (∀ k : Nat, k < 256 → va_O "java/lang/Integer" (ad k) A U H) ∧
  va_Z "java/lang/String" "COMPACT_STRINGS" "Z" (.int 1) A U H ∧
  va_Zq "jdk/internal/util/Preconditions" "SIOOBE_FORMATTER" "Ljava/util/function/BiFunction;" A U H
theorem Zt.moved {d tc : Nat} {ad : Nat → Nat} {A : Nat → Prop} {u U : State} {H : Heap} (hvm : u.vm.Alike U.vm) (h : Zt d tc ad A u H) : Zt d tc ad A U H :=
  ⟨h.1.moved hvm, h.2.1.moved hvm, h.2.2.1.moved hvm, h.2.2.2.1.moved hvm, h.2.2.2.2.1.moved hvm, fun k hk => (h.2.2.2.2.2.1 k hk).moved hvm, h.2.2.2.2.2.2.1.moved hvm, h.2.2.2.2.2.2.2.moved hvm⟩
theorem Zt.kept {d tc : Nat} {ad : Nat → Nat} {A : Nat → Prop} {U : State} {H H1 : Heap} (h : Zt d tc ad A U H) (hq : ∀ a : Nat, a < H.size → ¬ A a → H1[a]? = H[a]?) : Zt d tc ad A U H1 :=
  ⟨h.1.kept hq, h.2.1.kept hq, h.2.2.1.kept hq, h.2.2.2.1.kept hq, h.2.2.2.2.1.kept hq, fun k hk => (h.2.2.2.2.2.1 k hk).kept hq, h.2.2.2.2.2.2.1.kept hq, h.2.2.2.2.2.2.2.kept hq⟩
theorem Zt.narrow {d tc : Nat} {ad : Nat → Nat} {A B : Nat → Prop} {U : State} {H : Heap} (h : Zt d tc ad A U H) (hAB : ∀ q, B q → A q) : Zt d tc ad B U H :=
  ⟨h.1.narrow hAB, h.2.1.narrow hAB, h.2.2.1.narrow hAB, h.2.2.2.1.narrow hAB, h.2.2.2.2.1.narrow hAB, fun k hk => (h.2.2.2.2.2.1 k hk).narrow hAB, h.2.2.2.2.2.2.1.narrow hAB, h.2.2.2.2.2.2.2.narrow hAB⟩
def PZ (dC : Nat → ClassId) (dI : Nat → Nat → Nat) (d tc : Nat) (ad : Nat → Nat) (sz : Nat) (W : va_W) (TY : List (ClassId × FieldType)) (U : State) : Prop := U.heap.size = sz ∧ va_P (dC, dI) vwCl W U.heap ∧ va_K (dC, dI) vwCl TY U ∧ va_D (fun _ => True) W ∧ Ft U ∧ Zt d tc ad (va_A W sz) U U.heap
def PY (dC : Nat → ClassId) (dI : Nat → Nat → Nat) (d tc : Nat) (ad : Nat → Nat) (W : va_W) (TY : List (ClassId × FieldType)) (U : State) : Prop := va_P (dC, dI) vwCl W U.heap ∧ va_K (dC, dI) vwCl TY U ∧ Ft U ∧ Zt d tc ad (fun _ => False) U U.heap
def PE (dC : Nat → ClassId) (dI : Nat → Nat → Nat) (d tc : Nat) (ad : Nat → Nat) (sz : Nat) (W : va_W) (TY : List (ClassId × FieldType)) (v : Nat) (U : State) : Prop := U.heap.size = sz ∧ va_P (dC, dI) vwCl W U.heap ∧ va_K (dC, dI) vwCl TY U ∧ va_D (fun _ => True) W ∧ Ft U ∧ Zt d tc ad (va_A W sz) U U.heap ∧ va_Any "java/lang/Object" U U.heap v
theorem any_moved {E : String} {u U : State} {H : Heap} {a : Nat} (hvm : u.vm.Alike U.vm) (h : va_Any E u H a) : va_Any E U H a := by
  obtain ⟨cell, h1, h2, ⟨k, hk⟩, h4⟩ := h
  obtain ⟨k', hk', -⟩ := hvm.2.2 _ _ hk
  exact ⟨cell, h1, h2, ⟨k', hk'⟩, fun comp hc => by rw [hvm.assignable]; exact h4 comp (by rw [← hvm.findClass]; exact hc)⟩
theorem any_kept {E : String} {U : State} {H H1 : Heap} {a : Nat} (h : va_Any E U H a) (e : H1[a]? = H[a]?) : va_Any E U H1 a := by
  obtain ⟨cell, h1, h2⟩ := h
  exact ⟨cell, by rw [e]; exact h1, h2⟩
theorem PZ_blind {av : List Value} {dC : Nat → ClassId} {dI : Nat → Nat → Nat} {d tc : Nat} {ad : Nat → Nat} {sz : Nat} {W : va_W} {TY : List (ClassId × FieldType)} : FrameBlind (va_Pc av (PZ dC dI d tc ad sz W TY)) := fun a U g mk q => by
  obtain ⟨q0, q1, qP, qK, qD, qF, qZ⟩ := q
  exact ⟨q0, q1, qP, va_K.moved (u := U) (U := U.calling g mk a) (Vm.Alike.refl U.vm) qK, qD, Ft.same (u := U) (U := U.calling g mk a) rfl qF, Zt.moved (u := U) (U := U.calling g mk a) (Vm.Alike.refl U.vm) qZ⟩
theorem PE_blind {av : List Value} {dC : Nat → ClassId} {dI : Nat → Nat → Nat} {d tc : Nat} {ad : Nat → Nat} {sz : Nat} {W : va_W} {TY : List (ClassId × FieldType)} {v : Nat} : FrameBlind (va_Pc av (PE dC dI d tc ad sz W TY v)) := fun a U g mk q => by
  obtain ⟨q0, q1, qP, qK, qD, qF, qZ, qE⟩ := q
  exact ⟨q0, q1, qP, va_K.moved (u := U) (U := U.calling g mk a) (Vm.Alike.refl U.vm) qK, qD, Ft.same (u := U) (U := U.calling g mk a) rfl qF, Zt.moved (u := U) (U := U.calling g mk a) (Vm.Alike.refl U.vm) qZ, any_moved (u := U) (U := U.calling g mk a) (Vm.Alike.refl U.vm) qE⟩
theorem PY_blind {av : List Value} {dC : Nat → ClassId} {dI : Nat → Nat → Nat} {d tc : Nat} {ad : Nat → Nat} {W : va_W} {TY : List (ClassId × FieldType)} : FrameBlind (va_Pc av (PY dC dI d tc ad W TY)) := fun a U g mk q => by
  obtain ⟨q0, qP, qK, qF, qZ⟩ := q
  exact ⟨q0, qP, va_K.moved (u := U) (U := U.calling g mk a) (Vm.Alike.refl U.vm) qK, Ft.same (u := U) (U := U.calling g mk a) rfl qF, Zt.moved (u := U) (U := U.calling g mk a) (Vm.Alike.refl U.vm) qZ⟩
theorem Zt.at {d tc : Nat} {ad : Nat → Nat} {A B : Nat → Prop} {s : State} {H : Heap} {locs : List Loc} (hZ : Zt d tc ad A s s.heap) (hS : va_S A s.heap H locs) (hB : ∀ q, B q → A q) : Zt d tc ad B s H := (hZ.kept (fun a h1 h2 => hS.2.1 a h1 h2)).narrow hB
theorem PZ_pre {av : List Value} {dC : Nat → ClassId} {dI : Nat → Nat → Nat} {d tc : Nat} {ad : Nat → Nat} {W : va_W} {TY : List (ClassId × FieldType)} {s : State} {H : Heap} {A : Nat → Prop} {locs : List Loc} (hP : va_P (dC, dI) vwCl W H) (hK : va_K (dC, dI) vwCl TY s) (hD : va_D A W) (hF : Ft s) (hZ : Zt d tc ad A s s.heap) (hS : va_S A s.heap H locs) (hFc : ∀ q, va_A W H.size q → A q) : ∀ U : State, U.heap = H → s.WarmedH U.vm → va_Pc av (PZ dC dI d tc ad H.size W TY) av.toArray U :=
  fun U hU hW => ⟨rfl, by rw [hU], by rw [hU]; exact hP, va_K.moved hW.alike hK, hD.weaken (fun _ _ _ _ => trivial), hF.warm hW, by rw [hU]; exact Zt.moved hW.alike (hZ.at hS hFc)⟩
theorem PE_pre {av : List Value} {dC : Nat → ClassId} {dI : Nat → Nat → Nat} {d tc : Nat} {ad : Nat → Nat} {W : va_W} {TY : List (ClassId × FieldType)} {v : Nat} {s : State} {H : Heap} {A : Nat → Prop} {locs : List Loc} (hP : va_P (dC, dI) vwCl W H) (hK : va_K (dC, dI) vwCl TY s) (hD : va_D A W) (hF : Ft s) (hZ : Zt d tc ad A s s.heap) (hS : va_S A s.heap H locs) (hFc : ∀ q, va_A W H.size q → A q) (hE : va_Any "java/lang/Object" s H v) : ∀ U : State, U.heap = H → s.WarmedH U.vm → va_Pc av (PE dC dI d tc ad H.size W TY v) av.toArray U :=
  fun U hU hW => ⟨rfl, by rw [hU], by rw [hU]; exact hP, va_K.moved hW.alike hK, hD.weaken (fun _ _ _ _ => trivial), hF.warm hW, by rw [hU]; exact Zt.moved hW.alike (hZ.at hS hFc), by rw [hU]; exact any_moved hW.alike hE⟩
theorem PY_pre {av : List Value} {dC : Nat → ClassId} {dI : Nat → Nat → Nat} {d tc : Nat} {ad : Nat → Nat} {W : va_W} {TY : List (ClassId × FieldType)} {s : State} {H : Heap} {A : Nat → Prop} {locs : List Loc} (hP : va_P (dC, dI) vwCl W H) (hK : va_K (dC, dI) vwCl TY s) (hF : Ft s) (hZ : Zt d tc ad A s s.heap) (hS : va_S A s.heap H locs) : ∀ U : State, U.heap = H → s.WarmedH U.vm → va_Pc av (PY dC dI d tc ad W TY) av.toArray U :=
  fun U hU hW => ⟨rfl, by rw [hU]; exact hP, va_K.moved hW.alike hK, hF.warm hW, by rw [hU]; exact Zt.moved hW.alike (hZ.at hS (fun _ h => h.elim))⟩
/-- an object of the world may lie in a row of Objects -/
theorem any_obj {D : va_G} {ws : va_W} {tys : List (ClassId × FieldType)} {s : State} {H : Heap} {a q0 ci : Nat} {fs : List Value} {r : vw_C} (hF : Ft s) (hK : va_K D vwCl tys s) (hP : va_P D vwCl ws H) (he : ws[q0]? = some (a, .inr (ci, fs))) (hc : vwCl[ci]? = some r) (hr : r.1 ∈ ncL) : va_Any "java/lang/Object" s H a :=
  va_rAny hK hP he hc (vb_asgC (hF.nc _ hr))
theorem vin_lt {x : Int32} {N : Nat} (hN : N < 2 ^ 31) (h0 : ¬ x < 0) (h1 : ¬ nI N ≤ x) : vp_in x N := by
  obtain ⟨j, hj, rfl⟩ := nI_of h0
  exact vp_in_nI (Nat.lt_of_not_le (fun h => h1 (nI_le h hj))) hN
/-- a start with its heap and its written places under names of their own -/
theorem W_gen {p : Program} {l : Launch} {e : Env} {R : Room} {s : State} {m : MethodId} {args : Array Value} {below : List Frame} {meth : Method} {c : Code} {H : Heap} {locs : List Loc} {cells slots : Nat} {Q : State → Prop} {g : JFrame} (k : ∀ (H' : Heap) (locs' : List Loc), H' = H → locs' = locs → W p l e R s m args below meth c H' locs' cells slots Q g) : W p l e R s m args below meth c H locs cells slots Q g := k H locs rfl rfl
theorem i_lt {i N : Nat} {n : Int32} (hi : i ≤ N) (hN : N < 2 ^ 31) (en : n = nI i) (h : ¬ nI N ≤ n) : i < N := by
  rcases Nat.lt_or_ge i N with q | q
  · exact q
  · exact absurd (by rw [en]; exact nI_le q (by omega)) h
theorem dfX0 : ∀ j, j < 10 → defaultValue (tyX0 j) = vp_V [.int 0, .null, .int 0, .int 0, .int 0, .int 0, .null, .null, .null, .int 0] j := by
  intro j hj
  rcases (show j = 0 ∨ j = 1 ∨ j = 2 ∨ j = 3 ∨ j = 4 ∨ j = 5 ∨ j = 6 ∨ j = 7 ∨ j = 8 ∨ j = 9 by omega) with rfl | rfl | rfl | rfl | rfl | rfl | rfl | rfl | rfl | rfl <;> rfl

theorem dfX2 : ∀ j, j < 8 → defaultValue (tyX2 j) = vp_V [.int 0, .null, .null, .null, .null, .int 0, .null, .int 0] j := by
  intro j hj
  rcases (show j = 0 ∨ j = 1 ∨ j = 2 ∨ j = 3 ∨ j = 4 ∨ j = 5 ∨ j = 6 ∨ j = 7 by omega) with rfl | rfl | rfl | rfl | rfl | rfl | rfl | rfl <;> rfl

theorem dfX3 : ∀ j, j < 3 → defaultValue (tyX3 j) = vp_V [.int 0, .int 0, .int 0] j := by
  intro j hj
  rcases (show j = 0 ∨ j = 1 ∨ j = 2 by omega) with rfl | rfl | rfl <;> rfl

theorem dfX4 : ∀ j, j < 2 → defaultValue (tyX4 j) = vp_V [.null, .int 0] j := by
  intro j hj
  rcases (show j = 0 ∨ j = 1 by omega) with rfl | rfl <;> rfl
