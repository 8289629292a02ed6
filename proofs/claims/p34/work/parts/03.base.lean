def nmL : List (String × Nat × MethodName × String) := [(RX5, 30, yX4_init, RX5), (RX5, 37, yX2_init, RX5), (RX5, 72, yX0_init, RX5), (RX5, 75, yX4_hasRoomFor, RX5), (RX5, 79, yX4_append, RX5), (RX5, 90, yX4_findFault, RX5), (RX5, 94, yX4_empty, RX5), (RX5, 103, yX1_init, RX5), (RX5, 104, yX1_readFrom, RX5), (RX5, 108, yX1_wordCount, RX5), (RX5, 118, yX1_hasLeg, RX5), (RX5, 121, yX1_wordsOf, RX5), (RX5, 125, yX1_wordAt, RX5), (RX5, 130, yX2_setMeasure, RX5), (RX5, 137, yX2_addParallel, RX5), (RX5, 145, yX2_isBarred, RX5), (RX5, 151, yX2_addBarred, RX5), (RX5, 155, yX2_judgementOf, RX5), (RX5, 159, yX1_longestShared, RX5), (RX5, 173, yX0_show, RX5), (RX5, 184, yX3_init, RX5), (RX5, 193, yX0_wantsThird, RX5), (RX5, 196, yX0_hasReading, RX5), (RX5, 199, yX0_readerAt, RX5), (RX5, 202, yX0_isMarked, RX5), (RX5, 205, yX0_markAt, RX5), (RX5, 212, yX0_readingOf, RX5), (RX5, 215, yX0_setMark, RX5), (RX5, 251, yX0_isKinOf, RX5), (RX5, 254, yX0_addKin, RX5), (RX5, 278, yX0_isOpenedBy, RX5), (RX5, 298, yX0_addReading, RX5), (RX5, 305, yX0_countingReadings, RX5), (RX5, 323, yX0_markedCount, RX5), (RX1, 31, yX4_byteAt, RX5), (RX1, 35, yX5_isLetter, RX5), (RX2, 41, yX1_wordsOf, RX5), (RX2, 45, yX5_isWithin, RX5), (RX2, 57, yX1_hasLeg, RX5), (RX2, 61, yX1_wordAt, RX5), (RX2, 65, yX5_letterCount, RX5), (RX4, 23, yX5_isLetter, RX5), (RX9, 68, yX6_init, RX9), (RX9, 210, yX7_init, RX9), (RX9, 229, yX8_init, RX9)]
def nfL : List (String × Nat × String × String × String × String) := [(RX5, 83, "ExamHalls$Tape", "size", "I", RX5), (RX5, 97, "ExamHalls$Candidate", "text", "LExamHalls$Essay;", RX5), (RX5, 115, "ExamHalls$Essay", "legCount", "I", RX5), (RX5, 129, "ExamHalls$Form", "legCount", "I", RX5), (RX5, 134, "ExamHalls$Form", "parallelCount", "I", RX5), (RX5, 148, "ExamHalls$Form", "barredCount", "I", RX5), (RX5, 170, "ExamHalls$Candidate", "number", "I", RX5), (RX5, 186, "ExamHalls$Candidate", "readingCount", "I", RX5), (RX5, 218, "ExamHalls$Reader", "readings", "I", RX5), (RX5, 237, "ExamHalls$Candidate", "province", "I", RX5), (RX5, 240, "ExamHalls$Candidate", "struck", "Z", RX5), (RX5, 248, "ExamHalls$Candidate", "place", "I", RX5), (RX5, 286, "ExamHalls$Reader", "province", "I", RX5), (RX5, 287, "ExamHalls$Reader", "room", "I", RX5), (RX1, 26, "ExamHalls$Tape", "size", "I", RX5), (RX2, 38, "ExamHalls$Essay", "legCount", "I", RX5), (RJx35411, 28, "java/util/ArrayList", "size", "I", RJx4a65c), (RJx36abd, 31, "java/util/ArrayList$SubList", "size", "I", RJx4a65c), (RJx36abd, 40, "java/util/ArrayList$SubList", "root", "Ljava/util/ArrayList;", RJx4a65c), (RJx36abd, 50, "java/util/ArrayList$SubList", "offset", "I", RJx4a65c)]
def q9_Obj : String := "java/lang/Object"
def ncL : List String := ["java/lang/Integer", "ExamHallsModel$Candidate", "ExamHallsModel$Reader", "java/lang/String", "[I"]
def fwL : List (String × MethodName × MethodName) := [(RJx4a65c, ⟨"java/util/List", "size", "()I"⟩, yJx4a65c_size_8abf5), (RJx4a65c, ⟨"java/util/List", "add", "(Ljava/lang/Object;)Z"⟩, yJx4a65c_add_9ea2d), (RJx4a65c, ⟨"java/util/List", "get", "(I)Ljava/lang/Object;"⟩, yJx4a65c_get_915e3)]
def aoL : List String := ["ExamHalls$Candidate", "ExamHalls$Reader", "java/lang/Object"]
/-! what the contracts share: the nest mates' and interfaces' words, pure and writing starts -/
theorem ft_nest {a : String} {i : Nat} {x : MethodName} {h : String} {u U : State} (e : u.vm = U.vm) (z : va_Nw (.methodLinkNest a i x h) u) : va_Nw (.methodLinkNest a i x h) U := va_Nw.same rfl e z
def ft_ao (t : FieldType) (U : State) : Prop := ∃ (comp c : ClassId) (k : Class), U.vm.findClass (FieldType.array t).toString = some comp ∧ U.vm.classes[c]? = some k ∧ k.kind = .array comp (.array t) ∧ U.vm.findClass ("[" ++ (FieldType.array t).toString) = some c
theorem ft_ao.moved {t : FieldType} {u U : State} (hvm : u.vm.Alike U.vm) (h : ft_ao t u) : ft_ao t U := by
  obtain ⟨comp, c, k, h1, h2, h3, h4⟩ := h
  obtain ⟨k', hk', he⟩ := hvm.2.2 _ _ h2
  exact ⟨comp, c, k', by rw [hvm.findClass]; exact h1, hk', by rw [he]; exact h3, by rw [hvm.findClass]; exact h4⟩
def ft_ac (U : State) : Prop := ∃ (comp : ClassId) (k : Class) (cc : ClassId), U.vm.findClass (FieldType.array .boolean).toString = some comp ∧ U.vm.classes[comp]? = some k ∧ k.kind = .array cc .boolean
theorem ft_ac.moved {u U : State} (hvm : u.vm.Alike U.vm) (h : ft_ac u) : ft_ac U := by
  obtain ⟨comp, k, cc, h1, h2, h3⟩ := h
  obtain ⟨k', hk', he⟩ := hvm.2.2 _ _ h2
  exact ⟨comp, k', cc, by rw [hvm.findClass]; exact h1, hk', by rw [he]; exact h3⟩
def Ft (U : State) : Prop :=
  (∀ q ∈ nmL, va_Nw (.methodLinkNest q.1 q.2.1 q.2.2.1 q.2.2.2) U) ∧
  (∀ q ∈ nfL, va_Nw (.fieldLinkNest q.1 q.2.1 q.2.2.1 q.2.2.2.1 q.2.2.2.2.1 q.2.2.2.2.2) U) ∧
  (∀ q ∈ ncL, va_Nw (.castable q q9_Obj) U) ∧
  (∀ q ∈ fwL, va_Fw q.1 q.2.1 q.2.2 U) ∧
  (∀ q ∈ aoL, va_AO q U) ∧ ft_ao .boolean U ∧ ft_ao (.array .boolean) U ∧ ft_ac U ∧ va_Nw (.classLink "ExamHallsModel$Candidate" 18 "[[[Z") U
theorem fw_ne : ∀ q ∈ fwL, q.2.1.cls ≠ "java/lang/invoke/MethodHandle" ∧ q.2.1.cls ≠ "java/lang/invoke/VarHandle" := by decide +kernel
theorem Ft.warm {s U : State} (hW : s.WarmedH U.vm) (h : Ft s) : Ft U :=
  ⟨fun q hq => va_Nw.warmM hW (h.1 q hq), fun q hq => va_Nw.warmF hW (h.2.1 q hq), fun q hq => va_Nw.warmC hW (h.2.2.1 q hq), fun q hq => va_Fw.moved (fw_ne q hq) hW.alike (h.2.2.2.1 q hq), fun q hq => va_AO.moved hW.alike (h.2.2.2.2.1 q hq), ft_ao.moved hW.alike h.2.2.2.2.2.1, ft_ao.moved hW.alike h.2.2.2.2.2.2.1, ft_ac.moved hW.alike h.2.2.2.2.2.2.2.1, word_at hW (Or.inl rfl) h.2.2.2.2.2.2.2.2⟩
theorem Ft.same {u U : State} (e : u.vm = U.vm) (h : Ft u) : Ft U := by
  have ea : u.vm.Alike U.vm := by rw [e]; exact Vm.Alike.refl _
  exact ⟨fun q hq => va_Nw.same rfl e (h.1 q hq), fun q hq => va_Nw.same rfl e (h.2.1 q hq), fun q hq => va_Nw.same rfl e (h.2.2.1 q hq), fun q hq => va_Fw.moved (fw_ne q hq) ea (h.2.2.2.1 q hq), fun q hq => va_AO.moved ea (h.2.2.2.2.1 q hq), ft_ao.moved ea h.2.2.2.2.2.1, ft_ao.moved ea h.2.2.2.2.2.2.1, ft_ac.moved ea h.2.2.2.2.2.2.2.1, va_Nw.same rfl e h.2.2.2.2.2.2.2.2⟩
theorem Ft.nm {U : State} (h : Ft U) (q : String × Nat × MethodName × String) (hq : q ∈ nmL) : va_Nw (.methodLinkNest q.1 q.2.1 q.2.2.1 q.2.2.2) U := h.1 q hq
theorem Ft.nf {U : State} {args : Array Value} (h : Ft U) (q : String × Nat × String × String × String × String) (hq : q ∈ nfL) : (Cond.fieldLinkNest q.1 q.2.1 q.2.2.1 q.2.2.2.1 q.2.2.2.2.1 q.2.2.2.2.2).before args U = true := va_Nw.use rfl (h.2.1 q hq)
theorem Ft.nc {U : State} (h : Ft U) (q : String) (hq : q ∈ ncL) : va_Nw (.castable q q9_Obj) U := h.2.2.1 q hq
theorem Ft.fw {U : State} (h : Ft U) (q : String × MethodName × MethodName) (hq : q ∈ fwL) : va_Fw q.1 q.2.1 q.2.2 U := h.2.2.2.1 q hq
theorem Ft.ao {U : State} (h : Ft U) (q : String) (hq : q ∈ aoL) : va_AO q U := h.2.2.2.2.1 q hq
/-- a pure method's start -/
def PS (dC : Nat → ClassId) (dI : Nat → Nat → Nat) (W : va_W) (TY : List (ClassId × FieldType)) (U : State) : Prop := va_P (dC, dI) vwCl W U.heap ∧ va_K (dC, dI) vwCl TY U ∧ Ft U
/-- a writing method's start -/
def PQ (dC : Nat → ClassId) (dI : Nat → Nat → Nat) (sz : Nat) (W : va_W) (TY : List (ClassId × FieldType)) (U : State) : Prop := U.heap.size = sz ∧ va_P (dC, dI) vwCl W U.heap ∧ va_K (dC, dI) vwCl TY U ∧ va_D (fun _ => True) W ∧ Ft U
theorem PS_blind {av : List Value} {dC : Nat → ClassId} {dI : Nat → Nat → Nat} {W : va_W} {TY : List (ClassId × FieldType)} : FrameBlind (va_Pc av (PS dC dI W TY)) := fun a U g mk q => by
  obtain ⟨q0, qP, qK, qF⟩ := q
  exact ⟨q0, qP, va_K.moved (u := U) (U := U.calling g mk a) (Vm.Alike.refl U.vm) qK, Ft.same (u := U) (U := U.calling g mk a) rfl qF⟩
theorem PQ_blind {av : List Value} {dC : Nat → ClassId} {dI : Nat → Nat → Nat} {sz : Nat} {W : va_W} {TY : List (ClassId × FieldType)} : FrameBlind (va_Pc av (PQ dC dI sz W TY)) := fun a U g mk q => by
  obtain ⟨q0, q1, qP, qK, qD, qF⟩ := q
  exact ⟨q0, q1, qP, va_K.moved (u := U) (U := U.calling g mk a) (Vm.Alike.refl U.vm) qK, qD, Ft.same (u := U) (U := U.calling g mk a) rfl qF⟩
theorem PS_pre {av : List Value} {dC : Nat → ClassId} {dI : Nat → Nat → Nat} {W : va_W} {TY : List (ClassId × FieldType)} {s : State} {H : Heap} (hP : va_P (dC, dI) vwCl W H) (hK : va_K (dC, dI) vwCl TY s) (hF : Ft s) : ∀ U : State, U.heap = H → s.WarmedH U.vm → va_Pc av (PS dC dI W TY) av.toArray U :=
  fun U hU hW => ⟨rfl, by rw [hU]; exact hP, va_K.moved hW.alike hK, hF.warm hW⟩
theorem PQ_pre {av : List Value} {dC : Nat → ClassId} {dI : Nat → Nat → Nat} {W : va_W} {TY : List (ClassId × FieldType)} {s : State} {H : Heap} {A : Nat → Prop} (hP : va_P (dC, dI) vwCl W H) (hK : va_K (dC, dI) vwCl TY s) (hD : va_D A W) (hF : Ft s) : ∀ U : State, U.heap = H → s.WarmedH U.vm → va_Pc av (PQ dC dI H.size W TY) av.toArray U :=
  fun U hU hW => ⟨rfl, by rw [hU], by rw [hU]; exact hP, va_K.moved hW.alike hK, hD.weaken (fun _ _ _ _ => trivial), hF.warm hW⟩
/-! what is read of the JDK's statics: the shared empty row of ArrayList, the cache of Integers, String's flag, a formatter -/
def Zt (d tc : Nat) (ad : Nat → Nat) (A : Nat → Prop) (U : State) (H : Heap) : Prop :=
  va_Z "java/util/ArrayList" "DEFAULTCAPACITY_EMPTY_ELEMENTDATA" "[Ljava/lang/Object;" (.ref d) A U H ∧
  va_T (.object "java/lang/Object") d 0 (fun _ => .null) A U H ∧
  va_Z "java/lang/Integer$IntegerCache" "high" "I" (.int 127) A U H ∧
  va_Z "java/lang/Integer$IntegerCache" "cache" "[Ljava/lang/Integer;" (.ref tc) A U H ∧
  va_T (.object "java/lang/Integer") tc 256 (fun j => .ref (ad j)) A U H ∧
  (∀ k : Nat, k < 256 → va_O "java/lang/Integer" (ad k) A U H) ∧
  va_Z "java/lang/String" "COMPACT_STRINGS" "Z" (.int 1) A U H ∧
  va_Zq "jdk/internal/util/Preconditions" "SIOOBE_FORMATTER" "Ljava/util/function/BiFunction;" A U H
theorem Zt.moved {d tc : Nat} {ad : Nat → Nat} {A : Nat → Prop} {u U : State} {H : Heap} (hvm : u.vm.Alike U.vm) (h : Zt d tc ad A u H) : Zt d tc ad A U H :=
  ⟨h.1.moved hvm, h.2.1.moved hvm, h.2.2.1.moved hvm, h.2.2.2.1.moved hvm, h.2.2.2.2.1.moved hvm, fun k hk => (h.2.2.2.2.2.1 k hk).moved hvm, h.2.2.2.2.2.2.1.moved hvm, h.2.2.2.2.2.2.2.moved hvm⟩
theorem Zt.kept {d tc : Nat} {ad : Nat → Nat} {A : Nat → Prop} {U : State} {H H1 : Heap} (h : Zt d tc ad A U H) (hq : ∀ a : Nat, a < H.size → ¬ A a → H1[a]? = H[a]?) : Zt d tc ad A U H1 :=
  ⟨h.1.kept hq, h.2.1.kept hq, h.2.2.1.kept hq, h.2.2.2.1.kept hq, h.2.2.2.2.1.kept hq, fun k hk => (h.2.2.2.2.2.1 k hk).kept hq, h.2.2.2.2.2.2.1.kept hq, h.2.2.2.2.2.2.2.kept hq⟩
theorem Zt.narrow {d tc : Nat} {ad : Nat → Nat} {A B : Nat → Prop} {U : State} {H : Heap} (h : Zt d tc ad A U H) (hAB : ∀ q, B q → A q) : Zt d tc ad B U H :=
  ⟨h.1.narrow hAB, h.2.1.narrow hAB, h.2.2.1.narrow hAB, h.2.2.2.1.narrow hAB, h.2.2.2.2.1.narrow hAB, fun k hk => (h.2.2.2.2.2.1 k hk).narrow hAB, h.2.2.2.2.2.2.1.narrow hAB, h.2.2.2.2.2.2.2.narrow hAB⟩
def PZ (dC : Nat → ClassId) (dI : Nat → Nat → Nat) (d tc : Nat) (ad : Nat → Nat) (sz : Nat) (W : va_W) (TY : List (ClassId × FieldType)) (U : State) : Prop := U.heap.size = sz ∧ va_P (dC, dI) vwCl W U.heap ∧ va_K (dC, dI) vwCl TY U ∧ va_D (fun _ => True) W ∧ Ft U ∧ Zt d tc ad (va_A W sz) U U.heap
def PY (dC : Nat → ClassId) (dI : Nat → Nat → Nat) (d tc : Nat) (ad : Nat → Nat) (W : va_W) (TY : List (ClassId × FieldType)) (U : State) : Prop := va_P (dC, dI) vwCl W U.heap ∧ va_K (dC, dI) vwCl TY U ∧ Ft U ∧ Zt d tc ad (fun _ => False) U U.heap
def PE (dC : Nat → ClassId) (dI : Nat → Nat → Nat) (d tc : Nat) (ad : Nat → Nat) (sz : Nat) (W : va_W) (TY : List (ClassId × FieldType)) (v : Nat) (U : State) : Prop := U.heap.size = sz ∧ va_P (dC, dI) vwCl W U.heap ∧ va_K (dC, dI) vwCl TY U ∧ va_D (fun _ => True) W ∧ Ft U ∧ Zt d tc ad (va_A W sz) U U.heap ∧ va_Any "java/lang/Object" U U.heap v
theorem any_moved {E : String} {u U : State} {H : Heap} {a : Nat} (hvm : u.vm.Alike U.vm) (h : va_Any E u H a) : va_Any E U H a := by
  obtain ⟨cell, h1, h2, ⟨k, hk⟩, h4⟩ := h
  obtain ⟨k', hk', -⟩ := hvm.2.2 _ _ hk
  exact ⟨cell, h1, h2, ⟨k', hk'⟩, fun comp hc => by rw [hvm.assignable]; exact h4 comp (by rw [← hvm.findClass]; exact hc)⟩
theorem any_kept {E : String} {U : State} {H H1 : Heap} {a : Nat} (h : va_Any E U H a) (e : H1[a]? = H[a]?) : va_Any E U H1 a := by
  obtain ⟨cell, h1, h2⟩ := h
  exact ⟨cell, by rw [e]; exact h1, h2⟩
theorem PZ_blind {av : List Value} {dC : Nat → ClassId} {dI : Nat → Nat → Nat} {d tc : Nat} {ad : Nat → Nat} {sz : Nat} {W : va_W} {TY : List (ClassId × FieldType)} : FrameBlind (va_Pc av (PZ dC dI d tc ad sz W TY)) := fun a U g mk q => by
  obtain ⟨q0, q1, qP, qK, qD, qF, qZ⟩ := q
  exact ⟨q0, q1, qP, va_K.moved (u := U) (U := U.calling g mk a) (Vm.Alike.refl U.vm) qK, qD, Ft.same (u := U) (U := U.calling g mk a) rfl qF, Zt.moved (u := U) (U := U.calling g mk a) (Vm.Alike.refl U.vm) qZ⟩
theorem PE_blind {av : List Value} {dC : Nat → ClassId} {dI : Nat → Nat → Nat} {d tc : Nat} {ad : Nat → Nat} {sz : Nat} {W : va_W} {TY : List (ClassId × FieldType)} {v : Nat} : FrameBlind (va_Pc av (PE dC dI d tc ad sz W TY v)) := fun a U g mk q => by
  obtain ⟨q0, q1, qP, qK, qD, qF, qZ, qE⟩ := q
  exact ⟨q0, q1, qP, va_K.moved (u := U) (U := U.calling g mk a) (Vm.Alike.refl U.vm) qK, qD, Ft.same (u := U) (U := U.calling g mk a) rfl qF, Zt.moved (u := U) (U := U.calling g mk a) (Vm.Alike.refl U.vm) qZ, any_moved (u := U) (U := U.calling g mk a) (Vm.Alike.refl U.vm) qE⟩
theorem PY_blind {av : List Value} {dC : Nat → ClassId} {dI : Nat → Nat → Nat} {d tc : Nat} {ad : Nat → Nat} {W : va_W} {TY : List (ClassId × FieldType)} : FrameBlind (va_Pc av (PY dC dI d tc ad W TY)) := fun a U g mk q => by
  obtain ⟨q0, qP, qK, qF, qZ⟩ := q
  exact ⟨q0, qP, va_K.moved (u := U) (U := U.calling g mk a) (Vm.Alike.refl U.vm) qK, Ft.same (u := U) (U := U.calling g mk a) rfl qF, Zt.moved (u := U) (U := U.calling g mk a) (Vm.Alike.refl U.vm) qZ⟩
theorem Zt.at {d tc : Nat} {ad : Nat → Nat} {A B : Nat → Prop} {s : State} {H : Heap} {locs : List Loc} (hZ : Zt d tc ad A s s.heap) (hS : va_S A s.heap H locs) (hB : ∀ q, B q → A q) : Zt d tc ad B s H := (hZ.kept (fun a h1 h2 => hS.2.1 a h1 h2)).narrow hB
theorem PZ_pre {av : List Value} {dC : Nat → ClassId} {dI : Nat → Nat → Nat} {d tc : Nat} {ad : Nat → Nat} {W : va_W} {TY : List (ClassId × FieldType)} {s : State} {H : Heap} {A : Nat → Prop} {locs : List Loc} (hP : va_P (dC, dI) vwCl W H) (hK : va_K (dC, dI) vwCl TY s) (hD : va_D A W) (hF : Ft s) (hZ : Zt d tc ad A s s.heap) (hS : va_S A s.heap H locs) (hFc : ∀ q, va_A W H.size q → A q) : ∀ U : State, U.heap = H → s.WarmedH U.vm → va_Pc av (PZ dC dI d tc ad H.size W TY) av.toArray U :=
  fun U hU hW => ⟨rfl, by rw [hU], by rw [hU]; exact hP, va_K.moved hW.alike hK, hD.weaken (fun _ _ _ _ => trivial), hF.warm hW, by rw [hU]; exact Zt.moved hW.alike (hZ.at hS hFc)⟩
theorem PE_pre {av : List Value} {dC : Nat → ClassId} {dI : Nat → Nat → Nat} {d tc : Nat} {ad : Nat → Nat} {W : va_W} {TY : List (ClassId × FieldType)} {v : Nat} {s : State} {H : Heap} {A : Nat → Prop} {locs : List Loc} (hP : va_P (dC, dI) vwCl W H) (hK : va_K (dC, dI) vwCl TY s) (hD : va_D A W) (hF : Ft s) (hZ : Zt d tc ad A s s.heap) (hS : va_S A s.heap H locs) (hFc : ∀ q, va_A W H.size q → A q) (hE : va_Any "java/lang/Object" s H v) : ∀ U : State, U.heap = H → s.WarmedH U.vm → va_Pc av (PE dC dI d tc ad H.size W TY v) av.toArray U :=
  fun U hU hW => ⟨rfl, by rw [hU], by rw [hU]; exact hP, va_K.moved hW.alike hK, hD.weaken (fun _ _ _ _ => trivial), hF.warm hW, by rw [hU]; exact Zt.moved hW.alike (hZ.at hS hFc), by rw [hU]; exact any_moved hW.alike hE⟩
theorem PY_pre {av : List Value} {dC : Nat → ClassId} {dI : Nat → Nat → Nat} {d tc : Nat} {ad : Nat → Nat} {W : va_W} {TY : List (ClassId × FieldType)} {s : State} {H : Heap} {A : Nat → Prop} {locs : List Loc} (hP : va_P (dC, dI) vwCl W H) (hK : va_K (dC, dI) vwCl TY s) (hF : Ft s) (hZ : Zt d tc ad A s s.heap) (hS : va_S A s.heap H locs) : ∀ U : State, U.heap = H → s.WarmedH U.vm → va_Pc av (PY dC dI d tc ad W TY) av.toArray U :=
  fun U hU hW => ⟨rfl, by rw [hU]; exact hP, va_K.moved hW.alike hK, hF.warm hW, by rw [hU]; exact Zt.moved hW.alike (hZ.at hS (fun _ h => h.elim))⟩
/-- an object of the world may lie in a row of Objects -/
theorem any_obj {D : va_G} {ws : va_W} {tys : List (ClassId × FieldType)} {s : State} {H : Heap} {a q0 ci : Nat} {fs : List Value} {r : vw_C} (hF : Ft s) (hK : va_K D vwCl tys s) (hP : va_P D vwCl ws H) (he : ws[q0]? = some (a, .inr (ci, fs))) (hc : vwCl[ci]? = some r) (hr : r.1 ∈ ncL) : va_Any "java/lang/Object" s H a :=
  va_rAny hK hP he hc (vb_asgC (hF.nc _ hr))
theorem vin_lt {x : Int32} {N : Nat} (hN : N < 2 ^ 31) (h0 : ¬ x < 0) (h1 : ¬ nI N ≤ x) : vp_in x N := by
  obtain ⟨j, hj, rfl⟩ := nI_of h0
  exact vp_in_nI (Nat.lt_of_not_le (fun h => h1 (nI_le h hj))) hN
/-- a start with its heap and its written places under names of their own -/
theorem W_gen {p : Program} {l : Launch} {e : Env} {R : Room} {s : State} {m : MethodId} {args : Array Value} {below : List Frame} {meth : Method} {c : Code} {H : Heap} {locs : List Loc} {cells slots : Nat} {Q : State → Prop} {g : JFrame} (k : ∀ (H' : Heap) (locs' : List Loc), H' = H → locs' = locs → W p l e R s m args below meth c H' locs' cells slots Q g) : W p l e R s m args below meth c H locs cells slots Q g := k H locs rfl rfl
theorem i_lt {i N : Nat} {n : Int32} (hi : i ≤ N) (hN : N < 2 ^ 31) (en : n = nI i) (h : ¬ nI N ≤ n) : i < N := by
  rcases Nat.lt_or_ge i N with q | q
  · exact q
  · exact absurd (by rw [en]; exact nI_le q (by omega)) h
theorem i_lt2 {i N : Nat} {n : Int32} (hi : i ≤ N + 1) (hN : N + 1 < 2 ^ 31) (en : n = nI i) (h : ¬ nI N < n) : i < N + 1 := by
  rcases Nat.lt_or_ge i (N + 1) with q | q
  · exact q
  · exact absurd (by rw [en]; exact nI_lt q (by omega)) h
theorem sw_ne8 {x : Int32} (h0 : ¬ x = 0) (h1 : ¬ x = 1) (h2 : ¬ x = 2) (h3 : ¬ x = 3) (h4 : ¬ x = 4) (h5 : ¬ x = 5) (h6 : ¬ x = 6) (h7 : ¬ x = 7) (h8 : ¬ x = 8) : x.toInt < 0 ∨ 8 < x.toInt := by
  rcases pk_ix x (n := 9) (by decide) with h | h | ⟨j, hj, rfl⟩
  · exact Or.inl (by have := Int32.lt_iff_toInt_lt.mp h; simpa using this)
  · exact Or.inr (by have := Int32.le_iff_toInt_le.mp h; rw [nI_toInt (by decide)] at this; omega)
  · exfalso
    match j, hj with
    | 0, _ => exact h0 rfl
    | 1, _ => exact h1 rfl
    | 2, _ => exact h2 rfl
    | 3, _ => exact h3 rfl
    | 4, _ => exact h4 rfl
    | 5, _ => exact h5 rfl
    | 6, _ => exact h6 rfl
    | 7, _ => exact h7 rfl
    | 8, _ => exact h8 rfl
    | j + 9, h => omega
theorem nI_pm (j : Nat) : nI (j + 1) - 1 + (-1) = nI j - 1 := by
  rw [nI_pred]
  show nI j + (-1) = nI j - 1
  rw [Int32.sub_eq_add_neg]
theorem nI_m1_neg : nI 0 - 1 < 0 := by decide
theorem nI_s1 {j : Nat} (hj : j < 2 ^ 31) : ¬ nI (j + 1) - 1 < 0 := by
  rw [nI_pred]
  exact nI_pos hj
