/-! the law on one script, in a larger room, with how much it makes at the least -/
def R_law : String := "ExamHallsLaw"
def bigR : Room := { frames := 21, cells := 840000, slots := 4000000, locals := 838 }
def scf : Nat → Int32 := fun j => if j < 35 then 0 else if j % 5 = 0 then 14 else 0
def sc : List Int32 := (List.range 2310).map scf
theorem scf_0 {j : Nat} (h : j < 35) : scf j = 0 := if_pos h
theorem scf_14 {t : Nat} (h : 7 ≤ t) : scf (5 * t) = 14 := by
  unfold scf
  rw [if_neg (by omega), if_pos (by omega)]
def lw_P (b : Addr) (args : Array Value) (s : State) : Prop := args = #[.ref b] ∧ s.IntsAt b sc ∧ (Jvm.Cond.and given_1 narrow_1).before args s = true
def lw_Q (_ : Array Value) (s : State) (o : Outcome) (t : State) : Prop := o = .returned (some (.int 1)) ∧ s.heap.size + 812175 ≤ t.heap.size
def lw_Z (below : List Frame) (a : Array Value) (s : State) : State → Prop := fun t => ∃ o, t.status = .running ∧ Ended t below o ∧ lw_Q a s o t
/-- the law's own end, with 1 on the stack, nothing written that was there before, its room as the claim has it -/
theorem lw_ret {p : Program} {l : Launch} {e : Env} {s : State} {m : MethodId} {below : List Frame} {meth : Method} {c : Code} {b : Nat} (hx : p.tables.exec = Jvm.exec) (hb : c.code = code) (hr : meth.sig.returnType = ret) (hlocks : meth.locks = false) {pc : Nat} {H : Heap} (hG : s.heap.size + 812175 ≤ H.size) {ls : Array Slot} (hdg : decode code pc = .ok (.ireturn, 1)) : W p l e bigR s m #[Value.ref b] below meth c H [] 840000 4000000 (lw_Z below #[Value.ref b] s) (F0 m pc ls [.int 1]) := by
  intro T hT X
  obtain ⟨fs, hret, hrun, hended, hW, hframe⟩ := X.leave (v := some (.int 1)) (hlocks := hlocks) (fun h => by rw [hr] at h; cases h)
  have hmeth' : T.vm.method? m = some meth := X.method'
  refine ⟨T.setFrames fs, ?_, .returned (some (.int 1)), hrun, hended, rfl, by show s.heap.size + 812175 ≤ T.heap.size; rw [hT]; exact hG⟩
  jvm_step X.here [X.here.top, hx, hb, hdg, hmeth', hr, ret, narrow_b1]
  (try refine ⟨rfl, ?_⟩); (try refine ⟨rfl, ?_⟩)
  first | (intro acts; rw [hret _ acts rfl rfl rfl]) | rw [hret _ _ rfl rfl rfl]
  exact Steps.refl _
/-- what holds at the law's entry: the machine, the code, the tables' words (any of lw_tbl by 'hts w (by decide +kernel)'), the script of L ints xs at the cell b, what the Statement gives of the start (any of its parts by flat_of_before) -/
def lw_At (p : Program) (s : State) (m : MethodId) (meth : Method) (c : Code) (b L : Nat) (xs : Nat → Int32) : Prop :=
  p.tables.exec = Jvm.exec ∧ c.code = code ∧ meth.sig.returnType = ret ∧ c.maxLocals = 4 ∧ s.vm.findClass R_law = some m.cls ∧ (∀ w ∈ lw_tbl, w.before #[Value.ref b] s = true) ∧ va_X b L xs s s.heap ∧ b < s.heap.size ∧ meth.locks = false ∧ (Jvm.Cond.and given_1 narrow_1).before #[Value.ref b] s = true
theorem ft_ao_of {args : Array Value} {s : State} {t : FieldType} (h : (Cond.arrayOver (.array t)).before args s = true) : ft_ao t s := by
  have h : (Cond.arrayOver (.array t)).holds args s none s [] = true := h
  simp only [Cond.holds, Cond.value, beq_iff_eq] at h
  cases hc : s.vm.findClass (FieldType.array t).toString with
  | none => simp [hc] at h
  | some comp =>
    simp only [hc, Option.bind_some, Option.bind_eq_some_iff, Option.map_eq_some_iff] at h
    obtain ⟨c, hi, k, hk, hb⟩ := h
    obtain ⟨hlt, hp, -⟩ := Array.findIdx?_eq_some_iff_getElem.mp hi
    have hkk : s.vm.classes[c] = k := (Array.getElem?_eq_some_iff.mp hk).2
    rw [hkk] at hp
    cases hkind : k.kind with
    | array component ty =>
      rw [hkind] at hb hp
      simp at hb hp
      exact ⟨comp, c, k, hc, hk, by rw [hkind, hp, hb.1], hb.2⟩
    | _ =>
      rw [hkind] at hb
      simp at hb
theorem ft_nm_in : ∀ q ∈ nmL, Cond.methodLinkNest q.1 q.2.1 q.2.2.1 q.2.2.2 ∈ lw_tbl := by decide +kernel
theorem ft_nf_in : ∀ q ∈ nfL, Cond.fieldLinkNest q.1 q.2.1 q.2.2.1 q.2.2.2.1 q.2.2.2.2.1 q.2.2.2.2.2 ∈ lw_tbl := by decide +kernel
theorem ft_nc_in : ∀ q ∈ ncL, Cond.castable q q9_Obj ∈ lw_tbl := by decide +kernel
theorem ft_fw_in : ∀ q ∈ fwL, Cond.declares q.2.1 ∈ lw_tbl ∧ Cond.interfaceMethod q.2.1.cls q.2.1.cls q.2.1.name q.2.1.desc ∈ lw_tbl ∧ Cond.publicMethod q.2.2 ∈ lw_tbl ∧ Cond.unhidden q.1 q.2.1.name q.2.1.desc ∈ lw_tbl ∧ Cond.castable q.1 q.2.1.cls ∈ lw_tbl := by decide +kernel
theorem ft_ao_in : ∀ q ∈ aoL, Cond.arrayOver (.object q) ∈ lw_tbl := by decide +kernel
theorem ft_a1_in : Cond.arrayOver (.array .boolean) ∈ lw_tbl ∧ Cond.arrayOver (.array (.array .boolean)) ∈ lw_tbl ∧ Cond.arrayClass .boolean ∈ lw_tbl ∧ Cond.classLink "ExamHallsModel$Candidate" 18 "[[[Z" ∈ lw_tbl := by decide +kernel
theorem ft_of {args : Array Value} {s : State} (hts : ∀ w ∈ lw_tbl, w.before args s = true) : Ft s := by
  refine ⟨fun q hq => va_Nw.of rfl (hts _ (ft_nm_in q hq)), fun q hq => va_Nw.of rfl (hts _ (ft_nf_in q hq)), fun q hq => va_Nw.of rfl (hts _ (ft_nc_in q hq)), fun q hq => ?_, fun q hq => va_AO.of (hts _ (ft_ao_in q hq)), ft_ao_of (hts _ ft_a1_in.1), ft_ao_of (hts _ ft_a1_in.2.1), ?_, va_Nw.of rfl (hts _ ft_a1_in.2.2.2)⟩
  · obtain ⟨h1, h2, h3, h4, h5⟩ := ft_fw_in q hq
    exact va_Fw.of (hts _ h1) (hts _ h2) (hts _ h3) (hts _ h4) (hts _ h5)
  · obtain ⟨c, k, cc, h1, h2, h3⟩ := Cond.arrayClass_spec (hts _ ft_a1_in.2.2.1)
    exact ⟨c, k, cc, h1, h2, h3⟩
theorem st_in : Cond.laysStatic "java/util/ArrayList" "DEFAULTCAPACITY_EMPTY_ELEMENTDATA" "[Ljava/lang/Object;" ∈ lw_tbl ∧ Cond.initialized "java/util/ArrayList" ∈ lw_tbl ∧ Cond.laysStatic "java/lang/Integer$IntegerCache" "high" "I" ∈ lw_tbl ∧ Cond.initialized "java/lang/Integer$IntegerCache" ∈ lw_tbl ∧ Cond.laysStatic "java/lang/Integer$IntegerCache" "cache" "[Ljava/lang/Integer;" ∈ lw_tbl ∧ Cond.laysStatic "java/lang/String" "COMPACT_STRINGS" "Z" ∈ lw_tbl ∧ Cond.initialized "java/lang/String" ∈ lw_tbl ∧ Cond.laysStatic "jdk/internal/util/Preconditions" "SIOOBE_FORMATTER" "Ljava/util/function/BiFunction;" ∈ lw_tbl ∧ Cond.initialized "jdk/internal/util/Preconditions" ∈ lw_tbl := by decide +kernel
def zAL : Term := .static "java/util/ArrayList" "DEFAULTCAPACITY_EMPTY_ELEMENTDATA" "[Ljava/lang/Object;"
def zIC : Term := .static "java/lang/Integer$IntegerCache" "cache" "[Ljava/lang/Integer;"
theorem zt_of {args : Array Value} {s : State} {A : Nat → Prop} (hts : ∀ w ∈ lw_tbl, w.before args s = true) (hgv : (Jvm.Cond.and given_1 narrow_1).before args s = true) (hA : ∀ a : Nat, a < s.heap.size → ¬ A a) : ∃ (d tc : Nat) (ad : Nat → Nat), Zt d tc ad A s s.heap := by
  have hs := flat_of_before _ hgv
  obtain ⟨i1, i2, i3, i4, i5, i6, i7, i8, i9⟩ := st_in
  have a1 : (Cond.arrayOf zAL (.object "java/lang/Object")).before args s = true := hs _ (by decide +kernel)
  have a2 : (Cond.eq (.length zAL) (.int 0)).before args s = true := hs _ (by decide +kernel)
  have b1 : (Cond.eq (.static "java/lang/Integer$IntegerCache" "high" "I") (.int 127)).before args s = true := hs _ (by decide +kernel)
  have c1 : (Cond.arrayOf zIC (.object "java/lang/Integer")).before args s = true := hs _ (by decide +kernel)
  have c2 : (Cond.eq (.length zIC) (.int 256)).before args s = true := hs _ (by decide +kernel)
  have c3 : (Cond.all zIC (.and (.exactly (.elem zIC (.index 0)) "java/lang/Integer") (.eq (.field (.elem zIC (.index 0)) "java/lang/Integer" "value" "I") (.sub (.index 0) (.int 128))))).before args s = true := hs _ (by decide +kernel)
  have d1 : (Cond.eq (.static "java/lang/String" "COMPACT_STRINGS" "Z") (.int 1)).before args s = true := hs _ (by decide +kernel)
  have e1 : (Cond.isRef (.static "jdk/internal/util/Preconditions" "SIOOBE_FORMATTER" "Ljava/util/function/BiFunction;")).before args s = true := hs _ (by decide +kernel)
  obtain ⟨d, hd1, hd2⟩ := va_Tof (N := 0) (f := fun _ => .null) (A := A) (by decide) a1 (va_eqt a2) (fun j hj => absurd hj (Nat.not_lt_zero _)) hA
  obtain ⟨ad, had, hel⟩ := vb_Cof (A := A) (st := zIC) rfl (va_eqt c2) c3 hA
  obtain ⟨tc, ht1, ht2⟩ := va_Tof (N := 256) (f := fun j => .ref (ad j)) (A := A) (by decide) c1 (va_eqt c2) hel hA
  exact ⟨d, tc, ad, va_Zref (hts _ i1) (hts _ i2) hd1 hA, hd2, va_Zof (hts _ i3) (hts _ i4) (va_eqi b1) hA, va_Zref (hts _ i5) (hts _ i4) ht1 hA, ht2, had.1, va_Zof (hts _ i6) (hts _ i7) (va_eqi d1) hA, va_Zqof (hts _ i8) (hts _ i9) e1 hA⟩
theorem in_inst : Cond.instantiable RJ0 4 ∈ lw_tbl ∧ Cond.instantiable RJ4 4 ∈ lw_tbl ∧ Cond.instantiable RJ6 1 ∈ lw_tbl ∧ Cond.instantiable RJxc9f04 5 ∈ lw_tbl ∧ Cond.instantiable RJx4a65c 3 ∈ lw_tbl ∧ Cond.instantiable RX0 10 ∈ lw_tbl ∧ Cond.instantiable RX1 3 ∈ lw_tbl ∧ Cond.instantiable RX2 8 ∈ lw_tbl ∧ Cond.instantiable RX3 3 ∈ lw_tbl ∧ Cond.instantiable RX4 2 ∈ lw_tbl ∧ Cond.instantiable RX5 14 ∈ lw_tbl ∧ Cond.instantiable RX6 7 ∈ lw_tbl ∧ Cond.instantiable RX7 2 ∈ lw_tbl ∧ Cond.instantiable RX8 2 ∈ lw_tbl ∧ Cond.instantiable RX9 13 ∈ lw_tbl := by decide +kernel
theorem kn_of {args : Array Value} {s : State} (hts : ∀ w ∈ lw_tbl, w.before args s = true) : ∃ (dC : Nat → ClassId) (dI : Nat → Nat → Nat), ∀ (k : Nat) (q : vw_C), vwCl[k]? = some q → u_Kn s q.1 q.2.1 q.2.2 (dC k) (dI k) := by
  obtain ⟨z0, z1, z2, z3, z4, z5, z6, z7, z8, z9, z10, z11, z12, z13, z14⟩ := in_inst
  obtain ⟨c0, iS0, hKn0⟩ := u_known (C := RJ0) (T := TJ0) (N := 4) (n := 4) hts inlJ0 (hts _ z0)
  obtain ⟨c1, iS1, hKn1⟩ := u_known (C := RJ4) (T := TJ4) (N := 4) (n := 4) hts inlJ4 (hts _ z1)
  obtain ⟨c2, iS2, hKn2⟩ := u_known (C := RJ6) (T := TJ6) (N := 1) (n := 1) hts inlJ6 (hts _ z2)
  obtain ⟨c3, iS3, hKn3⟩ := u_known (C := RJxc9f04) (T := TJxc9f04) (N := 5) (n := 5) hts inlJxc9f04 (hts _ z3)
  obtain ⟨c4, iS4, hKn4⟩ := u_known (C := RJx4a65c) (T := TJx4a65c) (N := 3) (n := 3) hts inlJx4a65c (hts _ z4)
  obtain ⟨c5, iS5, hKn5⟩ := u_known (C := RX0) (T := TX0) (N := 10) (n := 10) hts inlX0 (hts _ z5)
  obtain ⟨c6, iS6, hKn6⟩ := u_known (C := RX1) (T := TX1) (N := 3) (n := 3) hts inlX1 (hts _ z6)
  obtain ⟨c7, iS7, hKn7⟩ := u_known (C := RX2) (T := TX2) (N := 8) (n := 8) hts inlX2 (hts _ z7)
  obtain ⟨c8, iS8, hKn8⟩ := u_known (C := RX3) (T := TX3) (N := 3) (n := 3) hts inlX3 (hts _ z8)
  obtain ⟨c9, iS9, hKn9⟩ := u_known (C := RX4) (T := TX4) (N := 2) (n := 2) hts inlX4 (hts _ z9)
  obtain ⟨c10, iS10, hKn10⟩ := u_known (C := RX5) (T := TX5) (N := 14) (n := 14) hts inlX5 (hts _ z10)
  obtain ⟨c11, iS11, hKn11⟩ := u_known (C := RX6) (T := TX6) (N := 7) (n := 7) hts inlX6 (hts _ z11)
  obtain ⟨c12, iS12, hKn12⟩ := u_known (C := RX7) (T := TX7) (N := 2) (n := 2) hts inlX7 (hts _ z12)
  obtain ⟨c13, iS13, hKn13⟩ := u_known (C := RX8) (T := TX8) (N := 2) (n := 2) hts inlX8 (hts _ z13)
  obtain ⟨c14, iS14, hKn14⟩ := u_known (C := RX9) (T := TX9) (N := 13) (n := 13) hts inlX9 (hts _ z14)
  refine ⟨fun k => if k = 0 then c0 else if k = 1 then c1 else if k = 2 then c2 else if k = 3 then c3 else if k = 4 then c4 else if k = 5 then c5 else if k = 6 then c6 else if k = 7 then c7 else if k = 8 then c8 else if k = 9 then c9 else if k = 10 then c10 else if k = 11 then c11 else if k = 12 then c12 else if k = 13 then c13 else c14, fun k => if k = 0 then iS0 else if k = 1 then iS1 else if k = 2 then iS2 else if k = 3 then iS3 else if k = 4 then iS4 else if k = 5 then iS5 else if k = 6 then iS6 else if k = 7 then iS7 else if k = 8 then iS8 else if k = 9 then iS9 else if k = 10 then iS10 else if k = 11 then iS11 else if k = 12 then iS12 else if k = 13 then iS13 else iS14, ?_⟩
  intro k q hq
  match k, hq with
  | 0, hq => cases hq; exact hKn0
  | 1, hq => cases hq; exact hKn1
  | 2, hq => cases hq; exact hKn2
  | 3, hq => cases hq; exact hKn3
  | 4, hq => cases hq; exact hKn4
  | 5, hq => cases hq; exact hKn5
  | 6, hq => cases hq; exact hKn6
  | 7, hq => cases hq; exact hKn7
  | 8, hq => cases hq; exact hKn8
  | 9, hq => cases hq; exact hKn9
  | 10, hq => cases hq; exact hKn10
  | 11, hq => cases hq; exact hKn11
  | 12, hq => cases hq; exact hKn12
  | 13, hq => cases hq; exact hKn13
  | 14, hq => cases hq; exact hKn14
  | k + 15, hq => simp [vwCl] at hq
