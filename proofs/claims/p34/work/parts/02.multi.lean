/-! new T[n][m] and new T[n][m][k], of which only this is said: the row is there, what was there stays -/
section MNA
variable {p : Program} {l : Launch} {e : Env} {R : Room} {s : State} {m : MethodId} {args : Array Value} {below : List Frame} {meth : Method} {c : Code}
def mk_M (p : Program) (l : Launch) (e : Env) (R : Room) (s : State) (m : MethodId) (args : Array Value) (below : List Frame) (meth : Method) (c : Code) (f : JFrame) (V : Vm) (comp : ClassId) (cs : List Int32) (kc ns : Nat) : Prop :=
  ∀ (T : State) (locs : List Loc) (cells slots : Nat), Stand p l e R s m args below meth c T locs cells slots → T.vm = V → cells + kc ≤ R.cells → slots + ns ≤ R.slots →
  ∀ (E : CtlPost) (d : Bool) (acts : List Action) (Q : Addr → Pre),
    (∀ (a : Addr) (T' : State) (locs' : List Loc) (d' : Bool) (acts' : List Action), Stand p l e R s m args below meth c T' locs' (cells + kc) (slots + ns) → T'.vm = V → T.heap.size ≤ a → T.heap.size ≤ T'.heap.size → (∀ q, q < T.heap.size → T'.heap[q]? = T.heap[q]?) → (∀ x ∈ locs', x ∈ locs ∨ T.heap.size ≤ x.base) → Q a d' acts' (T'.setTop f)) →
    wp (multianewarray.make comp cs) Q E e d acts (T.setTop f)
theorem mk_new {f : JFrame} {T : State} {locs : List Loc} {cells slots : Nat} (X : Stand p l e R s m args below meth c T locs cells slots) {ca comp : ClassId} {k : Class} {type : FieldType} {len : Nat} {init : Value} (hk : T.vm.classes[ca]? = some k) (hkind : k.kind = .array comp type)
    (hl : len ≤ 1000) (hfit : fits type init = true) (hdef : init.isDefault = true) (hcb : componentBytes type ≤ 8) (hc : cells + 1 ≤ R.cells) (hs : slots + len ≤ R.slots) {E : CtlPost} {d : Bool} {acts : List Action} {Q : Addr → Pre}
    (hq : Q T.heap.size d acts ((T.pushCell { cls := ca, slots := Array.replicate len init, vm := .none }).setTop f)) : wp (Jvm.newArray ca len init) Q E e d acts (T.setTop f) := by
  have hfits : ∀ i v, (Array.replicate len init)[i]? = some v → (T.setTop f).fitsSlot ca .none i v = true := by
    intro i v hv
    simp only [Array.getElem?_replicate] at hv
    split at hv
    · cases hv
      simp [State.fitsSlot, State.slotType?, hk, hkind, hfit]
    · cases hv
  have hda : allocActs (Array.replicate len init) (T.setTop f).heap.size acts = acts := by
    have hall : ((Array.replicate len init).all (·.isDefault)) = true := by
      rw [Array.all_replicate]
      split <;> simp [hdef]
    unfold allocActs
    rw [if_pos hall]
  have hl1 : ¬ len > e.platform.arrayLengthLimit := by rw [Launch.admits_arrayLengthLimit X.admits]; omega
  have hb1 : len * componentBytes type ≤ 8000 := Nat.mul_le_mul hl hcb
  have hh1 : ¬ len * componentBytes type > e.platform.maxHeapBytes := by rw [Launch.admits_maxHeapBytes X.admits]; omega
  obtain ⟨r1, r2⟩ := X.roomAbove hc hs
  simp only [Jvm.newArray, Jvm.arrayFits, wp_bind', W.ask, W.ite, hl1, if_false, wp_pure', W.theClass, State.vm_setTop, hk, hkind, hh1, W.alloc, W.stop, Option.some.injEq, exists_eq_left', Array.size_replicate, hda]
  rw [if_neg (by omega)]
  refine ⟨by show T.heap.size < _; omega, by show T.slotsUsed + len ≤ _; omega, hfits, ?_⟩
  rw [State.pushCell_setTop]
  exact hq
theorem mk_one {f : JFrame} {V : Vm} {comp cc : ClassId} {kc : Class} {type : FieldType} {k : Int32} (hkc : V.classes[comp]? = some kc) (hkind : kc.kind = .array cc type) (hm : ¬ k < 0) (hl : k.toNatClampNeg ≤ 1000)
    (hdf : fits type (defaultValue type) = true) (hdd : (defaultValue type).isDefault = true) (hcb : componentBytes type ≤ 8) : mk_M p l e R s m args below meth c f V comp [k] 1 k.toNatClampNeg := by
  intro T locs cells slots X hV hc hs E d acts Q hq
  subst hV
  rw [multianewarray.make]
  simp only [wp_bind', W.ite, hm, if_false, wp_pure', W.theClass, State.vm_setTop, hkc, hkind, Option.some.injEq, exists_eq_left']
  refine mk_new X hkc hkind hl hdf hdd hcb hc hs (hq _ _ _ _ _ ?_ rfl (Nat.le_refl _) ?_ ?_ (fun x hx => Or.inl hx))
  · have h := X.pushed ({ cls := comp, slots := Array.replicate k.toNatClampNeg (defaultValue type), vm := .none } : Cell)
    simpa using h
  · show T.heap.size ≤ (T.heap.push _).size
    rw [Array.size_push]
    omega
  · intro q hq'
    exact State.heap_pushCell_of_lt _ _ hq'
theorem mk_step {f : JFrame} {V : Vm} {ca comp : ClassId} {k : Class} {t0 : FieldType} {n r0 : Int32} {rs : List Int32} {kc ns : Nat} (hk : V.classes[ca]? = some k) (hkind : k.kind = .array comp t0) (href : t0.isReference = true) (hcb : componentBytes t0 ≤ 8)
    (hn : ¬ n < 0) (hl : n.toNatClampNeg ≤ 1000) (hfind : ((r0 :: rs).find? (· < 0)) = none) (hM : mk_M p l e R s m args below meth c f V comp (r0 :: rs) kc ns) :
    mk_M p l e R s m args below meth c f V ca (n :: r0 :: rs) (1 + n.toNatClampNeg * kc) (n.toNatClampNeg + n.toNatClampNeg * ns) := by
  intro T locs cells slots X hV hc hs E d acts Q hq
  have hkT : T.vm.classes[ca]? = some k := by rw [hV]; exact hk
  have hrf : ∀ v : Value, (v = .null ∨ ∃ a, v = .ref a) → fits t0 v = true := by
    intro v hv
    rcases hv with rfl | ⟨a, rfl⟩ <;> cases t0 <;> simp [FieldType.isReference] at href <;> rfl
  rw [multianewarray.make]
  simp only [wp_bind', W.ite, hn, if_false, wp_pure', W.theClass, State.vm_setTop, hkT, hkind, Option.some.injEq, exists_eq_left']
  refine mk_new X hkT hkind hl (hrf _ (Or.inl rfl)) rfl hcb (by omega) (by omega) ?_
  simp only [hfind]
  rw [ite_self, wp_bind', Std.Legacy.Range.forIn_eq_forIn_range']
  have hsz : ([:n.toNatClampNeg] : Std.Legacy.Range).size = n.toNatClampNeg := by simp [Std.Legacy.Range.size]
  rw [hsz]
  show wp (forIn (List.range' 0 n.toNatClampNeg 1) PUnit.unit _) _ E e d acts _
  refine wp_forIn_inv (fun rest s' => ∃ i, i ≤ n.toNatClampNeg ∧ rest = List.range' i (n.toNatClampNeg - i) ∧ ∃ (T' : State) (locs' : List Loc), s' = T'.setTop f ∧ Stand p l e R s m args below meth c T' locs' (cells + 1 + i * kc) (slots + n.toNatClampNeg + i * ns) ∧ T'.vm = V ∧ T.heap.size < T'.heap.size ∧ (∀ q, q < T.heap.size → T'.heap[q]? = T.heap[q]?) ∧ (∃ oc : Cell, T'.heap[T.heap.size]? = some oc ∧ oc.cls = ca ∧ oc.vm = .none ∧ oc.slots.size = n.toNatClampNeg) ∧ (∀ x ∈ locs', x ∈ locs ∨ T.heap.size ≤ x.base)) _ _ ?_ ?_ ?_
  · refine ⟨0, Nat.zero_le _, rfl, _, locs, rfl, ?_, hV, ?_, fun q hq' => State.heap_pushCell_of_lt _ _ hq', ⟨_, State.heap_pushCell_size _ _, rfl, rfl, by simp⟩, fun x hx => Or.inl hx⟩
    · have h := X.pushed ({ cls := ca, slots := Array.replicate n.toNatClampNeg .null, vm := .none } : Cell)
      simpa using h
    · show T.heap.size < (T.heap.push _).size
      rw [Array.size_push]
      omega
  · rintro x rest s' d' acts' Q' ⟨i, hi, hls, T', locs', rfl, X', hV', hlt', hold, ⟨oc, ho, o1, o2, o3⟩, hlo⟩ hnext
    have hlt : i < n.toNatClampNeg := by
      rcases Nat.lt_or_ge i n.toNatClampNeg with h | h
      · exact h
      · rw [show n.toNatClampNeg - i = 0 from by omega] at hls
        simp at hls
    obtain ⟨rfl, hrest⟩ : x = i ∧ rest = List.range' (i + 1) (n.toNatClampNeg - (i + 1)) := by
      rw [show n.toNatClampNeg - i = (n.toNatClampNeg - (i + 1)) + 1 from by omega, List.range'_succ] at hls
      exact ⟨(List.cons.inj hls).1, (List.cons.inj hls).2⟩
    have hmk : x * kc + kc ≤ n.toNatClampNeg * kc := by
      have := Nat.mul_le_mul_right kc (show x + 1 ≤ n.toNatClampNeg from hlt)
      rw [Nat.succ_mul] at this
      exact this
    have hms : x * ns + ns ≤ n.toNatClampNeg * ns := by
      have := Nat.mul_le_mul_right ns (show x + 1 ≤ n.toNatClampNeg from hlt)
      rw [Nat.succ_mul] at this
      exact this
    simp only [wp_bind']
    refine hM T' locs' _ _ X' hV' (by omega) (by omega) E d' acts' _ (fun a T2 locs2 d2 acts2 X2 hV2 ha hz2 hold2 hlo2 => ?_)
    have ho2 : T2.heap[T.heap.size]? = some oc := (hold2 _ hlt').trans ho
    simp only [wp_bind', W.writeLoc, wp_pure']
    refine ⟨oc, ho2, by rw [o2]; simp, by rw [o3]; exact hlt, ?_, hnext _ _ _ ⟨x + 1, hlt, hrest, T2.setCell T.heap.size (oc.setSlot x (.ref a)), locs2 ++ [⟨T.heap.size, x⟩], ?_, ?_, hV2, ?_, ?_, ?_, ?_⟩⟩
    · rw [o1, o2]
      have hk2 : T2.vm.classes[ca]? = some k := by rw [hV2]; exact hk
      simp [State.fitsSlot, State.slotType?, hk2, hkind, hrf _ (Or.inr ⟨a, rfl⟩)]
    · rw [State.setCell_setTop]
    · have h := X2.stored ho2 x (.ref a)
      have e1 : cells + 1 + (x + 1) * kc = cells + 1 + x * kc + kc := by rw [Nat.succ_mul]; omega
      have e2 : slots + n.toNatClampNeg + (x + 1) * ns = slots + n.toNatClampNeg + x * ns + ns := by rw [Nat.succ_mul]; omega
      rw [e1, e2]
      exact h
    · show T.heap.size < (T2.setCell _ _).heap.size
      simp [State.setCell]
      omega
    · intro q hq'
      rw [State.heap_setCell_other (Nat.ne_of_gt hq'), hold2 q (by omega)]
      exact hold q hq'
    · exact ⟨_, State.heap_setCell_self ho2, by simp [Cell.setSlot, o1], by simp [Cell.setSlot, o2], by simp [Cell.setSlot, o3]⟩
    · intro y hy
      rcases List.mem_append.mp hy with h | h
      · rcases hlo2 y h with h | h
        · exact hlo y h
        · exact Or.inr (by omega)
      · rw [List.mem_singleton.mp h]
        exact Or.inr (Nat.le_refl _)
  · rintro s' d' acts' ⟨i, hi, hls, T', locs', rfl, X', hV', hlt', hold, -, hlo⟩
    have hiN : i = n.toNatClampNeg := by
      rcases Nat.lt_or_ge i n.toNatClampNeg with h | h
      · rw [show n.toNatClampNeg - i = (n.toNatClampNeg - (i + 1)) + 1 from by omega, List.range'_succ] at hls
        cases hls
      · omega
    subst hiN
    simp only [wp_pure']
    refine hq _ T' locs' d' acts' ?_ hV' (Nat.le_refl _) (by omega) hold hlo
    rw [show cells + (1 + n.toNatClampNeg * kc) = cells + 1 + n.toNatClampNeg * kc by omega, show slots + (n.toNatClampNeg + n.toNatClampNeg * ns) = slots + n.toNatClampNeg + n.toNatClampNeg * ns by omega]
    exact X'
end MNA
section MNB
variable {p : Program} {l : Launch} {e : Env} {R : Room} {s : State} {m : MethodId} {args : Array Value} {below : List Frame} {meth : Method} {c : Code} {H : Heap} {locs : List Loc} {cells slots : Nat} {Q : State → Prop}
/-- one instruction, when the end isn't known yet -/
theorem mk_instr {tb : Tables} [Ours tb] {T : State} {f : JFrame} (h : At T f.method c below)
    (hw : match decode c.code f.pc with
      | .ok (i, len) => wpRun (tb.exec i)
          (fun _ s₁ _ => ∀ acts, ∃ t, Steps tb e below (afterInstr e len (.ok () s₁ acts)).1 t ∧ Q t)
          (fun x s₁ _ => ∀ acts, ∃ t, Steps tb e below (afterInstr e len (.ctl x s₁ acts)).1 t ∧ Q t) e (T.setTop f)
      | .error _ => False) : ∃ t, Steps tb e below (T.setTop f) t ∧ Q t := by
  rcases hd : decode c.code f.pc with x | ⟨i, len⟩
  · rw [hd] at hw
    exact hw.elim
  · rw [hd] at hw
    have hw := (wpRun_iff_run _ _ _ _ _).mp hw
    have key : ∃ t, Steps tb e below (stepThread tb e (T.setTop f)).1 t ∧ Q t := by
      rw [stepThread_java (State.frames_setTop' f h.top) h.plain h.code hd]
      cases hr : (tb.exec i).run e (T.setTop f) with
      | ok a s₁ acts =>
        rw [hr] at hw
        exact hw acts
      | ctl x s₁ acts =>
        rw [hr] at hw
        cases x <;> first | exact hw acts | exact hw.elim
    obtain ⟨t, h1, h2⟩ := key
    exact ⟨t, Steps.head ⟨h.running, by rw [State.curStatus?_setTop]; exact h.runnable, by rw [State.alone_setTop]; exact h.alone⟩ (h.within f) h1, h2⟩
variable {cc : ByteArray} {pc : Nat} {ls : Array Slot} {rest : List Value} {D : va_G} {cl : List vw_C} {A : Nat → Prop} {ws : va_W} {H0 : Heap}
theorem mk_W2 {nm own : String} {index : Nat} {cA : ClassId} {n1 n2 : Int32} {kc ns : Nat} (hexec : p.tables.exec = Jvm.exec) (hb : c.code = cc) (hown : s.vm.findClass own = some m.cls) (hclink : (Cond.classLink own index nm).before args s = true) (hcA : s.vm.findClass nm = some cA)
    (hM : ∀ (f : JFrame) (V : Vm), s.vm.Alike V → mk_M p l e R s m args below meth c f V cA [n1, n2] kc ns) (hdg : decode cc pc = .ok (.multianewarray index 2, 4)) (hcells : cells + kc ≤ R.cells) (hslots : slots + ns ≤ R.slots)
    (hP : va_P D cl ws H) (hS : va_S A H0 H locs) (hA : ∀ q, H0.size ≤ q → A q)
    (kk : ∀ (q : Nat) (H1 : Heap) (locs1 : List Loc), va_P D cl ws H1 → va_S A H0 H1 locs1 → W p l e R s m args below meth c H1 locs1 (cells + kc) (slots + ns) Q (F0 m (pc + 4) ls (.ref q :: rest))) : W p l e R s m args below meth c H locs cells slots Q (F0 m pc ls (.int n2 :: .int n1 :: rest)) := by
  intro T hT X
  subst hb
  have hpl : e.platform.magicAccessors = ({} : Platform).magicAccessors := by rw [X.admits.platform]
  obtain ⟨c0, hfc0, hcl⟩ := Cond.classLink_spec hown hclink e.platform hpl
  cases hcA.symm.trans hfc0
  obtain ⟨hg₁, hwarm₁, hready₁⟩ := State.classEntry (e := e) X.warmed hcl
  generalize T.vm.noted m.cls index (.cls cA) = vm₁ at hg₁ hwarm₁ hready₁
  have X₁ := X.noted hwarm₁
  have key : ∀ (a : Addr) (T' : State) (locs' : List Loc), Stand p l e R s m args below meth c T' locs' (cells + kc) (slots + ns) → T.heap.size ≤ T'.heap.size → (∀ q, q < T.heap.size → T'.heap[q]? = T.heap[q]?) → (∀ x ∈ locs', x ∈ locs ∨ T.heap.size ≤ x.base) → ∃ t, Steps p.tables e below (T'.setTop (F0 m (pc + 4) ls (.ref a :: rest))) t ∧ Q t := by
    intro a T' locs' X' hz hold hlo
    rw [hT] at hz hold hlo
    have hP' : va_P D cl ws T'.heap := hP.kept (fun k q hq => hold q.1 (hP k q hq).lt)
    have hS' : va_S A H0 T'.heap locs' := ⟨Nat.le_trans hS.1 hz, fun q h1 h2 => (hold q (Nat.lt_of_lt_of_le h1 hS.1)).trans (hS.2.1 q h1 h2), fun x hx => by
      rcases hlo x hx with h | h
      · exact hS.2.2 x h
      · exact hA _ (Nat.le_trans hS.1 h)⟩
    exact kk a T'.heap locs' hP' hS' T' rfl X'
  refine mk_instr (f := F0 m pc ls (.int n2 :: .int n1 :: rest)) (by simpa using X.here) ?_
  simp [jvm, wpRun, exec, X.here.top, hexec, hdg]
  simp only [multianewarray.sem, wp_bind', W.resolveClassAt_links (State.method?_setTop (F0 m pc ls (.int n2 :: .int n1 :: rest)) X.here.top) hg₁]
  rw [W.popN, if_neg (by decide)]
  refine ⟨F0 m pc ls (.int n2 :: .int n1 :: rest), State.topJava?_setTop' (s := T.setVm vm₁) _ X.here.top, [.int n1, .int n2], rest, rfl, rfl, ?_⟩
  simp only [List.mapM_cons, List.mapM_nil, wp_bind', wp_pure']
  have eS : ((T.setTop (F0 m pc ls (.int n2 :: .int n1 :: rest))).setVm vm₁).setTop (F0 m pc ls rest) = (T.setVm vm₁).setTop (F0 m pc ls rest) := by
    show ((T.setVm vm₁).setTop (F0 m pc ls (.int n2 :: .int n1 :: rest))).setTop _ = _
    rw [State.setTop_setTop]
  rw [eS]
  refine hM (F0 m pc ls rest) vm₁ hwarm₁.alike (T.setVm vm₁) locs cells slots X₁ rfl hcells hslots _ _ _ _ (fun a T' locs' d' acts' X' hV' ha hz hold hlo => ?_)
  simp only [wp_bind', W.mark, W.pushRef, State.topJava?_setTop' _ X'.here.top, Option.some.injEq, exists_eq_left', State.setTop_setTop]
  intro acts
  simp [jvm, X'.here.top]
  exact key a T' locs' X' hz hold hlo
theorem mk_W3 {nm own : String} {index : Nat} {cA : ClassId} {n1 n2 n3 : Int32} {kc ns : Nat} (hexec : p.tables.exec = Jvm.exec) (hb : c.code = cc) (hown : s.vm.findClass own = some m.cls) (hclink : (Cond.classLink own index nm).before args s = true) (hcA : s.vm.findClass nm = some cA)
    (hM : ∀ (f : JFrame) (V : Vm), s.vm.Alike V → mk_M p l e R s m args below meth c f V cA [n1, n2, n3] kc ns) (hdg : decode cc pc = .ok (.multianewarray index 3, 4)) (hcells : cells + kc ≤ R.cells) (hslots : slots + ns ≤ R.slots)
    (hP : va_P D cl ws H) (hS : va_S A H0 H locs) (hA : ∀ q, H0.size ≤ q → A q)
    (kk : ∀ (q : Nat) (H1 : Heap) (locs1 : List Loc), va_P D cl ws H1 → va_S A H0 H1 locs1 → W p l e R s m args below meth c H1 locs1 (cells + kc) (slots + ns) Q (F0 m (pc + 4) ls (.ref q :: rest))) : W p l e R s m args below meth c H locs cells slots Q (F0 m pc ls (.int n3 :: .int n2 :: .int n1 :: rest)) := by
  intro T hT X
  subst hb
  have hpl : e.platform.magicAccessors = ({} : Platform).magicAccessors := by rw [X.admits.platform]
  obtain ⟨c0, hfc0, hcl⟩ := Cond.classLink_spec hown hclink e.platform hpl
  cases hcA.symm.trans hfc0
  obtain ⟨hg₁, hwarm₁, hready₁⟩ := State.classEntry (e := e) X.warmed hcl
  generalize T.vm.noted m.cls index (.cls cA) = vm₁ at hg₁ hwarm₁ hready₁
  have X₁ := X.noted hwarm₁
  have key : ∀ (a : Addr) (T' : State) (locs' : List Loc), Stand p l e R s m args below meth c T' locs' (cells + kc) (slots + ns) → T.heap.size ≤ T'.heap.size → (∀ q, q < T.heap.size → T'.heap[q]? = T.heap[q]?) → (∀ x ∈ locs', x ∈ locs ∨ T.heap.size ≤ x.base) → ∃ t, Steps p.tables e below (T'.setTop (F0 m (pc + 4) ls (.ref a :: rest))) t ∧ Q t := by
    intro a T' locs' X' hz hold hlo
    rw [hT] at hz hold hlo
    have hP' : va_P D cl ws T'.heap := hP.kept (fun k q hq => hold q.1 (hP k q hq).lt)
    have hS' : va_S A H0 T'.heap locs' := ⟨Nat.le_trans hS.1 hz, fun q h1 h2 => (hold q (Nat.lt_of_lt_of_le h1 hS.1)).trans (hS.2.1 q h1 h2), fun x hx => by
      rcases hlo x hx with h | h
      · exact hS.2.2 x h
      · exact hA _ (Nat.le_trans hS.1 h)⟩
    exact kk a T'.heap locs' hP' hS' T' rfl X'
  refine mk_instr (f := F0 m pc ls (.int n3 :: .int n2 :: .int n1 :: rest)) (by simpa using X.here) ?_
  simp [jvm, wpRun, exec, X.here.top, hexec, hdg]
  simp only [multianewarray.sem, wp_bind', W.resolveClassAt_links (State.method?_setTop (F0 m pc ls (.int n3 :: .int n2 :: .int n1 :: rest)) X.here.top) hg₁]
  rw [W.popN, if_neg (by decide)]
  refine ⟨F0 m pc ls (.int n3 :: .int n2 :: .int n1 :: rest), State.topJava?_setTop' (s := T.setVm vm₁) _ X.here.top, [.int n1, .int n2, .int n3], rest, rfl, rfl, ?_⟩
  simp only [List.mapM_cons, List.mapM_nil, wp_bind', wp_pure']
  have eS : ((T.setTop (F0 m pc ls (.int n3 :: .int n2 :: .int n1 :: rest))).setVm vm₁).setTop (F0 m pc ls rest) = (T.setVm vm₁).setTop (F0 m pc ls rest) := by
    show ((T.setVm vm₁).setTop (F0 m pc ls (.int n3 :: .int n2 :: .int n1 :: rest))).setTop _ = _
    rw [State.setTop_setTop]
  rw [eS]
  refine hM (F0 m pc ls rest) vm₁ hwarm₁.alike (T.setVm vm₁) locs cells slots X₁ rfl hcells hslots _ _ _ _ (fun a T' locs' d' acts' X' hV' ha hz hold hlo => ?_)
  simp only [wp_bind', W.mark, W.pushRef, State.topJava?_setTop' _ X'.here.top, Option.some.injEq, exists_eq_left', State.setTop_setTop]
  intro acts
  simp [jvm, X'.here.top]
  exact key a T' locs' X' hz hold hlo
end MNB
