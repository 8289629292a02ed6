/-! new boolean[n][m][k] with what it holds: every row is there, of its length, each cell once -/
def mn_1 (c1 : ClassId) (n : Nat) (L : va_W) (a : Nat) : Prop := (a, (.inl (c1, n, .inl (fun _ => 0)) : va_E)) ∈ L
def mn_s (ca : ClassId) (n : Nat) (P : va_W → Nat → Prop) (L : va_W) (a : Nat) : Prop := ∃ f : Nat → Option Nat, (a, (.inl (ca, n, .inr (.inr (.inr (.inr f)))) : va_E)) ∈ L ∧ ∀ j, j < n → ∃ b, f j = some b ∧ P L b
def mn_up (P : va_W → Nat → Prop) : Prop := ∀ (L L' : va_W) (a : Nat), (∀ q ∈ L, q ∈ L') → P L a → P L' a
theorem mn_1_up {c1 : ClassId} {n : Nat} : mn_up (mn_1 c1 n) := fun _ _ _ h p => h _ p
theorem mn_s_up {ca : ClassId} {n : Nat} {P : va_W → Nat → Prop} (hP : mn_up P) : mn_up (mn_s ca n P) := fun L L' a h p => by
  obtain ⟨f, h1, h2⟩ := p
  exact ⟨f, h _ h1, fun j hj => by obtain ⟨b, e, p⟩ := h2 j hj; exact ⟨b, e, hP L L' b h p⟩⟩
theorem mn_set {ca : ClassId} {n x a : Nat} {f : Nat → Option Nat} : (vp_cell ca (n, .inr (.inr (.inr (.inr f))))).setSlot x (.ref a) = vp_cell ca (n, .inr (.inr (.inr (.inr (va_up f x (some a)))))) := by
  rw [vp_cell_q, vp_cell_q, arrV_store]
  congr 1
  funext q
  by_cases hq : q = x
  · subst hq
    simp [updV, va_up, va_rf]
  · simp [updV, va_up, hq]
theorem mn_one_world {D : va_G} {cl : List vw_C} {a : Nat} {x : va_E} {H : Heap} (h : va_at D cl (a, x) H) : va_P D cl [(a, x)] H := by
  intro j q hj
  have hz : j < 1 := (List.getElem?_eq_some_iff.mp hj).1
  rw [show j = 0 by omega] at hj
  cases hj
  exact h
theorem mn_one_apart {A : Nat → Prop} {a : Nat} {x : va_E} (h : A a) : va_D A [(a, x)] := by
  refine ⟨fun i j p q hi hj _ => ?_, fun j q hj => ?_⟩
  · have h1 : i < 1 := (List.getElem?_eq_some_iff.mp hi).1
    have h2 : j < 1 := (List.getElem?_eq_some_iff.mp hj).1
    omega
  · have hz : j < 1 := (List.getElem?_eq_some_iff.mp hj).1
    rw [show j = 0 by omega] at hj
    cases hj
    exact h
theorem mn_nil_world {D : va_G} {cl : List vw_C} {H : Heap} : va_P D cl [] H := fun k q h => by simp at h
theorem mn_nil_apart {A : Nat → Prop} : va_D A [] := ⟨fun i j p q h => by simp at h, fun k q h => by simp at h⟩
section MNN
variable {p : Program} {l : Launch} {e : Env} {R : Room} {s : State} {m : MethodId} {args : Array Value} {below : List Frame} {meth : Method} {c : Code} {D : va_G} {cl : List vw_C}
def mk_N (D : va_G) (cl : List vw_C) (p : Program) (l : Launch) (e : Env) (R : Room) (s : State) (m : MethodId) (args : Array Value) (below : List Frame) (meth : Method) (c : Code) (f : JFrame) (V : Vm) (P : va_W → Nat → Prop) (comp : ClassId) (cs : List Int32) (kc ns : Nat) : Prop :=
  ∀ (T : State) (locs : List Loc) (cells slots : Nat), Stand p l e R s m args below meth c T locs cells slots → T.vm = V → cells + kc ≤ R.cells → slots + ns ≤ R.slots →
  ∀ (E : CtlPost) (d : Bool) (acts : List Action) (Q : Addr → Pre),
    (∀ (a : Addr) (T' : State) (locs' : List Loc) (d' : Bool) (acts' : List Action) (L : va_W), Stand p l e R s m args below meth c T' locs' (cells + kc) (slots + ns) → T'.vm = V → T.heap.size ≤ T'.heap.size → (∀ q, q < T.heap.size → T'.heap[q]? = T.heap[q]?) → (∀ x ∈ locs', x ∈ locs ∨ T.heap.size ≤ x.base) → va_P D cl L T'.heap → va_D (fun q => T.heap.size ≤ q ∧ q < T'.heap.size) L → P L a → Q a d' acts' (T'.setTop f)) →
    wp (multianewarray.make comp cs) Q E e d acts (T.setTop f)
theorem mkn_one {f : JFrame} {V : Vm} {comp cc : ClassId} {kc : Class} {type : FieldType} {k : Int32} (hkc : V.classes[comp]? = some kc) (hkind : kc.kind = .array cc type) (hm : ¬ k < 0) (hl : k.toNatClampNeg ≤ 1000)
    (hdf : fits type (defaultValue type) = true) (hdd : (defaultValue type).isDefault = true) (hcb : componentBytes type ≤ 8) (h0 : defaultValue type = .int 0) : mk_N D cl p l e R s m args below meth c f V (mn_1 comp k.toNatClampNeg) comp [k] 1 k.toNatClampNeg := by
  intro T locs cells slots X hV hc hs E d acts Q hq
  subst hV
  rw [multianewarray.make]
  simp only [wp_bind', W.ite, hm, if_false, wp_pure', W.theClass, State.vm_setTop, hkc, hkind, Option.some.injEq, exists_eq_left']
  refine mk_new X hkc hkind hl hdf hdd hcb hc hs (hq _ _ _ _ _ [(T.heap.size, .inl (comp, k.toNatClampNeg, .inl (fun _ => 0)))] ?_ rfl ?_ ?_ (fun x hx => Or.inl hx) (mn_one_world ?_) (mn_one_apart ⟨Nat.le_refl _, ?_⟩) List.mem_cons_self)
  · have h := X.pushed ({ cls := comp, slots := Array.replicate k.toNatClampNeg (defaultValue type), vm := .none } : Cell)
    simpa using h
  · show T.heap.size ≤ (T.heap.push _).size
    rw [Array.size_push]
    omega
  · intro q hq'
    exact State.heap_pushCell_of_lt _ _ hq'
  · show (T.pushCell _).heap[T.heap.size]? = some (vp_cell comp (k.toNatClampNeg, .inl (fun _ => 0)))
    rw [State.heap_pushCell_size, arrV_new, vp_cell_i, h0]
  · show T.heap.size < (T.heap.push _).size
    rw [Array.size_push]
    omega
theorem mkn_step {f : JFrame} {V : Vm} {ca comp : ClassId} {k : Class} {t0 : FieldType} {n r0 : Int32} {rs : List Int32} {kc ns : Nat} {P : va_W → Nat → Prop} (hPu : mn_up P) (hk : V.classes[ca]? = some k) (hkind : k.kind = .array comp t0) (href : t0.isReference = true) (hcb : componentBytes t0 ≤ 8)
    (hn : ¬ n < 0) (hl : n.toNatClampNeg ≤ 1000) (hfind : ((r0 :: rs).find? (· < 0)) = none) (hM : mk_N D cl p l e R s m args below meth c f V P comp (r0 :: rs) kc ns) :
    mk_N D cl p l e R s m args below meth c f V (mn_s ca n.toNatClampNeg P) ca (n :: r0 :: rs) (1 + n.toNatClampNeg * kc) (n.toNatClampNeg + n.toNatClampNeg * ns) := by
  intro T locs cells slots X hV hc hs E d acts Q hq
  have hkT : T.vm.classes[ca]? = some k := by rw [hV]; exact hk
  have hrf : ∀ v : Value, (v = .null ∨ ∃ a, v = .ref a) → fits t0 v = true := by
    intro v hv
    rcases hv with rfl | ⟨a, rfl⟩ <;> cases t0 <;> simp [FieldType.isReference] at href <;> rfl
  rw [multianewarray.make]
  simp only [wp_bind', W.ite, hn, if_false, wp_pure', W.theClass, State.vm_setTop, hkT, hkind, Option.some.injEq, exists_eq_left']
  refine mk_new X hkT hkind hl (hrf _ (Or.inl rfl)) rfl hcb (by omega) (by omega) ?_
  simp only [hfind]
  rw [ite_self, wp_bind', Std.Legacy.Range.forIn_eq_forIn_range']
  have hsz : ([:n.toNatClampNeg] : Std.Legacy.Range).size = n.toNatClampNeg := by simp [Std.Legacy.Range.size]
  rw [hsz]
  show wp (forIn (List.range' 0 n.toNatClampNeg 1) PUnit.unit _) _ E e d acts _
  refine wp_forIn_inv (fun rest s' => ∃ i, i ≤ n.toNatClampNeg ∧ rest = List.range' i (n.toNatClampNeg - i) ∧ ∃ (T' : State) (locs' : List Loc) (g : Nat → Option Nat) (L : va_W), s' = T'.setTop f ∧ Stand p l e R s m args below meth c T' locs' (cells + 1 + i * kc) (slots + n.toNatClampNeg + i * ns) ∧ T'.vm = V ∧ T.heap.size < T'.heap.size ∧ (∀ q, q < T.heap.size → T'.heap[q]? = T.heap[q]?) ∧ T'.heap[T.heap.size]? = some (vp_cell ca (n.toNatClampNeg, .inr (.inr (.inr (.inr g))))) ∧ va_P D cl L T'.heap ∧ va_D (fun q => T.heap.size < q ∧ q < T'.heap.size) L ∧ (∀ j, j < i → ∃ b, g j = some b ∧ P L b) ∧ (∀ x ∈ locs', x ∈ locs ∨ T.heap.size ≤ x.base)) _ _ ?_ ?_ ?_
  · refine ⟨0, Nat.zero_le _, rfl, _, locs, fun _ => none, [], rfl, ?_, hV, ?_, fun q hq' => State.heap_pushCell_of_lt _ _ hq', ?_, mn_nil_world, mn_nil_apart, fun j hj => absurd hj (Nat.not_lt_zero _), fun x hx => Or.inl hx⟩
    · have h := X.pushed ({ cls := ca, slots := Array.replicate n.toNatClampNeg .null, vm := .none } : Cell)
      simpa using h
    · show T.heap.size < (T.heap.push _).size
      rw [Array.size_push]
      omega
    · rw [State.heap_pushCell_size, arrV_new, vp_cell_q]
      rfl
  · rintro x rest s' d' acts' Q' ⟨i, hi, hls, T', locs', g, L, rfl, X', hV', hlt', hold, ho, hPL, hDL, hg, hlo⟩ hnext
    have hlt : i < n.toNatClampNeg := by
      rcases Nat.lt_or_ge i n.toNatClampNeg with h | h
      · exact h
      · rw [show n.toNatClampNeg - i = 0 from by omega] at hls
        simp at hls
    obtain ⟨rfl, hrest⟩ : x = i ∧ rest = List.range' (i + 1) (n.toNatClampNeg - (i + 1)) := by
      rw [show n.toNatClampNeg - i = (n.toNatClampNeg - (i + 1)) + 1 from by omega, List.range'_succ] at hls
      exact ⟨(List.cons.inj hls).1, (List.cons.inj hls).2⟩
    have hmk : x * kc + kc ≤ n.toNatClampNeg * kc := by
      have := Nat.mul_le_mul_right kc (show x + 1 ≤ n.toNatClampNeg from hlt)
      rw [Nat.succ_mul] at this
      exact this
    have hms : x * ns + ns ≤ n.toNatClampNeg * ns := by
      have := Nat.mul_le_mul_right ns (show x + 1 ≤ n.toNatClampNeg from hlt)
      rw [Nat.succ_mul] at this
      exact this
    simp only [wp_bind']
    refine hM T' locs' _ _ X' hV' (by omega) (by omega) E d' acts' _ (fun a T2 locs2 d2 acts2 L2 X2 hV2 hz2 hold2 hlo2 hPL2 hDL2 hPa => ?_)
    have ho2 : T2.heap[T.heap.size]? = some (vp_cell ca (n.toNatClampNeg, .inr (.inr (.inr (.inr g))))) := (hold2 _ hlt').trans ho
    simp only [wp_bind', W.writeLoc, wp_pure']
    refine ⟨vp_cell ca (n.toNatClampNeg, .inr (.inr (.inr (.inr g)))), ho2, (fun h => by cases h), (by rw [vp_cell_q, arrV_size]; exact hlt), ?_, hnext _ _ _ ⟨x + 1, hlt, hrest, T2.setCell T.heap.size ((vp_cell ca (n.toNatClampNeg, .inr (.inr (.inr (.inr g))))).setSlot x (.ref a)), locs2 ++ [⟨T.heap.size, x⟩], va_up g x (some a), L ++ L2, ?_, ?_, hV2, ?_, ?_, ?_, ?_, ?_, ?_, ?_⟩⟩
    · have hk2 : T2.vm.classes[ca]? = some k := by rw [hV2]; exact hk
      simp [State.fitsSlot, State.slotType?, vp_cell_q, arrV, hk2, hkind, hrf _ (Or.inr ⟨a, rfl⟩)]
    · rw [State.setCell_setTop]
    · have h := X2.stored ho2 x (.ref a)
      have e1 : cells + 1 + (x + 1) * kc = cells + 1 + x * kc + kc := by rw [Nat.succ_mul]; omega
      have e2 : slots + n.toNatClampNeg + (x + 1) * ns = slots + n.toNatClampNeg + x * ns + ns := by rw [Nat.succ_mul]; omega
      rw [e1, e2]
      exact h
    · show T.heap.size < (T2.setCell _ _).heap.size
      simp [State.setCell]
      omega
    · intro q hq'
      rw [State.heap_setCell_other (Nat.ne_of_gt hq'), hold2 q (by omega)]
      exact hold q hq'
    · rw [State.heap_setCell_self ho2, mn_set]
    · refine va_P.app (hPL.kept (fun j q hj => ?_)) (hPL2.kept (fun j q hj => ?_))
      · have h9 := hDL.2 j q hj
        rw [State.heap_setCell_other (Nat.ne_of_lt h9.1), hold2 q.1 h9.2]
      · have h9 := hDL2.2 j q hj
        rw [State.heap_setCell_other (Nat.ne_of_lt (Nat.lt_of_lt_of_le hlt' h9.1))]
    · have hz3 : (T2.setCell T.heap.size ((vp_cell ca (n.toNatClampNeg, .inr (.inr (.inr (.inr g))))).setSlot x (.ref a))).heap.size = T2.heap.size := by simp [State.setCell]
      rw [hz3]
      refine va_D.app (hDL.weaken (fun j q hj h => ⟨h.1, by omega⟩)) (hDL2.weaken (fun j q hj h => ⟨by omega, h.2⟩)) (fun i2 j2 q1 q2 h1 h2 hxy => ?_)
      have h8 := (hDL.2 i2 q1 h1).2
      have h9 := (hDL2.2 j2 q2 h2).1
      omega
    · intro j hj
      by_cases hjx : j = x
      · subst hjx
        exact ⟨a, va_up_self _ _ _, hPu L2 _ a (fun q h => List.mem_append_right _ h) hPa⟩
      · obtain ⟨b, e1, e2⟩ := hg j (by omega)
        exact ⟨b, by rw [va_up_ne _ _ hjx]; exact e1, hPu L _ b (fun q h => List.mem_append_left _ h) e2⟩
    · intro y hy
      rcases List.mem_append.mp hy with h | h
      · rcases hlo2 y h with h | h
        · exact hlo y h
        · exact Or.inr (by omega)
      · rw [List.mem_singleton.mp h]
        exact Or.inr (Nat.le_refl _)
  · rintro s' d' acts' ⟨i, hi, hls, T', locs', g, L, rfl, X', hV', hlt', hold, ho, hPL, hDL, hg, hlo⟩
    have hiN : i = n.toNatClampNeg := by
      rcases Nat.lt_or_ge i n.toNatClampNeg with h | h
      · rw [show n.toNatClampNeg - i = (n.toNatClampNeg - (i + 1)) + 1 from by omega, List.range'_succ] at hls
        cases hls
      · omega
    subst hiN
    simp only [wp_pure']
    refine hq _ T' locs' d' acts' ([(T.heap.size, .inl (ca, n.toNatClampNeg, .inr (.inr (.inr (.inr g)))))] ++ L) ?_ hV' (by omega) hold hlo (va_P.app (mn_one_world (x := .inl (ca, n.toNatClampNeg, .inr (.inr (.inr (.inr g))))) ho) hPL) ?_ ⟨g, List.mem_append_left _ List.mem_cons_self, fun j hj => ?_⟩
    · rw [show cells + (1 + n.toNatClampNeg * kc) = cells + 1 + n.toNatClampNeg * kc by omega, show slots + (n.toNatClampNeg + n.toNatClampNeg * ns) = slots + n.toNatClampNeg + n.toNatClampNeg * ns by omega]
      exact X'
    · refine va_D.app (mn_one_apart ⟨Nat.le_refl _, hlt'⟩) (hDL.weaken (fun j q hj h => ⟨by omega, h.2⟩)) (fun i2 j2 q1 q2 h1 h2 hxy => ?_)
      have h9 := (hDL.2 j2 q2 h2).1
      have hz : i2 < 1 := (List.getElem?_eq_some_iff.mp h1).1
      rw [show i2 = 0 by omega] at h1
      cases h1
      have h8 : T.heap.size = q2.1 := hxy
      omega
    · obtain ⟨b, e1, e2⟩ := hg j hj
      exact ⟨b, e1, hPu L _ b (fun q h => List.mem_append_right _ h) e2⟩
end MNN
section MNW
variable {p : Program} {l : Launch} {e : Env} {R : Room} {s : State} {m : MethodId} {args : Array Value} {below : List Frame} {meth : Method} {c : Code} {H : Heap} {locs : List Loc} {cells slots : Nat} {Q : State → Prop}
variable {cc : ByteArray} {pc : Nat} {ls : Array Slot} {rest : List Value} {D : va_G} {cl : List vw_C} {A : Nat → Prop} {ws : va_W} {H0 : Heap}
theorem mk_W3n {nm own : String} {index : Nat} {cA : ClassId} {n1 n2 n3 : Int32} {kc ns : Nat} {P : va_W → Nat → Prop} (hexec : p.tables.exec = Jvm.exec) (hb : c.code = cc) (hown : s.vm.findClass own = some m.cls) (hclink : (Cond.classLink own index nm).before args s = true) (hcA : s.vm.findClass nm = some cA)
    (hM : ∀ (f : JFrame) (V : Vm), s.vm.Alike V → mk_N D cl p l e R s m args below meth c f V P cA [n1, n2, n3] kc ns) (hdg : decode cc pc = .ok (.multianewarray index 3, 4)) (hcells : cells + kc ≤ R.cells) (hslots : slots + ns ≤ R.slots)
    (hP : va_P D cl ws H) (hD : va_D A ws) (hS : va_S A H0 H locs) (hA : ∀ q, H0.size ≤ q → A q)
    (kk : ∀ (q : Nat) (L : va_W) (H1 : Heap) (locs1 : List Loc), va_P D cl (ws ++ L) H1 → va_D A (ws ++ L) → va_S A H0 H1 locs1 → P L q → W p l e R s m args below meth c H1 locs1 (cells + kc) (slots + ns) Q (F0 m (pc + 4) ls (.ref q :: rest))) : W p l e R s m args below meth c H locs cells slots Q (F0 m pc ls (.int n3 :: .int n2 :: .int n1 :: rest)) := by
  intro T hT X
  subst hb
  have hpl : e.platform.magicAccessors = ({} : Platform).magicAccessors := by rw [X.admits.platform]
  obtain ⟨c0, hfc0, hcl⟩ := Cond.classLink_spec hown hclink e.platform hpl
  cases hcA.symm.trans hfc0
  obtain ⟨hg₁, hwarm₁, hready₁⟩ := State.classEntry (e := e) X.warmed hcl
  generalize T.vm.noted m.cls index (.cls cA) = vm₁ at hg₁ hwarm₁ hready₁
  have X₁ := X.noted hwarm₁
  have key : ∀ (a : Addr) (T' : State) (locs' : List Loc) (L : va_W), Stand p l e R s m args below meth c T' locs' (cells + kc) (slots + ns) → T.heap.size ≤ T'.heap.size → (∀ q, q < T.heap.size → T'.heap[q]? = T.heap[q]?) → (∀ x ∈ locs', x ∈ locs ∨ T.heap.size ≤ x.base) → va_P D cl L T'.heap → va_D (fun q => T.heap.size ≤ q ∧ q < T'.heap.size) L → P L a → ∃ t, Steps p.tables e below (T'.setTop (F0 m (pc + 4) ls (.ref a :: rest))) t ∧ Q t := by
    intro a T' locs' L X' hz hold hlo hPL hDL hPa
    rw [hT] at hz hold hlo hDL
    have hP' : va_P D cl ws T'.heap := hP.kept (fun k q hq => hold q.1 (hP k q hq).lt)
    have hS' : va_S A H0 T'.heap locs' := ⟨Nat.le_trans hS.1 hz, fun q h1 h2 => (hold q (Nat.lt_of_lt_of_le h1 hS.1)).trans (hS.2.1 q h1 h2), fun x hx => by
      rcases hlo x hx with h | h
      · exact hS.2.2 x h
      · exact hA _ (Nat.le_trans hS.1 h)⟩
    refine kk a L T'.heap locs' (hP'.app hPL) (va_D.app hD (hDL.weaken (fun k q hk h => hA _ (Nat.le_trans hS.1 h.1))) (fun i j x y hi hj hxy => ?_)) hS' hPa T' rfl X'
    have h8 := (hP i x hi).lt
    have h9 := (hDL.2 j y hj).1
    omega
  refine mk_instr (f := F0 m pc ls (.int n3 :: .int n2 :: .int n1 :: rest)) (by simpa using X.here) ?_
  simp [jvm, wpRun, exec, X.here.top, hexec, hdg]
  simp only [multianewarray.sem, wp_bind', W.resolveClassAt_links (State.method?_setTop (F0 m pc ls (.int n3 :: .int n2 :: .int n1 :: rest)) X.here.top) hg₁]
  rw [W.popN, if_neg (by decide)]
  refine ⟨F0 m pc ls (.int n3 :: .int n2 :: .int n1 :: rest), State.topJava?_setTop' (s := T.setVm vm₁) _ X.here.top, [.int n1, .int n2, .int n3], rest, rfl, rfl, ?_⟩
  simp only [List.mapM_cons, List.mapM_nil, wp_bind', wp_pure']
  have eS : ((T.setTop (F0 m pc ls (.int n3 :: .int n2 :: .int n1 :: rest))).setVm vm₁).setTop (F0 m pc ls rest) = (T.setVm vm₁).setTop (F0 m pc ls rest) := by
    show ((T.setVm vm₁).setTop (F0 m pc ls (.int n3 :: .int n2 :: .int n1 :: rest))).setTop _ = _
    rw [State.setTop_setTop]
  rw [eS]
  refine hM (F0 m pc ls rest) vm₁ hwarm₁.alike (T.setVm vm₁) locs cells slots X₁ rfl hcells hslots _ _ _ _ (fun a T' locs' d' acts' L X' hV' hz hold hlo hPL hDL hPa => ?_)
  simp only [wp_bind', W.mark, W.pushRef, State.topJava?_setTop' _ X'.here.top, Option.some.injEq, exists_eq_left', State.setTop_setTop]
  intro acts
  simp [jvm, X'.here.top]
  exact key a T' locs' L X' hz hold hlo hPL hDL hPa
/-- a place of a row of rows -/
theorem mn_ald {a : Nat} {tys : List (ClassId × FieldType)} (hexec : p.tables.exec = Jvm.exec) (hb : c.code = cc) (hK : va_K D cl tys s) (hP : va_P D cl ws H) (q0 t0 : Nat) {cA : ClassId} {ty : FieldType} {n : Nat} {f : Nat → Option Nat} (ha : ws[q0]? = some (a, .inl (cA, n, .inr (.inr (.inr (.inr f)))))) (ht : tys[t0]? = some (cA, ty)) (href : ty.isReference = true) {i : Int32} {b : Nat} (hin : vp_in i n) (hf : f i.toNatClampNeg = some b) (hdg : decode cc pc = .ok (.aaload, 1))
    (kk : W p l e R s m args below meth c H locs cells slots Q (F0 m (pc + 1) ls (.ref b :: rest))) : W p l e R s m args below meth c H locs cells slots Q (F0 m pc ls (.int i :: .ref a :: rest)) := by
  have hlt : i.toNatClampNeg < n := Nat.not_le.mp fun q => hin (Or.inr q)
  exact W.aald (v := .ref b) (ty := ty) hexec hb (hP q0 _ ha) ((hK.2 t0 _ ht).1 n (fun j => va_rf (f j))) href (fun q => by cases q) (by show ¬ (i < 0 ∨ (arrV _ _ _).slots.size ≤ _); rw [arrV_size]; exact hin) (by show (arrV _ _ _).slots[_]? = _; rw [arrV_read _ _ hlt, hf]; rfl) rfl rfl hdg kk
end MNW
/-- a part of a world, by its cells -/
theorem P_mem {D : va_G} {cl : List vw_C} {ws ws' : va_W} {H : Heap} (h : va_P D cl ws H) (hs : ∀ q ∈ ws', q ∈ ws) : va_P D cl ws' H := by
  intro k q hk
  obtain ⟨i, hi⟩ := List.getElem?_of_mem (hs q (List.mem_of_getElem? hk))
  exact h i q hi
/-- a world that nobody writes, behind calls that make new cells alone -/
theorem P_at {D : va_G} {cl : List vw_C} {ws : va_W} {A : Nat → Prop} {H0 H : Heap} {locs : List Loc} (h : va_P D cl ws H0) (hS : va_S A H0 H locs) (hAs : ∀ q, A q → H0.size ≤ q) : va_P D cl ws H :=
  h.kept (fun k q hk => hS.2.1 q.1 (h k q hk).lt (fun hA => absurd (hAs _ hA) (Nat.not_le.mpr (h k q hk).lt)))
theorem mem_app {X Y L : va_W} (h : ∀ q ∈ Y, q ∈ L) : ∀ q ∈ X ++ Y, q ∈ X ++ L := by
  intro q hq
  rcases List.mem_append.mp hq with h1 | h1
  · exact List.mem_append_left _ h1
  · exact List.mem_append_right _ (h q h1)
theorem mem_1 {a : Nat × va_E} {L : va_W} (ha : a ∈ L) : ∀ q ∈ [a], q ∈ L := fun q h => by rw [List.mem_singleton.mp h]; exact ha
theorem mem_2 {a b : Nat × va_E} {L : va_W} (ha : a ∈ L) (hb : b ∈ L) : ∀ q ∈ [a, b], q ∈ L := by
  intro q h
  rcases List.mem_cons.mp h with rfl | h
  · exact ha
  · exact mem_1 hb q h
theorem mem_3 {a b c : Nat × va_E} {L : va_W} (ha : a ∈ L) (hb : b ∈ L) (hc : c ∈ L) : ∀ q ∈ [a, b, c], q ∈ L := by
  intro q h
  rcases List.mem_cons.mp h with rfl | h
  · exact ha
  · exact mem_2 hb hc q h
theorem mem_pool {a : Nat × va_E} {X L : va_W} (ha : a ∈ L) : ∀ q ∈ [a] ++ L, q ∈ X ++ L := by
  intro q h
  rcases List.mem_append.mp h with h | h
  · exact List.mem_append_right _ (mem_1 ha q h)
  · exact List.mem_append_right _ h
/-! the classes of the rows of rows; the candidates of both sides as they lie -/
def Kz (k1 k2 k3 : ClassId) (U : State) : Prop := U.vm.findClass (FieldType.array .boolean).toString = some k1 ∧ U.vm.findClass ("[" ++ (FieldType.array .boolean).toString) = some k2 ∧ U.vm.findClass ("[" ++ (FieldType.array (.array .boolean)).toString) = some k3
theorem Kz.moved {k1 k2 k3 : ClassId} {u U : State} (hvm : u.vm.Alike U.vm) (h : Kz k1 k2 k3 u) : Kz k1 k2 k3 U :=
  ⟨by rw [hvm.findClass]; exact h.1, by rw [hvm.findClass]; exact h.2.1, by rw [hvm.findClass]; exact h.2.2⟩
theorem Kz.one {k1 k2 k3 j1 j2 j3 : ClassId} {U : State} (h : Kz k1 k2 k3 U) (g : Kz j1 j2 j3 U) : k1 = j1 ∧ k2 = j2 ∧ k3 = j3 :=
  ⟨Option.some.inj (h.1.symm.trans g.1), Option.some.inj (h.2.1.symm.trans g.2.1), Option.some.inj (h.2.2.symm.trans g.2.2)⟩
theorem kz_of {U : State} (hF : Ft U) : ∃ k1 k2 k3 : ClassId, Kz k1 k2 k3 U := by
  obtain ⟨k1, c2, ka, h1, -, -, h2⟩ := hF.2.2.2.2.2.1
  obtain ⟨cb, c3, kb, -, -, -, h3⟩ := hF.2.2.2.2.2.2.1
  exact ⟨k1, c2, c3, h1, h2, h3⟩
theorem kz_K {D : va_G} {TY : List (ClassId × FieldType)} {U : State} {k1 k2 k3 : ClassId} (hF : Ft U) (hz : Kz k1 k2 k3 U) (hK : va_K D vwCl TY U) : va_K D vwCl (TY ++ [(k3, .array (.array .boolean)), (k2, .array .boolean), (k1, .boolean)]) U := by
  obtain ⟨d1, c2, ka, h1, h4, h5, h2⟩ := hF.2.2.2.2.2.1
  obtain ⟨cb, c3, kb, -, h6, h7, h3⟩ := hF.2.2.2.2.2.2.1
  obtain ⟨e1, kc, cz, h8, h9, h10⟩ := hF.2.2.2.2.2.2.2.1
  cases h1.symm.trans hz.1
  cases h2.symm.trans hz.2.1
  cases h3.symm.trans hz.2.2
  cases h8.symm.trans hz.1
  have a3 : ArrOfT U k3 (.array (.array .boolean)) := fun n z => ⟨(fun k h => by cases h), kb, h6, cb, h7⟩
  have a2 : ArrOfT U k2 (.array .boolean) := fun n z => ⟨(fun k h => by cases h), ka, h4, k1, h5⟩
  have a1 : ArrOfT U k1 .boolean := fun n z => ⟨(fun k h => by cases h), kc, h9, cz, h10⟩
  refine hK.app ⟨hK.1, fun k q hq => ?_⟩
  match k, hq with
  | 0, hq => cases hq; exact ⟨a3, hz.2.2⟩
  | 1, hq => cases hq; exact ⟨a2, hz.2.1⟩
  | 2, hq => cases hq; exact ⟨a1, hz.1⟩
  | k + 3, hq => simp at hq
theorem kI_one {D : va_G} {TY TY' : List (ClassId × FieldType)} {u U : State} {k k' : ClassId} {i i' : Nat} (hvm : u.vm.Alike U.vm) (h : va_K D vwCl TY u) (h' : va_K D vwCl TY' U) (e : TY[i]? = some (k, .int)) (e' : TY'[i']? = some (k', .int)) : k = k' := by
  have a : u.vm.findClass "[I" = some k := va_nm_int (h.2 i _ e).2
  have b : U.vm.findClass "[I" = some k' := va_nm_int (h'.2 i' _ e').2
  rw [hvm.findClass] at b
  exact Option.some.inj (a.symm.trans b)
def XI (kg : ClassId) (n : Nat) (fc : Nat → Option Nat) (L : va_W) : Prop := ∀ j, j < n → ∃ q g1 g2 g3 : Nat, fc j = some q ∧ (q, (.inr (5, [.int 0, .null, .int (-1), .int (-1), .int 0, .int 0, .ref g1, .ref g2, .ref g3, .int 0]) : va_E)) ∈ L ∧ (g1, (.inl (kg, 8, .inl (fun _ => 0)) : va_E)) ∈ L
def MI (k1 k2 k3 : ClassId) (n : Nat) (fa : Nat → Option Nat) (L : va_W) : Prop := ∀ j, j < n → ∃ q sn rd : Nat, fa j = some q ∧ (q, (.inr (11, [.int 0, .null, .int (-1), .int (-1), .int 0, .ref sn, .ref rd]) : va_E)) ∈ L ∧ mn_s k3 8 (mn_s k2 4 (mn_1 k1 4)) L sn
theorem XI.up {kg : ClassId} {n : Nat} {fc : Nat → Option Nat} {L L' : va_W} (hL : ∀ q ∈ L, q ∈ L') (h : XI kg n fc L) : XI kg n fc L' := fun j hj => by
  obtain ⟨q, g1, g2, g3, e, a, b⟩ := h j hj
  exact ⟨q, g1, g2, g3, e, hL _ a, hL _ b⟩
theorem MI.up {k1 k2 k3 : ClassId} {n : Nat} {fa : Nat → Option Nat} {L L' : va_W} (hL : ∀ q ∈ L, q ∈ L') (h : MI k1 k2 k3 n fa L) : MI k1 k2 k3 n fa L' := fun j hj => by
  obtain ⟨q, sn, rd, e, a, b⟩ := h j hj
  exact ⟨q, sn, rd, e, hL _ a, mn_s_up (mn_s_up mn_1_up) L L' sn hL b⟩
theorem XI.zero {kg : ClassId} {fc : Nat → Option Nat} {L : va_W} : XI kg 0 fc L := fun j hj => absurd hj (Nat.not_lt_zero _)
theorem MI.zero {k1 k2 k3 : ClassId} {fa : Nat → Option Nat} {L : va_W} : MI k1 k2 k3 0 fa L := fun j hj => absurd hj (Nat.not_lt_zero _)
theorem XI.more {kg : ClassId} {n q g1 g2 g3 : Nat} {fc fd : Nat → Option Nat} {L : va_W} (h : XI kg n fc L) (hf : va_up fc n (some q) = fd) (a : (q, (.inr (5, [.int 0, .null, .int (-1), .int (-1), .int 0, .int 0, .ref g1, .ref g2, .ref g3, .int 0]) : va_E)) ∈ L) (b : (g1, (.inl (kg, 8, .inl (fun _ => 0)) : va_E)) ∈ L) : XI kg (n + 1) fd L := by
  intro j hj
  by_cases e : j = n
  · subst e
    exact ⟨q, g1, g2, g3, by rw [← hf]; exact va_up_self _ _ _, a, b⟩
  · obtain ⟨q', h1, h2, h3, e', a', b'⟩ := h j (by omega)
    exact ⟨q', h1, h2, h3, by rw [← hf, va_up_ne _ _ e]; exact e', a', b'⟩
theorem MI.more {k1 k2 k3 : ClassId} {n q sn rd : Nat} {fa fb : Nat → Option Nat} {L : va_W} (h : MI k1 k2 k3 n fa L) (hf : va_up fa n (some q) = fb) (a : (q, (.inr (11, [.int 0, .null, .int (-1), .int (-1), .int 0, .ref sn, .ref rd]) : va_E)) ∈ L) (b : mn_s k3 8 (mn_s k2 4 (mn_1 k1 4)) L sn) : MI k1 k2 k3 (n + 1) fb L := by
  intro j hj
  by_cases e : j = n
  · subst e
    exact ⟨q, sn, rd, by rw [← hf]; exact va_up_self _ _ _, a, b⟩
  · obtain ⟨q', h1, h2, e', a', b'⟩ := h j (by omega)
    exact ⟨q', h1, h2, by rw [← hf, va_up_ne _ _ e]; exact e', a', b'⟩
/-- a start whose world is read alone, its heap's size known -/
def PR (dC : Nat → ClassId) (dI : Nat → Nat → Nat) (sz : Nat) (W : va_W) (TY : List (ClassId × FieldType)) (U : State) : Prop := U.heap.size = sz ∧ va_P (dC, dI) vwCl W U.heap ∧ va_K (dC, dI) vwCl TY U ∧ Ft U
theorem PR_blind {av : List Value} {dC : Nat → ClassId} {dI : Nat → Nat → Nat} {sz : Nat} {W : va_W} {TY : List (ClassId × FieldType)} : FrameBlind (va_Pc av (PR dC dI sz W TY)) := fun a U g mk q => by
  obtain ⟨q0, q1, qP, qK, qF⟩ := q
  exact ⟨q0, q1, qP, va_K.moved (u := U) (U := U.calling g mk a) (Vm.Alike.refl U.vm) qK, Ft.same (u := U) (U := U.calling g mk a) rfl qF⟩
theorem PR_pre {av : List Value} {dC : Nat → ClassId} {dI : Nat → Nat → Nat} {W : va_W} {TY : List (ClassId × FieldType)} {s : State} {H : Heap} (hP : va_P (dC, dI) vwCl W H) (hK : va_K (dC, dI) vwCl TY s) (hF : Ft s) : ∀ U : State, U.heap = H → s.WarmedH U.vm → va_Pc av (PR dC dI H.size W TY) av.toArray U :=
  fun U hU hW => ⟨rfl, by rw [hU], by rw [hU]; exact hP, va_K.moved hW.alike hK, hF.warm hW⟩
/-- which cells may be written: those that are made -/
def rA (sz : Nat) : Nat → Prop := fun q => sz ≤ q
theorem rA_h {H0 H : Heap} {A : Nat → Prop} {locs : List Loc} (hS : va_S A H0 H locs) (hA : ∀ q, H0.size ≤ q → A q) : ∀ q, rA H.size q → A q := fun q h => hA q (Nat.le_trans hS.1 h)
theorem rA_no {H : Heap} {A : Nat → Prop} : ∀ q, q < H.size → rA H.size q → A q := fun q h1 h2 => absurd h2 (Nat.not_le.mpr h1)
/-- the bits of a row of truth values -/
def cf_ok (f : Nat → Int32) : Prop := ∀ j, f j = 0 ∨ f j = 1
theorem cf_zero : cf_ok (fun _ => 0) := fun _ => Or.inl rfl
theorem cf_up {f : Nat → Int32} {k : Nat} (h : cf_ok f) : cf_ok (upd f k (vp_nar .boolean 1)) := fun j => by
  by_cases e : j = k
  · subst e
    rw [pk_us]
    exact Or.inr (by decide)
  · rw [pk_un e]
    exact h j
theorem cf_ret {f : Nat → Int32} {j : Nat} (h : cf_ok f) : narrow .boolean (.int (f j)) = .int (f j) := by
  rcases h j with e | e <;> rw [e] <;> rfl
