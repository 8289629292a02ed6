set_option maxHeartbeats 4000000 in
theorem lw_walk (l : Launch) (b : Addr) : MetFree l x (headSpec (Jvm.Cond.code x code maxLocals ret :: tables_1) bigR) (lw_P b) (fun _ _ _ _ _ => True) lw_Q := by
  refine MetFree.of_bodyS (code := code) (maxLocals := maxLocals) (ret := ret) (by decide) ?_ ?_
  · intro args s m h hn
    obtain ⟨meth, c, h1, h2, h3, h4, h5, h6, -, -⟩ := Cond.code_spec hn (atoms_spec (ws := Jvm.Cond.code x code maxLocals ret :: tables_1) h _ List.mem_cons_self)
    exact ⟨meth, c, h1, h2, h3, h4, h5, h6⟩
  · intro p e s m args below meth c s₁ B hml0 hP _
    obtain ⟨rfl, hx, hgv⟩ := hP
    obtain ⟨scr, harrAt, hlist, hof, hsmall⟩ := hx
    obtain ⟨hcb, hkn, -, -⟩ := State.arrayAt?_spec harrAt
    have hown : s.vm.findClass R_law = some m.cls := findClass_of_methodNamed B.named
    have hts0 : ∀ c ∈ (Jvm.Cond.code x code maxLocals ret :: tables_1), c.before #[Value.ref b] s = true := atoms_spec (ws := Jvm.Cond.code x code maxLocals ret :: tables_1) B.pre
    have hts : ∀ w ∈ lw_tbl, w.before #[Value.ref b] s = true := k2_hts_sels lw_privs (fun w hw => hts0 w (List.mem_cons_of_mem _ hw)) lw_privs_ok
    have hml : c.maxLocals = 4 := B.maxLocals_eq (hts0 _ List.mem_cons_self)
    have X₀ : Stand p l e bigR s m #[Value.ref b] below meth c s₁ [] 0 0 := Stand.of_body B
    have hh0 : s₁.heap = s.heap := by rw [B.state]; rfl
    have hlen : sc.length = 2310 := by simp [sc]
    have hsz : scr.slots.size = 2310 := by rw [← Array.length_toList, hlist, List.length_map, hlen]
    have hval : ∀ j : Nat, j < 2310 → scr.slots[j]? = some (.int (scf j)) := fun j hj => by
      rw [← Array.getElem?_toList, hlist]
      simp [sc, hj]
    have hbl : b < s.heap.size := (Array.getElem?_eq_some_iff.mp hcb).1
    have hX : va_X b 2310 scf s s.heap := ⟨scr, hcb, hof, hkn, hsz, hval⟩
    have K : W p l e bigR s m #[Value.ref b] below meth c s₁.heap [] 0 0 (lw_Z below #[Value.ref b] s) (entryFrame m ([Value.ref b] : List Value).toArray 4) := by
      rw [hh0]
      exact whole_start l ⟨B.exec, B.bytes, B.returns, hml, hown, hts, hX, hbl, B.notSynchronized, hgv⟩
    obtain ⟨t, a1, o, b1, b2, b3⟩ := K s₁ rfl X₀
    exact ⟨t, o, a1, b1, b2, b3⟩
/-- a start that the Statement allows, on that script, where the machine has the room bigR -/
def StartSc (l : Launch) (p : Program) (e : Env) (s : State) (m : MethodId) (args : Array Value) (below : List Frame) (b : Addr) : Prop :=
  l.flags = flags0 ∧ Lists l classFile x code maxLocals ret tables_1 room_1 ∧ World_1 l ∧ l.admits e ∧ FairCas e.choices ∧ FairClock e.choices ∧ s.frames = Frame.invoking m args :: below ∧ argsFit s.vm m args = true ∧ heapFits s = true ∧
    (headSpec (Jvm.Cond.code x code maxLocals ret :: tables_1) room_1).applies x e.platform s = true ∧ (headSpec (Jvm.Cond.code x code maxLocals ret :: tables_1) bigR).applies x e.platform s = true ∧
    Calls_1 p.tables e args s ∧ rest_1 p.tables e args s ∧ Pre_1 p.tables e args s ∧ args = #[.ref b] ∧ s.IntsAt b sc
/-- from every such start the law ends, answers 1, and has made more than the Statement's frame lets it make: so the Statement is false where there is one -/
theorem not_claimed {l : Launch} {p : Program} {e : Env} {s : State} {m : MethodId} {args : Array Value} {below : List Frame} {b : Addr} (h : StartSc l p e s m args below b) : ¬ Claimed_1_1 := by
  intro hC
  obtain ⟨hfl, hL, hW, ha, hc, hk, hf, hfit, hheap, happ, happ2, h1, h2, h3, hargs, hx⟩ := h
  obtain ⟨n, o, w1, w2, w3, w4⟩ := hC l hfl hL hW p e ha hc hk s m args below hf hfit hheap happ ⟨h1, h2, h3⟩
  obtain ⟨n', o', v1, v2, v3, v4⟩ := lw_walk l b p e ha hc hk s m args below hf ((Spec.applies_iff_loose hf).mp happ2).1 ⟨hargs, hx, h3⟩ trivial
  obtain ⟨rfl, rfl⟩ := the_end_unique w1 w3 v1 v3
  have hF := w4.2.2.2.2.2.1
  have hG := v4.2
  have hF : (stepsAlone p.tables e n s).heap.size ≤ s.heap.size + 796758 := hF
  omega
