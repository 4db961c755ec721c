/-! A call: into the callee's frame and out of it again. -/
def sm_fx (N : sm_N) (p : Program) (l : Launch) (R : Room) (s : State) (m : MethodId) (meth : Method) (c : Code) (q : mi_T) (d : Nat) (Gs : am_G) : Prop :=
  p.tables.exec = Jvm.exec ∧ l.stackTraces = false ∧ (sm_s0 N).WarmedH s.vm ∧ s.vm.findClass q.1.cls = some m.cls ∧ c.code = q.2.1 ∧ c.maxLocals = q.2.2.1 ∧ meth.sig.returnType = q.2.2.2.1 ∧ meth.locks = false ∧ meth.name = q.1.name ∧
    c.exceptionTable.toList.map (fun h => (h.startPc, h.endPc, h.handlerPc, h.catchType)) = q.2.2.2.2.1 ∧ d + 20 ≤ R.frames ∧ 300 * d + 2000 ≤ R.locals ∧ 90000 ≤ R.cells + (am_K Gs).length ∧ 7200000 ≤ R.slots + am_us Gs
def sm_ok (N : sm_N) (d : Nat) (q : mi_T) (as : List Value) (G : am_G) (post : am_O → am_G → Prop) : Prop :=
  ∀ (p : Program) (l : Launch) (e : Env) (R : Room) (s : State) (m : MethodId) (below : List Frame) (meth : Method) (c : Code), sm_fx N p l R s m meth c q d G → sm_rep N G s.heap →
    W p l e R s m (as.map (sm_tv N)).toArray below meth c s.heap [] 0 0 (sm_Z N G below s post) (entryFrame m (as.map (sm_tv N)).toArray c.maxLocals)
section
variable {N : sm_N} {Gs : am_G} {p : Program} {l : Launch} {e : Env} {R : Room} {s : State} {m : MethodId} {args : Array Value} {below : List Frame} {meth : Method} {c : Code} {Q : State → Prop}
theorem sm_code {q : mi_T} (h : (mi_w q).before args s = true) : ∃ mk methk ck, s.methodNamed? q.1 = some mk ∧ s.vm.method? mk = some methk ∧ methk.code = some ck ∧ ck.code = q.2.1 ∧ ck.maxLocals = q.2.2.1 ∧
    ck.exceptionTable.toList.map (fun h => (h.startPc, h.endPc, h.handlerPc, h.catchType)) = q.2.2.2.2.1 ∧ methk.sig.returnType = q.2.2.2.1 ∧ methk.locks = false ∧ parseMethodDescriptor q.1.desc = some methk.sig := by
  unfold mi_w at h
  split at h
  · next hs =>
    obtain ⟨mk, hn⟩ := Cond.code_named h
    obtain ⟨methk, ck, h1, h2, h3, h4, h5, h6, h7, h8⟩ := Cond.code_spec hn h
    refine ⟨mk, methk, ck, hn, h1, h2, h3, h4, ?_, h5, h6, h8⟩
    rw [hs]
    simpa using h7
  · next hs =>
    obtain ⟨mk, methk, ck, h0, h1, h2, h3, h4, h5, h6, h7, h8⟩ := Cond.codeWith_spec h
    exact ⟨mk, methk, ck, h0, h1, h2, h3, h4, h5, h6, h7, h8⟩
theorem sm_weaken {tb : Tables} {mid below : List Frame} {a b : State} (h : Steps tb e (mid ++ below) a b) : Steps tb e below a b := by
  obtain ⟨n, hn, w⟩ := h
  exact ⟨n, hn, fun k hk => (w k hk).weaken⟩
theorem sm_call {q q' : mi_T} {d : Nat} (hv : sm_rn (sm_sv N)) (F : sm_fx N p l R s m meth c q (d + 1) Gs) (hcode : (mi_w q').before args s = true) (hplain : plainFor q'.1 = true) (hn' : q'.2.2.1 ≤ 100)
    {T1 : State} {locs : List Loc} {cells slots : Nat} (X : Stand p l e R s m args below meth c T1 locs cells slots) {g : JFrame} (hg : g.method = m) (hsize : g.locals.size = c.maxLocals) {ig : Instr} (hdg : decode c.code g.pc = .ok (ig, 3)) (hmon : g.monitorRoom = 0)
    {rest : List Value} (hrest : g.stack = rest.map (sm_tv N)) (hrl : rest.length ≤ 12) {mk : MethodId} (hnamed : s.methodNamed? q'.1 = some mk) {G : am_G} (hJ : sm_J N Gs G T1.heap locs cells slots) {as : List Value} {Q' : am_O → am_G → Prop} (hok : sm_ok N d q' as G Q') :
    ∃ (o : am_O) (G2 : am_G) (L : List Loc) (k n : Nat) (T' : State), Stand p l e R s m args below meth c T' (locs ++ L) (cells + k) (slots + n) ∧ Q' o G2 ∧ sm_J N Gs G2 T'.heap (locs ++ L) (cells + k) (slots + n) ∧
      ∀ acts, Steps p.tables e below (doInvoke e (T1.setTop g) acts mk (as.map (sm_tv N)).toArray).1 (match o with
        | .inl v => T'.setTop { g with pc := g.pc + 3, stack := (v.map (sm_tv N)).toList ++ g.stack }
        | .inr z => (T'.setTop g).pushFrame (.throwing (sm_base N + z))) := by
  obtain ⟨f1, f2, f3, f4, f5, f6, f7, f8, f9, f10, f11, f12, f13, f14⟩ := F
  obtain ⟨mk', methk, ck, k0, k1, k2, k3, k4, k5, k6, k7, k8⟩ := sm_code hcode
  have emk : mk' = mk := Option.some.inj (k0.symm.trans hnamed)
  subst emk
  have hcells := hJ.2.2.1
  have hslots := hJ.2.2.2
  have hlen := hJ.1.2.1
  have hTm : T1.vm.method? mk' = some methk := by rw [X.warmed.alike.method?]; exact k1
  have hTn : T1.methodNamed? q'.1 = some mk' := X.named hnamed
  have hpk : T1.plainMethod mk' := State.plainMethod.of_named hplain hTn hTm
  have hcat := sm_cat2 hv rest
  have hR1 : cells ≤ R.cells := by
    have := X.room
    have := X.same.2.2.1
    have h3 := X.heapSize
    omega
  generalize hR' : ({ frames := R.frames - 1, cells := R.cells - cells, slots := R.slots - slots, locals := R.locals - 200 } : Room) = R'
  obtain ⟨Y, hin⟩ := X.into hg hsize hdg (as.map (sm_tv N)).toArray (R' := R') hTm k2 k7 hpk (by subst hR'; show R.frames - 1 + 1 ≤ _; omega)
    (by subst hR'; rw [hmon, hrest, k4]; show 2 * 0 + _ + (_ + 11) + (R.locals - 200) ≤ _; omega) (by subst hR'; show cells + (R.cells - cells) ≤ _; omega) (by subst hR'; show slots + (R.slots - slots) ≤ _; omega)
  generalize hU : (T1.setTop g).pushFrame (.java (entryFrame mk' (as.map (sm_tv N)).toArray ck.maxLocals)) = U at Y hin
  generalize hS' : T1.calling g mk' (as.map (sm_tv N)).toArray = s' at Y
  have hvm : s'.vm = T1.vm := by rw [← hS']; rfl
  have hhp : s'.heap = T1.heap := by rw [← hS']; rfl
  have hUh : U.heap = T1.heap := by rw [← hU]; rfl
  have F' : sm_fx N p l R' s' mk' methk ck q' d G := by
    refine ⟨f1, f2, ?_, ?_, k3, k4, k6, k7, ?_, k5, ?_, ?_, ?_, ?_⟩
    · rw [hvm]; exact State.WarmedH.trans f3 X.warmed
    · rw [hvm]; exact findClass_of_methodNamed hTn
    · exact (name_of_methodNamed hTn hTm).1
    · subst hR'; show _ ≤ R.frames - 1; omega
    · subst hR'; show _ ≤ R.locals - 200; omega
    · subst hR'; show _ ≤ R.cells - cells + _; omega
    · subst hR'; show _ ≤ R.slots - slots + _; omega
  have hWk := hok p l e R' s' mk' (.java g :: below) methk ck F' (by rw [hhp]; exact hJ.1)
  obtain ⟨t, hst, o, G2, L, k, n, z1, z2, z3, z4, z5, z6⟩ := hWk U (by rw [hUh, hhp]) Y
  subst hS'
  cases o with
  | inl v =>
    obtain ⟨T', X', hW', -, ht⟩ := X.outOf hg hdg z2 z3 z4
    have hth : t.heap = T'.heap := by rw [ht]; exact State.heap_setTop ..
    refine ⟨.inl v, G2, L, k, n, T', X', z6, ?_, fun acts => ?_⟩
    · rw [hth] at z5
      exact ⟨z5.1, fun q hq => (List.mem_append.mp hq).elim (hJ.2.1 q) (z5.2.1 q), by have := z5.2.2.1; omega, by have := z5.2.2.2; omega⟩
    · rw [hin acts]
      show Steps p.tables e below _ (T'.setTop { g with pc := g.pc + 3, stack := (v.map (sm_tv N)).toList ++ g.stack })
      rw [← ht]
      exact sm_weaken (mid := [.java g]) hst
  | inr z =>
    obtain ⟨T', X', hW', -, ht⟩ := X.outOfThrown hg z2 z3 z4
    have hth : t.heap = T'.heap := by rw [ht]; exact Stand.throwing_heap ..
    refine ⟨.inr z, G2, L, k, n, T', X', z6, ?_, fun acts => ?_⟩
    · rw [hth] at z5
      exact ⟨z5.1, fun q hq => (List.mem_append.mp hq).elim (hJ.2.1 q) (z5.2.1 q), by have := z5.2.2.1; omega, by have := z5.2.2.2; omega⟩
    · rw [hin acts]
      show Steps p.tables e below _ ((T'.setTop g).pushFrame (.throwing (sm_base N + z)))
      rw [← ht]
      exact sm_weaken (mid := [.java g]) hst
end
