/-! An exception made by a constructor that hands its text on by a link of its own place (NoSuchElementException's is 13, not 7), stack traces off; thrown out of the frame. -/
section
variable {p : Program} {l : Launch} {e : Env} {R : Room} {s : State} {m₀ : MethodId} {args : Array Value} {below : List Frame} {meth : Method} {c : Code} {W : State} {locs : List Loc} {cells slots : Nat}
set_option maxHeartbeats 1000000 in
theorem sm_made (X : Stand p l e R s m₀ args below meth c W locs cells slots) (hexec : p.tables.exec = Jvm.exec) (htr : e.platform.stackTraces = false) {own cls : String} {names : List String} {ic ix : Nat} {rx : ByteArray}
    (x0 : decode rx 0 = .ok (.aload_n 0, 1)) (x1 : decode rx 1 = .ok (.aload_n 1, 1)) (x2 : decode rx 2 = .ok (.invokespecial ix, 3)) (x5 : decode rx 5 = .ok (.return_, 1))
    (hown : s.vm.findClass own = some m₀.cls) (hcls : Bundle.fit cls = true) (hnames : ∀ n ∈ names, Bundle.fit n = true) (h : ∀ w ∈ Bundle.ownAtomsX own ic cls ix rx names, w.before args s = true) (hlocs : locs = [])
    {a : Addr} {cX : ClassId} {kX : Class} (hfX : s.vm.findClass cls = some cX) (hkX : s.vm.classes[cX]? = some kX) (hcell : W.heap[a]? = some (freshCell cX kX)) (hnew : s.heap.size ≤ a) {msg : Value} (hmsg : msg.isRef = true)
    {g : JFrame} (hg : g.method = m₀) (hsize : g.locals.size = c.maxLocals) (hlocked : g.locked = none) (hentered : g.entered = []) (hstack : g.stack = [msg, .ref a, .ref a])
    (hd6 : decode c.code g.pc = .ok (.invokespecial ic, 3)) (hd9 : decode c.code (g.pc + 3) = .ok (.athrow, 1)) (hout : ∀ x ∈ c.exceptionTable.toList, covers x (g.pc + 3) = false)
    (hRf : names.length + 3 < R.frames) (hRl : 2 * g.monitorRoom + 1 + (13 * (names.length + 1) + 42) ≤ R.locals) (hlocks : meth.locks = false) :
    ∃ U : State, Steps p.tables e below (W.setTop g) U ∧ U.status = .running ∧ Ended U below (.threw a) ∧ s.WarmedH U.vm ∧ s.sameButNew ({ U with vm := s.vm } : State) locs cells slots ∧ ∃ ce, U.heap[a]? = some ce ∧ ce.vm = .none ∧ ce.cls = cX := by
  subst hlocs
  have hpl : e.platform.magicAccessors = ({} : Platform).magicAccessors := by rw [X.admits.platform]
  have hin : ∀ w, w ∈ Bundle.ownAtomsX own ic cls ix rx names → w.holds args s none s [] = true := fun w hw => h w hw
  obtain ⟨T, Z0, L, -, Y⟩ := ThrowableC.of_atoms (args := args) (by rw [X.admits.platform]) (by rw [X.admits.platform]) hpl (fun w hw => h w (by simp [Bundle.ownAtomsX, hw]))
  obtain ⟨Z, M, LZ, LM, hnZ⟩ := Init0T.ofS_atoms (args := args) hpl L Y (fun w hw => h w (by simp [Bundle.ownAtomsX, hw]))
  obtain ⟨P1, Ps, hlen, L1, hL, hP1, hl1, hls⟩ := Bundle.chainSX (args := args) hpl hnZ x0 x1 x2 x5 names cls hcls hnames (fun w hw => h w (by simp [Bundle.ownAtomsX, hw]))
  have hfc : s.vm.findClass cls = some P1.m.cls := findClass_of_methodNamed hP1
  obtain rfl : cX = P1.m.cls := Option.some.inj (hfX.symm.trans hfc)
  obtain ⟨c1, kX', hc1, hk, hord, -, -, -⟩ := Cond.instantiable_spec (hin (.instantiable cls 6) (by simp [Bundle.ownAtomsX]))
  obtain rfl := Option.some.inj (hc1.symm.trans hfc)
  obtain rfl := Option.some.inj (hkX.symm.trans hk)
  have hsel : ∀ (t : MethodName) (mt : MethodId), (Cond.selects cls t t) ∈ Bundle.ownAtomsX own ic cls ix rx names → s.methodNamed? t = some mt → (t.cls ≠ "java/lang/invoke/MethodHandle" ∧ t.cls ≠ "java/lang/invoke/VarHandle") → selectMethod e.platform s.vm P1.m.cls mt = .method mt := by
    intro t mt hw hn hne
    obtain ⟨c2, r2, m2, q1, q2, q3, q4, -⟩ := Cond.selects_spec (hin _ hw)
    obtain rfl := Option.some.inj (q1.symm.trans hfc)
    obtain rfl := Option.some.inj (q2.symm.trans (State.methodFound?_of_named hn hne))
    obtain rfl := Option.some.inj (q3.symm.trans hn)
    rw [Launch.admits_selectMethod X.admits]
    exact q4
  have hsel0 := hsel Bundle.tFill0 T.fill0 (by simp [Bundle.ownAtomsX]) Y.fill0 (by decide)
  have hselF := hsel Bundle.tFill T.fill (by simp [Bundle.ownAtomsX]) Y.fill (by decide)
  obtain ⟨cellS0, hcS0, hiss⟩ := Y.statics
  obtain ⟨u0, hu0⟩ := Cond.staticRefV Y.unassigned L.unassignedStatic L.statics hcS0 hiss (hin (.isRef (.static Bundle.tN "UNASSIGNED_STACK" Bundle.steD)) (by simp [Bundle.ownAtomsX]))
  obtain ⟨sen, hsen⟩ := Cond.staticRefV Y.sentinel L.sentinelStatic L.statics hcS0 hiss (hin (.isRef (.static Bundle.tN "SUPPRESSED_SENTINEL" Bundle.listD)) (by simp [Bundle.ownAtomsX]))
  obtain ⟨ci, i8, fB, hk8, hg8, ha8, hsB, -, hnB, htB, hffB⟩ := Cond.ownField (t := .object "java/lang/Object") Y.found L.cls (by decide +kernel) (hin (.fieldLink Bundle.tN 198 Bundle.tN "backtrace" "Ljava/lang/Object;") (by simp [Bundle.ownAtomsX])) (hin (.lays Bundle.tN Bundle.tN "backtrace" "Ljava/lang/Object;") (by simp [Bundle.ownAtomsX])) e.platform hpl
  obtain ⟨cellS, hcS, heS, -, hkeep⟩ := X.same.2.2.2.2.2 T.aS cellS0 hcS0
  have hkeep' : ∀ i, cellS.slots[i]? = cellS0.slots[i]? := fun i => hkeep i (fun hz => nomatch hz)
  have hknS : cellS.vm ≠ .unknown := by
    rw [heS]
    intro hu
    rw [show cellS0.vm = .unknown from hu] at hiss
    cases hiss
  have hneS : T.aS ≠ a := Nat.ne_of_lt (Nat.lt_of_lt_of_le (Array.getElem?_eq_some_iff.mp hcS0).1 hnew)
  obtain ⟨iM, hffM⟩ := Y.msg
  obtain ⟨tyC, dC, hdC, hdnC⟩ := Cond.laysAt hfc hk Y.cause (hin (.lays cls Bundle.tN "cause" "Ljava/lang/Throwable;") (by simp [Bundle.ownAtomsX]))
  obtain ⟨tyS, dS, hdS, hdnS⟩ := Cond.laysAt hfc hk Y.stack (hin (.lays cls Bundle.tN "stackTrace" Bundle.steD) (by simp [Bundle.ownAtomsX]))
  obtain ⟨tyP, dP, hdP, hdnP⟩ := Cond.laysAt hfc hk Y.supp (hin (.lays cls Bundle.tN "suppressedExceptions" Bundle.listD) (by simp [Bundle.ownAtomsX]))
  obtain ⟨tyM, dM, hdM, hdnM⟩ := Cond.laysAt hfc hk hffM (hin (.lays cls Bundle.tN "detailMessage" "Ljava/lang/String;") (by simp [Bundle.ownAtomsX]))
  obtain ⟨tyB, dB, hdB, hdnB⟩ := Cond.laysAt hfc hk hffB (hin (.lays cls Bundle.tN "backtrace" "Ljava/lang/Object;") (by simp [Bundle.ownAtomsX]))
  have b1 := Cond.laysApart hdB hdC hdnB hdnC (by rw [hnB, Y.causeName]; decide)
  have b2 := Cond.laysApart hdB hdS hdnB hdnS (by rw [hnB, Y.stackName]; decide)
  have b3 := Cond.laysApart hdB hdP hdnB hdnP (by rw [hnB, Y.suppName]; decide)
  have hskip : SkipFacts T e.platform s (fun u => u) u0 ((preparedCellV T.toThrowableT (freshCell P1.m.cls kX) a u0 sen).withEntry W.cur) := by
    refine ⟨{ ci198 := ci, i198 := i8, fBack := fB }, ⟨hk8, hg8, ha8, hsB⟩, ?_, fun _ _ => rfl⟩
    have h9 := fresh_default (c := P1.m.cls) tyB
    rw [htB] at h9
    simpa [preparedCellV, Cell.setSlot, Cell.withEntry, Array.getElem?_setIfInBounds, b1, b2, b3, b1.symm, b2.symm, b3.symm, defaultValue] using h9
  have hm1 : ∀ w, w ∈ [Cond.instanceMethod (Bundle.initS cls), .code (Bundle.initS cls) rx 2 none] → w ∈ Bundle.ownAtomsX own ic cls ix rx names := by
    intro w hw
    cases names <;> simp [Bundle.ownAtomsX, Bundle.chainSAtomsX, Bundle.passSAtoms] <;> simp at hw <;> rcases hw with rfl | rfl <;> simp
  obtain ⟨tm, methC, cdC, kC, vm₁, hnC, -, -, -, -, -, -, -, hW₁, st1⟩ := Steps.initColdS (tb := p.tables) (e := e) (below := below) (s := s) (U := W) X.here hexec X.warmed hpl hown (t := Bundle.initS cls) rfl rfl (Bundle.fit_spec hcls).2
    (hin (.methodLink own ic (Bundle.initS cls)) (by simp [Bundle.ownAtomsX])) (h _ (hm1 _ (by simp))) (bytes := rx) (maxL := 2) (h _ (hm1 _ (by simp))) (f := g) hg (a := a) (msg := msg) (rest := [.ref a]) hstack hd6
  obtain rfl := Option.some.inj (hnC.symm.trans hP1)
  obtain ⟨vm₂, X₂, st2⟩ := (X.noted hW₁).ctorMessageOffV hexec (g := { g with stack := [.ref a] }) hg hsize T L Z LZ M LM (P1 :: Ps)
    (fun P hP => by rcases List.mem_cons.mp hP with rfl | hP; exact L1; exact hL P hP) ⟨hl1, hls⟩ (u0 := u0) (sen := sen) (self := a) hmsg (cell := freshCell P1.m.cls kX) (cellS := cellS)
    hcell (fun _ => by simp) (by simp) rfl rfl hsel0 hselF hcS hneS hknS (by rw [hkeep']; exact hu0) (by rw [hkeep']; exact hsen)
    (Takes.of_laid hk hord tyC (by rw [Y.causeType]; rfl)) (Takes.of_laid hk hord tyS (by rw [Y.stackType]; exact fits_refV_array _ u0)) (Takes.of_laid hk hord tyP (by rw [Y.suppType]; exact fits_refV_object _ sen))
    (Takes.of_laid hk hord tyM (by rw [Y.msgType]; exact fits_refV_object _ ⟨msg, hmsg⟩)) Y.objLocals hskip htr [] hd6 (by simp only [List.length_cons, hlen]; omega) (by simp only [List.length_cons, hlen]; exact hRl)
  obtain ⟨hwalk, hrun, hended, hWU, hsame⟩ := X₂.athrowLeaves hexec (g := { g with stack := [.ref a], pc := g.pc + 3 }) hg hlocked hentered hout (a := a) (rest := []) rfl hd9
  have hlt : a < ((W.setVm vm₁).setVm vm₂).heap.size := (Array.getElem?_eq_some_iff.mp hcell).1
  have hU := heapAt_setCell_self (s := (W.setVm vm₁).setVm vm₂) (plainBareV T.toThrowableT (freshCell P1.m.cls kX) a u0 sen msg) hlt
  refine ⟨_, st1 _ (fun acts => ?_), hrun, hended, hWU, hsame.weaken (fun y hy hlt' => ?_) (Nat.le_refl _) (Nat.le_refl _), _, hU, rfl, rfl⟩
  · rw [doInvoke_state]
    exact st2 _ hwalk
  · exfalso
    have hb : y.base = a := by
      rcases List.mem_append.mp hy with h1 | h1
      · cases h1
      · simp only [List.mem_cons, List.not_mem_nil, or_false] at h1
        rcases h1 with rfl | rfl | rfl | rfl | rfl <;> rfl
    rw [hb] at hlt'
    exact Nat.not_lt.mpr hnew hlt'
end
/-! throw new E("text") -/
def vx_atX (own : String) (ic : Nat) (X : String) (ix : Nat) (rx : ByteArray) (names : List String) : List Cond := (Bundle.ownAtomsX own ic X ix rx names).filter vx_no
section
variable {N : sm_N} {Gs : am_G} {nL : Nat} {p : Program} {l : Launch} {e : Env} {R : Room} {s : State} {m : MethodId} {args : Array Value} {below : List Frame} {meth : Method} {c : Code}
variable {pc : Nat} {ls : am_L} {st : List Value} {G : am_G} {ps : List Prop} {post : am_O → am_G → Prop} {q : mi_T} {d : Nat}
theorem sv_throw {cls text : String} {names : List String} {ik is ic sa k r2 ix : Nat} {rx : ByteArray} (x0 : decode rx 0 = .ok (.aload_n 0, 1)) (x1 : decode rx 1 = .ok (.aload_n 1, 1)) (x2 : decode rx 2 = .ok (.invokespecial ix, 3)) (x5 : decode rx 5 = .ok (.return_, 1)) (E : sm_env N) (F : sm_fx N p l R s m meth c q d Gs) (hnL : q.2.2.1 = nL) (hcls : Bundle.fit cls = true) (hnames : ∀ n ∈ names, Bundle.fit n = true) (hnl : names.length = 2)
    (hk : (Cond.classLink q.1.cls ik cls).before args s = true) (hini : (Cond.initialized cls).before args s = true) (hstr : vk_R q.1.cls is text sa s) (hat : ∀ w ∈ vx_atX q.1.cls ic cls ix rx names, w.before args s = true)
    (hgood : ∀ w ∈ Cond.classLink q.1.cls ik cls :: Cond.initialized cls :: vx_atX q.1.cls ic cls ix rx names, vx_ot w = true)
    (hU : vx_Zq Bundle.tN "UNASSIGNED_STACK" Bundle.steD (fun q => sm_base N ≤ q) (sm_s0 N) (sm_s0 N).heap) (hN : vx_Zq Bundle.tN "SUPPRESSED_SENTINEL" Bundle.listD (fun q => sm_base N ≤ q) (sm_s0 N) (sm_s0 N).heap)
    (hkx : k = 200 ∨ k = 201) (hkc : am_xn k = cls) (hhs : q.2.2.2.2.1 = [])
    (d0 : decode q.2.1 pc = .ok (.new ik, 3)) (d3 : decode q.2.1 (pc + 3) = .ok (.dup, 1)) (d4 : decode q.2.1 (pc + 4) = .ok (.ldc_w is, 3)) (d7 : decode q.2.1 (pc + 7) = .ok (.invokespecial ic, 3)) (d10 : decode q.2.1 (pc + 10) = .ok (.athrow, 1))
    {o : am_O} {G' : am_G} (h : am_new k r2 (pc + 3) ls st G = some (ps, am_re o G')) (hp : am_all ps True) (hq : post o G') : sm_V N Gs nL p l e R s m args below meth c (sm_Z N Gs below s post) pc ls st G := by
  unfold am_new at h
  split at h
  · split at h
    · cases h
      intro H locs cells slots lsR hJ hl T hT X
      obtain ⟨⟨h3, h4⟩, -⟩ := hp
      have hcells := hJ.2.2.1
      have hslots := hJ.2.2.2
      obtain ⟨f1, f2, f3, f4, f5, f6, f7, f8, f9, f10, f11, f12, f13, f14⟩ := F
      have hHs := hJ.1.1
      have hb : c.code = q.2.1 := f5
      have hout : ∀ x ∈ c.exceptionTable.toList, covers x (pc + 10) = false := by
        rw [hhs] at f10
        rw [List.map_eq_nil_iff.mp f10]
        exact fun x hx => nomatch hx
      have hsize : lsR.size = c.maxLocals := by rw [f6, hnL]; exact hl.2.1
      have htr : e.platform.stackTraces = false := (show e.platform.stackTraces = l.stackTraces by rw [X.admits.platform]).trans f2
      have Y := vx_rebase X (R' := { frames := R.frames, locals := R.locals, cells := 1, slots := 6 }) (Nat.le_refl _) (Nat.le_refl _) (show cells + 1 ≤ R.cells by omega) (show slots + 6 ≤ R.slots by omega)
      obtain ⟨s', hA⟩ : ∃ z, z = (T.setVm s.vm).setFrames (.invoking m args :: below) := ⟨_, rfl⟩
      rw [← hA] at Y
      have hvm : s'.vm = s.vm := by rw [hA]; rfl
      have hhp : s'.heap = H := by rw [hA]; exact hT
      have hW0 : s.WarmedH s'.vm := by rw [hvm]; exact State.WarmedH.refl s
      have hW1 : (sm_s0 N).vm.Alike s'.vm := by rw [hvm]; exact f3.alike
      have hkept : ∀ a : Nat, a < (sm_s0 N).heap.size → ¬ sm_base N ≤ a → s'.heap[a]? = (sm_s0 N).heap[a]? := fun a _ ha => by rw [hhp]; exact hJ.1.2.2.2.2.1 a (by omega)
      have hat' : ∀ w ∈ vx_atX q.1.cls ic cls ix rx names, w.before args s' = true := fun w hw => vx_ot_at hW0 hvm.symm (hgood w (List.mem_cons_of_mem _ (List.mem_cons_of_mem _ hw))) (hat w hw)
      have hk' : (Cond.classLink q.1.cls ik cls).before args s' = true := vx_ot_at hW0 hvm.symm (hgood _ List.mem_cons_self) hk
      have hini' : (Cond.initialized cls).before args s' = true := vx_ot_at hW0 hvm.symm (hgood _ (List.mem_cons_of_mem _ List.mem_cons_self)) hini
      have hU' : vx_Zq Bundle.tN "UNASSIGNED_STACK" Bundle.steD (fun q => sm_base N ≤ q) s' s'.heap := vx_Zq.moved hW1 (hU.kept hkept)
      have hN' : vx_Zq Bundle.tN "SUPPRESSED_SENTINEL" Bundle.listD (fun q => sm_base N ≤ q) s' s'.heap := vx_Zq.moved hW1 (hN.kept hkept)
      have hh : ∀ w ∈ Bundle.ownAtomsX q.1.cls ic cls ix rx names, w.before args s' = true := vx_own hat' (vx_isRefq hU'.1) (vx_isRefq hN'.1) hU'.2.word hN'.2.word
      have hown' : s'.vm.findClass q.1.cls = some m.cls := by rw [hvm]; exact f4
      have hins : (Cond.instantiable cls 6).before args s' = true := hh _ (by simp [Bundle.ownAtomsX])
      obtain ⟨vm₁, cX, kX, hfX, hkX, -, -, X₁, st1⟩ := Y.newCold f1 (own := q.1.cls) (C := cls) (index := ik) (n := 6) hown' hk' hins hini'
        (g := F0 m pc lsR []) rfl (by rw [hb]; exact d0) (Nat.le_refl _) (Nat.le_refl _)
      generalize hT1 : (T.setVm vm₁).pushCell { cls := cX, slots := kX.instanceTypes.map defaultValue, vm := .none } = T1 at X₁ st1
      have hcat : (Value.ref T.heap.size).category = 1 := rfl
      have hcellA : T1.heap[T.heap.size]? = some (freshCell cX kX) := by rw [← hT1]; exact State.heap_pushCell_size _ _
      have d3' : decode c.code (pc + 3) = .ok (.dup, 1) := by rw [hb]; exact d3
      have d4' : decode c.code (pc + 4) = .ok (.ldc_w is, 3) := by rw [hb]; exact d4
      have hstr' : vk_R q.1.cls is text sa s' := vk_R.warm hW0 hstr
      obtain ⟨U, hsteps, hrun, hend, hW, hsame, ce, hce, hO, hO2⟩ := sm_made X₁ f1 htr (own := q.1.cls) (cls := cls) (names := names) (ic := ic) x0 x1 x2 x5 hown' hcls hnames hh rfl hfX hkX hcellA (by rw [hhp, hT]; exact Nat.le_refl _) (msg := .ref sa) rfl
        (g := { method := m, pc := pc + 7, locals := lsR, stack := [.ref sa, .ref T.heap.size, .ref T.heap.size], locked := none }) rfl hsize rfl rfl rfl
        (by rw [hb]; exact d7) (by rw [hb]; exact d10) hout (by show names.length + 3 < R.frames; omega) (by show 2 * 0 + 1 + (13 * (names.length + 1) + 42) ≤ R.locals; omega) f8
      obtain ⟨g1, g2⟩ := vx_frame hsame
      have g3 : U.heap.size ≤ s'.heap.size + (0 + 1) := hsame.2.2.1
      rw [hhp] at g1 g2 g3
      have hWs : s.WarmedH U.vm := State.WarmedH.trans hW0 hW
      have hTs : T.heap.size = H.size := by rw [hT]
      have hlt : T.heap.size < U.heap.size := (Array.getElem?_eq_some_iff.mp hce).1
      have hclsx : s.vm.findClass cls = some ce.cls := by
        rw [hO2, ← hvm]
        exact hfX
      have hall : s.sameButNew ({ U with vm := s.vm } : State) locs (cells + 1) (slots + 6) := by
        subst hA
        obtain ⟨e1, e2⟩ := hsame
        rw [State.setFrames_setFrames] at e1
        have h2 : (T.setVm s.vm).sameButNew ({ U with vm := s.vm } : State) [] (0 + 1) (0 + 6) := ⟨e1, e2⟩
        have h3 := X.same.trans h2
        rw [List.append_nil] at h3
        exact h3
      have hrep : sm_rep N (am_nw G k 6) U.heap := by
        refine hJ.1.push h3 h4 (by omega) (fun q9 hq9 => g2 q9 hq9 (fun z hz => nomatch hz)) ?_
        refine Or.inr (Or.inr (Or.inr (Or.inr ⟨hkx, ce, ?_, hO, ?_⟩)))
        · rw [← hHs, ← hTs]; exact hce
        · rw [hkc, ← f3.alike.findClass]; exact hclsx
      refine ⟨U, ?_, .inr (am_K G).length, am_nw G k 6, locs, cells + 1, slots + 6, hrun, ?_, hWs, hall, hJ.push hrep, hq⟩
      · refine st1 _ ?_
        show Steps p.tables e below (T1.setTop { method := m, pc := pc + 3, locals := lsR, stack := .ref T.heap.size :: [], locked := none }) _
        jvm_step X₁.here [X₁.here.top, f1, d3', Value.category]
        exact X₁.ldcStringW f1 (own := q.1.cls) (text := text) (index := is) (a := sa) hown' hstr'.1 hstr'.2
          (g := { method := m, pc := pc + 4, locals := lsR, stack := .ref T.heap.size :: .ref T.heap.size :: [], locked := none }) rfl d4' _ hsteps
      · show Ended U below (.threw (sm_base N + (am_K G).length))
        rw [← hHs, ← hTs]
        exact hend
    · cases h
  · cases h
end
