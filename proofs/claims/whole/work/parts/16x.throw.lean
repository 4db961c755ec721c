/-! throw new E("text") -/
section
variable {N : sm_N} {Gs : am_G} {nL : Nat} {p : Program} {l : Launch} {e : Env} {R : Room} {s : State} {m : MethodId} {args : Array Value} {below : List Frame} {meth : Method} {c : Code}
variable {pc : Nat} {ls : am_L} {st : List Value} {G : am_G} {ps : List Prop} {post : am_O → am_G → Prop} {q : mi_T} {d : Nat}
theorem sv_throw {cls text : String} {names : List String} {ik is ic sa k r2 : Nat} (E : sm_env N) (F : sm_fx N p l R s m meth c q d Gs) (hnL : q.2.2.1 = nL) (hcls : Bundle.fit cls = true) (hnames : ∀ n ∈ names, Bundle.fit n = true) (hnl : names.length = 2)
    (hk : (Cond.classLink q.1.cls ik cls).before args s = true) (hini : (Cond.initialized cls).before args s = true) (hstr : vk_R q.1.cls is text sa s) (hat : ∀ w ∈ vx_atS q.1.cls ic cls names, w.before args s = true)
    (hgood : ∀ w ∈ Cond.classLink q.1.cls ik cls :: Cond.initialized cls :: vx_atS q.1.cls ic cls names, vx_ot w = true)
    (hU : vx_Zq Bundle.tN "UNASSIGNED_STACK" Bundle.steD (fun q => sm_base N ≤ q) (sm_s0 N) (sm_s0 N).heap) (hN : vx_Zq Bundle.tN "SUPPRESSED_SENTINEL" Bundle.listD (fun q => sm_base N ≤ q) (sm_s0 N) (sm_s0 N).heap)
    (hkx : k = 200 ∨ k = 201) (hkc : am_xn k = cls) (hhs : q.2.2.2.2.1 = [])
    (d0 : decode q.2.1 pc = .ok (.new ik, 3)) (d3 : decode q.2.1 (pc + 3) = .ok (.dup, 1)) (d4 : decode q.2.1 (pc + 4) = .ok (.ldc_w is, 3)) (d7 : decode q.2.1 (pc + 7) = .ok (.invokespecial ic, 3)) (d10 : decode q.2.1 (pc + 10) = .ok (.athrow, 1))
    {o : am_O} {G' : am_G} (h : am_new k r2 (pc + 3) ls st G = some (ps, am_re o G')) (hp : am_all ps True) (hq : post o G') : sm_V N Gs nL p l e R s m args below meth c (sm_Z N Gs below s post) pc ls st G := by
  unfold am_new at h
  split at h
  · split at h
    · cases h
      intro H locs cells slots lsR hJ hl T hT X
      obtain ⟨⟨h3, h4⟩, -⟩ := hp
      have hcells := hJ.2.2.1
      have hslots := hJ.2.2.2
      obtain ⟨f1, f2, f3, f4, f5, f6, f7, f8, f9, f10, f11, f12, f13, f14⟩ := F
      have hHs := hJ.1.1
      have hb : c.code = q.2.1 := f5
      have hout : ∀ x ∈ c.exceptionTable.toList, covers x (pc + 10) = false := by
        rw [hhs] at f10
        rw [List.map_eq_nil_iff.mp f10]
        exact fun x hx => nomatch hx
      have hsize : lsR.size = c.maxLocals := by rw [f6, hnL]; exact hl.2.1
      have htr : e.platform.stackTraces = false := (show e.platform.stackTraces = l.stackTraces by rw [X.admits.platform]).trans f2
      have Y := vx_rebase X (R' := { frames := R.frames, locals := R.locals, cells := 1, slots := 6 }) (Nat.le_refl _) (Nat.le_refl _) (show cells + 1 ≤ R.cells by omega) (show slots + 6 ≤ R.slots by omega)
      obtain ⟨s', hA⟩ : ∃ z, z = (T.setVm s.vm).setFrames (.invoking m args :: below) := ⟨_, rfl⟩
      rw [← hA] at Y
      have hvm : s'.vm = s.vm := by rw [hA]; rfl
      have hhp : s'.heap = H := by rw [hA]; exact hT
      have hW0 : s.WarmedH s'.vm := by rw [hvm]; exact State.WarmedH.refl s
      have hW1 : (sm_s0 N).vm.Alike s'.vm := by rw [hvm]; exact f3.alike
      have hkept : ∀ a : Nat, a < (sm_s0 N).heap.size → ¬ sm_base N ≤ a → s'.heap[a]? = (sm_s0 N).heap[a]? := fun a _ ha => by rw [hhp]; exact hJ.1.2.2.2.2.1 a (by omega)
      have hat' : ∀ w ∈ vx_atS q.1.cls ic cls names, w.before args s' = true := fun w hw => vx_ot_at hW0 hvm.symm (hgood w (List.mem_cons_of_mem _ (List.mem_cons_of_mem _ hw))) (hat w hw)
      have hk' : (Cond.classLink q.1.cls ik cls).before args s' = true := vx_ot_at hW0 hvm.symm (hgood _ List.mem_cons_self) hk
      have hini' : (Cond.initialized cls).before args s' = true := vx_ot_at hW0 hvm.symm (hgood _ (List.mem_cons_of_mem _ List.mem_cons_self)) hini
      have hU' : vx_Zq Bundle.tN "UNASSIGNED_STACK" Bundle.steD (fun q => sm_base N ≤ q) s' s'.heap := vx_Zq.moved hW1 (hU.kept hkept)
      have hN' : vx_Zq Bundle.tN "SUPPRESSED_SENTINEL" Bundle.listD (fun q => sm_base N ≤ q) s' s'.heap := vx_Zq.moved hW1 (hN.kept hkept)
      have hh : ∀ w ∈ Bundle.ownAtoms q.1.cls ic cls names, w.before args s' = true := vx_own hat' (vx_isRefq hU'.1) (vx_isRefq hN'.1) hU'.2.word hN'.2.word
      have hown' : s'.vm.findClass q.1.cls = some m.cls := by rw [hvm]; exact f4
      have hins : (Cond.instantiable cls 6).before args s' = true := hh _ (by simp [Bundle.ownAtoms])
      obtain ⟨vm₁, cX, kX, hfX, hkX, -, -, X₁, st1⟩ := Y.newCold f1 (own := q.1.cls) (C := cls) (index := ik) (n := 6) hown' hk' hins hini'
        (g := F0 m pc lsR []) rfl (by rw [hb]; exact d0) (Nat.le_refl _) (Nat.le_refl _)
      generalize hT1 : (T.setVm vm₁).pushCell { cls := cX, slots := kX.instanceTypes.map defaultValue, vm := .none } = T1 at X₁ st1
      have hcat : (Value.ref T.heap.size).category = 1 := rfl
      have hcellA : T1.heap[T.heap.size]? = some (freshCell cX kX) := by rw [← hT1]; exact State.heap_pushCell_size _ _
      have d3' : decode c.code (pc + 3) = .ok (.dup, 1) := by rw [hb]; exact d3
      have d4' : decode c.code (pc + 4) = .ok (.ldc_w is, 3) := by rw [hb]; exact d4
      have hstr' : vk_R q.1.cls is text sa s' := vk_R.warm hW0 hstr
      obtain ⟨U, hsteps, hrun, hend, hW, hsame, ce, hce, hO⟩ := X₁.ctorThrowS f1 htr (own := q.1.cls) (cls := cls) (names := names) (ic := ic) hown' hcls hnames hh (fun x hx => nomatch hx) hfX hkX hcellA (by rw [hhp, hT]; exact Nat.le_refl _) (msg := .ref sa) rfl
        (g := { method := m, pc := pc + 7, locals := lsR, stack := .ref sa :: .ref T.heap.size :: .ref T.heap.size :: [], locked := none }) rfl hsize rfl rfl (rest := []) rfl
        (by rw [hb]; exact d7) (by rw [hb]; exact d10) hout (by show names.length + 3 < R.frames; omega) (by
          show 2 * 0 + ([Value.ref T.heap.size].map fun v => v.category).sum + (13 * (names.length + 1) + 42) ≤ R.locals
          simp only [List.map_cons, List.map_nil, List.sum_cons, List.sum_nil, hcat]
          omega) f8
      obtain ⟨g1, g2⟩ := vx_frame hsame
      have g3 : U.heap.size ≤ s'.heap.size + (0 + 1) := hsame.2.2.1
      rw [hhp] at g1 g2 g3
      have hWs : s.WarmedH U.vm := State.WarmedH.trans hW0 hW
      have hTs : T.heap.size = H.size := by rw [hT]
      have hlt : T.heap.size < U.heap.size := (Array.getElem?_eq_some_iff.mp hce).1
      have hclsx : s.vm.findClass cls = some ce.cls := by
        have h9 := hO.cls
        rw [hvm] at h9
        exact h9
      have hall : s.sameButNew ({ U with vm := s.vm } : State) locs (cells + 1) (slots + 6) := by
        subst hA
        obtain ⟨e1, e2⟩ := hsame
        rw [State.setFrames_setFrames] at e1
        have h2 : (T.setVm s.vm).sameButNew ({ U with vm := s.vm } : State) [] (0 + 1) (0 + 6) := ⟨e1, e2⟩
        have h3 := X.same.trans h2
        rw [List.append_nil] at h3
        exact h3
      have hrep : sm_rep N (am_nw G k 6) U.heap := by
        refine hJ.1.push h3 h4 (by omega) (fun q9 hq9 => g2 q9 hq9 (fun z hz => nomatch hz)) ?_
        refine Or.inr (Or.inr (Or.inr (Or.inr ⟨hkx, ce, ?_, hO.vm, ?_⟩)))
        · rw [← hHs, ← hTs]; exact hce
        · rw [hkc, ← f3.alike.findClass]; exact hclsx
      refine ⟨U, ?_, .inr (am_K G).length, am_nw G k 6, locs, cells + 1, slots + 6, hrun, ?_, hWs, hall, hJ.push hrep, hq⟩
      · refine st1 _ ?_
        show Steps p.tables e below (T1.setTop { method := m, pc := pc + 3, locals := lsR, stack := .ref T.heap.size :: [], locked := none }) _
        jvm_step X₁.here [X₁.here.top, f1, d3', Value.category]
        exact X₁.ldcStringW f1 (own := q.1.cls) (text := text) (index := is) (a := sa) hown' hstr'.1 hstr'.2
          (g := { method := m, pc := pc + 4, locals := lsR, stack := .ref T.heap.size :: .ref T.heap.size :: [], locked := none }) rfl d4' _ hsteps
      · show Ended U below (.threw (sm_base N + (am_K G).length))
        rw [← hHs, ← hTs]
        exact hend
    · cases h
  · cases h
end
