/-! New cells, copied rows, statics and texts. -/
section
variable {N : sm_N} {Gs : am_G} {nL : Nat} {p : Program} {l : Launch} {e : Env} {R : Room} {s : State} {m : MethodId} {args : Array Value} {below : List Frame} {meth : Method} {c : Code} {Q : State → Prop}
variable {cc : ByteArray} {pc nx : Nat} {ls : am_L} {st : List Value} {G : am_G} {ps : List Prop} {S : am_S}
theorem sm_tv_new {G : am_G} {H : Heap} (h : sm_rep N G H) (hr : (am_K G).length + 1 ≤ 90000) : sm_tv N (.ref (am_K G).length) = .ref H.size := by
  rw [sm_tv_own N (by omega), h.1]
theorem sm_J.push {k n : Nat} {H H' : Heap} {locs : List Loc} {cells slots : Nat} (hJ : sm_J N Gs G H locs cells slots) (hr : sm_rep N (am_nw G k n) H') : sm_J N Gs (am_nw G k n) H' locs (cells + 1) (slots + n) := by
  refine ⟨hr, hJ.2.1, ?_, ?_⟩
  · show cells + 1 + _ = (am_K G ++ [(k, n)]).length
    rw [List.length_append, ← hJ.2.2.1]
    simp
    omega
  · show slots + n + _ = am_us G + n
    rw [← hJ.2.2.2]
    omega
theorem sm_nw_I {k n i : Nat} : am_gI (am_nw G k n) (am_K G).length i = 0 := by simp [am_gI, am_nw]
theorem sm_nw_P {k n i : Nat} : am_gP (am_nw G k n) (am_K G).length i = am_null := by simp [am_gP, am_nw]
theorem sm_nw_L {k n i : Nat} : am_gL (am_nw G k n) (am_K G).length i = 0 := by simp [am_gL, am_nw]
theorem sm_rv_null : sm_rv N am_null = .null := by unfold sm_rv; rw [if_pos rfl]
theorem sv_newa {k : Nat} (E : sm_env N) (hW : (sm_s0 N).WarmedH s.vm) (hx : p.tables.exec = Jvm.exec) (hb : c.code = cc) (hRc : 90000 ≤ R.cells + (am_K Gs).length) (hRs : 7200000 ≤ R.slots + am_us Gs) (hk : k = 100 ∨ k = 101 ∨ k = 105)
    (harr : (Cond.arrayClass (newarray.typeOf (sm_atp k))).before args s = true) (hd : decode cc pc = .ok (.newarray (sm_atp k), 2)) (h : am_newa k (pc + 2) ls st G = some (ps, S)) (hp : am_all ps True) (kk : sm_K N Gs nL p l e R s m args below meth c Q S) : sm_V N Gs nL p l e R s m args below meth c Q pc ls st G := by
  unfold am_newa at h
  split at h
  · next n r =>
    cases h
    intro H locs cells slots lsR hJ hl
    obtain ⟨h1, h2, ⟨h3, h4⟩, -⟩ := hp
    have hcells := hJ.2.2.1
    have hslots := hJ.2.2.2
    have hbytes : n.toNatClampNeg * componentBytes (newarray.typeOf (sm_atp k)) ≤ 536870912 := by
      rcases hk with e | e | e <;> subst e <;> simp only [sm_atp, newarray.typeOf, componentBytes] <;> omega
    refine va_newaK hx hb harr rfl hd rfl h1 rfl hbytes (by omega) (by omega) rfl fun H' cA e1 e2 e3 hA hf => ?_
    have ecA : cA = sm_cs N k := by
      rcases hk with e | e | e <;> subst e
      · have h9 : va_RA s (sm_cs N 100) .int := sm_RA E hW rfl
        exact Option.some.inj (hf.symm.trans h9)
      · have h9 : va_RA s (sm_cs N 101) .long := sm_RA E hW rfl
        exact Option.some.inj (hf.symm.trans h9)
      · have h9 : va_RA s (sm_cs N 105) .byte := sm_RA E hW rfl
        exact Option.some.inj (hf.symm.trans h9)
    subst ecA
    have hrep : sm_rep N (am_nw G k n.toNatClampNeg) H' := by
      refine hJ.1.push h3 h4 e2 e3 ?_
      rw [hJ.1.1] at e1
      rcases hk with e | e | e <;> subst e
      · refine Or.inr (Or.inl ⟨Or.inl rfl, ?_⟩)
        rw [e1]
        simp only [sm_nw_I]
        rfl
      · refine Or.inr (Or.inr (Or.inl ⟨rfl, ?_⟩))
        rw [e1]
        simp only [sm_nw_L]
        rfl
      · refine Or.inr (Or.inl ⟨Or.inr rfl, ?_⟩)
        rw [e1]
        simp only [sm_nw_I]
        rfl
    have k1 := kk H' locs (cells + 1) (slots + n.toNatClampNeg) lsR (hJ.push hrep) hl
    rw [List.map_cons, sm_tv_new hJ.1 h3] at k1
    exact k1
  · cases h
theorem sv_anew {k index : Nat} {own C : String} (E : sm_env N) (hW : (sm_s0 N).WarmedH s.vm) (hx : p.tables.exec = Jvm.exec) (hb : c.code = cc) (hown : s.vm.findClass own = some m.cls) (hRc : 90000 ≤ R.cells + (am_K Gs).length) (hRs : 7200000 ≤ R.slots + am_us Gs) (hk : k = 103 ∨ k = 104) (hC : sm_aty k = some (.object C))
    (hcl : (Cond.classLink own index C).before args s = true) (hov : (Cond.arrayOver (.object C)).before args s = true) (hd : decode cc pc = .ok (.anewarray index, 3)) (h : am_newa k (pc + 3) ls st G = some (ps, S)) (hp : am_all ps True) (kk : sm_K N Gs nL p l e R s m args below meth c Q S) : sm_V N Gs nL p l e R s m args below meth c Q pc ls st G := by
  unfold am_newa at h
  split at h
  · next n r =>
    cases h
    intro H locs cells slots lsR hJ hl
    obtain ⟨h1, h2, ⟨h3, h4⟩, -⟩ := hp
    have hcells := hJ.2.2.1
    have hslots := hJ.2.2.2
    refine W.anew hx hb hown hcl hov rfl hd rfl h1 (by omega) (by omega) (by omega) fun cA kA comp a1 a2 a3 a4 => ?_
    obtain ⟨kA', comp', b1, b2, b3, b4⟩ := sm_RA E hW hC
    have ecA : cA = sm_cs N k := Option.some.inj (a1.symm.trans b4)
    subst ecA
    have hrep : sm_rep N (am_nw G k n.toNatClampNeg) (H.push { cls := sm_cs N k, slots := Array.replicate n.toNatClampNeg .null, vm := .none }) := by
      refine hJ.1.push h3 h4 (by simp) (fun q hq => by rw [Array.getElem?_push, if_neg (Nat.ne_of_lt hq)]) ?_
      refine Or.inr (Or.inr (Or.inr (Or.inl ⟨Or.inr hk, ?_⟩)))
      rw [← hJ.1.1, arrV_new]
      simp only [sm_nw_P, sm_rv_null]
      simp
    have k1 := kk _ locs (cells + 1) (slots + n.toNatClampNeg) lsR (hJ.push hrep) hl
    rw [List.map_cons, sm_tv_new hJ.1 h3] at k1
    exact k1
  · cases h
theorem sv_new {ci index : Nat} {own : String} {q : vw_C} {ty0 : Nat → FieldType} (E : sm_env N) (hW : (sm_s0 N).WarmedH s.vm) (hx : p.tables.exec = Jvm.exec) (hb : c.code = cc) (hown : s.vm.findClass own = some m.cls) (hRc : 90000 ≤ R.cells + (am_K Gs).length) (hRs : 7200000 ≤ R.slots + am_us Gs) (hq : vwCl[ci]? = some q) (hci : ci < 13) (hcn : q.2.2 = am_cn ci)
    (hlays : ∀ i, i < q.2.2 → (u_lay q.1 q.2.1 i).before args s = true) (hty : ∀ i, i < q.2.2 → parseFieldDescriptor (q.2.1 i).2.2.1 = some (ty0 i)) (hdef : ∀ i, i < q.2.2 → defaultValue (ty0 i) = (match am_ft ci i with | 0 => Value.int 0 | _ => Value.null))
    (hcl : (Cond.classLink own index q.1).before args s = true) (hins : (Cond.instantiable q.1 q.2.2).before args s = true) (hini : (Cond.initialized q.1).before args s = true) (hd : decode cc pc = .ok (.new index, 3)) (h : am_new ci (am_cn ci) (pc + 3) ls st G = some (ps, S)) (hp : am_all ps True) (kk : sm_K N Gs nL p l e R s m args below meth c Q S) : sm_V N Gs nL p l e R s m args below meth c Q pc ls st G := by
  unfold am_new at h
  split at h
  · next hble => exact absurd (Nat.le_of_ble_eq_true hble) (by omega)
  · cases h
    intro H locs cells slots lsR hJ hl
    obtain ⟨⟨h3, h4⟩, -⟩ := hp
    have hcells := hJ.2.2.1
    have hslots := hJ.2.2.2
    have hKn := u_Kn_moved hW.alike (E.2.1 ci q hq)
    refine W.newcK hx hb hown hcl hins hini rfl hd (by omega) (by rw [hcn]; omega) hKn.2.1 rfl fun H' kC hkC e1 e2 e3 => ?_
    have hrep : sm_rep N (am_nw G ci (am_cn ci)) H' := by
      refine hJ.1.push h3 h4 e2 e3 (Or.inl ⟨hci, rfl, ?_⟩)
      rw [hJ.1.1] at e1
      have hb1 := u_born (ws := u_ws q.1 q.2.1 q.2.2) (args := args) ty0 (fun w hw => by
        obtain ⟨i, hi, rfl⟩ := List.mem_map.mp hw
        exact hlays i (List.mem_range.mp hi)) (fun w h => h) hKn hkC e1 hty
      rw [← hcn]
      refine hb1.to fun i hi => ?_
      rw [hdef i hi]
      unfold sm_fv
      rw [sm_nw_I, sm_nw_P, sm_rv_null]
      generalize am_ft ci i = t
      cases t <;> rfl
    have k1 := kk H' locs (cells + 1) (slots + am_cn ci) lsR (hJ.push hrep) hl
    rw [List.map_cons, sm_tv_new hJ.1 h3, ← hcn] at k1
    exact k1
theorem sm_len_n2 {n k : Nat} : (am_K (am_n2 G n k)).length = (am_K G).length + 1 + n := by
  show (am_K G ++ (102, n) :: List.replicate n (100, k)).length = _
  simp
  omega
theorem sv_mna {index : Nat} {own : String} (E : sm_env N) (hW : (sm_s0 N).WarmedH s.vm) (hx : p.tables.exec = Jvm.exec) (hb : c.code = cc) (hown : s.vm.findClass own = some m.cls) (hRc : 90000 ≤ R.cells + (am_K Gs).length) (hRs : 7200000 ≤ R.slots + am_us Gs)
    (hcl : (Cond.classLink own index "[[I").before args s = true) (hov : (Cond.arrayOver (.array .int)).before args s = true) (harr : (Cond.arrayClass .int).before args s = true) (hd : decode cc pc = .ok (.multianewarray index 2, 4)) (h : am_mna (pc + 4) ls st G = some (ps, S)) (hp : am_all ps True) (kk : sm_K N Gs nL p l e R s m args below meth c Q S) : sm_V N Gs nL p l e R s m args below meth c Q pc ls st G := by
  unfold am_mna at h
  split at h
  · next k n r =>
    cases h
    intro H locs cells slots lsR hJ hl T hT X
    obtain ⟨h1, h2, h5, h6, ⟨h3, h4⟩, -⟩ := hp
    have hcells := hJ.2.2.1
    have hslots := hJ.2.2.2
    obtain ⟨vm₁, cA, comp, -, fA, fC, -, -, X', step⟩ := Jvm.Stand.multianewarray2F X hx hown hcl hov harr (g := F0 m pc lsR (.int k :: .int n :: r.map (sm_tv N))) rfl (by rw [hb]; exact hd) rfl h1 h2 (by omega) (by show _ * 4 ≤ _; omega) (by omega) rfl rfl (by omega) (by omega)
    have hTh : (T.setVm vm₁).heap = H := hT
    have e1 : cA = sm_cs N 102 := by
      have h9 : va_RA s (sm_cs N 102) (.array .int) := sm_RA E hW rfl
      exact Option.some.inj (fA.symm.trans h9)
    have e2 : comp = sm_cs N 100 := by
      have h9 : va_RA s (sm_cs N 100) .int := sm_RA E hW rfl
      exact Option.some.inj (fC.symm.trans h9)
    subst e1
    subst e2
    generalize hF : Jvm.Free.Multi.fill (T.setVm vm₁) (sm_cs N 102) (sm_cs N 100) n.toNatClampNeg k.toNatClampNeg (defaultValue .int) n.toNatClampNeg = F at X' step
    obtain ⟨f1, f2, -, -⟩ := Jvm.Free.Multi.fill_facts (T.setVm vm₁) (sm_cs N 102) (sm_cs N 100) n.toNatClampNeg k.toNatClampNeg (defaultValue .int) n.toNatClampNeg
    rw [hF, hTh] at f1 f2
    have hold : ∀ x : Nat, x < H.size → F.heap[x]? = H[x]? := fun x hx => by
      have := Jvm.Free.Multi.fill_old (T.setVm vm₁) (sm_cs N 102) (sm_cs N 100) n.toNatClampNeg k.toNatClampNeg (defaultValue .int) (a := x) (by rw [hTh]; exact hx) n.toNatClampNeg
      rw [hF, hTh] at this
      exact this
    have hrow : ∀ j : Nat, j < n.toNatClampNeg → F.heap[H.size + 1 + j]? = some (arrV (sm_cs N 100) k.toNatClampNeg (fun _ => .int 0)) := fun j hj => by
      have := Jvm.Free.Multi.fill_inner (T.setVm vm₁) (sm_cs N 102) (sm_cs N 100) n.toNatClampNeg k.toNatClampNeg (defaultValue .int) n.toNatClampNeg j hj
      rw [hF, hTh] at this
      rw [this]
      exact congrArg some (arrV_new _ _ _)
    have hout : ∀ (cB : ClassId) (M h0 i : Nat), Jvm.Free.Multi.outerC cB M h0 i = arrV cB M (fun j => if j < i then .ref (h0 + 1 + j) else .null) := by
      intro cB M h0 i
      induction i with
      | zero =>
        show ({ cls := cB, slots := Array.replicate M .null, vm := .none } : Cell) = _
        rw [arrV_new]
        exact congrArg (arrV cB M) (funext fun j => by simp)
      | succ i ih =>
        show (Jvm.Free.Multi.outerC cB M h0 i).setSlot i (.ref (h0 + 1 + i)) = _
        rw [ih, arrV_store]
        refine congrArg (arrV cB M) (funext fun j => ?_)
        unfold updV
        by_cases e : j = i
        · subst e
          rw [if_pos rfl, if_pos (by omega)]
        · rw [if_neg e]
          show (if j < i then Value.ref (h0 + 1 + j) else .null) = _
          by_cases h : j < i
          · rw [if_pos h, if_pos (by omega)]
          · rw [if_neg h, if_neg (by omega)]
    rw [hout] at f2
    have hHs := hJ.1.1
    have hKn : am_K (am_n2 G n.toNatClampNeg k.toNatClampNeg) = am_K G ++ (102, n.toNatClampNeg) :: List.replicate n.toNatClampNeg (100, k.toNatClampNeg) := rfl
    have hrep : sm_rep N (am_n2 G n.toNatClampNeg k.toNatClampNeg) F.heap := by
      obtain ⟨r1, r2, r3, r4, r5, r6⟩ := hJ.1
      refine ⟨by rw [f1, sm_len_n2, r1]; omega, ⟨by rw [sm_len_n2]; omega, by show am_us G + _ + _ ≤ _; omega⟩, r3, ?_, ?_, ?_⟩
      · intro b k' n' hb
        rw [hKn] at hb
        by_cases e : b < (am_K G).length
        · rw [List.getElem?_append_left e] at hb
          have hne : ¬ ((am_K G).length ≤ b ∧ b < (am_K G).length + 1 + n.toNatClampNeg) := by omega
          have hne2 : ¬ b = (am_K G).length := by omega
          exact (r4 b k' n' hb).kept (fun i => by simp [am_gI, am_n2, hne]) (fun i => by simp [am_gP, am_n2, hne, hne2]) (fun i => by simp [am_gL, am_n2, hne]) (hold _ (by omega))
        · rw [List.getElem?_append_right (by omega)] at hb
          by_cases e0 : b = (am_K G).length
          · subst e0
            simp at hb
            obtain ⟨rfl, rfl⟩ := hb
            refine Or.inr (Or.inr (Or.inr (Or.inl ⟨Or.inl rfl, ?_⟩)))
            rw [← hHs, f2]
            refine congrArg some (congrArg (arrV _ _) (funext fun j => ?_))
            have hg : am_gP (am_n2 G n.toNatClampNeg k.toNatClampNeg) (am_K G).length j = if j < n.toNatClampNeg then (am_K G).length + 1 + j else am_null := by simp [am_gP, am_n2]
            rw [hg]
            by_cases hj : j < n.toNatClampNeg
            · simp only [if_pos hj]
              rw [sm_rv_own (by omega)]
              have e9 : (H.size + 1 + j : Nat) = sm_base N + ((am_K G).length + 1 + j) := by omega
              exact congrArg Value.ref e9
            · simp only [if_neg hj]
              rw [sm_rv_null]
          · obtain ⟨j, rfl⟩ : ∃ j, b = (am_K G).length + 1 + j := ⟨b - (am_K G).length - 1, by omega⟩
            rw [show (am_K G).length + 1 + j - (am_K G).length = j + 1 by omega, List.getElem?_cons_succ, List.getElem?_replicate] at hb
            split at hb
            · next hj =>
              simp at hb
              obtain ⟨rfl, rfl⟩ := hb
              refine Or.inr (Or.inl ⟨Or.inl rfl, ?_⟩)
              rw [show sm_base N + ((am_K G).length + 1 + j) = H.size + 1 + j by omega, hrow j hj]
              refine congrArg some (congrArg (arrV _ _) (funext fun i => ?_))
              have hle : (am_K G).length ≤ (am_K G).length + 1 + j ∧ (am_K G).length + 1 + j < (am_K G).length + 1 + n.toNatClampNeg := by omega
              show Value.int 0 = Value.int (if (am_K G).length ≤ (am_K G).length + 1 + j ∧ (am_K G).length + 1 + j < (am_K G).length + 1 + n.toNatClampNeg then 0 else G.1 ((am_K G).length + 1 + j) i)
              rw [if_pos hle]
            · cases hb
      · intro q hq
        rw [hold q (by omega)]
        exact r5 q hq
      · intro j i hi
        rw [← r6 j i hi]
        have hne : ¬ ((am_K G).length ≤ 100000 + j ∧ 100000 + j < (am_K G).length + 1 + n.toNatClampNeg) := by omega
        show (if (am_K G).length ≤ 100000 + j ∧ 100000 + j < (am_K G).length + 1 + n.toNatClampNeg then 0 else G.1 (100000 + j) i) = _
        rw [if_neg hne]
        rfl
    have hJ' : sm_J N Gs (am_n2 G n.toNatClampNeg k.toNatClampNeg) F.heap locs (cells + 1 + n.toNatClampNeg) (slots + n.toNatClampNeg + n.toNatClampNeg * k.toNatClampNeg) := by
      refine ⟨hrep, hJ.2.1, by rw [sm_len_n2]; omega, ?_⟩
      show _ = am_us G + n.toNatClampNeg + n.toNatClampNeg * k.toNatClampNeg
      omega
    have k1 := kk F.heap locs _ _ lsR hJ' hl
    rw [List.map_cons, sm_tv_new hJ.1 (by omega)] at k1
    obtain ⟨t, a1, b1⟩ := k1 F rfl X'
    refine ⟨t, step t ?_, b1⟩
    rw [hT]
    exact a1
  · cases h
end
