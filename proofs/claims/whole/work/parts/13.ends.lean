/-! How a frame ends; and the rest of the steps. -/
def sm_to (N : sm_N) (o : am_O) : Outcome := match o with
  | .inl v => .returned (v.map (sm_tv N))
  | .inr q => .threw (sm_base N + q)
def sm_Z (N : sm_N) (Gs : am_G) (below : List Frame) (s : State) (post : am_O → am_G → Prop) : State → Prop := fun t =>
  ∃ (o : am_O) (G' : am_G) (L : List Loc) (k n : Nat), t.status = .running ∧ Ended t below (sm_to N o) ∧ s.WarmedH t.vm ∧ s.sameButNew ({ t with vm := s.vm } : State) L k n ∧ sm_J N Gs G' t.heap L k n ∧ post o G'
section
variable {N : sm_N} {Gs : am_G} {nL : Nat} {p : Program} {l : Launch} {e : Env} {R : Room} {s : State} {m : MethodId} {args : Array Value} {below : List Frame} {meth : Method} {c : Code} {Q : State → Prop}
variable {cc : ByteArray} {pc nx : Nat} {ls : am_L} {st : List Value} {G : am_G} {ps : List Prop} {S : am_S} {post : am_O → am_G → Prop}
theorem sm_mono {Q' : State → Prop} {H : Heap} {locs : List Loc} {cells slots : Nat} {g : JFrame} (h : ∀ t, Q t → Q' t) (k : W p l e R s m args below meth c H locs cells slots Q g) : W p l e R s m args below meth c H locs cells slots Q' g := by
  intro T hT X
  obtain ⟨t, a, b⟩ := k T hT X
  exact ⟨t, a, h t b⟩
theorem sm_fin {H : Heap} {locs : List Loc} {cells slots : Nat} {v : Option Value} (hJ : sm_J N Gs G H locs cells slots) (hq : post (.inl v) G) : ∀ t, MQ below (fun _ _ o t => o = .returned (v.map (sm_tv N)) ∧ t.heap = H) args s cells slots (fun q => sm_base N ≤ q) t → sm_Z N Gs below s post t := by
  rintro t ⟨o, h1, h2, ⟨h3, h4⟩, L, ⟨-, h5, h6⟩, h7⟩
  subst h3
  refine ⟨.inl v, G, L, cells, slots, h1, h2, h5, h6, ?_, hq⟩
  rw [h4]
  exact ⟨hJ.1, h7, hJ.2.2⟩
theorem sv_ire {ty : FieldType} {t : Nat} (hx : p.tables.exec = Jvm.exec) (hb : c.code = cc) (hr : meth.sig.returnType = some ty) (hlocks : meth.locks = false) (hty : (t = 1 ∧ ty = .int) ∨ (t = 5 ∧ ty = .boolean) ∨ (t = 6 ∧ ty = .char) ∨ (t = 7 ∧ ty = .byte))
    (hd : decode cc pc = .ok (.ireturn, 1)) {o : am_O} {G' : am_G} (h : am_ire t st G = some (ps, am_re o G')) (hp : am_all ps True) (hq : post o G') : sm_V N Gs nL p l e R s m args below meth c (sm_Z N Gs below s post) pc ls st G := by
  unfold am_ire at h
  split at h
  · next v =>
    intro H locs cells slots lsR hJ hl
    have fin : o = .inl (some (.int v)) ∧ G' = G ∧ narrow ty (.int v) = .int v := by
      rcases hty with ⟨e1, e2⟩ | ⟨e1, e2⟩ | ⟨e1, e2⟩ | ⟨e1, e2⟩ <;> subst e1 <;> subst e2
      · simp only at h
        cases h
        exact ⟨rfl, rfl, rfl⟩
      · simp only at h
        cases h
        refine ⟨rfl, rfl, ?_⟩
        rcases hp.1 with e | e <;> rw [e] <;> rfl
      · simp only at h
        cases h
        exact ⟨rfl, rfl, hp.1⟩
      · simp only at h
        cases h
        exact ⟨rfl, rfl, hp.1⟩
    obtain ⟨rfl, rfl, hn⟩ := fin
    refine sm_mono (sm_fin (args := args) hJ hq) ?_
    exact W.zret hx hb hr hn (fun t h1 h2 => ⟨rfl, h1⟩) hJ.2.1 hd hlocks
  · cases h
theorem sv_lre (hx : p.tables.exec = Jvm.exec) (hb : c.code = cc) (hr : meth.sig.returnType = some .long) (hlocks : meth.locks = false)
    (hd : decode cc pc = .ok (.lreturn, 1)) {o : am_O} {G' : am_G} (h : am_lre st G = some (ps, am_re o G')) (hq : post o G') : sm_V N Gs nL p l e R s m args below meth c (sm_Z N Gs below s post) pc ls st G := by
  unfold am_lre at h
  split at h
  · next v =>
    cases h
    intro H locs cells slots lsR hJ hl
    refine sm_mono (sm_fin (args := args) hJ hq) ?_
    exact W.lret hx hb hr (fun t h1 h2 => ⟨rfl, h1⟩) hJ.2.1 hd hlocks
  · cases h
theorem sv_vre (hx : p.tables.exec = Jvm.exec) (hb : c.code = cc) (hr : meth.sig.returnType = none) (hlocks : meth.locks = false)
    (hd : decode cc pc = .ok (.return_, 1)) {o : am_O} {G' : am_G} (h : am_vre st G = some (ps, am_re o G')) (hq : post o G') : sm_V N Gs nL p l e R s m args below meth c (sm_Z N Gs below s post) pc ls st G := by
  unfold am_vre at h
  split at h
  · cases h
    intro H locs cells slots lsR hJ hl
    refine sm_mono (sm_fin (args := args) hJ hq) ?_
    exact W.vret hx hb hr (fun t h1 h2 => ⟨rfl, h1⟩) hJ.2.1 hd hlocks
  · cases h
theorem sm_cat2 (hv : sm_rn (sm_sv N)) : ∀ st : List Value, ((st.map (sm_tv N)).map fun v => v.category).sum ≤ 2 * st.length := by
  intro st
  induction st with
  | nil => simp
  | cons v st ih =>
    simp only [List.map_cons, List.sum_cons, List.length_cons]
    rw [sm_tv_cat hv]
    have : v.category ≤ 2 := by rcases lv_cat v with h | h <;> omega
    omega
theorem sm_n13 {a : Nat} (h : a < 90000) : ¬ a = 100013 := by omega
theorem sv_oin {index : Nat} {own : String} (hv : sm_rn (sm_sv N)) (hx : p.tables.exec = Jvm.exec) (hb : c.code = cc) (hml : c.maxLocals = nL) (hown : s.vm.findClass own = some m.cls) (hRf : 20 ≤ R.frames) (hRl : 2000 ≤ R.locals)
    (hlink : (Cond.methodLink own index Lib.objectInit).before args s = true) (hinst : (Cond.instanceMethod Lib.objectInit).before args s = true) (hcode : (Cond.code Lib.objectInit ⟨#[0xb1]⟩ 1 none).before args s = true) {y n ret cls : Nat}
    (hd : decode cc pc = .ok (.invokespecial index, 3)) (h : am_inv y n 4 ret cls pc (pc + 3) ls st G = some (ps, S)) (hp : am_all ps True) (k : sm_K N Gs nL p l e R s m args below meth c Q S) : sm_V N Gs nL p l e R s m args below meth c Q pc ls st G := by
  unfold am_inv at h
  simp only at h
  split at h
  · next a r =>
    split at h
    · next hble =>
      cases h
      intro H locs cells slots lsR hJ hl
      have hr := Nat.le_of_ble_eq_true hble
      have hc := sm_cat2 hv r
      rw [List.map_cons, sm_tv_ref N (sm_n13 hp.1)]
      refine W.objInit hx hb hown hlink hinst hcode rfl (by rw [hml]; exact hl.2.1) rfl hd (by omega) ?_ (k H locs cells slots lsR hJ hl)
      show 2 * 0 + _ + 12 ≤ _
      omega
    · cases h
  · cases h
theorem sv_gets {index : Nat} {own C fn fd : String} {v : Value} (E : sm_env N) (hW : (sm_s0 N).WarmedH s.vm) (hx : p.tables.exec = Jvm.exec) (hb : c.code = cc) (hown : s.vm.findClass own = some m.cls)
    (hZ : va_Z C fn fd (sm_tv N v) (fun q => sm_base N ≤ q) (sm_s0 N) (sm_s0 N).heap) (hlink : (Cond.fieldLink own index C fn fd).before args s = true ∨ ∃ host, (Cond.fieldLinkNest own index C fn fd host).before args s = true)
    (hd : decode cc pc = .ok (.getstatic index, 3)) (h : am_pu v (pc + 3) ls st G = some (ps, S)) (k : sm_K N Gs nL p l e R s m args below meth c Q S) : sm_V N Gs nL p l e R s m args below meth c Q pc ls st G := by
  unfold am_pu at h
  cases h
  intro H locs cells slots lsR hJ hl
  have k1 := k H locs cells slots lsR hJ hl
  obtain ⟨cf, kf, fi, f, a, cell, h1, h2, h3, h4, h5, h6, h7, h8⟩ := hZ
  obtain ⟨kf', hi', he⟩ := State.fieldFound?_setVm hW.alike h1
  have hi' : s.fieldFound? C fn fd = some (cf, kf', fi, f) := hi'
  rcases hlink with hlink | ⟨host, hlink⟩
  · exact W.gets hx hb hown hlink hi' h2 (by rw [he]; exact h3) (by rw [he]; exact h4) (sm_oldcell E hJ.1 h5) (fun e => by rw [e] at h6; cases h6) h7 rfl hd k1
  · exact va_WgetsN hx hb hown hlink hi' h2 (by rw [he]; exact h3) (by rw [he]; exact h4) (sm_oldcell E hJ.1 h5) (fun e => by rw [e] at h6; cases h6) h7 rfl hd k1
theorem sv_ldcS {index r : Nat} {own tx : String} (hx : p.tables.exec = Jvm.exec) (hb : c.code = cc) (hown : s.vm.findClass own = some m.cls) (hr : ¬ r = 100013)
    (hZ : vk_R own index tx (sm_ad N r) s) (hd : decode cc pc = .ok (.ldc index, 2)) (h : am_pu (.ref r) (pc + 2) ls st G = some (ps, S)) (k : sm_K N Gs nL p l e R s m args below meth c Q S) : sm_V N Gs nL p l e R s m args below meth c Q pc ls st G := by
  unfold am_pu at h
  cases h
  intro H locs cells slots lsR hJ hl
  have k1 := k H locs cells slots lsR hJ hl
  rw [List.map_cons, sm_tv_ref N hr] at k1
  exact va_ldcS hx hb hown hZ hd k1
theorem sm_wR_I {G : am_G} {a b j : Nat} {f : Nat → Int32} : am_gI (am_wR G a f) b j = if b = a then f j else am_gI G b j := rfl
theorem sv_cpy {index y n0 ret cls : Nat} {own : String} (E : sm_env N) (hW : (sm_s0 N).WarmedH s.vm) (hx : p.tables.exec = Jvm.exec) (hb : c.code = cc) (hml : c.maxLocals = nL) (hown : s.vm.findClass own = some m.cls) (hRf : 20 ≤ R.frames) (hRl : 2000 ≤ R.locals)
    (hlink : (Cond.methodLink own index arraycopyName).before args s = true) (hnat : (Cond.native arraycopyName).before args s = true) (hstat : (Cond.static arraycopyName).before args s = true) (hini : (Cond.initialized "java/lang/System").before args s = true)
    (hd : decode cc pc = .ok (.invokestatic index, 3)) (h : am_inv y n0 3 ret cls pc (pc + 3) ls st G = some (ps, S)) (hp : am_all ps True) (kk : sm_K N Gs nL p l e R s m args below meth c Q S) : sm_V N Gs nL p l e R s m args below meth c Q pc ls st G := by
  unfold am_inv at h
  simp only at h
  split at h
  · next n dp dd sp ss r =>
    split at h
    · next hble =>
      cases h
      intro H locs cells slots lsR hJ hl T hT X
      have hrr := Nat.le_of_ble_eq_true hble
      have hcat := sm_cat2 E.2.2.2.1 r
      obtain ⟨l0, l1, hs, hdd, h1, h2, h3, h4, h5⟩ := hp.1
      have hc0 := sm_ints hJ.1 hs (Or.inl rfl)
      have hc1 := sm_ints hJ.1 hdd (Or.inl rfl)
      have nn : ∀ z : Int32, ¬ z < 0 → z.toInt = (z.toNatClampNeg : Int) := by
        intro z hz
        have hz0 : (0 : Int) ≤ z.toInt := by
          have := Int32.not_lt.mp hz
          simpa using Int32.le_iff_toInt_le.mp this
        show z.toInt = ((z.toInt.toNat : Nat) : Int)
        omega
      obtain ⟨-, k0, hk0, cm0, hkk0⟩ := sm_arr E hW (k := 100) rfl l0 (fun j => .int (am_gI G ss j))
      rw [List.map_cons, List.map_cons, List.map_cons, List.map_cons, List.map_cons, sm_own hJ.1 hs, sm_own hJ.1 hdd]
      obtain ⟨vm', X', step⟩ := X.arraycopy hx hown hlink hnat hstat hini (src := sm_base N + ss) (dst := sm_base N + dd) (cs := arrV (sm_cs N 100) l0 (fun j => .int (am_gI G ss j))) (cd := arrV (sm_cs N 100) l1 (fun j => .int (am_gI G dd j))) (srcPos := sp) (destPos := dp) (n := n) (by rw [hT]; exact hc0) (by rw [hT]; exact hc1)
        (fun _ h => by cases h) (fun _ h => by cases h) (fun h => by cases h) (fun h => by cases h) hk0 hk0 hkk0 hkk0 rfl h1 h2 h3
        (by rw [nn sp h1, nn n h3, arrV_size]; omega)
        (by rw [nn dp h2, nn n h3, arrV_size]; omega)
        (fun vm₁ _ i hi => by
          have e : (arrV (sm_cs N 100) l0 (fun j => Value.int (am_gI G ss j))).slots.getD (sp.toNatClampNeg + i) .null = .int (am_gI G ss (sp.toNatClampNeg + i)) := by
            rw [Array.getD_eq_getD_getElem?, arrV_read _ _ (by omega)]
            rfl
          rw [e]
          exact ⟨rfl, trivial⟩)
        (g := F0 m pc lsR (.int n :: .int dp :: .ref (sm_base N + dd) :: .int sp :: .ref (sm_base N + ss) :: r.map (sm_tv N))) rfl (by rw [hml]; exact hl.2.1) (rest := r.map (sm_tv N)) rfl (by rw [hb]; exact hd) (by omega) (by
          have hnf : nativeFrameWords "java/lang/System" "arraycopy" 5 ≤ 100 := by decide +kernel
          show 2 * 0 + _ + _ ≤ _
          omega)
      have e1 : copied (arrV (sm_cs N 100) l0 (fun j => .int (am_gI G ss j))) (arrV (sm_cs N 100) l1 (fun j => .int (am_gI G dd j))) sp dp n = arrV (sm_cs N 100) l1 (fun j => .int (va_cpy (am_gI G ss) (am_gI G dd) sp.toNatClampNeg dp.toNatClampNeg n.toNatClampNeg j)) := va_copied (fun z => .int z) _ _ _ _ h4
      rw [e1] at X' step
      have hlt : sm_base N + dd < H.size := (Array.getElem?_eq_some_iff.mp hc1).1
      have hheap : ((T.setVm vm').setCell (sm_base N + dd) (arrV (sm_cs N 100) l1 (fun j => .int (va_cpy (am_gI G ss) (am_gI G dd) sp.toNatClampNeg dp.toNatClampNeg n.toNatClampNeg j)))).heap = H.setIfInBounds (sm_base N + dd) (arrV (sm_cs N 100) l1 (fun j => .int (va_cpy (am_gI G ss) (am_gI G dd) sp.toNatClampNeg dp.toNatClampNeg n.toNatClampNeg j))) := by rw [← hT]; rfl
      generalize hG' : am_wR G dd (va_cpy (am_gI G ss) (am_gI G dd) sp.toNatClampNeg dp.toNatClampNeg n.toNatClampNeg) = G' at kk
      have hrep : sm_rep N G' (H.setIfInBounds (sm_base N + dd) (arrV (sm_cs N 100) l1 (fun j => .int (va_cpy (am_gI G ss) (am_gI G dd) sp.toNatClampNeg dp.toNatClampNeg n.toNatClampNeg j)))) := by
        subst hG'
        refine hJ.1.set hdd rfl rfl rfl (fun b j hb => by rw [sm_wR_I, if_neg hb]) (fun b j hb => rfl) (fun b j hb => rfl) (by simp) (fun q hq => by simp [Array.getElem?_setIfInBounds, Ne.symm hq]) ?_
        refine Or.inr (Or.inl ⟨Or.inl rfl, ?_⟩)
        have e9 : (fun j => Value.int (am_gI (am_wR G dd (va_cpy (am_gI G ss) (am_gI G dd) sp.toNatClampNeg dp.toNatClampNeg n.toNatClampNeg)) dd j)) = (fun j => .int (va_cpy (am_gI G ss) (am_gI G dd) sp.toNatClampNeg dp.toNatClampNeg n.toNatClampNeg j)) := by
          funext j
          rw [sm_wR_I, if_pos rfl]
        rw [e9]
        simp [Array.getElem?_setIfInBounds, hlt]
      have hJ' : ∀ L : List Loc, (∀ q ∈ L, sm_base N ≤ q.base) → sm_J N Gs G' (H.setIfInBounds (sm_base N + dd) (arrV (sm_cs N 100) l1 (fun j => .int (va_cpy (am_gI G ss) (am_gI G dd) sp.toNatClampNeg dp.toNatClampNeg n.toNatClampNeg j)))) (locs ++ L) cells slots := by
        intro L hL
        refine ⟨hrep, fun q hq => (List.mem_append.mp hq).elim (hJ.2.1 q) (hL q), ?_, ?_⟩
        · subst hG'; exact hJ.2.2.1
        · subst hG'; exact hJ.2.2.2
      obtain ⟨t, a1, b1⟩ := kk _ _ cells slots lsR (hJ' _ (fun q hq => by
        obtain ⟨z, -, hz⟩ := List.mem_map.mp hq
        rw [← hz]
        exact Nat.le_add_right _ _)) hl _ hheap X'
      exact ⟨t, step t a1, b1⟩
    · cases h
  · cases h
end
