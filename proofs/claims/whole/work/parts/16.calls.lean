/-! The three ways of calling. -/
section
variable {N : sm_N} {Gs : am_G} {nL : Nat} {p : Program} {l : Launch} {e : Env} {R : Room} {s : State} {m : MethodId} {args : Array Value} {below : List Frame} {meth : Method} {c : Code}
variable {pc : Nat} {ls : am_L} {st : List Value} {G : am_G} {ps : List Prop} {post : am_O → am_G → Prop} {q q' : mi_T} {d : Nat} {hs : List (Nat × Nat × Nat × Nat)}
theorem am_tk_spec : ∀ (n : Nat) (acc st as rest : List Value), am_tk n acc st = some (as, rest) → ∃ xs, st = xs ++ rest ∧ as = xs.reverse ++ acc ∧ xs.length = n := by
  intro n
  induction n with
  | zero =>
    intro acc st as rest h
    simp only [am_tk, Option.some.injEq, Prod.mk.injEq] at h
    obtain ⟨rfl, rfl⟩ := h
    exact ⟨[], rfl, rfl, rfl⟩
  | succ n ih =>
    intro acc st as rest h
    cases st with
    | nil => simp [am_tk] at h
    | cons v st =>
      simp only [am_tk] at h
      obtain ⟨xs, h1, h2, h3⟩ := ih _ _ _ _ h
      exact ⟨v :: xs, by rw [h1]; rfl, by rw [h2]; simp, by simp [h3]⟩
/-- what stands on the stack at a call -/
theorem sm_inv {y n kind ret cls : Nat} {y' pc' t pc0 : Nat} {as rest : List Value} {ls' : am_L} {G' : am_G} (hk : kind = 0 ∨ kind = 1 ∨ kind = 2 ∨ kind = 5) (h : am_inv y n kind ret cls pc (pc + 3) ls st G = some (ps, am_ca y' as pc' rest t ls' G' pc0)) :
    y = y' ∧ pc + 3 = pc' ∧ ret = t ∧ ls = ls' ∧ G = G' ∧ pc = pc0 ∧ st = as.reverse ++ rest ∧ as.length = n ∧ rest.length ≤ 12 ∧ (kind = 1 → ∃ a as', as = .ref a :: as' ∧ ps = [am_is G a cls]) ∧ (kind = 5 → ∃ a as', as = .ref a :: as' ∧ ps = [am_os a]) ∧ (kind = 2 → ∃ a as', as = .ref a :: as' ∧ ps = [a < 90000]) := by
  unfold am_inv at h
  rcases hk with e | e | e | e <;> subst e <;> simp only at h
  all_goals
    split at h
    · next as0 rest0 htk =>
      obtain ⟨xs, h1, h2, h3⟩ := am_tk_spec _ _ _ _ _ htk
      rw [List.append_nil] at h2
      have h4 : st = as0.reverse ++ rest0 := by rw [h1, h2, List.reverse_reverse]
      have h5 : as0.length = n := by rw [h2, List.length_reverse, h3]
      split at h
      · next hble =>
        have h6 := Nat.le_of_ble_eq_true hble
        first
          | (cases h; exact ⟨rfl, rfl, rfl, rfl, rfl, rfl, h4, h5, h6, fun q => absurd q (by decide), fun q => absurd q (by decide), fun q => absurd q (by decide)⟩)
          | (split at h
             · next a as1 =>
               cases h
               first
                 | exact ⟨rfl, rfl, rfl, rfl, rfl, rfl, h4, h5, h6, fun _ => ⟨a, as1, rfl, rfl⟩, fun q => absurd q (by decide), fun q => absurd q (by decide)⟩
                 | exact ⟨rfl, rfl, rfl, rfl, rfl, rfl, h4, h5, h6, fun q => absurd q (by decide), fun _ => ⟨a, as1, rfl, rfl⟩, fun q => absurd q (by decide)⟩
                 | exact ⟨rfl, rfl, rfl, rfl, rfl, rfl, h4, h5, h6, fun q => absurd q (by decide), fun q => absurd q (by decide), fun _ => ⟨a, as1, rfl, rfl⟩⟩
             · cases h)
      · cases h
    · cases h
theorem sm_stk {as rest : List Value} (h : st = as.reverse ++ rest) : st.map (sm_tv N) = (as.map (sm_tv N)).reverse ++ rest.map (sm_tv N) := by rw [h, List.map_append, List.map_reverse]
/-- once the real machine is on its way into the callee -/
theorem sm_go (hv : sm_rn (sm_sv N)) (hexc : sm_exc N) (F : sm_fx N p l R s m meth c q (d + 1) Gs) (hnL : q.2.2.1 = nL) (hhm : sm_hm q.1.cls args s q.2.2.2.2.1 hs) (hcode : (mi_w q').before args s = true) (hplain : plainFor q'.1 = true) (hn' : q'.2.2.1 ≤ 100)
    {T T1 : State} {H : Heap} {locs : List Loc} {cells slots : Nat} {lsR : Array Slot} (hT1 : T1.heap = H) (X : Stand p l e R s m args below meth c T1 locs cells slots) {ig : Instr} (hdg : decode c.code pc = .ok (ig, 3)) {as rest : List Value} (hrl : rest.length ≤ 12) {mk : MethodId} (hnamed : s.methodNamed? q'.1 = some mk)
    (hJ : sm_J N Gs G H locs cells slots) (hl : sm_lr N nL ls lsR) {t : Nat} (hok : sm_ok N d q' as G (sm_kc (sm_V N Gs nL p l e R s m args below meth c (sm_Z N Gs below s post)) hs post (pc + 3) rest t ls pc)) {g0 : JFrame}
    (hstep : ∀ target, (∀ acts, Steps p.tables e below (doInvoke e (T1.setTop (F0 m pc lsR (rest.map (sm_tv N)))) acts mk (as.map (sm_tv N)).toArray).1 target) → Steps p.tables e below (T.setTop g0) target) :
    ∃ tt, Steps p.tables e below (T.setTop g0) tt ∧ sm_Z N Gs below s post tt := by
  subst hT1
  obtain ⟨o, G2, L, k, n, T', X', hq, hJ', hsteps⟩ := sm_call (g := F0 m pc lsR (rest.map (sm_tv N))) hv F hcode hplain hn' X rfl (by rw [F.2.2.2.2.2.1, hnL]; exact hl.2.1) hdg rfl rfl hrl hnamed hJ hok
  obtain ⟨tt, a1, b1⟩ := sm_after hexc F hnL hhm hl X' hJ' hq
  exact ⟨tt, hstep tt fun acts => (hsteps acts).trans a1, b1⟩
theorem sv_invS {index y n ret cls : Nat} {as rest : List Value} {y' pc' t pc0 : Nat} {ls' : am_L} {G' : am_G} (hv : sm_rn (sm_sv N)) (hexc : sm_exc N) (F : sm_fx N p l R s m meth c q (d + 1) Gs) (hnL : q.2.2.1 = nL) (hhm : sm_hm q.1.cls args s q.2.2.2.2.1 hs) (hcode : (mi_w q').before args s = true) (hplain : plainFor q'.1 = true) (hn' : q'.2.2.1 ≤ 100)
    (hlink : (Cond.methodLink q.1.cls index q'.1).before args s = true) (hstat : (Cond.static q'.1).before args s = true) (hini : (Cond.initialized q'.1.cls).before args s = true) (hy : q'.1.cls ≠ "java/lang/invoke/MethodHandle" ∧ q'.1.cls ≠ "java/lang/invoke/VarHandle") (hpar : (parseMethodDescriptor q'.1.desc).map (fun d => d.parameters.length) = some n)
    (hd : decode q.2.1 pc = .ok (.invokestatic index, 3)) (h : am_inv y n 0 ret cls pc (pc + 3) ls st G = some (ps, am_ca y' as pc' rest t ls' G' pc0))
    (hok : sm_ok N d q' as G' (sm_kc (sm_V N Gs nL p l e R s m args below meth c (sm_Z N Gs below s post)) hs post pc' rest t ls' pc0)) : sm_V N Gs nL p l e R s m args below meth c (sm_Z N Gs below s post) pc ls st G := by
  obtain ⟨rfl, rfl, rfl, rfl, rfl, rfl, hst, hlen, hrl, -⟩ := sm_inv (Or.inl rfl) h
  intro H locs cells slots lsR hJ hl T hT X
  obtain ⟨mk, methM, cM, hnamed, hmethM, -, -, -, -, -, -, hsigM⟩ := sm_code hcode
  have hstatic : methM.isStatic = true := Cond.static_spec hnamed hmethM hstat
  obtain ⟨kP, hkP, -⟩ := className_of_methodNamed hnamed
  have hinitP : kP.init = .initialized := Cond.initialized_spec (findClass_of_methodNamed hnamed) hkP hini
  rw [hsigM] at hpar
  have hdg : decode c.code pc = .ok (.invokestatic index, 3) := by rw [F.2.2.2.2.1]; exact hd
  obtain ⟨vm₁, X₁, hstep₁⟩ := X.invokestatic F.1 F.2.2.2.1 hlink hnamed hmethM hstatic hkP hinitP hy (g := F0 m pc lsR (st.map (sm_tv N))) rfl (argsL := as.map (sm_tv N)) (rest := rest.map (sm_tv N)) (by rw [List.length_map, hlen]; exact (Option.some.inj hpar).symm) (sm_stk hst) hdg
  exact sm_go (T1 := T.setVm vm₁) (mk := mk) hv hexc F hnL hhm hcode hplain hn' hT X₁ hdg hrl hnamed hJ hl hok hstep₁
theorem sv_invV {index y n ret cls kind : Nat} {as rest : List Value} {y' pc' t pc0 : Nat} {ls' : am_L} {G' : am_G} {C : String} (hv : sm_rn (sm_sv N)) (hexc : sm_exc N) (F : sm_fx N p l R s m meth c q (d + 1) Gs) (hnL : q.2.2.1 = nL) (hhm : sm_hm q.1.cls args s q.2.2.2.2.1 hs) (hcode : (mi_w q').before args s = true) (hplain : plainFor q'.1 = true) (hn' : q'.2.2.1 ≤ 100)
    (hlink : (Cond.methodLink q.1.cls index q'.1).before args s = true) (hinst : (Cond.instanceMethod q'.1).before args s = true) (hsel : (Cond.selects C q'.1 q'.1).before args s = true) (hy : q'.1.cls ≠ "java/lang/invoke/MethodHandle" ∧ q'.1.cls ≠ "java/lang/invoke/VarHandle") (hpar : (parseMethodDescriptor q'.1.desc).map (fun d => d.parameters.length + 1) = some n)
    (hkind : kind = 1 ∨ kind = 5) (hrecv : ∀ (a : Nat) (H : Heap), sm_rep N G H → (kind = 1 → am_is G a cls) → (kind = 5 → am_os a) → ∃ (b : Nat) (cell : Cell), sm_tv N (.ref a) = .ref b ∧ H[b]? = some cell ∧ cell.vm.isStatics = false ∧ s.vm.findClass C = some cell.cls)
    (hd : decode q.2.1 pc = .ok (.invokevirtual index, 3)) (h : am_inv y n kind ret cls pc (pc + 3) ls st G = some (ps, am_ca y' as pc' rest t ls' G' pc0)) (hp : am_all ps True)
    (hok : sm_ok N d q' as G' (sm_kc (sm_V N Gs nL p l e R s m args below meth c (sm_Z N Gs below s post)) hs post pc' rest t ls' pc0)) : sm_V N Gs nL p l e R s m args below meth c (sm_Z N Gs below s post) pc ls st G := by
  obtain ⟨rfl, rfl, rfl, rfl, rfl, rfl, hst, hlen, hrl, h1, h5, -⟩ := sm_inv (by omega) h
  intro H locs cells slots lsR hJ hl T hT X
  obtain ⟨a, as', rfl, hr1, hr5⟩ : ∃ a as', as = .ref a :: as' ∧ (kind = 1 → am_is G a cls) ∧ (kind = 5 → am_os a) := by
    rcases hkind with e | e
    · obtain ⟨a, as', e1, e2⟩ := h1 e
      subst e2
      exact ⟨a, as', e1, fun _ => hp.1, fun q => by omega⟩
    · obtain ⟨a, as', e1, e2⟩ := h5 e
      subst e2
      exact ⟨a, as', e1, fun q => by omega, fun _ => hp.1⟩
  obtain ⟨b, cellB, hb, hcell, hobj, hcls⟩ := hrecv a H hJ.1 hr1 hr5
  obtain ⟨mk, methM, hnamed, hmethM, hstM, habM⟩ := Cond.instanceMethod_spec hinst
  obtain ⟨mk', methM', cM, hnamed', hmethM', -, -, -, -, -, -, hsigM⟩ := sm_code hcode
  cases Option.some.inj (hnamed.symm.trans hnamed')
  cases Option.some.inj (hmethM.symm.trans hmethM')
  obtain ⟨c2, r2, m2, q1, q2, q3, q4, kP, hkP, hkPi⟩ := Cond.selects_spec hsel
  cases Option.some.inj (hcls.symm.trans q1)
  cases Option.some.inj ((State.methodFound?_of_named hnamed hy).symm.trans q2)
  cases Option.some.inj (hnamed.symm.trans q3)
  have hselP : selectMethod e.platform s.vm cellB.cls mk = .method mk := by rw [Launch.admits_selectMethod X.admits]; exact q4
  rw [hsigM] at hpar
  have hdg : decode c.code pc = .ok (.invokevirtual index, 3) := by rw [F.2.2.2.2.1]; exact hd
  have hstk : st.map (sm_tv N) = (as'.map (sm_tv N)).reverse ++ .ref b :: rest.map (sm_tv N) := by
    rw [sm_stk hst, List.map_cons, hb]
    simp
  have hl2 : as'.length + 1 = n := by rw [← hlen]; rfl
  obtain ⟨vm₁, X₁, hstep₁⟩ := X.invokevirtual F.1 F.2.2.2.1 hlink hnamed hmethM hstM hkP hkPi hy (a := b) (cell := cellB) (by rw [hT]; exact hcell)
    (fun z h => by rw [h] at hobj; cases hobj) hselP hmethM habM hkP hkPi (g := F0 m pc lsR (st.map (sm_tv N))) rfl (argsL := as'.map (sm_tv N)) (rest := rest.map (sm_tv N)) (by have h9 : methM.sig.parameters.length + 1 = n := Option.some.inj hpar; rw [List.length_map]; omega) hstk hdg
  refine sm_go (T1 := T.setVm vm₁) (mk := mk) hv hexc F hnL hhm hcode hplain hn' hT X₁ hdg hrl hnamed hJ hl hok ?_
  intro target ht
  refine hstep₁ target fun acts => ?_
  have := ht acts
  rw [List.map_cons, hb] at this
  exact this
theorem sv_invI {index y n ret cls : Nat} {as rest : List Value} {y' pc' t pc0 : Nat} {ls' : am_L} {G' : am_G} (hv : sm_rn (sm_sv N)) (hexc : sm_exc N) (F : sm_fx N p l R s m meth c q (d + 1) Gs) (hnL : q.2.2.1 = nL) (hhm : sm_hm q.1.cls args s q.2.2.2.2.1 hs) (hcode : (mi_w q').before args s = true) (hc2 : (Cond.code q'.1 q'.2.1 q'.2.2.1 none).before args s = true) (hplain : plainFor q'.1 = true) (hn' : q'.2.2.1 ≤ 100)
    (hlink : (Cond.methodLink q.1.cls index q'.1).before args s = true ∨ ∃ host, (Cond.methodLinkNest q.1.cls index q'.1 host).before args s = true) (hinst : (Cond.instanceMethod q'.1).before args s = true) (hy1 : q'.1.name = "<init>") (hy : q'.1.cls ≠ "java/lang/invoke/MethodHandle" ∧ q'.1.cls ≠ "java/lang/invoke/VarHandle") (hpar : (parseMethodDescriptor q'.1.desc).map (fun d => d.parameters.length + 1) = some n)
    (hd : decode q.2.1 pc = .ok (.invokespecial index, 3)) (h : am_inv y n 2 ret cls pc (pc + 3) ls st G = some (ps, am_ca y' as pc' rest t ls' G' pc0)) (hp : am_all ps True)
    (hok : sm_ok N d q' as G' (sm_kc (sm_V N Gs nL p l e R s m args below meth c (sm_Z N Gs below s post)) hs post pc' rest t ls' pc0)) : sm_V N Gs nL p l e R s m args below meth c (sm_Z N Gs below s post) pc ls st G := by
  obtain ⟨rfl, rfl, rfl, rfl, rfl, rfl, hst, hlen, hrl, -, -, h2⟩ := sm_inv (by omega) h
  intro H locs cells slots lsR hJ hl T hT X
  obtain ⟨a, as', rfl, eps⟩ := h2 rfl
  subst eps
  have hb : sm_tv N (.ref a) = .ref (sm_ad N a) := sm_tv_ref N (sm_n13 hp.1)
  have hpl : e.platform.magicAccessors = ({} : Platform).magicAccessors := by rw [X.admits.platform]
  have hdg : decode c.code pc = .ok (.invokespecial index, 3) := by rw [F.2.2.2.2.1]; exact hd
  have hstk : st.map (sm_tv N) = (as'.map (sm_tv N)).reverse ++ .ref (sm_ad N a) :: rest.map (sm_tv N) := by
    rw [sm_stk hst, List.map_cons, hb]
    simp
  have hl2 : as'.length + 1 = n := by rw [← hlen]; rfl
  have hlen2 : ∀ sig, parseMethodDescriptor q'.1.desc = some sig → (as'.map (sm_tv N)).length = sig.parameters.length := by
    intro sig hs
    rw [hs] at hpar
    have h9 : sig.parameters.length + 1 = n := Option.some.inj hpar
    rw [List.length_map]
    omega
  have fin : ∀ (mk : MethodId) (vm₁ : Vm), s.methodNamed? q'.1 = some mk → s.WarmedH vm₁ → (∀ target, (∀ acts, Steps p.tables e below (doInvoke e ((T.setVm vm₁).setTop { (F0 m pc lsR (st.map (sm_tv N))) with stack := rest.map (sm_tv N) }) acts mk (.ref (sm_ad N a) :: as'.map (sm_tv N)).toArray).1 target) → Steps p.tables e below (T.setTop (F0 m pc lsR (st.map (sm_tv N)))) target) →
      ∃ tt, Steps p.tables e below (T.setTop (F0 m pc lsR (st.map (sm_tv N)))) tt ∧ sm_Z N Gs below s post tt := by
    intro mk vm₁ hnamed hW₁ hstep₁
    refine sm_go (T1 := T.setVm vm₁) (mk := mk) hv hexc F hnL hhm hcode hplain hn' hT (X.noted hW₁) hdg hrl hnamed hJ hl hok ?_
    intro target ht
    refine hstep₁ target fun acts => ?_
    have := ht acts
    rw [List.map_cons, hb] at this
    exact this
  rcases hlink with hlink | ⟨host, hlink⟩
  · obtain ⟨mk, methM, cM, kP, vm₁, hnamed, -, -, -, -, -, -, -, hW₁, hstep₁⟩ := Steps.initColdArgs (e := e) (below := below) X.here F.1 X.warmed hpl F.2.2.2.1 hy1 hy hlink hinst hc2 (f := F0 m pc lsR (st.map (sm_tv N))) rfl hlen2 hstk hdg
    exact fin mk vm₁ hnamed hW₁ hstep₁
  · obtain ⟨mk, methM, cM, kP, vm₁, hnamed, -, -, -, -, -, -, -, hW₁, hstep₁⟩ := Steps.initColdArgsNest (e := e) (below := below) X.here F.1 X.warmed hpl F.2.2.2.1 hy1 hy hlink hinst hc2 (f := F0 m pc lsR (st.map (sm_tv N))) rfl hlen2 hstk hdg
    exact fin mk vm₁ hnamed hW₁ hstep₁
end
