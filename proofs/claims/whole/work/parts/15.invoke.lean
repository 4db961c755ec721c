/-! Calls in my machine: the real machine does them too; what comes back, and what is thrown. -/
def sm_kc (V : Nat → am_L → List Value → am_G → Prop) (hs : List (Nat × Nat × Nat × Nat)) (post : am_O → am_G → Prop) (pc' : Nat) (rest : List Value) (t : Nat) (ls : am_L) (pc0 : Nat) : am_O → am_G → Prop := fun o G2 => match o with
  | .inl v => match am_rt t v with
    | none => False
    | some vs => V pc' ls (vs ++ rest) G2
  | .inr q => match am_cat G2 q pc0 hs with
    | none => False
    | some none => post (.inr q) G2
    | some (some h) => V h ls [.ref q] G2
/-- the table of handlers, by its words -/
def sm_hm (own : String) (args : Array Value) (s : State) : List (Nat × Nat × Nat × Nat) → List (Nat × Nat × Nat × Nat) → Prop
  | [], [] => True
  | a :: r, b :: r' => a.1 = b.1 ∧ a.2.1 = b.2.1 ∧ a.2.2.1 = b.2.2.1 ∧ a.2.2.2 ≠ 0 ∧ (b.2.2.2 = 200 ∨ b.2.2.2 = 201) ∧ (Jvm.Cond.classLink own a.2.2.2 (am_xn b.2.2.2)).before args s = true ∧ sm_hm own args s r r'
  | _, _ => False
/-- the two exceptions: none is of the other's class -/
def sm_exc (N : sm_N) : Prop := ∀ k k', (k = 200 ∨ k = 201) → (k' = 200 ∨ k' = 201) → ∃ c c' : ClassId, (sm_s0 N).vm.findClass (am_xn k) = some c ∧ (sm_s0 N).vm.findClass (am_xn k') = some c' ∧ (sm_s0 N).vm.assignable c c' = decide (k = k')
section
variable {N : sm_N} {Gs : am_G} {nL : Nat} {p : Program} {l : Launch} {e : Env} {R : Room} {s : State} {m : MethodId} {args : Array Value} {below : List Frame} {meth : Method} {c : Code}
theorem sm_cov {x : ExceptionTableEntry} {a b pc : Nat} (h1 : x.startPc = a) (h2 : x.endPc = b) : covers x pc = (Nat.ble a pc && Nat.blt pc b) := by
  subst h1; subst h2
  rw [Bool.eq_iff_iff]
  simp [covers, Nat.blt, Nat.ble_eq]
  exact fun _ => Iff.rfl
theorem sm_cat_none {G2 : am_G} {q pc : Nat} : ∀ (es : List ExceptionTableEntry) (raw hs : List (Nat × Nat × Nat × Nat)) {own : String}, es.map (fun h => (h.startPc, h.endPc, h.handlerPc, h.catchType)) = raw → sm_hm own args s raw hs → am_cat G2 q pc hs = some none → ∀ x ∈ es, covers x pc = false := by
  intro es
  induction es with
  | nil => intro raw hs own h1 h2 h3 x hx; cases hx
  | cons y es ih =>
    intro raw hs own h1 h2 h3 x hx
    subst h1
    cases hs with
    | nil => exact h2.elim
    | cons b hs =>
      obtain ⟨e1, e2, e3, e4, e5, e6, e7⟩ := h2
      simp only at e1 e2 e3
      simp only [am_cat] at h3
      split at h3
      · split at h3
        · split at h3
          · cases h3
          · split at h3 <;> cases h3
        · cases h3
      · next hcov =>
        rcases List.mem_cons.mp hx with rfl | hx
        · rw [sm_cov e1 e2]; exact hcov
        · exact ih _ hs rfl e7 h3 x hx
theorem sm_cat_some {G2 : am_G} {q pc h k n : Nat} {thrown : ClassId} (hexc : sm_exc N) (hW : (sm_s0 N).WarmedH s.vm) (hpl : e.platform.magicAccessors = ({} : Platform).magicAccessors) (hq : (am_K G2)[q]? = some (k, n)) (hk : k = 200 ∨ k = 201) (hth : (sm_s0 N).vm.findClass (am_xn k) = some thrown) :
    ∀ (es : List ExceptionTableEntry) (raw hs : List (Nat × Nat × Nat × Nat)) {own : String}, s.vm.findClass own = some m.cls → es.map (fun h => (h.startPc, h.endPc, h.handlerPc, h.catchType)) = raw → sm_hm own args s raw hs → am_cat G2 q pc hs = some (some h) →
      ∃ pre x suf, es = pre ++ x :: suf ∧ (∀ y ∈ pre, RowPassed e.platform s m.cls pc thrown y) ∧ covers x pc = true ∧ RowCatches e.platform s m.cls thrown x ∧ x.handlerPc = h := by
  intro es
  induction es with
  | nil =>
    intro raw hs own hown h1 h2 h3
    subst h1
    cases hs with
    | nil => simp [am_cat] at h3
    | cons b hs => exact h2.elim
  | cons y es ih =>
    intro raw hs own hown h1 h2 h3
    subst h1
    cases hs with
    | nil => exact h2.elim
    | cons b hs =>
      obtain ⟨e1, e2, e3, e4, e5, e6, e7⟩ := h2
      simp only at e1 e2 e3 e4 e6
      obtain ⟨c1, c2, q1, q2, q3⟩ := hexc k b.2.2.2 hk e5
      have ec1 : c1 = thrown := Option.some.inj (q1.symm.trans hth)
      subst ec1
      obtain ⟨c', hc', hcl⟩ := Cond.classLink_spec hown e6 e.platform hpl
      have hc2 : s.vm.findClass (am_xn b.2.2.2) = some c2 := by rw [hW.alike.findClass]; exact q2
      have ec2 : c' = c2 := Option.some.inj (hc'.symm.trans hc2)
      subst ec2
      have hasg : s.vm.assignable c1 c' = decide (k = b.2.2.2) := by rw [hW.alike.assignable]; exact q3
      simp only [am_cat] at h3
      split at h3
      · next hcov =>
        rw [hq] at h3
        simp only at h3
        split at h3
        · next hkk =>
          have hkk := Nat.eq_of_beq_eq_true hkk
          simp only [Option.some.injEq] at h3
          refine ⟨[], y, es, rfl, (fun z hz => nomatch hz), (by rw [sm_cov e1 e2]; exact hcov), Or.inr ⟨e4, c', hcl, ?_⟩, (by rw [e3]; exact h3)⟩
          rw [hasg, hkk]
          exact decide_eq_true rfl
        · next hkk =>
          have hne : ¬ k = b.2.2.2 := fun e => by rw [e] at hkk; simp at hkk
          split at h3
          · next x hx =>
            cases h3
            obtain ⟨pre, x, suf, g1, g2, g3, g4, g5⟩ := ih _ hs hown rfl e7 hx
            refine ⟨y :: pre, x, suf, by rw [g1]; rfl, fun z hz => ?_, g3, g4, g5⟩
            rcases List.mem_cons.mp hz with rfl | hz
            · exact Or.inr ⟨e4, c', hcl, by rw [hasg]; exact decide_eq_false hne⟩
            · exact g2 z hz
          · cases h3
      · next hcov =>
        obtain ⟨pre, x, suf, g1, g2, g3, g4, g5⟩ := ih _ hs hown rfl e7 h3
        refine ⟨y :: pre, x, suf, by rw [g1]; rfl, fun z hz => ?_, g3, g4, g5⟩
        rcases List.mem_cons.mp hz with rfl | hz
        · exact Or.inl (by rw [sm_cov e1 e2]; exact hcov)
        · exact g2 z hz
theorem sm_rtl {t : Nat} {v : Option Value} {vs rest : List Value} (h : am_rt t v = some vs) : (v.map (sm_tv N)).toList ++ rest.map (sm_tv N) = (vs ++ rest).map (sm_tv N) := by
  unfold am_rt at h
  split at h
  · split at h
    · cases h; rfl
    · cases h
  · split at h
    · cases h; rfl
    · cases h
  · split at h
    · cases h; rfl
    · cases h
/-- behind the call -/
theorem sm_after {q : mi_T} {d : Nat} {hs : List (Nat × Nat × Nat × Nat)} {post : am_O → am_G → Prop} (hexc : sm_exc N) (F : sm_fx N p l R s m meth c q d Gs) (hnL : q.2.2.1 = nL) (hhm : sm_hm q.1.cls args s q.2.2.2.2.1 hs) {pc : Nat} {lsR : Array Slot} {ls : am_L} (hl : sm_lr N nL ls lsR) {rest : List Value} {t : Nat}
    {o : am_O} {G2 : am_G} {T' : State} {locs : List Loc} {cells slots : Nat} (X : Stand p l e R s m args below meth c T' locs cells slots) (hJ : sm_J N Gs G2 T'.heap locs cells slots)
    (hq : sm_kc (sm_V N Gs nL p l e R s m args below meth c (sm_Z N Gs below s post)) hs post (pc + 3) rest t ls pc o G2) :
    ∃ tt, Steps p.tables e below (match o with
        | .inl v => T'.setTop { (F0 m pc lsR (rest.map (sm_tv N))) with pc := pc + 3, stack := (v.map (sm_tv N)).toList ++ rest.map (sm_tv N) }
        | .inr z => (T'.setTop (F0 m pc lsR (rest.map (sm_tv N)))).pushFrame (.throwing (sm_base N + z))) tt ∧ sm_Z N Gs below s post tt := by
  obtain ⟨f1, f2, f3, f4, f5, f6, f7, f8, f9, f10, f11, f12, f13, f14⟩ := F
  have hpl : e.platform.magicAccessors = ({} : Platform).magicAccessors := by rw [X.admits.platform]
  cases o with
  | inl v =>
    simp only [sm_kc] at hq
    split at hq
    · exact hq.elim
    · next vs hvs =>
      have hw := hq T'.heap locs cells slots lsR hJ hl T' rfl X
      rw [← sm_rtl hvs] at hw
      exact hw
  | inr z =>
    simp only [sm_kc] at hq
    split at hq
    · exact hq.elim
    · next hc =>
      obtain ⟨st1, hrun, hend, hW, hsm⟩ := X.leaveThrown (sm_base N + z) (g := F0 m pc lsR (rest.map (sm_tv N))) rfl rfl rfl (sm_cat_none _ _ _ f10 hhm hc) f8
      exact ⟨_, st1, .inr z, G2, locs, cells, slots, hrun, hend, hW, hsm, hJ, hq⟩
    · next h hc =>
      obtain ⟨k, n, hkn, hk⟩ : ∃ k n, (am_K G2)[z]? = some (k, n) ∧ (k = 200 ∨ k = 201) := by
        have hh : ∀ (raw hs : List (Nat × Nat × Nat × Nat)), sm_hm q.1.cls args s raw hs → am_cat G2 z pc hs = some (some h) → ∃ k n, (am_K G2)[z]? = some (k, n) ∧ (k = 200 ∨ k = 201) := by
          intro raw hs
          induction hs generalizing raw with
          | nil => intro _ h9; simp [am_cat] at h9
          | cons b hs ih =>
            intro h8 h9
            cases raw with
            | nil => exact h8.elim
            | cons a raw =>
              obtain ⟨-, -, -, -, e5, -, e7⟩ := h8
              simp only [am_cat] at h9
              split at h9
              · split at h9
                · next kk hkk =>
                  split at h9
                  · next hb =>
                    refine ⟨kk.1, kk.2, hkk, ?_⟩
                    rw [Nat.eq_of_beq_eq_true hb]
                    exact e5
                  · split at h9
                    · next x hx => cases h9; exact ih raw e7 hx
                    · cases h9
                · cases h9
              · exact ih raw e7 h9
        exact hh _ _ hhm hc
      have hcell := hJ.1.2.2.2.1 z k n hkn
      obtain ⟨ce, r1, r2, r3⟩ : ∃ ce : Cell, T'.heap[sm_base N + z]? = some ce ∧ ce.vm = .none ∧ (sm_s0 N).vm.findClass (am_xn k) = some ce.cls := by
        rcases hcell with h | h | h | h | h
        · exfalso; omega
        · exfalso; omega
        · exfalso; omega
        · exfalso; omega
        · exact h.2
      obtain ⟨pre, x, suf, g1, g2, g3, g4, g5⟩ := sm_cat_some (e := e) hexc f3 hpl hkn hk r3 _ _ _ f4 f10 hhm hc
      have hcls : s.vm.findClass (am_xn k) = some ce.cls := by rw [f3.alike.findClass]; exact r3
      obtain ⟨vm', X', st⟩ := X.thenCaughtThrough (sm_base N + z) (g := F0 m pc lsR (rest.map (sm_tv N))) rfl (Steps.refl _) r1 (by rw [r2]; rfl) (by obtain ⟨k9, h9, -⟩ := Vm.findClass_spec hcls; exact ⟨k9, h9⟩) pre x suf g1 g2 g3 g4
      have hz : z < 90000 := hJ.1.own hkn
      have hw := hq T'.heap locs cells slots lsR hJ hl (T'.setVm vm') rfl X'
      obtain ⟨tt, a1, b1⟩ := hw
      refine ⟨tt, st.trans ?_, b1⟩
      rw [List.map_cons, sm_tv_own N hz] at a1
      rw [g5]
      exact a1
end
