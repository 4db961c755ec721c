/-! My machine's steps on the heap: the real machine does them too. -/
def sm_aty (k : Nat) : Option FieldType := match k with
  | 100 => some .int
  | 101 => some .long
  | 102 => some (.array .int)
  | 103 => some (.object "MoodBelfries$Diary")
  | 104 => some (.object "MoodBelfries$State")
  | 105 => some .byte
  | _ => none
def sm_oty (j : Nat) : Option FieldType := match j with
  | 0 => some .int
  | 1 => some .int
  | 2 => some .int
  | 8 => some .byte
  | 9 => some .byte
  | 10 => some .byte
  | _ => none
/-- what the law's entry gives -/
def sm_env (N : sm_N) : Prop :=
  (sm_s0 N).heap.size = sm_base N ∧
  (∀ (c : Nat) (q : vw_C), vwCl[c]? = some q → u_Kn (sm_s0 N) q.1 q.2.1 q.2.2 ((sm_D N).1 c) ((sm_D N).2 c)) ∧
  (∀ (k : Nat) (ty : FieldType), sm_aty k = some ty → ArrOfT (sm_s0 N) (sm_cs N k) ty ∧ va_RA (sm_s0 N) (sm_cs N k) ty) ∧
  sm_rn (sm_sv N) ∧
  (∀ (j : Nat) (ty : FieldType), sm_oty j = some ty → ∃ cell : Cell, (sm_s0 N).heap[sm_od N j]? = some cell ∧ (sm_s0 N).isArrayOf cell ty ∧ cell.vm ≠ .unknown ∧ am_ol (sm_len N) j ≤ cell.slots.size ∧ cell.slots.size.toInt32 = Int32.ofNat (am_ol (sm_len N) j) ∧ ∀ i, i < am_ol (sm_len N) j → cell.slots[i]? = some (.int (sm_oc N j i))) ∧
  (∀ j : Nat, 3 ≤ j → j ≤ 5 → (∃ cell : Cell, (sm_s0 N).heap[sm_od N j]? = some cell ∧ cell.vm.isStatics = false ∧ (sm_s0 N).vm.findClass "java/lang/String" = some cell.cls) ∧
    va_OF "java/lang/String" "value" "[B" (.ref (sm_od N (j + 5))) (sm_od N j) (fun q => sm_base N ≤ q) (sm_s0 N) (sm_s0 N).heap ∧ va_OF "java/lang/String" "coder" "B" (.int 0) (sm_od N j) (fun q => sm_base N ≤ q) (sm_s0 N) (sm_s0 N).heap)
theorem sm_obj {N : sm_N} {G : am_G} {H : Heap} {a k n : Nat} (h : sm_rep N G H) (ha : (am_K G)[a]? = some (k, n)) (hk : k < 13) : n = am_cn k ∧ t_OB (sm_base N + a) ((sm_D N).1 k) n ((sm_D N).2 k) H (fun i => sm_fv N G a i (am_ft k i)) := by
  rcases h.2.2.2.1 a k n ha with h | h | h | h | h
  · exact h.2
  all_goals (exfalso; omega)
theorem sm_ints {N : sm_N} {G : am_G} {H : Heap} {a k n : Nat} (h : sm_rep N G H) (ha : (am_K G)[a]? = some (k, n)) (hk : k = 100 ∨ k = 105) : H[sm_base N + a]? = some (arrV (sm_cs N k) n (fun j => .int (am_gI G a j))) := by
  rcases h.2.2.2.1 a k n ha with h | h | h | h | h
  · exfalso; omega
  · exact h.2
  all_goals (exfalso; omega)
theorem sm_longs {N : sm_N} {G : am_G} {H : Heap} {a n : Nat} (h : sm_rep N G H) (ha : (am_K G)[a]? = some (101, n)) : H[sm_base N + a]? = some (arrV (sm_cs N 101) n (fun j => .long (am_gL G a j))) := by
  rcases h.2.2.2.1 a 101 n ha with h | h | h | h | h
  · exfalso; omega
  · exfalso; omega
  · exact h.2
  all_goals (exfalso; omega)
theorem sm_refs {N : sm_N} {G : am_G} {H : Heap} {a k n : Nat} (h : sm_rep N G H) (ha : (am_K G)[a]? = some (k, n)) (hk : k = 102 ∨ k = 103 ∨ k = 104) : H[sm_base N + a]? = some (arrV (sm_cs N k) n (fun j => sm_rv N (am_gP G a j))) := by
  rcases h.2.2.2.1 a k n ha with h | h | h | h | h
  · exfalso; omega
  · exfalso; omega
  · exfalso; omega
  · exact h.2
  · exfalso; omega
theorem sm_oldcell {N : sm_N} (E : sm_env N) {G : am_G} {H : Heap} (h : sm_rep N G H) {q : Nat} {cell : Cell} (hq : (sm_s0 N).heap[q]? = some cell) : H[q]? = some cell := by
  have hlt : q < (sm_s0 N).heap.size := (Array.getElem?_eq_some_iff.mp hq).1
  rw [h.2.2.2.2.1 q (by rw [← E.1]; exact hlt)]
  exact hq
section
variable {N : sm_N} {Gs : am_G} {nL : Nat} {p : Program} {l : Launch} {e : Env} {R : Room} {s : State} {m : MethodId} {args : Array Value} {below : List Frame} {meth : Method} {c : Code} {Q : State → Prop}
variable {cc : ByteArray} {pc nx : Nat} {ls : am_L} {st : List Value} {G : am_G} {ps : List Prop} {S : am_S}
theorem sm_own {G : am_G} {H : Heap} (h : sm_rep N G H) {a : Nat} {q : Nat × Nat} (ha : (am_K G)[a]? = some q) : sm_tv N (.ref a) = .ref (sm_base N + a) := sm_tv_own N (h.own ha)
theorem sm_fv_int {G : am_G} {a i t : Nat} (h : t = 0) : sm_fv N G a i t = .int (am_gI G a i) := by subst h; rfl
theorem sm_rv_own {v : Nat} (h : v < 90000) : sm_rv N v = .ref (sm_base N + v) := by
  unfold sm_rv sm_ad
  rw [if_neg (by unfold am_null; omega), if_pos h]
theorem sm_fv_eq {G G' : am_G} {a i : Nat} (t : Nat) (hI : am_gI G' a i = am_gI G a i) (hP : am_gP G' a i = am_gP G a i) : sm_fv N G a i t = sm_fv N G' a i t := by
  unfold sm_fv
  rw [hI, hP]
theorem sm_ad_old (j : Nat) : sm_ad N (100000 + j) = sm_od N j := by
  unfold sm_ad
  rw [if_neg (by omega), show 100000 + j - 100000 = j by omega]
theorem sm_fv_ref {G : am_G} {a i t : Nat} (h : t = 1) (hq : am_gP G a i < 90000) : sm_fv N G a i t = sm_tv N (.ref (am_gP G a i)) := by
  subst h
  rw [sm_tv_own N hq]
  exact sm_rv_own hq
theorem sv_getf {own : String} {index ci k r3 : Nat} {q : vw_C} (E : sm_env N) (hW : (sm_s0 N).WarmedH s.vm) (hx : p.tables.exec = Jvm.exec) (hb : c.code = cc) (hown : s.vm.findClass own = some m.cls) (hq : vwCl[ci]? = some q) (hci : ci < 13) (hk : k < q.2.2) (hcn : q.2.2 = am_cn ci) (hdecl : (q.2.1 k).1 = q.1)
    (hlay : (Cond.lays q.1 (q.2.1 k).1 (q.2.1 k).2.1 (q.2.1 k).2.2.1).before args s = true ∨ (Cond.laysFinal q.1 (q.2.1 k).1 (q.2.1 k).2.1 (q.2.1 k).2.2.1).before args s = true)
    (hlink : (Cond.fieldLink own index q.1 (q.2.1 k).2.1 (q.2.1 k).2.2.1).before args s = true ∨ ∃ host, (Cond.fieldLinkNest own index q.1 (q.2.1 k).2.1 (q.2.1 k).2.2.1 host).before args s = true)
    (hr3 : r3 = am_ft ci k) (hr2 : r3 < 2) (hd : decode cc pc = .ok (.getfield index, 3)) (h : am_getf ci k r3 (pc + 3) ls st G = some (ps, S)) (hp : am_all ps True) (kk : sm_K N Gs nL p l e R s m args below meth c Q S) : sm_V N Gs nL p l e R s m args below meth c Q pc ls st G := by
  unfold am_getf at h
  split at h
  · next a r =>
    intro H locs cells slots lsR hJ hl
    have his : am_is G a ci := by
      rcases (show r3 = 0 ∨ r3 = 1 by omega) with e | e <;> subst e <;> simp only at h <;> cases h <;> exact hp.1
    obtain ⟨n, hn⟩ := his
    obtain ⟨e1, cell, c1, c2, c3, c4⟩ := sm_obj hJ.1 hn hci
    subst e1
    obtain ⟨hS, hfc, kC, hkC, hkind⟩ := u_Kn_moved hW.alike (E.2.1 ci q hq)
    obtain ⟨cf, kf, fi, f, hi, hsl⟩ := hS k hk
    have hst := (u_facts hfc hkC hlay hi).1
    have hi' := hi
    rw [hdecl] at hi'
    have hv := c4 k (by omega)
    rw [← hsl] at hv
    have hv : cell.slots[f.slot]? = some (sm_fv N G a k (am_ft ci k)) := hv
    have goal : ∀ v : Value, cell.slots[f.slot]? = some v → W p l e R s m args below meth c H locs cells slots Q (F0 m (pc + 3) lsR (v :: r.map (sm_tv N))) → W p l e R s m args below meth c H locs cells slots Q (F0 m pc lsR ((Value.ref a :: r).map (sm_tv N))) := by
      intro v hv1 k1
      rw [List.map_cons, sm_own hJ.1 hn]
      rcases hlink with hlink | ⟨host, hlink⟩
      · exact W.getf hx hb hown hlink hi' hst c1 (by rw [c3]; exact fun h => by cases h) hv1 rfl rfl hd k1
      · exact va_Wgetf hx hb hown hlink hi' hst c1 (by rw [c3]; exact fun h => by cases h) hv1 rfl rfl hd k1
    rcases (show r3 = 0 ∨ r3 = 1 by omega) with e | e
    · subst e
      simp only at h
      cases h
      refine goal _ hv ?_
      rw [sm_fv_int hr3.symm]
      exact kk H locs cells slots lsR hJ hl
    · subst e
      simp only at h
      cases h
      refine goal _ hv ?_
      rw [sm_fv_ref hr3.symm hp.2.1]
      exact kk H locs cells slots lsR hJ hl
  · cases h
theorem sm_os_j {a : Nat} (h : am_os a) : ∃ j : Nat, a = 100000 + j ∧ 3 ≤ j ∧ j ≤ 5 := by
  unfold am_os at h
  exact ⟨a - 100000, by omega, by omega, by omega⟩
theorem sv_getS {own : String} {index r1 r2 r3 : Nat} {fn fd : String} (E : sm_env N) (hW : (sm_s0 N).WarmedH s.vm) (hx : p.tables.exec = Jvm.exec) (hb : c.code = cc) (hown : s.vm.findClass own = some m.cls)
    (hlink : (Cond.fieldLink own index "java/lang/String" fn fd).before args s = true) (hr : (r3 = 2 ∧ fn = "value" ∧ fd = "[B") ∨ (r3 = 3 ∧ fn = "coder" ∧ fd = "B"))
    (hd : decode cc pc = .ok (.getfield index, 3)) (h : am_getf r1 r2 r3 (pc + 3) ls st G = some (ps, S)) (hp : am_all ps True) (kk : sm_K N Gs nL p l e R s m args below meth c Q S) : sm_V N Gs nL p l e R s m args below meth c Q pc ls st G := by
  unfold am_getf at h
  split at h
  · next a r =>
    intro H locs cells slots lsR hJ hl
    have hos : am_os a := by
      rcases hr with ⟨e, -⟩ | ⟨e, -⟩ <;> subst e <;> simp only at h <;> cases h <;> exact hp.1
    obtain ⟨j, ej, hj3, hj5⟩ := sm_os_j hos
    subst ej
    obtain ⟨-, o1, o2⟩ := E.2.2.2.2.2 j hj3 hj5
    have had : sm_ad N (100000 + j) = sm_od N j := sm_ad_old j
    have had5 : sm_ad N (100000 + j + 5) = sm_od N (j + 5) := sm_ad_old (j + 5)
    have goal : ∀ v : Value, va_OF "java/lang/String" fn fd v (sm_od N j) (fun q => sm_base N ≤ q) (sm_s0 N) (sm_s0 N).heap → W p l e R s m args below meth c H locs cells slots Q (F0 m (pc + 3) lsR (v :: r.map (sm_tv N))) → W p l e R s m args below meth c H locs cells slots Q (F0 m pc lsR ((Value.ref (100000 + j) :: r).map (sm_tv N))) := by
      intro v ho k1
      rw [List.map_cons, sm_tv_ref N (by omega), had]
      obtain ⟨cf, kf, i, f, cell, q1, q2, q3, q4, q5, -⟩ := ho
      obtain ⟨kf', q1', -⟩ := State.fieldFound?_setVm hW.alike q1
      exact W.getf hx hb hown hlink q1' q2 (sm_oldcell E hJ.1 q3) q4 q5 rfl rfl hd k1
    rcases hr with ⟨e, e1, e2⟩ | ⟨e, e1, e2⟩
    · subst e; subst e1; subst e2
      simp only at h
      cases h
      refine goal _ o1 ?_
      have k1 := kk H locs cells slots lsR hJ hl
      rw [List.map_cons, sm_tv_ref N (by omega), had5] at k1
      exact k1
    · subst e; subst e1; subst e2
      simp only at h
      cases h
      exact goal _ o2 (kk H locs cells slots lsR hJ hl)
  · cases h
theorem sm_J.loc {G : am_G} {H H' : Heap} {locs : List Loc} {cells slots a i : Nat} {G' : am_G} (hJ : sm_J N Gs G H locs cells slots) (hr : sm_rep N G' H') (hK : am_K G' = am_K G) (hu : am_us G' = am_us G) : sm_J N Gs G' H' (locs ++ [⟨sm_base N + a, i⟩]) cells slots := by
  refine ⟨hr, fun q hq => ?_, by rw [hK]; exact hJ.2.2.1, by rw [hu]; exact hJ.2.2.2⟩
  rcases List.mem_append.mp hq with h | h
  · exact hJ.2.1 q h
  · rw [List.mem_singleton.mp h]
    exact Nat.le_add_right _ _
theorem sv_putf {own : String} {index ci k r3 : Nat} {q : vw_C} {ty0 : Nat → FieldType} (E : sm_env N) (hW : (sm_s0 N).WarmedH s.vm) (hx : p.tables.exec = Jvm.exec) (hb : c.code = cc) (hown : s.vm.findClass own = some m.cls) (hq : vwCl[ci]? = some q) (hci : ci < 13) (hk : k < q.2.2) (hcn : q.2.2 = am_cn ci) (hdecl : (q.2.1 k).1 = q.1)
    (hlays : ∀ i, i < q.2.2 → (u_lay q.1 q.2.1 i).before args s = true) (hty : ∀ i, i < q.2.2 → parseFieldDescriptor (q.2.1 i).2.2.1 = some (ty0 i)) (hnm : ∀ a, a < q.2.2 → ∀ b, b < q.2.2 → a ≠ b → (q.2.1 a).2.1 ≠ (q.2.1 b).2.1)
    (hlink : (Cond.fieldLink own index q.1 (q.2.1 k).2.1 (q.2.1 k).2.2.1).before args s = true) (hfin : (q.2.1 k).2.2.2 = true → meth.name = "<init>" ∧ (q.2.1 k).1 = own)
    (hr3 : r3 = am_ft ci k) (hr0 : r3 = 0 → ty0 k = .int) (hr1 : r3 = 1 → (∃ n, ty0 k = .object n) ∨ ∃ t, ty0 k = .array t) (hd : decode cc pc = .ok (.putfield index, 3)) (h : am_putf ci k r3 (pc + 3) ls st G = some (ps, S)) (hp : am_all ps True) (kk : sm_K N Gs nL p l e R s m args below meth c Q S) : sm_V N Gs nL p l e R s m args below meth c Q pc ls st G := by
  have hlay : ∀ i, i < q.2.2 → (Cond.lays q.1 (q.2.1 i).1 (q.2.1 i).2.1 (q.2.1 i).2.2.1).before args s = true ∨ (Cond.laysFinal q.1 (q.2.1 i).1 (q.2.1 i).2.1 (q.2.1 i).2.2.1).before args s = true := by
    intro i hi
    have h := hlays i hi
    unfold u_lay at h
    split at h
    · exact Or.inr h
    · exact Or.inl h
  obtain ⟨hS, hfc, kC, hkC, hkind⟩ := u_Kn_moved hW.alike (E.2.1 ci q hq)
  obtain ⟨cf, kf, fi, f, hi, hsl⟩ := hS k hk
  have hst := (u_facts hfc hkC (hlay k hk) hi).1
  have hi' := hi
  rw [hdecl] at hi'
  have hap : ∀ x y, x < q.2.2 → y < q.2.2 → x ≠ y → ((sm_D N).2 ci) x ≠ ((sm_D N).2 ci) y := by
    intro x y hx hy hne
    obtain ⟨_, _, _, fa, hia, ea⟩ := hS x hx
    obtain ⟨_, _, _, fb, hib, eb⟩ := hS y hy
    rw [← ea, ← eb]
    refine u_apart (hlay x hx) (hlay y hy) hia hib ?_
    rw [(State.fieldFound?_type hia (hty x hx)).1, (State.fieldFound?_type hib (hty y hy)).1]
    exact hnm x hx y hy hne
  /- the store itself -/
  have goal : ∀ (H : Heap) (locs : List Loc) (cells slots : Nat) (lsR : Array Slot) (a n : Nat) (v : Value) (r : List Value) (G' : am_G), sm_J N Gs G H locs cells slots → (am_K G)[a]? = some (ci, n) → narrow (ty0 k) v = v → fits (ty0 k) v = true → am_K G' = am_K G → am_us G' = am_us G → am_sl G' = am_sl G →
      (∀ b i, b ≠ a → am_gI G' b i = am_gI G b i) → (∀ b i, b ≠ a → am_gP G' b i = am_gP G b i) → (∀ b i, b ≠ a → am_gL G' b i = am_gL G b i) → (∀ i, i < q.2.2 → updV (fun i => sm_fv N G a i (am_ft ci i)) k v i = sm_fv N G' a i (am_ft ci i)) →
      (∀ (H' : Heap) (locs' : List Loc), sm_J N Gs G' H' locs' cells slots → W p l e R s m args below meth c H' locs' cells slots Q (F0 m (pc + 3) lsR r)) → W p l e R s m args below meth c H locs cells slots Q (F0 m pc lsR (v :: .ref (sm_base N + a) :: r)) := by
    intro H locs cells slots lsR a n v r G' hJ hn hnar hfit hK hu hsl' hI hP hL hupd k1
    obtain ⟨e1, cell, c1, c2, c3, c4⟩ := sm_obj hJ.1 hn hci
    subst e1
    have hlt : f.slot < cell.slots.size := by rw [hsl]; exact k2_hasslot (c4 k (by omega))
    have fin : ∀ H' : Heap, H'[sm_base N + a]? = some (cell.setSlot f.slot v) → H'.size = H.size → (∀ q, q ≠ sm_base N + a → H'[q]? = H[q]?) → sm_J N Gs G' H' (locs ++ [⟨sm_base N + a, f.slot⟩]) cells slots := by
      intro H' e1 e2 e3
      refine hJ.loc (hJ.1.set hn hK hsl' hu hI hP hL e2 e3 ?_) hK hu
      refine Or.inl ⟨hci, rfl, ?_⟩
      rw [hsl] at e1
      exact t_OB.to (V := updV (fun i => sm_fv N G a i (am_ft ci i)) k v) ⟨_, e1, c2, c3, t_set c4 (by rw [← hcn]; exact hap) (by omega) v⟩ (fun i hi => hupd i (by omega))
    by_cases hf : (q.2.1 k).2.2.2 = true
    · obtain ⟨hin2, hdo⟩ := hfin hf
      have hl2 := hlays k hk
      unfold u_lay at hl2
      rw [if_pos hf] at hl2
      have hcf : m.cls = cf := by
        obtain ⟨_, _, c', _, _, _, -, -, hf', -, -, -, hown2, -⟩ := Cond.laysFinal_spec hl2
        have e1 : c' = cf := by have := hi.symm.trans hf'; simp at this; exact this.1.symm
        rw [hdo] at hown2
        rw [← e1]; exact Option.some.inj (hown.symm.trans hown2)
      have h6 := u_fits hfc hkC hkind (Or.inr hl2) hi (hty k hk) hnar hfit
      exact W.putFinK hx hb hown hlink hi' hst hcf hin2 (by rw [c2]; exact h6) c1 c3 hlt rfl rfl hd fun H' e1 e2 e3 => k1 H' _ (fin H' e1 e2 e3)
    · have hl2 := hlays k hk
      unfold u_lay at hl2
      rw [if_neg hf] at hl2
      have h6 := u_store hfc hkC hkind hl2 hi (hty k hk) hnar hfit
      exact W.putK hx hb (f := f) ⟨hown, hlink, ⟨_, _, _, hi'⟩, hst⟩ (by rw [c2]; exact h6) c1 c3 hlt rfl rfl hd fun H' e1 e2 e3 => k1 H' _ (fin H' e1 e2 e3)
  unfold am_putf at h
  split at h
  · next x a r =>
    split at h
    · cases h
      intro H locs cells slots lsR hJ hl
      obtain ⟨n, hn⟩ := hp.1
      rw [List.map_cons, List.map_cons, sm_own hJ.1 hn, sm_tv_int]
      refine goal H locs cells slots lsR a n (.int x) _ (am_wI G a k x) hJ hn (by rw [hr0 rfl]; rfl) (by rw [hr0 rfl]; rfl) rfl rfl rfl (fun b i hb => by simp [am_gI, am_wI, hb]) (fun b i hb => rfl) (fun b i hb => rfl) ?_ (fun H' locs' hJ' => kk H' locs' cells slots lsR hJ' hl)
      intro i hi
      unfold updV
      by_cases e : i = k
      · subst e
        rw [if_pos rfl, ← hr3]
        simp [sm_fv, am_gI, am_wI]
      · rw [if_neg e]
        exact sm_fv_eq _ (by simp [am_gI, am_wI, e]) rfl
    · cases h
  · next q2 a r =>
    split at h
    · cases h
      intro H locs cells slots lsR hJ hl
      obtain ⟨n, hn⟩ := hp.1
      have hq2 : q2 < 90000 := hp.2.1
      rw [List.map_cons, List.map_cons, sm_own hJ.1 hn, sm_tv_own N hq2]
      have hfit : narrow (ty0 k) (.ref (sm_base N + q2)) = .ref (sm_base N + q2) ∧ fits (ty0 k) (.ref (sm_base N + q2)) = true := by
        rcases hr1 rfl with ⟨n, e⟩ | ⟨t, e⟩ <;> rw [e] <;> exact ⟨rfl, rfl⟩
      refine goal H locs cells slots lsR a n (.ref (sm_base N + q2)) _ (am_wP G a k q2) hJ hn hfit.1 hfit.2 rfl rfl rfl (fun b i hb => rfl) (fun b i hb => by simp [am_gP, am_wP, hb]) (fun b i hb => rfl) ?_ (fun H' locs' hJ' => kk H' locs' cells slots lsR hJ' hl)
      intro i hi
      unfold updV
      by_cases e : i = k
      · subst e
        rw [if_pos rfl, ← hr3]
        have : am_gP (am_wP G a i q2) a i = q2 := by simp [am_gP, am_wP]
        show _ = sm_rv N (am_gP (am_wP G a i q2) a i)
        rw [this]
        exact (sm_rv_own hq2).symm
      · rw [if_neg e]
        exact sm_fv_eq _ rfl (by simp [am_gP, am_wP, e])
    · cases h
  · cases h
end
