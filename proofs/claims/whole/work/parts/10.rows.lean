/-! Arrays, new cells, texts: the real machine does them too. -/
section
variable {N : sm_N} {Gs : am_G} {nL : Nat} {p : Program} {l : Launch} {e : Env} {R : Room} {s : State} {m : MethodId} {args : Array Value} {below : List Frame} {meth : Method} {c : Code} {Q : State → Prop}
variable {cc : ByteArray} {pc nx : Nat} {ls : am_L} {st : List Value} {G : am_G} {ps : List Prop} {S : am_S}
theorem sm_arr (E : sm_env N) (hW : (sm_s0 N).WarmedH s.vm) {k : Nat} {ty : FieldType} (h : sm_aty k = some ty) : ArrOfT s (sm_cs N k) ty := arrOfT_moved hW.alike (E.2.2.1 k ty h).1
theorem sm_isArr (hW : (sm_s0 N).WarmedH s.vm) {cell : Cell} {ty : FieldType} (h : (sm_s0 N).isArrayOf cell ty) : s.isArrayOf cell ty := by
  obtain ⟨h1, k, h2, comp, h3⟩ := h
  obtain ⟨k', hk', he⟩ := hW.alike.2.2 _ _ h2
  exact ⟨h1, k', hk', comp, by rw [he]; exact h3⟩
theorem sm_oi_j {a : Nat} (h : am_oi a) : ∃ j : Nat, a = 100000 + j ∧ sm_oty j = some .int ∧ j < 13 := by
  rcases h with h | h | h <;> subst h
  · exact ⟨0, rfl, rfl, by omega⟩
  · exact ⟨1, rfl, rfl, by omega⟩
  · exact ⟨2, rfl, rfl, by omega⟩
theorem sm_ob_j {a : Nat} (h : am_ob a) : ∃ j : Nat, a = 100000 + j ∧ sm_oty j = some .byte ∧ j < 13 := by
  rcases h with h | h | h <;> subst h
  · exact ⟨8, rfl, rfl, by omega⟩
  · exact ⟨9, rfl, rfl, by omega⟩
  · exact ⟨10, rfl, rfl, by omega⟩
theorem sm_tv_old {j : Nat} (h : j < 13) : sm_tv N (.ref (100000 + j)) = .ref (sm_od N j) := by rw [sm_tv_ref N (by omega), sm_ad_old]
theorem sm_lt_of {i : Int32} {n : Nat} (h : vp_in i n) : i.toNatClampNeg < n := Nat.not_le.mp fun q => h (Or.inr q)
theorem sm_vin {cA : ClassId} {i : Int32} {n : Nat} {f : Nat → Value} (h : vp_in i n) : ¬ (i < 0 ∨ (arrV cA n f).slots.size ≤ i.toNatClampNeg) := by rw [arrV_size]; exact h
theorem sv_iald (E : sm_env N) (hW : (sm_s0 N).WarmedH s.vm) (hx : p.tables.exec = Jvm.exec) (hb : c.code = cc) (hd : decode cc pc = .ok (.iaload, 1)) (h : am_iald (pc + 1) ls st G = some (ps, S)) (hp : am_all ps True) (kk : sm_K N Gs nL p l e R s m args below meth c Q S) : sm_V N Gs nL p l e R s m args below meth c Q pc ls st G := by
  unfold am_iald at h
  split at h
  · next i a r =>
    cases h
    intro H locs cells slots lsR hJ hl
    have k1 := kk H locs cells slots lsR hJ hl
    rcases hp.1 with ⟨n, hn, hi⟩ | ⟨ho, hi⟩
    · rw [List.map_cons, List.map_cons, sm_own hJ.1 hn]
      exact W.iald hx hb (sm_ints hJ.1 hn (Or.inl rfl)) (sm_arr E hW rfl n _) (fun q => by cases q) (sm_vin hi) (arrV_read _ _ (sm_lt_of hi)) rfl rfl hd k1
    · obtain ⟨j, ej, hj, hj2⟩ := sm_oi_j ho
      subst ej
      obtain ⟨cell, o1, o2, o3, o4, o4b, o5⟩ := E.2.2.2.2.1 j _ hj
      have hi' : vp_in i (am_ol (sm_len N) j) := by rw [hJ.1.2.2.1, show 100000 + j - 100000 = j by omega] at hi; exact hi
      rw [List.map_cons, List.map_cons, sm_tv_old hj2]
      refine W.iald (v := .int (am_gI G (100000 + j) i.toNatClampNeg)) hx hb (sm_oldcell E hJ.1 o1) (sm_isArr hW o2) o3 (fun z => hi' (z.imp id fun w => Nat.le_trans o4 w)) ?_ rfl rfl hd k1
      rw [hJ.1.2.2.2.2.2 j _ (sm_lt_of hi')]
      exact o5 _ (sm_lt_of hi')
  · cases h
theorem sv_bald (E : sm_env N) (hW : (sm_s0 N).WarmedH s.vm) (hx : p.tables.exec = Jvm.exec) (hb : c.code = cc) (hd : decode cc pc = .ok (.baload, 1)) (h : am_bald (pc + 1) ls st G = some (ps, S)) (hp : am_all ps True) (kk : sm_K N Gs nL p l e R s m args below meth c Q S) : sm_V N Gs nL p l e R s m args below meth c Q pc ls st G := by
  unfold am_bald at h
  split at h
  · next i a r =>
    cases h
    intro H locs cells slots lsR hJ hl
    have k1 := kk H locs cells slots lsR hJ hl
    rcases hp.1 with ⟨n, hn, hi⟩ | ⟨ho, hi⟩
    · rw [List.map_cons, List.map_cons, sm_own hJ.1 hn]
      exact W.bald hx hb (sm_ints hJ.1 hn (Or.inr rfl)) (sm_arr E hW rfl n _) (fun q => by cases q) (sm_vin hi) (arrV_read _ _ (sm_lt_of hi)) rfl rfl hd k1
    · obtain ⟨j, ej, hj, hj2⟩ := sm_ob_j ho
      subst ej
      obtain ⟨cell, o1, o2, o3, o4, o4b, o5⟩ := E.2.2.2.2.1 j _ hj
      have hi' : vp_in i (am_ol (sm_len N) j) := by rw [hJ.1.2.2.1, show 100000 + j - 100000 = j by omega] at hi; exact hi
      rw [List.map_cons, List.map_cons, sm_tv_old hj2]
      refine W.bald (v := .int (am_gI G (100000 + j) i.toNatClampNeg)) hx hb (sm_oldcell E hJ.1 o1) (sm_isArr hW o2) o3 (fun z => hi' (z.imp id fun w => Nat.le_trans o4 w)) ?_ rfl rfl hd k1
      rw [hJ.1.2.2.2.2.2 j _ (sm_lt_of hi')]
      exact o5 _ (sm_lt_of hi')
  · cases h
theorem sv_lald (E : sm_env N) (hW : (sm_s0 N).WarmedH s.vm) (hx : p.tables.exec = Jvm.exec) (hb : c.code = cc) (hd : decode cc pc = .ok (.laload, 1)) (h : am_lald (pc + 1) ls st G = some (ps, S)) (hp : am_all ps True) (kk : sm_K N Gs nL p l e R s m args below meth c Q S) : sm_V N Gs nL p l e R s m args below meth c Q pc ls st G := by
  unfold am_lald at h
  split at h
  · next i a r =>
    cases h
    intro H locs cells slots lsR hJ hl
    have k1 := kk H locs cells slots lsR hJ hl
    obtain ⟨n, hn, hi⟩ := hp.1
    rw [List.map_cons, List.map_cons, sm_own hJ.1 hn]
    exact W.lald hx hb (sm_longs hJ.1 hn) (sm_arr E hW rfl n _) (fun q => by cases q) (sm_vin hi) (arrV_read _ _ (sm_lt_of hi)) rfl rfl hd k1
  · cases h
theorem sv_aald (E : sm_env N) (hW : (sm_s0 N).WarmedH s.vm) (hx : p.tables.exec = Jvm.exec) (hb : c.code = cc) (hd : decode cc pc = .ok (.aaload, 1)) (h : am_aald (pc + 1) ls st G = some (ps, S)) (hp : am_all ps True) (kk : sm_K N Gs nL p l e R s m args below meth c Q S) : sm_V N Gs nL p l e R s m args below meth c Q pc ls st G := by
  unfold am_aald at h
  split at h
  · next i a r =>
    cases h
    intro H locs cells slots lsR hJ hl
    have k1 := kk H locs cells slots lsR hJ hl
    rw [List.map_cons, sm_tv_own N hp.2.1, ← sm_rv_own (N := N) hp.2.1] at k1
    rcases hp.1 with ⟨n, hn, hi⟩ | ⟨n, hn, hi⟩ | ⟨n, hn, hi⟩
    · rw [List.map_cons, List.map_cons, sm_own hJ.1 hn]
      exact W.aald hx hb (sm_refs hJ.1 hn (Or.inl rfl)) (sm_arr E hW rfl n _) rfl (fun q => by cases q) (sm_vin hi) (arrV_read _ _ (sm_lt_of hi)) rfl rfl hd k1
    · rw [List.map_cons, List.map_cons, sm_own hJ.1 hn]
      exact W.aald hx hb (sm_refs hJ.1 hn (Or.inr (Or.inl rfl))) (sm_arr E hW rfl n _) rfl (fun q => by cases q) (sm_vin hi) (arrV_read _ _ (sm_lt_of hi)) rfl rfl hd k1
    · rw [List.map_cons, List.map_cons, sm_own hJ.1 hn]
      exact W.aald hx hb (sm_refs hJ.1 hn (Or.inr (Or.inr rfl))) (sm_arr E hW rfl n _) rfl (fun q => by cases q) (sm_vin hi) (arrV_read _ _ (sm_lt_of hi)) rfl rfl hd k1
  · cases h
theorem sm_wI_I {G : am_G} {a i b j : Nat} {v : Int32} : am_gI (am_wI G a i v) b j = if b = a ∧ j = i then v else am_gI G b j := rfl
theorem sm_wL_L {G : am_G} {a i b j : Nat} {v : Int64} : am_gL (am_wL G a i v) b j = if b = a ∧ j = i then v else am_gL G b j := rfl
theorem sm_wP_P {G : am_G} {a i b j v : Nat} : am_gP (am_wP G a i v) b j = if b = a ∧ j = i then v else am_gP G b j := rfl
theorem sm_upd {f : Nat → Value} {k : Nat} {v : Value} {g : Nat → Value} (h1 : g k = v) (h2 : ∀ j, j ≠ k → g j = f j) : updV f k v = g := by
  funext j
  unfold updV
  by_cases h : j = k
  · subst h; rw [if_pos rfl, h1]
  · rw [if_neg h, h2 j h]
theorem sv_iast (E : sm_env N) (hW : (sm_s0 N).WarmedH s.vm) (hx : p.tables.exec = Jvm.exec) (hb : c.code = cc) (hd : decode cc pc = .ok (.iastore, 1)) (h : am_iast (pc + 1) ls st G = some (ps, S)) (hp : am_all ps True) (kk : sm_K N Gs nL p l e R s m args below meth c Q S) : sm_V N Gs nL p l e R s m args below meth c Q pc ls st G := by
  unfold am_iast at h
  split at h
  · next x i a r =>
    cases h
    intro H locs cells slots lsR hJ hl
    obtain ⟨n, hn, hi⟩ := hp.1
    rw [List.map_cons, List.map_cons, List.map_cons, sm_own hJ.1 hn]
    refine W.iast hx hb (sm_ints hJ.1 hn (Or.inl rfl)) (sm_arr E hW rfl n _) (fun q => by cases q) (sm_vin hi) rfl rfl hd fun H' e1 e2 e3 => ?_
    refine kk H' _ cells slots lsR (hJ.loc (hJ.1.set hn rfl rfl rfl (fun b j hb => by rw [sm_wI_I, if_neg (fun q => hb q.1)]) (fun b j hb => rfl) (fun b j hb => rfl) e2 e3 ?_) rfl rfl) hl
    refine Or.inr (Or.inl ⟨Or.inl rfl, ?_⟩)
    rw [e1, arrV_store, sm_upd (g := fun j => .int (am_gI (am_wI G a i.toNatClampNeg x) a j)) (by rw [sm_wI_I, if_pos ⟨rfl, rfl⟩]) (fun j hj => by rw [sm_wI_I, if_neg (fun q => hj q.2)])]
  · cases h
theorem sm_nar (x : Int32) : narrow .byte (.int x) = .int (vp_nar .byte x) := rfl
theorem sv_bast (E : sm_env N) (hW : (sm_s0 N).WarmedH s.vm) (hx : p.tables.exec = Jvm.exec) (hb : c.code = cc) (hd : decode cc pc = .ok (.bastore, 1)) (h : am_bast (pc + 1) ls st G = some (ps, S)) (hp : am_all ps True) (kk : sm_K N Gs nL p l e R s m args below meth c Q S) : sm_V N Gs nL p l e R s m args below meth c Q pc ls st G := by
  unfold am_bast at h
  split at h
  · next x i a r =>
    cases h
    intro H locs cells slots lsR hJ hl
    obtain ⟨n, hn, hi⟩ := hp.1
    rw [List.map_cons, List.map_cons, List.map_cons, sm_own hJ.1 hn]
    refine W.bast hx hb (sm_ints hJ.1 hn (Or.inr rfl)) (sm_arr E hW rfl n _) (fun q => by cases q) (sm_vin hi) rfl rfl hd fun H' e1 e2 e3 => ?_
    refine kk H' _ cells slots lsR (hJ.loc (hJ.1.set hn rfl rfl rfl (fun b j hb => by rw [sm_wI_I, if_neg (fun q => hb q.1)]) (fun b j hb => rfl) (fun b j hb => rfl) e2 e3 ?_) rfl rfl) hl
    refine Or.inr (Or.inl ⟨Or.inr rfl, ?_⟩)
    rw [e1, sm_nar, arrV_store, sm_upd (g := fun j => .int (am_gI (am_wI G a i.toNatClampNeg (vp_nar .byte x)) a j)) (by rw [sm_wI_I, if_pos ⟨rfl, rfl⟩]) (fun j hj => by rw [sm_wI_I, if_neg (fun q => hj q.2)])]
  · cases h
theorem sv_last (E : sm_env N) (hW : (sm_s0 N).WarmedH s.vm) (hx : p.tables.exec = Jvm.exec) (hb : c.code = cc) (hd : decode cc pc = .ok (.lastore, 1)) (h : am_last (pc + 1) ls st G = some (ps, S)) (hp : am_all ps True) (kk : sm_K N Gs nL p l e R s m args below meth c Q S) : sm_V N Gs nL p l e R s m args below meth c Q pc ls st G := by
  unfold am_last at h
  split at h
  · next x i a r =>
    cases h
    intro H locs cells slots lsR hJ hl
    obtain ⟨n, hn, hi⟩ := hp.1
    rw [List.map_cons, List.map_cons, List.map_cons, sm_own hJ.1 hn]
    refine W.last hx hb (sm_longs hJ.1 hn) (sm_arr E hW rfl n _) (fun q => by cases q) (sm_vin hi) rfl rfl hd fun H' e1 e2 e3 => ?_
    refine kk H' _ cells slots lsR (hJ.loc (hJ.1.set hn rfl rfl rfl (fun b j hb => rfl) (fun b j hb => rfl) (fun b j hb => by rw [sm_wL_L, if_neg (fun q => hb q.1)]) e2 e3 ?_) rfl rfl) hl
    refine Or.inr (Or.inr (Or.inl ⟨rfl, ?_⟩))
    rw [e1, arrV_store, sm_upd (g := fun j => .long (am_gL (am_wL G a i.toNatClampNeg x) a j)) (by rw [sm_wL_L, if_pos ⟨rfl, rfl⟩]) (fun j hj => by rw [sm_wL_L, if_neg (fun q => hj q.2)])]
  · cases h
theorem sm_RA (E : sm_env N) (hW : (sm_s0 N).WarmedH s.vm) {k : Nat} {ty : FieldType} (h : sm_aty k = some ty) : va_RA s (sm_cs N k) ty := (E.2.2.1 k ty h).2.moved hW.alike
theorem sv_aast (E : sm_env N) (hW : (sm_s0 N).WarmedH s.vm) (hx : p.tables.exec = Jvm.exec) (hb : c.code = cc) (hd : decode cc pc = .ok (.aastore, 1)) (h : am_aast (pc + 1) ls st G = some (ps, S)) (hp : am_all ps True) (kk : sm_K N Gs nL p l e R s m args below meth c Q S) : sm_V N Gs nL p l e R s m args below meth c Q pc ls st G := by
  unfold am_aast at h
  split at h
  · next q i a r =>
    cases h
    intro H locs cells slots lsR hJ hl
    have goal : ∀ (k cls n nq : Nat) (C : String) (vq : vw_C), (k = 103 ∨ k = 104) → sm_aty k = some (.object C) → vwCl[cls]? = some vq → vq.1 = C → cls < 13 → (am_K G)[a]? = some (k, n) → vp_in i n → (am_K G)[q]? = some (cls, nq) →
        W p l e R s m args below meth c H locs cells slots Q (F0 m pc lsR ((Value.ref q :: .int i :: .ref a :: r).map (sm_tv N))) := by
      intro k cls n nq C vq hk hty hvq hC hcl hn hi hq
      have hqo := hJ.1.own hq
      rw [List.map_cons, List.map_cons, List.map_cons, sm_own hJ.1 hn, sm_own hJ.1 hq]
      obtain ⟨-, cv, v1, v2, v3, -⟩ := sm_obj hJ.1 hq hcl
      obtain ⟨kA, comp, r1, r2, r3, -⟩ := sm_RA E hW hty
      obtain ⟨-, hfc, kC, hkC, -⟩ := u_Kn_moved hW.alike (E.2.1 cls vq hvq)
      have hcc : cv.cls = comp := by
        rw [v2]
        rw [hC] at hfc
        exact Option.some.inj (hfc.symm.trans r3)
      refine W.aast hx hb (sm_refs hJ.1 hn (Or.inr hk)) (fun q h => by cases h) (fun q => by cases q) (k := kA) (comp := comp) (t := .object C) r1 r2 rfl (kcomp := kC) (by rw [← hcc, v2]; exact hkC) ⟨fun z => hi (Or.inl z), by rw [arrV_size]; exact sm_lt_of hi⟩ v1 (fun q h => by rw [v3] at h; cases h) (kv := kC) (by rw [v2]; exact hkC) (by rw [hcc]; exact Vm.assignable_self _ _) rfl rfl hd fun H' e1 e2 e3 => ?_
      refine kk H' _ cells slots lsR (hJ.loc (hJ.1.set hn rfl rfl rfl (fun b j hb => rfl) (fun b j hb => by rw [sm_wP_P, if_neg (fun q => hb q.1)]) (fun b j hb => rfl) e2 e3 ?_) rfl rfl) hl
      refine Or.inr (Or.inr (Or.inr (Or.inl ⟨Or.inr hk, ?_⟩)))
      rw [e1, arrV_store, sm_upd (g := fun j => sm_rv N (am_gP (am_wP G a i.toNatClampNeg q) a j)) (by rw [sm_wP_P, if_pos ⟨rfl, rfl⟩, sm_rv_own hqo]) (fun j hj => by rw [sm_wP_P, if_neg (fun q => hj q.2)])]
    rcases hp.1 with ⟨⟨n, hn, hi⟩, nq, hq⟩ | ⟨⟨n, hn, hi⟩, nq, hq⟩
    · exact goal 103 1 n nq _ _ (Or.inl rfl) rfl rfl rfl (by omega) hn hi hq
    · exact goal 104 7 n nq _ _ (Or.inr rfl) rfl rfl rfl (by omega) hn hi hq
  · cases h
theorem sv_alen (E : sm_env N) (hW : (sm_s0 N).WarmedH s.vm) (hx : p.tables.exec = Jvm.exec) (hb : c.code = cc) (hd : decode cc pc = .ok (.arraylength, 1)) (h : am_alen (pc + 1) ls st G = some (ps, S)) (hp : am_all ps True) (kk : sm_K N Gs nL p l e R s m args below meth c Q S) : sm_V N Gs nL p l e R s m args below meth c Q pc ls st G := by
  unfold am_alen at h
  split at h
  · next a r =>
    cases h
    intro H locs cells slots lsR hJ hl
    have k1 := kk H locs cells slots lsR hJ hl
    rcases hp.1 with ⟨k, n, hn, hk1, hk2⟩ | ho | ho
    · have hln : am_ln G a = n := by unfold am_ln; rw [hn]
      rw [List.map_cons, hln] at k1
      rw [List.map_cons, sm_own hJ.1 hn]
      rcases (show k = 100 ∨ k = 101 ∨ k = 102 ∨ k = 103 ∨ k = 104 ∨ k = 105 by omega) with e | e | e | e | e | e <;> subst e
      · exact W.alen hx hb (sm_ints hJ.1 hn (Or.inl rfl)) (sm_arr E hW (k := 100) rfl n _) (by rw [arrV_size]) rfl rfl hd k1
      · exact W.alen hx hb (sm_longs hJ.1 hn) (sm_arr E hW (k := 101) rfl n _) (by rw [arrV_size]) rfl rfl hd k1
      · exact W.alen hx hb (sm_refs hJ.1 hn (Or.inl rfl)) (sm_arr E hW (k := 102) rfl n _) (by rw [arrV_size]) rfl rfl hd k1
      · exact W.alen hx hb (sm_refs hJ.1 hn (Or.inr (Or.inl rfl))) (sm_arr E hW (k := 103) rfl n _) (by rw [arrV_size]) rfl rfl hd k1
      · exact W.alen hx hb (sm_refs hJ.1 hn (Or.inr (Or.inr rfl))) (sm_arr E hW (k := 104) rfl n _) (by rw [arrV_size]) rfl rfl hd k1
      · exact W.alen hx hb (sm_ints hJ.1 hn (Or.inr rfl)) (sm_arr E hW (k := 105) rfl n _) (by rw [arrV_size]) rfl rfl hd k1
    · obtain ⟨j, ej, hj, hj2⟩ := sm_oi_j ho
      subst ej
      obtain ⟨cell, o1, o2, o3, o4, o4b, o5⟩ := E.2.2.2.2.1 j _ hj
      have hln : am_ln G (100000 + j) = am_ol (sm_len N) j := by
        unfold am_ln
        rw [List.getElem?_eq_none (by have := hJ.1.2.1; omega), hJ.1.2.2.1, show 100000 + j - 100000 = j by omega]
      rw [List.map_cons, hln] at k1
      rw [List.map_cons, sm_tv_old hj2]
      exact W.alen hx hb (sm_oldcell E hJ.1 o1) (sm_isArr hW o2) o4b rfl rfl hd k1
    · obtain ⟨j, ej, hj, hj2⟩ := sm_ob_j ho
      subst ej
      obtain ⟨cell, o1, o2, o3, o4, o4b, o5⟩ := E.2.2.2.2.1 j _ hj
      have hln : am_ln G (100000 + j) = am_ol (sm_len N) j := by
        unfold am_ln
        rw [List.getElem?_eq_none (by have := hJ.1.2.1; omega), hJ.1.2.2.1, show 100000 + j - 100000 = j by omega]
      rw [List.map_cons, hln] at k1
      rw [List.map_cons, sm_tv_old hj2]
      exact W.alen hx hb (sm_oldcell E hJ.1 o1) (sm_isArr hW o2) o4b rfl rfl hd k1
  · cases h
end
