/-! The dispatch: new objects, ends, calls. -/
section
variable {N : sm_N} {Gs : am_G} {nL : Nat} {p : Program} {l : Launch} {e : Env} {R : Room} {s : State} {m : MethodId} {args : Array Value} {below : List Frame} {meth : Method} {c : Code}
variable {pc : Nat} {ls : am_L} {st : List Value} {G : am_G} {ps : List Prop} {S : am_S} {post : am_O → am_G → Prop} {q : mi_T} {d : Nat} {hs : List (Nat × Nat × Nat × Nat)}
variable {y o len r1 r2 r3 : Nat} {z : Int32} {ts : List Nat} {k0 : Nat}

theorem sd_new0 (E : sm_env N) (E2 : sm_env2 N) (F : sm_fx N p l R s m meth c q (d + 1) Gs) (hnL : q.2.2.1 = nL) (ho : ow o = q.1.cls) (hdec : decode q.2.1 pc = .ok (.new k0, len)) (hchk : (Nat.beq len 3 && (Nat.blt r1 13 && (Nat.beq r2 (am_cn r1) && am_has3 cl_l o k0 r1))) = true) (hst : am_new r1 r2 (pc + len) ls st G = some (ps, S)) (hp : am_all ps True) (k : sm_KK N Gs nL p l e R s m args below meth c post d hs S) : sm_V N Gs nL p l e R s m args below meth c (sm_Z N Gs below s post) pc ls st G := by
  have hx := F.1
  have hb := F.2.2.2.2.1
  have hown := F.2.2.2.1
  have hW := F.2.2.1
  obtain ⟨h1, h2⟩ := bb hchk
  obtain rfl := bn h1
  obtain ⟨h3, h4⟩ := bb h2
  obtain ⟨h5, h6⟩ := bb h4
  have h3 := bl h3
  obtain rfl := bn h5
  have hRc := F.2.2.2.2.2.2.2.2.2.2.2.2.1
  have hRs := F.2.2.2.2.2.2.2.2.2.2.2.2.2
  obtain ⟨v, hv, i, hi⟩ := sm_has3c h6
  have hw := sm_wt (args := args) E2 hW hi rfl
  rw [ho] at hw
  obtain ⟨⟨i1, hi1⟩, ⟨i2, hi2⟩, hcn, hdecl⟩ := sm_icok hv h3
  refine sv_new (own := q.1.cls) (index := k0) (ty0 := sm_ty r1) E hW hx hb hown hRc hRs hv h3 hcn (sm_lays E2 hW hv) (sm_tyok hv).1 ?_ hw (sm_wt E2 hW hi1 rfl) (sm_wt E2 hW hi2 rfl) hdec hst hp (sm_KK_K k)
  intro j hj
  exact (sm_tk_of h3 (by rw [← hcn]; exact hj)).2.2
theorem am_new_re (h : am_new r1 r2 len ls st G = some (ps, S)) (hr : 200 ≤ r1) : ∃ o G', S = am_re o G' := by
  unfold am_new at h
  split at h
  · split at h
    · cases h
      exact ⟨_, _, rfl⟩
    · cases h
  · next hb =>
    rw [Nat.ble_eq_true_of_le hr] at hb
    cases hb
set_option maxRecDepth 100000 in
theorem sd_thw139 : ((vx_atX RX11 386 "java/lang/IllegalArgumentException" 7 prog_19_method_2_code ["java/lang/RuntimeException", "java/lang/Exception"]).all fun w => decide (w ∈ lw_tbl) && (sm_okw w && vx_ot w)) = true := by decide +kernel
theorem sd_throw139 (E : sm_env N) (E2 : sm_env2 N) (F : sm_fx N p l R s m meth c q (d + 1) Gs) (hnL : q.2.2.1 = nL) (ho : ow o = q.1.cls) (hq : mi_l[139]? = some q) (hdec : decode q.2.1 14 = .ok (.new 382, len)) (hst : am_new 200 r2 (14 + len) ls st G = some (ps, S)) (hp : am_all ps True) (k : sm_KK N Gs nL p l e R s m args below meth c post d hs S) : sm_V N Gs nL p l e R s m args below meth c (sm_Z N Gs below s post) 14 ls st G := by
  have hx := F.1
  have hb := F.2.2.2.2.1
  have hown := F.2.2.2.1
  have hW := F.2.2.1
  obtain ⟨oo, G', rfl⟩ := am_new_re hst (by decide)
  have hq0 : mi_l[139]? = some (yX11_need, cX11_need, 2, none, [], 1) := rfl
  obtain rfl := Option.some.inj (hq0.symm.trans hq)
  obtain ⟨sa, hsa⟩ := E2.2.2.2.2.2.2.1
  have d0 : decode cX11_need 14 = .ok (.new 382, 3) := by decide +kernel
  have hlen : len = 3 := by
    have := hdec.symm.trans d0
    simp at this
    exact this
  subst hlen
  have hall := List.all_eq_true.mp sd_thw139
  have hw1 : (Cond.classLink RX11 382 "java/lang/IllegalArgumentException").before args s = true := sm_wt (i := 538) E2 hW (by decide +kernel) rfl
  have hw2 : (Cond.initialized "java/lang/IllegalArgumentException").before args s = true := sm_wt (i := 18) E2 hW (by decide +kernel) rfl
  refine sv_throw (cls := "java/lang/IllegalArgumentException") (text := "an argument out of its bounds") (names := ["java/lang/RuntimeException", "java/lang/Exception"]) (ik := 382) (is := 384) (ic := 386) (sa := sa) (ix := 7) (rx := prog_19_method_2_code) (by decide +kernel) (by decide +kernel) (by decide +kernel) (by decide +kernel) E F hnL (by decide +kernel) (by decide +kernel) rfl hw1 hw2 (hsa.warm hW) ?_ ?_ E2.2.2.2.2.1 E2.2.2.2.2.2.1 (Or.inl rfl) rfl rfl d0 (by decide +kernel) (by decide +kernel) (by decide +kernel) (by decide +kernel) hst hp k
  · intro w hw
    obtain ⟨h1, h2⟩ := bb (hall w hw)
    exact sm_wd E2 hW (of_decide_eq_true h1) (bb h2).1
  · intro w hw
    rcases List.mem_cons.mp hw with rfl | hw
    · rfl
    rcases List.mem_cons.mp hw with rfl | hw
    · rfl
    · exact (bb (bb (hall w hw)).2).2
set_option maxRecDepth 100000 in
theorem sd_thw140 : ((vx_atX RX11 393 "java/util/NoSuchElementException" 13 prog_31_method_4_code ["java/lang/RuntimeException", "java/lang/Exception"]).all fun w => decide (w ∈ lw_tbl) && (sm_okw w && vx_ot w)) = true := by decide +kernel
theorem sd_throw140 (E : sm_env N) (E2 : sm_env2 N) (F : sm_fx N p l R s m meth c q (d + 1) Gs) (hnL : q.2.2.1 = nL) (ho : ow o = q.1.cls) (hq : mi_l[140]? = some q) (hdec : decode q.2.1 19 = .ok (.new 389, len)) (hst : am_new 201 r2 (19 + len) ls st G = some (ps, S)) (hp : am_all ps True) (k : sm_KK N Gs nL p l e R s m args below meth c post d hs S) : sm_V N Gs nL p l e R s m args below meth c (sm_Z N Gs below s post) 19 ls st G := by
  have hx := F.1
  have hb := F.2.2.2.2.1
  have hown := F.2.2.2.1
  have hW := F.2.2.1
  obtain ⟨oo, G', rfl⟩ := am_new_re hst (by decide)
  have hq0 : mi_l[140]? = some (yX11_needThere, cX11_needThere, 3, none, [], 1) := rfl
  obtain rfl := Option.some.inj (hq0.symm.trans hq)
  obtain ⟨sa, hsa⟩ := E2.2.2.2.2.2.2.2
  have d0 : decode cX11_needThere 19 = .ok (.new 389, 3) := by decide +kernel
  have hlen : len = 3 := by
    have := hdec.symm.trans d0
    simp at this
    exact this
  subst hlen
  have hall := List.all_eq_true.mp sd_thw140
  have hw1 : (Cond.classLink RX11 389 "java/util/NoSuchElementException").before args s = true := sm_wt (i := 936) E2 hW (by decide +kernel) rfl
  have hw2 : (Cond.initialized "java/util/NoSuchElementException").before args s = true := sm_wt (i := 25) E2 hW (by decide +kernel) rfl
  refine sv_throw (cls := "java/util/NoSuchElementException") (text := "no such bell, house or deed") (names := ["java/lang/RuntimeException", "java/lang/Exception"]) (ik := 389) (is := 391) (ic := 393) (sa := sa) (ix := 13) (rx := prog_31_method_4_code) (by decide +kernel) (by decide +kernel) (by decide +kernel) (by decide +kernel) E F hnL (by decide +kernel) (by decide +kernel) rfl hw1 hw2 (hsa.warm hW) ?_ ?_ E2.2.2.2.2.1 E2.2.2.2.2.2.1 (Or.inr rfl) rfl rfl d0 (by decide +kernel) (by decide +kernel) (by decide +kernel) (by decide +kernel) hst hp k
  · intro w hw
    obtain ⟨h1, h2⟩ := bb (hall w hw)
    exact sm_wd E2 hW (of_decide_eq_true h1) (bb h2).1
  · intro w hw
    rcases List.mem_cons.mp hw with rfl | hw
    · rfl
    rcases List.mem_cons.mp hw with rfl | hw
    · rfl
    · exact (bb (bb (hall w hw)).2).2
theorem am_ire_re {t : Nat} (h : am_ire t st G = some (ps, S)) : ∃ o G', S = am_re o G' := by
  unfold am_ire at h
  split at h
  · split at h
    · cases h
      exact ⟨_, _, rfl⟩
    · cases h
      exact ⟨_, _, rfl⟩
  · cases h
theorem am_lre_re (h : am_lre st G = some (ps, S)) : ∃ o G', S = am_re o G' := by
  unfold am_lre at h
  split at h
  · cases h
    exact ⟨_, _, rfl⟩
  · cases h
theorem am_vre_re (h : am_vre st G = some (ps, S)) : ∃ o G', S = am_re o G' := by
  unfold am_vre at h
  split at h
  · cases h
    exact ⟨_, _, rfl⟩
  · cases h
theorem am_tg_of {r : Option FieldType} {t : Nat} (h : am_tg r = t) : (t = 0 → r = none) ∧ (t = 1 → r = some .int) ∧ (t = 2 → r = some .long) ∧ (t = 5 → r = some .boolean) ∧ (t = 6 → r = some .char) ∧ (t = 7 → r = some .byte) := by
  subst h
  unfold am_tg
  split <;> refine ⟨?_, ?_, ?_, ?_, ?_, ?_⟩ <;> intro h <;> first | rfl | (exact absurd h (by decide))
theorem sd_ire (E : sm_env N) (E2 : sm_env2 N) (F : sm_fx N p l R s m meth c q (d + 1) Gs) (hnL : q.2.2.1 = nL) (ho : ow o = q.1.cls) (hdec : decode q.2.1 pc = .ok (.ireturn, len)) (hchk : (Nat.beq len 1 && (Nat.beq r1 (am_tg q.2.2.2.1) && (Nat.beq (am_tg q.2.2.2.1) 1 || (Nat.beq (am_tg q.2.2.2.1) 5 || (Nat.beq (am_tg q.2.2.2.1) 6 || Nat.beq (am_tg q.2.2.2.1) 7))))) = true) (hst : am_ire r1 st G = some (ps, S)) (hp : am_all ps True) (k : sm_KK N Gs nL p l e R s m args below meth c post d hs S) : sm_V N Gs nL p l e R s m args below meth c (sm_Z N Gs below s post) pc ls st G := by
  have hx := F.1
  have hb := F.2.2.2.2.1
  have hown := F.2.2.2.1
  have hW := F.2.2.1
  obtain ⟨h1, h2⟩ := bb hchk
  obtain rfl := bn h1
  obtain ⟨h3, h4⟩ := bb h2
  have h3 := bn h3
  obtain ⟨oo, G', rfl⟩ := am_ire_re hst
  have hr := F.2.2.2.2.2.2.1
  have hl := F.2.2.2.2.2.2.2.1
  obtain ⟨t0, t1, t2, t5, t6, t7⟩ := am_tg_of (r := q.2.2.2.1) rfl
  rcases bo h4 with h | h
  · have h := bn h
    rw [h] at h3
    subst h3
    exact sv_ire hx hb (hr.trans (t1 h)) hl (Or.inl ⟨rfl, rfl⟩) hdec hst hp k
  rcases bo h with h | h
  · have h := bn h
    rw [h] at h3
    subst h3
    exact sv_ire hx hb (hr.trans (t5 h)) hl (Or.inr (Or.inl ⟨rfl, rfl⟩)) hdec hst hp k
  rcases bo h with h | h
  · have h := bn h
    rw [h] at h3
    subst h3
    exact sv_ire hx hb (hr.trans (t6 h)) hl (Or.inr (Or.inr (Or.inl ⟨rfl, rfl⟩))) hdec hst hp k
  · have h := bn h
    rw [h] at h3
    subst h3
    exact sv_ire hx hb (hr.trans (t7 h)) hl (Or.inr (Or.inr (Or.inr ⟨rfl, rfl⟩))) hdec hst hp k
theorem sd_lre (E : sm_env N) (E2 : sm_env2 N) (F : sm_fx N p l R s m meth c q (d + 1) Gs) (hnL : q.2.2.1 = nL) (ho : ow o = q.1.cls) (hdec : decode q.2.1 pc = .ok (.lreturn, len)) (hchk : (Nat.beq len 1 && Nat.beq (am_tg q.2.2.2.1) 2) = true) (hst : am_lre st G = some (ps, S)) (k : sm_KK N Gs nL p l e R s m args below meth c post d hs S) : sm_V N Gs nL p l e R s m args below meth c (sm_Z N Gs below s post) pc ls st G := by
  have hx := F.1
  have hb := F.2.2.2.2.1
  have hown := F.2.2.2.1
  have hW := F.2.2.1
  obtain ⟨h1, h2⟩ := bb hchk
  obtain rfl := bn h1
  obtain ⟨oo, G', rfl⟩ := am_lre_re hst
  obtain ⟨t0, t1, t2, t5, t6, t7⟩ := am_tg_of (r := q.2.2.2.1) rfl
  exact sv_lre hx hb (F.2.2.2.2.2.2.1.trans (t2 (bn h2))) F.2.2.2.2.2.2.2.1 hdec hst k
theorem sd_vre (E : sm_env N) (E2 : sm_env2 N) (F : sm_fx N p l R s m meth c q (d + 1) Gs) (hnL : q.2.2.1 = nL) (ho : ow o = q.1.cls) (hdec : decode q.2.1 pc = .ok (.return_, len)) (hchk : (Nat.beq len 1 && Nat.beq (am_tg q.2.2.2.1) 0) = true) (hst : am_vre st G = some (ps, S)) (k : sm_KK N Gs nL p l e R s m args below meth c post d hs S) : sm_V N Gs nL p l e R s m args below meth c (sm_Z N Gs below s post) pc ls st G := by
  have hx := F.1
  have hb := F.2.2.2.2.1
  have hown := F.2.2.2.1
  have hW := F.2.2.1
  obtain ⟨h1, h2⟩ := bb hchk
  obtain rfl := bn h1
  obtain ⟨oo, G', rfl⟩ := am_vre_re hst
  obtain ⟨t0, t1, t2, t5, t6, t7⟩ := am_tg_of (r := q.2.2.2.1) rfl
  exact sv_vre hx hb (F.2.2.2.2.2.2.1.trans (t0 (bn h2))) F.2.2.2.2.2.2.2.1 hdec hst k
theorem am_inv_ca {n kind ret cls nx : Nat} (hk : kind = 0 ∨ kind = 1 ∨ kind = 2 ∨ kind = 5) (h : am_inv y n kind ret cls pc nx ls st G = some (ps, S)) : ∃ y' as pc' rest t ls' G' pc0, S = am_ca y' as pc' rest t ls' G' pc0 := by
  unfold am_inv at h
  rcases hk with e | e | e | e <;> subst e <;> simp only at h
  all_goals
    split at h
    · split at h
      · first
          | (cases h; exact ⟨_, _, _, _, _, _, _, _, rfl⟩)
          | (split at h
             · cases h; exact ⟨_, _, _, _, _, _, _, _, rfl⟩
             · cases h)
      · cases h
    · cases h
theorem am_par_of {n : Nat} {q' : mi_T} (hq' : mi_l[r1]? = some q') (h : am_par r1 n = true) : (parseMethodDescriptor q'.1.desc).map (fun d => d.parameters.length) = some n := by
  unfold am_par at h
  rw [hq'] at h
  exact of_decide_eq_true h
theorem am_kd_of {n : Nat} {q' : mi_T} (hq' : mi_l[r1]? = some q') (h : am_kd r1 n = true) : q'.2.2.2.2.2 = n := by
  unfold am_kd at h
  rw [hq'] at h
  exact bn h
theorem mq_of {q' : mi_T} (h : mq_c q' = true) : plainFor q'.1 = true ∧ q'.2.2.1 ≤ 100 ∧ q'.1.cls ≠ "java/lang/invoke/MethodHandle" ∧ q'.1.cls ≠ "java/lang/invoke/VarHandle" := by
  unfold mq_c at h
  simp only [Bool.and_eq_true, decide_eq_true_eq] at h
  exact ⟨h.1.1.1, h.1.1.2, h.1.2, h.2⟩
theorem sd_invS (E : sm_env N) (E2 : sm_env2 N) (F : sm_fx N p l R s m meth c q (d + 1) Gs) (hnL : q.2.2.1 = nL) (ho : ow o = q.1.cls) (hhm : sm_hm q.1.cls args s q.2.2.2.2.1 hs) (hdec : decode q.2.1 pc = .ok (.invokestatic k0, len)) (hchk : (Nat.beq len 3 && ((Nat.beq (am_nth ts 0) 0 && (Nat.beq r1 999 || (am_hasM0 o k0 r1 && (am_kd r1 0 && am_par r1 r2)))) || (Nat.beq (am_nth ts 0) 3 && am_has2 al_l o k0))) = true) (hst : am_inv r1 r2 (am_nth ts 0) (am_nth ts 1) (am_nth ts 2) pc (pc + len) ls st G = some (ps, S)) (hp : am_all ps True) (k : sm_KK N Gs nL p l e R s m args below meth c post d hs S) : sm_V N Gs nL p l e R s m args below meth c (sm_Z N Gs below s post) pc ls st G := by
  have hx := F.1
  have hb := F.2.2.2.2.1
  have hown := F.2.2.2.1
  have hW := F.2.2.1
  obtain ⟨h1, h2⟩ := bb hchk
  obtain rfl := bn h1
  rcases bo h2 with h | h
  · obtain ⟨h3, h4⟩ := bb h
    rw [bn h3] at hst
    obtain ⟨y', as, pc', rest, t, ls', G', pc0, rfl⟩ := am_inv_ca (Or.inl rfl) hst
    obtain ⟨q', hq', hok⟩ := k
    have ey := (sm_inv (Or.inl rfl) hst).1
    rcases bo h4 with h | h
    · exfalso
      rw [← ey, bn h] at hq'
      have := (List.getElem?_eq_some_iff.mp hq').1
      rw [mi_len] at this
      omega
    · obtain ⟨h5, h6⟩ := bb h
      obtain ⟨h7, h8⟩ := bb h6
      rw [← ey] at hq'
      obtain ⟨q2, hq2, i, hi⟩ := sm_hasM0 h5
      obtain rfl := Option.some.inj (hq2.symm.trans hq')
      have hw := sm_wt (args := args) E2 hW hi rfl
      rw [ho] at hw
      obtain ⟨⟨j, hj⟩, hmq, b, c2, hmp⟩ := mi_fact hq' (am_hasM0_lt h5)
      obtain ⟨m1, m2, m3⟩ := mq_of hmq
      unfold mp_c at hmp
      rw [am_kd_of hq' h7] at hmp
      simp only [Bool.and_eq_true, decide_eq_true_eq] at hmp
      exact sv_invS E.2.2.2.1 E2.2.1 F hnL hhm (sm_wt E2 hW hj (mi_okw _)) m1 m2 hw (sm_wt E2 hW hmp.1 rfl) (sm_wt E2 hW hmp.2 rfl) m3 (am_par_of hq' h8) hdec hst hok
  · obtain ⟨h3, h4⟩ := bb h
    rw [bn h3] at hst
    obtain ⟨r, hr, e1, e2⟩ := sm_hasA h4
    have hi := of_decide_eq_true (List.all_eq_true.mp al_ok r hr)
    have hw := sm_wt (args := args) E2 hW hi rfl
    rw [e1, e2, ho] at hw
    have g1 : (Cond.native arraycopyName).before args s = true := sm_wt (i := 452) E2 hW (by decide +kernel) rfl
    have g2 : (Cond.static arraycopyName).before args s = true := sm_wt (i := 451) E2 hW (by decide +kernel) rfl
    have g3 : (Cond.initialized "java/lang/System").before args s = true := sm_wt (i := 24) E2 hW (by decide +kernel) rfl
    have f11 := F.2.2.2.2.2.2.2.2.2.2.1
    have f12 := F.2.2.2.2.2.2.2.2.2.2.2.1
    exact sv_cpy E hW hx hb (F.2.2.2.2.2.1.trans hnL) hown (by omega) (by omega) hw g1 g2 g3 hdec hst hp (sm_KK_K k)
theorem sd_invV (E : sm_env N) (E2 : sm_env2 N) (F : sm_fx N p l R s m meth c q (d + 1) Gs) (hnL : q.2.2.1 = nL) (ho : ow o = q.1.cls) (hhm : sm_hm q.1.cls args s q.2.2.2.2.1 hs) (hdec : decode q.2.1 pc = .ok (.invokevirtual k0, len)) (hchk : (Nat.beq len 3 && (am_hasM0 o k0 r1 && (am_kd r1 1 && (am_par r1 (r2 - 1) && (Nat.blt 0 r2 && (am_cls r1 (am_nth ts 2) && ((Nat.beq (am_nth ts 0) 1 && Nat.blt (am_nth ts 2) 13) || (Nat.beq (am_nth ts 0) 5 && Nat.beq (am_nth ts 2) 17)))))))) = true) (hst : am_inv r1 r2 (am_nth ts 0) (am_nth ts 1) (am_nth ts 2) pc (pc + len) ls st G = some (ps, S)) (hp : am_all ps True) (k : sm_KK N Gs nL p l e R s m args below meth c post d hs S) : sm_V N Gs nL p l e R s m args below meth c (sm_Z N Gs below s post) pc ls st G := by
  have hx := F.1
  have hb := F.2.2.2.2.1
  have hown := F.2.2.2.1
  have hW := F.2.2.1
  obtain ⟨h1, h2⟩ := bb hchk
  obtain rfl := bn h1
  obtain ⟨h3, h4⟩ := bb h2
  obtain ⟨h5, h6⟩ := bb h4
  obtain ⟨h7, h8⟩ := bb h6
  obtain ⟨h9, h10⟩ := bb h8
  obtain ⟨h11, h12⟩ := bb h10
  have h9 := bl h9
  have hkind : am_nth ts 0 = 1 ∨ am_nth ts 0 = 5 := by
    rcases bo h12 with h | h
    · exact Or.inl (bn (bb h).1)
    · exact Or.inr (bn (bb h).1)
  obtain ⟨y', as, pc', rest, t, ls', G', pc0, rfl⟩ := am_inv_ca (by omega) hst
  obtain ⟨q', hq', hok⟩ := k
  have ey := (sm_inv (by omega) hst).1
  rw [← ey] at hq'
  obtain ⟨q2, hq2, i, hi⟩ := sm_hasM0 h3
  obtain rfl := Option.some.inj (hq2.symm.trans hq')
  have hw := sm_wt (args := args) E2 hW hi rfl
  rw [ho] at hw
  obtain ⟨⟨j, hj⟩, hmq, b, c2, hmp⟩ := mi_fact hq' (am_hasM0_lt h3)
  obtain ⟨m1, m2, m3⟩ := mq_of hmq
  unfold mp_c at hmp
  rw [am_kd_of hq' h5] at hmp
  simp only [Bool.and_eq_true, Bool.or_eq_true, decide_eq_true_eq] at hmp
  have hsel : (Cond.selects q2.1.cls q2.1 q2.1).before args s = true := by
    rcases hmp.2 with h | h
    · exact sm_wt E2 hW h rfl
    · exact sm_wd E2 hW (List.mem_append_left _ (List.mem_of_getElem? h)) rfl
  have hpar : (parseMethodDescriptor q2.1.desc).map (fun d => d.parameters.length + 1) = some r2 := by
    have h := am_par_of hq' h7
    cases hd : parseMethodDescriptor q2.1.desc with
    | none => rw [hd] at h; cases h
    | some x =>
      rw [hd] at h
      have h : x.parameters.length = r2 - 1 := Option.some.inj h
      exact congrArg some (show x.parameters.length + 1 = r2 by omega)
  have hcls : q2.1.cls = ow (am_nth ts 2) := by
    unfold am_cls at h11
    rw [hq'] at h11
    exact of_decide_eq_true h11
  refine sv_invV (C := q2.1.cls) E.2.2.2.1 E2.2.1 F hnL hhm (sm_wt E2 hW hj (mi_okw _)) m1 m2 hw (sm_wt E2 hW hmp.1 rfl) hsel m3 hpar hkind ?_ hdec hst hp hok
  intro a H hrep k1 k5
  rcases bo h12 with h | h
  · obtain ⟨ha, hb2⟩ := bb h
    have hb2 := bl hb2
    obtain ⟨n, hn⟩ := k1 (bn ha)
    obtain ⟨-, cell, c1, c22, c3, -⟩ := sm_obj hrep hn hb2
    refine ⟨_, cell, sm_own hrep hn, c1, by rw [c3]; rfl, ?_⟩
    have h20 := ow_cl _ hb2
    cases hv : vwCl[am_nth ts 2]? with
    | none => rw [hv] at h20; cases h20
    | some v =>
      rw [hv] at h20
      obtain ⟨-, hfc, -⟩ := u_Kn_moved hW.alike (E.2.1 _ v hv)
      rw [c22, hcls, ← Option.some.inj h20]
      exact hfc
  · obtain ⟨ha, hb2⟩ := bb h
    obtain ⟨j, ej, hj3, hj5⟩ := sm_os_j (k5 (bn ha))
    obtain ⟨⟨cell, o1, o2, o3⟩, -⟩ := E.2.2.2.2.2 j hj3 hj5
    subst ej
    refine ⟨_, cell, by rw [sm_tv_ref N (by omega), sm_ad_old], sm_oldcell E hrep o1, o2, ?_⟩
    rw [hcls, bn hb2, hW.alike.findClass]
    exact o3
theorem sd_invI (E : sm_env N) (E2 : sm_env2 N) (F : sm_fx N p l R s m meth c q (d + 1) Gs) (hnL : q.2.2.1 = nL) (ho : ow o = q.1.cls) (hhm : sm_hm q.1.cls args s q.2.2.2.2.1 hs) (hdec : decode q.2.1 pc = .ok (.invokespecial k0, len)) (hchk : (Nat.beq len 3 && ((Nat.beq (am_nth ts 0) 4 && am_has2 ol_l o k0) || (Nat.beq (am_nth ts 0) 2 && (am_hasM o k0 r1 && (am_kd r1 2 && (am_par r1 (r2 - 1) && Nat.blt 0 r2)))))) = true) (hst : am_inv r1 r2 (am_nth ts 0) (am_nth ts 1) (am_nth ts 2) pc (pc + len) ls st G = some (ps, S)) (hp : am_all ps True) (k : sm_KK N Gs nL p l e R s m args below meth c post d hs S) : sm_V N Gs nL p l e R s m args below meth c (sm_Z N Gs below s post) pc ls st G := by
  have hx := F.1
  have hb := F.2.2.2.2.1
  have hown := F.2.2.2.1
  have hW := F.2.2.1
  obtain ⟨h1, h2⟩ := bb hchk
  obtain rfl := bn h1
  rcases bo h2 with h | h
  · obtain ⟨h3, h4⟩ := bb h
    rw [bn h3] at hst
    obtain ⟨r, hr, e1, e2⟩ := sm_hasA h4
    have hi := of_decide_eq_true (List.all_eq_true.mp ol_ok r hr)
    have hw := sm_wt (args := args) E2 hW hi rfl
    rw [e1, e2, ho] at hw
    have g1 : (Cond.instanceMethod Lib.objectInit).before args s = true := sm_wt (i := 33) E2 hW (by decide +kernel) rfl
    have g2 : (Cond.code Lib.objectInit ⟨#[0xb1]⟩ 1 none).before args s = true := sm_wt (i := 34) E2 hW rfl rfl
    have f11 := F.2.2.2.2.2.2.2.2.2.2.1
    have f12 := F.2.2.2.2.2.2.2.2.2.2.2.1
    exact sv_oin E.2.2.2.1 hx hb (F.2.2.2.2.2.1.trans hnL) hown (by omega) (by omega) hw g1 g2 hdec hst hp (sm_KK_K k)
  · obtain ⟨h3, h4⟩ := bb h
    rw [bn h3] at hst
    obtain ⟨h5, h6⟩ := bb h4
    obtain ⟨h7, h8⟩ := bb h6
    obtain ⟨h9, h10⟩ := bb h8
    have h10 := bl h10
    obtain ⟨y', as, pc', rest, t, ls', G', pc0, rfl⟩ := am_inv_ca (by omega) hst
    obtain ⟨q', hq', hok⟩ := k
    have ey := (sm_inv (by omega) hst).1
    rw [← ey] at hq'
    obtain ⟨q2, hq2, hlink⟩ := sm_hasM h5
    obtain rfl := Option.some.inj (hq2.symm.trans hq')
    obtain ⟨⟨j, hj⟩, hmq, b, c2, hmp⟩ := mi_fact hq' (am_hasM_lt h5)
    obtain ⟨m1, m2, m3⟩ := mq_of hmq
    unfold mp_c at hmp
    rw [am_kd_of hq' h7] at hmp
    simp only [Bool.and_eq_true, decide_eq_true_eq] at hmp
    obtain ⟨⟨⟨p1, p2⟩, p3⟩, p4⟩ := hmp
    have hcd := sm_wt (args := args) E2 hW hj (mi_okw _)
    have hc2 : (Cond.code q2.1 q2.2.1 q2.2.2.1 none).before args s = true := by
      have h := hcd
      unfold mi_w at h
      rw [p4, p3] at h
      exact h
    have hpar : (parseMethodDescriptor q2.1.desc).map (fun d => d.parameters.length + 1) = some r2 := by
      have h := am_par_of hq' h9
      cases hd : parseMethodDescriptor q2.1.desc with
      | none => rw [hd] at h; cases h
      | some x =>
        rw [hd] at h
        have h : x.parameters.length = r2 - 1 := Option.some.inj h
        exact congrArg some (show x.parameters.length + 1 = r2 by omega)
    refine sv_invI E.2.2.2.1 E2.2.1 F hnL hhm hcd hc2 m1 m2 ?_ (sm_wt E2 hW p1 rfl) p2 m3 hpar hdec hst hp hok
    rcases hlink with ⟨i, hi⟩ | ⟨i, hi⟩
    · have hw := sm_wt (args := args) E2 hW hi rfl
      rw [ho] at hw
      exact Or.inl hw
    · have hw := sm_wt (args := args) E2 hW hi rfl
      rw [ho] at hw
      exact Or.inr ⟨_, hw⟩
end
