/-! The dispatch: the harder ones of the instructions. -/
section
variable {N : sm_N} {Gs : am_G} {nL : Nat} {p : Program} {l : Launch} {e : Env} {R : Room} {s : State} {m : MethodId} {args : Array Value} {below : List Frame} {meth : Method} {c : Code}
variable {pc : Nat} {ls : am_L} {st : List Value} {G : am_G} {ps : List Prop} {S : am_S} {post : am_O → am_G → Prop} {q : mi_T} {d : Nat} {hs : List (Nat × Nat × Nat × Nat)}
variable {y o len r1 r2 r3 : Nat} {z : Int32} {ts : List Nat} {k0 : Nat}

theorem sd_ldc (E : sm_env N) (E2 : sm_env2 N) (F : sm_fx N p l R s m meth c q (d + 1) Gs) (hnL : q.2.2.1 = nL) (ho : ow o = q.1.cls) (hdec : decode q.2.1 pc = .ok (.ldc k0, len)) (hchk : (Nat.beq len 2 && ((Nat.beq r1 0 && am_hasK kl_l o k0 z) || (Nat.beq r1 1 && (am_has3 tl_l o k0 r2 && Nat.ble r2 100005)))) = true) (hst : am_op (.ldc k0) (pc + len) r1 r2 r3 z ts pc ls st G = some (ps, S)) (k : sm_KK N Gs nL p l e R s m args below meth c post d hs S) : sm_V N Gs nL p l e R s m args below meth c (sm_Z N Gs below s post) pc ls st G := by
  have hx := F.1
  have hb := F.2.2.2.2.1
  have hown := F.2.2.2.1
  have hW := F.2.2.1
  obtain ⟨h1, h2⟩ := bb hchk
  obtain rfl := bn h1
  rcases bo h2 with h | h
  · obtain ⟨h3, h4⟩ := bb h
    obtain rfl := bn h3
    obtain ⟨i, hi⟩ := sm_hasK h4
    have hw := sm_wt (args := args) E2 hW hi rfl
    rw [ho] at hw
    exact sv_pu (v := .int z) (fun H locs cells slots lsR rest k => lv_ldc hx hb hown hw hdec k) hst (sm_KK_K k)
  · obtain ⟨h3, h4⟩ := bb h
    obtain rfl := bn h3
    obtain ⟨h5, h6⟩ := bb h4
    obtain ⟨r, hr, e1, e2, e3⟩ := sm_has3t h5
    have hw := (E2.2.2.2.1 r hr).warm hW
    rw [e1, e2, e3, ho] at hw
    have h6 := Nat.le_of_ble_eq_true h6
    exact sv_ldcS hx hb hown (by omega) hw hdec hst (sm_KK_K k)
theorem sd_gets (E : sm_env N) (E2 : sm_env2 N) (F : sm_fx N p l R s m meth c q (d + 1) Gs) (hnL : q.2.2.1 = nL) (ho : ow o = q.1.cls) (hdec : decode q.2.1 pc = .ok (.getstatic k0, len)) (hchk : (Nat.beq len 3 && ((Nat.beq r1 0 && (decide (z = 1) && am_hasS o k0 1)) || (Nat.beq r1 1 && (am_hasS o k0 r2 && Nat.ble 100000 r2)))) = true) (hst : am_op (.getstatic k0) (pc + len) r1 r2 r3 z ts pc ls st G = some (ps, S)) (k : sm_KK N Gs nL p l e R s m args below meth c post d hs S) : sm_V N Gs nL p l e R s m args below meth c (sm_Z N Gs below s post) pc ls st G := by
  have hx := F.1
  have hb := F.2.2.2.2.1
  have hown := F.2.2.2.1
  have hW := F.2.2.1
  obtain ⟨h1, h2⟩ := bb hchk
  obtain rfl := bn h1
  have hlk : ∀ {k : Nat}, ((∃ i : Nat, tables_1[i]? = some (Jvm.Cond.fieldLink (ow o) k0 (sl_n k).1 (sl_n k).2.1 (sl_n k).2.2)) ∨ ∃ i : Nat, tables_1[i]? = some (Jvm.Cond.fieldLinkNest (ow o) k0 (sl_n k).1 (sl_n k).2.1 (sl_n k).2.2 RX11)) →
      (Cond.fieldLink q.1.cls k0 (sl_n k).1 (sl_n k).2.1 (sl_n k).2.2).before args s = true ∨ ∃ host, (Cond.fieldLinkNest q.1.cls k0 (sl_n k).1 (sl_n k).2.1 (sl_n k).2.2 host).before args s = true := by
    intro k h
    rcases h with ⟨i, hi⟩ | ⟨i, hi⟩
    · have hw := sm_wt (args := args) E2 hW hi rfl
      rw [ho] at hw
      exact Or.inl hw
    · have hw := sm_wt (args := args) E2 hW hi rfl
      rw [ho] at hw
      exact Or.inr ⟨_, hw⟩
  rcases bo h2 with h | h
  · obtain ⟨h3, h4⟩ := bb h
    obtain rfl := bn h3
    obtain ⟨h5, h6⟩ := bb h4
    obtain rfl := of_decide_eq_true h5
    obtain ⟨h7, h8⟩ := sm_hasS h6
    have hZ := E2.2.2.1 1 (Or.inl rfl)
    exact sv_gets (v := .int 1) E hW hx hb hown hZ (hlk h8) hdec hst (sm_KK_K k)
  · obtain ⟨h3, h4⟩ := bb h
    obtain rfl := bn h3
    obtain ⟨h5, h6⟩ := bb h4
    obtain ⟨h7, h8⟩ := sm_hasS h5
    have h6 := Nat.le_of_ble_eq_true h6
    have hZ := E2.2.2.1 r2 h7
    have hlk := hlk h8
    rcases h7 with rfl | rfl | rfl | rfl
    · exact absurd h6 (by decide)
    · exact sv_gets (v := .ref 100001) E hW hx hb hown hZ hlk hdec hst (sm_KK_K k)
    · exact sv_gets (v := .ref 100002) E hW hx hb hown hZ hlk hdec hst (sm_KK_K k)
    · exact sv_gets (v := .ref 100013) E hW hx hb hown hZ hlk hdec hst (sm_KK_K k)
theorem sd_table {dd lo hi : Int} {offs : Array Int} (E : sm_env N) (E2 : sm_env2 N) (F : sm_fx N p l R s m meth c q (d + 1) Gs) (hnL : q.2.2.1 = nL) (ho : ow o = q.1.cls) (hdec : decode q.2.1 pc = .ok (.tableswitch dd lo hi offs, len)) (hchk : (decide ((pc : Int) + dd = (r1 : Int)) && (decide (lo = z.toInt) && (decide (hi = lo + ts.length - 1) && (am_sws pc lo offs.toList ts && decide (lo + ts.length ≤ 2147483647))))) = true) (hst : am_swi z ts r1 ls st G = some (ps, S)) (k : sm_KK N Gs nL p l e R s m args below meth c post d hs S) : sm_V N Gs nL p l e R s m args below meth c (sm_Z N Gs below s post) pc ls st G := by
  have hx := F.1
  have hb := F.2.2.2.2.1
  have hown := F.2.2.2.1
  have hW := F.2.2.1
  obtain ⟨h1, h2⟩ := bb hchk
  obtain ⟨h3, h4⟩ := bb h2
  obtain ⟨h5, h6⟩ := bb h4
  obtain ⟨h7, h8⟩ := bb h6
  have ht := of_decide_eq_true h1
  obtain rfl := of_decide_eq_true h3
  obtain rfl := of_decide_eq_true h5
  have hlim := of_decide_eq_true h8
  refine sv_swi (fun H locs cells slots lsR rest x k1 => ?_) hst (sm_KK_K k)
  by_cases hh : x.toInt < z.toInt ∨ z.toInt + ts.length - 1 < x.toInt
  · rw [am_swt_out ts z hlim (by omega)] at k1
    exact lv_tableOut hx hb hdec hh ht k1
  · obtain ⟨oo, t, g1, g2, g3⟩ := am_sws_at offs.toList ts z.toInt (x.toInt - z.toInt).toNat h7 (by omega)
    rw [am_swt_in ts z (x.toInt - z.toInt).toNat hlim (by omega) g2] at k1
    exact lv_tableIn hx hb hdec (by omega) (by omega) (by simpa using g1) g3 k1
theorem sd_lookup {dd : Int} {pss : Array (Int × Int)} (E : sm_env N) (E2 : sm_env2 N) (F : sm_fx N p l R s m meth c q (d + 1) Gs) (hnL : q.2.2.1 = nL) (ho : ow o = q.1.cls) (hdec : decode q.2.1 pc = .ok (.lookupswitch dd pss, len)) (hchk : (decide ((pc : Int) + dd = (r1 : Int)) && (am_sws2 pc z.toInt pss.toList ts && (decide (z.toInt + ts.length ≤ 2147483647) && (pss.toList.zip (pss.toList.drop 1)).all (fun (a, next) => a.1 < next.1)))) = true) (hst : am_swi z ts r1 ls st G = some (ps, S)) (k : sm_KK N Gs nL p l e R s m args below meth c post d hs S) : sm_V N Gs nL p l e R s m args below meth c (sm_Z N Gs below s post) pc ls st G := by
  have hx := F.1
  have hb := F.2.2.2.2.1
  have hown := F.2.2.2.1
  have hW := F.2.2.1
  obtain ⟨h1, h2⟩ := bb hchk
  obtain ⟨h3, h4⟩ := bb h2
  obtain ⟨h5, h6⟩ := bb h4
  have ht := of_decide_eq_true h1
  have hlim := of_decide_eq_true h5
  exact sv_swi (fun H locs cells slots lsR rest x k1 => lv_lookup hx hb hdec h6 rfl (am_sws2_off _ ts z h3 hlim ht) k1) hst (sm_KK_K k)
theorem sd_getf (E : sm_env N) (E2 : sm_env2 N) (F : sm_fx N p l R s m meth c q (d + 1) Gs) (hnL : q.2.2.1 = nL) (ho : ow o = q.1.cls) (hdec : decode q.2.1 pc = .ok (.getfield k0, len)) (hchk : (Nat.beq len 3 && ((Nat.blt r3 2 && (Nat.beq r3 (am_ft r1 r2) && (Nat.blt r1 13 && am_hasF o k0 r1 r2))) || (Nat.beq o 17 && ((Nat.beq k0 9 && Nat.beq r3 2) || (Nat.beq k0 15 && Nat.beq r3 3))))) = true) (hst : am_getf r1 r2 r3 (pc + len) ls st G = some (ps, S)) (hp : am_all ps True) (k : sm_KK N Gs nL p l e R s m args below meth c post d hs S) : sm_V N Gs nL p l e R s m args below meth c (sm_Z N Gs below s post) pc ls st G := by
  have hx := F.1
  have hb := F.2.2.2.2.1
  have hown := F.2.2.2.1
  have hW := F.2.2.1
  obtain ⟨h1, h2⟩ := bb hchk
  obtain rfl := bn h1
  rcases bo h2 with h | h
  · obtain ⟨h3, h4⟩ := bb h
    obtain ⟨h5, h6⟩ := bb h4
    obtain ⟨h7, h8⟩ := bb h6
    have h7 := bl h7
    obtain ⟨v, hv, hk, hlink⟩ := sm_hasF h8
    have hic := sm_icok hv h7
    have hlay := sm_lays (args := args) E2 hW hv r2 hk
    refine sv_getf (own := q.1.cls) (index := k0) E hW hx hb hown hv h7 hk hic.2.2.1 (hic.2.2.2 r2 hk) ?_ ?_ (bn h5) (bl h3) hdec hst hp (sm_KK_K k)
    · unfold u_lay at hlay
      split at hlay
      · exact Or.inr hlay
      · exact Or.inl hlay
    · rcases hlink with ⟨i, hi⟩ | ⟨i, hi⟩
      · have hw := sm_wt (args := args) E2 hW hi rfl
        rw [ho] at hw
        exact Or.inl hw
      · have hw := sm_wt (args := args) E2 hW hi rfl
        rw [ho] at hw
        exact Or.inr ⟨_, hw⟩
  · obtain ⟨h3, h4⟩ := bb h
    obtain rfl := bn h3
    rcases bo h4 with h | h
    · obtain ⟨h5, h6⟩ := bb h
      obtain rfl := bn h5
      obtain rfl := bn h6
      have hw : (Cond.fieldLink (ow 17) 9 "java/lang/String" "value" "[B").before args s = true := sm_wt (i := 1894) E2 hW (by decide +kernel) rfl
      rw [ho] at hw
      exact sv_getS E hW hx hb hown hw (Or.inl ⟨rfl, rfl, rfl⟩) hdec hst hp (sm_KK_K k)
    · obtain ⟨h5, h6⟩ := bb h
      obtain rfl := bn h5
      obtain rfl := bn h6
      have hw : (Cond.fieldLink (ow 17) 15 "java/lang/String" "coder" "B").before args s = true := sm_wt (i := 1895) E2 hW (by decide +kernel) rfl
      rw [ho] at hw
      exact sv_getS E hW hx hb hown hw (Or.inr ⟨rfl, rfl, rfl⟩) hdec hst hp (sm_KK_K k)
theorem mi_len : mi_l.length = 312 := by decide +kernel
theorem mi_311 {q : mi_T} (h : mi_l[311]? = some q) : q.2.2.2.2.2 = 0 := by
  have h0 : (mi_l[311]?).map (fun q => q.2.2.2.2.2) = some 0 := by decide +kernel
  rw [h] at h0
  exact Option.some.inj h0
theorem mi_init {q : mi_T} (hq : mi_l[y]? = some q) (hk : q.2.2.2.2.2 = 2) : q.1.name = "<init>" := by
  have hlt : y < 312 := by
    have := (List.getElem?_eq_some_iff.mp hq).1
    rw [mi_len] at this
    exact this
  by_cases h : y < 311
  · obtain ⟨-, -, b, c, h3⟩ := mi_fact hq h
    unfold mp_c at h3
    rw [hk] at h3
    simp only [Bool.and_eq_true, decide_eq_true_eq] at h3
    exact h3.1.1.2
  · obtain rfl : y = 311 := by omega
    rw [mi_311 hq] at hk
    cases hk
theorem sd_putf (E : sm_env N) (E2 : sm_env2 N) (F : sm_fx N p l R s m meth c q (d + 1) Gs) (hnL : q.2.2.1 = nL) (ho : ow o = q.1.cls) (hq : mi_l[y]? = some q) (hdec : decode q.2.1 pc = .ok (.putfield k0, len)) (hchk : (Nat.beq len 3 && (Nat.beq r3 (am_ft r1 r2) && (Nat.blt r1 13 && (am_hasF0 o k0 r1 r2 && (match vwCl[r1]? with | some v => !(v.2.1 r2).2.2.2 || ((q.2.2.2.2.2 == 2) && Nat.beq r1 o) | none => false))))) = true) (hst : am_putf r1 r2 r3 (pc + len) ls st G = some (ps, S)) (hp : am_all ps True) (k : sm_KK N Gs nL p l e R s m args below meth c post d hs S) : sm_V N Gs nL p l e R s m args below meth c (sm_Z N Gs below s post) pc ls st G := by
  have hx := F.1
  have hb := F.2.2.2.2.1
  have hown := F.2.2.2.1
  have hW := F.2.2.1
  obtain ⟨h1, h2⟩ := bb hchk
  obtain rfl := bn h1
  obtain ⟨h3, h4⟩ := bb h2
  obtain ⟨h5, h6⟩ := bb h4
  obtain ⟨h7, h8⟩ := bb h6
  have h5 := bl h5
  have h3 := bn h3
  obtain ⟨v, hv, hk, i, hi⟩ := sm_hasF0 h7
  rw [hv] at h8
  have hic := sm_icok hv h5
  have hw := sm_wt (args := args) E2 hW hi rfl
  rw [ho] at hw
  have hk' : r2 < am_cn r1 := by rw [← hic.2.2.1]; exact hk
  have htk := sm_tk_of h5 hk'
  refine sv_putf (own := q.1.cls) (index := k0) (ty0 := sm_ty r1) E hW hx hb hown hv h5 hk hic.2.2.1 (hic.2.2.2 r2 hk) (sm_lays E2 hW hv) (sm_tyok hv).1 (sm_tyok hv).2 hw ?_ h3 (fun e => htk.1 (by rw [← h3]; exact e)) (fun e => htk.2.1 (by rw [← h3]; exact e)) hdec hst hp (sm_KK_K k)
  intro hf
  simp only [hf, Bool.not_true, Bool.false_or, Bool.and_eq_true, beq_iff_eq] at h8
  obtain ⟨h9, h10⟩ := h8
  have h10 := bn h10
  refine ⟨by rw [F.2.2.2.2.2.2.2.2.1]; exact mi_init hq h9, ?_⟩
  rw [hic.2.2.2 r2 hk, ← ho, ← h10]
  have h11 := ow_cl r1 h5
  rw [hv] at h11
  exact Option.some.inj h11
theorem sd_newa {a : ArrayType} (E : sm_env N) (E2 : sm_env2 N) (F : sm_fx N p l R s m meth c q (d + 1) Gs) (hnL : q.2.2.1 = nL) (ho : ow o = q.1.cls) (hdec : decode q.2.1 pc = .ok (.newarray a, len)) (hchk : (Nat.beq len 2 && (decide (a = sm_atp r1) && (Nat.beq r1 100 || (Nat.beq r1 101 || Nat.beq r1 105)))) = true) (hst : am_newa r1 (pc + len) ls st G = some (ps, S)) (hp : am_all ps True) (k : sm_KK N Gs nL p l e R s m args below meth c post d hs S) : sm_V N Gs nL p l e R s m args below meth c (sm_Z N Gs below s post) pc ls st G := by
  have hx := F.1
  have hb := F.2.2.2.2.1
  have hown := F.2.2.2.1
  have hW := F.2.2.1
  obtain ⟨h1, h2⟩ := bb hchk
  obtain rfl := bn h1
  obtain ⟨h3, h4⟩ := bb h2
  obtain rfl := of_decide_eq_true h3
  have hRc := F.2.2.2.2.2.2.2.2.2.2.2.2.1
  have hRs := F.2.2.2.2.2.2.2.2.2.2.2.2.2
  rcases bo h4 with h | h
  · obtain rfl := bn h
    have hw : (Cond.arrayClass .int).before args s = true := sm_wt (i := 143) E2 hW (by decide +kernel) rfl
    exact sv_newa E hW hx hb hRc hRs (Or.inl rfl) hw hdec hst hp (sm_KK_K k)
  rcases bo h with h | h
  · obtain rfl := bn h
    have hw : (Cond.arrayClass .long).before args s = true := sm_wt (i := 1431) E2 hW (by decide +kernel) rfl
    exact sv_newa E hW hx hb hRc hRs (Or.inr (Or.inl rfl)) hw hdec hst hp (sm_KK_K k)
  · obtain rfl := bn h
    have hw : (Cond.arrayClass .byte).before args s = true := sm_wt (i := 71) E2 hW (by decide +kernel) rfl
    exact sv_newa E hW hx hb hRc hRs (Or.inr (Or.inr rfl)) hw hdec hst hp (sm_KK_K k)
theorem sd_anew (E : sm_env N) (E2 : sm_env2 N) (F : sm_fx N p l R s m meth c q (d + 1) Gs) (hnL : q.2.2.1 = nL) (ho : ow o = q.1.cls) (hdec : decode q.2.1 pc = .ok (.anewarray k0, len)) (hchk : (Nat.beq len 3 && ((Nat.beq r1 103 && am_has3 cl_l o k0 1) || (Nat.beq r1 104 && am_has3 cl_l o k0 7))) = true) (hst : am_newa r1 (pc + len) ls st G = some (ps, S)) (hp : am_all ps True) (k : sm_KK N Gs nL p l e R s m args below meth c post d hs S) : sm_V N Gs nL p l e R s m args below meth c (sm_Z N Gs below s post) pc ls st G := by
  have hx := F.1
  have hb := F.2.2.2.2.1
  have hown := F.2.2.2.1
  have hW := F.2.2.1
  obtain ⟨h1, h2⟩ := bb hchk
  obtain rfl := bn h1
  have hRc := F.2.2.2.2.2.2.2.2.2.2.2.2.1
  have hRs := F.2.2.2.2.2.2.2.2.2.2.2.2.2
  rcases bo h2 with h | h
  · obtain ⟨h3, h4⟩ := bb h
    obtain rfl := bn h3
    obtain ⟨v, hv, i, hi⟩ := sm_has3c h4
    have hv1 : v.1 = "MoodBelfries$Diary" := by cases hv; rfl
    have hw := sm_wt (args := args) E2 hW hi rfl
    rw [ho, hv1] at hw
    have hov : (Cond.arrayOver (.object "MoodBelfries$Diary")).before args s = true := sm_wt (i := 284) E2 hW (by decide +kernel) rfl
    exact sv_anew E hW hx hb hown hRc hRs (Or.inl rfl) rfl hw hov hdec hst hp (sm_KK_K k)
  · obtain ⟨h3, h4⟩ := bb h
    obtain rfl := bn h3
    obtain ⟨v, hv, i, hi⟩ := sm_has3c h4
    have hv1 : v.1 = "MoodBelfries$State" := by cases hv; rfl
    have hw := sm_wt (args := args) E2 hW hi rfl
    rw [ho, hv1] at hw
    have hov : (Cond.arrayOver (.object "MoodBelfries$State")).before args s = true := sm_wt (i := 271) E2 hW (by decide +kernel) rfl
    exact sv_anew E hW hx hb hown hRc hRs (Or.inr rfl) rfl hw hov hdec hst hp (sm_KK_K k)
theorem sd_mna {n : Nat} (E : sm_env N) (E2 : sm_env2 N) (F : sm_fx N p l R s m meth c q (d + 1) Gs) (hnL : q.2.2.1 = nL) (ho : ow o = q.1.cls) (hdec : decode q.2.1 pc = .ok (.multianewarray k0 n, len)) (hchk : (Nat.beq len 4 && (Nat.beq n 2 && (Nat.beq o 12 && Nat.beq k0 26))) = true) (hst : am_mna (pc + len) ls st G = some (ps, S)) (hp : am_all ps True) (k : sm_KK N Gs nL p l e R s m args below meth c post d hs S) : sm_V N Gs nL p l e R s m args below meth c (sm_Z N Gs below s post) pc ls st G := by
  have hx := F.1
  have hb := F.2.2.2.2.1
  have hown := F.2.2.2.1
  have hW := F.2.2.1
  obtain ⟨h1, h2⟩ := bb hchk
  obtain rfl := bn h1
  obtain ⟨h3, h4⟩ := bb h2
  obtain ⟨h5, h6⟩ := bb h4
  obtain rfl := bn h3
  obtain rfl := bn h5
  obtain rfl := bn h6
  have hRc := F.2.2.2.2.2.2.2.2.2.2.2.2.1
  have hRs := F.2.2.2.2.2.2.2.2.2.2.2.2.2
  have hw : (Cond.classLink (ow 12) 26 "[[I").before args s = true := sm_wt (i := 1270) E2 hW (by decide +kernel) rfl
  rw [ho] at hw
  have hov : (Cond.arrayOver (.array .int)).before args s = true := sm_wt (i := 1271) E2 hW (by decide +kernel) rfl
  have har : (Cond.arrayClass .int).before args s = true := sm_wt (i := 143) E2 hW (by decide +kernel) rfl
  exact sv_mna E hW hx hb hown hRc hRs hw hov har hdec hst hp (sm_KK_K k)
end
