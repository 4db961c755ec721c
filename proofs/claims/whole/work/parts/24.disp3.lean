/-! The dispatch: every instruction. -/
section
variable {N : sm_N} {Gs : am_G} {nL : Nat} {p : Program} {l : Launch} {e : Env} {R : Room} {s : State} {m : MethodId} {args : Array Value} {below : List Frame} {meth : Method} {c : Code}
variable {pc : Nat} {ls : am_L} {st : List Value} {G : am_G} {ps : List Prop} {S : am_S} {post : am_O → am_G → Prop} {q : mi_T} {d : Nat} {hs : List (Nat × Nat × Nat × Nat)}
variable {y o len r1 r2 r3 : Nat} {z : Int32} {ts : List Nat} {k0 : Nat}

theorem sm_step (E : sm_env N) (E2 : sm_env2 N) (F : sm_fx N p l R s m meth c q (d + 1) Gs) (hnL : q.2.2.1 = nL) (hhm : sm_hm q.1.cls args s q.2.2.2.2.1 hs) (hq : mi_l[y]? = some q) (ho : ow o = q.1.cls) {e0 : am_E}
    (hck : am_ck y o (am_tg q.2.2.2.1) (q.2.2.2.2.2 == 2) q.2.2.1 q.2.1 (pc, e0) = true) (hst : am_step e0 pc ls st G = some (ps, S)) (hp : am_all ps True) (k : sm_KK N Gs nL p l e R s m args below meth c post d hs S) : sm_V N Gs nL p l e R s m args below meth c (sm_Z N Gs below s post) pc ls st G := by
  obtain ⟨i, len, r1, r2, r3, z, ts, dead⟩ := e0
  obtain ⟨hd0, hc0⟩ := bb hck
  have hdec : decode q.2.1 pc = .ok (i, len) := of_decide_eq_true hd0
  have hst1 : am_op i (pc + len) r1 r2 r3 z ts pc (am_clr dead ls) st G = some (ps, S) := hst
  have hchk : am_chk y o (am_tg q.2.2.2.1) (q.2.2.2.2.2 == 2) q.2.2.1 pc i len r1 r2 r3 z ts = true := hc0
  clear hd0 hc0 hck hst
  refine sv_clr (ks := dead) ?_
  generalize am_clr dead ls = ls1 at hst1 ⊢
  have hv := E.2.2.2.1
  have hx := F.1
  have hb := F.2.2.2.2.1
  have hown := F.2.2.2.1
  have hW := F.2.2.1
  cases i
  case iconst n =>
    obtain ⟨h1, h2⟩ := bb hchk
    obtain rfl := bn h1
    exact sv_pu (v := .int z) (fun H locs cells slots lsR rest k => lv_iconst hx hb hdec (of_decide_eq_true h2) k) hst1 (sm_KK_K k)
  case bipush n =>
    obtain ⟨h1, h2⟩ := bb hchk
    obtain rfl := bn h1
    exact sv_pu (v := .int z) (fun H locs cells slots lsR rest k => lv_bipush hx hb hdec (of_decide_eq_true h2) k) hst1 (sm_KK_K k)
  case sipush n =>
    obtain ⟨h1, h2⟩ := bb hchk
    obtain rfl := bn h1
    exact sv_pu (v := .int z) (fun H locs cells slots lsR rest k => lv_sipush hx hb hdec (of_decide_eq_true h2) k) hst1 (sm_KK_K k)
  case ldc k0 =>
    exact sd_ldc E E2 F hnL ho hdec hchk hst1 k
  case ldc_w k0 =>
    obtain ⟨h1, h2⟩ := bb hchk
    obtain rfl := bn h1
    obtain ⟨h3, h4⟩ := bb h2
    obtain rfl := bn h3
    obtain ⟨i, hi⟩ := sm_hasK h4
    have hw := sm_wt (args := args) E2 hW hi rfl
    rw [ho] at hw
    exact sv_pu (v := .int z) (fun H locs cells slots lsR rest k => lv_ldcw hx hb hown hw hdec k) hst1 (sm_KK_K k)
  case getstatic k0 =>
    exact sd_gets E E2 F hnL ho hdec hchk hst1 k
  case lconst n =>
    obtain ⟨h1, h2⟩ := bb hchk
    obtain rfl := bn h1
    exact sv_pu (v := .long z.toInt64) (fun H locs cells slots lsR rest k => lv_lconst hx hb hdec (of_decide_eq_true h2) k) hst1 (sm_KK_K k)
  case ldc2_w k0 =>
    obtain ⟨h1, h2⟩ := bb hchk
    obtain rfl := bn h1
    obtain ⟨i, hi⟩ := sm_hasL h2
    have hw := sm_wt (args := args) E2 hW hi rfl
    rw [ho] at hw
    exact sv_pu (v := .long z.toInt64) (fun H locs cells slots lsR rest k => lv_ldc2 hx hb hown hw hdec k) hst1 (sm_KK_K k)
  case iload k0 =>
    obtain ⟨h1, h2⟩ := bb hchk
    obtain rfl := bn h1
    obtain rfl := bn h2
    exact sv_ldI (fun H locs cells slots lsR rest x hl k => lv_iload hx hb hdec hl k) hst1 (sm_KK_K k)
  case iload_n k0 =>
    obtain ⟨h1, h2⟩ := bb hchk
    obtain rfl := bn h1
    exact sv_ldI (fun H locs cells slots lsR rest x hl k => lv_iload_n hx hb hdec (bn h2).symm hl k) hst1 (sm_KK_K k)
  case lload k0 =>
    obtain ⟨h1, h2⟩ := bb hchk
    obtain rfl := bn h1
    obtain rfl := bn h2
    exact sv_ldL (fun H locs cells slots lsR rest x hl k => lv_lload hx hb hdec hl k) hst1 (sm_KK_K k)
  case lload_n k0 =>
    obtain ⟨h1, h2⟩ := bb hchk
    obtain rfl := bn h1
    exact sv_ldL (fun H locs cells slots lsR rest x hl k => lv_lload_n hx hb hdec (bn h2).symm hl k) hst1 (sm_KK_K k)
  case aload k0 =>
    obtain ⟨h1, h2⟩ := bb hchk
    obtain rfl := bn h1
    obtain rfl := bn h2
    refine sv_ldA hv (fun H locs cells slots lsR rest v hrn hl k => ?_) hst1 (sm_KK_K k)
    rcases hrn with rfl | ⟨b, rfl⟩
    · exact lv_aloadN hx hb hdec hl k
    · exact lv_aload hx hb hdec hl k
  case aload_n k0 =>
    obtain ⟨h1, h2⟩ := bb hchk
    obtain rfl := bn h1
    refine sv_ldA hv (fun H locs cells slots lsR rest v hrn hl k => ?_) hst1 (sm_KK_K k)
    rcases hrn with rfl | ⟨b, rfl⟩
    · exact lv_aload_nN hx hb hdec (bn h2).symm hl k
    · exact lv_aload_n hx hb hdec (bn h2).symm hl k
  case istore k0 =>
    obtain ⟨h1, h2⟩ := bb hchk
    obtain rfl := bn h1
    obtain ⟨h3, h4⟩ := bb h2
    obtain rfl := bn h3
    exact sv_stI hv (by rw [← hnL]; exact bl h4) (fun H locs cells slots lsR rest x lv hl k => lv_istore hx hb hdec hl (by rw [← hnL]; exact bl h4) rfl k) hst1 (sm_KK_K k)
  case istore_n k0 =>
    obtain ⟨h1, h2⟩ := bb hchk
    obtain rfl := bn h1
    obtain ⟨h3, h4⟩ := bb h2
    exact sv_stI hv (by rw [← hnL]; exact bl h4) (fun H locs cells slots lsR rest x lv hl k => lv_istore_n hx hb hdec (bn h3).symm hl (by rw [← hnL]; exact bl h4) rfl k) hst1 (sm_KK_K k)
  case lstore k0 =>
    obtain ⟨h1, h2⟩ := bb hchk
    obtain rfl := bn h1
    obtain ⟨h3, h4⟩ := bb h2
    obtain rfl := bn h3
    exact sv_stL hv (by rw [← hnL]; exact bl h4) (fun H locs cells slots lsR rest x lv hl k => lv_lstore hx hb hdec hl (by rw [← hnL]; exact bl h4) rfl k) hst1 (sm_KK_K k)
  case lstore_n k0 =>
    obtain ⟨h1, h2⟩ := bb hchk
    obtain rfl := bn h1
    obtain ⟨h3, h4⟩ := bb h2
    exact sv_stL hv (by rw [← hnL]; exact bl h4) (fun H locs cells slots lsR rest x lv hl k => lv_lstore_n hx hb hdec (bn h3).symm hl (by rw [← hnL]; exact bl h4) rfl k) hst1 (sm_KK_K k)
  case astore k0 =>
    obtain ⟨h1, h2⟩ := bb hchk
    obtain rfl := bn h1
    obtain ⟨h3, h4⟩ := bb h2
    obtain rfl := bn h3
    have hi : r1 < nL := by rw [← hnL]; exact bl h4
    refine sv_stA hv hi (fun H locs cells slots lsR rest v lv hrn hl k => ?_) hst1 (sm_KK_K k)
    rcases hrn with rfl | ⟨b, rfl⟩
    · exact lv_astoreN hx hb hdec hl hi rfl k
    · exact lv_astore hx hb hdec hl hi rfl k
  case astore_n k0 =>
    obtain ⟨h1, h2⟩ := bb hchk
    obtain rfl := bn h1
    obtain ⟨h3, h4⟩ := bb h2
    have hi : r1 < nL := by rw [← hnL]; exact bl h4
    refine sv_stA hv hi (fun H locs cells slots lsR rest v lv hrn hl k => ?_) hst1 (sm_KK_K k)
    rcases hrn with rfl | ⟨b, rfl⟩
    · exact lv_astore_nN hx hb hdec (bn h3).symm hl hi rfl k
    · exact lv_astore_n hx hb hdec (bn h3).symm hl hi rfl k
  case iinc k0 n =>
    obtain ⟨h1, h2⟩ := bb hchk
    obtain rfl := bn h1
    obtain ⟨h3, h4⟩ := bb h2
    obtain ⟨h5, h6⟩ := bb h4
    obtain rfl := bn h3
    obtain rfl := of_decide_eq_true h6
    have hi : r1 < nL := by rw [← hnL]; exact bl h5
    exact sv_inc hv hi (fun H locs cells slots lsR rest x lv j hl hj k => lv_iinc hx hb hdec hl hj rfl hi rfl k) hst1 (sm_KK_K k)
  case iadd =>
    obtain rfl := bn hchk
    exact sv_ii (fun x y H locs cells slots lsR rest k => lv_iadd hx hb hdec k) hst1 (sm_KK_K k)
  case isub =>
    obtain rfl := bn hchk
    exact sv_ii (fun x y H locs cells slots lsR rest k => lv_isub hx hb hdec k) hst1 (sm_KK_K k)
  case imul =>
    obtain rfl := bn hchk
    exact sv_ii (fun x y H locs cells slots lsR rest k => lv_imul hx hb hdec k) hst1 (sm_KK_K k)
  case iand =>
    obtain rfl := bn hchk
    exact sv_ii (fun x y H locs cells slots lsR rest k => lv_iand hx hb hdec k) hst1 (sm_KK_K k)
  case ior =>
    obtain rfl := bn hchk
    exact sv_ii (fun x y H locs cells slots lsR rest k => lv_ior hx hb hdec k) hst1 (sm_KK_K k)
  case ixor =>
    obtain rfl := bn hchk
    exact sv_ii (fun x y H locs cells slots lsR rest k => lv_ixor hx hb hdec k) hst1 (sm_KK_K k)
  case ishl =>
    obtain rfl := bn hchk
    exact sv_ii (fun x y H locs cells slots lsR rest k => lv_ishl hx hb hdec k) hst1 (sm_KK_K k)
  case ishr =>
    obtain rfl := bn hchk
    exact sv_ii (fun x y H locs cells slots lsR rest k => lv_ishr hx hb hdec k) hst1 (sm_KK_K k)
  case iushr =>
    obtain rfl := bn hchk
    exact sv_ii (fun x y H locs cells slots lsR rest k => lv_iushr hx hb hdec rfl k) hst1 (sm_KK_K k)
  case idiv =>
    obtain rfl := bn hchk
    exact sv_iz (fun x y hne H locs cells slots lsR rest k => lv_idiv hx hb hdec hne k) hst1 hp (sm_KK_K k)
  case irem =>
    obtain rfl := bn hchk
    exact sv_iz (fun x y hne H locs cells slots lsR rest k => lv_irem hx hb hdec hne k) hst1 hp (sm_KK_K k)
  case ldiv =>
    obtain rfl := bn hchk
    exact sv_lz (fun x y hne H locs cells slots lsR rest k => lv_ldiv hx hb hdec hne k) hst1 hp (sm_KK_K k)
  case lrem =>
    obtain rfl := bn hchk
    exact sv_lz (fun x y hne H locs cells slots lsR rest k => lv_lrem hx hb hdec hne k) hst1 hp (sm_KK_K k)
  case ineg =>
    obtain rfl := bn hchk
    exact sv_i1 (fun x => rfl) (fun x H locs cells slots lsR rest k => lv_ineg hx hb hdec k) hst1 (sm_KK_K k)
  case i2l =>
    obtain rfl := bn hchk
    exact sv_i1 (fun x => rfl) (fun x H locs cells slots lsR rest k => lv_i2l hx hb hdec rfl k) hst1 (sm_KK_K k)
  case i2b =>
    obtain rfl := bn hchk
    exact sv_i1 (fun x => rfl) (fun x H locs cells slots lsR rest k => lv_i2b hx hb hdec rfl k) hst1 (sm_KK_K k)
  case i2c =>
    obtain rfl := bn hchk
    exact sv_i1 (fun x => rfl) (fun x H locs cells slots lsR rest k => lv_i2c hx hb hdec rfl k) hst1 (sm_KK_K k)
  case ladd =>
    obtain rfl := bn hchk
    exact sv_ll (fun x y => rfl) (fun x y H locs cells slots lsR rest k => lv_ladd hx hb hdec k) hst1 (sm_KK_K k)
  case lmul =>
    obtain rfl := bn hchk
    exact sv_ll (fun x y => rfl) (fun x y H locs cells slots lsR rest k => lv_lmul hx hb hdec k) hst1 (sm_KK_K k)
  case lcmp =>
    obtain rfl := bn hchk
    exact sv_ll (fun x y => rfl) (fun x y H locs cells slots lsR rest k => W.lcmp hx hb hdec k) hst1 (sm_KK_K k)
  case lshl =>
    obtain rfl := bn hchk
    exact sv_li (fun x y H locs cells slots lsR rest k => lv_lshl hx hb hdec rfl k) hst1 (sm_KK_K k)
  case dup =>
    obtain rfl := bn hchk
    exact sv_dup hv (fun v hc H locs cells slots lsR rest k => lv_dup hx hb hdec hc k) hst1 (sm_KK_K k)
  case pop =>
    obtain rfl := bn hchk
    exact sv_pop hv (fun v hc H locs cells slots lsR rest k => lv_pop hx hb hdec hc k) hst1 (sm_KK_K k)
  case dup2 =>
    obtain rfl := bn hchk
    exact sv_dup2 hv (fun v w hc hd H locs cells slots lsR rest k => lv_dup2_11 hx hb hdec hc hd k) hst1 (sm_KK_K k)
  case ifCond cd off =>
    obtain ⟨h1, h2⟩ := bb hchk
    obtain rfl := bn h1
    have ht := of_decide_eq_true h2
    cases cd
    case eq => exact sv_if1 (cd := .eq) (t := r1) (fun H locs cells slots lsR rest x kt kf => lv_if_eq hx hb hdec ht kt kf) hst1 (sm_KK_K k)
    case ne => exact sv_if1 (cd := .ne) (t := r1) (fun H locs cells slots lsR rest x kt kf => lv_if_ne hx hb hdec ht kt (fun h => kf (fun hn => hn h))) hst1 (sm_KK_K k)
    case lt => exact sv_if1 (cd := .lt) (t := r1) (fun H locs cells slots lsR rest x kt kf => lv_if_lt hx hb hdec ht kt kf) hst1 (sm_KK_K k)
    case ge => exact sv_if1 (cd := .ge) (t := r1) (fun H locs cells slots lsR rest x kt kf => lv_if_ge hx hb hdec ht kt kf) hst1 (sm_KK_K k)
    case gt => exact sv_if1 (cd := .gt) (t := r1) (fun H locs cells slots lsR rest x kt kf => lv_if_gt hx hb hdec ht kt kf) hst1 (sm_KK_K k)
    case le => exact sv_if1 (cd := .le) (t := r1) (fun H locs cells slots lsR rest x kt kf => lv_if_le hx hb hdec ht kt kf) hst1 (sm_KK_K k)
  case if_icmp cd off =>
    obtain ⟨h1, h2⟩ := bb hchk
    obtain rfl := bn h1
    have ht := of_decide_eq_true h2
    cases cd
    case eq => exact sv_if2 (cd := .eq) (t := r1) (fun H locs cells slots lsR rest x y kt kf => lv_icmp_eq hx hb hdec ht kt kf) hst1 (sm_KK_K k)
    case ne => exact sv_if2 (cd := .ne) (t := r1) (fun H locs cells slots lsR rest x y kt kf => lv_icmp_ne hx hb hdec ht kt (fun h => kf (fun hn => hn h))) hst1 (sm_KK_K k)
    case lt => exact sv_if2 (cd := .lt) (t := r1) (fun H locs cells slots lsR rest x y kt kf => lv_icmp_lt hx hb hdec ht kt kf) hst1 (sm_KK_K k)
    case ge => exact sv_if2 (cd := .ge) (t := r1) (fun H locs cells slots lsR rest x y kt kf => lv_icmp_ge hx hb hdec ht kt kf) hst1 (sm_KK_K k)
    case gt => exact sv_if2 (cd := .gt) (t := r1) (fun H locs cells slots lsR rest x y kt kf => lv_icmp_gt hx hb hdec ht kt kf) hst1 (sm_KK_K k)
    case le => exact sv_if2 (cd := .le) (t := r1) (fun H locs cells slots lsR rest x y kt kf => lv_icmp_le hx hb hdec ht kt kf) hst1 (sm_KK_K k)
  case goto off =>
    obtain ⟨h1, h2⟩ := bb hchk
    obtain rfl := bn h1
    exact sv_goto (fun H locs cells slots lsR rest k => lv_goto hx hb hdec (of_decide_eq_true h2) k) hst1 (sm_KK_K k)
  case tableswitch a b c2 d2 =>
    exact sd_table E E2 F hnL ho hdec hchk hst1 k
  case lookupswitch a b =>
    exact sd_lookup E E2 F hnL ho hdec hchk hst1 k
  case getfield k0 =>
    exact sd_getf E E2 F hnL ho hdec hchk hst1 hp k
  case putfield k0 =>
    exact sd_putf E E2 F hnL ho hq hdec hchk hst1 hp k
  case iaload =>
    obtain rfl := bn hchk
    exact sv_iald E hW hx hb hdec hst1 hp (sm_KK_K k)
  case baload =>
    obtain rfl := bn hchk
    exact sv_bald E hW hx hb hdec hst1 hp (sm_KK_K k)
  case laload =>
    obtain rfl := bn hchk
    exact sv_lald E hW hx hb hdec hst1 hp (sm_KK_K k)
  case aaload =>
    obtain rfl := bn hchk
    exact sv_aald E hW hx hb hdec hst1 hp (sm_KK_K k)
  case iastore =>
    obtain rfl := bn hchk
    exact sv_iast E hW hx hb hdec hst1 hp (sm_KK_K k)
  case bastore =>
    obtain rfl := bn hchk
    exact sv_bast E hW hx hb hdec hst1 hp (sm_KK_K k)
  case lastore =>
    obtain rfl := bn hchk
    exact sv_last E hW hx hb hdec hst1 hp (sm_KK_K k)
  case aastore =>
    obtain rfl := bn hchk
    exact sv_aast E hW hx hb hdec hst1 hp (sm_KK_K k)
  case arraylength =>
    obtain rfl := bn hchk
    exact sv_alen E hW hx hb hdec hst1 hp (sm_KK_K k)
  case newarray a =>
    exact sd_newa E E2 F hnL ho hdec hchk hst1 hp k
  case anewarray k0 =>
    exact sd_anew E E2 F hnL ho hdec hchk hst1 hp k
  case multianewarray k0 n =>
    exact sd_mna E E2 F hnL ho hdec hchk hst1 hp k
  case new k0 =>
    rcases bo hchk with h | h
    · exact sd_new0 E E2 F hnL ho hdec h hst1 hp k
    rcases bo h with h | h
    · obtain ⟨h1, h2⟩ := bb h
      obtain ⟨h3, h4⟩ := bb h2
      obtain ⟨h5, h6⟩ := bb h4
      obtain rfl := bn h1
      obtain rfl := bn h3
      obtain rfl := bn h5
      obtain rfl := bn h6
      exact sd_throw139 (r2 := r2) E E2 F hnL ho hq hdec hst1 hp k
    · obtain ⟨h1, h2⟩ := bb h
      obtain ⟨h3, h4⟩ := bb h2
      obtain ⟨h5, h6⟩ := bb h4
      obtain rfl := bn h1
      obtain rfl := bn h3
      obtain rfl := bn h5
      obtain rfl := bn h6
      exact sd_throw140 (r2 := r2) E E2 F hnL ho hq hdec hst1 hp k
  case ireturn =>
    exact sd_ire E E2 F hnL ho hdec hchk hst1 hp k
  case lreturn =>
    exact sd_lre E E2 F hnL ho hdec hchk hst1 k
  case return_ =>
    exact sd_vre E E2 F hnL ho hdec hchk hst1 k
  case invokestatic k0 =>
    exact sd_invS E E2 F hnL ho hhm hdec hchk hst1 hp k
  case invokevirtual k0 =>
    exact sd_invV E E2 F hnL ho hhm hdec hchk hst1 hp k
  case invokespecial k0 =>
    exact sd_invI E E2 F hnL ho hhm hdec hchk hst1 hp k
  all_goals cases hst1
end
