/-! A work's reading, the object's side: one step, the whole. -/
section
variable {G G' : am_G} {d B n o p b lv : Nat} {t : Nat → Nat} {ps body : PWk} {R : List Et} {post : am_O → am_G → Prop}
def pag (t : Nat → Nat) (n lv : Nat) (body : PWk) (p p1 b : Nat) : PR (Nat × List Et) := if lv = 0 then .inl (3, p) else pb (pnum t n p1 0 61) (fun x => pb (psgn t n x.2 91) (fun q => pb (body q (b + 1)) (fun y => .inr (y.1, (7, x.1, b + 1 + y.2.length) :: y.2))))
theorem ct97 {p1 : Nat} (hlv : o + lv = 6) (hg : Gw0 t n B body) (hn : n ≤ 150) (h : lv = 0 ∨ CB (d + 7) B t n (o + 1) body) (hsh : Sh G) (hW : Wt G 100004 42 (cx tx1)) (hT : rT G t n p1 o) (e4 : am_gI G 1 4 = wn p) (h3 : am_gI G 27 3 = wn (b + 1)) (f28 : am_gI G 28 b = wn 7) (hb : 3 * (b + 1) ≤ p1)
    (kok : ∀ q R G', pag t n lv body p p1 b = .inr (q, R) → rT G' t n q o → am_gI G' 27 3 = wn (b + R.length) → rPl G' b R → Kp (PSc b) G G' → post (.inl (some (.int (wn 1)))) G')
    (kbad : ∀ k w G', pag t n lv body p p1 b = .inl (k, w) → fT G' k w → Kp (PSc b) G G' → post (.inl (some (.int (wn 0)))) G') : am_C am_T (d + 8) 97 [.ref 27, .ref 1, .int (wn B), .int (wn b)] G post := by
  have hc := am_C_one am_T (d + 7)
  have hpn := hT.2.2.1
  have hb150 : b < 150 := by omega
  unfold pag at kok kbad
  rw [we97]
  simp +decide (disch := omega) only [↓wm1, wb97_0 hc, w0, w1, w60, w91, rI_wI, rP_wI, rL_wI, rI_wR, rP_wR, is_wI, is_wR, ia_wI, ia_wR, ow_wI, ow_wR, wn_add, wn_mul, wn_cl, wn_le, wn_lt, wn_inj, wn_ne1, wn_1ne, wn_gt1, wn_le1, nb0, nb1, am_kt, am_rt, List.cons_append, List.nil_append, true_and, and_true, not_true_eq_false, not_false_eq_true, imp_f, imp_t, implies_true, Nat.zero_add, if_true, if_false, false_and, and_false, fC hsh]
  refine ct77 hsh hT e4 (fun G1 ho t1 k1 => ?_) (fun G1 ho f1 k1 => ?_)
  · have c2 : ¬ lv = 0 := by omega
    rw [if_neg c2] at kok kbad
    have s1 := hsh.kp k1
    simp +decide (disch := omega) only [↓wm1, wb97_4 hc, wb97_9 hc, w0, w1, w60, w91, rI_wI, rP_wI, rL_wI, rI_wR, rP_wR, is_wI, is_wR, ia_wI, ia_wR, ow_wI, ow_wR, wn_add, wn_mul, wn_cl, wn_le, wn_lt, wn_inj, wn_ne1, wn_1ne, wn_gt1, wn_le1, nb0, nb1, am_kt, am_rt, List.cons_append, List.nil_append, true_and, and_true, not_true_eq_false, not_false_eq_true, imp_f, imp_t, implies_true, Nat.zero_add, if_true, if_false, false_and, and_false, fC s1, f27 s1]
    refine ct73 (lo := 0) (hi := 61) s1 t1 rfl (by decide) (by decide) (fun v p2 G2 e2 t2 q2 k2 => ?_) (fun k G2 e2 f2 k2 => ?_)
    · have s2 := s1.kp k2
      obtain ⟨-, -, a3, a4, a5, a6⟩ := pnum_in hpn e2
      rw [e2] at kok kbad
      have kw : Kp (fun a i => a = 29 ∧ i = b) G2 (am_wI G2 29 b (wn v)) := (Kp.refl G2).wI ⟨rfl, rfl⟩ _
      have s3 := s2.kp kw
      have t3 := t2.kp kw (fun a i z => by omega)
      have kk3 : Kp (PSc b) G (am_wI G2 29 b (wn v)) := ((T1.psc k1).trans (T1.psc k2)).trans (kw.mono (fun a i z => by unfold PSc; omega))
      have v29 : am_gI (am_wI G2 29 b (wn v)) 29 b = wn v := by rw [rI_wI, if_pos ⟨rfl, rfl⟩]
      simp +decide (disch := omega) only [↓wm1, wb97_21 hc, w0, w1, w60, w91, rI_wI, rP_wI, rL_wI, rI_wR, rP_wR, is_wI, is_wR, ia_wI, ia_wR, ow_wI, ow_wR, wn_add, wn_mul, wn_cl, wn_le, wn_lt, wn_inj, wn_ne1, wn_1ne, wn_gt1, wn_le1, nb0, nb1, am_kt, am_rt, List.cons_append, List.nil_append, true_and, and_true, not_true_eq_false, not_false_eq_true, imp_f, imp_t, implies_true, Nat.zero_add, if_true, if_false, false_and, and_false, fC s2, f27 s2, hb150]
      generalize am_wI G2 29 b (wn v) = G3 at kw s3 t3 kk3 v29 ⊢
      simp +decide (disch := omega) only [↓wm1, wb97_32 hc, w0, w1, w60, w91, rI_wI, rP_wI, rL_wI, rI_wR, rP_wR, is_wI, is_wR, ia_wI, ia_wR, ow_wI, ow_wR, wn_add, wn_mul, wn_cl, wn_le, wn_lt, wn_inj, wn_ne1, wn_1ne, wn_gt1, wn_le1, nb0, nb1, am_kt, am_rt, List.cons_append, List.nil_append, true_and, and_true, not_true_eq_false, not_false_eq_true, imp_f, imp_t, implies_true, Nat.zero_add, if_true, if_false, false_and, and_false, fC s3]
      refine ct72 s3 t3 (by decide) (fun q4 G4 e4 t4 k4 => ?_) (fun G4 e4 f4 k4 => ?_)
      · have s4 := s3.kp k4
        obtain ⟨-, -, -, b4, b5, b6⟩ := psgn_in e4
        simp only [pb, e4] at kok kbad
        have kk4 := kk3.trans (T1.psc k4)
        have c4 : am_gI G4 27 3 = wn (b + 1) := by rw [k4.i (by unfold T1; omega), kw.i (by omega), k2.i (by unfold T1; omega), k1.i (by unfold T1; omega)]; exact h3
        simp +decide (disch := omega) only [↓wm1, wb97_38 hc, wb97_41 hc, w0, w1, w60, w91, rI_wI, rP_wI, rL_wI, rI_wR, rP_wR, is_wI, is_wR, ia_wI, ia_wR, ow_wI, ow_wR, wn_add, wn_mul, wn_cl, wn_le, wn_lt, wn_inj, wn_ne1, wn_1ne, wn_gt1, wn_le1, nb0, nb1, am_kt, am_rt, List.cons_append, List.nil_append, true_and, and_true, not_true_eq_false, not_false_eq_true, imp_f, imp_t, implies_true, Nat.zero_add, if_true, if_false, false_and, and_false, fC s4]
        refine h.resolve_left c2 G4 q4 (b + 1) _ s4 (hW.psc kk4) t4 c4 (by omega) (fun q5 R5 G5 e5 t5 c5 l5 k5 => ?_) (fun k w G5 e5 f5 k5 => ?_)
        · have s5 := s4.kp k5
          simp only [e5] at kok kbad
          have kk5 := kk4.trans (PSc.up k5 (by omega))
          have kv : Kp (fun a i => a = 30 ∧ i = b) G5 (am_wI G5 30 b (wn (b + 1 + R5.length))) := (Kp.refl G5).wI ⟨rfl, rfl⟩ _
          have s6 := s5.kp kv
          have t6 := t5.kp kv (fun a i z => by omega)
          have kk6 : Kp (PSc b) G (am_wI G5 30 b (wn (b + 1 + R5.length))) := kk5.trans (kv.mono (fun a i z => by unfold PSc; omega))
          have v30 : am_gI (am_wI G5 30 b (wn (b + 1 + R5.length))) 30 b = wn (b + 1 + R5.length) := by rw [rI_wI, if_pos ⟨rfl, rfl⟩]
          simp +decide (disch := omega) only [↓wm1, wb97_48 hc, wb97_53 hc, w0, w1, w60, w91, rI_wI, rP_wI, rL_wI, rI_wR, rP_wR, is_wI, is_wR, ia_wI, ia_wR, ow_wI, ow_wR, wn_add, wn_mul, wn_cl, wn_le, wn_lt, wn_inj, wn_ne1, wn_1ne, wn_gt1, wn_le1, nb0, nb1, am_kt, am_rt, List.cons_append, List.nil_append, true_and, and_true, not_true_eq_false, not_false_eq_true, imp_f, imp_t, implies_true, Nat.zero_add, if_true, if_false, false_and, and_false, fC s5, f27 s5, hb150, c5]
          generalize am_wI G5 30 b (wn (b + 1 + R5.length)) = G6 at kv s6 t6 kk6 v30 ⊢
          refine ct78 s6 t6 (fun G7 t7 k7 => ?_)
          simp +decide (disch := omega) only [↓wm1, wb97_67 hc, w0, w1, w60, w91, rI_wI, rP_wI, rL_wI, rI_wR, rP_wR, is_wI, is_wR, ia_wI, ia_wR, ow_wI, ow_wR, wn_add, wn_mul, wn_cl, wn_le, wn_lt, wn_inj, wn_ne1, wn_1ne, wn_gt1, wn_le1, nb0, nb1, am_kt, am_rt, List.cons_append, List.nil_append, true_and, and_true, not_true_eq_false, not_false_eq_true, imp_f, imp_t, implies_true, Nat.zero_add, if_true, if_false, false_and, and_false]
          refine kok _ _ G7 rfl t7 ?_ (fun i e he => ?_) (kk6.trans (T1.psc k7))
          · rw [k7.i (by unfold T1; omega), kv.i (by omega), c5, List.length_cons]; congr 1; omega
          · rcases i with _ | i
            · simp at he
              rw [← he]
              refine ⟨?_, ?_, fun _ => ?_⟩
              · show am_gI G7 28 (b + 0) = wn 7
                rw [Nat.add_zero, k7.i (by unfold T1; omega), kv.i (by omega), k5.i (by unfold PSc; omega), k4.i (by unfold T1; omega), kw.i (by omega), k2.i (by unfold T1; omega), k1.i (by unfold T1; omega)]; exact f28
              · show am_gI G7 29 (b + 0) = wn v
                rw [Nat.add_zero, k7.i (by unfold T1; omega), kv.i (by omega), k5.i (by unfold PSc; omega), k4.i (by unfold T1; omega)]; exact v29
              · show am_gI G7 30 (b + 0) = wn (b + 1 + R5.length)
                rw [Nat.add_zero, k7.i (by unfold T1; omega)]; exact v30
            · simp at he
              have := l5 i e he
              rw [show b + 1 + i = b + (i + 1) by omega] at this
              rw [k7.i (by unfold T1; omega), k7.i (by unfold T1; omega), k7.i (by unfold T1; omega), kv.i (by omega), kv.i (by omega), kv.i (by omega)]
              exact this
        · simp only [e5] at kok kbad
          simp +decide (disch := omega) only [↓wm1, wb97_48 hc, wb97_51 hc, w0, w1, w60, w91, rI_wI, rP_wI, rL_wI, rI_wR, rP_wR, is_wI, is_wR, ia_wI, ia_wR, ow_wI, ow_wR, wn_add, wn_mul, wn_cl, wn_le, wn_lt, wn_inj, wn_ne1, wn_1ne, wn_gt1, wn_le1, nb0, nb1, am_kt, am_rt, List.cons_append, List.nil_append, true_and, and_true, not_true_eq_false, not_false_eq_true, imp_f, imp_t, implies_true, Nat.zero_add, if_true, if_false, false_and, and_false]
          exact kbad _ _ G5 rfl f5 (kk4.trans (PSc.up k5 (by omega)))
      · simp only [pb, e4] at kok kbad
        simp +decide (disch := omega) only [↓wm1, wb97_38 hc, wb97_51 hc, w0, w1, w60, w91, rI_wI, rP_wI, rL_wI, rI_wR, rP_wR, is_wI, is_wR, ia_wI, ia_wR, ow_wI, ow_wR, wn_add, wn_mul, wn_cl, wn_le, wn_lt, wn_inj, wn_ne1, wn_1ne, wn_gt1, wn_le1, nb0, nb1, am_kt, am_rt, List.cons_append, List.nil_append, true_and, and_true, not_true_eq_false, not_false_eq_true, imp_f, imp_t, implies_true, Nat.zero_add, if_true, if_false, false_and, and_false]
        exact kbad _ _ G4 rfl f4 (kk3.trans (T1.psc k4))
    · have s2 := s1.kp k2
      rw [e2] at kok kbad
      have kw : Kp (fun a i => a = 29 ∧ i = b) G2 (am_wI G2 29 b mm) := (Kp.refl G2).wI ⟨rfl, rfl⟩ _
      simp +decide (disch := omega) only [↓wm1, wb97_21 hc, wb97_51 hc, w0, w1, w60, w91, rI_wI, rP_wI, rL_wI, rI_wR, rP_wR, is_wI, is_wR, ia_wI, ia_wR, ow_wI, ow_wR, wn_add, wn_mul, wn_cl, wn_le, wn_lt, wn_inj, wn_ne1, wn_1ne, wn_gt1, wn_le1, nb0, nb1, am_kt, am_rt, List.cons_append, List.nil_append, true_and, and_true, not_true_eq_false, not_false_eq_true, imp_f, imp_t, implies_true, Nat.zero_add, if_true, if_false, false_and, and_false, fC s2, f27 s2, hb150]
      exact kbad _ _ _ rfl (f2.kp kw (by rintro i ⟨z, -⟩; omega)) (((T1.psc k1).trans (T1.psc k2)).trans (kw.mono (fun a i z => by unfold PSc; omega)))
  · have c2 : lv = 0 := by omega
    rw [if_pos c2] at kok kbad
    simp +decide (disch := omega) only [↓wm1, wb97_4 hc, wb97_7 hc, w0, w1, w60, w91, rI_wI, rP_wI, rL_wI, rI_wR, rP_wR, is_wI, is_wR, ia_wI, ia_wR, ow_wI, ow_wR, wn_add, wn_mul, wn_cl, wn_le, wn_lt, wn_inj, wn_ne1, wn_1ne, wn_gt1, wn_le1, nb0, nb1, am_kt, am_rt, List.cons_append, List.nil_append, true_and, and_true, not_true_eq_false, not_false_eq_true, imp_f, imp_t, implies_true, Nat.zero_add, if_true, if_false, false_and, and_false]
    exact kbad _ _ G1 rfl f1 (T1.psc k1)
theorem CW96 (hlv : o + lv = 6) (hB : B ≤ 6) (hg : Gw0 t n B body) (hn : n ≤ 150) (h : lv = 0 ∨ CB (d + 7) B t n (o + 1) body) : CW (d + 9) B t n o (pst0 t n B lv body) := by
  intro G p b post hsh hW hT h3 hb kok kbad
  have hc := am_C_one am_T (d + 8)
  have hpn := hT.2.2.1
  have hb150 : b < 150 := by omega
  unfold pst0 at kok kbad
  rw [we96]
  simp +decide (disch := omega) only [↓wm1, wb96_0 hc, w0, w1, w5, w6, w7, w9, w150, rI_wI, rP_wI, rL_wI, rI_wR, rP_wR, is_wI, is_wR, ia_wI, ia_wR, ow_wI, ow_wR, wn_add, wn_mul, wn_cl, wn_le, wn_lt, wn_inj, wn_ne1, wn_1ne, wn_gt1, wn_le1, nb0, nb1, am_kt, am_rt, List.cons_append, List.nil_append, true_and, and_true, not_true_eq_false, not_false_eq_true, imp_f, imp_t, implies_true, Nat.zero_add, if_true, if_false, false_and, and_false, fC hsh]
  refine ct75 hsh hT hW (fun k G1 e1 t1 q1 k1 => ?_) (fun G1 e1 f1 k1 => ?_)
  · rw [ws_1] at e1
    obtain ⟨hk8, hw3⟩ := wi1_lt e1
    rw [wrd_len] at hw3
    have hl := lte_le (t := t) hpn
    have g0 := skb_ge t n (lte t n p)
    have s1 := hsh.kp k1
    have c1 : am_gI G1 27 3 = wn b := by rw [k1.i (by unfold T1; omega)]; exact h3
    simp only [e1] at kok kbad
    have kw : Kp (fun a i => (a = 27 ∧ i = 3) ∨ ((a = 28 ∨ a = 29) ∧ i = b)) G1 (am_wI (am_wI (am_wI G1 27 3 (wn (b + 1))) 28 b (wn k)) 29 b (wn 0)) := (((Kp.refl G1).wI (Or.inl ⟨rfl, rfl⟩) _).wI (Or.inr ⟨Or.inl rfl, rfl⟩) _).wI (Or.inr ⟨Or.inr rfl, rfl⟩) _
    have s2 := s1.kp kw
    have t2 := t1.kp kw (fun a i z => by omega)
    have q2 : am_gI (am_wI (am_wI (am_wI G1 27 3 (wn (b + 1))) 28 b (wn k)) 29 b (wn 0)) 1 4 = wn p := by rw [kw.i (by omega)]; exact q1
    have x3 : am_gI (am_wI (am_wI (am_wI G1 27 3 (wn (b + 1))) 28 b (wn k)) 29 b (wn 0)) 27 3 = wn (b + 1) := by rw [rI_wI, if_neg (by omega), rI_wI, if_neg (by omega), rI_wI, if_pos ⟨rfl, rfl⟩]
    have x28 : am_gI (am_wI (am_wI (am_wI G1 27 3 (wn (b + 1))) 28 b (wn k)) 29 b (wn 0)) 28 b = wn k := by rw [rI_wI, if_neg (by omega), rI_wI, if_pos ⟨rfl, rfl⟩]
    have x29 : am_gI (am_wI (am_wI (am_wI G1 27 3 (wn (b + 1))) 28 b (wn k)) 29 b (wn 0)) 29 b = wn 0 := by rw [rI_wI, if_pos ⟨rfl, rfl⟩]
    by_cases c7 : k = 7
    · rw [if_pos c7] at kok kbad
      subst c7
      simp +decide (disch := omega) only [↓wm1, wb96_6 hc, wb96_12 hc, wb96_24 hc, w0, w1, w5, w6, w7, w9, w150, rI_wI, rP_wI, rL_wI, rI_wR, rP_wR, is_wI, is_wR, ia_wI, ia_wR, ow_wI, ow_wR, wn_add, wn_mul, wn_cl, wn_le, wn_lt, wn_inj, wn_ne1, wn_1ne, wn_gt1, wn_le1, nb0, nb1, am_kt, am_rt, List.cons_append, List.nil_append, true_and, and_true, not_true_eq_false, not_false_eq_true, imp_f, imp_t, implies_true, Nat.zero_add, if_true, if_false, false_and, and_false, fC s1, f27 s1, c1, hb150]
      generalize am_wI (am_wI (am_wI G1 27 3 (wn (b + 1))) 28 b (wn 7)) 29 b (wn 0) = G2 at kw s2 t2 q2 x3 x28 x29 ⊢
      have kk2 : Kp (PSc b) G G2 := (T1.psc k1).trans (kw.mono (fun a i z => by unfold PSc; omega))
      simp +decide (disch := omega) only [↓wm1, wb96_62 hc, w0, w1, w5, w6, w7, w9, w150, rI_wI, rP_wI, rL_wI, rI_wR, rP_wR, is_wI, is_wR, ia_wI, ia_wR, ow_wI, ow_wR, wn_add, wn_mul, wn_cl, wn_le, wn_lt, wn_inj, wn_ne1, wn_1ne, wn_gt1, wn_le1, nb0, nb1, am_kt, am_rt, List.cons_append, List.nil_append, true_and, and_true, not_true_eq_false, not_false_eq_true, imp_f, imp_t, implies_true, Nat.zero_add, if_true, if_false, false_and, and_false, fC s2]
      refine ct97 hlv hg hn h s2 (hW.psc kk2) t2 q2 x3 x28 (by omega) (fun q R G3 e3 t3 c3 l3 k3 => ?_) (fun k w G3 e3 f3 k3 => ?_)
      · simp +decide (disch := omega) only [↓wm1, wb96_70 hc, w0, w1, w5, w6, w7, w9, w150, rI_wI, rP_wI, rL_wI, rI_wR, rP_wR, is_wI, is_wR, ia_wI, ia_wR, ow_wI, ow_wR, wn_add, wn_mul, wn_cl, wn_le, wn_lt, wn_inj, wn_ne1, wn_1ne, wn_gt1, wn_le1, nb0, nb1, am_kt, am_rt, List.cons_append, List.nil_append, true_and, and_true, not_true_eq_false, not_false_eq_true, imp_f, imp_t, implies_true, Nat.zero_add, if_true, if_false, false_and, and_false]
        exact kok q R G3 e3 t3 c3 l3 (kk2.trans k3)
      · simp +decide (disch := omega) only [↓wm1, wb96_70 hc, w0, w1, w5, w6, w7, w9, w150, rI_wI, rP_wI, rL_wI, rI_wR, rP_wR, is_wI, is_wR, ia_wI, ia_wR, ow_wI, ow_wR, wn_add, wn_mul, wn_cl, wn_le, wn_lt, wn_inj, wn_ne1, wn_1ne, wn_gt1, wn_le1, nb0, nb1, am_kt, am_rt, List.cons_append, List.nil_append, true_and, and_true, not_true_eq_false, not_false_eq_true, imp_f, imp_t, implies_true, Nat.zero_add, if_true, if_false, false_and, and_false]
        exact kbad k w G3 e3 f3 (kk2.trans k3)
    · rw [if_neg c7] at kok kbad
      simp +decide (disch := omega) only [↓wm1, wb96_6 hc, wb96_12 hc, wb96_24 hc, w0, w1, w5, w6, w7, w9, w150, rI_wI, rP_wI, rL_wI, rI_wR, rP_wR, is_wI, is_wR, ia_wI, ia_wR, ow_wI, ow_wR, wn_add, wn_mul, wn_cl, wn_le, wn_lt, wn_inj, wn_ne1, wn_1ne, wn_gt1, wn_le1, nb0, nb1, am_kt, am_rt, List.cons_append, List.nil_append, true_and, and_true, not_true_eq_false, not_false_eq_true, imp_f, imp_t, implies_true, Nat.zero_add, if_true, if_false, false_and, and_false, fC s1, f27 s1, c1, hb150, c7]
      generalize am_wI (am_wI (am_wI G1 27 3 (wn (b + 1))) 28 b (wn k)) 29 b (wn 0) = G2 at kw s2 t2 q2 x3 x28 x29 ⊢
      have kk2 : Kp (PSc b) G G2 := (T1.psc k1).trans (kw.mono (fun a i z => by unfold PSc; omega))
      by_cases c6 : k = 6
      · rw [if_pos c6] at kok kbad
        subst c6
        simp +decide (disch := omega) only [↓wm1, wb96_71 hc, wb96_102 hc, wb96_113 hc, wb96_118 hc, w0, w1, w5, w6, w7, w9, w150, rI_wI, rP_wI, rL_wI, rI_wR, rP_wR, is_wI, is_wR, ia_wI, ia_wR, ow_wI, ow_wR, wn_add, wn_mul, wn_cl, wn_le, wn_lt, wn_inj, wn_ne1, wn_1ne, wn_gt1, wn_le1, nb0, nb1, am_kt, am_rt, List.cons_append, List.nil_append, true_and, and_true, not_true_eq_false, not_false_eq_true, imp_f, imp_t, implies_true, Nat.zero_add, if_true, if_false, false_and, and_false, fC s2, f27 s2, hb150, x29]
        refine kok _ _ G2 rfl t2 x3 (fun i e he => ?_) kk2
        rcases i with _ | i
        · simp at he
          rw [← he, Nat.add_zero]
          exact ⟨x28, x29, fun z => absurd z (by show ¬ 6 = 7; decide)⟩
        · simp at he
      · rw [if_neg c6] at kok kbad
        have fin : ∀ (o2 : Option Value) hi, hi ≤ 10 → (∀ q R G', pb (pnum t n (skb t n (lte t n p)) 0 hi) (fun x => .inr (x.2, [(k, x.1, b + 1)])) = .inr (q, R) → rT G' t n q o → am_gI G' 27 3 = wn (b + R.length) → rPl G' b R → Kp (PSc b) G G' → post (.inl (some (.int (wn 1)))) G') →
            (∀ k' w G', pb (pnum t n (skb t n (lte t n p)) 0 hi) (fun x => (.inr (x.2, [(k, x.1, b + 1)]) : PR (Nat × List Et))) = .inl (k', w) → fT G' k' w → Kp (PSc b) G G' → post (.inl (some (.int (wn 0)))) G') →
            am_W (am_C am_T (d + 8)) am_96 post 98 [some (.ref 27), none, o2, none, some (.int (wn b))] [.int (lim hi), .int (wn 0), .ref 1, .int (wn b), .ref 29] G2 := by
          intro o2 hi hhi kok kbad
          simp +decide (disch := omega) only [↓wm1, wb96_98 hc, w0, w1, w5, w6, w7, w9, w150, rI_wI, rP_wI, rL_wI, rI_wR, rP_wR, is_wI, is_wR, ia_wI, ia_wR, ow_wI, ow_wR, wn_add, wn_mul, wn_cl, wn_le, wn_lt, wn_inj, wn_ne1, wn_1ne, wn_gt1, wn_le1, nb0, nb1, am_kt, am_rt, List.cons_append, List.nil_append, true_and, and_true, not_true_eq_false, not_false_eq_true, imp_f, imp_t, implies_true, Nat.zero_add, if_true, if_false, false_and, and_false, fC s2]
          refine ct73 (lo := 0) (hi := hi) s2 t2 rfl (by decide) (by omega) (fun v p3 G3 e3 t3 q3 k3 => ?_) (fun k' G3 e3 f3 k3 => ?_)
          · have s3 := s2.kp k3
            obtain ⟨-, -, a3, a4, a5, a6⟩ := pnum_in (skb_le hl) e3
            rw [e3] at kok
            have kv : Kp (fun a i => a = 29 ∧ i = b) G3 (am_wI G3 29 b (wn v)) := (Kp.refl G3).wI ⟨rfl, rfl⟩ _
            simp +decide (disch := omega) only [↓wm1, wb96_101 hc, wb96_102 hc, wb96_113 hc, wb96_118 hc, w0, w1, w5, w6, w7, w9, w150, rI_wI, rP_wI, rL_wI, rI_wR, rP_wR, is_wI, is_wR, ia_wI, ia_wR, ow_wI, ow_wR, wn_add, wn_mul, wn_cl, wn_le, wn_lt, wn_inj, wn_ne1, wn_1ne, wn_gt1, wn_le1, nb0, nb1, am_kt, am_rt, List.cons_append, List.nil_append, true_and, and_true, not_true_eq_false, not_false_eq_true, imp_f, imp_t, implies_true, Nat.zero_add, if_true, if_false, false_and, and_false, fC s3, f27 s3, hb150]
            refine kok _ _ _ rfl (t3.kp kv (fun a i z => by omega)) ?_ (fun i e he => ?_) ((kk2.trans (T1.psc k3)).trans (kv.mono (fun a i z => by unfold PSc; omega)))
            · rw [kv.i (by omega), k3.i (by unfold T1; omega)]; exact x3
            · rcases i with _ | i
              · simp at he
                rw [← he, Nat.add_zero]
                refine ⟨?_, ?_, fun z => absurd z c7⟩
                · rw [kv.i (by omega), k3.i (by unfold T1; omega)]; exact x28
                · rw [rI_wI, if_pos ⟨rfl, rfl⟩]
              · simp at he
          · have s3 := s2.kp k3
            rw [e3] at kbad
            have kv : Kp (fun a i => a = 29 ∧ i = b) G3 (am_wI G3 29 b mm) := (Kp.refl G3).wI ⟨rfl, rfl⟩ _
            simp +decide (disch := omega) only [↓wm1, wb96_101 hc, wb96_102 hc, wb96_117 hc, wb96_118 hc, w0, w1, w5, w6, w7, w9, w150, rI_wI, rP_wI, rL_wI, rI_wR, rP_wR, is_wI, is_wR, ia_wI, ia_wR, ow_wI, ow_wR, wn_add, wn_mul, wn_cl, wn_le, wn_lt, wn_inj, wn_ne1, wn_1ne, wn_gt1, wn_le1, nb0, nb1, am_kt, am_rt, List.cons_append, List.nil_append, true_and, and_true, not_true_eq_false, not_false_eq_true, imp_f, imp_t, implies_true, Nat.zero_add, if_true, if_false, false_and, and_false, fC s3, f27 s3, hb150]
            exact kbad _ _ _ rfl (f3.kp kv (by rintro i ⟨z, -⟩; omega)) ((kk2.trans (T1.psc k3)).trans (kv.mono (fun a i z => by unfold PSc; omega)))
        by_cases c5 : k = 5
        · rw [if_pos c5] at kok kbad
          have := fin none 10 (by omega) kok kbad
          have e10 : lim 10 = wn 9 := rfl
          rw [e10] at this
          simp +decide (disch := omega) only [↓wm1, wb96_71 hc, wb96_77 hc, wb96_90 hc, w0, w1, w5, w6, w7, w9, w150, rI_wI, rP_wI, rL_wI, rI_wR, rP_wR, is_wI, is_wR, ia_wI, ia_wR, ow_wI, ow_wR, wn_add, wn_mul, wn_cl, wn_le, wn_lt, wn_inj, wn_ne1, wn_1ne, wn_gt1, wn_le1, nb0, nb1, am_kt, am_rt, List.cons_append, List.nil_append, true_and, and_true, not_true_eq_false, not_false_eq_true, imp_f, imp_t, implies_true, Nat.zero_add, if_true, if_false, false_and, and_false, c5, c6, fC s2, f27 s2]
          exact this
        · rw [if_neg c5] at kok kbad
          have := fin (some (.int (wn B))) B (by omega) kok kbad
          unfold lim at this
          simp +decide (disch := omega) only [↓wm1, wb96_71 hc, wb96_77 hc, wb96_95 hc, w0, w1, w5, w6, w7, w9, w150, rI_wI, rP_wI, rL_wI, rI_wR, rP_wR, is_wI, is_wR, ia_wI, ia_wR, ow_wI, ow_wR, wn_add, wn_mul, wn_cl, wn_le, wn_lt, wn_inj, wn_ne1, wn_1ne, wn_gt1, wn_le1, nb0, nb1, am_kt, am_rt, List.cons_append, List.nil_append, true_and, and_true, not_true_eq_false, not_false_eq_true, imp_f, imp_t, implies_true, Nat.zero_add, if_true, if_false, false_and, and_false, c5, c6, fC s2, f27 s2]
          exact this
  · rw [ws_1] at e1
    simp only [e1] at kok kbad
    simp +decide (disch := omega) only [↓wm1, wb96_6 hc, wb96_22 hc, w0, w1, w5, w6, w7, w9, w150, rI_wI, rP_wI, rL_wI, rI_wR, rP_wR, is_wI, is_wR, ia_wI, ia_wR, ow_wI, ow_wR, wn_add, wn_mul, wn_cl, wn_le, wn_lt, wn_inj, wn_ne1, wn_1ne, wn_gt1, wn_le1, nb0, nb1, am_kt, am_rt, List.cons_append, List.nil_append, true_and, and_true, not_true_eq_false, not_false_eq_true, imp_f, imp_t, implies_true, Nat.zero_add, if_true, if_false, false_and, and_false]
    exact kbad _ _ G1 rfl f1 (T1.psc k1)
end
