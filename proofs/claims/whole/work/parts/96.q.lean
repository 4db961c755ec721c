/-! A work's reading, the reference's side: one step, the whole. -/
section
variable {G G' : am_G} {d B n o p b lv : Nat} {t : Nat → Nat} {ps body : PWk} {R : List Et} {post : am_O → am_G → Prop}
theorem RW190 (hlv : o + lv = 6) (hB : B ≤ 6) (hg : lv = 0 ∨ (Gw0 t n B ps ∧ body = pbr t n ps 151)) (hn : n ≤ 150) (h : lv = 0 ∨ RW (d + 6) B t n (o + 1) (psn t n ps)) : RW (d + 7) B t n o (psn t n (pst0 t n B lv body)) := by
  intro G p b post hsh hX hT h3 hb kok kbad
  have hc := am_C_one am_T (d + 6)
  have hpn := hT.2.2.1
  have hb80 : b < 80 := by omega
  have n8 : 728 + b < 90000 := by omega
  have m8 : ¬ 728 + b = 334 := by omega
  have m9 : ¬ 334 = 728 + b := by omega
  have m7 : ¬ 338 = 728 + b := by omega
  generalize hS : psn t n (pst0 t n B lv body) p b = S at kok kbad
  unfold psn pst0 at hS
  rw [we190]
  simp +decide (disch := omega) only [↓wm1, wb190_0 hc, w0, w1, w2, w5, w7, w9, w59, w60, w91, w93, rI_wI, rP_wI, rL_wI, rI_wR, rP_wR, is_wI, is_wR, ia_wI, ia_wR, ow_wI, ow_wR, wn_add, wn_mul, wn_cl, wn_le, wn_lt, wn_inj, wn_ne1, wn_1ne, wn_gt1, wn_le1, nb0, nb1, am_kt, am_rt, List.cons_append, List.nil_append, true_and, and_true, not_true_eq_false, not_false_eq_true, imp_f, imp_t, implies_true, Nat.zero_add, if_true, if_false, false_and, and_false, fM hsh]
  refine ct189 hsh hT (fun G1 t1 e4 k1 => ?_)
  have s1 := hsh.kp k1
  have o1 := Q4.oo k1
  have z5 := t1.2.2.2.2.2.2.2.2.1
  rcases hw : wi1 (wrd t n p) with _ | k
  · simp only [hw, pb] at hS
    have kf : Kp O8 G1 (am_wI (am_wI G1 334 5 (wn 1)) 334 6 (wn p)) := ((Kp.refl G1).wI ⟨rfl, by decide, by decide⟩ _).wI ⟨rfl, by decide, by decide⟩ _
    have eo : oi none = mm := rfl
    simp +decide (disch := omega) only [↓wm1, wb190_4 hc, wb190_10 hc, w0, w1, w2, w5, w7, w9, w59, w60, w91, w93, rI_wI, rP_wI, rL_wI, rI_wR, rP_wR, is_wI, is_wR, ia_wI, ia_wR, ow_wI, ow_wR, wn_add, wn_mul, wn_cl, wn_le, wn_lt, wn_inj, wn_ne1, wn_1ne, wn_gt1, wn_le1, nb0, nb1, am_kt, am_rt, List.cons_append, List.nil_append, true_and, and_true, not_true_eq_false, not_false_eq_true, imp_f, imp_t, implies_true, Nat.zero_add, if_true, if_false, false_and, and_false, eo, fM s1, e4, ct160 s1 z5]
    have f2 : fQ (am_wI (am_wI G1 334 5 (wn 1)) 334 6 (wn p)) t n 1 p := by
      refine ⟨t1.1.kp kf (by rintro i ⟨z, -⟩; omega), t1.2.1, ?_, ?_, ⟨p, hpn, ?_⟩, by decide, ?_, ?_⟩
      · rw [kf.i (by unfold O8; omega)]; exact t1.2.2.2.2.2.1
      · rw [kf.i (by unfold O8; omega)]; exact t1.2.2.2.2.2.2.1
      · rw [rI_wI, if_neg (by decide), rI_wI, if_neg (by decide)]; exact e4
      · rw [rI_wI, if_neg (by decide), rI_wI, if_pos ⟨rfl, rfl⟩]
      · rw [rI_wI, if_pos ⟨rfl, rfl⟩]
    have s2 := s1.kp kf
    generalize am_wI (am_wI G1 334 5 (wn 1)) 334 6 (wn p) = G2 at kf f2 s2 ⊢
    have y5 := f2.2.2.2.2.2.2.1
    simp +decide (disch := omega) only [↓wm1, wb190_19 hc, wb190_33 hc, wb190_40 hc, w0, w1, w2, w5, w7, w9, w59, w60, w91, w93, rI_wI, rP_wI, rL_wI, rI_wR, rP_wR, is_wI, is_wR, ia_wI, ia_wR, ow_wI, ow_wR, wn_add, wn_mul, wn_cl, wn_le, wn_lt, wn_inj, wn_ne1, wn_1ne, wn_gt1, wn_le1, nb0, nb1, am_kt, am_rt, List.cons_append, List.nil_append, true_and, and_true, not_true_eq_false, not_false_eq_true, imp_f, imp_t, implies_true, Nat.zero_add, if_true, if_false, false_and, and_false, fM s2, y5]
    exact kbad _ _ G2 hS.symm f2 ((O8.ms o1).trans (O8.ms kf))
  · simp only [hw] at hS
    obtain ⟨hk8, hw3⟩ := wi1_lt hw
    rw [wrd_len] at hw3
    have hl := lte_le (t := t) hpn
    have g0 := skb_ge t n (lte t n p)
    have gn : skb t n (lte t n p) ≤ n := skb_le hl
    have eo : oi (some k) = wn k := rfl
    by_cases c7 : k = 7
    · rw [if_pos c7] at hS
      subst c7
      simp +decide (disch := omega) only [↓wm1, wb190_4 hc, wb190_19 hc, wb190_25 hc, w0, w1, w2, w5, w7, w9, w59, w60, w91, w93, rI_wI, rP_wI, rL_wI, rI_wR, rP_wR, is_wI, is_wR, ia_wI, ia_wR, ow_wI, ow_wR, wn_add, wn_mul, wn_cl, wn_le, wn_lt, wn_inj, wn_ne1, wn_1ne, wn_gt1, wn_le1, nb0, nb1, am_kt, am_rt, List.cons_append, List.nil_append, true_and, and_true, not_true_eq_false, not_false_eq_true, imp_f, imp_t, implies_true, Nat.zero_add, if_true, if_false, false_and, and_false, eo, fM s1]
      refine ct181 s1 t1 e4 (fun G2 ho t2 e42 k2 => ?_) (fun G2 ho f2 k2 => ?_)
      · have c2 : ¬ lv = 0 := by omega
        rw [if_neg c2] at hS
        obtain ⟨hg1, rfl⟩ := hg.resolve_left c2
        have h := h.resolve_left c2
        have s2 := s1.kp k2
        have y5 := t2.2.2.2.2.2.2.2.2.1
        simp +decide (disch := omega) only [↓wm1, wb190_29 hc, wb190_33 hc, wb190_41 hc, w0, w1, w2, w5, w7, w9, w59, w60, w91, w93, rI_wI, rP_wI, rL_wI, rI_wR, rP_wR, is_wI, is_wR, ia_wI, ia_wR, ow_wI, ow_wR, wn_add, wn_mul, wn_cl, wn_le, wn_lt, wn_inj, wn_ne1, wn_1ne, wn_gt1, wn_le1, nb0, nb1, am_kt, am_rt, List.cons_append, List.nil_append, true_and, and_true, not_true_eq_false, not_false_eq_true, imp_f, imp_t, implies_true, Nat.zero_add, if_true, if_false, false_and, and_false, fM s2, y5]
        refine ct167 s2 t2 e42 (fun G3 t3 k3 => ?_)
        have s3 := s2.kp k3
        have c3 : am_gI G3 334 28 = wn b := by rw [k3.i (by unfold Q4; omega), k2.i (by unfold O8; omega), o1.i (by unfold O8; omega)]; exact h3
        have kw : Kp (fun a i => (a = 334 ∧ i = 28) ∨ a = 728 + b) G3 (am_wI (am_wI G3 334 28 (wn (b + 1))) (728 + b) 0 (wn 7)) := ((Kp.refl G3).wI (Or.inl ⟨rfl, rfl⟩) _).wI (Or.inr rfl) _
        have s4 := s3.kp kw
        have t4 := t3.kp kw (fun a i z => by omega)
        have x28 : am_gI (am_wI (am_wI G3 334 28 (wn (b + 1))) (728 + b) 0 (wn 7)) 334 28 = wn (b + 1) := by rw [rI_wI, if_neg (by omega), rI_wI, if_pos ⟨rfl, rfl⟩]
        have x0 : am_gI (am_wI (am_wI G3 334 28 (wn (b + 1))) (728 + b) 0 (wn 7)) (728 + b) 0 = wn 7 := by rw [rI_wI, if_pos ⟨rfl, rfl⟩]
        have xB : am_gI (am_wI (am_wI G3 334 28 (wn (b + 1))) (728 + b) 0 (wn 7)) 338 0 = wn B := by rw [kw.i (by omega), k3.i (by unfold Q4; omega), k2.i (by unfold O8; omega), o1.i (by unfold O8; omega)]; exact hX
        simp +decide (disch := omega) only [↓wm1, wb190_45 hc, wb190_90 hc, wb190_105 hc, wb190_111 hc, w0, w1, w2, w5, w7, w9, w59, w60, w91, w93, rI_wI, rP_wI, rL_wI, rI_wR, rP_wR, is_wI, is_wR, ia_wI, ia_wR, ow_wI, ow_wR, wn_add, wn_mul, wn_cl, wn_le, wn_lt, wn_inj, wn_ne1, wn_1ne, wn_gt1, wn_le1, nb0, nb1, am_kt, am_rt, List.cons_append, List.nil_append, true_and, and_true, not_true_eq_false, not_false_eq_true, imp_f, imp_t, implies_true, Nat.zero_add, if_true, if_false, false_and, and_false, fM s3, c3, fr727 s3, hb80, n8, m8, m9, ra_wI]
        have kk4 : Kp (MSw b) G (am_wI (am_wI G3 334 28 (wn (b + 1))) (728 + b) 0 (wn 7)) := (((O8.ms o1).trans (O8.ms k2)).trans (O8.ms (Q4.oo k3))).trans (kw.mono (fun a i z => by unfold MSw; omega))
        generalize am_wI (am_wI G3 334 28 (wn (b + 1))) (728 + b) 0 (wn 7) = G4 at kw s4 t4 x28 x0 xB kk4 ⊢
        refine ct163 (lo := 0) (hi := 61) s4 t4 rfl (by decide) (by decide) (fun v p5 G5 e5 t5 k5 => ?_) (fun k' G5 e5 f5 k5 => ?_)
        · have s5 := s4.kp k5
          have o5 := QS.oo k5
          obtain ⟨-, -, a3, a4, a5, a6⟩ := pnum_in gn e5
          simp only [e5, pb] at hS
          have kv : Kp (Bw1 b) G5 (am_wI G5 (728 + b) 1 (wn v)) := (Kp.refl G5).wI (show Bw1 b (728 + b) 1 from rfl) _
          have s6 := s5.kp kv
          have t6 := t5.b1 kv
          have y1 : am_gI (am_wI G5 (728 + b) 1 (wn v)) (728 + b) 1 = wn v := by rw [rI_wI, if_pos ⟨rfl, rfl⟩]
          have y0 : am_gI (am_wI G5 (728 + b) 1 (wn v)) (728 + b) 0 = wn 7 := by rw [rI_wI, if_neg (by omega), o5.i (by unfold O8; omega)]; exact x0
          have yB : am_gI (am_wI G5 (728 + b) 1 (wn v)) 338 0 = wn B := by rw [kv.i (by unfold Bw1; omega), o5.i (by unfold O8; omega)]; exact xB
          have y28 : am_gI (am_wI G5 (728 + b) 1 (wn v)) 334 28 = wn (b + 1) := by rw [kv.i (by unfold Bw1; omega), o5.i (by unfold O8; omega)]; exact x28
          simp +decide (disch := omega) only [↓wm1, wb190_120 hc, w0, w1, w2, w5, w7, w9, w59, w60, w91, w93, rI_wI, rP_wI, rL_wI, rI_wR, rP_wR, is_wI, is_wR, ia_wI, ia_wR, ow_wI, ow_wR, wn_add, wn_mul, wn_cl, wn_le, wn_lt, wn_inj, wn_ne1, wn_1ne, wn_gt1, wn_le1, nb0, nb1, am_kt, am_rt, List.cons_append, List.nil_append, true_and, and_true, not_true_eq_false, not_false_eq_true, imp_f, imp_t, implies_true, Nat.zero_add, if_true, if_false, false_and, and_false, fM s5, fr727 s5, hb80, n8]
          have kk6 : Kp (MSw b) G (am_wI G5 (728 + b) 1 (wn v)) := (kk4.trans (O8.ms o5)).trans (Bw1.ms hb80 kv)
          generalize am_wI G5 (728 + b) 1 (wn v) = G6 at kv s6 t6 y0 y1 yB y28 kk6 ⊢
          refine ct169 s6 t6 (by decide) (fun q7 G7 e7 t7 k7 => ?_) (fun G7 e7 f7 k7 => ?_)
          · have s7 := s6.kp k7
            have o7 := QS.oo k7
            obtain ⟨-, -, -, b4, b5, b6⟩ := psgn_in e7
            simp only [e7] at hS
            simp +decide (disch := omega) only [↓wm1, wb190_127 hc, w0, w1, w2, w5, w7, w9, w59, w60, w91, w93, rI_wI, rP_wI, rL_wI, rI_wR, rP_wR, is_wI, is_wR, ia_wI, ia_wR, ow_wI, ow_wR, wn_add, wn_mul, wn_cl, wn_le, wn_lt, wn_inj, wn_ne1, wn_1ne, wn_gt1, wn_le1, nb0, nb1, am_kt, am_rt, List.cons_append, List.nil_append, true_and, and_true, not_true_eq_false, not_false_eq_true, imp_f, imp_t, implies_true, Nat.zero_add, if_true, if_false, false_and, and_false, fM s7]
            refine ct159r s7 t7 (fun G8 t8 e8 k8 => ?_)
            have o8 := Q4.oo k8
            have s8 := s7.kp k8
            have w8 : ∀ a i, ¬ O8 a i → am_gI G8 a i = am_gI G6 a i := fun a i z => by rw [o8.i z, o7.i z]
            have kk8 := (kk6.trans (O8.ms o7)).trans (O8.ms o8)
            simp +decide (disch := omega) only [↓wm1, w0, w1, rI_wI, rP_wI, rL_wI, rI_wR, rP_wR, is_wI, is_wR, ia_wI, ia_wR, ow_wI, ow_wR, wn_add, wn_mul, wn_cl, wn_le, wn_lt, wn_inj, wn_ne1, wn_1ne, wn_gt1, wn_le1, nb0, nb1, am_kt, am_rt, List.cons_append, List.nil_append, true_and, and_true, not_true_eq_false, not_false_eq_true, imp_f, imp_t, implies_true, Nat.zero_add, if_true, if_false, false_and, and_false]
            refine ct190_l (X := pbr t n ps 151 q7 (b + 1)) (p0 := p) (v := v) hg1 hn hb80 h (fun q R G9 e9 t9 c9 l9 k9 => ?_) (fun k' w G9 e9 f9 k9 => ?_) 151 q7 [] G8 (by omega) s8 (by rw [w8 _ _ (by unfold O8; omega)]; exact yB) t8 e8 (by rw [w8 _ _ (by unfold O8; omega)]; exact y28) (by simp only [List.length_nil]; omega) (rPm.nil G8 (b + 1)) (Kp.refl G8) ?_
            · have s9 := s8.kp k9
              have z8 := t9.2.2.2.2.2.2.2.2.2
              have e1 : wn (o + 1) - wn 1 = wn o := by rw [wn_sub (by omega)]; rfl
              simp only [e9] at hS
              simp +decide (disch := omega) only [↓wm1, wb190_168 hc, w0, w1, w2, w5, w7, w9, w59, w60, w91, w93, rI_wI, rP_wI, rL_wI, rI_wR, rP_wR, is_wI, is_wR, ia_wI, ia_wR, ow_wI, ow_wR, wn_add, wn_mul, wn_cl, wn_le, wn_lt, wn_inj, wn_ne1, wn_1ne, wn_gt1, wn_le1, nb0, nb1, am_kt, am_rt, List.cons_append, List.nil_append, true_and, and_true, not_true_eq_false, not_false_eq_true, imp_f, imp_t, implies_true, Nat.zero_add, if_true, if_false, false_and, and_false, fM s9, z8, e1]
              have w9 : ∀ i, am_gI (am_wI G9 334 8 (wn o)) (728 + b) i = am_gI G6 (728 + b) i := fun i => by rw [rI_wI, if_neg (by omega), k9.i (by unfold MSw; omega), w8 _ _ (by unfold O8; omega)]
              have kkf : Kp (MSw b) G (am_wI G9 334 8 (wn o)) := (kk8.trans (MSw.up k9 (by omega))).trans (O8.ms (kp8 G9 _))
              refine ct190_e (p0 := p) (k := 7) (v := v) (R0 := R) (c := b + 1 + R.length) hb80 (s9.kp (kp8 G9 _)) t9.w8 (by rw [rI_wI, if_neg (by decide)]; exact c9) (by rw [w9]; exact y0) (fun _ => by rw [w9]; exact y1) (l9.oo (kp8 G9 _)) rfl (fun qq GG ee tt cc ll kk => ?_) (fun GG ee ff kk => ?_)
              · simp only [ee] at hS
                exact kok _ _ GG hS.symm tt (by rw [cc, List.length_cons]; congr 1; omega) ll (kkf.trans kk)
              · simp only [ee] at hS
                exact kbad _ _ GG hS.symm ff (kkf.trans kk)
            · have s9 := s8.kp k9
              simp only [e9] at hS
              simp +decide (disch := omega) only [↓wm1, wb190_168 hc, w0, w1, w2, w5, w7, w9, w59, w60, w91, w93, rI_wI, rP_wI, rL_wI, rI_wR, rP_wR, is_wI, is_wR, ia_wI, ia_wR, ow_wI, ow_wR, wn_add, wn_mul, wn_cl, wn_le, wn_lt, wn_inj, wn_ne1, wn_1ne, wn_gt1, wn_le1, nb0, nb1, am_kt, am_rt, List.cons_append, List.nil_append, true_and, and_true, not_true_eq_false, not_false_eq_true, imp_f, imp_t, implies_true, Nat.zero_add, if_true, if_false, false_and, and_false, fM s9]
              exact ct190_f hb80 (s9.kp (kp8 G9 _)) f9.w8 (fun GG ff kk => kbad _ _ GG hS.symm ff (((kk8.trans (MSw.up k9 (by omega))).trans (O8.ms (kp8 G9 _))).trans kk))
            · rw [show b + 1 + ([] : List Et).length = b + 1 from rfl]
              rcases pbr t n ps 151 q7 (b + 1) with e | y
              · rfl
              · rfl
          · have s7 := s6.kp k7
            simp only [e7] at hS
            simp +decide (disch := omega) only [↓wm1, wb190_127 hc, w0, w1, w2, w5, w7, w9, w59, w60, w91, w93, rI_wI, rP_wI, rL_wI, rI_wR, rP_wR, is_wI, is_wR, ia_wI, ia_wR, ow_wI, ow_wR, wn_add, wn_mul, wn_cl, wn_le, wn_lt, wn_inj, wn_ne1, wn_1ne, wn_gt1, wn_le1, nb0, nb1, am_kt, am_rt, List.cons_append, List.nil_append, true_and, and_true, not_true_eq_false, not_false_eq_true, imp_f, imp_t, implies_true, Nat.zero_add, if_true, if_false, false_and, and_false, fM s7]
            refine ct159f s7 f7 (fun G8 f8 k8 => ?_)
            have s8 := s7.kp k8
            have u5 := f8.2.2.2.2.2.2.1
            simp +decide (disch := omega) only [↓wm1, w0, w1, rI_wI, rP_wI, rL_wI, rI_wR, rP_wR, is_wI, is_wR, ia_wI, ia_wR, ow_wI, ow_wR, wn_add, wn_mul, wn_cl, wn_le, wn_lt, wn_inj, wn_ne1, wn_1ne, wn_gt1, wn_le1, nb0, nb1, am_kt, am_rt, List.cons_append, List.nil_append, true_and, and_true, not_true_eq_false, not_false_eq_true, imp_f, imp_t, implies_true, Nat.zero_add, if_true, if_false, false_and, and_false]
            rw [wb190_131 hc]
            simp +decide (disch := omega) only [↓wm1, wb190_162 hc, wb190_168 hc, w0, w1, w2, w5, w7, w9, w59, w60, w91, w93, rI_wI, rP_wI, rL_wI, rI_wR, rP_wR, is_wI, is_wR, ia_wI, ia_wR, ow_wI, ow_wR, wn_add, wn_mul, wn_cl, wn_le, wn_lt, wn_inj, wn_ne1, wn_1ne, wn_gt1, wn_le1, nb0, nb1, am_kt, am_rt, List.cons_append, List.nil_append, true_and, and_true, not_true_eq_false, not_false_eq_true, imp_f, imp_t, implies_true, Nat.zero_add, if_true, if_false, false_and, and_false, fM s8, u5, ct169f s8 f8]
            exact ct190_f hb80 (s8.kp (kp8 G8 _)) f8.w8 (fun GG ff kk => kbad _ _ GG hS.symm ff ((((kk6.trans (O8.ms (QS.oo k7))).trans (O8.ms (Q4.oo k8))).trans (O8.ms (kp8 G8 _))).trans kk))
        · have s5 := s4.kp k5
          simp only [e5, pb] at hS
          have kv : Kp (Bw1 b) G5 (am_wI G5 (728 + b) 1 (wn 0)) := (Kp.refl G5).wI (show Bw1 b (728 + b) 1 from rfl) _
          have s6 := s5.kp kv
          have f6 := f5.b1 kv
          simp +decide (disch := omega) only [↓wm1, wb190_120 hc, wb190_127 hc, w0, w1, w2, w5, w7, w9, w59, w60, w91, w93, rI_wI, rP_wI, rL_wI, rI_wR, rP_wR, is_wI, is_wR, ia_wI, ia_wR, ow_wI, ow_wR, wn_add, wn_mul, wn_cl, wn_le, wn_lt, wn_inj, wn_ne1, wn_1ne, wn_gt1, wn_le1, nb0, nb1, am_kt, am_rt, List.cons_append, List.nil_append, true_and, and_true, not_true_eq_false, not_false_eq_true, imp_f, imp_t, implies_true, Nat.zero_add, if_true, if_false, false_and, and_false, fM s5, fr727 s5, hb80, n8, ct169f s6 f6]
          have kk6 : Kp (MSw b) G (am_wI G5 (728 + b) 1 (wn 0)) := (kk4.trans (O8.ms (QS.oo k5))).trans (Bw1.ms hb80 kv)
          generalize am_wI G5 (728 + b) 1 (wn 0) = G6 at kv s6 f6 kk6 ⊢
          refine ct159f s6 f6 (fun G8 f8 k8 => ?_)
          have s8 := s6.kp k8
          have u5 := f8.2.2.2.2.2.2.1
          have c0 : ¬ k' = 0 := by have := f8.2.2.2.2.2.1; omega
          have c3' : k' < 2147483648 := by have := f8.2.2.2.2.2.1; omega
          simp +decide (disch := omega) only [↓wm1, w0, w1, rI_wI, rP_wI, rL_wI, rI_wR, rP_wR, is_wI, is_wR, ia_wI, ia_wR, ow_wI, ow_wR, wn_add, wn_mul, wn_cl, wn_le, wn_lt, wn_inj, wn_ne1, wn_1ne, wn_gt1, wn_le1, nb0, nb1, am_kt, am_rt, List.cons_append, List.nil_append, true_and, and_true, not_true_eq_false, not_false_eq_true, imp_f, imp_t, implies_true, Nat.zero_add, if_true, if_false, false_and, and_false]
          rw [wb190_131 hc]
          simp +decide (disch := omega) only [↓wm1, wb190_162 hc, wb190_168 hc, w0, w1, w2, w5, w7, w9, w59, w60, w91, w93, rI_wI, rP_wI, rL_wI, rI_wR, rP_wR, is_wI, is_wR, ia_wI, ia_wR, ow_wI, ow_wR, wn_add, wn_mul, wn_cl, wn_le, wn_lt, wn_inj, wn_ne1, wn_1ne, wn_gt1, wn_le1, nb0, nb1, am_kt, am_rt, List.cons_append, List.nil_append, true_and, and_true, not_true_eq_false, not_false_eq_true, imp_f, imp_t, implies_true, Nat.zero_add, if_true, if_false, false_and, and_false, fM s8, u5, c0, ct169f s8 f8]
          exact ct190_f hb80 (s8.kp (kp8 G8 _)) f8.w8 (fun GG ff kk => kbad _ _ GG hS.symm ff (((kk6.trans (O8.ms (Q4.oo k8))).trans (O8.ms (kp8 G8 _))).trans kk))
      · have c2 : lv = 0 := by omega
        simp only [if_pos c2, pb] at hS
        simp +decide (disch := omega) only [↓wm1, wb190_29 hc, wb190_32 hc, w0, w1, w2, w5, w7, w9, w59, w60, w91, w93, rI_wI, rP_wI, rL_wI, rI_wR, rP_wR, is_wI, is_wR, ia_wI, ia_wR, ow_wI, ow_wR, wn_add, wn_mul, wn_cl, wn_le, wn_lt, wn_inj, wn_ne1, wn_1ne, wn_gt1, wn_le1, nb0, nb1, am_kt, am_rt, List.cons_append, List.nil_append, true_and, and_true, not_true_eq_false, not_false_eq_true, imp_f, imp_t, implies_true, Nat.zero_add, if_true, if_false, false_and, and_false]
        exact kbad _ _ G2 hS.symm f2 ((O8.ms o1).trans (O8.ms k2))
    · rw [if_neg c7] at hS
      simp +decide (disch := omega) only [↓wm1, wb190_4 hc, wb190_19 hc, wb190_33 hc, wb190_41 hc, w0, w1, w2, w5, w7, w9, w59, w60, w91, w93, rI_wI, rP_wI, rL_wI, rI_wR, rP_wR, is_wI, is_wR, ia_wI, ia_wR, ow_wI, ow_wR, wn_add, wn_mul, wn_cl, wn_le, wn_lt, wn_inj, wn_ne1, wn_1ne, wn_gt1, wn_le1, nb0, nb1, am_kt, am_rt, List.cons_append, List.nil_append, true_and, and_true, not_true_eq_false, not_false_eq_true, imp_f, imp_t, implies_true, Nat.zero_add, if_true, if_false, false_and, and_false, eo, fM s1, z5, c7]
      refine ct167 s1 t1 e4 (fun G3 t3 k3 => ?_)
      have s3 := s1.kp k3
      have c3 : am_gI G3 334 28 = wn b := by rw [k3.i (by unfold Q4; omega), o1.i (by unfold O8; omega)]; exact h3
      have kw : Kp (fun a i => (a = 334 ∧ i = 28) ∨ a = 728 + b) G3 (am_wI (am_wI G3 334 28 (wn (b + 1))) (728 + b) 0 (wn k)) := ((Kp.refl G3).wI (Or.inl ⟨rfl, rfl⟩) _).wI (Or.inr rfl) _
      have s4 := s3.kp kw
      have t4 := t3.kp kw (fun a i z => by omega)
      have x28 : am_gI (am_wI (am_wI G3 334 28 (wn (b + 1))) (728 + b) 0 (wn k)) 334 28 = wn (b + 1) := by rw [rI_wI, if_neg (by omega), rI_wI, if_pos ⟨rfl, rfl⟩]
      have x0 : am_gI (am_wI (am_wI G3 334 28 (wn (b + 1))) (728 + b) 0 (wn k)) (728 + b) 0 = wn k := by rw [rI_wI, if_pos ⟨rfl, rfl⟩]
      have xB : am_gI (am_wI (am_wI G3 334 28 (wn (b + 1))) (728 + b) 0 (wn k)) 338 0 = wn B := by rw [kw.i (by omega), k3.i (by unfold Q4; omega), o1.i (by unfold O8; omega)]; exact hX
      have kk4 : Kp (MSw b) G (am_wI (am_wI G3 334 28 (wn (b + 1))) (728 + b) 0 (wn k)) := ((O8.ms o1).trans (O8.ms (Q4.oo k3))).trans (kw.mono (fun a i z => by unfold MSw; omega))
      have fin : ∀ (v q : Nat) (GG : am_G) (oo : Option Value), Sh GG → rQ GG t n q o → am_gI GG 334 28 = wn (b + 1) → am_gI GG (728 + b) 0 = wn k → (¬ k = 6 → am_gI GG (728 + b) 1 = wn v) → Kp (MSw b) G GG → pb (psgn t n q 59) (fun q => .inr (q, [(k, v, b + 1)])) = S → am_W (am_C am_T (d + 6)) am_190 post 178 [some (.ref 334), oo, some (.ref (728 + b))] [] GG := by
        intro v q GG oo sG tG cG h0 h1 kG hS
        refine ct190_e (p0 := p) (k := k) (v := v) (R0 := []) (c := b + 1) hb80 sG tG cG h0 h1 (rPm.nil GG (b + 1)) rfl (fun qq G9 ee tt cc ll kk => ?_) (fun G9 ee ff kk => ?_)
        · simp only [ee, pb] at hS
          exact kok _ _ G9 hS.symm tt cc ll (kG.trans kk)
        · simp only [ee, pb] at hS
          exact kbad _ _ G9 hS.symm ff (kG.trans kk)
      by_cases c6 : k = 6
      · rw [if_pos c6] at hS
        subst c6
        simp only [pb] at hS
        simp +decide (disch := omega) only [↓wm1, wb190_45 hc, wb190_90 hc, wb190_105 hc, w0, w1, w2, w5, w7, w9, w59, w60, w91, w93, rI_wI, rP_wI, rL_wI, rI_wR, rP_wR, is_wI, is_wR, ia_wI, ia_wR, ow_wI, ow_wR, wn_add, wn_mul, wn_cl, wn_le, wn_lt, wn_inj, wn_ne1, wn_1ne, wn_gt1, wn_le1, nb0, nb1, am_kt, am_rt, List.cons_append, List.nil_append, true_and, and_true, not_true_eq_false, not_false_eq_true, imp_f, imp_t, implies_true, Nat.zero_add, if_true, if_false, false_and, and_false, fM s3, c3, fr727 s3, hb80, n8, m8, m9, ra_wI]
        exact fin 0 _ _ _ s4 t4 x28 x0 (fun z => absurd rfl z) kk4 hS
      · rw [if_neg c6] at hS
        have okv : ∀ (v q : Nat) (G5 : am_G) (hi : Nat), pnum t n (skb t n (lte t n p)) 0 hi = .inr (v, q) → True := fun _ _ _ _ _ => trivial
        by_cases c5 : k = 5
        · rw [if_pos c5] at hS
          subst c5
          simp +decide (disch := omega) only [↓wm1, wb190_45 hc, wb190_90 hc, wb190_95 hc, w0, w1, w2, w5, w7, w9, w59, w60, w91, w93, rI_wI, rP_wI, rL_wI, rI_wR, rP_wR, is_wI, is_wR, ia_wI, ia_wR, ow_wI, ow_wR, wn_add, wn_mul, wn_cl, wn_le, wn_lt, wn_inj, wn_ne1, wn_1ne, wn_gt1, wn_le1, nb0, nb1, am_kt, am_rt, List.cons_append, List.nil_append, true_and, and_true, not_true_eq_false, not_false_eq_true, imp_f, imp_t, implies_true, Nat.zero_add, if_true, if_false, false_and, and_false, fM s3, c3, fr727 s3, hb80, n8, m8, m9, ra_wI]
          generalize am_wI (am_wI G3 334 28 (wn (b + 1))) (728 + b) 0 (wn 5) = G4 at kw s4 t4 x28 x0 xB kk4 ⊢
          refine ct163 (lo := 0) (hi := 10) s4 t4 rfl (by decide) (by decide) (fun v q G5 e5 t5 k5 => ?_) (fun k' G5 e5 f5 k5 => ?_)
          · have s5 := s4.kp k5
            have o5 := QS.oo k5
            simp only [e5, pb] at hS
            have kv : Kp (Bw1 b) G5 (am_wI G5 (728 + b) 1 (wn v)) := (Kp.refl G5).wI (show Bw1 b (728 + b) 1 from rfl) _
            simp +decide (disch := omega) only [↓wm1, wb190_104 hc, wb190_105 hc, w0, w1, w2, w5, w7, w9, w59, w60, w91, w93, rI_wI, rP_wI, rL_wI, rI_wR, rP_wR, is_wI, is_wR, ia_wI, ia_wR, ow_wI, ow_wR, wn_add, wn_mul, wn_cl, wn_le, wn_lt, wn_inj, wn_ne1, wn_1ne, wn_gt1, wn_le1, nb0, nb1, am_kt, am_rt, List.cons_append, List.nil_append, true_and, and_true, not_true_eq_false, not_false_eq_true, imp_f, imp_t, implies_true, Nat.zero_add, if_true, if_false, false_and, and_false, fM s5, fr727 s5, hb80, n8]
            refine fin v q _ _ (s5.kp kv) (t5.b1 kv) ?_ ?_ (fun _ => by rw [rI_wI, if_pos ⟨rfl, rfl⟩]) ((kk4.trans (O8.ms o5)).trans (Bw1.ms hb80 kv)) hS
            · rw [kv.i (by unfold Bw1; omega), o5.i (by unfold O8; omega)]; exact x28
            · rw [rI_wI, if_neg (by omega), o5.i (by unfold O8; omega)]; exact x0
          · have s5 := s4.kp k5
            simp only [e5, pb] at hS
            have kv : Kp (Bw1 b) G5 (am_wI G5 (728 + b) 1 (wn 0)) := (Kp.refl G5).wI (show Bw1 b (728 + b) 1 from rfl) _
            simp +decide (disch := omega) only [↓wm1, wb190_104 hc, wb190_105 hc, w0, w1, w2, w5, w7, w9, w59, w60, w91, w93, rI_wI, rP_wI, rL_wI, rI_wR, rP_wR, is_wI, is_wR, ia_wI, ia_wR, ow_wI, ow_wR, wn_add, wn_mul, wn_cl, wn_le, wn_lt, wn_inj, wn_ne1, wn_1ne, wn_gt1, wn_le1, nb0, nb1, am_kt, am_rt, List.cons_append, List.nil_append, true_and, and_true, not_true_eq_false, not_false_eq_true, imp_f, imp_t, implies_true, Nat.zero_add, if_true, if_false, false_and, and_false, fM s5, fr727 s5, hb80, n8]
            exact ct190_f hb80 (s5.kp kv) (f5.b1 kv) (fun GG ff kk => kbad _ _ GG hS.symm ff (((kk4.trans (O8.ms (QS.oo k5))).trans (Bw1.ms hb80 kv)).trans kk))
        · rw [if_neg c5] at hS
          have c5' : ¬ 5 ≤ k := by omega
          simp +decide (disch := omega) only [↓wm1, wb190_45 hc, wb190_74 hc, w0, w1, w2, w5, w7, w9, w59, w60, w91, w93, rI_wI, rP_wI, rL_wI, rI_wR, rP_wR, is_wI, is_wR, ia_wI, ia_wR, ow_wI, ow_wR, wn_add, wn_mul, wn_cl, wn_le, wn_lt, wn_inj, wn_ne1, wn_1ne, wn_gt1, wn_le1, nb0, nb1, am_kt, am_rt, List.cons_append, List.nil_append, true_and, and_true, not_true_eq_false, not_false_eq_true, imp_f, imp_t, implies_true, Nat.zero_add, if_true, if_false, false_and, and_false, fM s3, c3, fr727 s3, hb80, n8, m8, m9, m7, ra_wI, c5', ia338 s3, ia338 s4, fM s4, xB]
          generalize am_wI (am_wI G3 334 28 (wn (b + 1))) (728 + b) 0 (wn k) = G4 at kw s4 t4 x28 x0 xB kk4 ⊢
          refine ct163 (lo := 0) (hi := B) s4 t4 rfl (by decide) (by omega) (fun v q G5 e5 t5 k5 => ?_) (fun k' G5 e5 f5 k5 => ?_)
          · have s5 := s4.kp k5
            have o5 := QS.oo k5
            simp only [e5, pb] at hS
            have kv : Kp (Bw1 b) G5 (am_wI G5 (728 + b) 1 (wn v)) := (Kp.refl G5).wI (show Bw1 b (728 + b) 1 from rfl) _
            simp +decide (disch := omega) only [↓wm1, wb190_89 hc, wb190_90 hc, wb190_105 hc, w0, w1, w2, w5, w7, w9, w59, w60, w91, w93, rI_wI, rP_wI, rL_wI, rI_wR, rP_wR, is_wI, is_wR, ia_wI, ia_wR, ow_wI, ow_wR, wn_add, wn_mul, wn_cl, wn_le, wn_lt, wn_inj, wn_ne1, wn_1ne, wn_gt1, wn_le1, nb0, nb1, am_kt, am_rt, List.cons_append, List.nil_append, true_and, and_true, not_true_eq_false, not_false_eq_true, imp_f, imp_t, implies_true, Nat.zero_add, if_true, if_false, false_and, and_false, fM s5, fr727 s5, hb80, n8, c5, c7]
            refine fin v q _ _ (s5.kp kv) (t5.b1 kv) ?_ ?_ (fun _ => by rw [rI_wI, if_pos ⟨rfl, rfl⟩]) ((kk4.trans (O8.ms o5)).trans (Bw1.ms hb80 kv)) hS
            · rw [kv.i (by unfold Bw1; omega), o5.i (by unfold O8; omega)]; exact x28
            · rw [rI_wI, if_neg (by omega), o5.i (by unfold O8; omega)]; exact x0
          · have s5 := s4.kp k5
            simp only [e5, pb] at hS
            have kv : Kp (Bw1 b) G5 (am_wI G5 (728 + b) 1 (wn 0)) := (Kp.refl G5).wI (show Bw1 b (728 + b) 1 from rfl) _
            simp +decide (disch := omega) only [↓wm1, wb190_89 hc, wb190_90 hc, wb190_105 hc, w0, w1, w2, w5, w7, w9, w59, w60, w91, w93, rI_wI, rP_wI, rL_wI, rI_wR, rP_wR, is_wI, is_wR, ia_wI, ia_wR, ow_wI, ow_wR, wn_add, wn_mul, wn_cl, wn_le, wn_lt, wn_inj, wn_ne1, wn_1ne, wn_gt1, wn_le1, nb0, nb1, am_kt, am_rt, List.cons_append, List.nil_append, true_and, and_true, not_true_eq_false, not_false_eq_true, imp_f, imp_t, implies_true, Nat.zero_add, if_true, if_false, false_and, and_false, fM s5, fr727 s5, hb80, n8, c5, c7]
            exact ct190_f hb80 (s5.kp kv) (f5.b1 kv) (fun GG ff kk => kbad _ _ GG hS.symm ff (((kk4.trans (O8.ms (QS.oo k5))).trans (Bw1.ms hb80 kv)).trans kk))
end
