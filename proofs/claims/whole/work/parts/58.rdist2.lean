/-! The reference's reading of a district: deeds, damp, a clause, all clauses. -/
section
variable {G : am_G} {d n p o : Nat} {t : Nat → Nat} {δ : Dt} {post : am_O → am_G → Prop}
theorem ct175_b2 {p0 c : Nat} (hsh : Sh G) (h : rQ G t n p o) (hr : rEr G δ) (hv : vD δ) (hB : dD δ < 8) (h7 : am_gI G 334 7 = wn c)
    (kok : ∀ q δ' G', pb (pdeed t n p p0 δ) (fun x => pb (psgn t n x.1 59) (fun q => .inr (q, x.2))) = .inr (q, δ') → rQ G' t n q o → rEr G' δ' → am_gI G' 334 7 = wn c → Kp CS G G' → post (.inl none) G')
    (kbad : ∀ k w G', pb (pdeed t n p p0 δ) (fun x => pb (psgn t n x.1 59) (fun q => .inr (q, x.2))) = .inl (k, w) → fQ G' t n k w → Kp CS G G' → post (.inl none) G') : am_W (am_C am_T (d + 4)) am_175 post 190 [some (.ref 334), some (.int (wn 2)), some (.int (wn (dD δ))), none] [] G := by
  have hc := am_C_one am_T (d + 4)
  obtain ⟨r1, r2, r3, r4, r5, r6, r7⟩ := hr
  have hBn : ¬ dD δ = 8 := by omega
  have hH : dH δ ≤ 7 := hv.2.1
  unfold pdeed at kok kbad
  rw [if_neg hBn] at kok kbad
  rw [wb175_190 hc]
  simp +decide (disch := omega) only [↓wm1, w0, w1, rI_wI, rP_wI, rL_wI, rI_wR, rP_wR, is_wI, is_wR, ia_wI, ia_wR, ow_wI, ow_wR, wn_add, wn_mul, wn_cl, wn_le, wn_lt, wn_inj, wn_ne1, wn_1ne, wn_gt1, wn_le1, nb0, nb1, am_kt, am_rt, List.cons_append, List.nil_append, true_and, and_true, not_true_eq_false, not_false_eq_true, imp_f, imp_t, implies_true, Nat.zero_add, if_true, if_false, fM hsh, fr369 hsh, ia337 hsh, r2]
  refine ct163 (lo := 0) (hi := dH δ) hsh h rfl (by decide) (by omega) (fun u q1 G1 e1 h1 k1 => ?_) (fun kk G1 e1 h1 k1 => ?_)
  · have s1 := hsh.kp k1
    simp +decide (disch := omega) only [↓wm1, wb175_210 hc, w0, w1, w2, w3, w9, w30, w59, w60, w200, rI_wI, rP_wI, rL_wI, rI_wR, rP_wR, is_wI, is_wR, ia_wI, ia_wR, ow_wI, ow_wR, wn_add, wn_mul, wn_cl, wn_le, wn_lt, wn_inj, wn_ne1, wn_1ne, wn_gt1, wn_le1, nb0, nb1, am_kt, am_rt, List.cons_append, List.nil_append, true_and, and_true, not_true_eq_false, not_false_eq_true, imp_f, imp_t, implies_true, Nat.zero_add, if_true, if_false, fM s1, fr369 s1, ra_wI, rP_wI]
    refine ct163 (G := am_wI G1 (370 + dD δ) 0 (wn u)) (lo := 0) (hi := 10) s1 (h1.wI _ (by omega)) rfl (by decide) (by decide) (fun v q2 G2 e2 h2 k2 => ?_) (fun kk G2 e2 h2 k2 => ?_)
    · have s2 := Sh.kp (G := am_wI G1 (370 + dD δ) 0 (wn u)) s1 k2
      simp +decide (disch := omega) only [↓wm1, wb175_225 hc, w0, w1, w2, w3, w9, w30, w59, w60, w200, rI_wI, rP_wI, rL_wI, rI_wR, rP_wR, is_wI, is_wR, ia_wI, ia_wR, ow_wI, ow_wR, wn_add, wn_mul, wn_cl, wn_le, wn_lt, wn_inj, wn_ne1, wn_1ne, wn_gt1, wn_le1, nb0, nb1, am_kt, am_rt, List.cons_append, List.nil_append, true_and, and_true, not_true_eq_false, not_false_eq_true, imp_f, imp_t, implies_true, Nat.zero_add, if_true, if_false, fM s2, fr369 s2, ra_wI, rP_wI]
      have kG2 : Kp CS G (am_wI G2 (370 + dD δ) 1 (wn v)) := ((k1.cs.wI (by unfold CS; omega) _).trans k2.cs).wI (by unfold CS; omega) _
      refine ct163 (G := am_wI G2 (370 + dD δ) 1 (wn v)) (lo := 1) (hi := 201) s2 (h2.wI _ (by omega)) rfl (by decide) (by decide) (fun w q3 G3 e3 h3 k3 => ?_) (fun kk G3 e3 h3 k3 => ?_)
      · have s3 := Sh.kp (G := am_wI G2 (370 + dD δ) 1 (wn v)) s2 k3
        simp only [e1, pb, e2, e3] at kok kbad
        simp +decide (disch := omega) only [↓wm1, wb175_241 hc, w0, w1, w2, w3, w9, w30, w59, w60, w200, rI_wI, rP_wI, rL_wI, rI_wR, rP_wR, is_wI, is_wR, ia_wI, ia_wR, ow_wI, ow_wR, wn_add, wn_mul, wn_cl, wn_le, wn_lt, wn_inj, wn_ne1, wn_1ne, wn_gt1, wn_le1, nb0, nb1, am_kt, am_rt, List.cons_append, List.nil_append, true_and, and_true, not_true_eq_false, not_false_eq_true, imp_f, imp_t, implies_true, Nat.zero_add, if_true, if_false, fM s3, fr369 s3]
        rw [wb175_270 hc]
        simp +decide (disch := omega) only [↓wm1, w0, w1, rI_wI, rP_wI, rL_wI, rI_wR, rP_wR, is_wI, is_wR, ia_wI, ia_wR, ow_wI, ow_wR, wn_add, wn_mul, wn_cl, wn_le, wn_lt, wn_inj, wn_ne1, wn_1ne, wn_gt1, wn_le1, nb0, nb1, am_kt, am_rt, List.cons_append, List.nil_append, true_and, and_true, not_true_eq_false, not_false_eq_true, imp_f, imp_t, implies_true, Nat.zero_add, if_true, if_false, fM s3]
        have kG : Kp CS G (am_wI G3 (370 + dD δ) 2 (wn w)) := (kG2.trans k3.cs).wI (by unfold CS; omega) _
        refine ct169 (G := am_wI G3 (370 + dD δ) 2 (wn w)) s3 (h3.wI _ (by omega)) (by decide) (fun q4 G4 e4 h4 k4 => ?_) (fun G4 e4 h4 k4 => ?_)
        · have s4 := Sh.kp (G := am_wI G3 (370 + dD δ) 2 (wn w)) s3 k4
          simp only [e4] at kok
          have f5 := h4.2.2.2.2.2.2.2.2.1
          have kk : ∀ b j, 337 ≤ b → ¬ (b = 370 + dD δ ∧ (j = 0 ∨ j = 1 ∨ j = 2)) → am_gI G4 b j = am_gI G b j := by
            intro b j z1 z2
            rw [k4.i (by unfold QS; omega), rI_wI, if_neg (by omega), k3.i (by unfold QS; omega), rI_wI, if_neg (by omega), k2.i (by unfold QS; omega), rI_wI, if_neg (by omega), k1.i (by unfold QS; omega)]
          have g0 : am_gI G4 337 2 = wn (dD δ) := by rw [kk _ _ (by omega) (by omega)]; exact r3
          have f0 : am_gI G4 (370 + dD δ) 0 = wn u := by
            rw [k4.i (by unfold QS; omega), rI_wI, if_neg (by omega), k3.i (by unfold QS; omega), rI_wI, if_neg (by omega), k2.i (by unfold QS; omega), rI_wI, if_pos ⟨rfl, rfl⟩]
          have f1 : am_gI G4 (370 + dD δ) 1 = wn v := by
            rw [k4.i (by unfold QS; omega), rI_wI, if_neg (by omega), k3.i (by unfold QS; omega), rI_wI, if_pos ⟨rfl, rfl⟩]
          have f2 : am_gI G4 (370 + dD δ) 2 = wn w := by
            rw [k4.i (by unfold QS; omega), rI_wI, if_pos ⟨rfl, rfl⟩]
          simp +decide (disch := omega) only [↓wm1, wb175_276 hc, wb175_281 hc, wb175_295 hc, wb175_300 hc, wb175_302 hc, w0, w1, w2, w3, w9, w30, w59, w60, w200, rI_wI, rP_wI, rL_wI, rI_wR, rP_wR, is_wI, is_wR, ia_wI, ia_wR, ow_wI, ow_wR, wn_add, wn_mul, wn_cl, wn_le, wn_lt, wn_inj, wn_ne1, wn_1ne, wn_gt1, wn_le1, nb0, nb1, am_kt, am_rt, List.cons_append, List.nil_append, true_and, and_true, not_true_eq_false, not_false_eq_true, imp_f, imp_t, implies_true, Nat.zero_add, if_true, if_false, fM s4, ia337 s4, ow337 s4, g0, f5]
          refine kok q4 (addE δ u v w) _ rfl (h4.wI _ (by decide)) ⟨?_, ?_, ?_, ?_, fun b hb => ?_, fun b hb => ?_, fun b hb => ?_⟩ ?_ ((kG.trans k4.cs).wI (Or.inr (Or.inl rfl)) _)
          · rw [rI_wI, if_neg (by omega), kk _ _ (by omega) (by omega)]; exact r1
          · rw [rI_wI, if_neg (by omega), kk _ _ (by omega) (by omega)]; exact r2
          · rw [rI_wI, if_pos ⟨rfl, rfl⟩]; rfl
          · rw [rI_wI, if_neg (by omega), kk _ _ (by omega) (by omega)]; exact r4
          · have hb7 : b < 8 := by have := hv.1; change b < dB δ at hb; omega
            rw [rI_wI, if_neg (by omega), rI_wI, if_neg (by omega), kk _ _ (by omega) (by omega), kk _ _ (by omega) (by omega)]
            exact r5 b hb
          · have hb7 : b < 8 := by have := hv.2.1; change b < dH δ at hb; omega
            rw [rI_wI, if_neg (by omega), rI_wI, if_neg (by omega), kk _ _ (by omega) (by omega), kk _ _ (by omega) (by omega)]
            exact r6 b hb
          · change b < dD δ + 1 at hb
            show am_gI _ (370 + b) 0 = wn (up1 (eH δ) (dD δ) u b) ∧ am_gI _ (370 + b) 1 = wn (up1 (eM δ) (dD δ) v b) ∧ am_gI _ (370 + b) 2 = wn (up1 (eN δ) (dD δ) w b)
            rw [rI_wI, if_neg (by omega), rI_wI, if_neg (by omega), rI_wI, if_neg (by omega)]
            by_cases e : b = dD δ
            · subst e
              rw [up1_s, up1_s, up1_s]
              exact ⟨f0, f1, f2⟩
            · rw [up1_o _ _ e, up1_o _ _ e, up1_o _ _ e, kk _ _ (by omega) (by omega), kk _ _ (by omega) (by omega), kk _ _ (by omega) (by omega)]
              exact r7 b (by omega)
          · rw [rI_wI, if_neg (by omega), k4.i (by unfold QS; omega), rI_wI, if_neg (by omega), k3.i (by unfold QS; omega), rI_wI, if_neg (by omega), k2.i (by unfold QS; omega), rI_wI, if_neg (by omega), k1.i (by unfold QS; omega)]; exact h7
        · have s4 := Sh.kp (G := am_wI G3 (370 + dD δ) 2 (wn w)) s3 k4
          simp only [e4] at kbad
          simp +decide (disch := omega) only [↓wm1, w0, w1, rI_wI, rP_wI, rL_wI, rI_wR, rP_wR, is_wI, is_wR, ia_wI, ia_wR, ow_wI, ow_wR, wn_add, wn_mul, wn_cl, wn_le, wn_lt, wn_inj, wn_ne1, wn_1ne, wn_gt1, wn_le1, nb0, nb1, am_kt, am_rt, List.cons_append, List.nil_append, true_and, and_true, not_true_eq_false, not_false_eq_true, imp_f, imp_t, implies_true, Nat.zero_add, if_true, if_false, am_kt]
          exact ct175_tg s4 h4 (by decide) (fun G5 h5 k5 => kbad 1 q3 G5 rfl h5 ((kG.trans k4.cs).trans k5))
      · have s3 := Sh.kp (G := am_wI G2 (370 + dD δ) 1 (wn v)) s2 k3
        simp only [e1, pb, e2, e3] at kbad
        simp +decide (disch := omega) only [↓wm1, wb175_241 hc, w0, w1, w2, w3, w9, w30, w59, w60, w200, rI_wI, rP_wI, rL_wI, rI_wR, rP_wR, is_wI, is_wR, ia_wI, ia_wR, ow_wI, ow_wR, wn_add, wn_mul, wn_cl, wn_le, wn_lt, wn_inj, wn_ne1, wn_1ne, wn_gt1, wn_le1, nb0, nb1, am_kt, am_rt, List.cons_append, List.nil_append, true_and, and_true, not_true_eq_false, not_false_eq_true, imp_f, imp_t, implies_true, Nat.zero_add, if_true, if_false, fM s3, fr369 s3]
        exact ct175_tf (G := am_wI G3 (370 + dD δ) 2 (wn 0)) (by decide) s3 (h3.wI _ (by omega)) (fun G5 h5 k5 => kbad kk q2 G5 rfl h5 (((kG2.trans k3.cs).wI (by unfold CS; omega) _).trans k5))
    · have s2 := Sh.kp (G := am_wI G1 (370 + dD δ) 0 (wn u)) s1 k2
      simp only [e1, pb, e2] at kbad
      have h2' : fQ (am_wI G2 (370 + dD δ) 1 (wn 0)) t n kk q1 := h2.wI _ (by omega)
      simp +decide (disch := omega) only [↓wm1, wb175_225 hc, w0, w1, w2, w3, w9, w30, w59, w60, w200, rI_wI, rP_wI, rL_wI, rI_wR, rP_wR, is_wI, is_wR, ia_wI, ia_wR, ow_wI, ow_wR, wn_add, wn_mul, wn_cl, wn_le, wn_lt, wn_inj, wn_ne1, wn_1ne, wn_gt1, wn_le1, nb0, nb1, am_kt, am_rt, List.cons_append, List.nil_append, true_and, and_true, not_true_eq_false, not_false_eq_true, imp_f, imp_t, implies_true, Nat.zero_add, if_true, if_false, fM s2, fr369 s2, ra_wI, rP_wI]
      rw [ct163f (G := am_wI G2 (370 + dD δ) 1 (wn 0)) s2 h2']
      simp +decide (disch := omega) only [↓wm1, wb175_241 hc, w0, w1, w2, w3, w9, w30, w59, w60, w200, rI_wI, rP_wI, rL_wI, rI_wR, rP_wR, is_wI, is_wR, ia_wI, ia_wR, ow_wI, ow_wR, wn_add, wn_mul, wn_cl, wn_le, wn_lt, wn_inj, wn_ne1, wn_1ne, wn_gt1, wn_le1, nb0, nb1, am_kt, am_rt, List.cons_append, List.nil_append, true_and, and_true, not_true_eq_false, not_false_eq_true, imp_f, imp_t, implies_true, Nat.zero_add, if_true, if_false, fM s2, fr369 s2]
      exact ct175_tf (G := am_wI (am_wI G2 (370 + dD δ) 1 (wn 0)) (370 + dD δ) 2 (wn 0)) (by decide) s2 (h2'.wI _ (by omega)) (fun G5 h5 k5 => kbad kk q1 G5 rfl h5 (((((k1.cs.wI (by unfold CS; omega) _).trans k2.cs).wI (by unfold CS; omega) _).wI (by unfold CS; omega) _).trans k5))
  · have s1 := hsh.kp k1
    simp only [e1, pb] at kbad
    have h1' : fQ (am_wI G1 (370 + dD δ) 0 (wn 0)) t n kk p := h1.wI _ (by omega)
    have h1'' : fQ (am_wI (am_wI G1 (370 + dD δ) 0 (wn 0)) (370 + dD δ) 1 (wn 0)) t n kk p := h1'.wI _ (by omega)
    simp +decide (disch := omega) only [↓wm1, wb175_210 hc, w0, w1, w2, w3, w9, w30, w59, w60, w200, rI_wI, rP_wI, rL_wI, rI_wR, rP_wR, is_wI, is_wR, ia_wI, ia_wR, ow_wI, ow_wR, wn_add, wn_mul, wn_cl, wn_le, wn_lt, wn_inj, wn_ne1, wn_1ne, wn_gt1, wn_le1, nb0, nb1, am_kt, am_rt, List.cons_append, List.nil_append, true_and, and_true, not_true_eq_false, not_false_eq_true, imp_f, imp_t, implies_true, Nat.zero_add, if_true, if_false, fM s1, fr369 s1, ra_wI, rP_wI]
    rw [ct163f (G := am_wI G1 (370 + dD δ) 0 (wn 0)) s1 h1']
    simp +decide (disch := omega) only [↓wm1, wb175_225 hc, w0, w1, w2, w3, w9, w30, w59, w60, w200, rI_wI, rP_wI, rL_wI, rI_wR, rP_wR, is_wI, is_wR, ia_wI, ia_wR, ow_wI, ow_wR, wn_add, wn_mul, wn_cl, wn_le, wn_lt, wn_inj, wn_ne1, wn_1ne, wn_gt1, wn_le1, nb0, nb1, am_kt, am_rt, List.cons_append, List.nil_append, true_and, and_true, not_true_eq_false, not_false_eq_true, imp_f, imp_t, implies_true, Nat.zero_add, if_true, if_false, fM s1, fr369 s1, ra_wI, rP_wI]
    rw [ct163f (G := am_wI (am_wI G1 (370 + dD δ) 0 (wn 0)) (370 + dD δ) 1 (wn 0)) s1 h1'']
    simp +decide (disch := omega) only [↓wm1, wb175_241 hc, w0, w1, w2, w3, w9, w30, w59, w60, w200, rI_wI, rP_wI, rL_wI, rI_wR, rP_wR, is_wI, is_wR, ia_wI, ia_wR, ow_wI, ow_wR, wn_add, wn_mul, wn_cl, wn_le, wn_lt, wn_inj, wn_ne1, wn_1ne, wn_gt1, wn_le1, nb0, nb1, am_kt, am_rt, List.cons_append, List.nil_append, true_and, and_true, not_true_eq_false, not_false_eq_true, imp_f, imp_t, implies_true, Nat.zero_add, if_true, if_false, fM s1, fr369 s1]
    exact ct175_tf (G := am_wI (am_wI (am_wI G1 (370 + dD δ) 0 (wn 0)) (370 + dD δ) 1 (wn 0)) (370 + dD δ) 2 (wn 0)) (by decide) s1 (h1''.wI _ (by omega)) (fun G5 h5 k5 => kbad kk p G5 rfl h5 ((((k1.cs.wI (by unfold CS; omega) _).wI (by unfold CS; omega) _).wI (by unfold CS; omega) _).trans k5))
theorem ct175_b3 {c : Nat} {o2 : Option Value} (hsh : Sh G) (h : rQ G t n p o) (hr : rEr G δ) (hv : vD δ) (h7 : am_gI G 334 7 = wn c)
    (kok : ∀ q δ' G', pb (pdamp t n p δ) (fun x => pb (psgn t n x.1 59) (fun q => .inr (q, x.2))) = .inr (q, δ') → rQ G' t n q o → rEr G' δ' → am_gI G' 334 7 = wn c → Kp CS G G' → post (.inl none) G')
    (kbad : ∀ k w G', pb (pdamp t n p δ) (fun x => pb (psgn t n x.1 59) (fun q => .inr (q, x.2))) = .inl (k, w) → fQ G' t n k w → Kp CS G G' → post (.inl none) G') : am_W (am_C am_T (d + 4)) am_175 post 245 [some (.ref 334), some (.int (wn 3)), o2, none] [] G := by
  have hc := am_C_one am_T (d + 4)
  unfold pdamp at kok kbad
  rw [wb175_245 hc]
  simp +decide (disch := omega) only [↓wm1, w0, w1, rI_wI, rP_wI, rL_wI, rI_wR, rP_wR, is_wI, is_wR, ia_wI, ia_wR, ow_wI, ow_wR, wn_add, wn_mul, wn_cl, wn_le, wn_lt, wn_inj, wn_ne1, wn_1ne, wn_gt1, wn_le1, nb0, nb1, am_kt, am_rt, List.cons_append, List.nil_append, true_and, and_true, not_true_eq_false, not_false_eq_true, imp_f, imp_t, implies_true, Nat.zero_add, if_true, if_false, fM hsh]
  refine ct163 (lo := 0) (hi := 10) hsh h rfl (by decide) (by decide) (fun v q1 G1 e1 h1 k1 => ?_) (fun kk G1 e1 h1 k1 => ?_)
  · have s1 := hsh.kp k1
    have f5 := h1.2.2.2.2.2.2.2.2.1
    simp only [e1, pb] at kok kbad
    simp +decide (disch := omega) only [↓wm1, wb175_252 hc, wb175_260 hc, w0, w1, w2, w3, w9, w30, w59, w60, w200, rI_wI, rP_wI, rL_wI, rI_wR, rP_wR, is_wI, is_wR, ia_wI, ia_wR, ow_wI, ow_wR, wn_add, wn_mul, wn_cl, wn_le, wn_lt, wn_inj, wn_ne1, wn_1ne, wn_gt1, wn_le1, nb0, nb1, am_kt, am_rt, List.cons_append, List.nil_append, true_and, and_true, not_true_eq_false, not_false_eq_true, imp_f, imp_t, implies_true, Nat.zero_add, if_true, if_false, fM s1, f5, ow337 s1]
    rw [wb175_270 hc]
    simp +decide (disch := omega) only [↓wm1, w0, w1, rI_wI, rP_wI, rL_wI, rI_wR, rP_wR, is_wI, is_wR, ia_wI, ia_wR, ow_wI, ow_wR, wn_add, wn_mul, wn_cl, wn_le, wn_lt, wn_inj, wn_ne1, wn_1ne, wn_gt1, wn_le1, nb0, nb1, am_kt, am_rt, List.cons_append, List.nil_append, true_and, and_true, not_true_eq_false, not_false_eq_true, imp_f, imp_t, implies_true, Nat.zero_add, if_true, if_false, fM s1]
    have kG : Kp CS G (am_wI G1 337 3 (wn v)) := k1.cs.wI (Or.inr (Or.inl rfl)) _
    refine ct169 (G := am_wI G1 337 3 (wn v)) s1 (h1.wI _ (by omega)) (by decide) (fun q2 G2 e2 h2 k2 => ?_) (fun G2 e2 h2 k2 => ?_)
    · simp only [e2] at kok
      simp +decide (disch := omega) only [↓wm1, wb175_276 hc, wb175_302 hc, w0, w1, w2, w3, w9, w30, w59, w60, w200, rI_wI, rP_wI, rL_wI, rI_wR, rP_wR, is_wI, is_wR, ia_wI, ia_wR, ow_wI, ow_wR, wn_add, wn_mul, wn_cl, wn_le, wn_lt, wn_inj, wn_ne1, wn_1ne, wn_gt1, wn_le1, nb0, nb1, am_kt, am_rt, List.cons_append, List.nil_append, true_and, and_true, not_true_eq_false, not_false_eq_true, imp_f, imp_t, implies_true, Nat.zero_add, if_true, if_false]
      have kk : ∀ b j, 337 ≤ b → ¬ (b = 337 ∧ j = 3) → am_gI G2 b j = am_gI G b j := by
        intro b j z1 z2
        rw [k2.i (by unfold QS; omega), rI_wI, if_neg (by omega), k1.i (by unfold QS; omega)]
      obtain ⟨r1, r2, r3, r4, r5, r6, r7⟩ := hr
      refine kok q2 (setW δ v) G2 rfl h2 ⟨?_, ?_, ?_, ?_, fun b hb => ?_, fun b hb => ?_, fun b hb => ?_⟩ ?_ (kG.trans k2.cs)
      · rw [kk _ _ (by omega) (by omega)]; exact r1
      · rw [kk _ _ (by omega) (by omega)]; exact r2
      · rw [kk _ _ (by omega) (by omega)]; exact r3
      · rw [k2.i (by unfold QS; omega), rI_wI, if_pos ⟨rfl, rfl⟩]; rfl
      · rw [kk _ _ (by omega) (by omega), kk _ _ (by omega) (by omega)]; exact r5 b hb
      · rw [kk _ _ (by omega) (by omega), kk _ _ (by omega) (by omega)]; exact r6 b hb
      · rw [kk _ _ (by omega) (by omega), kk _ _ (by omega) (by omega), kk _ _ (by omega) (by omega)]; exact r7 b hb
      · rw [k2.i (by unfold QS; omega), rI_wI, if_neg (by omega), k1.i (by unfold QS; omega)]; exact h7
    · simp only [e2] at kbad
      simp +decide (disch := omega) only [↓wm1, w0, w1, rI_wI, rP_wI, rL_wI, rI_wR, rP_wR, is_wI, is_wR, ia_wI, ia_wR, ow_wI, ow_wR, wn_add, wn_mul, wn_cl, wn_le, wn_lt, wn_inj, wn_ne1, wn_1ne, wn_gt1, wn_le1, nb0, nb1, am_kt, am_rt, List.cons_append, List.nil_append, true_and, and_true, not_true_eq_false, not_false_eq_true, imp_f, imp_t, implies_true, Nat.zero_add, if_true, if_false, am_kt]
      exact ct175_tg (Sh.kp (G := am_wI G1 337 3 (wn v)) s1 k2) h2 (by decide) (fun G3 h3 k3 => kbad 1 q1 G3 rfl h3 ((kG.trans k2.cs).trans k3))
  · have s1 := hsh.kp k1
    have f5 := h1.2.2.2.2.2.2.1
    have hkk : ¬ kk = 0 := by have := h1.2.2.2.2.2.1; omega
    have hk3 : kk < 2147483648 := by have := h1.2.2.2.2.2.1; omega
    simp only [e1, pb] at kbad
    simp +decide (disch := omega) only [↓wm1, wb175_252 hc, w0, w1, w2, w3, w9, w30, w59, w60, w200, rI_wI, rP_wI, rL_wI, rI_wR, rP_wR, is_wI, is_wR, ia_wI, ia_wR, ow_wI, ow_wR, wn_add, wn_mul, wn_cl, wn_le, wn_lt, wn_inj, wn_ne1, wn_1ne, wn_gt1, wn_le1, nb0, nb1, am_kt, am_rt, List.cons_append, List.nil_append, true_and, and_true, not_true_eq_false, not_false_eq_true, imp_f, imp_t, implies_true, Nat.zero_add, if_true, if_false, fM s1, f5, hkk]
    exact ct175_tf (by decide) s1 h1 (fun G3 h3 k3 => kbad kk p G3 rfl h3 (k1.cs.trans k3))
theorem ct175 {c : Nat} (hsh : Sh G) (h : rQ G t n p o) (hr : rEr G δ) (hv : vD δ) (h7 : am_gI G 334 7 = wn c) (hc60 : c ≤ 60)
    (kok : ∀ q δ' G', pcl t n p c δ = .inr (q, δ') → rQ G' t n q o → rEr G' δ' → am_gI G' 334 7 = wn (c + 1) → Kp CS G G' → post (.inl none) G')
    (kbad : ∀ k w G', pcl t n p c δ = .inl (k, w) → fQ G' t n k w → Kp CS G G' → post (.inl none) G') : am_C am_T (d + 6) 175 [.ref 334] G post := by
  have hc := am_C_one am_T (d + 5)
  rw [we175]
  simp +decide (disch := omega) only [↓wm1, wb175_0 hc, w0, w1, w2, w3, w9, w30, w59, w60, w200, rI_wI, rP_wI, rL_wI, rI_wR, rP_wR, is_wI, is_wR, ia_wI, ia_wR, ow_wI, ow_wR, wn_add, wn_mul, wn_cl, wn_le, wn_lt, wn_inj, wn_ne1, wn_1ne, wn_gt1, wn_le1, nb0, nb1, am_kt, am_rt, List.cons_append, List.nil_append, true_and, and_true, not_true_eq_false, not_false_eq_true, imp_f, imp_t, implies_true, Nat.zero_add, if_true, if_false, fM hsh]
  refine ct173 hsh h (fun G1 h1 e1 k1 => ?_)
  have s1 := hsh.kp k1
  have hr1 := hr.kp hv k1 (by rintro q i z ⟨z1, -⟩; omega)
  have g7 : am_gI G1 334 7 = wn c := by rw [k1.i (by rintro ⟨-, z⟩; omega)]; exact h7
  have f5 := h1.2.2.2.2.2.2.2.2.1
  unfold pcl at kok kbad
  cases hw : wi0 (wrd t n p) with
  | none =>
    simp only [hw] at kbad
    have g := fQ_of (k := 1) (w := p) h1 (by decide)
    have g5 := g.2.2.2.2.2.2.1
    simp only [oi]
    simp +decide (disch := omega) only [↓wm1, wb175_4 hc, wb175_10 hc, wb175_19 hc, wb175_58 hc, wb175_65 hc, w0, w1, w2, w3, w9, w30, w59, w60, w200, rI_wI, rP_wI, rL_wI, rI_wR, rP_wR, is_wI, is_wR, ia_wI, ia_wR, ow_wI, ow_wR, wn_add, wn_mul, wn_cl, wn_le, wn_lt, wn_inj, wn_ne1, wn_1ne, wn_gt1, wn_le1, nb0, nb1, am_kt, am_rt, List.cons_append, List.nil_append, true_and, and_true, not_true_eq_false, not_false_eq_true, imp_f, imp_t, implies_true, Nat.zero_add, if_true, if_false, fM s1, e1, ct160 s1 f5, g5]
    exact kbad 1 p _ rfl g (k1.cs4.trans (kp_q G1 1 p).cs)
  | some k =>
    have hk4 : k < 4 := by
      unfold wi0 at hw
      repeat' split at hw
      all_goals first | (cases hw; decide) | cases hw
    simp only [hw] at kok kbad
    simp only [oi]
    obtain ⟨r1, r2, r3, r4, r5, r6, r7⟩ := hr1
    have full : (pbody t n (skb t n (lte t n p)) p δ k = .inl (3, p)) ∧ c ≠ 60 ∨ c = 60 → am_W (am_C am_T (d + 5)) am_175 post 49 [some (.ref 334), some (.int (wn k)), none, none] [] G1 := by
      intro hf
      have g := fQ_of (k := 3) (w := p) h1 (by decide)
      have g5 := g.2.2.2.2.2.2.1
      simp +decide (disch := omega) only [↓wm1, wb175_49 hc, wb175_58 hc, wb175_65 hc, w0, w1, w2, w3, w9, w30, w59, w60, w200, rI_wI, rP_wI, rL_wI, rI_wR, rP_wR, is_wI, is_wR, ia_wI, ia_wR, ow_wI, ow_wR, wn_add, wn_mul, wn_cl, wn_le, wn_lt, wn_inj, wn_ne1, wn_1ne, wn_gt1, wn_le1, nb0, nb1, am_kt, am_rt, List.cons_append, List.nil_append, true_and, and_true, not_true_eq_false, not_false_eq_true, imp_f, imp_t, implies_true, Nat.zero_add, if_true, if_false, fM s1, e1, ct160 s1 f5, g5]
      refine kbad 3 p _ ?_ g (k1.cs4.trans (kp_q G1 3 p).cs)
      rcases hf with ⟨a, b⟩ | a
      · rw [if_neg b, a]; rfl
      · rw [if_pos a]
    by_cases c2 : c = 60
    · simp +decide (disch := omega) only [↓wm1, wb175_4 hc, wb175_22 hc, w0, w1, w2, w3, w9, w30, w59, w60, w200, rI_wI, rP_wI, rL_wI, rI_wR, rP_wR, is_wI, is_wR, ia_wI, ia_wR, ow_wI, ow_wR, wn_add, wn_mul, wn_cl, wn_le, wn_lt, wn_inj, wn_ne1, wn_1ne, wn_gt1, wn_le1, nb0, nb1, am_kt, am_rt, List.cons_append, List.nil_append, true_and, and_true, not_true_eq_false, not_false_eq_true, imp_f, imp_t, implies_true, Nat.zero_add, if_true, if_false, fM s1, g7, c2]
      exact full (Or.inr c2)
    · rw [if_neg c2] at kok kbad
      have go : (k = 0 → dB δ < 6) → (k = 1 → dH δ < 7) → (k = 2 → dD δ < 8) → am_W (am_C am_T (d + 5)) am_175 post 66 [some (.ref 334), some (.int (wn k)), none, none] [] G1 := by
        intro z0 z1 z2
        rw [wb175_66 hc]
        simp +decide (disch := omega) only [↓wm1, w0, w1, rI_wI, rP_wI, rL_wI, rI_wR, rP_wR, is_wI, is_wR, ia_wI, ia_wR, ow_wI, ow_wR, wn_add, wn_mul, wn_cl, wn_le, wn_lt, wn_inj, wn_ne1, wn_1ne, wn_gt1, wn_le1, nb0, nb1, am_kt, am_rt, List.cons_append, List.nil_append, true_and, and_true, not_true_eq_false, not_false_eq_true, imp_f, imp_t, implies_true, Nat.zero_add, if_true, if_false, fM s1]
        refine ct167 s1 h1 e1 (fun G2 h2 k2 => ?_)
        have s2 := s1.kp k2
        have q7 : am_gI G2 334 7 = wn c := by rw [k2.i (by rintro ⟨-, z⟩; omega)]; exact g7
        have hr2 : rEr G2 δ := rEr.kp ⟨r1, r2, r3, r4, r5, r6, r7⟩ hv k2 (by rintro q i z ⟨y1, -⟩; omega)
        have kx : Kp (fun a i => a = 334 ∧ i = 7) G2 (am_wI G2 334 7 (wn (c + 1))) := (Kp.refl G2).wI ⟨rfl, rfl⟩ _
        have h3 : rQ (am_wI G2 334 7 (wn (c + 1))) t n (skb t n (lte t n p)) o := by
          obtain ⟨a1, a2, a3, a4, a5, a6, a7, ⟨x, x1, x2, x3⟩, a9, a10⟩ := h2
          exact ⟨a1.kp kx (by rintro i ⟨z, -⟩; omega), a2, a3, a4, a5, by rw [rI_wI, if_neg (by omega)]; exact a6, by rw [rI_wI, if_neg (by omega)]; exact a7, ⟨x, x1, x2, by rw [rI_wI, if_neg (by omega)]; exact x3⟩, by rw [rI_wI, if_neg (by omega)]; exact a9, by rw [rI_wI, if_neg (by omega)]; exact a10⟩
        have hr3 : rEr (am_wI G2 334 7 (wn (c + 1))) δ := hr2.kp hv kx (by rintro q i z ⟨y1, -⟩; omega)
        have g3 : am_gI (am_wI G2 334 7 (wn (c + 1))) 334 7 = wn (c + 1) := by rw [rI_wI, if_pos ⟨rfl, rfl⟩]
        have kG : Kp CS G (am_wI G2 334 7 (wn (c + 1))) := (k1.cs4.trans k2.cs4).wI (Or.inl ⟨rfl, by decide, by decide⟩) _
        have s3 : Sh (am_wI G2 334 7 (wn (c + 1))) := s2
        obtain ⟨u1, u2, u3, -⟩ := hr2
        have hk' : k = 0 ∨ k = 1 ∨ k = 2 ∨ k = 3 := by omega
        rcases hk' with rfl | rfl | rfl | rfl
        · simp +decide (disch := omega) only [↓wm1, wb175_70 hc, wb175_85 hc, wb175_95 hc, w0, w1, w2, w3, w9, w30, w59, w60, w200, rI_wI, rP_wI, rL_wI, rI_wR, rP_wR, is_wI, is_wR, ia_wI, ia_wR, ow_wI, ow_wR, wn_add, wn_mul, wn_cl, wn_le, wn_lt, wn_inj, wn_ne1, wn_1ne, wn_gt1, wn_le1, nb0, nb1, am_kt, am_rt, List.cons_append, List.nil_append, true_and, and_true, not_true_eq_false, not_false_eq_true, imp_f, imp_t, implies_true, Nat.zero_add, if_true, if_false, fM s2, q7, ia337 s2, u1]
          simp only [am_swc_iff]
          rw [show am_swt (wn 0) (wn 0) [124, 157, 190] 245 = 124 from by decide +kernel]
          exact ct175_b0 (d := d + 1) (c := c + 1) s3 h3 hr3 hv (z0 rfl) g3 (fun q δ' G' e a1 a2 a3 a4 => kok q δ' G' e a1 a2 a3 (kG.trans a4)) (fun k w G' e a1 a2 => kbad k w G' e a1 (kG.trans a2))
        · simp +decide (disch := omega) only [↓wm1, wb175_70 hc, wb175_85 hc, wb175_95 hc, w0, w1, w2, w3, w9, w30, w59, w60, w200, rI_wI, rP_wI, rL_wI, rI_wR, rP_wR, is_wI, is_wR, ia_wI, ia_wR, ow_wI, ow_wR, wn_add, wn_mul, wn_cl, wn_le, wn_lt, wn_inj, wn_ne1, wn_1ne, wn_gt1, wn_le1, nb0, nb1, am_kt, am_rt, List.cons_append, List.nil_append, true_and, and_true, not_true_eq_false, not_false_eq_true, imp_f, imp_t, implies_true, Nat.zero_add, if_true, if_false, fM s2, q7, ia337 s2, u2]
          simp only [am_swc_iff]
          rw [show am_swt (wn 1) (wn 0) [124, 157, 190] 245 = 157 from by decide +kernel]
          exact ct175_b1 (d := d + 1) (c := c + 1) s3 h3 hr3 hv (z1 rfl) g3 (fun q δ' G' e a1 a2 a3 a4 => kok q δ' G' e a1 a2 a3 (kG.trans a4)) (fun k w G' e a1 a2 => kbad k w G' e a1 (kG.trans a2))
        · simp +decide (disch := omega) only [↓wm1, wb175_70 hc, wb175_85 hc, wb175_95 hc, w0, w1, w2, w3, w9, w30, w59, w60, w200, rI_wI, rP_wI, rL_wI, rI_wR, rP_wR, is_wI, is_wR, ia_wI, ia_wR, ow_wI, ow_wR, wn_add, wn_mul, wn_cl, wn_le, wn_lt, wn_inj, wn_ne1, wn_1ne, wn_gt1, wn_le1, nb0, nb1, am_kt, am_rt, List.cons_append, List.nil_append, true_and, and_true, not_true_eq_false, not_false_eq_true, imp_f, imp_t, implies_true, Nat.zero_add, if_true, if_false, fM s2, q7, ia337 s2, u3]
          simp only [am_swc_iff]
          rw [show am_swt (wn 2) (wn 0) [124, 157, 190] 245 = 190 from by decide +kernel]
          exact ct175_b2 (d := d + 1) (c := c + 1) s3 h3 hr3 hv (z2 rfl) g3 (fun q δ' G' e a1 a2 a3 a4 => kok q δ' G' e a1 a2 a3 (kG.trans a4)) (fun k w G' e a1 a2 => kbad k w G' e a1 (kG.trans a2))
        · simp +decide (disch := omega) only [↓wm1, wb175_70 hc, wb175_94 hc, wb175_95 hc, w0, w1, w2, w3, w9, w30, w59, w60, w200, rI_wI, rP_wI, rL_wI, rI_wR, rP_wR, is_wI, is_wR, ia_wI, ia_wR, ow_wI, ow_wR, wn_add, wn_mul, wn_cl, wn_le, wn_lt, wn_inj, wn_ne1, wn_1ne, wn_gt1, wn_le1, nb0, nb1, am_kt, am_rt, List.cons_append, List.nil_append, true_and, and_true, not_true_eq_false, not_false_eq_true, imp_f, imp_t, implies_true, Nat.zero_add, if_true, if_false, fM s2, q7, ia337 s2]
          simp only [am_swc_iff]
          rw [show am_swt (wn 3) (wn 0) [124, 157, 190] 245 = 245 from by decide +kernel]
          exact ct175_b3 (d := d + 1) (c := c + 1) s3 h3 hr3 hv g3 (fun q δ' G' e a1 a2 a3 a4 => kok q δ' G' e a1 a2 a3 (kG.trans a4)) (fun k w G' e a1 a2 => kbad k w G' e a1 (kG.trans a2))
      have hB6 := hv.1
      have hH7 := hv.2.1
      have hD8 := hv.2.2.1
      have hk' : k = 0 ∨ k = 1 ∨ k = 2 ∨ k = 3 := by omega
      rcases hk' with rfl | rfl | rfl | rfl
      · by_cases cc : dB δ = 6 + 0
        · simp +decide (disch := omega) only [↓wm1, wb175_4 hc, wb175_22 hc, wb175_31 hc, wb175_36 hc, wb175_46 hc, w0, w1, w2, w3, w9, w30, w59, w60, w200, rI_wI, rP_wI, rL_wI, rI_wR, rP_wR, is_wI, is_wR, ia_wI, ia_wR, ow_wI, ow_wR, wn_add, wn_mul, wn_cl, wn_le, wn_lt, wn_inj, wn_ne1, wn_1ne, wn_gt1, wn_le1, nb0, nb1, am_kt, am_rt, List.cons_append, List.nil_append, true_and, and_true, not_true_eq_false, not_false_eq_true, imp_f, imp_t, implies_true, Nat.zero_add, if_true, if_false, fM s1, g7, c2, ia337 s1, r1, ct174, cc]
          exact full (Or.inl ⟨by show pbell t n _ p δ = _; unfold pbell; rw [if_pos (by omega)], c2⟩)
        · simp +decide (disch := omega) only [↓wm1, wb175_4 hc, wb175_22 hc, wb175_31 hc, wb175_36 hc, wb175_46 hc, w0, w1, w2, w3, w9, w30, w59, w60, w200, rI_wI, rP_wI, rL_wI, rI_wR, rP_wR, is_wI, is_wR, ia_wI, ia_wR, ow_wI, ow_wR, wn_add, wn_mul, wn_cl, wn_le, wn_lt, wn_inj, wn_ne1, wn_1ne, wn_gt1, wn_le1, nb0, nb1, am_kt, am_rt, List.cons_append, List.nil_append, true_and, and_true, not_true_eq_false, not_false_eq_true, imp_f, imp_t, implies_true, Nat.zero_add, if_true, if_false, fM s1, g7, c2, ia337 s1, r1, ct174, cc]
          rw [wb175_58 hc, f5]
          simp +decide (disch := omega) only [↓wm1, w0, w1, rI_wI, rP_wI, rL_wI, rI_wR, rP_wR, is_wI, is_wR, ia_wI, ia_wR, ow_wI, ow_wR, wn_add, wn_mul, wn_cl, wn_le, wn_lt, wn_inj, wn_ne1, wn_1ne, wn_gt1, wn_le1, nb0, nb1, am_kt, am_rt, List.cons_append, List.nil_append, true_and, and_true, not_true_eq_false, not_false_eq_true, imp_f, imp_t, implies_true, Nat.zero_add, if_true, if_false, fM s1]
          exact go (fun _ => by omega) (fun z => by omega) (fun z => by omega)
      · by_cases cc : dH δ = 6 + 1
        · simp +decide (disch := omega) only [↓wm1, wb175_4 hc, wb175_22 hc, wb175_31 hc, wb175_36 hc, wb175_46 hc, w0, w1, w2, w3, w9, w30, w59, w60, w200, rI_wI, rP_wI, rL_wI, rI_wR, rP_wR, is_wI, is_wR, ia_wI, ia_wR, ow_wI, ow_wR, wn_add, wn_mul, wn_cl, wn_le, wn_lt, wn_inj, wn_ne1, wn_1ne, wn_gt1, wn_le1, nb0, nb1, am_kt, am_rt, List.cons_append, List.nil_append, true_and, and_true, not_true_eq_false, not_false_eq_true, imp_f, imp_t, implies_true, Nat.zero_add, if_true, if_false, fM s1, g7, c2, ia337 s1, r2, ct174, cc]
          exact full (Or.inl ⟨by show phous t n _ p δ = _; unfold phous; rw [if_pos (by omega)], c2⟩)
        · simp +decide (disch := omega) only [↓wm1, wb175_4 hc, wb175_22 hc, wb175_31 hc, wb175_36 hc, wb175_46 hc, w0, w1, w2, w3, w9, w30, w59, w60, w200, rI_wI, rP_wI, rL_wI, rI_wR, rP_wR, is_wI, is_wR, ia_wI, ia_wR, ow_wI, ow_wR, wn_add, wn_mul, wn_cl, wn_le, wn_lt, wn_inj, wn_ne1, wn_1ne, wn_gt1, wn_le1, nb0, nb1, am_kt, am_rt, List.cons_append, List.nil_append, true_and, and_true, not_true_eq_false, not_false_eq_true, imp_f, imp_t, implies_true, Nat.zero_add, if_true, if_false, fM s1, g7, c2, ia337 s1, r2, ct174, cc]
          rw [wb175_58 hc, f5]
          simp +decide (disch := omega) only [↓wm1, w0, w1, rI_wI, rP_wI, rL_wI, rI_wR, rP_wR, is_wI, is_wR, ia_wI, ia_wR, ow_wI, ow_wR, wn_add, wn_mul, wn_cl, wn_le, wn_lt, wn_inj, wn_ne1, wn_1ne, wn_gt1, wn_le1, nb0, nb1, am_kt, am_rt, List.cons_append, List.nil_append, true_and, and_true, not_true_eq_false, not_false_eq_true, imp_f, imp_t, implies_true, Nat.zero_add, if_true, if_false, fM s1]
          exact go (fun z => by omega) (fun _ => by omega) (fun z => by omega)
      · by_cases cc : dD δ = 6 + 2
        · simp +decide (disch := omega) only [↓wm1, wb175_4 hc, wb175_22 hc, wb175_31 hc, wb175_36 hc, wb175_46 hc, w0, w1, w2, w3, w9, w30, w59, w60, w200, rI_wI, rP_wI, rL_wI, rI_wR, rP_wR, is_wI, is_wR, ia_wI, ia_wR, ow_wI, ow_wR, wn_add, wn_mul, wn_cl, wn_le, wn_lt, wn_inj, wn_ne1, wn_1ne, wn_gt1, wn_le1, nb0, nb1, am_kt, am_rt, List.cons_append, List.nil_append, true_and, and_true, not_true_eq_false, not_false_eq_true, imp_f, imp_t, implies_true, Nat.zero_add, if_true, if_false, fM s1, g7, c2, ia337 s1, r3, ct174, cc]
          exact full (Or.inl ⟨by show pdeed t n _ p δ = _; unfold pdeed; rw [if_pos (by omega)], c2⟩)
        · simp +decide (disch := omega) only [↓wm1, wb175_4 hc, wb175_22 hc, wb175_31 hc, wb175_36 hc, wb175_46 hc, w0, w1, w2, w3, w9, w30, w59, w60, w200, rI_wI, rP_wI, rL_wI, rI_wR, rP_wR, is_wI, is_wR, ia_wI, ia_wR, ow_wI, ow_wR, wn_add, wn_mul, wn_cl, wn_le, wn_lt, wn_inj, wn_ne1, wn_1ne, wn_gt1, wn_le1, nb0, nb1, am_kt, am_rt, List.cons_append, List.nil_append, true_and, and_true, not_true_eq_false, not_false_eq_true, imp_f, imp_t, implies_true, Nat.zero_add, if_true, if_false, fM s1, g7, c2, ia337 s1, r3, ct174, cc]
          rw [wb175_58 hc, f5]
          simp +decide (disch := omega) only [↓wm1, w0, w1, rI_wI, rP_wI, rL_wI, rI_wR, rP_wR, is_wI, is_wR, ia_wI, ia_wR, ow_wI, ow_wR, wn_add, wn_mul, wn_cl, wn_le, wn_lt, wn_inj, wn_ne1, wn_1ne, wn_gt1, wn_le1, nb0, nb1, am_kt, am_rt, List.cons_append, List.nil_append, true_and, and_true, not_true_eq_false, not_false_eq_true, imp_f, imp_t, implies_true, Nat.zero_add, if_true, if_false, fM s1]
          exact go (fun z => by omega) (fun z => by omega) (fun _ => by omega)
      · simp +decide (disch := omega) only [↓wm1, wb175_4 hc, wb175_22 hc, wb175_31 hc, w0, w1, w2, w3, w9, w30, w59, w60, w200, rI_wI, rP_wI, rL_wI, rI_wR, rP_wR, is_wI, is_wR, ia_wI, ia_wR, ow_wI, ow_wR, wn_add, wn_mul, wn_cl, wn_le, wn_lt, wn_inj, wn_ne1, wn_1ne, wn_gt1, wn_le1, nb0, nb1, am_kt, am_rt, List.cons_append, List.nil_append, true_and, and_true, not_true_eq_false, not_false_eq_true, imp_f, imp_t, implies_true, Nat.zero_add, if_true, if_false, fM s1, g7, c2]
        rw [wb175_58 hc, f5]
        simp +decide (disch := omega) only [↓wm1, w0, w1, rI_wI, rP_wI, rL_wI, rI_wR, rP_wR, is_wI, is_wR, ia_wI, ia_wR, ow_wI, ow_wR, wn_add, wn_mul, wn_cl, wn_le, wn_lt, wn_inj, wn_ne1, wn_1ne, wn_gt1, wn_le1, nb0, nb1, am_kt, am_rt, List.cons_append, List.nil_append, true_and, and_true, not_true_eq_false, not_false_eq_true, imp_f, imp_t, implies_true, Nat.zero_add, if_true, if_false, fM s1]
        exact go (fun z => by omega) (fun z => by omega) (fun z => by omega)
end
