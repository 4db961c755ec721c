/-! A work, the reference's side: the whole. -/
section
variable {G G' : am_G} {d : Nat} {V : Vt}
theorem rf_wn {n : Nat} (hR : RepR G V) (hn : n ≤ vm V) (hn2 : n ≤ 150) : am_C am_T (d + 80) 205 [.ref 334, .int (wn n)] G (OR G (s_wn V n) 1 (.inl (q_wn V n))) := by
  have hc := am_C_one am_T (d + 79)
  obtain ⟨hsh, hv, tp, tm, di, im, bk, ct⟩ := hR.parts
  have hw := hv.2.2.2.2.2.2.1
  have hi3 := hv.2.2.2.2.2.2.2.2.1
  have hk7 := hv.2.2.2.2.2.2.2.2.2.2.1
  have hm6 := hv.2.1
  have n6 : n ≤ 600 := by omega
  have hvin := vin2_t (lo := 0) (Nat.zero_le n) (show n < vm V + 1 by omega) (by omega)
  have k0 := k0R G
  have s0 := hsh.kp k0
  have e0 := e0R G
  have t1 : am_gI (am_wI G 334 0 (wn 0)) 334 1 = wn (vm V) := by rw [rI_wI, if_neg (by decide)]; exact tp.2.1
  have d0 : am_gI (am_wI G 334 0 (wn 0)) 334 34 = wn (vw V) := by rw [rI_wI, if_neg (by decide)]; exact di.2.1
  have i0 : am_is G 334 12 := (fM hsh).1
  unfold s_wn q_wn
  rw [we205]
  by_cases c : vw V = 16
  · rw [if_pos c, if_pos c]
    generalize hP : OR G _ _ _ = P
    rw [wb205_0 hc]
    generalize hG0 : am_wI G 334 0 (wn 0) = G0 at *
    simp +decide (disch := omega) only [↓wm1, wb205_15 hc, wb205_18 hc, wb205_29 hc, wb205_30 hc, wb205_35 hc, wb205_40 hc, wb205_49 hc, w0, w1, w16, w150, rI_wI, rP_wI, rL_wI, rI_wR, rP_wR, is_wI, is_wR, ia_wI, ia_wR, ow_wI, ow_wR, wn_add, wn_mul, wn_cl, wn_le, wn_lt, wn_inj, wn_ne1, wn_1ne, wn_gt1, wn_le1, nb0, nb1, am_kt, am_rt, List.cons_append, List.nil_append, true_and, and_true, not_true_eq_false, not_false_eq_true, imp_f, imp_t, implies_true, Nat.zero_add, if_true, if_false, false_and, and_false, hG0, i0, fM s0, t1, ct153c, hvin, b01, hn2, ct152n s0 e0, d0, c]
    rw [← hP]
    have kk : Kp SPR G (am_wI (am_wI G0 334 1 (wn 0)) 334 3 mm) := ((k0.mono (fun a i z => show SPR a i from Or.inl z)).wI (Or.inr ⟨rfl, Or.inl rfl⟩) _).wI (Or.inr ⟨rfl, Or.inr rfl⟩) _
    have e : ∀ a i, ¬ SPR a i → am_gI (am_wI (am_wI G0 334 1 (wn 0)) 334 3 mm) a i = am_gI G a i := fun a i z => kk.i z
    refine ⟨RepR.mk (hsh.kp kk) (vV_wful hv) ⟨tp.1.kp kk (by intro i z; unfold SPR QSR at z; omega), ?_, ?_⟩ (tm.eq2 (fun a i z => e a i (by unfold SPR QSR; omega))) (DiR.eq di hw (fun a i z => e a i (by unfold SPR QSR; omega))) (ImR.eq im hi3 (fun a i z => e a i (by unfold SPR QSR; omega)))
      (LB.eq bk hk7 (fun a i z => e a i (by unfold SPR QSR; omega))) (CtR.eq ct (fun a i z => e a i (by unfold SPR QSR; omega))), kk.mono (fun a i z => SPR_rs z), rfl, ?_⟩
    · rw [rI_wI, if_neg (by decide), rI_wI, if_pos ⟨rfl, rfl⟩]; rfl
    · rw [rI_wI, if_pos ⟨rfl, rfl⟩]; rfl
    · rw [rI_wI, if_neg (by decide), rI_wI, if_neg (by decide)]; exact e0
  · rw [if_neg c, if_neg c]
    have cw : vw V < 16 := by omega
    generalize hP : OR G _ _ _ = P
    rw [wb205_0 hc]
    generalize hG0 : am_wI G 334 0 (wn 0) = G0 at *
    simp +decide (disch := omega) only [↓wm1, wb205_15 hc, wb205_18 hc, wb205_29 hc, wb205_30 hc, wb205_35 hc, wb205_40 hc, wb205_62 hc, w0, w1, w16, w150, rI_wI, rP_wI, rL_wI, rI_wR, rP_wR, is_wI, is_wR, ia_wI, ia_wR, ow_wI, ow_wR, wn_add, wn_mul, wn_cl, wn_le, wn_lt, wn_inj, wn_ne1, wn_1ne, wn_gt1, wn_le1, nb0, nb1, am_kt, am_rt, List.cons_append, List.nil_append, true_and, and_true, not_true_eq_false, not_false_eq_true, imp_f, imp_t, implies_true, Nat.zero_add, if_true, if_false, false_and, and_false, hG0, i0, fM s0, t1, ct153c, hvin, b01, hn2, ct152n s0 e0, d0, c]
    refine ct171 s0 (t := vt V) (tp.1.kp k0 (by intro i z; unfold QSR at z; omega)) n6 (fun G1 r1 e41 e71 e61 k1 => ?_)
    have s1 := s0.kp k1
    have k2 : Kp (fun a i => a = 334 ∧ i = 28) G1 (am_wI G1 334 28 (wn 0)) := (Kp.refl G1).wI ⟨rfl, rfl⟩ _
    have s2 := s1.kp k2
    have r2 := r1.kp k2 (fun a i z => by omega)
    have kk2 : Kp SPR G (am_wI G1 334 28 (wn 0)) := ((k0.mono (fun a i z => show SPR a i from Or.inl z)).trans (k1.mono (fun a i z => by unfold SPR QSR; omega))).trans (k2.mono (fun a i z => by unfold SPR QSR; omega))
    have z0 : am_gI (am_wI G1 334 28 (wn 0)) 334 0 = wn 0 := by rw [k2.i (by omega), k1.i (by omega)]; exact e0
    have x4 : am_gI (am_wI G1 334 28 (wn 0)) 334 4 = wn (skb (vt V) n 0) := by rw [k2.i (by omega)]; exact e41
    have x28 : am_gI (am_wI G1 334 28 (wn 0)) 334 28 = wn 0 := by rw [rI_wI, if_pos ⟨rfl, rfl⟩]
    have xB : am_gI (am_wI G1 334 28 (wn 0)) 338 0 = wn (dB (vδ V)) := by rw [kk2.i (by unfold SPR QSR; omega)]; exact tm.1.1
    simp +decide (disch := omega) only [↓wm1, wb205_67 hc, w0, w1, w16, w150, rI_wI, rP_wI, rL_wI, rI_wR, rP_wR, is_wI, is_wR, ia_wI, ia_wR, ow_wI, ow_wR, wn_add, wn_mul, wn_cl, wn_le, wn_lt, wn_inj, wn_ne1, wn_1ne, wn_gt1, wn_le1, nb0, nb1, am_kt, am_rt, List.cons_append, List.nil_append, true_and, and_true, not_true_eq_false, not_false_eq_true, imp_f, imp_t, implies_true, Nat.zero_add, if_true, if_false, false_and, and_false, fM s1]
    generalize am_wI G1 334 28 (wn 0) = G2 at k2 s2 r2 kk2 z0 x4 x28 xB ⊢
    have hX : pwork (vt V) n (dB (vδ V)) = pb (ptp (vt V) n (pss (vt V) n (dB (vδ V)) 6) 151 (skb (vt V) n 0) 0) (fun x => .inr x.2) := rfl
    refine ct205_l (X := ptp (vt V) n (pss (vt V) n (dB (vδ V)) 6) 151 (skb (vt V) n 0) 0) hv.2.2.2.1.1 hn2 (fun q R G3 e3 r3 c3 l3 k3 => ?_) (fun k w G3 e3 f3 k3 => ?_) 151 (skb (vt V) n 0) [] G2 _ (by omega) s2 xB r2 x4 x28 (Nat.zero_le _) (rPm.nil G2 0) (Kp.refl G2) ?_
    · rw [e3] at hX
      simp only [pb] at hX
      obtain ⟨R50, Rew⟩ := pwork_ok hn2 hX
      rw [hX] at hP
      simp only [] at hP
      have s3 := s2.kp k3
      have z5 := r3.2.2.2.2.2.2.2.2.1
      have kk3 : Kp SPR G G3 := kk2.trans (k3.mono (fun a i z => by unfold MSw at z; unfold SPR QSR; omega))
      have d3 : am_gI G3 334 34 = wn (vw V) := by rw [kk3.i (by unfold SPR QSR; omega)]; exact di.2.1
      have k4 : Kp (fun a i => a = 334 ∧ i = 3) G3 (am_wI G3 334 3 mm) := (Kp.refl G3).wI ⟨rfl, rfl⟩ _
      simp +decide (disch := omega) only [↓wm1, wb205_101 hc, wb205_113 hc, w0, w1, w16, w150, rI_wI, rP_wI, rL_wI, rI_wR, rP_wR, is_wI, is_wR, ia_wI, ia_wR, ow_wI, ow_wR, wn_add, wn_mul, wn_cl, wn_le, wn_lt, wn_inj, wn_ne1, wn_1ne, wn_gt1, wn_le1, nb0, nb1, am_kt, am_rt, List.cons_append, List.nil_append, true_and, and_true, not_true_eq_false, not_false_eq_true, imp_f, imp_t, implies_true, Nat.zero_add, if_true, if_false, false_and, and_false, fM s3, z5, d3, fr810 s3, cw, ra_wI]
      refine ct178 (s3.kp k4) h808 (mrw cw) (by omega) (fun G5 f5 k5 => ?_)
      have s5 := (s3.kp k4).kp k5
      have k35 : Kp (fun a i => (a = 334 ∧ i = 3) ∨ a = 811 + vw V) G3 G5 := (k4.mono (fun a i z => Or.inl z)).trans (k5.mono (fun a i z => Or.inr z))
      have d5 : am_gI G5 334 34 = wn (vw V) := by rw [k35.i (by omega)]; exact d3
      have c5 : am_gI G5 334 28 = wn R.length := by rw [k35.i (by omega)]; exact c3
      have k6 : Kp (fun a i => a = 334 ∧ (i = 34 ∨ i = 35 ∨ i = 38 ∨ i = 39)) G5 (am_wI (am_wI (am_wI (am_wI G5 334 34 (wn (vw V + 1))) 334 38 (wn 0)) 334 39 (wn 0)) 334 35 (wn 0)) := ((((Kp.refl G5).wI ⟨rfl, by decide⟩ _).wI ⟨rfl, by decide⟩ _).wI ⟨rfl, by decide⟩ _).wI ⟨rfl, by decide⟩ _
      have σ3 : rW G3 808 0 (vσ V) := di.1.eq (fun i => kk3.i (by unfold SPR QSR; omega))
      have C6 : rCr (am_wI (am_wI (am_wI (am_wI G5 334 34 (wn (vw V + 1))) 334 38 (wn 0)) 334 39 (wn 0)) 334 35 (wn 0)) (0, 0, 0, vσ V) := by
        refine ⟨by simp [rI_wI], by simp [rI_wI], by simp [rI_wI], ?_⟩
        exact σ3.eq (fun i => by rw [k6.i (by omega), k35.i (by omega)])
      have d6 : am_gI (am_wI (am_wI (am_wI (am_wI G5 334 34 (wn (vw V + 1))) 334 38 (wn 0)) 334 39 (wn 0)) 334 35 (wn 0)) 334 34 = wn (vw V + 1) := by simp [rI_wI]
      simp +decide (disch := omega) only [↓wm1, wb205_134 hc, w0, w1, w16, w150, rI_wI, rP_wI, rL_wI, rI_wR, rP_wR, is_wI, is_wR, ia_wI, ia_wR, ow_wI, ow_wR, wn_add, wn_mul, wn_cl, wn_le, wn_lt, wn_inj, wn_ne1, wn_1ne, wn_gt1, wn_le1, nb0, nb1, am_kt, am_rt, List.cons_append, List.nil_append, true_and, and_true, not_true_eq_false, not_false_eq_true, imp_f, imp_t, implies_true, Nat.zero_add, if_true, if_false, false_and, and_false, fM s5, d5, c5]
      generalize am_wI (am_wI (am_wI (am_wI G5 334 34 (wn (vw V + 1))) 334 38 (wn 0)) 334 39 (wn 0)) 334 35 (wn 0) = G6 at k6 C6 d6 ⊢
      have s6 := s5.kp k6
      have P6 : rPR G6 (ofR R) R.length := fun i hi => by
        have z := l3 i _ (ofR_get hi)
        rw [Nat.zero_add] at z
        rw [k6.i (by omega), k35.i (by omega), k6.i (by omega), k35.i (by omega), k6.i (by omega), k35.i (by omega)]
        exact z
      have T6 : Tm G6 (vδ V) (vΛ V) := tm.eq2 (fun a i z => by rw [k6.i (by omega), k35.i (by omega)]; exact kk3.i (by unfold SPR QSR; omega))
      refine ct204 (d := d + 19) (wfE_R Rew) (by omega) 50 50 0 R.length (0, 0, 0, vσ V) G6 _ (Nat.le_refl _) (by omega) (Nat.le_refl _) (by decide) s6 T6 P6 C6 ⟨Nat.zero_le _, hv.2.2.2.2.2.1⟩ (fun G7 C7 k7 => ?_)
      have s7 := s6.kp k7
      change rCr G7 (wres V R) at C7
      obtain ⟨y1, y2, y3, y4⟩ := C7
      simp +decide (disch := omega) only [↓wm1, wb205_168 hc, w0, w1, w16, w150, rI_wI, rP_wI, rL_wI, rI_wR, rP_wR, is_wI, is_wR, ia_wI, ia_wR, ow_wI, ow_wR, wn_add, wn_mul, wn_cl, wn_le, wn_lt, wn_inj, wn_ne1, wn_1ne, wn_gt1, wn_le1, nb0, nb1, am_kt, am_rt, List.cons_append, List.nil_append, true_and, and_true, not_true_eq_false, not_false_eq_true, imp_f, imp_t, implies_true, Nat.zero_add, if_true, if_false, false_and, and_false, fM s7, y2]
      rw [← hP]
      have kk : Kp (fun a i => SPR a i ∨ (a = 334 ∧ (i = 34 ∨ i = 35)) ∨ a = 811 + vw V ∨ a = 808) G G7 := (((kk3.mono (fun a i z => Or.inl z)).trans (k35.mono (fun a i z => by unfold SPR; omega))).trans (k6.mono (fun a i z => by unfold SPR QSR; omega))).trans (k7.mono (fun a i z => by unfold WM PM at z; unfold SPR QSR; omega))
      have e : ∀ a i, ¬ (SPR a i ∨ (a = 334 ∧ (i = 34 ∨ i = 35)) ∨ a = 811 + vw V ∨ a = 808) → am_gI G7 a i = am_gI G a i := fun a i z => kk.i z
      have e8 : ∀ i, i < 9 → i ≠ 3 → am_gI G7 334 i = am_gI G3 334 i := fun i h1 h2 => by rw [k7.i (by unfold WM PM; omega), k6.i (by omega), k35.i (by omega)]
      refine ⟨RepR.mk s7 (vV_wnew hv cw Rew) ⟨⟨hv.1, fun i hi => by rw [e _ _ (by unfold SPR QSR; omega)]; exact tp.1.2 i hi⟩, ?_, ?_⟩ (tm.eq2 (fun a i z => e a i (by unfold SPR QSR; omega))) ⟨y4, ?_, fun i hi => ?_⟩ (ImR.eq im hi3 (fun a i z => e a i (by unfold SPR QSR; omega))) (LB.eq bk hk7 (fun a i z => e a i (by unfold SPR QSR; omega))) ⟨y3, ?_, ?_⟩, kk.mono (fun a i z => ?_), rfl, ?_⟩
      · rw [e8 1 (by decide) (by decide)]; exact r3.2.2.2.2.2.1
      · rw [k7.i (by unfold WM PM; omega), k6.i (by omega), k5.i (by omega), rI_wI, if_pos ⟨rfl, rfl⟩]; rfl
      · show am_gI G7 334 34 = wn (vw V + 1)
        rw [k7.i (by unfold WM PM; omega)]; exact d6
      · change i < vw V + 1 at hi
        show rW G7 (811 + i) 0 (if i = vw V then vσ V else vb V i)
        by_cases ei : i = vw V
        · rw [if_pos ei, ei]
          intro j hj
          have z := σ3 j hj
          rw [Nat.zero_add] at z ⊢
          rw [k7.i (by unfold WM PM; omega), k6.i (by omega), f5 j hj, k4.i (by omega)]
          exact z
        · rw [if_neg ei]
          exact (di.2.2 i (by omega)).eq (fun j => e _ j (by unfold SPR QSR; omega))
      · rw [e _ _ (by unfold SPR QSR; omega)]; exact ct.2.1
      · rw [e _ _ (by unfold SPR QSR; omega)]; exact ct.2.2
      · unfold SPR QSR at z; unfold RS; omega
      · rw [e8 0 (by decide) (by decide), k3.i (by unfold MSw; omega)]; exact z0
    · rw [e3] at hX
      simp only [pb] at hX
      rw [hX] at hP
      simp only [] at hP
      have s3 := s2.kp k3
      have y5 := f3.2.2.2.2.2.2.1
      have c0 : ¬ k = 0 := by have := f3.2.2.2.2.2.1; omega
      have c3 : k < 2147483648 := by have := f3.2.2.2.2.2.1; omega
      have kk3 : Kp SPR G G3 := kk2.trans (k3.mono (fun a i z => by unfold MSw at z; unfold SPR QSR; omega))
      simp +decide (disch := omega) only [↓wm1, wb205_101 hc, wb205_108 hc, wb205_112 hc, w0, w1, w16, w150, rI_wI, rP_wI, rL_wI, rI_wR, rP_wR, is_wI, is_wR, ia_wI, ia_wR, ow_wI, ow_wR, wn_add, wn_mul, wn_cl, wn_le, wn_lt, wn_inj, wn_ne1, wn_1ne, wn_gt1, wn_le1, nb0, nb1, am_kt, am_rt, List.cons_append, List.nil_append, true_and, and_true, not_true_eq_false, not_false_eq_true, imp_f, imp_t, implies_true, Nat.zero_add, if_true, if_false, false_and, and_false, fM s3, y5, c0, ct172 s3 f3]
      rw [← hP]
      refine OR_bad hR (kk3.wI (Or.inr ⟨rfl, Or.inr rfl⟩) _) ?_ ?_ ?_
      · rw [rI_wI, if_neg (by decide), k3.i (by unfold MSw; omega)]; exact z0
      · rw [rI_wI, if_neg (by decide)]; exact f3.2.2.1
      · rw [rI_wI, if_pos ⟨rfl, rfl⟩]
    · rw [show ([] : List Et).length = 0 from rfl]
      rcases ptp (vt V) n (pss (vt V) n (dB (vδ V)) 6) 151 (skb (vt V) n 0) 0 with e | y
      · rfl
      · rfl
theorem rf_work (hR : RepR G V) (x : Int32) : am_C am_T (d + 80) 205 [.ref 334, .int x] G (OR G (s_work V x) 1 (q_work V x)) := by
  have hm6 := hR.parts.2.1.2.1
  unfold s_work q_work
  rcases vin2_or x 0 (min (vm V) 150 + 1) (by decide) (by omega) with ⟨b, -, hb, rfl⟩ | hx
  · rw [vin2_t (lo := 0) (Nat.zero_le b) hb (by omega), if_pos rfl, if_pos rfl, wn_cl (by omega)]
    exact rf_wn hR (by omega) (by omega)
  · rw [vin2_f hx, if_neg (by decide), if_neg (by decide)]
    have hc := am_C_one am_T (d + 79)
    have t1 : am_gI (am_wI G 334 0 (wn 0)) 334 1 = wn (vm V) := by rw [rI_wI, if_neg (by decide)]; exact hR.parts.2.2.1.2.1
    have s0 := hR.1.kp (k0R G)
    rw [we205]
    generalize hP : OR G _ _ _ = P
    rcases vin2_or x 0 (vm V + 1) (by decide) (by omega) with ⟨b, -, hb, rfl⟩ | hx2
    · have hv := vin2_t (lo := 0) (Nat.zero_le b) hb (by omega)
      have hb2 : ¬ b ≤ 150 := by
        intro z
        rcases hx with y | y
        · rw [wn_lt (by omega) (by decide)] at y; omega
        · rw [wn_lt (by omega) (by omega)] at y; omega
      simp +decide (disch := omega) only [↓wm1, wb205_0 hc, wb205_15 hc, wb205_18 hc, wb205_25 hc, wb205_30 hc, wb205_35 hc, wb205_38 hc, w0, w1, w16, w150, rI_wI, rP_wI, rL_wI, rI_wR, rP_wR, is_wI, is_wR, ia_wI, ia_wR, ow_wI, ow_wR, wn_add, wn_mul, wn_cl, wn_le, wn_lt, wn_inj, wn_ne1, wn_1ne, wn_gt1, wn_le1, nb0, nb1, am_kt, am_rt, List.cons_append, List.nil_append, true_and, and_true, not_true_eq_false, not_false_eq_true, imp_f, imp_t, implies_true, Nat.zero_add, if_true, if_false, false_and, and_false, fM hR.1, t1, hR.parts.2.2.1.2.1, ct153c, hv, b01, hb2, ct152y (c := 1) (r := 1) (by decide) (by decide) (by decide) s0 (e0R G)]
      rw [← hP]
      exact OR_8 hR (k0R G)
    · have hv := vin2_f hx2
      simp +decide (disch := omega) only [↓wm1, wb205_0 hc, wb205_15 hc, wb205_25 hc, wb205_30 hc, wb205_35 hc, wb205_38 hc, w0, w1, w16, w150, rI_wI, rP_wI, rL_wI, rI_wR, rP_wR, is_wI, is_wR, ia_wI, ia_wR, ow_wI, ow_wR, wn_add, wn_mul, wn_cl, wn_le, wn_lt, wn_inj, wn_ne1, wn_1ne, wn_gt1, wn_le1, nb0, nb1, am_kt, am_rt, List.cons_append, List.nil_append, true_and, and_true, not_true_eq_false, not_false_eq_true, imp_f, imp_t, implies_true, Nat.zero_add, if_true, if_false, false_and, and_false, fM hR.1, t1, hR.parts.2.2.1.2.1, ct153c, hv, b01, Bool.false_eq_true, ct152y (c := 1) (r := 1) (by decide) (by decide) (by decide) s0 (e0R G)]
      rw [← hP]
      exact OR_8 hR (k0R G)
end
