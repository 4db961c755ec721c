/-! The law, the reference's side: the whole. -/
section
variable {G G' : am_G} {d : Nat} {V : Vt}
theorem rf_ln {n : Nat} (hR : RepR G V) (hn : n ≤ vm V) (hn2 : n ≤ 150) : am_C am_T (d + 40) 186 [.ref 334, .int (wn n)] G (OR G (s_ln V n) 1 (.inl (q_ln V n))) := by
  have hc := am_C_one am_T (d + 39)
  obtain ⟨hsh, hv, tp, tm, di, im, bk, ct⟩ := hR.parts
  have hw := hv.2.2.2.2.2.2.1
  have hi3 := hv.2.2.2.2.2.2.2.2.1
  have hk7 := hv.2.2.2.2.2.2.2.2.2.2.1
  have hm6 := hv.2.1
  have n6 : n ≤ 600 := by omega
  have hvin := vin2_t (lo := 0) (Nat.zero_le n) (show n < vm V + 1 by omega) (by omega)
  have k0 := k0R G
  have s0 := hsh.kp k0
  have e0 := e0R G
  have t1 : am_gI (am_wI G 334 0 (wn 0)) 334 1 = wn (vm V) := by rw [rI_wI, if_neg (by decide)]; exact tp.2.1
  rw [we186]
  generalize hP : OR G _ _ _ = P
  rw [wb186_0 hc]
  generalize hG0 : am_wI G 334 0 (wn 0) = G0 at *
  have i0 : am_is G 334 12 := (fM hsh).1
  simp +decide (disch := omega) only [↓wm1, wb186_15 hc, wb186_18 hc, wb186_29 hc, wb186_30 hc, wb186_35 hc, wb186_40 hc, w0, w1, w150, rI_wI, rP_wI, rL_wI, rI_wR, rP_wR, is_wI, is_wR, ia_wI, ia_wR, ow_wI, ow_wR, wn_add, wn_mul, wn_cl, wn_le, wn_lt, wn_inj, wn_ne1, wn_1ne, wn_gt1, wn_le1, nb0, nb1, am_kt, am_rt, List.cons_append, List.nil_append, true_and, and_true, not_true_eq_false, not_false_eq_true, imp_f, imp_t, implies_true, Nat.zero_add, if_true, if_false, false_and, and_false, hG0, i0, fM s0, t1, ct153c, hvin, b01, hn2, ct152n s0 e0]
  refine ct171 s0 (t := vt V) (tp.1.kp k0 (by intro i z; unfold QSR at z; omega)) n6 (fun G1 r1 e41 e71 e61 k1 => ?_)
  have s1 := s0.kp k1
  have k2 : Kp LQ G1 (am_wI G1 334 20 (wn 0)) := (Kp.refl G1).wI (Or.inl ⟨rfl, Or.inr rfl⟩) _
  have s2 := s1.kp k2
  have r2 : rQ (am_wI G1 334 20 (wn 0)) (vt V) n (skb (vt V) n 0) 0 := r1.kp (Sc := fun a i => a = 334 ∧ i = 20) ((Kp.refl G1).wI ⟨rfl, rfl⟩ _) (fun a i z => by omega)
  have l2 : rLs (am_wI G1 334 20 (wn 0)) [] := ⟨by rw [rI_wI, if_pos ⟨rfl, rfl⟩]; rfl, fun i t ht => by simp at ht⟩
  have kk2 : Kp SPR G (am_wI G1 334 20 (wn 0)) := ((k0.mono (fun a i z => show SPR a i from Or.inl z)).trans (k1.mono (fun a i z => by unfold SPR QSR; omega))).trans (k2.mono (fun a i z => by unfold LQ at z; unfold SPR QSR; omega))
  have z0 : am_gI (am_wI G1 334 20 (wn 0)) 334 0 = wn 0 := by rw [rI_wI, if_neg (by decide), k1.i (by omega)]; exact e0
  have hs0 : plaw (vt V) n = pb (psm (vt V) n 6 (skb (vt V) n 0) []) (fun x => if n ≤ x.1 then .inr x.2 else .inl (1, x.1)) := rfl
  have fin : ∀ (k w : Nat) (G5 : am_G) (o1 : Option Value), plaw (vt V) n = .inl (k, w) → fQ G5 (vt V) n k w → Kp SPR G G5 → am_gI G5 334 0 = wn 0 → am_W (am_C am_T (d + 39)) am_186 P 85 [some (.ref 334), o1] [] G5 := by
    intro k w G5 o1 e5 f5 k5 z5
    have s5 := hsh.kp k5
    have y5 := f5.2.2.2.2.2.2.1
    have c0 : ¬ k = 0 := by have := f5.2.2.2.2.2.1; omega
    have c3 : k < 2147483648 := by have := f5.2.2.2.2.2.1; omega
    simp +decide (disch := omega) only [↓wm1, wb186_85 hc, wb186_92 hc, wb186_96 hc, w0, w1, w150, rI_wI, rP_wI, rL_wI, rI_wR, rP_wR, is_wI, is_wR, ia_wI, ia_wR, ow_wI, ow_wR, wn_add, wn_mul, wn_cl, wn_le, wn_lt, wn_inj, wn_ne1, wn_1ne, wn_gt1, wn_le1, nb0, nb1, am_kt, am_rt, List.cons_append, List.nil_append, true_and, and_true, not_true_eq_false, not_false_eq_true, imp_f, imp_t, implies_true, Nat.zero_add, if_true, if_false, false_and, and_false, fM s5, y5, c0, ct172 s5 f5]
    rw [← hP]
    have hs : s_ln V n = s_bad V w := by unfold s_ln; rw [e5]
    have hq2 : q_ln V n = wn k - wn 10 := by unfold q_ln; rw [e5]
    rw [hs, hq2]
    refine OR_bad hR (k5.wI (Or.inr ⟨rfl, Or.inr rfl⟩) _) ?_ ?_ ?_
    · rw [rI_wI, if_neg (by decide)]; exact z5
    · rw [rI_wI, if_neg (by decide)]; exact f5.2.2.1
    · rw [rI_wI, if_pos ⟨rfl, rfl⟩]
  simp +decide (disch := omega) only [↓wm1, wb186_45 hc, w0, w1, w150, rI_wI, rP_wI, rL_wI, rI_wR, rP_wR, is_wI, is_wR, ia_wI, ia_wR, ow_wI, ow_wR, wn_add, wn_mul, wn_cl, wn_le, wn_lt, wn_inj, wn_ne1, wn_1ne, wn_gt1, wn_le1, nb0, nb1, am_kt, am_rt, List.cons_append, List.nil_append, true_and, and_true, not_true_eq_false, not_false_eq_true, imp_f, imp_t, implies_true, Nat.zero_add, if_true, if_false, false_and, and_false, fM s1]
  refine RPsm hn2 6 0 (d + 12) rfl _ _ [] _ s2 r2 l2 (Nat.zero_le _) (fun q Λ' G3 e3 r3 l3 k3 => ?_) (fun k w G3 e3 f3 k3 => ?_)
  · have s3 := s2.kp k3
    rw [e3] at hs0
    simp only [pb] at hs0
    simp +decide (disch := omega) only [↓wm1, wb186_54 hc, w0, w1, w150, rI_wI, rP_wI, rL_wI, rI_wR, rP_wR, is_wI, is_wR, ia_wI, ia_wR, ow_wI, ow_wR, wn_add, wn_mul, wn_cl, wn_le, wn_lt, wn_inj, wn_ne1, wn_1ne, wn_gt1, wn_le1, nb0, nb1, am_kt, am_rt, List.cons_append, List.nil_append, true_and, and_true, not_true_eq_false, not_false_eq_true, imp_f, imp_t, implies_true, Nat.zero_add, if_true, if_false, false_and, and_false, fM s3]
    refine ct159r s3 r3 (fun G4 r4 e4 k4 => ?_)
    have s4 := s3.kp k4
    have l4 := l3.oo (Q4.oo k4)
    have kk4 : Kp SPR G G4 := (kk2.trans (k3.mono (fun a i z => by unfold LQ at z; unfold SPR QSR; omega))).trans (k4.mono (fun a i z => by unfold Q4 at z; unfold SPR QSR; omega))
    have z4 : am_gI G4 334 0 = wn 0 := by rw [k4.i (by unfold Q4; omega), k3.i (by unfold LQ; omega)]; exact z0
    have y5 := r4.2.2.2.2.2.2.2.2.1
    have y2 := r4.2.2.2.2.2.2.1
    have hqn := r4.2.2.1
    by_cases c : n ≤ q
    · rw [if_pos c] at hs0
      have ok := plaw_ok hn2 hs0
      have hlen := ok.1
      have le := l4.1
      have k5 : Kp (fun a i => a = 334 ∧ (i = 3 ∨ i = 19)) G4 (am_wI (am_wI G4 334 3 mm) 334 19 (wn Λ'.length)) := ((Kp.refl G4).wI ⟨rfl, Or.inl rfl⟩ _).wI ⟨rfl, Or.inr rfl⟩ _
      have s5 := s4.kp k5
      simp +decide (disch := omega) only [↓wm1, wb186_58 hc, wb186_65 hc, wb186_85 hc, wb186_97 hc, w0, w1, w150, rI_wI, rP_wI, rL_wI, rI_wR, rP_wR, is_wI, is_wR, ia_wI, ia_wR, ow_wI, ow_wR, wn_add, wn_mul, wn_cl, wn_le, wn_lt, wn_inj, wn_ne1, wn_1ne, wn_gt1, wn_le1, nb0, nb1, am_kt, am_rt, List.cons_append, List.nil_append, true_and, and_true, not_true_eq_false, not_false_eq_true, imp_f, imp_t, implies_true, Nat.zero_add, if_true, if_false, false_and, and_false, fM s4, y5, y2, e4, c, le]
      refine ct177 (A := 548) (B := 387) (N := 160) (L := 2) s5 kr548 kr387 (by decide) (by decide) (by decide) (by decide) (by omega) (by decide) (fun G6 g6 k6 => ?_)
      have s6 := s5.kp k6
      simp +decide (disch := omega) only [↓wm1, wb186_125 hc, w0, w1, w150, rI_wI, rP_wI, rL_wI, rI_wR, rP_wR, is_wI, is_wR, ia_wI, ia_wR, ow_wI, ow_wR, wn_add, wn_mul, wn_cl, wn_le, wn_lt, wn_inj, wn_ne1, wn_1ne, wn_gt1, wn_le1, nb0, nb1, am_kt, am_rt, List.cons_append, List.nil_append, true_and, and_true, not_true_eq_false, not_false_eq_true, imp_f, imp_t, implies_true, Nat.zero_add, if_true, if_false, false_and, and_false]
      rw [← hP]
      have hs : s_ln V n = s_lnew V Λ' := by unfold s_ln; rw [hs0]
      have hq2 : q_ln V n = wn 1 := by unfold q_ln; rw [hs0]
      rw [hs, hq2]
      have kk6 : Kp (fun a i => SPR a i ∨ (a = 334 ∧ i = 19) ∨ (388 ≤ a ∧ a < 548)) G G6 := ((kk4.mono (fun a i z => Or.inl z)).trans (k5.mono (fun a i z => by unfold SPR; omega))).trans (k6.mono (fun a i z => by omega))
      have e : ∀ a i, ¬ (SPR a i ∨ (a = 334 ∧ i = 19) ∨ (388 ≤ a ∧ a < 548)) → am_gI G6 a i = am_gI G a i := fun a i z => kk6.i z
      have e9 : ∀ i, i ≠ 3 → i ≠ 19 → am_gI G6 334 i = am_gI G4 334 i := fun i h1 h2 => by rw [k6.i (by omega), k5.i (by omega)]
      refine ⟨RepR.mk s6 (vV_lnew hv ok) ⟨⟨hv.1, fun i hi => by rw [e _ _ (by unfold SPR QSR; omega)]; exact tp.1.2 i hi⟩, ?_, ?_⟩ ⟨?_, tm.2.1, ⟨?_, fun i t ht => ?_⟩, Or.inr ok⟩ (DiR.eq di hw (fun a i z => e a i (by unfold SPR QSR; omega))) (ImR.eq im hi3 (fun a i z => e a i (by unfold SPR QSR; omega)))
        (LB.eq bk hk7 (fun a i z => e a i (by unfold SPR QSR; omega))) (CtR.eq ct (fun a i z => e a i (by unfold SPR QSR; omega))), kk6.mono (fun a i z => ?_), rfl, ?_⟩
      · rw [e9 1 (by decide) (by decide)]; exact r4.2.2.2.2.2.1
      · rw [k6.i (by omega), rI_wI, if_neg (by decide), rI_wI, if_pos ⟨rfl, rfl⟩]; rfl
      · have E := tm.1
        obtain ⟨v0, v1, v2, -⟩ := tm.2.1
        obtain ⟨x0, x1, x2, x3, x4, x5, x6⟩ := E
        refine ⟨?_, ?_, ?_, ?_, fun b hb => ⟨?_, ?_⟩, fun b hb => ⟨?_, ?_⟩, fun b hb => ⟨?_, ?_, ?_⟩⟩
        · rw [e _ _ (by unfold SPR QSR; omega)]; exact x0
        · rw [e _ _ (by unfold SPR QSR; omega)]; exact x1
        · rw [e _ _ (by unfold SPR QSR; omega)]; exact x2
        · rw [e _ _ (by unfold SPR QSR; omega)]; exact x3
        · change b < dB (vδ V) at hb; rw [e _ _ (by unfold SPR QSR; omega)]; exact (x4 b hb).1
        · change b < dB (vδ V) at hb; rw [e _ _ (by unfold SPR QSR; omega)]; exact (x4 b hb).2
        · change b < dH (vδ V) at hb; rw [e _ _ (by unfold SPR QSR; omega)]; exact (x5 b hb).1
        · change b < dH (vδ V) at hb; rw [e _ _ (by unfold SPR QSR; omega)]; exact (x5 b hb).2
        · change b < dD (vδ V) at hb; rw [e _ _ (by unfold SPR QSR; omega)]; exact (x6 b hb).1
        · change b < dD (vδ V) at hb; rw [e _ _ (by unfold SPR QSR; omega)]; exact (x6 b hb).2.1
        · change b < dD (vδ V) at hb; rw [e _ _ (by unfold SPR QSR; omega)]; exact (x6 b hb).2.2
      · rw [k6.i (by omega), rI_wI, if_pos ⟨rfl, rfl⟩]; rfl
      · have hi : i < Λ'.length := (List.getElem?_eq_some_iff.mp ht).1
        have a0 := g6 i 0 hi (by decide)
        have a1 := g6 i 1 hi (by decide)
        have a2 := l4.2 i t ht
        refine ⟨?_, ?_⟩
        · refine a0.trans ?_
          rw [k5.i (by omega)]; exact a2.1
        · refine a1.trans ?_
          rw [k5.i (by omega)]; exact a2.2
      · unfold SPR QSR at z; unfold RS; omega
      · rw [e9 0 (by decide) (by decide)]; exact z4
    · rw [if_neg c] at hs0
      simp +decide (disch := omega) only [↓wm1, wb186_58 hc, wb186_65 hc, wb186_76 hc, w0, w1, w150, rI_wI, rP_wI, rL_wI, rI_wR, rP_wR, is_wI, is_wR, ia_wI, ia_wR, ow_wI, ow_wR, wn_add, wn_mul, wn_cl, wn_le, wn_lt, wn_inj, wn_ne1, wn_1ne, wn_gt1, wn_le1, nb0, nb1, am_kt, am_rt, List.cons_append, List.nil_append, true_and, and_true, not_true_eq_false, not_false_eq_true, imp_f, imp_t, implies_true, Nat.zero_add, if_true, if_false, false_and, and_false, fM s4, y5, y2, e4, c, ct160 s4 y5]
      have kf : Kp (fun a i => a = 334 ∧ (i = 5 ∨ i = 6)) G4 (am_wI (am_wI G4 334 5 (wn 1)) 334 6 (wn q)) := ((Kp.refl G4).wI ⟨rfl, Or.inl rfl⟩ _).wI ⟨rfl, Or.inr rfl⟩ _
      refine fin 1 q _ _ hs0 ⟨r4.1.kp kf (by rintro i ⟨z, -⟩; omega), n6, ?_, ?_, ⟨q, hqn, ?_⟩, by decide, ?_, ?_⟩ (kk4.trans (kf.mono (fun a i z => by unfold SPR QSR; omega))) ?_
      · rw [kf.i (by omega)]; exact r4.2.2.2.2.2.1
      · rw [kf.i (by omega)]; exact y2
      · rw [kf.i (by omega)]; exact e4
      · rw [rI_wI, if_neg (by decide), rI_wI, if_pos ⟨rfl, rfl⟩]
      · rw [rI_wI, if_pos ⟨rfl, rfl⟩]
      · rw [kf.i (by omega)]; exact z4
  · have s3 := s2.kp k3
    rw [e3] at hs0
    simp only [pb] at hs0
    simp +decide (disch := omega) only [↓wm1, wb186_54 hc, w0, w1, w150, rI_wI, rP_wI, rL_wI, rI_wR, rP_wR, is_wI, is_wR, ia_wI, ia_wR, ow_wI, ow_wR, wn_add, wn_mul, wn_cl, wn_le, wn_lt, wn_inj, wn_ne1, wn_1ne, wn_gt1, wn_le1, nb0, nb1, am_kt, am_rt, List.cons_append, List.nil_append, true_and, and_true, not_true_eq_false, not_false_eq_true, imp_f, imp_t, implies_true, Nat.zero_add, if_true, if_false, false_and, and_false, fM s3]
    refine ct159f s3 f3 (fun G4 f4 k4 => ?_)
    have s4 := s3.kp k4
    have kk4 : Kp SPR G G4 := (kk2.trans (k3.mono (fun a i z => by unfold LQ at z; unfold SPR QSR; omega))).trans (k4.mono (fun a i z => by unfold Q4 at z; unfold SPR QSR; omega))
    have z4 : am_gI G4 334 0 = wn 0 := by rw [k4.i (by unfold Q4; omega), k3.i (by unfold LQ; omega)]; exact z0
    have y5 := f4.2.2.2.2.2.2.1
    have c0 : ¬ k = 0 := by have := f4.2.2.2.2.2.1; omega
    have c3 : k < 2147483648 := by have := f4.2.2.2.2.2.1; omega
    simp +decide (disch := omega) only [↓wm1, wb186_58 hc, w0, w1, w150, rI_wI, rP_wI, rL_wI, rI_wR, rP_wR, is_wI, is_wR, ia_wI, ia_wR, ow_wI, ow_wR, wn_add, wn_mul, wn_cl, wn_le, wn_lt, wn_inj, wn_ne1, wn_1ne, wn_gt1, wn_le1, nb0, nb1, am_kt, am_rt, List.cons_append, List.nil_append, true_and, and_true, not_true_eq_false, not_false_eq_true, imp_f, imp_t, implies_true, Nat.zero_add, if_true, if_false, false_and, and_false, fM s4, y5, c0]
    exact fin k w G4 _ hs0 f4 kk4 z4
theorem rf_law (hR : RepR G V) (x : Int32) : am_C am_T (d + 40) 186 [.ref 334, .int x] G (OR G (s_law V x) 1 (q_law V x)) := by
  have hm6 := hR.parts.2.1.2.1
  unfold s_law q_law
  rcases vin2_or x 0 (min (vm V) 150 + 1) (by decide) (by omega) with ⟨b, -, hb, rfl⟩ | hx
  · rw [vin2_t (lo := 0) (Nat.zero_le b) hb (by omega), if_pos rfl, if_pos rfl, wn_cl (by omega)]
    exact rf_ln hR (by omega) (by omega)
  · rw [vin2_f hx, if_neg (by decide), if_neg (by decide)]
    have hc := am_C_one am_T (d + 39)
    have t1 : am_gI (am_wI G 334 0 (wn 0)) 334 1 = wn (vm V) := by rw [rI_wI, if_neg (by decide)]; exact hR.parts.2.2.1.2.1
    have s0 := hR.1.kp (k0R G)
    rw [we186]
    generalize hP : OR G _ _ _ = P
    rcases vin2_or x 0 (vm V + 1) (by decide) (by omega) with ⟨b, -, hb, rfl⟩ | hx2
    · have hv := vin2_t (lo := 0) (Nat.zero_le b) hb (by omega)
      have hb2 : ¬ b ≤ 150 := by
        intro z
        rcases hx with y | y
        · rw [wn_lt (by omega) (by decide)] at y; omega
        · rw [wn_lt (by omega) (by omega)] at y; omega
      simp +decide (disch := omega) only [↓wm1, wb186_0 hc, wb186_15 hc, wb186_18 hc, wb186_25 hc, wb186_30 hc, wb186_35 hc, wb186_38 hc, w0, w1, w150, rI_wI, rP_wI, rL_wI, rI_wR, rP_wR, is_wI, is_wR, ia_wI, ia_wR, ow_wI, ow_wR, wn_add, wn_mul, wn_cl, wn_le, wn_lt, wn_inj, wn_ne1, wn_1ne, wn_gt1, wn_le1, nb0, nb1, am_kt, am_rt, List.cons_append, List.nil_append, true_and, and_true, not_true_eq_false, not_false_eq_true, imp_f, imp_t, implies_true, Nat.zero_add, if_true, if_false, false_and, and_false, fM hR.1, t1, hR.parts.2.2.1.2.1, ct153c, hv, b01, hb2, ct152y (c := 1) (r := 1) (by decide) (by decide) (by decide) s0 (e0R G)]
      rw [← hP]
      exact OR_8 hR (k0R G)
    · have hv := vin2_f hx2
      simp +decide (disch := omega) only [↓wm1, wb186_0 hc, wb186_15 hc, wb186_25 hc, wb186_30 hc, wb186_35 hc, wb186_38 hc, w0, w1, w150, rI_wI, rP_wI, rL_wI, rI_wR, rP_wR, is_wI, is_wR, ia_wI, ia_wR, ow_wI, ow_wR, wn_add, wn_mul, wn_cl, wn_le, wn_lt, wn_inj, wn_ne1, wn_1ne, wn_gt1, wn_le1, nb0, nb1, am_kt, am_rt, List.cons_append, List.nil_append, true_and, and_true, not_true_eq_false, not_false_eq_true, imp_f, imp_t, implies_true, Nat.zero_add, if_true, if_false, false_and, and_false, fM hR.1, t1, hR.parts.2.2.1.2.1, ct153c, hv, b01, Bool.false_eq_true, ct152y (c := 1) (r := 1) (by decide) (by decide) (by decide) s0 (e0R G)]
      rw [← hP]
      exact OR_8 hR (k0R G)
end
