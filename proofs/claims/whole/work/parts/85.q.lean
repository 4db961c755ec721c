/-! The law, the reference's side: one value; the whole. -/
theorem wi2_9 {w : List Nat} {k : Nat} (h : wi2 w = some k) (h9 : 9 ≤ k) : (k = 9 ∧ w = [108, 101, 97, 115, 116]) ∨ (k = 10 ∧ w = [109, 111, 115, 116]) := by
  unfold wi2 at h
  repeat' split at h
  all_goals first | (cases h; omega) | cases h
  · exact Or.inl ⟨rfl, by assumption⟩
  · exact Or.inr ⟨rfl, by assumption⟩
section
variable {G : am_G} {d n o p lv : Nat} {t : Nat → Nat} {pu ps : PLw} {post : am_O → am_G → Prop} {Λ : List Tok}
theorem fQ.w8 {k w : Nat} {v : Int32} (h : fQ G t n k w) : fQ (am_wI G 334 8 v) t n k w := h.kp (Sc := fun a i => a = 334 ∧ i = 8) ((Kp.refl G).wI ⟨rfl, rfl⟩ _) (fun a i z => by omega)
theorem kp8 (G : am_G) (v : Int32) : Kp O8 G (am_wI G 334 8 v) := (Kp.refl G).wI ⟨rfl, by decide, by decide⟩ _
theorem rQ.w8 (h : rQ G t n p (o + 1)) : rQ (am_wI G 334 8 (wn o)) t n p o := by
  obtain ⟨h1, h2, h3, h4, h5, h6, h7, ⟨a, ha, hb, hd⟩, h9, h10⟩ := h
  have e : ∀ i, i ≠ 8 → am_gI (am_wI G 334 8 (wn o)) 334 i = am_gI G 334 i := fun i hi => by rw [rI_wI, if_neg (fun z => hi z.2)]
  exact ⟨h1.kp (kp8 G _) (by rintro i ⟨z, -⟩; omega), h2, h3, h4, by omega, by rw [e _ (by decide)]; exact h6, by rw [e _ (by decide)]; exact h7, ⟨a, ha, hb, by rw [e _ (by decide)]; exact hd⟩, by rw [e _ (by decide)]; exact h9, by rw [rI_wI, if_pos ⟨rfl, rfl⟩]⟩
theorem ct185_w {k : Nat} {o2 : Option Value} (hlv : o + lv = 6) (hg : Gd t n ps) (hn : n ≤ 150) (h : lv = 0 ∨ RP (d + 6) 182 t n (o + 1) ps) (hk : wi2 (wrd t n p) = some k) (hk9 : 9 ≤ k) (hsh : Sh G) (hT : rQ G t n p o) (e4 : am_gI G 334 4 = wn p) (hL : rLs G Λ) (hlen : Λ.length ≤ p)
    (kok : ∀ q Λ' G', pun t n lv ps p Λ = .inr (q, Λ') → rQ G' t n q o → rLs G' Λ' → Kp LQ G G' → post (.inl none) G')
    (kbad : ∀ k w G', pun t n lv ps p Λ = .inl (k, w) → fQ G' t n k w → Kp LQ G G' → post (.inl none) G') : am_W (am_C am_T (d + 6)) am_185 post 62 [some (.ref 334), some (.int (wn (k - 2))), o2] [] G := by
  have hc := am_C_one am_T (d + 6)
  have hpn := hT.2.2.1
  have hhd := wi2_hd hk
  have hlt := wrd_pos hk
  have hle := lte_le (t := t) hpn
  have g0 := skb_ge t n (lte t n p)
  have gn : skb t n (lte t n p) ≤ n := skb_le hle
  have c1 : ¬ (p < n ∧ isD (t p) = true) := by rintro ⟨-, z⟩; unfold isD at z; rw [decide_eq_true_eq] at z; omega
  have c40 : ¬ (p < n ∧ t p = 40) := by omega
  have c9 : ¬ k < 9 := by omega
  unfold pun at kok kbad
  simp only [if_neg c1, if_neg c40, hk, if_neg c9] at kok kbad
  simp +decide (disch := omega) only [↓wm1, wb185_62 hc, w0, w1, w5, w7, w8, w12, w13, w15, w19, w20, w40, w41, w44, w91, w93, w999, rI_wI, rP_wI, rL_wI, rI_wR, rP_wR, is_wI, is_wR, ia_wI, ia_wR, ow_wI, ow_wR, wn_add, wn_mul, wn_cl, wn_le, wn_lt, wn_inj, wn_ne1, wn_1ne, wn_gt1, wn_le1, nb0, nb1, am_kt, am_rt, List.cons_append, List.nil_append, true_and, and_true, not_true_eq_false, not_false_eq_true, imp_f, imp_t, implies_true, Nat.zero_add, if_true, if_false, false_and, and_false, fM hsh]
  refine ct181 hsh hT e4 (fun G1 ho t1 e41 k1 => ?_) (fun G1 ho f1 k1 => ?_)
  · have c2 : ¬ lv = 0 := by omega
    simp only [if_neg c2] at kok kbad
    have s1 := hsh.kp k1
    have l1 := hL.oo k1
    simp +decide (disch := omega) only [↓wm1, wb185_66 hc, wb185_70 hc, w0, w1, w5, w7, w8, w12, w13, w15, w19, w20, w40, w41, w44, w91, w93, w999, rI_wI, rP_wI, rL_wI, rI_wR, rP_wR, is_wI, is_wR, ia_wI, ia_wR, ow_wI, ow_wR, wn_add, wn_mul, wn_cl, wn_le, wn_lt, wn_inj, wn_ne1, wn_1ne, wn_gt1, wn_le1, nb0, nb1, am_kt, am_rt, List.cons_append, List.nil_append, true_and, and_true, not_true_eq_false, not_false_eq_true, imp_f, imp_t, implies_true, Nat.zero_add, if_true, if_false, false_and, and_false, fM s1]
    refine ct167 s1 t1 e41 (fun G2 t2 k2 => ?_)
    have s2 := s1.kp k2
    have l2 := l1.oo (Q4.oo k2)
    have kk2 : Kp LQ G G2 := (O8.ll k1).trans (O8.ll (Q4.oo k2))
    simp +decide (disch := omega) only [↓wm1, wb185_74 hc, w0, w1, w5, w7, w8, w12, w13, w15, w19, w20, w40, w41, w44, w91, w93, w999, rI_wI, rP_wI, rL_wI, rI_wR, rP_wR, is_wI, is_wR, ia_wI, ia_wR, ow_wI, ow_wR, wn_add, wn_mul, wn_cl, wn_le, wn_lt, wn_inj, wn_ne1, wn_1ne, wn_gt1, wn_le1, nb0, nb1, am_kt, am_rt, List.cons_append, List.nil_append, true_and, and_true, not_true_eq_false, not_false_eq_true, imp_f, imp_t, implies_true, Nat.zero_add, if_true, if_false, false_and, and_false, fM s2]
    refine ct169 s2 t2 (by decide) (fun q3 G3 e3 t3 k3 => ?_) (fun G3 e3 f3 k3 => ?_)
    · have s3 := s2.kp k3
      have l3 := l2.oo (QS.oo k3)
      have kk3 := kk2.trans (O8.ll (QS.oo k3))
      obtain ⟨-, -, -, a4, a5, a6⟩ := psgn_in e3
      simp only [e3, pb] at kok kbad
      simp +decide (disch := omega) only [↓wm1, wb185_80 hc, w0, w1, w5, w7, w8, w12, w13, w15, w19, w20, w40, w41, w44, w91, w93, w999, rI_wI, rP_wI, rL_wI, rI_wR, rP_wR, is_wI, is_wR, ia_wI, ia_wR, ow_wI, ow_wR, wn_add, wn_mul, wn_cl, wn_le, wn_lt, wn_inj, wn_ne1, wn_1ne, wn_gt1, wn_le1, nb0, nb1, am_kt, am_rt, List.cons_append, List.nil_append, true_and, and_true, not_true_eq_false, not_false_eq_true, imp_f, imp_t, implies_true, Nat.zero_add, if_true, if_false, false_and, and_false, fM s3]
      refine h.resolve_left c2 G3 _ Λ _ s3 t3 l3 (by omega) (fun q4 Λ4 G4 e4 t4 l4 k4 => ?_) (fun k4' w4 G4 e4 f4 k4 => ?_)
      · have s4 := s3.kp k4
        have kk4 := kk3.trans k4
        obtain ⟨b1, b2, b3, r1, rfl, b5, b6, b7⟩ := hg _ _ _ _ a5 e4
        simp only [e4] at kok kbad
        simp +decide (disch := omega) only [↓wm1, wb185_84 hc, w0, w1, w5, w7, w8, w12, w13, w15, w19, w20, w40, w41, w44, w91, w93, w999, rI_wI, rP_wI, rL_wI, rI_wR, rP_wR, is_wI, is_wR, ia_wI, ia_wR, ow_wI, ow_wR, wn_add, wn_mul, wn_cl, wn_le, wn_lt, wn_inj, wn_ne1, wn_1ne, wn_gt1, wn_le1, nb0, nb1, am_kt, am_rt, List.cons_append, List.nil_append, true_and, and_true, not_true_eq_false, not_false_eq_true, imp_f, imp_t, implies_true, Nat.zero_add, if_true, if_false, false_and, and_false, fM s4]
        refine ct169 s4 t4 (by decide) (fun q5 G5 e5 t5 k5 => ?_) (fun G5 e5 f5 k5 => ?_)
        · have s5 := s4.kp k5
          have l5 := l4.oo (QS.oo k5)
          have kk5 := kk4.trans (O8.ll (QS.oo k5))
          obtain ⟨-, -, -, u4, u5, u6⟩ := psgn_in e5
          simp only [e5] at kok kbad
          simp +decide (disch := omega) only [↓wm1, wb185_90 hc, w0, w1, w5, w7, w8, w12, w13, w15, w19, w20, w40, w41, w44, w91, w93, w999, rI_wI, rP_wI, rL_wI, rI_wR, rP_wR, is_wI, is_wR, ia_wI, ia_wR, ow_wI, ow_wR, wn_add, wn_mul, wn_cl, wn_le, wn_lt, wn_inj, wn_ne1, wn_1ne, wn_gt1, wn_le1, nb0, nb1, am_kt, am_rt, List.cons_append, List.nil_append, true_and, and_true, not_true_eq_false, not_false_eq_true, imp_f, imp_t, implies_true, Nat.zero_add, if_true, if_false, false_and, and_false, fM s5]
          refine h.resolve_left c2 G5 _ _ _ s5 t5 l5 (by simp only [List.length_append]; omega) (fun q6 Λ6 G6 e6 t6 l6 k6 => ?_) (fun k6' w6 G6 e6 f6 k6 => ?_)
          · have s6 := s5.kp k6
            have kk6 := kk5.trans k6
            obtain ⟨v1, v2, v3, r2, rfl, v5, v6, v7⟩ := hg _ _ _ _ u5 e6
            simp only [e6] at kok kbad
            simp +decide (disch := omega) only [↓wm1, wb185_94 hc, w0, w1, w5, w7, w8, w12, w13, w15, w19, w20, w40, w41, w44, w91, w93, w999, rI_wI, rP_wI, rL_wI, rI_wR, rP_wR, is_wI, is_wR, ia_wI, ia_wR, ow_wI, ow_wR, wn_add, wn_mul, wn_cl, wn_le, wn_lt, wn_inj, wn_ne1, wn_1ne, wn_gt1, wn_le1, nb0, nb1, am_kt, am_rt, List.cons_append, List.nil_append, true_and, and_true, not_true_eq_false, not_false_eq_true, imp_f, imp_t, implies_true, Nat.zero_add, if_true, if_false, false_and, and_false, fM s6]
            refine ct169 s6 t6 (by decide) (fun q7 G7 e7 t7 k7 => ?_) (fun G7 e7 f7 k7 => ?_)
            · have s7 := s6.kp k7
              have kk7 := kk6.trans (O8.ll (QS.oo k7))
              have l7 := l6.oo (QS.oo k7)
              obtain ⟨-, -, -, x4, x5, x6⟩ := psgn_in e7
              simp only [e7] at kok kbad
              simp +decide (disch := omega) only [↓wm1, wb185_100 hc, w0, w1, w5, w7, w8, w12, w13, w15, w19, w20, w40, w41, w44, w91, w93, w999, rI_wI, rP_wI, rL_wI, rI_wR, rP_wR, is_wI, is_wR, ia_wI, ia_wR, ow_wI, ow_wR, wn_add, wn_mul, wn_cl, wn_le, wn_lt, wn_inj, wn_ne1, wn_1ne, wn_gt1, wn_le1, nb0, nb1, am_kt, am_rt, List.cons_append, List.nil_append, true_and, and_true, not_true_eq_false, not_false_eq_true, imp_f, imp_t, implies_true, Nat.zero_add, if_true, if_false, false_and, and_false, fM s7]
              refine ct180 (b := 0) s7 t7.2.2.2.2.2.2.2.2.1 l7 (by simp only [List.length_append]; omega) (fun G8 l8 k8 => ?_)
              have s8 := s7.kp k8
              have t8 := t7.n2 k8
              have z8 := t8.2.2.2.2.2.2.2.2.2
              have e1 : wn (o + 1) - wn 1 = wn o := by rw [wn_sub (by omega)]; rfl
              simp +decide (disch := omega) only [↓wm1, wb185_106 hc, w0, w1, w5, w7, w8, w12, w13, w15, w19, w20, w40, w41, w44, w91, w93, w999, rI_wI, rP_wI, rL_wI, rI_wR, rP_wR, is_wI, is_wR, ia_wI, ia_wR, ow_wI, ow_wR, wn_add, wn_mul, wn_cl, wn_le, wn_lt, wn_inj, wn_ne1, wn_1ne, wn_gt1, wn_le1, nb0, nb1, am_kt, am_rt, List.cons_append, List.nil_append, true_and, and_true, not_true_eq_false, not_false_eq_true, imp_f, imp_t, implies_true, Nat.zero_add, if_true, if_false, false_and, and_false, fM s8, z8, e1]
              exact kok _ _ _ rfl t8.w8 (l8.oo (kp8 G8 _)) ((kk7.trans (N2.ll k8)).trans (O8.ll (kp8 G8 _)))
            · have s7 := s6.kp k7
              simp only [e7] at kok kbad
              simp +decide (disch := omega) only [↓wm1, wb185_100 hc, wb185_106 hc, w0, w1, w5, w7, w8, w12, w13, w15, w19, w20, w40, w41, w44, w91, w93, w999, rI_wI, rP_wI, rL_wI, rI_wR, rP_wR, is_wI, is_wR, ia_wI, ia_wR, ow_wI, ow_wR, wn_add, wn_mul, wn_cl, wn_le, wn_lt, wn_inj, wn_ne1, wn_1ne, wn_gt1, wn_le1, nb0, nb1, am_kt, am_rt, List.cons_append, List.nil_append, true_and, and_true, not_true_eq_false, not_false_eq_true, imp_f, imp_t, implies_true, Nat.zero_add, if_true, if_false, false_and, and_false, fM s7, ct180f s7 f7]
              exact kbad _ _ _ rfl f7.w8 ((kk6.trans (O8.ll (QS.oo k7))).trans (O8.ll (kp8 G7 _)))
          · have s6 := s5.kp k6
            simp only [e6] at kok kbad
            simp +decide (disch := omega) only [↓wm1, wb185_94 hc, wb185_100 hc, wb185_106 hc, w0, w1, w5, w7, w8, w12, w13, w15, w19, w20, w40, w41, w44, w91, w93, w999, rI_wI, rP_wI, rL_wI, rI_wR, rP_wR, is_wI, is_wR, ia_wI, ia_wR, ow_wI, ow_wR, wn_add, wn_mul, wn_cl, wn_le, wn_lt, wn_inj, wn_ne1, wn_1ne, wn_gt1, wn_le1, nb0, nb1, am_kt, am_rt, List.cons_append, List.nil_append, true_and, and_true, not_true_eq_false, not_false_eq_true, imp_f, imp_t, implies_true, Nat.zero_add, if_true, if_false, false_and, and_false, fM s6, ct169f s6 f6, ct180f s6 f6]
            exact kbad _ _ _ rfl f6.w8 ((kk5.trans k6).trans (O8.ll (kp8 G6 _)))
        · have s5 := s4.kp k5
          simp only [e5] at kok kbad
          simp +decide (disch := omega) only [↓wm1, wb185_90 hc, wb185_94 hc, wb185_100 hc, wb185_106 hc, w0, w1, w5, w7, w8, w12, w13, w15, w19, w20, w40, w41, w44, w91, w93, w999, rI_wI, rP_wI, rL_wI, rI_wR, rP_wR, is_wI, is_wR, ia_wI, ia_wR, ow_wI, ow_wR, wn_add, wn_mul, wn_cl, wn_le, wn_lt, wn_inj, wn_ne1, wn_1ne, wn_gt1, wn_le1, nb0, nb1, am_kt, am_rt, List.cons_append, List.nil_append, true_and, and_true, not_true_eq_false, not_false_eq_true, imp_f, imp_t, implies_true, Nat.zero_add, if_true, if_false, false_and, and_false, fM s5, ct182f s5 f5, ct169f s5 f5, ct180f s5 f5]
          exact kbad _ _ _ rfl f5.w8 ((kk4.trans (O8.ll (QS.oo k5))).trans (O8.ll (kp8 G5 _)))
      · have s4 := s3.kp k4
        simp only [e4] at kok kbad
        simp +decide (disch := omega) only [↓wm1, wb185_84 hc, wb185_90 hc, wb185_94 hc, wb185_100 hc, wb185_106 hc, w0, w1, w5, w7, w8, w12, w13, w15, w19, w20, w40, w41, w44, w91, w93, w999, rI_wI, rP_wI, rL_wI, rI_wR, rP_wR, is_wI, is_wR, ia_wI, ia_wR, ow_wI, ow_wR, wn_add, wn_mul, wn_cl, wn_le, wn_lt, wn_inj, wn_ne1, wn_1ne, wn_gt1, wn_le1, nb0, nb1, am_kt, am_rt, List.cons_append, List.nil_append, true_and, and_true, not_true_eq_false, not_false_eq_true, imp_f, imp_t, implies_true, Nat.zero_add, if_true, if_false, false_and, and_false, fM s4, ct182f s4 f4, ct169f s4 f4, ct180f s4 f4]
        exact kbad _ _ _ rfl f4.w8 ((kk3.trans k4).trans (O8.ll (kp8 G4 _)))
    · have s3 := s2.kp k3
      simp only [e3, pb] at kok kbad
      simp +decide (disch := omega) only [↓wm1, wb185_80 hc, wb185_84 hc, wb185_90 hc, wb185_94 hc, wb185_100 hc, wb185_106 hc, w0, w1, w5, w7, w8, w12, w13, w15, w19, w20, w40, w41, w44, w91, w93, w999, rI_wI, rP_wI, rL_wI, rI_wR, rP_wR, is_wI, is_wR, ia_wI, ia_wR, ow_wI, ow_wR, wn_add, wn_mul, wn_cl, wn_le, wn_lt, wn_inj, wn_ne1, wn_1ne, wn_gt1, wn_le1, nb0, nb1, am_kt, am_rt, List.cons_append, List.nil_append, true_and, and_true, not_true_eq_false, not_false_eq_true, imp_f, imp_t, implies_true, Nat.zero_add, if_true, if_false, false_and, and_false, fM s3, ct182f s3 f3, ct169f s3 f3, ct180f s3 f3]
      exact kbad _ _ _ rfl f3.w8 ((kk2.trans (O8.ll (QS.oo k3))).trans (O8.ll (kp8 G3 _)))
  · have c2 : lv = 0 := by omega
    simp only [if_pos c2] at kok kbad
    simp +decide (disch := omega) only [↓wm1, wb185_66 hc, wb185_69 hc, w0, w1, w5, w7, w8, w12, w13, w15, w19, w20, w40, w41, w44, w91, w93, w999, rI_wI, rP_wI, rL_wI, rI_wR, rP_wR, is_wI, is_wR, ia_wI, ia_wR, ow_wI, ow_wR, wn_add, wn_mul, wn_cl, wn_le, wn_lt, wn_inj, wn_ne1, wn_1ne, wn_gt1, wn_le1, nb0, nb1, am_kt, am_rt, List.cons_append, List.nil_append, true_and, and_true, not_true_eq_false, not_false_eq_true, imp_f, imp_t, implies_true, Nat.zero_add, if_true, if_false, false_and, and_false]
    exact kbad _ _ _ rfl f1 (O8.ll k1)
theorem RP185 (hlv : o + lv = 6) (hg : Gd t n ps) (hn : n ≤ 150) (h : lv = 0 ∨ RP (d + 6) 182 t n (o + 1) ps) : RP (d + 7) 185 t n o (pun t n lv ps) := by
  intro G p Λ post hsh hT hL hlen kok kbad
  have hc := am_C_one am_T (d + 6)
  have hpn := hT.2.2.1
  have hx := hT.1.1 p
  rw [we185]
  simp +decide (disch := omega) only [↓wm1, wb185_0 hc, wb185_8 hc, w0, w1, w5, w7, w8, w12, w13, w15, w19, w20, w40, w41, w44, w91, w93, w999, rI_wI, rP_wI, rL_wI, rI_wR, rP_wR, is_wI, is_wR, ia_wI, ia_wR, ow_wI, ow_wR, wn_add, wn_mul, wn_cl, wn_le, wn_lt, wn_inj, wn_ne1, wn_1ne, wn_gt1, wn_le1, nb0, nb1, am_kt, am_rt, List.cons_append, List.nil_append, true_and, and_true, not_true_eq_false, not_false_eq_true, imp_f, imp_t, implies_true, Nat.zero_add, if_true, if_false, false_and, and_false, fM hsh, hT.2.2.2.2.2.2.2.2.1]
  refine ct159r hsh hT (fun G1 t1 e1 k1 => ?_)
  have s1 := hsh.kp k1
  have l1 := hL.oo (Q4.oo k1)
  simp +decide (disch := omega) only [↓wm1, wb185_12 hc, w0, w1, w5, w7, w8, w12, w13, w15, w19, w20, w40, w41, w44, w91, w93, w999, rI_wI, rP_wI, rL_wI, rI_wR, rP_wR, is_wI, is_wR, ia_wI, ia_wR, ow_wI, ow_wR, wn_add, wn_mul, wn_cl, wn_le, wn_lt, wn_inj, wn_ne1, wn_1ne, wn_gt1, wn_le1, nb0, nb1, am_kt, am_rt, List.cons_append, List.nil_append, true_and, and_true, not_true_eq_false, not_false_eq_true, imp_f, imp_t, implies_true, Nat.zero_add, if_true, if_false, false_and, and_false, fM s1]
  refine ct166 spl_least s1 t1 (fun G2 t2 e2 k2 => ?_)
  have s2 := s1.kp k2
  have l2 := l1.oo (Q4.oo k2)
  have kk2 : Kp LQ G G2 := (O8.ll (Q4.oo k1)).trans (O8.ll (Q4.oo k2))
  by_cases cL : wrd t n p = [108, 101, 97, 115, 116]
  · simp +decide (disch := omega) only [↓wm1, wb185_25 hc, wb185_28 hc, wb185_56 hc, w0, w1, w5, w7, w8, w12, w13, w15, w19, w20, w40, w41, w44, w91, w93, w999, rI_wI, rP_wI, rL_wI, rI_wR, rP_wR, is_wI, is_wR, ia_wI, ia_wR, ow_wI, ow_wR, wn_add, wn_mul, wn_cl, wn_le, wn_lt, wn_inj, wn_ne1, wn_1ne, wn_gt1, wn_le1, nb0, nb1, am_kt, am_rt, List.cons_append, List.nil_append, true_and, and_true, not_true_eq_false, not_false_eq_true, imp_f, imp_t, implies_true, Nat.zero_add, if_true, if_false, false_and, and_false, decide_eq_true cL, b01]
    exact ct185_w (k := 9) hlv hg hn h (by rw [cL]; rfl) (by decide) s2 t2 e2 l2 hlen (fun q Λ' G' a b c e => kok q Λ' G' a b c (kk2.trans e)) (fun k w G' a b e => kbad k w G' a b (kk2.trans e))
  · simp +decide (disch := omega) only [↓wm1, wb185_25 hc, wb185_33 hc, w0, w1, w5, w7, w8, w12, w13, w15, w19, w20, w40, w41, w44, w91, w93, w999, rI_wI, rP_wI, rL_wI, rI_wR, rP_wR, is_wI, is_wR, ia_wI, ia_wR, ow_wI, ow_wR, wn_add, wn_mul, wn_cl, wn_le, wn_lt, wn_inj, wn_ne1, wn_1ne, wn_gt1, wn_le1, nb0, nb1, am_kt, am_rt, List.cons_append, List.nil_append, true_and, and_true, not_true_eq_false, not_false_eq_true, imp_f, imp_t, implies_true, Nat.zero_add, if_true, if_false, false_and, and_false, decide_eq_false cL, b01, Bool.false_eq_true, fM s2]
    refine ct166 spl_most s2 t2 (fun G3 t3 e3 k3 => ?_)
    have s3 := s2.kp k3
    have l3 := l2.oo (Q4.oo k3)
    have kk3 := kk2.trans (O8.ll (Q4.oo k3))
    by_cases cM : wrd t n p = [109, 111, 115, 116]
    · simp +decide (disch := omega) only [↓wm1, wb185_47 hc, wb185_50 hc, wb185_56 hc, w0, w1, w5, w7, w8, w12, w13, w15, w19, w20, w40, w41, w44, w91, w93, w999, rI_wI, rP_wI, rL_wI, rI_wR, rP_wR, is_wI, is_wR, ia_wI, ia_wR, ow_wI, ow_wR, wn_add, wn_mul, wn_cl, wn_le, wn_lt, wn_inj, wn_ne1, wn_1ne, wn_gt1, wn_le1, nb0, nb1, am_kt, am_rt, List.cons_append, List.nil_append, true_and, and_true, not_true_eq_false, not_false_eq_true, imp_f, imp_t, implies_true, Nat.zero_add, if_true, if_false, false_and, and_false, decide_eq_true cM, b01]
      exact ct185_w (k := 10) hlv hg hn h (by rw [cM]; rfl) (by decide) s3 t3 e3 l3 hlen (fun q Λ' G' a b c e => kok q Λ' G' a b c (kk3.trans e)) (fun k w G' a b e => kbad k w G' a b (kk3.trans e))
    · simp +decide (disch := omega) only [↓wm1, wb185_47 hc, wb185_55 hc, wb185_56 hc, w0, w1, w5, w7, w8, w12, w13, w15, w19, w20, w40, w41, w44, w91, w93, w999, rI_wI, rP_wI, rL_wI, rI_wR, rP_wR, is_wI, is_wR, ia_wI, ia_wR, ow_wI, ow_wR, wn_add, wn_mul, wn_cl, wn_le, wn_lt, wn_inj, wn_ne1, wn_1ne, wn_gt1, wn_le1, nb0, nb1, am_kt, am_rt, List.cons_append, List.nil_append, true_and, and_true, not_true_eq_false, not_false_eq_true, imp_f, imp_t, implies_true, Nat.zero_add, if_true, if_false, false_and, and_false, decide_eq_false cM, b01, Bool.false_eq_true, fM s3]
      have e58 := fun P => ct158 (d := d + 5) (post := P) (k := p) s3 t3.1 t3.2.1 t3.2.2.2.2.2.2.1 (by omega)
      simp +decide (disch := omega) only [↓wm1, wb185_117 hc, w0, w1, w5, w7, w8, w12, w13, w15, w19, w20, w40, w41, w44, w91, w93, w999, rI_wI, rP_wI, rL_wI, rI_wR, rP_wR, is_wI, is_wR, ia_wI, ia_wR, ow_wI, ow_wR, wn_add, wn_mul, wn_cl, wn_le, wn_lt, wn_inj, wn_ne1, wn_1ne, wn_gt1, wn_le1, nb0, nb1, am_kt, am_rt, List.cons_append, List.nil_append, true_and, and_true, not_true_eq_false, not_false_eq_true, imp_f, imp_t, implies_true, Nat.zero_add, if_true, if_false, false_and, and_false, fM s3, e3, e58]
      by_cases c40 : p < n ∧ t p = 40
      · have c1 : ¬ (p < n ∧ isD (t p) = true) := by rintro ⟨-, z⟩; unfold isD at z; rw [decide_eq_true_eq] at z; omega
        have eb : byq t n p = wn 40 := by unfold byq; rw [if_pos c40.1, c40.2]
        unfold pun at kok kbad
        simp only [if_neg c1, if_pos c40] at kok kbad
        simp +decide (disch := omega) only [↓wm1, wb185_125 hc, wb185_130 hc, w0, w1, w5, w7, w8, w12, w13, w15, w19, w20, w40, w41, w44, w91, w93, w999, rI_wI, rP_wI, rL_wI, rI_wR, rP_wR, is_wI, is_wR, ia_wI, ia_wR, ow_wI, ow_wR, wn_add, wn_mul, wn_cl, wn_le, wn_lt, wn_inj, wn_ne1, wn_1ne, wn_gt1, wn_le1, nb0, nb1, am_kt, am_rt, List.cons_append, List.nil_append, true_and, and_true, not_true_eq_false, not_false_eq_true, imp_f, imp_t, implies_true, Nat.zero_add, if_true, if_false, false_and, and_false, eb, fM s3]
        refine ct181 s3 t3 e3 (fun G4 ho t4 e4 k4 => ?_) (fun G4 ho f4 k4 => ?_)
        · have c2 : ¬ lv = 0 := by omega
          simp only [if_neg c2] at kok kbad
          have s4 := s3.kp k4
          have l4 := l3.oo k4
          have g0 := skb_ge t n (p + 1)
          have gn : skb t n (p + 1) ≤ n := skb_le (by omega)
          have k5 : Kp O8 G4 (am_wI G4 334 4 (wn (p + 1))) := (Kp.refl G4).wI ⟨rfl, by decide, by decide⟩ _
          have t5 : rQ (am_wI G4 334 4 (wn (p + 1))) t n (skb t n (p + 1)) (o + 1) := by
            obtain ⟨h1, h2, h3, h4, h5, h6, h7, -, h9, h10⟩ := t4
            have e : ∀ i, i ≠ 4 → am_gI (am_wI G4 334 4 (wn (p + 1))) 334 i = am_gI G4 334 i := fun i hi => by rw [rI_wI, if_neg (fun z => hi z.2)]
            exact ⟨h1.kp k5 (by rintro i ⟨z, -⟩; omega), h2, gn, skb_idem (by omega), h5, by rw [e _ (by decide)]; exact h6, by rw [e _ (by decide)]; exact h7, ⟨p + 1, by omega, rfl, by rw [rI_wI, if_pos ⟨rfl, rfl⟩]⟩, by rw [e _ (by decide)]; exact h9, by rw [e _ (by decide)]; exact h10⟩
          have kk5 := (kk3.trans (O8.ll k4)).trans (O8.ll k5)
          have s5 := s4.kp k5
          simp +decide (disch := omega) only [↓wm1, wb185_134 hc, wb185_138 hc, w0, w1, w5, w7, w8, w12, w13, w15, w19, w20, w40, w41, w44, w91, w93, w999, rI_wI, rP_wI, rL_wI, rI_wR, rP_wR, is_wI, is_wR, ia_wI, ia_wR, ow_wI, ow_wR, wn_add, wn_mul, wn_cl, wn_le, wn_lt, wn_inj, wn_ne1, wn_1ne, wn_gt1, wn_le1, nb0, nb1, am_kt, am_rt, List.cons_append, List.nil_append, true_and, and_true, not_true_eq_false, not_false_eq_true, imp_f, imp_t, implies_true, Nat.zero_add, if_true, if_false, false_and, and_false, fM s4, e4]
          refine h.resolve_left c2 _ _ Λ _ s5 t5 (l4.oo k5) (by omega) (fun q6 Λ6 G6 e6 t6 l6 k6 => ?_) (fun k6' w6 G6 e6 f6 k6 => ?_)
          · have s6 := s5.kp k6
            have kk6 := kk5.trans k6
            obtain ⟨b1, b2, b3, r1, rfl, b5, b6, b7⟩ := hg _ _ _ _ gn e6
            simp only [e6, pb] at kok kbad
            simp +decide (disch := omega) only [↓wm1, wb185_152 hc, w0, w1, w5, w7, w8, w12, w13, w15, w19, w20, w40, w41, w44, w91, w93, w999, rI_wI, rP_wI, rL_wI, rI_wR, rP_wR, is_wI, is_wR, ia_wI, ia_wR, ow_wI, ow_wR, wn_add, wn_mul, wn_cl, wn_le, wn_lt, wn_inj, wn_ne1, wn_1ne, wn_gt1, wn_le1, nb0, nb1, am_kt, am_rt, List.cons_append, List.nil_append, true_and, and_true, not_true_eq_false, not_false_eq_true, imp_f, imp_t, implies_true, Nat.zero_add, if_true, if_false, false_and, and_false, fM s6]
            refine ct169 s6 t6 (by decide) (fun q7 G7 e7 t7 k7 => ?_) (fun G7 e7 f7 k7 => ?_)
            · have s7 := s6.kp k7
              simp only [e7] at kok kbad
              have z8 := t7.2.2.2.2.2.2.2.2.2
              have e1 : wn (o + 1) - wn 1 = wn o := by rw [wn_sub (by omega)]; rfl
              simp +decide (disch := omega) only [↓wm1, wb185_158 hc, w0, w1, w5, w7, w8, w12, w13, w15, w19, w20, w40, w41, w44, w91, w93, w999, rI_wI, rP_wI, rL_wI, rI_wR, rP_wR, is_wI, is_wR, ia_wI, ia_wR, ow_wI, ow_wR, wn_add, wn_mul, wn_cl, wn_le, wn_lt, wn_inj, wn_ne1, wn_1ne, wn_gt1, wn_le1, nb0, nb1, am_kt, am_rt, List.cons_append, List.nil_append, true_and, and_true, not_true_eq_false, not_false_eq_true, imp_f, imp_t, implies_true, Nat.zero_add, if_true, if_false, false_and, and_false, fM s7, z8, e1]
              exact kok _ _ _ rfl t7.w8 ((l6.oo (QS.oo k7)).oo (kp8 G7 _)) ((kk6.trans (O8.ll (QS.oo k7))).trans (O8.ll (kp8 G7 _)))
            · have s7 := s6.kp k7
              simp only [e7] at kok kbad
              simp +decide (disch := omega) only [↓wm1, wb185_158 hc, w0, w1, w5, w7, w8, w12, w13, w15, w19, w20, w40, w41, w44, w91, w93, w999, rI_wI, rP_wI, rL_wI, rI_wR, rP_wR, is_wI, is_wR, ia_wI, ia_wR, ow_wI, ow_wR, wn_add, wn_mul, wn_cl, wn_le, wn_lt, wn_inj, wn_ne1, wn_1ne, wn_gt1, wn_le1, nb0, nb1, am_kt, am_rt, List.cons_append, List.nil_append, true_and, and_true, not_true_eq_false, not_false_eq_true, imp_f, imp_t, implies_true, Nat.zero_add, if_true, if_false, false_and, and_false, fM s7]
              exact kbad _ _ _ rfl f7.w8 ((kk6.trans (O8.ll (QS.oo k7))).trans (O8.ll (kp8 G7 _)))
          · have s6 := s5.kp k6
            simp only [e6, pb] at kok kbad
            simp +decide (disch := omega) only [↓wm1, wb185_152 hc, wb185_158 hc, w0, w1, w5, w7, w8, w12, w13, w15, w19, w20, w40, w41, w44, w91, w93, w999, rI_wI, rP_wI, rL_wI, rI_wR, rP_wR, is_wI, is_wR, ia_wI, ia_wR, ow_wI, ow_wR, wn_add, wn_mul, wn_cl, wn_le, wn_lt, wn_inj, wn_ne1, wn_1ne, wn_gt1, wn_le1, nb0, nb1, am_kt, am_rt, List.cons_append, List.nil_append, true_and, and_true, not_true_eq_false, not_false_eq_true, imp_f, imp_t, implies_true, Nat.zero_add, if_true, if_false, false_and, and_false, fM s6, ct169f s6 f6]
            exact kbad _ _ _ rfl f6.w8 ((kk5.trans k6).trans (O8.ll (kp8 G6 _)))
        · have c2 : lv = 0 := by omega
          simp only [if_pos c2] at kok kbad
          simp +decide (disch := omega) only [↓wm1, wb185_134 hc, wb185_137 hc, w0, w1, w5, w7, w8, w12, w13, w15, w19, w20, w40, w41, w44, w91, w93, w999, rI_wI, rP_wI, rL_wI, rI_wR, rP_wR, is_wI, is_wR, ia_wI, ia_wR, ow_wI, ow_wR, wn_add, wn_mul, wn_cl, wn_le, wn_lt, wn_inj, wn_ne1, wn_1ne, wn_gt1, wn_le1, nb0, nb1, am_kt, am_rt, List.cons_append, List.nil_append, true_and, and_true, not_true_eq_false, not_false_eq_true, imp_f, imp_t, implies_true, Nat.zero_add, if_true, if_false, false_and, and_false]
          exact kbad _ _ _ rfl f4 (kk3.trans (O8.ll k4))
      · have eb : ¬ byq t n p = wn 40 := by
          unfold byq
          by_cases cp : p < n
          · rw [if_pos cp, wn_inj (by omega) (by decide)]; exact fun z => c40 ⟨cp, z⟩
          · rw [if_neg cp]; decide
        simp +decide (disch := omega) only [↓wm1, wb185_125 hc, wb185_169 hc, w0, w1, w5, w7, w8, w12, w13, w15, w19, w20, w40, w41, w44, w91, w93, w999, rI_wI, rP_wI, rL_wI, rI_wR, rP_wR, is_wI, is_wR, ia_wI, ia_wR, ow_wI, ow_wR, wn_add, wn_mul, wn_cl, wn_le, wn_lt, wn_inj, wn_ne1, wn_1ne, wn_gt1, wn_le1, nb0, nb1, am_kt, am_rt, List.cons_append, List.nil_append, true_and, and_true, not_true_eq_false, not_false_eq_true, imp_f, imp_t, implies_true, Nat.zero_add, if_true, if_false, false_and, and_false, eb, fM s3]
        refine ct184 s3 t3 (fun k G4 hk hk9 t4 k4 => ?_) (fun G4 hk t4 k4 => ?_)
        · have s4 := s3.kp k4
          have l4 := l3.oo k4
          have hhd := wi2_hd hk
          have hlt := wrd_pos hk
          have hle := lte_le (t := t) hpn
          have c1 : ¬ (p < n ∧ isD (t p) = true) := by rintro ⟨-, z⟩; unfold isD at z; rw [decide_eq_true_eq] at z; omega
          unfold pun at kok kbad
          simp only [if_neg c1, if_neg c40, hk, if_pos hk9] at kok kbad
          simp +decide (disch := omega) only [↓wm1, wb185_173 hc, wb185_179 hc, w0, w1, w5, w7, w8, w12, w13, w15, w19, w20, w40, w41, w44, w91, w93, w999, rI_wI, rP_wI, rL_wI, rI_wR, rP_wR, is_wI, is_wR, ia_wI, ia_wR, ow_wI, ow_wR, wn_add, wn_mul, wn_cl, wn_le, wn_lt, wn_inj, wn_ne1, wn_1ne, wn_gt1, wn_le1, nb0, nb1, am_kt, am_rt, List.cons_append, List.nil_append, true_and, and_true, not_true_eq_false, not_false_eq_true, imp_f, imp_t, implies_true, Nat.zero_add, if_true, if_false, false_and, and_false, fM s4]
          refine ct180 (a := 1) (b := k) s4 t4.2.2.2.2.2.2.2.2.1 l4 (by omega) (fun G5 l5 k5 => ?_)
          simp +decide (disch := omega) only [↓wm1, wb185_185 hc, wb185_201 hc, w0, w1, w5, w7, w8, w12, w13, w15, w19, w20, w40, w41, w44, w91, w93, w999, rI_wI, rP_wI, rL_wI, rI_wR, rP_wR, is_wI, is_wR, ia_wI, ia_wR, ow_wI, ow_wR, wn_add, wn_mul, wn_cl, wn_le, wn_lt, wn_inj, wn_ne1, wn_1ne, wn_gt1, wn_le1, nb0, nb1, am_kt, am_rt, List.cons_append, List.nil_append, true_and, and_true, not_true_eq_false, not_false_eq_true, imp_f, imp_t, implies_true, Nat.zero_add, if_true, if_false, false_and, and_false]
          exact kok _ _ _ rfl (t4.n2 k5) l5 ((kk3.trans (O8.ll k4)).trans (N2.ll k5))
        · have s4 := s3.kp k4
          have l4 := l3.oo k4
          have hno : wi2 (wrd t n p) = none := by
            rcases hw : wi2 (wrd t n p) with _ | k
            · rfl
            · rcases wi2_9 hw (hk k hw) with ⟨-, z⟩ | ⟨-, z⟩
              · exact absurd z cL
              · exact absurd z cM
          simp +decide (disch := omega) only [↓wm1, wb185_173 hc, wb185_188 hc, w0, w1, w5, w7, w8, w12, w13, w15, w19, w20, w40, w41, w44, w91, w93, w999, rI_wI, rP_wI, rL_wI, rI_wR, rP_wR, is_wI, is_wR, ia_wI, ia_wR, ow_wI, ow_wR, wn_add, wn_mul, wn_cl, wn_le, wn_lt, wn_inj, wn_ne1, wn_1ne, wn_gt1, wn_le1, nb0, nb1, am_kt, am_rt, List.cons_append, List.nil_append, true_and, and_true, not_true_eq_false, not_false_eq_true, imp_f, imp_t, implies_true, Nat.zero_add, if_true, if_false, false_and, and_false, fM s4]
          refine ct163 (lo := 0) (hi := 1000) s4 t4 rfl (by decide) (by decide) (fun v p' G5 e5 t5 k5 => ?_) (fun k G5 e5 f5 k5 => ?_)
          · have c1 : p < n ∧ isD (t p) = true := by
              unfold pnum at e5
              split at e5
              · assumption
              · cases e5
            have c1' := c1.1
            have s5 := s4.kp k5
            unfold pun at kok kbad
            simp only [if_pos c1, e5, pb] at kok kbad
            simp +decide (disch := omega) only [↓wm1, wb185_198 hc, w0, w1, w5, w7, w8, w12, w13, w15, w19, w20, w40, w41, w44, w91, w93, w999, rI_wI, rP_wI, rL_wI, rI_wR, rP_wR, is_wI, is_wR, ia_wI, ia_wR, ow_wI, ow_wR, wn_add, wn_mul, wn_cl, wn_le, wn_lt, wn_inj, wn_ne1, wn_1ne, wn_gt1, wn_le1, nb0, nb1, am_kt, am_rt, List.cons_append, List.nil_append, true_and, and_true, not_true_eq_false, not_false_eq_true, imp_f, imp_t, implies_true, Nat.zero_add, if_true, if_false, false_and, and_false, fM s5]
            refine ct180 (a := 0) (b := v) s5 t5.2.2.2.2.2.2.2.2.1 (l4.oo (QS.oo k5)) (by omega) (fun G6 l6 k6 => ?_)
            simp +decide (disch := omega) only [↓wm1, wb185_201 hc, w0, w1, w5, w7, w8, w12, w13, w15, w19, w20, w40, w41, w44, w91, w93, w999, rI_wI, rP_wI, rL_wI, rI_wR, rP_wR, is_wI, is_wR, ia_wI, ia_wR, ow_wI, ow_wR, wn_add, wn_mul, wn_cl, wn_le, wn_lt, wn_inj, wn_ne1, wn_1ne, wn_gt1, wn_le1, nb0, nb1, am_kt, am_rt, List.cons_append, List.nil_append, true_and, and_true, not_true_eq_false, not_false_eq_true, imp_f, imp_t, implies_true, Nat.zero_add, if_true, if_false, false_and, and_false]
            exact kok _ _ _ rfl (t5.n2 k6) l6 (((kk3.trans (O8.ll k4)).trans (O8.ll (QS.oo k5))).trans (N2.ll k6))
          · have s5 := s4.kp k5
            have hp : pun t n lv ps p Λ = .inl (k, p) := by
              unfold pun
              by_cases c1 : p < n ∧ isD (t p) = true
              · rw [if_pos c1, e5]; rfl
              · unfold pnum at e5
                rw [if_neg c1] at e5
                rw [if_neg c1, if_neg c40, hno]
                cases e5
                rfl
            simp +decide (disch := omega) only [↓wm1, wb185_198 hc, wb185_201 hc, w0, w1, w5, w7, w8, w12, w13, w15, w19, w20, w40, w41, w44, w91, w93, w999, rI_wI, rP_wI, rL_wI, rI_wR, rP_wR, is_wI, is_wR, ia_wI, ia_wR, ow_wI, ow_wR, wn_add, wn_mul, wn_cl, wn_le, wn_lt, wn_inj, wn_ne1, wn_1ne, wn_gt1, wn_le1, nb0, nb1, am_kt, am_rt, List.cons_append, List.nil_append, true_and, and_true, not_true_eq_false, not_false_eq_true, imp_f, imp_t, implies_true, Nat.zero_add, if_true, if_false, false_and, and_false, fM s5, ct180f s5 f5]
            exact kbad _ _ _ hp f5 ((kk3.trans (O8.ll k4)).trans (O8.ll (QS.oo k5)))
theorem RPsm (hn : n ≤ 150) : ∀ (L o d : Nat), o + L = 6 → RP (d + 9 + 3 * L) 182 t n o (psm t n L) := by
  intro L
  induction L with
  | zero =>
    intro o d ho
    have h0 : Gd t n (fun _ _ => .inl (0, 0)) := fun p Λ q Λ' _ e => by cases e
    have a := RP185 (d := d) (t := t) (n := n) (ps := fun _ _ => .inl (0, 0)) ho h0 hn (Or.inl rfl)
    have b := RP183 (d := d + 4) (Gd_un (Or.inl rfl)) hn a
    exact RP182 (d := d + 5) (Gd_ser (Gd_un (Or.inl rfl)) sgp_ok) hn b
  | succ L ih =>
    intro o d ho
    have i1 := ih (o + 1) d (by omega)
    rw [show d + 9 + 3 * L = (d + 3 + 3 * L) + 6 by omega] at i1
    have a := RP185 (d := d + 3 + 3 * L) ho (Gd_sm L) hn (Or.inr i1)
    have b := RP183 (d := d + 3 + 3 * L + 4) (Gd_un (Or.inr (Gd_sm L))) hn a
    have c := RP182 (d := d + 3 + 3 * L + 5) (Gd_ser (Gd_un (Or.inr (Gd_sm L))) sgp_ok) hn b
    rw [show d + 9 + 3 * (L + 1) = d + 3 + 3 * L + 5 + 4 by omega]
    exact c
end
