/-! The law's reading, the reference's side: sums, products, one value. -/
section
variable {G : am_G} {d n o p lv : Nat} {t : Nat → Nat} {pu ps : PLw} {post : am_O → am_G → Prop} {Λ : List Tok}
theorem RP182 (hg : Gd t n pu) (hn : n ≤ 150) (h : RP (d + 3) 183 t n o pu) : RP (d + 4) 182 t n o (pser sgs t n pu) := by
  intro G p Λ post hsh hT hL hlen kok kbad
  have hc := am_C_one am_T (d + 3)
  have key : ∀ (f p' : Nat) (Λ' : List Tok) (G1 : am_G) (o1 : Option Value), n ≤ p' + f → Sh G1 → rQ G1 t n p' o → rLs G1 Λ' → Λ'.length ≤ p' → Kp LQ G G1 → pser sgs t n pu p Λ = lop sgs t n pu f p' Λ' →
      am_W (am_C am_T (d + 3)) am_182 post 4 [some (.ref 334), o1] [] G1 := by
    intro f
    induction f with
    | zero =>
      intro p' Λ' G1 o1 hf s1 t1 l1 len1 k1 e
      refine ct182_s s1 t1 (fun G2 c t2 k2 => kok p' Λ' G2 e t2 (l1.oo k2) (k1.trans (O8.ll k2))) (fun G2 c t2 k2 => ?_)
      omega
    | succ f ih =>
      intro p' Λ' G1 o1 hf s1 t1 l1 len1 k1 e
      unfold lop at e
      refine ct182_s s1 t1 (fun G2 c t2 k2 => ?_) (fun G2 c t2 k2 => ?_)
      · rw [if_neg c] at e
        exact kok p' Λ' G2 e t2 (l1.oo k2) (k1.trans (O8.ll k2))
      · rw [if_pos c] at e
        have s2 := s1.kp k2
        have g0 := skb_ge t n (p' + 1)
        have gn : skb t n (p' + 1) ≤ n := skb_le (by omega)
        have kk2 : Kp LQ G G2 := k1.trans (O8.ll k2)
        simp +decide (disch := omega) only [↓wm1, wb182_45 hc, w0, w1, w2, w3, w43, w45, rI_wI, rP_wI, rL_wI, rI_wR, rP_wR, is_wI, is_wR, ia_wI, ia_wR, ow_wI, ow_wR, wn_add, wn_mul, wn_cl, wn_le, wn_lt, wn_inj, wn_ne1, wn_1ne, wn_gt1, wn_le1, nb0, nb1, am_kt, am_rt, List.cons_append, List.nil_append, true_and, and_true, not_true_eq_false, not_false_eq_true, imp_f, imp_t, implies_true, Nat.zero_add, if_true, if_false, false_and, and_false, fM s2]
        refine h G2 _ Λ' _ s2 t2 (l1.oo k2) (by omega) (fun q Λ2 G3 e3 t3 l3 k3 => ?_) (fun k w G3 e3 f3 k3 => ?_)
        · have s3 := s2.kp k3
          obtain ⟨a1, a2, a3, r1, rfl, a5, a6, a7⟩ := hg _ _ _ _ gn e3
          simp only [e3, pb] at e
          have hlen2 : (Λ' ++ r1).length < q := by simp only [List.length_append]; omega
          simp +decide (disch := omega) only [↓wm1, wb182_49 hc, w0, w1, w2, w3, w43, w45, rI_wI, rP_wI, rL_wI, rI_wR, rP_wR, is_wI, is_wR, ia_wI, ia_wR, ow_wI, ow_wR, wn_add, wn_mul, wn_cl, wn_le, wn_lt, wn_inj, wn_ne1, wn_1ne, wn_gt1, wn_le1, nb0, nb1, am_kt, am_rt, List.cons_append, List.nil_append, true_and, and_true, not_true_eq_false, not_false_eq_true, imp_f, imp_t, implies_true, Nat.zero_add, if_true, if_false, false_and, and_false, fM s3]
          refine ct180 (b := 0) s3 t3.2.2.2.2.2.2.2.2.1 l3 (by omega) (fun G4 l4 k4 => ?_)
          simp +decide (disch := omega) only [↓wm1, wb182_55 hc, w0, w1, w2, w3, w43, w45, rI_wI, rP_wI, rL_wI, rI_wR, rP_wR, is_wI, is_wR, ia_wI, ia_wR, ow_wI, ow_wR, wn_add, wn_mul, wn_cl, wn_le, wn_lt, wn_inj, wn_ne1, wn_1ne, wn_gt1, wn_le1, nb0, nb1, am_kt, am_rt, List.cons_append, List.nil_append, true_and, and_true, not_true_eq_false, not_false_eq_true, imp_f, imp_t, implies_true, Nat.zero_add, if_true, if_false, false_and, and_false]
          exact ih q _ G4 _ (by omega) (s3.kp k4) (t3.n2 k4) l4 (by simp only [List.length_append, List.length_cons, List.length_nil] at hlen2 ⊢; omega) ((kk2.trans k3).trans (N2.ll k4)) e
        · have s3 := s2.kp k3
          simp only [e3, pb] at e
          have e5 := f3.2.2.2.2.2.2.1
          have c0 : ¬ k = 0 := by have := f3.2.2.2.2.2.1; omega
          have c3 : k < 2147483648 := by have := f3.2.2.2.2.2.1; omega
          simp +decide (disch := omega) only [↓wm1, wb182_49 hc, wb182_55 hc, w0, w1, w2, w3, w43, w45, rI_wI, rP_wI, rL_wI, rI_wR, rP_wR, is_wI, is_wR, ia_wI, ia_wR, ow_wI, ow_wR, wn_add, wn_mul, wn_cl, wn_le, wn_lt, wn_inj, wn_ne1, wn_1ne, wn_gt1, wn_le1, nb0, nb1, am_kt, am_rt, List.cons_append, List.nil_append, true_and, and_true, not_true_eq_false, not_false_eq_true, imp_f, imp_t, implies_true, Nat.zero_add, if_true, if_false, false_and, and_false, fM s3, ct180f s3 f3]
          rw [wb182_4 hc]
          simp +decide (disch := omega) only [↓wm1, wb182_58 hc, w0, w1, w2, w3, w43, w45, rI_wI, rP_wI, rL_wI, rI_wR, rP_wR, is_wI, is_wR, ia_wI, ia_wR, ow_wI, ow_wR, wn_add, wn_mul, wn_cl, wn_le, wn_lt, wn_inj, wn_ne1, wn_1ne, wn_gt1, wn_le1, nb0, nb1, am_kt, am_rt, List.cons_append, List.nil_append, true_and, and_true, not_true_eq_false, not_false_eq_true, imp_f, imp_t, implies_true, Nat.zero_add, if_true, if_false, false_and, and_false, fM s3, e5, c0]
          exact kbad k w G3 e f3 (kk2.trans k3)
  have hpn := hT.2.2.1
  rw [we182]
  simp +decide (disch := omega) only [↓wm1, wb182_0 hc, w0, w1, w2, w3, w43, w45, rI_wI, rP_wI, rL_wI, rI_wR, rP_wR, is_wI, is_wR, ia_wI, ia_wR, ow_wI, ow_wR, wn_add, wn_mul, wn_cl, wn_le, wn_lt, wn_inj, wn_ne1, wn_1ne, wn_gt1, wn_le1, nb0, nb1, am_kt, am_rt, List.cons_append, List.nil_append, true_and, and_true, not_true_eq_false, not_false_eq_true, imp_f, imp_t, implies_true, Nat.zero_add, if_true, if_false, false_and, and_false, fM hsh]
  refine h G p Λ _ hsh hT hL hlen (fun q Λ1 G1 e1 t1 l1 k1 => ?_) (fun k w G1 e1 f1 k1 => ?_)
  · obtain ⟨a1, a2, a3, r1, rfl, a5, a6, a7⟩ := hg _ _ _ _ hpn e1
    simp +decide (disch := omega) only [↓wm1, w0, w1, rI_wI, rP_wI, rL_wI, rI_wR, rP_wR, is_wI, is_wR, ia_wI, ia_wR, ow_wI, ow_wR, wn_add, wn_mul, wn_cl, wn_le, wn_lt, wn_inj, wn_ne1, wn_1ne, wn_gt1, wn_le1, nb0, nb1, am_kt, am_rt, List.cons_append, List.nil_append, true_and, and_true, not_true_eq_false, not_false_eq_true, imp_f, imp_t, implies_true, Nat.zero_add, if_true, if_false, false_and, and_false]
    refine key 150 q _ G1 _ (by omega) (hsh.kp k1) t1 l1 (by simp only [List.length_append]; omega) k1 ?_
    unfold pser
    simp only [e1, pb]
  · have s1 := hsh.kp k1
    have e5 := f1.2.2.2.2.2.2.1
    have c0 : ¬ k = 0 := by have := f1.2.2.2.2.2.1; omega
    have c3 : k < 2147483648 := by have := f1.2.2.2.2.2.1; omega
    simp +decide (disch := omega) only [↓wm1, w0, w1, rI_wI, rP_wI, rL_wI, rI_wR, rP_wR, is_wI, is_wR, ia_wI, ia_wR, ow_wI, ow_wR, wn_add, wn_mul, wn_cl, wn_le, wn_lt, wn_inj, wn_ne1, wn_1ne, wn_gt1, wn_le1, nb0, nb1, am_kt, am_rt, List.cons_append, List.nil_append, true_and, and_true, not_true_eq_false, not_false_eq_true, imp_f, imp_t, implies_true, Nat.zero_add, if_true, if_false, false_and, and_false]
    rw [wb182_4 hc]
    simp +decide (disch := omega) only [↓wm1, wb182_58 hc, w0, w1, w2, w3, w43, w45, rI_wI, rP_wI, rL_wI, rI_wR, rP_wR, is_wI, is_wR, ia_wI, ia_wR, ow_wI, ow_wR, wn_add, wn_mul, wn_cl, wn_le, wn_lt, wn_inj, wn_ne1, wn_1ne, wn_gt1, wn_le1, nb0, nb1, am_kt, am_rt, List.cons_append, List.nil_append, true_and, and_true, not_true_eq_false, not_false_eq_true, imp_f, imp_t, implies_true, Nat.zero_add, if_true, if_false, false_and, and_false, fM s1, e5, c0]
    refine kbad k w G1 ?_ f1 k1
    unfold pser
    simp only [e1, pb]
theorem RP183 (hg : Gd t n pu) (hn : n ≤ 150) (h : RP (d + 3) 185 t n o pu) : RP (d + 4) 183 t n o (pser sgp t n pu) := by
  intro G p Λ post hsh hT hL hlen kok kbad
  have hc := am_C_one am_T (d + 3)
  have key : ∀ (f p' : Nat) (Λ' : List Tok) (G1 : am_G) (o1 : Option Value), n ≤ p' + f → Sh G1 → rQ G1 t n p' o → rLs G1 Λ' → Λ'.length ≤ p' → Kp LQ G G1 → pser sgp t n pu p Λ = lop sgp t n pu f p' Λ' →
      am_W (am_C am_T (d + 3)) am_183 post 4 [some (.ref 334), o1] [] G1 := by
    intro f
    induction f with
    | zero =>
      intro p' Λ' G1 o1 hf s1 t1 l1 len1 k1 e
      refine ct183_s s1 t1 (fun G2 c t2 k2 => kok p' Λ' G2 e t2 (l1.oo k2) (k1.trans (O8.ll k2))) (fun G2 c t2 k2 => ?_)
      omega
    | succ f ih =>
      intro p' Λ' G1 o1 hf s1 t1 l1 len1 k1 e
      unfold lop at e
      refine ct183_s s1 t1 (fun G2 c t2 k2 => ?_) (fun G2 c t2 k2 => ?_)
      · rw [if_neg c] at e
        exact kok p' Λ' G2 e t2 (l1.oo k2) (k1.trans (O8.ll k2))
      · rw [if_pos c] at e
        have s2 := s1.kp k2
        have g0 := skb_ge t n (p' + 1)
        have gn : skb t n (p' + 1) ≤ n := skb_le (by omega)
        have kk2 : Kp LQ G G2 := k1.trans (O8.ll k2)
        simp +decide (disch := omega) only [↓wm1, wb183_59 hc, w0, w1, w4, w5, w6, w37, w42, w47, rI_wI, rP_wI, rL_wI, rI_wR, rP_wR, is_wI, is_wR, ia_wI, ia_wR, ow_wI, ow_wR, wn_add, wn_mul, wn_cl, wn_le, wn_lt, wn_inj, wn_ne1, wn_1ne, wn_gt1, wn_le1, nb0, nb1, am_kt, am_rt, List.cons_append, List.nil_append, true_and, and_true, not_true_eq_false, not_false_eq_true, imp_f, imp_t, implies_true, Nat.zero_add, if_true, if_false, false_and, and_false, fM s2]
        refine h G2 _ Λ' _ s2 t2 (l1.oo k2) (by omega) (fun q Λ2 G3 e3 t3 l3 k3 => ?_) (fun k w G3 e3 f3 k3 => ?_)
        · have s3 := s2.kp k3
          obtain ⟨a1, a2, a3, r1, rfl, a5, a6, a7⟩ := hg _ _ _ _ gn e3
          simp only [e3, pb] at e
          have hlen2 : (Λ' ++ r1).length < q := by simp only [List.length_append]; omega
          simp +decide (disch := omega) only [↓wm1, wb183_63 hc, w0, w1, w4, w5, w6, w37, w42, w47, rI_wI, rP_wI, rL_wI, rI_wR, rP_wR, is_wI, is_wR, ia_wI, ia_wR, ow_wI, ow_wR, wn_add, wn_mul, wn_cl, wn_le, wn_lt, wn_inj, wn_ne1, wn_1ne, wn_gt1, wn_le1, nb0, nb1, am_kt, am_rt, List.cons_append, List.nil_append, true_and, and_true, not_true_eq_false, not_false_eq_true, imp_f, imp_t, implies_true, Nat.zero_add, if_true, if_false, false_and, and_false, fM s3]
          refine ct180 (b := 0) s3 t3.2.2.2.2.2.2.2.2.1 l3 (by omega) (fun G4 l4 k4 => ?_)
          simp +decide (disch := omega) only [↓wm1, wb183_69 hc, w0, w1, w4, w5, w6, w37, w42, w47, rI_wI, rP_wI, rL_wI, rI_wR, rP_wR, is_wI, is_wR, ia_wI, ia_wR, ow_wI, ow_wR, wn_add, wn_mul, wn_cl, wn_le, wn_lt, wn_inj, wn_ne1, wn_1ne, wn_gt1, wn_le1, nb0, nb1, am_kt, am_rt, List.cons_append, List.nil_append, true_and, and_true, not_true_eq_false, not_false_eq_true, imp_f, imp_t, implies_true, Nat.zero_add, if_true, if_false, false_and, and_false]
          exact ih q _ G4 _ (by omega) (s3.kp k4) (t3.n2 k4) l4 (by simp only [List.length_append, List.length_cons, List.length_nil] at hlen2 ⊢; omega) ((kk2.trans k3).trans (N2.ll k4)) e
        · have s3 := s2.kp k3
          simp only [e3, pb] at e
          have e5 := f3.2.2.2.2.2.2.1
          have c0 : ¬ k = 0 := by have := f3.2.2.2.2.2.1; omega
          have c3 : k < 2147483648 := by have := f3.2.2.2.2.2.1; omega
          simp +decide (disch := omega) only [↓wm1, wb183_63 hc, wb183_69 hc, w0, w1, w4, w5, w6, w37, w42, w47, rI_wI, rP_wI, rL_wI, rI_wR, rP_wR, is_wI, is_wR, ia_wI, ia_wR, ow_wI, ow_wR, wn_add, wn_mul, wn_cl, wn_le, wn_lt, wn_inj, wn_ne1, wn_1ne, wn_gt1, wn_le1, nb0, nb1, am_kt, am_rt, List.cons_append, List.nil_append, true_and, and_true, not_true_eq_false, not_false_eq_true, imp_f, imp_t, implies_true, Nat.zero_add, if_true, if_false, false_and, and_false, fM s3, ct180f s3 f3]
          rw [wb183_4 hc]
          simp +decide (disch := omega) only [↓wm1, wb183_72 hc, w0, w1, w4, w5, w6, w37, w42, w47, rI_wI, rP_wI, rL_wI, rI_wR, rP_wR, is_wI, is_wR, ia_wI, ia_wR, ow_wI, ow_wR, wn_add, wn_mul, wn_cl, wn_le, wn_lt, wn_inj, wn_ne1, wn_1ne, wn_gt1, wn_le1, nb0, nb1, am_kt, am_rt, List.cons_append, List.nil_append, true_and, and_true, not_true_eq_false, not_false_eq_true, imp_f, imp_t, implies_true, Nat.zero_add, if_true, if_false, false_and, and_false, fM s3, e5, c0]
          exact kbad k w G3 e f3 (kk2.trans k3)
  have hpn := hT.2.2.1
  rw [we183]
  simp +decide (disch := omega) only [↓wm1, wb183_0 hc, w0, w1, w4, w5, w6, w37, w42, w47, rI_wI, rP_wI, rL_wI, rI_wR, rP_wR, is_wI, is_wR, ia_wI, ia_wR, ow_wI, ow_wR, wn_add, wn_mul, wn_cl, wn_le, wn_lt, wn_inj, wn_ne1, wn_1ne, wn_gt1, wn_le1, nb0, nb1, am_kt, am_rt, List.cons_append, List.nil_append, true_and, and_true, not_true_eq_false, not_false_eq_true, imp_f, imp_t, implies_true, Nat.zero_add, if_true, if_false, false_and, and_false, fM hsh]
  refine h G p Λ _ hsh hT hL hlen (fun q Λ1 G1 e1 t1 l1 k1 => ?_) (fun k w G1 e1 f1 k1 => ?_)
  · obtain ⟨a1, a2, a3, r1, rfl, a5, a6, a7⟩ := hg _ _ _ _ hpn e1
    simp +decide (disch := omega) only [↓wm1, w0, w1, rI_wI, rP_wI, rL_wI, rI_wR, rP_wR, is_wI, is_wR, ia_wI, ia_wR, ow_wI, ow_wR, wn_add, wn_mul, wn_cl, wn_le, wn_lt, wn_inj, wn_ne1, wn_1ne, wn_gt1, wn_le1, nb0, nb1, am_kt, am_rt, List.cons_append, List.nil_append, true_and, and_true, not_true_eq_false, not_false_eq_true, imp_f, imp_t, implies_true, Nat.zero_add, if_true, if_false, false_and, and_false]
    refine key 150 q _ G1 _ (by omega) (hsh.kp k1) t1 l1 (by simp only [List.length_append]; omega) k1 ?_
    unfold pser
    simp only [e1, pb]
  · have s1 := hsh.kp k1
    have e5 := f1.2.2.2.2.2.2.1
    have c0 : ¬ k = 0 := by have := f1.2.2.2.2.2.1; omega
    have c3 : k < 2147483648 := by have := f1.2.2.2.2.2.1; omega
    simp +decide (disch := omega) only [↓wm1, w0, w1, rI_wI, rP_wI, rL_wI, rI_wR, rP_wR, is_wI, is_wR, ia_wI, ia_wR, ow_wI, ow_wR, wn_add, wn_mul, wn_cl, wn_le, wn_lt, wn_inj, wn_ne1, wn_1ne, wn_gt1, wn_le1, nb0, nb1, am_kt, am_rt, List.cons_append, List.nil_append, true_and, and_true, not_true_eq_false, not_false_eq_true, imp_f, imp_t, implies_true, Nat.zero_add, if_true, if_false, false_and, and_false]
    rw [wb183_4 hc]
    simp +decide (disch := omega) only [↓wm1, wb183_72 hc, w0, w1, w4, w5, w6, w37, w42, w47, rI_wI, rP_wI, rL_wI, rI_wR, rP_wR, is_wI, is_wR, ia_wI, ia_wR, ow_wI, ow_wR, wn_add, wn_mul, wn_cl, wn_le, wn_lt, wn_inj, wn_ne1, wn_1ne, wn_gt1, wn_le1, nb0, nb1, am_kt, am_rt, List.cons_append, List.nil_append, true_and, and_true, not_true_eq_false, not_false_eq_true, imp_f, imp_t, implies_true, Nat.zero_add, if_true, if_false, false_and, and_false, fM s1, e5, c0]
    refine kbad k w G1 ?_ f1 k1
    unfold pser
    simp only [e1, pb]
theorem ct184 (hsh : Sh G) (h : rQ G t n p o) (kok : ∀ k G', wi2 (wrd t n p) = some k → k < 9 → rQ G' t n (skb t n (lte t n p)) o → Kp O8 G G' → post (.inl (some (.int (wn k)))) G') (kno : ∀ G', (∀ k, wi2 (wrd t n p) = some k → 9 ≤ k) → rQ G' t n p o → Kp O8 G G' → post (.inl (some (.int mm))) G') : am_C am_T (d + 6) 184 [.ref 334] G post := by
  have hc := am_C_one am_T (d + 5)
  rw [we184]
  simp +decide (disch := omega) only [↓wm1, wb184_0 hc, w0, w1, w2, w3, w4, w5, w6, w7, w8, w11, w12, w13, w15, w16, w18, w19, w20, w21, rI_wI, rP_wI, rL_wI, rI_wR, rP_wR, is_wI, is_wR, ia_wI, ia_wR, ow_wI, ow_wR, wn_add, wn_mul, wn_cl, wn_le, wn_lt, wn_inj, wn_ne1, wn_1ne, wn_gt1, wn_le1, nb0, nb1, am_kt, am_rt, List.cons_append, List.nil_append, true_and, and_true, not_true_eq_false, not_false_eq_true, imp_f, imp_t, implies_true, Nat.zero_add, if_true, if_false, false_and, and_false, fM hsh]
  unfold wi2 at kok kno
  refine ct168 spl_loud hsh h (fun G1 e1 h1 k1 => ?_) (fun G1 e1 h1 q1 k1 => ?_)
  · simp only [if_pos e1] at kok
    simp +decide (disch := omega) only [↓wm1, wb184_13 hc, wb184_16 hc, w0, w1, w2, w3, w4, w5, w6, w7, w8, w11, w12, w13, w15, w16, w18, w19, w20, w21, rI_wI, rP_wI, rL_wI, rI_wR, rP_wR, is_wI, is_wR, ia_wI, ia_wR, ow_wI, ow_wR, wn_add, wn_mul, wn_cl, wn_le, wn_lt, wn_inj, wn_ne1, wn_1ne, wn_gt1, wn_le1, nb0, nb1, am_kt, am_rt, List.cons_append, List.nil_append, true_and, and_true, not_true_eq_false, not_false_eq_true, imp_f, imp_t, implies_true, Nat.zero_add, if_true, if_false, false_and, and_false]
    exact kok 0 G1 rfl (by decide) h1 (Q4.oo k1)
  · have s1 := hsh.kp k1
    have y1 : Kp O8 G G1 := Q4.oo k1
    simp +decide (disch := omega) only [↓wm1, wb184_13 hc, wb184_18 hc, w0, w1, w2, w3, w4, w5, w6, w7, w8, w11, w12, w13, w15, w16, w18, w19, w20, w21, rI_wI, rP_wI, rL_wI, rI_wR, rP_wR, is_wI, is_wR, ia_wI, ia_wR, ow_wI, ow_wR, wn_add, wn_mul, wn_cl, wn_le, wn_lt, wn_inj, wn_ne1, wn_1ne, wn_gt1, wn_le1, nb0, nb1, am_kt, am_rt, List.cons_append, List.nil_append, true_and, and_true, not_true_eq_false, not_false_eq_true, imp_f, imp_t, implies_true, Nat.zero_add, if_true, if_false, false_and, and_false, fM s1]
    refine ct168 spl_far s1 h1 (fun G2 e2 h2 k2 => ?_) (fun G2 e2 h2 q2 k2 => ?_)
    · simp only [if_neg e1, if_pos e2] at kok
      simp +decide (disch := omega) only [↓wm1, wb184_30 hc, wb184_33 hc, w0, w1, w2, w3, w4, w5, w6, w7, w8, w11, w12, w13, w15, w16, w18, w19, w20, w21, rI_wI, rP_wI, rL_wI, rI_wR, rP_wR, is_wI, is_wR, ia_wI, ia_wR, ow_wI, ow_wR, wn_add, wn_mul, wn_cl, wn_le, wn_lt, wn_inj, wn_ne1, wn_1ne, wn_gt1, wn_le1, nb0, nb1, am_kt, am_rt, List.cons_append, List.nil_append, true_and, and_true, not_true_eq_false, not_false_eq_true, imp_f, imp_t, implies_true, Nat.zero_add, if_true, if_false, false_and, and_false]
      exact kok 1 G2 rfl (by decide) h2 (y1.trans (Q4.oo k2))
    · have s2 := s1.kp k2
      have y2 : Kp O8 G G2 := y1.trans (Q4.oo k2)
      simp +decide (disch := omega) only [↓wm1, wb184_30 hc, wb184_35 hc, w0, w1, w2, w3, w4, w5, w6, w7, w8, w11, w12, w13, w15, w16, w18, w19, w20, w21, rI_wI, rP_wI, rL_wI, rI_wR, rP_wR, is_wI, is_wR, ia_wI, ia_wR, ow_wI, ow_wR, wn_add, wn_mul, wn_cl, wn_le, wn_lt, wn_inj, wn_ne1, wn_1ne, wn_gt1, wn_le1, nb0, nb1, am_kt, am_rt, List.cons_append, List.nil_append, true_and, and_true, not_true_eq_false, not_false_eq_true, imp_f, imp_t, implies_true, Nat.zero_add, if_true, if_false, false_and, and_false, fM s2]
      refine ct168 spl_apart s2 h2 (fun G3 e3 h3 k3 => ?_) (fun G3 e3 h3 q3 k3 => ?_)
      · simp only [if_neg e1, if_neg e2, if_pos e3] at kok
        simp +decide (disch := omega) only [↓wm1, wb184_48 hc, wb184_51 hc, w0, w1, w2, w3, w4, w5, w6, w7, w8, w11, w12, w13, w15, w16, w18, w19, w20, w21, rI_wI, rP_wI, rL_wI, rI_wR, rP_wR, is_wI, is_wR, ia_wI, ia_wR, ow_wI, ow_wR, wn_add, wn_mul, wn_cl, wn_le, wn_lt, wn_inj, wn_ne1, wn_1ne, wn_gt1, wn_le1, nb0, nb1, am_kt, am_rt, List.cons_append, List.nil_append, true_and, and_true, not_true_eq_false, not_false_eq_true, imp_f, imp_t, implies_true, Nat.zero_add, if_true, if_false, false_and, and_false]
        exact kok 2 G3 rfl (by decide) h3 (y2.trans (Q4.oo k3))
      · have s3 := s2.kp k3
        have y3 : Kp O8 G G3 := y2.trans (Q4.oo k3)
        simp +decide (disch := omega) only [↓wm1, wb184_48 hc, wb184_53 hc, w0, w1, w2, w3, w4, w5, w6, w7, w8, w11, w12, w13, w15, w16, w18, w19, w20, w21, rI_wI, rP_wI, rL_wI, rI_wR, rP_wR, is_wI, is_wR, ia_wI, ia_wR, ow_wI, ow_wR, wn_add, wn_mul, wn_cl, wn_le, wn_lt, wn_inj, wn_ne1, wn_1ne, wn_gt1, wn_le1, nb0, nb1, am_kt, am_rt, List.cons_append, List.nil_append, true_and, and_true, not_true_eq_false, not_false_eq_true, imp_f, imp_t, implies_true, Nat.zero_add, if_true, if_false, false_and, and_false, fM s3]
        refine ct168 spl_cracks s3 h3 (fun G4 e4 h4 k4 => ?_) (fun G4 e4 h4 q4 k4 => ?_)
        · simp only [if_neg e1, if_neg e2, if_neg e3, if_pos e4] at kok
          simp +decide (disch := omega) only [↓wm1, wb184_66 hc, wb184_69 hc, w0, w1, w2, w3, w4, w5, w6, w7, w8, w11, w12, w13, w15, w16, w18, w19, w20, w21, rI_wI, rP_wI, rL_wI, rI_wR, rP_wR, is_wI, is_wR, ia_wI, ia_wR, ow_wI, ow_wR, wn_add, wn_mul, wn_cl, wn_le, wn_lt, wn_inj, wn_ne1, wn_1ne, wn_gt1, wn_le1, nb0, nb1, am_kt, am_rt, List.cons_append, List.nil_append, true_and, and_true, not_true_eq_false, not_false_eq_true, imp_f, imp_t, implies_true, Nat.zero_add, if_true, if_false, false_and, and_false]
          exact kok 3 G4 rfl (by decide) h4 (y3.trans (Q4.oo k4))
        · have s4 := s3.kp k4
          have y4 : Kp O8 G G4 := y3.trans (Q4.oo k4)
          simp +decide (disch := omega) only [↓wm1, wb184_66 hc, wb184_71 hc, w0, w1, w2, w3, w4, w5, w6, w7, w8, w11, w12, w13, w15, w16, w18, w19, w20, w21, rI_wI, rP_wI, rL_wI, rI_wR, rP_wR, is_wI, is_wR, ia_wI, ia_wR, ow_wI, ow_wR, wn_add, wn_mul, wn_cl, wn_le, wn_lt, wn_inj, wn_ne1, wn_1ne, wn_gt1, wn_le1, nb0, nb1, am_kt, am_rt, List.cons_append, List.nil_append, true_and, and_true, not_true_eq_false, not_false_eq_true, imp_f, imp_t, implies_true, Nat.zero_add, if_true, if_false, false_and, and_false, fM s4]
          refine ct168 spl_damp s4 h4 (fun G5 e5 h5 k5 => ?_) (fun G5 e5 h5 q5 k5 => ?_)
          · simp only [if_neg e1, if_neg e2, if_neg e3, if_neg e4, if_pos e5] at kok
            simp +decide (disch := omega) only [↓wm1, wb184_83 hc, wb184_86 hc, w0, w1, w2, w3, w4, w5, w6, w7, w8, w11, w12, w13, w15, w16, w18, w19, w20, w21, rI_wI, rP_wI, rL_wI, rI_wR, rP_wR, is_wI, is_wR, ia_wI, ia_wR, ow_wI, ow_wR, wn_add, wn_mul, wn_cl, wn_le, wn_lt, wn_inj, wn_ne1, wn_1ne, wn_gt1, wn_le1, nb0, nb1, am_kt, am_rt, List.cons_append, List.nil_append, true_and, and_true, not_true_eq_false, not_false_eq_true, imp_f, imp_t, implies_true, Nat.zero_add, if_true, if_false, false_and, and_false]
            exact kok 4 G5 rfl (by decide) h5 (y4.trans (Q4.oo k5))
          · have s5 := s4.kp k5
            have y5 : Kp O8 G G5 := y4.trans (Q4.oo k5)
            simp +decide (disch := omega) only [↓wm1, wb184_83 hc, wb184_88 hc, w0, w1, w2, w3, w4, w5, w6, w7, w8, w11, w12, w13, w15, w16, w18, w19, w20, w21, rI_wI, rP_wI, rL_wI, rI_wR, rP_wR, is_wI, is_wR, ia_wI, ia_wR, ow_wI, ow_wR, wn_add, wn_mul, wn_cl, wn_le, wn_lt, wn_inj, wn_ne1, wn_1ne, wn_gt1, wn_le1, nb0, nb1, am_kt, am_rt, List.cons_append, List.nil_append, true_and, and_true, not_true_eq_false, not_false_eq_true, imp_f, imp_t, implies_true, Nat.zero_add, if_true, if_false, false_and, and_false, fM s5]
            refine ct168 spl_pulled s5 h5 (fun G6 e6 h6 k6 => ?_) (fun G6 e6 h6 q6 k6 => ?_)
            · simp only [if_neg e1, if_neg e2, if_neg e3, if_neg e4, if_neg e5, if_pos e6] at kok
              simp +decide (disch := omega) only [↓wm1, wb184_102 hc, wb184_105 hc, w0, w1, w2, w3, w4, w5, w6, w7, w8, w11, w12, w13, w15, w16, w18, w19, w20, w21, rI_wI, rP_wI, rL_wI, rI_wR, rP_wR, is_wI, is_wR, ia_wI, ia_wR, ow_wI, ow_wR, wn_add, wn_mul, wn_cl, wn_le, wn_lt, wn_inj, wn_ne1, wn_1ne, wn_gt1, wn_le1, nb0, nb1, am_kt, am_rt, List.cons_append, List.nil_append, true_and, and_true, not_true_eq_false, not_false_eq_true, imp_f, imp_t, implies_true, Nat.zero_add, if_true, if_false, false_and, and_false]
              exact kok 5 G6 rfl (by decide) h6 (y5.trans (Q4.oo k6))
            · have s6 := s5.kp k6
              have y6 : Kp O8 G G6 := y5.trans (Q4.oo k6)
              simp +decide (disch := omega) only [↓wm1, wb184_102 hc, wb184_107 hc, w0, w1, w2, w3, w4, w5, w6, w7, w8, w11, w12, w13, w15, w16, w18, w19, w20, w21, rI_wI, rP_wI, rL_wI, rI_wR, rP_wR, is_wI, is_wR, ia_wI, ia_wR, ow_wI, ow_wR, wn_add, wn_mul, wn_cl, wn_le, wn_lt, wn_inj, wn_ne1, wn_1ne, wn_gt1, wn_le1, nb0, nb1, am_kt, am_rt, List.cons_append, List.nil_append, true_and, and_true, not_true_eq_false, not_false_eq_true, imp_f, imp_t, implies_true, Nat.zero_add, if_true, if_false, false_and, and_false, fM s6]
              refine ct168 spl_hour s6 h6 (fun G7 e7 h7 k7 => ?_) (fun G7 e7 h7 q7 k7 => ?_)
              · simp only [if_neg e1, if_neg e2, if_neg e3, if_neg e4, if_neg e5, if_neg e6, if_pos e7] at kok
                simp +decide (disch := omega) only [↓wm1, wb184_121 hc, wb184_124 hc, w0, w1, w2, w3, w4, w5, w6, w7, w8, w11, w12, w13, w15, w16, w18, w19, w20, w21, rI_wI, rP_wI, rL_wI, rI_wR, rP_wR, is_wI, is_wR, ia_wI, ia_wR, ow_wI, ow_wR, wn_add, wn_mul, wn_cl, wn_le, wn_lt, wn_inj, wn_ne1, wn_1ne, wn_gt1, wn_le1, nb0, nb1, am_kt, am_rt, List.cons_append, List.nil_append, true_and, and_true, not_true_eq_false, not_false_eq_true, imp_f, imp_t, implies_true, Nat.zero_add, if_true, if_false, false_and, and_false]
                exact kok 6 G7 rfl (by decide) h7 (y6.trans (Q4.oo k7))
              · have s7 := s6.kp k7
                have y7 : Kp O8 G G7 := y6.trans (Q4.oo k7)
                simp +decide (disch := omega) only [↓wm1, wb184_121 hc, wb184_127 hc, w0, w1, w2, w3, w4, w5, w6, w7, w8, w11, w12, w13, w15, w16, w18, w19, w20, w21, rI_wI, rP_wI, rL_wI, rI_wR, rP_wR, is_wI, is_wR, ia_wI, ia_wR, ow_wI, ow_wR, wn_add, wn_mul, wn_cl, wn_le, wn_lt, wn_inj, wn_ne1, wn_1ne, wn_gt1, wn_le1, nb0, nb1, am_kt, am_rt, List.cons_append, List.nil_append, true_and, and_true, not_true_eq_false, not_false_eq_true, imp_f, imp_t, implies_true, Nat.zero_add, if_true, if_false, false_and, and_false, fM s7]
                refine ct168 spl_bell s7 h7 (fun G8 e8 h8 k8 => ?_) (fun G8 e8 h8 q8 k8 => ?_)
                · simp only [if_neg e1, if_neg e2, if_neg e3, if_neg e4, if_neg e5, if_neg e6, if_neg e7, if_pos e8] at kok
                  simp +decide (disch := omega) only [↓wm1, wb184_139 hc, wb184_142 hc, w0, w1, w2, w3, w4, w5, w6, w7, w8, w11, w12, w13, w15, w16, w18, w19, w20, w21, rI_wI, rP_wI, rL_wI, rI_wR, rP_wR, is_wI, is_wR, ia_wI, ia_wR, ow_wI, ow_wR, wn_add, wn_mul, wn_cl, wn_le, wn_lt, wn_inj, wn_ne1, wn_1ne, wn_gt1, wn_le1, nb0, nb1, am_kt, am_rt, List.cons_append, List.nil_append, true_and, and_true, not_true_eq_false, not_false_eq_true, imp_f, imp_t, implies_true, Nat.zero_add, if_true, if_false, false_and, and_false]
                  exact kok 7 G8 rfl (by decide) h8 (y7.trans (Q4.oo k8))
                · have s8 := s7.kp k8
                  have y8 : Kp O8 G G8 := y7.trans (Q4.oo k8)
                  simp +decide (disch := omega) only [↓wm1, wb184_139 hc, wb184_145 hc, w0, w1, w2, w3, w4, w5, w6, w7, w8, w11, w12, w13, w15, w16, w18, w19, w20, w21, rI_wI, rP_wI, rL_wI, rI_wR, rP_wR, is_wI, is_wR, ia_wI, ia_wR, ow_wI, ow_wR, wn_add, wn_mul, wn_cl, wn_le, wn_lt, wn_inj, wn_ne1, wn_1ne, wn_gt1, wn_le1, nb0, nb1, am_kt, am_rt, List.cons_append, List.nil_append, true_and, and_true, not_true_eq_false, not_false_eq_true, imp_f, imp_t, implies_true, Nat.zero_add, if_true, if_false, false_and, and_false, fM s8]
                  refine ct168 spl_house s8 h8 (fun G9 e9 h9 k9 => ?_) (fun G9 e9 h9 q9 k9 => ?_)
                  · simp only [if_neg e1, if_neg e2, if_neg e3, if_neg e4, if_neg e5, if_neg e6, if_neg e7, if_neg e8, if_pos e9] at kok
                    simp +decide (disch := omega) only [↓wm1, wb184_159 hc, wb184_162 hc, wb184_168 hc, w0, w1, w2, w3, w4, w5, w6, w7, w8, w11, w12, w13, w15, w16, w18, w19, w20, w21, rI_wI, rP_wI, rL_wI, rI_wR, rP_wR, is_wI, is_wR, ia_wI, ia_wR, ow_wI, ow_wR, wn_add, wn_mul, wn_cl, wn_le, wn_lt, wn_inj, wn_ne1, wn_1ne, wn_gt1, wn_le1, nb0, nb1, am_kt, am_rt, List.cons_append, List.nil_append, true_and, and_true, not_true_eq_false, not_false_eq_true, imp_f, imp_t, implies_true, Nat.zero_add, if_true, if_false, false_and, and_false]
                    exact kok 8 G9 rfl (by decide) h9 (y8.trans (Q4.oo k9))
                  · have s9 := s8.kp k9
                    have y9 : Kp O8 G G9 := y8.trans (Q4.oo k9)
                    simp +decide (disch := omega) only [↓wm1, wb184_159 hc, wb184_167 hc, wb184_168 hc, w0, w1, w2, w3, w4, w5, w6, w7, w8, w11, w12, w13, w15, w16, w18, w19, w20, w21, rI_wI, rP_wI, rL_wI, rI_wR, rP_wR, is_wI, is_wR, ia_wI, ia_wR, ow_wI, ow_wR, wn_add, wn_mul, wn_cl, wn_le, wn_lt, wn_inj, wn_ne1, wn_1ne, wn_gt1, wn_le1, nb0, nb1, am_kt, am_rt, List.cons_append, List.nil_append, true_and, and_true, not_true_eq_false, not_false_eq_true, imp_f, imp_t, implies_true, Nat.zero_add, if_true, if_false, false_and, and_false]
                    simp only [if_neg e1, if_neg e2, if_neg e3, if_neg e4, if_neg e5, if_neg e6, if_neg e7, if_neg e8, if_neg e9] at kno
                    refine kno G9 (fun k hk => ?_) h9 y9
                    repeat' split at hk
                    all_goals first | (cases hk; decide) | cases hk
end
