/-! The law's reading, the object's side: one value, the whole. -/
section
variable {G : am_G} {d l n o p lv : Nat} {t : Nat → Nat} {ps : PLw} {post : am_O → am_G → Prop} {Λ : List Tok}
theorem ct28_bad {k w m kk : Nat} {o1 o3 : Option Value} (hsh : Sh G) (hl : l = 20 ∨ l = 23) (hf : fT G k w) (e : am_gI G l 2 = wn m) (hm : m ≤ 150) (hk : kk < 11)
    (kb : ∀ m' G', fT G' k w → am_gI G' l 2 = wn m' → m' ≤ 150 → Kp (LSc l) G G' → post (.inl (some (.int (wn 0)))) G') : am_W (am_C am_T (d + 1)) am_28 post 170 [some (.ref l), o1, some (.int (wn kk)), o3] [] G := by
  have hc := am_C_one am_T (d + 1)
  by_cases c : kk = 9
  · simp +decide (disch := omega) only [↓wm1, wb28_170 hc, wb28_171 hc, wb28_179 hc, wb28_188 hc, w0, w1, w9, w40, w41, w44, w91, w93, w999, w1000, w2005, w2006, rI_wI, rP_wI, rL_wI, rI_wR, rP_wR, is_wI, is_wR, ia_wI, ia_wR, ow_wI, ow_wR, wn_add, wn_mul, wn_cl, wn_le, wn_lt, wn_inj, wn_ne1, wn_1ne, wn_gt1, wn_le1, nb0, nb1, am_kt, am_rt, List.cons_append, List.nil_append, true_and, and_true, not_true_eq_false, not_false_eq_true, imp_f, imp_t, implies_true, Nat.zero_add, if_true, if_false, false_and, and_false, c, fL hsh hl]
    refine ct24j hsh hl e hm (fun m' G1 e1 hm1 k1 => ?_)
    simp +decide (disch := omega) only [↓wm1, wb28_191 hc, w0, w1, w9, w40, w41, w44, w91, w93, w999, w1000, w2005, w2006, rI_wI, rP_wI, rL_wI, rI_wR, rP_wR, is_wI, is_wR, ia_wI, ia_wR, ow_wI, ow_wR, wn_add, wn_mul, wn_cl, wn_le, wn_lt, wn_inj, wn_ne1, wn_1ne, wn_gt1, wn_le1, nb0, nb1, am_kt, am_rt, List.cons_append, List.nil_append, true_and, and_true, not_true_eq_false, not_false_eq_true, imp_f, imp_t, implies_true, Nat.zero_add, if_true, if_false, false_and, and_false]
    exact kb m' G1 (hf.kp k1 (by intro i z; unfold LSc at z; omega)) e1 hm1 k1
  · simp +decide (disch := omega) only [↓wm1, wb28_170 hc, wb28_171 hc, wb28_185 hc, wb28_188 hc, w0, w1, w9, w40, w41, w44, w91, w93, w999, w1000, w2005, w2006, rI_wI, rP_wI, rL_wI, rI_wR, rP_wR, is_wI, is_wR, ia_wI, ia_wR, ow_wI, ow_wR, wn_add, wn_mul, wn_cl, wn_le, wn_lt, wn_inj, wn_ne1, wn_1ne, wn_gt1, wn_le1, nb0, nb1, am_kt, am_rt, List.cons_append, List.nil_append, true_and, and_true, not_true_eq_false, not_false_eq_true, imp_f, imp_t, implies_true, Nat.zero_add, if_true, if_false, false_and, and_false, c, fL hsh hl]
    refine ct24j hsh hl e hm (fun m' G1 e1 hm1 k1 => ?_)
    simp +decide (disch := omega) only [↓wm1, wb28_191 hc, w0, w1, w9, w40, w41, w44, w91, w93, w999, w1000, w2005, w2006, rI_wI, rP_wI, rL_wI, rI_wR, rP_wR, is_wI, is_wR, ia_wI, ia_wR, ow_wI, ow_wR, wn_add, wn_mul, wn_cl, wn_le, wn_lt, wn_inj, wn_ne1, wn_1ne, wn_gt1, wn_le1, nb0, nb1, am_kt, am_rt, List.cons_append, List.nil_append, true_and, and_true, not_true_eq_false, not_false_eq_true, imp_f, imp_t, implies_true, Nat.zero_add, if_true, if_false, false_and, and_false]
    exact kb m' G1 (hf.kp k1 (by intro i z; unfold LSc at z; omega)) e1 hm1 k1
theorem CP28 (hl : l = 20 ∨ l = 23) (hlv : o + lv = 6) (hg : Gd t n ps) (hn : n ≤ 150) (h : lv = 0 ∨ CP (d + 8) 26 l t n (o + 1) ps) : CP (d + 9) 28 l t n o (pun t n lv ps) := by
  intro G p Λ post hsh hW hT hL hlen kok kbad
  have hc := am_C_one am_T (d + 8)
  have hpn := hT.2.2.1
  have hlm : Λ.length ≤ 150 := by omega
  unfold pun at kok kbad
  rw [we28]
  by_cases c1 : p < n ∧ isD (t p) = true
  · rw [if_pos c1] at kok kbad
    simp +decide (disch := omega) only [↓wm1, wb28_0 hc, wb28_4 hc, wb28_7 hc, w0, w1, w9, w40, w41, w44, w91, w93, w999, w1000, w2005, w2006, rI_wI, rP_wI, rL_wI, rI_wR, rP_wR, is_wI, is_wR, ia_wI, ia_wR, ow_wI, ow_wR, wn_add, wn_mul, wn_cl, wn_le, wn_lt, wn_inj, wn_ne1, wn_1ne, wn_gt1, wn_le1, nb0, nb1, am_kt, am_rt, List.cons_append, List.nil_append, true_and, and_true, not_true_eq_false, not_false_eq_true, imp_f, imp_t, implies_true, Nat.zero_add, if_true, if_false, false_and, and_false, fC hsh, ct70 hsh hT, decide_eq_true c1, b01]
    refine ct73 (lo := 0) (hi := 1000) hsh hT rfl (by decide) (by decide) (fun v p' G1 e1 t1 q1 k1 => ?_) (fun k G1 e1 f1 k1 => ?_)
    · have s1 := hsh.kp k1
      have hv : v < 1000 := by
        unfold pnum at e1
        rw [if_pos c1] at e1
        split at e1
        · rename_i c2; cases e1; exact c2.2
        · cases e1
      simp only [e1, pb] at kok kbad
      have c1' := c1.1
      simp +decide (disch := omega) only [↓wm1, wb28_15 hc, w0, w1, w9, w40, w41, w44, w91, w93, w999, w1000, w2005, w2006, rI_wI, rP_wI, rL_wI, rI_wR, rP_wR, is_wI, is_wR, ia_wI, ia_wR, ow_wI, ow_wR, wn_add, wn_mul, wn_cl, wn_le, wn_lt, wn_inj, wn_ne1, wn_1ne, wn_gt1, wn_le1, nb0, nb1, am_kt, am_rt, List.cons_append, List.nil_append, true_and, and_true, not_true_eq_false, not_false_eq_true, imp_f, imp_t, implies_true, Nat.zero_add, if_true, if_false, false_and, and_false, fL s1 hl]
      refine ct24 (0, v) s1 hl (hL.t1 hl k1) (by omega) (fun G2 l2 k2 => ?_)
      simp +decide (disch := omega) only [↓wm1, wb28_21 hc, wb28_26 hc, wb28_31 hc, w0, w1, w9, w40, w41, w44, w91, w93, w999, w1000, w2005, w2006, rI_wI, rP_wI, rL_wI, rI_wR, rP_wR, is_wI, is_wR, ia_wI, ia_wR, ow_wI, ow_wR, wn_add, wn_mul, wn_cl, wn_le, wn_lt, wn_inj, wn_ne1, wn_1ne, wn_gt1, wn_le1, nb0, nb1, am_kt, am_rt, List.cons_append, List.nil_append, true_and, and_true, not_true_eq_false, not_false_eq_true, imp_f, imp_t, implies_true, Nat.zero_add, if_true, if_false, false_and, and_false]
      exact kok _ _ G2 rfl (t1.ls hl k2) l2 ((T1.lt k1).trans (LSc.lt k2))
    · have s1 := hsh.kp k1
      simp only [e1, pb] at kok kbad
      simp +decide (disch := omega) only [↓wm1, wb28_15 hc, w0, w1, w9, w40, w41, w44, w91, w93, w999, w1000, w2005, w2006, rI_wI, rP_wI, rL_wI, rI_wR, rP_wR, is_wI, is_wR, ia_wI, ia_wR, ow_wI, ow_wR, wn_add, wn_mul, wn_cl, wn_le, wn_lt, wn_inj, wn_ne1, wn_1ne, wn_gt1, wn_le1, nb0, nb1, am_kt, am_rt, List.cons_append, List.nil_append, true_and, and_true, not_true_eq_false, not_false_eq_true, imp_f, imp_t, implies_true, Nat.zero_add, if_true, if_false, false_and, and_false, fL s1 hl]
      refine ct24j s1 hl (hL.t1 hl k1).1 hlm (fun m' G2 e2 hm2 k2 => ?_)
      simp +decide (disch := omega) only [↓wm1, wb28_21 hc, wb28_30 hc, wb28_31 hc, w0, w1, w9, w40, w41, w44, w91, w93, w999, w1000, w2005, w2006, rI_wI, rP_wI, rL_wI, rI_wR, rP_wR, is_wI, is_wR, ia_wI, ia_wR, ow_wI, ow_wR, wn_add, wn_mul, wn_cl, wn_le, wn_lt, wn_inj, wn_ne1, wn_1ne, wn_gt1, wn_le1, nb0, nb1, am_kt, am_rt, List.cons_append, List.nil_append, true_and, and_true, not_true_eq_false, not_false_eq_true, imp_f, imp_t, implies_true, Nat.zero_add, if_true, if_false, false_and, and_false]
      exact kbad k p m' G2 rfl (f1.kp k2 (by intro i z; unfold LSc at z; omega)) e2 hm2 ((T1.lt k1).trans (LSc.lt k2))
  · rw [if_neg c1] at kok kbad
    simp +decide (disch := omega) only [↓wm1, wb28_0 hc, wb28_4 hc, wb28_32 hc, w0, w1, w9, w40, w41, w44, w91, w93, w999, w1000, w2005, w2006, rI_wI, rP_wI, rL_wI, rI_wR, rP_wR, is_wI, is_wR, ia_wI, ia_wR, ow_wI, ow_wR, wn_add, wn_mul, wn_cl, wn_le, wn_lt, wn_inj, wn_ne1, wn_1ne, wn_gt1, wn_le1, nb0, nb1, am_kt, am_rt, List.cons_append, List.nil_append, true_and, and_true, not_true_eq_false, not_false_eq_true, imp_f, imp_t, implies_true, Nat.zero_add, if_true, if_false, false_and, and_false, fC hsh, ct70 hsh hT, decide_eq_false c1, b01, Bool.false_eq_true]
    refine ct71 hsh hT (by decide) (fun p' G1 e1 t1 q1 k1 => ?_) (fun e1 => ?_)
    · obtain ⟨a1, a2, rfl, -⟩ := psgn_in e1
      rw [if_pos ⟨a1, a2⟩] at kok kbad
      have s1 := hsh.kp k1
      have l1 := hL.t1 hl k1
      simp +decide (disch := omega) only [↓wm1, wb28_38 hc, wb28_41 hc, w0, w1, w9, w40, w41, w44, w91, w93, w999, w1000, w2005, w2006, rI_wI, rP_wI, rL_wI, rI_wR, rP_wR, is_wI, is_wR, ia_wI, ia_wR, ow_wI, ow_wR, wn_add, wn_mul, wn_cl, wn_le, wn_lt, wn_inj, wn_ne1, wn_1ne, wn_gt1, wn_le1, nb0, nb1, am_kt, am_rt, List.cons_append, List.nil_append, true_and, and_true, not_true_eq_false, not_false_eq_true, imp_f, imp_t, implies_true, Nat.zero_add, if_true, if_false, false_and, and_false, fC s1]
      refine ct77 s1 t1 q1 (fun G2 ho t2 k2 => ?_) (fun G2 ho f2 k2 => ?_)
      · have c2 : ¬ lv = 0 := by omega
        rw [if_neg c2] at kok kbad
        have s2 := s1.kp k2
        have kk2 : Kp (LT l) G G2 := (T1.lt k1).trans (T1.lt k2)
        have g0 := skb_ge t n (p + 1)
        have gn : skb t n (p + 1) ≤ n := skb_le (by omega)
        simp +decide (disch := omega) only [↓wm1, wb28_45 hc, wb28_48 hc, w0, w1, w9, w40, w41, w44, w91, w93, w999, w1000, w2005, w2006, rI_wI, rP_wI, rL_wI, rI_wR, rP_wR, is_wI, is_wR, ia_wI, ia_wR, ow_wI, ow_wR, wn_add, wn_mul, wn_cl, wn_le, wn_lt, wn_inj, wn_ne1, wn_1ne, wn_gt1, wn_le1, nb0, nb1, am_kt, am_rt, List.cons_append, List.nil_append, true_and, and_true, not_true_eq_false, not_false_eq_true, imp_f, imp_t, implies_true, Nat.zero_add, if_true, if_false, false_and, and_false, fL s2 hl]
        refine h.resolve_left c2 G2 _ Λ _ s2 (hW.lt hl kk2) t2 (l1.t1 hl k2) (by omega) (fun q Λ3 G3 e3 t3 l3 k3 => ?_) (fun k w m G3 e3 f3 m3 hm3 k3 => ?_)
        · have s3 := s2.kp k3
          obtain ⟨b1, b2, b3, r1, rfl, b5, b6, b7⟩ := hg _ _ _ _ gn e3
          simp only [e3, pb] at kok kbad
          simp +decide (disch := omega) only [↓wm1, wb28_53 hc, wb28_56 hc, w0, w1, w9, w40, w41, w44, w91, w93, w999, w1000, w2005, w2006, rI_wI, rP_wI, rL_wI, rI_wR, rP_wR, is_wI, is_wR, ia_wI, ia_wR, ow_wI, ow_wR, wn_add, wn_mul, wn_cl, wn_le, wn_lt, wn_inj, wn_ne1, wn_1ne, wn_gt1, wn_le1, nb0, nb1, am_kt, am_rt, List.cons_append, List.nil_append, true_and, and_true, not_true_eq_false, not_false_eq_true, imp_f, imp_t, implies_true, Nat.zero_add, if_true, if_false, false_and, and_false, fC s3]
          refine ct72 s3 t3 (by decide) (fun q4 G4 e4 t4 k4 => ?_) (fun G4 e4 f4 k4 => ?_)
          · have s4 := s3.kp k4
            simp only [e4] at kok kbad
            simp +decide (disch := omega) only [↓wm1, wb28_62 hc, wb28_65 hc, w0, w1, w9, w40, w41, w44, w91, w93, w999, w1000, w2005, w2006, rI_wI, rP_wI, rL_wI, rI_wR, rP_wR, is_wI, is_wR, ia_wI, ia_wR, ow_wI, ow_wR, wn_add, wn_mul, wn_cl, wn_le, wn_lt, wn_inj, wn_ne1, wn_1ne, wn_gt1, wn_le1, nb0, nb1, am_kt, am_rt, List.cons_append, List.nil_append, true_and, and_true, not_true_eq_false, not_false_eq_true, imp_f, imp_t, implies_true, Nat.zero_add, if_true, if_false, false_and, and_false, fC s4]
            refine ct78 s4 t4 (fun G5 t5 k5 => ?_)
            simp +decide (disch := omega) only [↓wm1, wb28_69 hc, wb28_72 hc, wb28_77 hc, w0, w1, w9, w40, w41, w44, w91, w93, w999, w1000, w2005, w2006, rI_wI, rP_wI, rL_wI, rI_wR, rP_wR, is_wI, is_wR, ia_wI, ia_wR, ow_wI, ow_wR, wn_add, wn_mul, wn_cl, wn_le, wn_lt, wn_inj, wn_ne1, wn_1ne, wn_gt1, wn_le1, nb0, nb1, am_kt, am_rt, List.cons_append, List.nil_append, true_and, and_true, not_true_eq_false, not_false_eq_true, imp_f, imp_t, implies_true, Nat.zero_add, if_true, if_false, false_and, and_false]
            exact kok _ _ G5 rfl t5 ((l3.t1 hl k4).t1 hl k5) (((kk2.trans k3).trans (T1.lt k4)).trans (T1.lt k5))
          · simp only [e4] at kok kbad
            simp +decide (disch := omega) only [↓wm1, wb28_62 hc, wb28_76 hc, wb28_77 hc, w0, w1, w9, w40, w41, w44, w91, w93, w999, w1000, w2005, w2006, rI_wI, rP_wI, rL_wI, rI_wR, rP_wR, is_wI, is_wR, ia_wI, ia_wR, ow_wI, ow_wR, wn_add, wn_mul, wn_cl, wn_le, wn_lt, wn_inj, wn_ne1, wn_1ne, wn_gt1, wn_le1, nb0, nb1, am_kt, am_rt, List.cons_append, List.nil_append, true_and, and_true, not_true_eq_false, not_false_eq_true, imp_f, imp_t, implies_true, Nat.zero_add, if_true, if_false, false_and, and_false]
            exact kbad _ _ _ G4 rfl f4 (l3.t1 hl k4).1 (by simp only [List.length_append]; omega) ((kk2.trans k3).trans (T1.lt k4))
        · simp only [e3, pb] at kok kbad
          simp +decide (disch := omega) only [↓wm1, wb28_53 hc, wb28_76 hc, wb28_77 hc, w0, w1, w9, w40, w41, w44, w91, w93, w999, w1000, w2005, w2006, rI_wI, rP_wI, rL_wI, rI_wR, rP_wR, is_wI, is_wR, ia_wI, ia_wR, ow_wI, ow_wR, wn_add, wn_mul, wn_cl, wn_le, wn_lt, wn_inj, wn_ne1, wn_1ne, wn_gt1, wn_le1, nb0, nb1, am_kt, am_rt, List.cons_append, List.nil_append, true_and, and_true, not_true_eq_false, not_false_eq_true, imp_f, imp_t, implies_true, Nat.zero_add, if_true, if_false, false_and, and_false]
          exact kbad _ _ _ G3 rfl f3 m3 hm3 (kk2.trans k3)
      · have c2 : lv = 0 := by omega
        rw [if_pos c2] at kok kbad
        simp +decide (disch := omega) only [↓wm1, wb28_45 hc, wb28_76 hc, wb28_77 hc, w0, w1, w9, w40, w41, w44, w91, w93, w999, w1000, w2005, w2006, rI_wI, rP_wI, rL_wI, rI_wR, rP_wR, is_wI, is_wR, ia_wI, ia_wR, ow_wI, ow_wR, wn_add, wn_mul, wn_cl, wn_le, wn_lt, wn_inj, wn_ne1, wn_1ne, wn_gt1, wn_le1, nb0, nb1, am_kt, am_rt, List.cons_append, List.nil_append, true_and, and_true, not_true_eq_false, not_false_eq_true, imp_f, imp_t, implies_true, Nat.zero_add, if_true, if_false, false_and, and_false]
        exact kbad _ _ _ G2 rfl f2 (l1.t1 hl k2).1 hlm ((T1.lt k1).trans (T1.lt k2))
    · have n1 := psgn_no e1
      rw [if_neg n1] at kok kbad
      simp +decide (disch := omega) only [↓wm1, wb28_38 hc, wb28_78 hc, w0, w1, w9, w40, w41, w44, w91, w93, w999, w1000, w2005, w2006, rI_wI, rP_wI, rL_wI, rI_wR, rP_wR, is_wI, is_wR, ia_wI, ia_wR, ow_wI, ow_wR, wn_add, wn_mul, wn_cl, wn_le, wn_lt, wn_inj, wn_ne1, wn_1ne, wn_gt1, wn_le1, nb0, nb1, am_kt, am_rt, List.cons_append, List.nil_append, true_and, and_true, not_true_eq_false, not_false_eq_true, imp_f, imp_t, implies_true, Nat.zero_add, if_true, if_false, false_and, and_false, fC hsh]
      refine ct75 hsh hT hW (fun k G1 e1 t1 q1 k1 => ?_) (fun G1 e1 f1 k1 => ?_)
      · rw [ws_2] at e1
        have s1 := hsh.kp k1
        have l1 := hL.t1 hl k1
        have hk11 := wi2_lt e1
        have hlt := wrd_pos e1
        have hle := lte_le (t := t) hpn
        have g0 := skb_ge t n (lte t n p)
        have gn : skb t n (lte t n p) ≤ n := skb_le hle
        simp only [e1] at kok kbad
        by_cases c9 : k < 9
        · have c9' : ¬ 9 ≤ k := by omega
          rw [if_pos c9] at kok kbad
          simp +decide (disch := omega) only [↓wm1, wb28_84 hc, wb28_92 hc, wb28_98 hc, w0, w1, w9, w40, w41, w44, w91, w93, w999, w1000, w2005, w2006, rI_wI, rP_wI, rL_wI, rI_wR, rP_wR, is_wI, is_wR, ia_wI, ia_wR, ow_wI, ow_wR, wn_add, wn_mul, wn_cl, wn_le, wn_lt, wn_inj, wn_ne1, wn_1ne, wn_gt1, wn_le1, nb0, nb1, am_kt, am_rt, List.cons_append, List.nil_append, true_and, and_true, not_true_eq_false, not_false_eq_true, imp_f, imp_t, implies_true, Nat.zero_add, if_true, if_false, false_and, and_false, c9', fL s1 hl]
          refine ct24 (1, k) s1 hl l1 (by omega) (fun G2 l2 k2 => ?_)
          simp +decide (disch := omega) only [↓wm1, wb28_107 hc, w0, w1, w9, w40, w41, w44, w91, w93, w999, w1000, w2005, w2006, rI_wI, rP_wI, rL_wI, rI_wR, rP_wR, is_wI, is_wR, ia_wI, ia_wR, ow_wI, ow_wR, wn_add, wn_mul, wn_cl, wn_le, wn_lt, wn_inj, wn_ne1, wn_1ne, wn_gt1, wn_le1, nb0, nb1, am_kt, am_rt, List.cons_append, List.nil_append, true_and, and_true, not_true_eq_false, not_false_eq_true, imp_f, imp_t, implies_true, Nat.zero_add, if_true, if_false, false_and, and_false]
          exact kok _ _ G2 rfl (t1.ls hl k2) l2 ((T1.lt k1).trans (LSc.lt k2))
        · have c9' : 9 ≤ k := by omega
          rw [if_neg c9] at kok kbad
          simp +decide (disch := omega) only [↓wm1, wb28_84 hc, wb28_92 hc, wb28_109 hc, w0, w1, w9, w40, w41, w44, w91, w93, w999, w1000, w2005, w2006, rI_wI, rP_wI, rL_wI, rI_wR, rP_wR, is_wI, is_wR, ia_wI, ia_wR, ow_wI, ow_wR, wn_add, wn_mul, wn_cl, wn_le, wn_lt, wn_inj, wn_ne1, wn_1ne, wn_gt1, wn_le1, nb0, nb1, am_kt, am_rt, List.cons_append, List.nil_append, true_and, and_true, not_true_eq_false, not_false_eq_true, imp_f, imp_t, implies_true, Nat.zero_add, if_true, if_false, false_and, and_false, c9', fC s1]
          refine ct77 s1 t1 q1 (fun G2 ho t2 k2 => ?_) (fun G2 ho f2 k2 => ?_)
          · have c2 : ¬ lv = 0 := by omega
            rw [if_neg c2] at kok kbad
            have s2 := s1.kp k2
            have l2 := l1.t1 hl k2
            have kk2 : Kp (LT l) G G2 := (T1.lt k1).trans (T1.lt k2)
            simp +decide (disch := omega) only [↓wm1, wb28_113 hc, wb28_116 hc, w0, w1, w9, w40, w41, w44, w91, w93, w999, w1000, w2005, w2006, rI_wI, rP_wI, rL_wI, rI_wR, rP_wR, is_wI, is_wR, ia_wI, ia_wR, ow_wI, ow_wR, wn_add, wn_mul, wn_cl, wn_le, wn_lt, wn_inj, wn_ne1, wn_1ne, wn_gt1, wn_le1, nb0, nb1, am_kt, am_rt, List.cons_append, List.nil_append, true_and, and_true, not_true_eq_false, not_false_eq_true, imp_f, imp_t, implies_true, Nat.zero_add, if_true, if_false, false_and, and_false, fC s2]
            refine ct72 s2 t2 (by decide) (fun q3 G3 e3 t3 k3 => ?_) (fun G3 e3 f3 k3 => ?_)
            · have s3 := s2.kp k3
              have l3 := l2.t1 hl k3
              have kk3 := kk2.trans (T1.lt k3)
              obtain ⟨-, -, -, a4, a5, a6⟩ := psgn_in e3
              simp only [e3, pb] at kok kbad
              simp +decide (disch := omega) only [↓wm1, wb28_122 hc, wb28_125 hc, w0, w1, w9, w40, w41, w44, w91, w93, w999, w1000, w2005, w2006, rI_wI, rP_wI, rL_wI, rI_wR, rP_wR, is_wI, is_wR, ia_wI, ia_wR, ow_wI, ow_wR, wn_add, wn_mul, wn_cl, wn_le, wn_lt, wn_inj, wn_ne1, wn_1ne, wn_gt1, wn_le1, nb0, nb1, am_kt, am_rt, List.cons_append, List.nil_append, true_and, and_true, not_true_eq_false, not_false_eq_true, imp_f, imp_t, implies_true, Nat.zero_add, if_true, if_false, false_and, and_false, fL s3 hl]
              refine h.resolve_left c2 G3 _ Λ _ s3 (hW.lt hl kk3) t3 l3 (by omega) (fun q4 Λ4 G4 e4 t4 l4 k4 => ?_) (fun k4' w m G4 e4 f4 m4 hm4 k4 => ?_)
              · have s4 := s3.kp k4
                have kk4 := kk3.trans k4
                obtain ⟨b1, b2, b3, r1, rfl, b5, b6, b7⟩ := hg _ _ _ _ a5 e4
                simp only [e4] at kok kbad
                simp +decide (disch := omega) only [↓wm1, wb28_130 hc, wb28_133 hc, w0, w1, w9, w40, w41, w44, w91, w93, w999, w1000, w2005, w2006, rI_wI, rP_wI, rL_wI, rI_wR, rP_wR, is_wI, is_wR, ia_wI, ia_wR, ow_wI, ow_wR, wn_add, wn_mul, wn_cl, wn_le, wn_lt, wn_inj, wn_ne1, wn_1ne, wn_gt1, wn_le1, nb0, nb1, am_kt, am_rt, List.cons_append, List.nil_append, true_and, and_true, not_true_eq_false, not_false_eq_true, imp_f, imp_t, implies_true, Nat.zero_add, if_true, if_false, false_and, and_false, fC s4]
                refine ct72 s4 t4 (by decide) (fun q5 G5 e5 t5 k5 => ?_) (fun G5 e5 f5 k5 => ?_)
                · have s5 := s4.kp k5
                  have l5 := l4.t1 hl k5
                  have kk5 := kk4.trans (T1.lt k5)
                  obtain ⟨-, -, -, u4, u5, u6⟩ := psgn_in e5
                  simp only [e5] at kok kbad
                  simp +decide (disch := omega) only [↓wm1, wb28_139 hc, wb28_142 hc, w0, w1, w9, w40, w41, w44, w91, w93, w999, w1000, w2005, w2006, rI_wI, rP_wI, rL_wI, rI_wR, rP_wR, is_wI, is_wR, ia_wI, ia_wR, ow_wI, ow_wR, wn_add, wn_mul, wn_cl, wn_le, wn_lt, wn_inj, wn_ne1, wn_1ne, wn_gt1, wn_le1, nb0, nb1, am_kt, am_rt, List.cons_append, List.nil_append, true_and, and_true, not_true_eq_false, not_false_eq_true, imp_f, imp_t, implies_true, Nat.zero_add, if_true, if_false, false_and, and_false, fL s5 hl]
                  refine h.resolve_left c2 G5 _ _ _ s5 (hW.lt hl kk5) t5 l5 (by simp only [List.length_append]; omega) (fun q6 Λ6 G6 e6 t6 l6 k6 => ?_) (fun k6' w m G6 e6 f6 m6 hm6 k6 => ?_)
                  · have s6 := s5.kp k6
                    have kk6 := kk5.trans k6
                    obtain ⟨v1, v2, v3, r2, rfl, v5, v6, v7⟩ := hg _ _ _ _ u5 e6
                    simp only [e6] at kok kbad
                    simp +decide (disch := omega) only [↓wm1, wb28_147 hc, wb28_150 hc, w0, w1, w9, w40, w41, w44, w91, w93, w999, w1000, w2005, w2006, rI_wI, rP_wI, rL_wI, rI_wR, rP_wR, is_wI, is_wR, ia_wI, ia_wR, ow_wI, ow_wR, wn_add, wn_mul, wn_cl, wn_le, wn_lt, wn_inj, wn_ne1, wn_1ne, wn_gt1, wn_le1, nb0, nb1, am_kt, am_rt, List.cons_append, List.nil_append, true_and, and_true, not_true_eq_false, not_false_eq_true, imp_f, imp_t, implies_true, Nat.zero_add, if_true, if_false, false_and, and_false, fC s6]
                    refine ct72 s6 t6 (by decide) (fun q7 G7 e7 t7 k7 => ?_) (fun G7 e7 f7 k7 => ?_)
                    · have s7 := s6.kp k7
                      have kk7 := kk6.trans (T1.lt k7)
                      obtain ⟨-, -, -, x4, x5, x6⟩ := psgn_in e7
                      simp only [e7] at kok kbad
                      simp +decide (disch := omega) only [↓wm1, wb28_156 hc, wb28_159 hc, w0, w1, w9, w40, w41, w44, w91, w93, w999, w1000, w2005, w2006, rI_wI, rP_wI, rL_wI, rI_wR, rP_wR, is_wI, is_wR, ia_wI, ia_wR, ow_wI, ow_wR, wn_add, wn_mul, wn_cl, wn_le, wn_lt, wn_inj, wn_ne1, wn_1ne, wn_gt1, wn_le1, nb0, nb1, am_kt, am_rt, List.cons_append, List.nil_append, true_and, and_true, not_true_eq_false, not_false_eq_true, imp_f, imp_t, implies_true, Nat.zero_add, if_true, if_false, false_and, and_false, fC s7]
                      refine ct78 s7 t7 (fun G8 t8 k8 => ?_)
                      have s8 := s7.kp k8
                      have l8 := (l6.t1 hl k7).t1 hl k8
                      have hk2 : k = 9 ∨ k = 10 := by omega
                      rcases hk2 with rfl | rfl
                      · simp +decide (disch := omega) only [↓wm1, wb28_163 hc, wb28_166 hc, wb28_171 hc, wb28_179 hc, wb28_188 hc, w0, w1, w9, w40, w41, w44, w91, w93, w999, w1000, w2005, w2006, rI_wI, rP_wI, rL_wI, rI_wR, rP_wR, is_wI, is_wR, ia_wI, ia_wR, ow_wI, ow_wR, wn_add, wn_mul, wn_cl, wn_le, wn_lt, wn_inj, wn_ne1, wn_1ne, wn_gt1, wn_le1, nb0, nb1, am_kt, am_rt, List.cons_append, List.nil_append, true_and, and_true, not_true_eq_false, not_false_eq_true, imp_f, imp_t, implies_true, Nat.zero_add, if_true, if_false, false_and, and_false, fL s8 hl]
                        refine ct24 (7, 0) s8 hl l8 (by simp only [List.length_append]; omega) (fun G9 l9 k9 => ?_)
                        simp +decide (disch := omega) only [↓wm1, wb28_191 hc, w0, w1, w9, w40, w41, w44, w91, w93, w999, w1000, w2005, w2006, rI_wI, rP_wI, rL_wI, rI_wR, rP_wR, is_wI, is_wR, ia_wI, ia_wR, ow_wI, ow_wR, wn_add, wn_mul, wn_cl, wn_le, wn_lt, wn_inj, wn_ne1, wn_1ne, wn_gt1, wn_le1, nb0, nb1, am_kt, am_rt, List.cons_append, List.nil_append, true_and, and_true, not_true_eq_false, not_false_eq_true, imp_f, imp_t, implies_true, Nat.zero_add, if_true, if_false, false_and, and_false]
                        exact kok _ _ G9 rfl (t8.ls hl k9) l9 ((kk7.trans (T1.lt k8)).trans (LSc.lt k9))
                      · simp +decide (disch := omega) only [↓wm1, wb28_163 hc, wb28_166 hc, wb28_171 hc, wb28_185 hc, wb28_188 hc, w0, w1, w9, w40, w41, w44, w91, w93, w999, w1000, w2005, w2006, rI_wI, rP_wI, rL_wI, rI_wR, rP_wR, is_wI, is_wR, ia_wI, ia_wR, ow_wI, ow_wR, wn_add, wn_mul, wn_cl, wn_le, wn_lt, wn_inj, wn_ne1, wn_1ne, wn_gt1, wn_le1, nb0, nb1, am_kt, am_rt, List.cons_append, List.nil_append, true_and, and_true, not_true_eq_false, not_false_eq_true, imp_f, imp_t, implies_true, Nat.zero_add, if_true, if_false, false_and, and_false, fL s8 hl]
                        refine ct24 (8, 0) s8 hl l8 (by simp only [List.length_append]; omega) (fun G9 l9 k9 => ?_)
                        simp +decide (disch := omega) only [↓wm1, wb28_191 hc, w0, w1, w9, w40, w41, w44, w91, w93, w999, w1000, w2005, w2006, rI_wI, rP_wI, rL_wI, rI_wR, rP_wR, is_wI, is_wR, ia_wI, ia_wR, ow_wI, ow_wR, wn_add, wn_mul, wn_cl, wn_le, wn_lt, wn_inj, wn_ne1, wn_1ne, wn_gt1, wn_le1, nb0, nb1, am_kt, am_rt, List.cons_append, List.nil_append, true_and, and_true, not_true_eq_false, not_false_eq_true, imp_f, imp_t, implies_true, Nat.zero_add, if_true, if_false, false_and, and_false]
                        exact kok _ _ G9 rfl (t8.ls hl k9) l9 ((kk7.trans (T1.lt k8)).trans (LSc.lt k9))
                    · simp only [e7] at kok kbad
                      simp +decide (disch := omega) only [↓wm1, wb28_156 hc, w0, w1, w9, w40, w41, w44, w91, w93, w999, w1000, w2005, w2006, rI_wI, rP_wI, rL_wI, rI_wR, rP_wR, is_wI, is_wR, ia_wI, ia_wR, ow_wI, ow_wR, wn_add, wn_mul, wn_cl, wn_le, wn_lt, wn_inj, wn_ne1, wn_1ne, wn_gt1, wn_le1, nb0, nb1, am_kt, am_rt, List.cons_append, List.nil_append, true_and, and_true, not_true_eq_false, not_false_eq_true, imp_f, imp_t, implies_true, Nat.zero_add, if_true, if_false, false_and, and_false]
                      exact ct28_bad (s6.kp k7) hl f7 (l6.t1 hl k7).1 (by simp only [List.length_append]; omega) hk11 (fun m' G9 f9 e9 hm9 k9 => kbad _ _ m' G9 rfl f9 e9 hm9 ((kk6.trans (T1.lt k7)).trans (LSc.lt k9)))
                  · simp only [e6] at kok kbad
                    simp +decide (disch := omega) only [↓wm1, wb28_147 hc, w0, w1, w9, w40, w41, w44, w91, w93, w999, w1000, w2005, w2006, rI_wI, rP_wI, rL_wI, rI_wR, rP_wR, is_wI, is_wR, ia_wI, ia_wR, ow_wI, ow_wR, wn_add, wn_mul, wn_cl, wn_le, wn_lt, wn_inj, wn_ne1, wn_1ne, wn_gt1, wn_le1, nb0, nb1, am_kt, am_rt, List.cons_append, List.nil_append, true_and, and_true, not_true_eq_false, not_false_eq_true, imp_f, imp_t, implies_true, Nat.zero_add, if_true, if_false, false_and, and_false]
                    exact ct28_bad (s5.kp k6) hl f6 m6 hm6 hk11 (fun m' G9 f9 e9 hm9 k9 => kbad _ _ m' G9 rfl f9 e9 hm9 ((kk5.trans k6).trans (LSc.lt k9)))
                · simp only [e5] at kok kbad
                  simp +decide (disch := omega) only [↓wm1, wb28_139 hc, w0, w1, w9, w40, w41, w44, w91, w93, w999, w1000, w2005, w2006, rI_wI, rP_wI, rL_wI, rI_wR, rP_wR, is_wI, is_wR, ia_wI, ia_wR, ow_wI, ow_wR, wn_add, wn_mul, wn_cl, wn_le, wn_lt, wn_inj, wn_ne1, wn_1ne, wn_gt1, wn_le1, nb0, nb1, am_kt, am_rt, List.cons_append, List.nil_append, true_and, and_true, not_true_eq_false, not_false_eq_true, imp_f, imp_t, implies_true, Nat.zero_add, if_true, if_false, false_and, and_false]
                  exact ct28_bad (s4.kp k5) hl f5 (l4.t1 hl k5).1 (by simp only [List.length_append]; omega) hk11 (fun m' G9 f9 e9 hm9 k9 => kbad _ _ m' G9 rfl f9 e9 hm9 ((kk4.trans (T1.lt k5)).trans (LSc.lt k9)))
              · simp only [e4] at kok kbad
                simp +decide (disch := omega) only [↓wm1, wb28_130 hc, w0, w1, w9, w40, w41, w44, w91, w93, w999, w1000, w2005, w2006, rI_wI, rP_wI, rL_wI, rI_wR, rP_wR, is_wI, is_wR, ia_wI, ia_wR, ow_wI, ow_wR, wn_add, wn_mul, wn_cl, wn_le, wn_lt, wn_inj, wn_ne1, wn_1ne, wn_gt1, wn_le1, nb0, nb1, am_kt, am_rt, List.cons_append, List.nil_append, true_and, and_true, not_true_eq_false, not_false_eq_true, imp_f, imp_t, implies_true, Nat.zero_add, if_true, if_false, false_and, and_false]
                exact ct28_bad (s3.kp k4) hl f4 m4 hm4 hk11 (fun m' G9 f9 e9 hm9 k9 => kbad _ _ m' G9 rfl f9 e9 hm9 ((kk3.trans k4).trans (LSc.lt k9)))
            · simp only [e3, pb] at kok kbad
              simp +decide (disch := omega) only [↓wm1, wb28_122 hc, w0, w1, w9, w40, w41, w44, w91, w93, w999, w1000, w2005, w2006, rI_wI, rP_wI, rL_wI, rI_wR, rP_wR, is_wI, is_wR, ia_wI, ia_wR, ow_wI, ow_wR, wn_add, wn_mul, wn_cl, wn_le, wn_lt, wn_inj, wn_ne1, wn_1ne, wn_gt1, wn_le1, nb0, nb1, am_kt, am_rt, List.cons_append, List.nil_append, true_and, and_true, not_true_eq_false, not_false_eq_true, imp_f, imp_t, implies_true, Nat.zero_add, if_true, if_false, false_and, and_false]
              exact ct28_bad (s2.kp k3) hl f3 (l2.t1 hl k3).1 hlm hk11 (fun m' G9 f9 e9 hm9 k9 => kbad _ _ m' G9 rfl f9 e9 hm9 ((kk2.trans (T1.lt k3)).trans (LSc.lt k9)))
          · have c2 : lv = 0 := by omega
            rw [if_pos c2] at kok kbad
            simp +decide (disch := omega) only [↓wm1, wb28_113 hc, w0, w1, w9, w40, w41, w44, w91, w93, w999, w1000, w2005, w2006, rI_wI, rP_wI, rL_wI, rI_wR, rP_wR, is_wI, is_wR, ia_wI, ia_wR, ow_wI, ow_wR, wn_add, wn_mul, wn_cl, wn_le, wn_lt, wn_inj, wn_ne1, wn_1ne, wn_gt1, wn_le1, nb0, nb1, am_kt, am_rt, List.cons_append, List.nil_append, true_and, and_true, not_true_eq_false, not_false_eq_true, imp_f, imp_t, implies_true, Nat.zero_add, if_true, if_false, false_and, and_false]
            exact ct28_bad (s1.kp k2) hl f2 (l1.t1 hl k2).1 hlm hk11 (fun m' G9 f9 e9 hm9 k9 => kbad _ _ m' G9 rfl f9 e9 hm9 (((T1.lt k1).trans (T1.lt k2)).trans (LSc.lt k9)))
      · rw [ws_2] at e1
        simp only [e1] at kok kbad
        simp +decide (disch := omega) only [↓wm1, wb28_84 hc, wb28_90 hc, w0, w1, w9, w40, w41, w44, w91, w93, w999, w1000, w2005, w2006, rI_wI, rP_wI, rL_wI, rI_wR, rP_wR, is_wI, is_wR, ia_wI, ia_wR, ow_wI, ow_wR, wn_add, wn_mul, wn_cl, wn_le, wn_lt, wn_inj, wn_ne1, wn_1ne, wn_gt1, wn_le1, nb0, nb1, am_kt, am_rt, List.cons_append, List.nil_append, true_and, and_true, not_true_eq_false, not_false_eq_true, imp_f, imp_t, implies_true, Nat.zero_add, if_true, if_false, false_and, and_false]
        exact kbad _ _ _ G1 rfl f1 (hL.t1 hl k1).1 hlm (T1.lt k1)
end
