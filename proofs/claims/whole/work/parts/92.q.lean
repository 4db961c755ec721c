/-! A work, the object's side. -/
section
variable {G G' : am_G} {d B n o p b lv : Nat} {t : Nat → Nat} {ps body : PWk} {R : List Et} {post : am_O → am_G → Prop}
theorem CWss (hB : B ≤ 6) (hn : n ≤ 150) : ∀ (L o d : Nat), o + L = 6 → CW (d + 9 + 3 * L) B t n o (pss t n B L) := by
  intro L
  induction L with
  | zero =>
    intro o d ho
    have h0 : Gw0 t n B (fun _ _ => .inl (0, 0)) := fun p b q R _ e => by cases e
    exact CW96 (d := d) ho hB h0 hn (Or.inl rfl)
  | succ L ih =>
    intro o d ho
    have i1 := ih (o + 1) d (by omega)
    rw [show d + 9 + 3 * L = (d + 7 + 3 * L) + 2 by omega] at i1
    have a := CB95 (Gw_ss L) hn i1
    rw [show d + 7 + 3 * L + 3 = (d + 3 + 3 * L) + 7 by omega] at a
    have c := CW96 (d := d + 3 + 3 * L) ho hB (Gw_br (Gw_ss L) 151) hn (Or.inr a)
    rw [show d + 9 + 3 * (L + 1) = d + 3 + 3 * L + 9 by omega]
    exact c
theorem ct95t (hg : Gw0 t n B ps) (hn : n ≤ 150) (h : CW (d + 2) B t n o ps) (hsh : Sh G) (hW : Wt G 100004 42 (cx tx1)) (hT : rT G t n p o) (h3 : am_gI G 27 3 = wn 0)
    (kok : ∀ q R G', ptp t n ps 151 p 0 = .inr (q, R) → rT G' t n n o → am_gI G' 27 3 = wn R.length → rPl G' 0 R → Kp (PSc 0) G G' → post (.inl (some (.int (wn 1)))) G')
    (kbad : ∀ k w G', ptp t n ps 151 p 0 = .inl (k, w) → fT G' k w → Kp (PSc 0) G G' → post (.inl (some (.int (wn 0)))) G') : am_C am_T (d + 3) 95 [.ref 27, .ref 1, .int (wn B), .int (wn 0)] G post := by
  have hc := am_C_one am_T (d + 2)
  generalize hX : ptp t n ps 151 p 0 = X at kok kbad
  have key : ∀ (f i p' : Nat) (R' : List Et) (G1 : am_G), f + i = 151 → 2 * i ≤ p' → Sh G1 → rT G1 t n p' o → am_gI G1 27 3 = wn R'.length → 3 * R'.length ≤ p' → rPl G1 0 R' → Kp (PSc 0) G G1 →
      X = pb (ptp t n ps f p' R'.length) (fun y => .inr (y.1, R' ++ y.2)) → am_W (am_C am_T (d + 2)) am_95 post 3 [some (.ref 27), some (.ref 1), some (.int (wn B)), some (.int (wn 0)), some (.int (wn i))] [] G1 := by
    intro f
    induction f with
    | zero =>
      intro i p' R' G1 hf hi s1 t1
      have := t1.2.2.1
      omega
    | succ f ih =>
      intro i p' R' G1 hf hi s1 t1 c1 hb1 l1 k1 he
      have hpn := t1.2.2.1
      have ci : ¬ 150 ≤ i := by omega
      unfold ptp at he
      rw [wb95_3 hc]
      by_cases cn : n ≤ p'
      · rw [if_pos cn] at he
        have hpe : p' = n := by omega
        subst hpe
        simp only [pb, List.append_nil] at he
        simp +decide (disch := omega) only [↓wm1, wb95_11 hc, wb95_27 hc, wb95_31 hc, wb95_34 hc, w0, w1, w59, w93, w150, rI_wI, rP_wI, rL_wI, rI_wR, rP_wR, is_wI, is_wR, ia_wI, ia_wR, ow_wI, ow_wR, wn_add, wn_mul, wn_cl, wn_le, wn_lt, wn_inj, wn_ne1, wn_1ne, wn_gt1, wn_le1, nb0, nb1, am_kt, am_rt, List.cons_append, List.nil_append, true_and, and_true, not_true_eq_false, not_false_eq_true, imp_f, imp_t, implies_true, Nat.zero_add, if_true, if_false, false_and, and_false, ci, fC s1, ct68 s1 t1, decide_true, b01, Nat.le_refl]
        exact kok _ _ G1 he t1 c1 l1 k1
      · rw [if_neg cn] at he
        simp +decide (disch := omega) only [↓wm1, wb95_11 hc, wb95_27 hc, wb95_31 hc, wb95_36 hc, w0, w1, w59, w93, w150, rI_wI, rP_wI, rL_wI, rI_wR, rP_wR, is_wI, is_wR, ia_wI, ia_wR, ow_wI, ow_wR, wn_add, wn_mul, wn_cl, wn_le, wn_lt, wn_inj, wn_ne1, wn_1ne, wn_gt1, wn_le1, nb0, nb1, am_kt, am_rt, List.cons_append, List.nil_append, true_and, and_true, not_true_eq_false, not_false_eq_true, imp_f, imp_t, implies_true, Nat.zero_add, if_true, if_false, false_and, and_false, ci, fC s1, ct68 s1 t1, decide_eq_false cn, b01, Bool.false_eq_true]
        refine h G1 p' _ _ s1 (hW.psc k1) t1 c1 hb1 (fun q R2 G2 e2 t2 c2 l2 k2 => ?_) (fun k w G2 e2 f2 k2 => ?_)
        · have s2 := s1.kp k2
          obtain ⟨a1, a2, a3, a4, a5⟩ := hg _ _ _ _ hpn e2
          unfold psn at he
          rw [e2] at he
          simp only [pb] at he
          have kk2 := k1.trans (PSc.up k2 (Nat.zero_le _))
          simp +decide (disch := omega) only [↓wm1, wb95_42 hc, wb95_45 hc, w0, w1, w59, w93, w150, rI_wI, rP_wI, rL_wI, rI_wR, rP_wR, is_wI, is_wR, ia_wI, ia_wR, ow_wI, ow_wR, wn_add, wn_mul, wn_cl, wn_le, wn_lt, wn_inj, wn_ne1, wn_1ne, wn_gt1, wn_le1, nb0, nb1, am_kt, am_rt, List.cons_append, List.nil_append, true_and, and_true, not_true_eq_false, not_false_eq_true, imp_f, imp_t, implies_true, Nat.zero_add, if_true, if_false, false_and, and_false, fC s2]
          refine ct72 s2 t2 (by decide) (fun q3 G3 e3 t3 k3 => ?_) (fun G3 e3 f3 k3 => ?_)
          · obtain ⟨-, -, -, b4, b5, b6⟩ := psgn_in e3
            rw [e3] at he
            simp only [] at he
            have he2 : X = pb (ptp t n ps f q3 (R' ++ R2).length) (fun y => .inr (y.1, (R' ++ R2) ++ y.2)) := by
              rw [← pb_app, List.length_append]; exact he
            have l2' : rPl G2 (0 + R'.length) R2 := by rw [Nat.zero_add]; exact l2
            simp +decide (disch := omega) only [↓wm1, wb95_51 hc, wb95_56 hc, w0, w1, w59, w93, w150, rI_wI, rP_wI, rL_wI, rI_wR, rP_wR, is_wI, is_wR, ia_wI, ia_wR, ow_wI, ow_wR, wn_add, wn_mul, wn_cl, wn_le, wn_lt, wn_inj, wn_ne1, wn_1ne, wn_gt1, wn_le1, nb0, nb1, am_kt, am_rt, List.cons_append, List.nil_append, true_and, and_true, not_true_eq_false, not_false_eq_true, imp_f, imp_t, implies_true, Nat.zero_add, if_true, if_false, false_and, and_false]
            refine ih (i + 1) q3 (R' ++ R2) G3 (by omega) (by omega) (s2.kp k3) t3 ?_ (by rw [List.length_append]; omega) ((l1.k k2 (by omega)).app l2' |>.t1 k3) (kk2.trans (T1.psc k3)) he2
            rw [k3.i (by unfold T1; omega), List.length_append]; exact c2
          · rw [e3] at he
            simp only [] at he
            simp +decide (disch := omega) only [↓wm1, wb95_51 hc, wb95_54 hc, w0, w1, w59, w93, w150, rI_wI, rP_wI, rL_wI, rI_wR, rP_wR, is_wI, is_wR, ia_wI, ia_wR, ow_wI, ow_wR, wn_add, wn_mul, wn_cl, wn_le, wn_lt, wn_inj, wn_ne1, wn_1ne, wn_gt1, wn_le1, nb0, nb1, am_kt, am_rt, List.cons_append, List.nil_append, true_and, and_true, not_true_eq_false, not_false_eq_true, imp_f, imp_t, implies_true, Nat.zero_add, if_true, if_false, false_and, and_false]
            exact kbad _ _ G3 he f3 (kk2.trans (T1.psc k3))
        · unfold psn at he
          rw [e2] at he
          simp only [pb] at he
          simp +decide (disch := omega) only [↓wm1, wb95_42 hc, wb95_54 hc, w0, w1, w59, w93, w150, rI_wI, rP_wI, rL_wI, rI_wR, rP_wR, is_wI, is_wR, ia_wI, ia_wR, ow_wI, ow_wR, wn_add, wn_mul, wn_cl, wn_le, wn_lt, wn_inj, wn_ne1, wn_1ne, wn_gt1, wn_le1, nb0, nb1, am_kt, am_rt, List.cons_append, List.nil_append, true_and, and_true, not_true_eq_false, not_false_eq_true, imp_f, imp_t, implies_true, Nat.zero_add, if_true, if_false, false_and, and_false]
          exact kbad _ _ G2 he f2 (k1.trans (PSc.up k2 (Nat.zero_le _)))
  rw [we95]
  simp +decide (disch := omega) only [↓wm1, wb95_0 hc, w0, w1, w59, w93, w150, rI_wI, rP_wI, rL_wI, rI_wR, rP_wR, is_wI, is_wR, ia_wI, ia_wR, ow_wI, ow_wR, wn_add, wn_mul, wn_cl, wn_le, wn_lt, wn_inj, wn_ne1, wn_1ne, wn_gt1, wn_le1, nb0, nb1, am_kt, am_rt, List.cons_append, List.nil_append, true_and, and_true, not_true_eq_false, not_false_eq_true, imp_f, imp_t, implies_true, Nat.zero_add, if_true, if_false, false_and, and_false]
  refine key 151 0 p [] G rfl (Nat.zero_le _) hsh hT h3 (Nat.zero_le _) (rPl.nil G 0) (Kp.refl G) ?_
  rw [show ([] : List Et).length = 0 from rfl, hX]
  rcases X with e | y
  · rfl
  · rfl
theorem ct94 (hB : B ≤ 6) (hn : n ≤ 150) (hsh : Sh G) (hW : Wt G 100004 42 (cx tx1)) (hT : rT G t n (skb t n 0) 0)
    (kok : ∀ R G', pwork t n B = .inr R → rT G' t n n 0 → am_gI G' 27 3 = wn R.length → rPl G' 0 R → Kp (PSc 0) G G' → post (.inl (some (.int (wn 1)))) G')
    (kbad : ∀ k w G', pwork t n B = .inl (k, w) → fT G' k w → Kp (PSc 0) G G' → post (.inl (some (.int (wn 0)))) G') : am_C am_T (d + 30) 94 [.ref 27, .ref 1, .int (wn B)] G post := by
  have hc := am_C_one am_T (d + 29)
  have kw : Kp (fun a i => a = 27 ∧ i = 3) G (am_wI G 27 3 (wn 0)) := (Kp.refl G).wI ⟨rfl, rfl⟩ _
  have kw' : Kp (PSc 0) G (am_wI G 27 3 (wn 0)) := kw.mono (fun a i z => by unfold PSc; omega)
  have s0 := hsh.kp kw
  unfold pwork at kok kbad
  rw [we94]
  simp +decide (disch := omega) only [↓wm1, wb94_0 hc, w0, w1, rI_wI, rP_wI, rL_wI, rI_wR, rP_wR, is_wI, is_wR, ia_wI, ia_wR, ow_wI, ow_wR, wn_add, wn_mul, wn_cl, wn_le, wn_lt, wn_inj, wn_ne1, wn_1ne, wn_gt1, wn_le1, nb0, nb1, am_kt, am_rt, List.cons_append, List.nil_append, true_and, and_true, not_true_eq_false, not_false_eq_true, imp_f, imp_t, implies_true, Nat.zero_add, if_true, if_false, false_and, and_false, fC hsh]
  refine ct95t (d := d + 26) (Gw_ss 6) hn (by have := CWss (t := t) hB hn 6 0 (d + 1) rfl; exact this) s0 (hW.psc kw') (hT.kp kw (fun a i z => by omega)) (by rw [rI_wI, if_pos ⟨rfl, rfl⟩]) (fun q R G1 e1 t1 c1 l1 k1 => ?_) (fun k w G1 e1 f1 k1 => ?_)
  · rw [e1] at kok
    simp +decide (disch := omega) only [↓wm1, wb94_12 hc, w0, w1, rI_wI, rP_wI, rL_wI, rI_wR, rP_wR, is_wI, is_wR, ia_wI, ia_wR, ow_wI, ow_wR, wn_add, wn_mul, wn_cl, wn_le, wn_lt, wn_inj, wn_ne1, wn_1ne, wn_gt1, wn_le1, nb0, nb1, am_kt, am_rt, List.cons_append, List.nil_append, true_and, and_true, not_true_eq_false, not_false_eq_true, imp_f, imp_t, implies_true, Nat.zero_add, if_true, if_false, false_and, and_false]
    exact kok R G1 rfl t1 c1 l1 (kw'.trans k1)
  · rw [e1] at kbad
    simp +decide (disch := omega) only [↓wm1, wb94_12 hc, w0, w1, rI_wI, rP_wI, rL_wI, rI_wR, rP_wR, is_wI, is_wR, ia_wI, ia_wR, ow_wI, ow_wR, wn_add, wn_mul, wn_cl, wn_le, wn_lt, wn_inj, wn_ne1, wn_1ne, wn_gt1, wn_le1, nb0, nb1, am_kt, am_rt, List.cons_append, List.nil_append, true_and, and_true, not_true_eq_false, not_false_eq_true, imp_f, imp_t, implies_true, Nat.zero_add, if_true, if_false, false_and, and_false]
    exact kbad k w G1 rfl f1 (kw'.trans k1)
theorem ct6 {w : Nat} {σ : St} (hsh : Sh G) (hw : w < 16) (e : am_gI G 31 2 = wn w) (hr : rS G 32 σ) (k : ∀ G', rS G' (37 + 4 * w) σ → am_gI G' 31 2 = wn (w + 1) → Kp (fun a i => (a = 31 ∧ i = 2) ∨ (37 + 4 * w ≤ a ∧ a < 41 + 4 * w)) G G' → post (.inl none) G') : am_C am_T (d + 2) 6 [.ref 31] G post := by
  have hc := am_C_one am_T (d + 1)
  have c : ¬ 16 ≤ w := by omega
  have i1 := iS hsh (sts37 w hw)
  rw [we6]
  simp +decide (disch := omega) only [↓wm1, wb6_0 hc, wb6_9 hc, w0, w1, w16, rI_wI, rP_wI, rL_wI, rI_wR, rP_wR, is_wI, is_wR, ia_wI, ia_wR, ow_wI, ow_wR, wn_add, wn_mul, wn_cl, wn_le, wn_lt, wn_inj, wn_ne1, wn_1ne, wn_gt1, wn_le1, nb0, nb1, am_kt, am_rt, List.cons_append, List.nil_append, true_and, and_true, not_true_eq_false, not_false_eq_true, imp_f, imp_t, implies_true, Nat.zero_add, if_true, if_false, false_and, and_false, fC hsh, e, c, fB36 hsh, hw, i1]
  refine ct47 hsh (sts37 w hw) h32 (by omega) hr (fun G1 r1 k1 => ?_)
  have s1 := hsh.kp k1
  have e1 : am_gI G1 31 2 = wn w := by rw [k1.i (by unfold sc; omega)]; exact e
  simp +decide (disch := omega) only [↓wm1, wb6_25 hc, wb6_35 hc, w0, w1, w16, rI_wI, rP_wI, rL_wI, rI_wR, rP_wR, is_wI, is_wR, ia_wI, ia_wR, ow_wI, ow_wR, wn_add, wn_mul, wn_cl, wn_le, wn_lt, wn_inj, wn_ne1, wn_1ne, wn_gt1, wn_le1, nb0, nb1, am_kt, am_rt, List.cons_append, List.nil_append, true_and, and_true, not_true_eq_false, not_false_eq_true, imp_f, imp_t, implies_true, Nat.zero_add, if_true, if_false, false_and, and_false, fC s1, e1]
  refine k _ (r1.eq (fun a i z1 z2 => by rw [rI_wI, if_neg (by omega)])) (by rw [rI_wI, if_pos ⟨rfl, rfl⟩]) ((k1.mono (fun a i z => by unfold sc at z; omega)).wI (Or.inl ⟨rfl, rfl⟩) _)
end
