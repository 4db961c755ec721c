/-! A work, the reference's side. -/
section
variable {G G' : am_G} {d B n o p b lv : Nat} {t : Nat → Nat} {ps body : PWk} {R : List Et} {post : am_O → am_G → Prop} {V : Vt}
theorem RWss (hB : B ≤ 6) (hn : n ≤ 150) : ∀ (L o d : Nat), o + L = 6 → RW (d + 7 + L) B t n o (psn t n (pss t n B L)) := by
  intro L
  induction L with
  | zero =>
    intro o d ho
    exact RW190 (d := d) (ps := fun _ _ => .inl (0, 0)) ho hB (Or.inl rfl) hn (Or.inl rfl)
  | succ L ih =>
    intro o d ho
    have i1 := ih (o + 1) d (by omega)
    rw [show d + 7 + L = (d + 1 + L) + 6 by omega] at i1
    have c := RW190 (d := d + 1 + L) ho hB (Or.inr ⟨Gw_ss L, rfl⟩) hn (Or.inr i1)
    rw [show d + 7 + (L + 1) = d + 1 + L + 7 by omega]
    exact c
theorem ct205_l {X : PR (Nat × List Et)} (hB : B ≤ 6) (hn : n ≤ 150)
    (kok : ∀ q R G', X = .inr (q, R) → rQ G' t n n 0 → am_gI G' 334 28 = wn R.length → rPm G' 0 R → Kp (MSw 0) G G' → am_W (am_C am_T (d + 79)) am_205 post 101 [some (.ref 334), none] [] G')
    (kbad : ∀ k w G', X = .inl (k, w) → fQ G' t n k w → Kp (MSw 0) G G' → am_W (am_C am_T (d + 79)) am_205 post 101 [some (.ref 334), none] [] G') :
    ∀ (f p' : Nat) (R' : List Et) (G1 : am_G) (o1 : Option Value), n < p' + f → Sh G1 → am_gI G1 338 0 = wn B → rQ G1 t n p' 0 → am_gI G1 334 4 = wn p' → am_gI G1 334 28 = wn R'.length → 3 * R'.length ≤ p' → rPm G1 0 R' → Kp (MSw 0) G G1 →
      X = pb (ptp t n (pss t n B 6) f p' R'.length) (fun y => .inr (y.1, R' ++ y.2)) → am_W (am_C am_T (d + 79)) am_205 post 72 [some (.ref 334), o1] [] G1 := by
  have hc := am_C_one am_T (d + 79)
  intro f
  induction f with
  | zero =>
    intro p' R' G1 o1 hf s1 x1 t1
    have := t1.2.2.1
    omega
  | succ f ih =>
    intro p' R' G1 o1 hf s1 x1 t1 e4 c1 hb1 l1 k1 he
    have hpn := t1.2.2.1
    have z5 := t1.2.2.2.2.2.2.2.2.1
    have z2 := t1.2.2.2.2.2.2.1
    unfold ptp at he
    rw [wb205_72 hc]
    by_cases cn : n ≤ p'
    · rw [if_pos cn] at he
      have hpe : p' = n := by omega
      subst hpe
      simp only [pb, List.append_nil] at he
      simp +decide (disch := omega) only [↓wm1, wb205_79 hc, w0, w1, w16, w150, rI_wI, rP_wI, rL_wI, rI_wR, rP_wR, is_wI, is_wR, ia_wI, ia_wR, ow_wI, ow_wR, wn_add, wn_mul, wn_cl, wn_le, wn_lt, wn_inj, wn_ne1, wn_1ne, wn_gt1, wn_le1, nb0, nb1, am_kt, am_rt, List.cons_append, List.nil_append, true_and, and_true, not_true_eq_false, not_false_eq_true, imp_f, imp_t, implies_true, Nat.zero_add, if_true, if_false, false_and, and_false, fM s1, z5, z2, e4, Nat.le_refl]
      exact kok _ _ G1 he t1 c1 l1 k1
    · rw [if_neg cn] at he
      simp +decide (disch := omega) only [↓wm1, wb205_79 hc, wb205_90 hc, w0, w1, w16, w150, rI_wI, rP_wI, rL_wI, rI_wR, rP_wR, is_wI, is_wR, ia_wI, ia_wR, ow_wI, ow_wR, wn_add, wn_mul, wn_cl, wn_le, wn_lt, wn_inj, wn_ne1, wn_1ne, wn_gt1, wn_le1, nb0, nb1, am_kt, am_rt, List.cons_append, List.nil_append, true_and, and_true, not_true_eq_false, not_false_eq_true, imp_f, imp_t, implies_true, Nat.zero_add, if_true, if_false, false_and, and_false, fM s1, z5, z2, e4, cn]
      refine RWss hB hn 6 0 (d + 66) rfl G1 p' _ _ s1 x1 t1 c1 hb1 (fun q R2 G2 e2 t2 c2 l2 k2 => ?_) (fun k w G2 e2 f2 k2 => ?_)
      · have s2 := s1.kp k2
        obtain ⟨a1, a2, a3, a4, a5⟩ := Gw_n (Gw_ss 6) _ _ _ _ hpn e2
        rw [e2] at he
        have he2 : X = pb (ptp t n (pss t n B 6) f q (R' ++ R2).length) (fun y => .inr (y.1, (R' ++ R2) ++ y.2)) := by
          rw [← pb_app, List.length_append]; exact he
        have l2' : rPm G2 (0 + R'.length) R2 := by rw [Nat.zero_add]; exact l2
        simp +decide (disch := omega) only [↓wm1, wb205_94 hc, w0, w1, w16, w150, rI_wI, rP_wI, rL_wI, rI_wR, rP_wR, is_wI, is_wR, ia_wI, ia_wR, ow_wI, ow_wR, wn_add, wn_mul, wn_cl, wn_le, wn_lt, wn_inj, wn_ne1, wn_1ne, wn_gt1, wn_le1, nb0, nb1, am_kt, am_rt, List.cons_append, List.nil_append, true_and, and_true, not_true_eq_false, not_false_eq_true, imp_f, imp_t, implies_true, Nat.zero_add, if_true, if_false, false_and, and_false, fM s2]
        refine ct159r s2 t2 (fun G3 t3 e3 k3 => ?_)
        have o3 := Q4.oo k3
        simp +decide (disch := omega) only [↓wm1, wb205_98 hc, w0, w1, w16, w150, rI_wI, rP_wI, rL_wI, rI_wR, rP_wR, is_wI, is_wR, ia_wI, ia_wR, ow_wI, ow_wR, wn_add, wn_mul, wn_cl, wn_le, wn_lt, wn_inj, wn_ne1, wn_1ne, wn_gt1, wn_le1, nb0, nb1, am_kt, am_rt, List.cons_append, List.nil_append, true_and, and_true, not_true_eq_false, not_false_eq_true, imp_f, imp_t, implies_true, Nat.zero_add, if_true, if_false, false_and, and_false]
        refine ih q (R' ++ R2) G3 _ (by omega) (s2.kp k3) ?_ t3 e3 ?_ (by rw [List.length_append]; omega) (((l1.k k2 (by omega)).app l2').oo o3) ((k1.trans (MSw.up k2 (Nat.zero_le _))).trans (O8.ms o3)) he2
        · rw [o3.i (by unfold O8; omega), k2.i (by unfold MSw; omega)]; exact x1
        · rw [o3.i (by unfold O8; omega), List.length_append]; exact c2
      · have s2 := s1.kp k2
        rw [e2] at he
        simp only [pb] at he
        simp +decide (disch := omega) only [↓wm1, wb205_94 hc, w0, w1, w16, w150, rI_wI, rP_wI, rL_wI, rI_wR, rP_wR, is_wI, is_wR, ia_wI, ia_wR, ow_wI, ow_wR, wn_add, wn_mul, wn_cl, wn_le, wn_lt, wn_inj, wn_ne1, wn_1ne, wn_gt1, wn_le1, nb0, nb1, am_kt, am_rt, List.cons_append, List.nil_append, true_and, and_true, not_true_eq_false, not_false_eq_true, imp_f, imp_t, implies_true, Nat.zero_add, if_true, if_false, false_and, and_false, fM s2]
        refine ct159f s2 f2 (fun G3 f3 k3 => ?_)
        have s3 := s2.kp k3
        have y5 := f3.2.2.2.2.2.2.1
        have c0 : ¬ k = 0 := by have := f3.2.2.2.2.2.1; omega
        have c3 : k < 2147483648 := by have := f3.2.2.2.2.2.1; omega
        simp +decide (disch := omega) only [↓wm1, wb205_98 hc, w0, w1, w16, w150, rI_wI, rP_wI, rL_wI, rI_wR, rP_wR, is_wI, is_wR, ia_wI, ia_wR, ow_wI, ow_wR, wn_add, wn_mul, wn_cl, wn_le, wn_lt, wn_inj, wn_ne1, wn_1ne, wn_gt1, wn_le1, nb0, nb1, am_kt, am_rt, List.cons_append, List.nil_append, true_and, and_true, not_true_eq_false, not_false_eq_true, imp_f, imp_t, implies_true, Nat.zero_add, if_true, if_false, false_and, and_false]
        rw [wb205_72 hc]
        simp +decide (disch := omega) only [↓wm1, w0, w1, rI_wI, rP_wI, rL_wI, rI_wR, rP_wR, is_wI, is_wR, ia_wI, ia_wR, ow_wI, ow_wR, wn_add, wn_mul, wn_cl, wn_le, wn_lt, wn_inj, wn_ne1, wn_1ne, wn_gt1, wn_le1, nb0, nb1, am_kt, am_rt, List.cons_append, List.nil_append, true_and, and_true, not_true_eq_false, not_false_eq_true, imp_f, imp_t, implies_true, Nat.zero_add, if_true, if_false, false_and, and_false, fM s3, y5, c0]
        exact kbad _ _ G3 he f3 ((k1.trans (MSw.up k2 (Nat.zero_le _))).trans (O8.ms (Q4.oo k3)))
end
