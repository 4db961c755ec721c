/-! A work's reading, the reference's side: one step. -/
section
variable {G G' : am_G} {d B n o p b lv : Nat} {t : Nat → Nat} {ps body : PWk} {R : List Et} {post : am_O → am_G → Prop}
/-- the steps in brackets, up to the closing sign, which is read -/
theorem ct190_l {v p0 : Nat} {X : PR (Nat × List Et)} (hg : Gw0 t n B ps) (hn : n ≤ 150) (hb : b < 80) (h : RW (d + 6) B t n (o + 1) (psn t n ps))
    (kok : ∀ q R G', X = .inr (q, R) → rQ G' t n q (o + 1) → am_gI G' 334 28 = wn (b + 1 + R.length) → rPm G' (b + 1) R → Kp (MSw (b + 1)) G G' → am_W (am_C am_T (d + 6)) am_190 post 168 [some (.ref 334), none, some (.ref (728 + b))] [] G')
    (kbad : ∀ k w G', X = .inl (k, w) → fQ G' t n k w → Kp (MSw (b + 1)) G G' → am_W (am_C am_T (d + 6)) am_190 post 168 [some (.ref 334), none, some (.ref (728 + b))] [] G') :
    ∀ (f p' : Nat) (R' : List Et) (G1 : am_G), n < p' + f → Sh G1 → am_gI G1 338 0 = wn B → rQ G1 t n p' (o + 1) → am_gI G1 334 4 = wn p' → am_gI G1 334 28 = wn (b + 1 + R'.length) → 3 * (b + 1 + R'.length) ≤ p' → rPm G1 (b + 1) R' → Kp (MSw (b + 1)) G G1 →
      X = pb (pbr t n ps f p' (b + 1 + R'.length)) (fun y => .inr (y.1, R' ++ y.2)) → am_W (am_C am_T (d + 6)) am_190 post 131 [some (.ref 334), none, some (.ref (728 + b))] [] G1 := by
  have hc := am_C_one am_T (d + 6)
  have n8 : 728 + b < 90000 := by omega
  intro f
  induction f with
  | zero =>
    intro p' R' G1 hf s1 x1 t1
    have := t1.2.2.1
    omega
  | succ f ih =>
    intro p' R' G1 hf s1 x1 t1 e4 c1 hb1 l1 k1 he
    have hpn := t1.2.2.1
    have hx := t1.1.1 p'
    have z5 := t1.2.2.2.2.2.2.2.2.1
    have e58 := fun P => ct158 (d := d + 5) (post := P) (k := p') s1 t1.1 t1.2.1 t1.2.2.2.2.2.2.1 (by omega)
    unfold pbr at he
    rw [wb190_131 hc]
    by_cases c93 : p' < n ∧ t p' = 93
    · rw [if_pos c93] at he
      have eb : byq t n p' = wn 93 := by unfold byq; rw [if_pos c93.1, c93.2]
      simp only [pb, List.append_nil] at he
      simp +decide (disch := omega) only [↓wm1, wb190_138 hc, wb190_146 hc, wb190_162 hc, w0, w1, w2, w5, w7, w9, w59, w60, w91, w93, rI_wI, rP_wI, rL_wI, rI_wR, rP_wR, is_wI, is_wR, ia_wI, ia_wR, ow_wI, ow_wR, wn_add, wn_mul, wn_cl, wn_le, wn_lt, wn_inj, wn_ne1, wn_1ne, wn_gt1, wn_le1, nb0, nb1, am_kt, am_rt, List.cons_append, List.nil_append, true_and, and_true, not_true_eq_false, not_false_eq_true, imp_f, imp_t, implies_true, Nat.zero_add, if_true, if_false, false_and, and_false, fM s1, z5, e4, e58, eb]
      refine ct169 s1 t1 (by decide) (fun q G2 e2 t2 k2 => ?_) (fun G2 e2 f2 k2 => absurd c93 (psgn_no e2))
      obtain ⟨-, -, rfl, -⟩ := psgn_in e2
      have o2 := QS.oo k2
      simp +decide (disch := omega) only [↓wm1, w0, w1, rI_wI, rP_wI, rL_wI, rI_wR, rP_wR, is_wI, is_wR, ia_wI, ia_wR, ow_wI, ow_wR, wn_add, wn_mul, wn_cl, wn_le, wn_lt, wn_inj, wn_ne1, wn_1ne, wn_gt1, wn_le1, nb0, nb1, am_kt, am_rt, List.cons_append, List.nil_append, true_and, and_true, not_true_eq_false, not_false_eq_true, imp_f, imp_t, implies_true, Nat.zero_add, if_true, if_false, false_and, and_false]
      refine kok _ _ G2 he t2 ?_ (l1.oo o2) (k1.trans (O8.ms o2))
      rw [o2.i (by unfold O8; omega)]; exact c1
    · rw [if_neg c93] at he
      have eb : ¬ byq t n p' = wn 93 := by
        unfold byq
        by_cases cp : p' < n
        · rw [if_pos cp, wn_inj (by omega) (by decide)]; exact fun z => c93 ⟨cp, z⟩
        · rw [if_neg cp]; decide
      simp +decide (disch := omega) only [↓wm1, wb190_138 hc, wb190_146 hc, wb190_151 hc, w0, w1, w2, w5, w7, w9, w59, w60, w91, w93, rI_wI, rP_wI, rL_wI, rI_wR, rP_wR, is_wI, is_wR, ia_wI, ia_wR, ow_wI, ow_wR, wn_add, wn_mul, wn_cl, wn_le, wn_lt, wn_inj, wn_ne1, wn_1ne, wn_gt1, wn_le1, nb0, nb1, am_kt, am_rt, List.cons_append, List.nil_append, true_and, and_true, not_true_eq_false, not_false_eq_true, imp_f, imp_t, implies_true, Nat.zero_add, if_true, if_false, false_and, and_false, fM s1, z5, e4, e58, eb]
      refine h G1 p' _ _ s1 x1 t1 c1 hb1 (fun q R2 G2 e2 t2 c2 l2 k2 => ?_) (fun k w G2 e2 f2 k2 => ?_)
      · have s2 := s1.kp k2
        obtain ⟨a1, a2, a3, a4, a5⟩ := Gw_n hg _ _ _ _ hpn e2
        rw [e2] at he
        have he2 : X = pb (pbr t n ps f q (b + 1 + (R' ++ R2).length)) (fun y => .inr (y.1, (R' ++ R2) ++ y.2)) := by
          rw [← pb_app, List.length_append, ← Nat.add_assoc]; exact he
        simp +decide (disch := omega) only [↓wm1, wb190_155 hc, w0, w1, w2, w5, w7, w9, w59, w60, w91, w93, rI_wI, rP_wI, rL_wI, rI_wR, rP_wR, is_wI, is_wR, ia_wI, ia_wR, ow_wI, ow_wR, wn_add, wn_mul, wn_cl, wn_le, wn_lt, wn_inj, wn_ne1, wn_1ne, wn_gt1, wn_le1, nb0, nb1, am_kt, am_rt, List.cons_append, List.nil_append, true_and, and_true, not_true_eq_false, not_false_eq_true, imp_f, imp_t, implies_true, Nat.zero_add, if_true, if_false, false_and, and_false, fM s2]
        refine ct159r s2 t2 (fun G3 t3 e3 k3 => ?_)
        have o3 := Q4.oo k3
        simp +decide (disch := omega) only [↓wm1, wb190_159 hc, w0, w1, w2, w5, w7, w9, w59, w60, w91, w93, rI_wI, rP_wI, rL_wI, rI_wR, rP_wR, is_wI, is_wR, ia_wI, ia_wR, ow_wI, ow_wR, wn_add, wn_mul, wn_cl, wn_le, wn_lt, wn_inj, wn_ne1, wn_1ne, wn_gt1, wn_le1, nb0, nb1, am_kt, am_rt, List.cons_append, List.nil_append, true_and, and_true, not_true_eq_false, not_false_eq_true, imp_f, imp_t, implies_true, Nat.zero_add, if_true, if_false, false_and, and_false]
        refine ih q (R' ++ R2) G3 (by omega) (s2.kp k3) ?_ t3 e3 ?_ (by rw [List.length_append]; omega) (((l1.k k2 (Nat.le_refl _)).app l2).oo o3) ((k1.trans (MSw.up k2 (by omega))).trans (O8.ms o3)) he2
        · rw [o3.i (by unfold O8; omega), k2.i (by unfold MSw; omega)]; exact x1
        · rw [o3.i (by unfold O8; omega), List.length_append, ← Nat.add_assoc]; exact c2
      · have s2 := s1.kp k2
        rw [e2] at he
        simp only [pb] at he
        simp +decide (disch := omega) only [↓wm1, wb190_155 hc, w0, w1, w2, w5, w7, w9, w59, w60, w91, w93, rI_wI, rP_wI, rL_wI, rI_wR, rP_wR, is_wI, is_wR, ia_wI, ia_wR, ow_wI, ow_wR, wn_add, wn_mul, wn_cl, wn_le, wn_lt, wn_inj, wn_ne1, wn_1ne, wn_gt1, wn_le1, nb0, nb1, am_kt, am_rt, List.cons_append, List.nil_append, true_and, and_true, not_true_eq_false, not_false_eq_true, imp_f, imp_t, implies_true, Nat.zero_add, if_true, if_false, false_and, and_false, fM s2]
        refine ct159f s2 f2 (fun G3 f3 k3 => ?_)
        have s3 := s2.kp k3
        have y5 := f3.2.2.2.2.2.2.1
        have c0 : ¬ k = 0 := by have := f3.2.2.2.2.2.1; omega
        have c3 : k < 2147483648 := by have := f3.2.2.2.2.2.1; omega
        simp +decide (disch := omega) only [↓wm1, wb190_159 hc, w0, w1, w2, w5, w7, w9, w59, w60, w91, w93, rI_wI, rP_wI, rL_wI, rI_wR, rP_wR, is_wI, is_wR, ia_wI, ia_wR, ow_wI, ow_wR, wn_add, wn_mul, wn_cl, wn_le, wn_lt, wn_inj, wn_ne1, wn_1ne, wn_gt1, wn_le1, nb0, nb1, am_kt, am_rt, List.cons_append, List.nil_append, true_and, and_true, not_true_eq_false, not_false_eq_true, imp_f, imp_t, implies_true, Nat.zero_add, if_true, if_false, false_and, and_false]
        rw [wb190_131 hc]
        simp +decide (disch := omega) only [↓wm1, wb190_162 hc, w0, w1, w2, w5, w7, w9, w59, w60, w91, w93, rI_wI, rP_wI, rL_wI, rI_wR, rP_wR, is_wI, is_wR, ia_wI, ia_wR, ow_wI, ow_wR, wn_add, wn_mul, wn_cl, wn_le, wn_lt, wn_inj, wn_ne1, wn_1ne, wn_gt1, wn_le1, nb0, nb1, am_kt, am_rt, List.cons_append, List.nil_append, true_and, and_true, not_true_eq_false, not_false_eq_true, imp_f, imp_t, implies_true, Nat.zero_add, if_true, if_false, false_and, and_false, fM s3, y5, c0, ct169f s3 f3]
        exact kbad _ _ G3 he f3 ((k1.trans (MSw.up k2 (by omega))).trans (O8.ms (Q4.oo k3)))
end
