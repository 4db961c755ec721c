/-! Rows, the reference's side: how far, and the questions. -/
def Dv (n far : Nat) (S : Nat → Bool) (r : Nat) : Int32 := if dlv n r ≤ far ∨ (dlv n r = far + 1 ∧ S r = true) then wn (dlv n r) else mm
theorem dlv_N : ∀ n, 1 ≤ n → n ≤ 6 → ∀ r, r < mny n → dlv n r ≤ mny n := by
  intro n h1 h6 r hr
  have l := dlv_lt n r
  have : n = 1 ∨ n = 2 ∨ n = 3 ∨ 4 ≤ n := by omega
  rcases this with rfl | rfl | rfl | h
  · have key : ∀ r, r < 1 → dlv 1 r ≤ 1 := by decide +kernel
    exact key r hr
  · have key : ∀ r, r < 2 → dlv 2 r ≤ 2 := by decide +kernel
    exact key r hr
  · have key : ∀ r, r < 6 → dlv 3 r ≤ 6 := by decide +kernel
    exact key r hr
  · have key : ∀ n, n < 7 → 4 ≤ n → 24 ≤ mny n := by decide
    have := key n (by omega) h
    omega
theorem dlv_p {n : Nat} (h1 : 1 ≤ n) (h6 : n ≤ 6) {r : Nat} (hr : r < mny n) (h0 : r ≠ 0) : 1 ≤ dlv n r := by
  obtain ⟨p, t, a1, a2, a3, a4, a5, a6⟩ := prc_f h1 h6 hr h0
  omega
/-- no row is one farther: none is farther -/
theorem far_all {n far : Nat} (h1 : 1 ≤ n) (h6 : n ≤ 6) (h : ∀ r, r < mny n → dlv n r ≠ far + 1) : ∀ k r, r < mny n → dlv n r = k → k ≤ far := by
  intro k
  induction k with
  | zero => intro r _ _; omega
  | succ k ih =>
    intro r hr e
    by_cases h0 : r = 0
    · rw [h0, dlv_0 n h1 (by omega)] at e; omega
    · obtain ⟨p, t, a1, a2, a3, a4, a5, a6⟩ := prc_f h1 h6 hr h0
      have := ih p a1 (by omega)
      have := h r hr
      omega
theorem Dv_mm {n far : Nat} {S : Nat → Bool} {r : Nat} : Dv n far S r = mm ↔ ¬ (dlv n r ≤ far ∨ (dlv n r = far + 1 ∧ S r = true)) := by
  unfold Dv
  have := dlv_lt n r
  by_cases c : dlv n r ≤ far ∨ (dlv n r = far + 1 ∧ S r = true)
  · rw [if_pos c]
    exact ⟨fun z => absurd z (wn_n1 _ (by omega)), fun z => absurd c z⟩
  · rw [if_neg c]
    exact ⟨fun _ => c, fun _ => rfl⟩
theorem Dv_far {n far : Nat} {S : Nat → Bool} {r : Nat} (hf : far < 1000) : Dv n far S r = wn far ↔ dlv n r = far := by
  unfold Dv
  have := dlv_lt n r
  by_cases c : dlv n r ≤ far ∨ (dlv n r = far + 1 ∧ S r = true)
  · rw [if_pos c, wn_inj (by omega) (by omega)]
  · rw [if_neg c, wn_1ne (by omega)]
    exact ⟨fun z => z.elim, fun z => absurd (Or.inl (by omega)) c⟩
section
variable {G : am_G} {d : Nat} {post : am_O → am_G → Prop} {n row t : Nat}
theorem ct243 (hsh : Sh G) (h1 : 1 ≤ n) (h6 : n ≤ 6) (k : ∀ G', (∀ r, r < mny n → am_gI G' 836 r = wn (dlv n r)) → Kp (fun a _ => 834 ≤ a ∧ a ≤ 836) G G' → post (.inl none) G') : am_C am_T (d + 3) 243 [.ref 334, .int (wn n)] G post := by
  have hc := am_C_one am_T (d + 2)
  have mp := mny_pos n (by omega)
  have ml := mny_le n (by omega)
  have en : wn n - wn 1 = wn (n - 1) := wn_sub h1
  have ep := bs1 (n - 1) (by omega)
  have p5 : 2 ^ (n - 1) ≤ 32 := Nat.pow_le_pow_right (n := 2) (show 0 < 2 by decide) (show n - 1 ≤ 5 by omega)
  have p1 : 1 ≤ 2 ^ (n - 1) := Nat.two_pow_pos _
  rw [we243]
  simp +decide (disch := omega) only [↓wm1, wb243_0 hc, wb243_4 hc, w0, w1, rI_wI, rP_wI, rL_wI, rI_wR, rP_wR, is_wI, is_wR, ia_wI, ia_wR, ow_wI, ow_wR, wn_add, wn_mul, wn_cl, wn_le, wn_lt, wn_inj, wn_ne1, wn_1ne, wn_gt1, wn_le1, nb0, nb1, am_kt, am_rt, List.cons_append, List.nil_append, true_and, and_true, not_true_eq_false, not_false_eq_true, imp_f, imp_t, implies_true, Nat.zero_add, if_true, if_false, false_and, and_false, ct239 h6]
  refine am_for (mny n) (fun j ls G' => (∀ r, r < j → am_gI G' 836 r = Dv n 0 (fun _ => false) r) ∧ Kp (fun a _ => 834 ≤ a ∧ a ≤ 836) G G' ∧ ls = [some (.ref 334), some (.int (wn n)), some (.int (wn (mny n))), some (.int (wn j)), none, none, none, none]) ?_ ?_ (mny n) 0 (by omega) _ _ ⟨fun r hr => by omega, Kp.refl G, rfl⟩
  · rintro j hj _ G1 ⟨f1, k1, rfl⟩ nx
    have s1 := hsh.kp k1
    have c1 : ¬ mny n ≤ j := by omega
    have j7 : j < 720 := by omega
    rw [wb243_7 hc]
    by_cases c2 : j = 0
    · subst c2
      simp +decide (disch := omega) only [↓wm1, wb243_12 hc, wb243_21 hc, wb243_26 hc, w0, w1, rI_wI, rP_wI, rL_wI, rI_wR, rP_wR, is_wI, is_wR, ia_wI, ia_wR, ow_wI, ow_wR, wn_add, wn_mul, wn_cl, wn_le, wn_lt, wn_inj, wn_ne1, wn_1ne, wn_gt1, wn_le1, nb0, nb1, am_kt, am_rt, List.cons_append, List.nil_append, true_and, and_true, not_true_eq_false, not_false_eq_true, imp_f, imp_t, implies_true, Nat.zero_add, if_true, if_false, false_and, and_false, c1, fM s1, ow836 s1]
      refine nx _ _ ⟨fun r hr => ?_, k1.wI (a := 836) (i := 0) ⟨by decide, by decide⟩ _, rfl⟩
      have e : r = 0 := by omega
      rw [rI_wI, if_pos ⟨rfl, e⟩, e]
      unfold Dv
      rw [if_pos (Or.inl (by rw [dlv_0 n h1 (by omega)]; exact Nat.le_refl 0)), dlv_0 n h1 (by omega)]
    · simp +decide (disch := omega) only [↓wm1, wb243_12 hc, wb243_25 hc, wb243_26 hc, w0, w1, rI_wI, rP_wI, rL_wI, rI_wR, rP_wR, is_wI, is_wR, ia_wI, ia_wR, ow_wI, ow_wR, wn_add, wn_mul, wn_cl, wn_le, wn_lt, wn_inj, wn_ne1, wn_1ne, wn_gt1, wn_le1, nb0, nb1, am_kt, am_rt, List.cons_append, List.nil_append, true_and, and_true, not_true_eq_false, not_false_eq_true, imp_f, imp_t, implies_true, Nat.zero_add, if_true, if_false, false_and, and_false, c1, fM s1, c2, ow836 s1, j7]
      refine nx _ _ ⟨fun r hr => ?_, k1.wI ⟨by decide, by decide⟩ _, rfl⟩
      rw [rI_wI]
      by_cases e : r = j
      · rw [if_pos ⟨rfl, e⟩, e]
        have := dlv_p h1 h6 hj c2
        exact (Dv_mm.mpr (fun z => by rcases z with z | z; omega; cases z.2)).symm
      · rw [if_neg (by omega)]; exact f1 r (by omega)
  · rintro _ G1 ⟨f1, k1, rfl⟩
    rw [wb243_7 hc]
    simp +decide (disch := omega) only [↓wm1, wb243_33 hc, w0, w1, rI_wI, rP_wI, rL_wI, rI_wR, rP_wR, is_wI, is_wR, ia_wI, ia_wR, ow_wI, ow_wR, wn_add, wn_mul, wn_cl, wn_le, wn_lt, wn_inj, wn_ne1, wn_1ne, wn_gt1, wn_le1, nb0, nb1, am_kt, am_rt, List.cons_append, List.nil_append, true_and, and_true, not_true_eq_false, not_false_eq_true, imp_f, imp_t, implies_true, Nat.zero_add, if_true, if_false, false_and, and_false, Nat.le_refl]
    refine am_for (mny n) (fun far ls G' => (∀ r, r < mny n → am_gI G' 836 r = Dv n far (fun _ => false) r) ∧ Kp (fun a _ => 834 ≤ a ∧ a ≤ 836) G G' ∧ ls = [some (.ref 334), some (.int (wn n)), some (.int (wn (mny n))), some (.int (wn far)), none, none, none, none]) ?_ ?_ (mny n) 0 (by omega) _ _ ⟨f1, k1, rfl⟩
    · rintro far hfar _ G2 ⟨f2, k2, rfl⟩ nx
      have c1 : ¬ mny n ≤ far := by omega
      rw [wb243_35 hc]
      simp +decide (disch := omega) only [↓wm1, wb243_40 hc, w0, w1, rI_wI, rP_wI, rL_wI, rI_wR, rP_wR, is_wI, is_wR, ia_wI, ia_wR, ow_wI, ow_wR, wn_add, wn_mul, wn_cl, wn_le, wn_lt, wn_inj, wn_ne1, wn_1ne, wn_gt1, wn_le1, nb0, nb1, am_kt, am_rt, List.cons_append, List.nil_append, true_and, and_true, not_true_eq_false, not_false_eq_true, imp_f, imp_t, implies_true, Nat.zero_add, if_true, if_false, false_and, and_false, c1]
      refine am_for (mny n) (fun j ls G' => ∃ (S : Nat → Bool) (m : Bool), (∀ r, r < mny n → am_gI G' 836 r = Dv n far S r) ∧ (∀ row, row < j → dlv n row = far → ∀ t, 1 ≤ t → t < 2 ^ (n - 1) → isc t = true → dlv n (nbv n row t) = far + 1 → S (nbv n row t) = true) ∧ (m = false → ∀ r, S r = false) ∧ Kp (fun a _ => 834 ≤ a ∧ a ≤ 836) G G' ∧ ls = [some (.ref 334), some (.int (wn n)), some (.int (wn (mny n))), some (.int (wn far)), some (.int (wn (b01 m))), some (.int (wn j)), none, none]) ?_ ?_ (mny n) 0 (by omega) _ _ ⟨fun _ => false, false, f2, fun row hr => by omega, fun _ _ => rfl, k2, rfl⟩
      · rintro j hj _ G3 ⟨S, m, f3, d3, m3, k3, rfl⟩ nx3
        have s3 := hsh.kp k3
        have c2 : ¬ mny n ≤ j := by omega
        have j7 : j < 720 := by omega
        have e3 := f3 j hj
        have hd := Dv_far (n := n) (S := S) (r := j) (show far < 1000 by omega)
        rw [wb243_46 hc]
        by_cases cf : dlv n j = far
        · rw [hd.mpr cf] at e3
          simp +decide (disch := omega) only [↓wm1, wb243_52 hc, wb243_66 hc, w0, w1, rI_wI, rP_wI, rL_wI, rI_wR, rP_wR, is_wI, is_wR, ia_wI, ia_wR, ow_wI, ow_wR, wn_add, wn_mul, wn_cl, wn_le, wn_lt, wn_inj, wn_ne1, wn_1ne, wn_gt1, wn_le1, nb0, nb1, am_kt, am_rt, List.cons_append, List.nil_append, true_and, and_true, not_true_eq_false, not_false_eq_true, imp_f, imp_t, implies_true, Nat.zero_add, if_true, if_false, false_and, and_false, c2, fM s3, ia836 s3, j7, e3]
          refine ct240 s3 h1 h6 hj (fun G4 o4 k4 => ?_)
          have ho : ∀ i, i < n → orv n j i < 6 := fun i hi => by have := (lyc_f h1 h6 hj hi).1; omega
          simp +decide (disch := omega) only [↓wm1, wb243_73 hc, w0, w1, rI_wI, rP_wI, rL_wI, rI_wR, rP_wR, is_wI, is_wR, ia_wI, ia_wR, ow_wI, ow_wR, wn_add, wn_mul, wn_cl, wn_le, wn_lt, wn_inj, wn_ne1, wn_1ne, wn_gt1, wn_le1, nb0, nb1, am_kt, am_rt, List.cons_append, List.nil_append, true_and, and_true, not_true_eq_false, not_false_eq_true, imp_f, imp_t, implies_true, Nat.zero_add, if_true, if_false, false_and, and_false]
          refine am_for (2 ^ (n - 1) - 1) (fun i ls G' => ∃ (S : Nat → Bool) (m : Bool), (∀ r, r < mny n → am_gI G' 836 r = Dv n far S r) ∧ (∀ row, row < j → dlv n row = far → ∀ t, 1 ≤ t → t < 2 ^ (n - 1) → isc t = true → dlv n (nbv n row t) = far + 1 → S (nbv n row t) = true) ∧ (∀ t, 1 ≤ t → t < i + 1 → isc t = true → dlv n (nbv n j t) = far + 1 → S (nbv n j t) = true) ∧ (m = false → ∀ r, S r = false) ∧ (∀ i, i < n → am_gI G' 834 i = wn (orv n j i)) ∧ Kp (fun a _ => 834 ≤ a ∧ a ≤ 836) G G' ∧ ls = [some (.ref 334), some (.int (wn n)), some (.int (wn (mny n))), some (.int (wn far)), some (.int (wn (b01 m))), some (.int (wn j)), some (.int (wn (i + 1))), none]) ?_ ?_ (2 ^ (n - 1) - 1) 0 (by omega) _ _ ⟨S, m, fun r hr => by rw [k4.i (by omega)]; exact f3 r hr, d3, fun t a b => by omega, m3, o4, k3.trans (k4.mono (fun a i z => by omega)), rfl⟩
          · rintro i hi _ G5 ⟨S, m, f5, d5, t5, m5, o5, k5, rfl⟩ nx5
            have s5 := hsh.kp k5
            have c3 : ¬ 2 ^ (n - 1) ≤ i + 1 := by omega
            have tl : i + 1 < 32 := by omega
            rw [wb243_76 hc]
            cases hi2 : isc (i + 1) with
            | false =>
              have e5 := f5 j hj
              rw [(Dv_far (n := n) (S := S) (r := j) (show far < 1000 by omega)).mpr cf] at e5
              simp +decide (disch := omega) only [↓wm1, wb243_86 hc, wb243_91 hc, wb243_104 hc, wb243_106 hc, wb243_119 hc, wb243_135 hc, w0, w1, rI_wI, rP_wI, rL_wI, rI_wR, rP_wR, is_wI, is_wR, ia_wI, ia_wR, ow_wI, ow_wR, wn_add, wn_mul, wn_cl, wn_le, wn_lt, wn_inj, wn_ne1, wn_1ne, wn_gt1, wn_le1, nb0, nb1, am_kt, am_rt, List.cons_append, List.nil_append, true_and, and_true, not_true_eq_false, not_false_eq_true, imp_f, imp_t, implies_true, Nat.zero_add, if_true, if_false, false_and, and_false, en, ep, c3, ct242 tl, hi2, b01, Bool.false_eq_true, fM s5, ia836 s5, j7, e5]
              refine nx5 _ _ ⟨S, m, f5, d5, fun t a b cc => ?_, m5, o5, k5, rfl⟩
              by_cases e : t = i + 1
              · rw [e, hi2] at cc; cases cc
              · exact t5 t a (by omega) cc
            | true =>
              have nf := nbc_f h1 h6 hj (show i + 1 < 2 ^ (n - 1) by omega) hi2
              simp +decide (disch := omega) only [↓wm1, wb243_86 hc, wb243_91 hc, wb243_94 hc, w0, w1, rI_wI, rP_wI, rL_wI, rI_wR, rP_wR, is_wI, is_wR, ia_wI, ia_wR, ow_wI, ow_wR, wn_add, wn_mul, wn_cl, wn_le, wn_lt, wn_inj, wn_ne1, wn_1ne, wn_gt1, wn_le1, nb0, nb1, am_kt, am_rt, List.cons_append, List.nil_append, true_and, and_true, not_true_eq_false, not_false_eq_true, imp_f, imp_t, implies_true, Nat.zero_add, if_true, if_false, false_and, and_false, en, ep, c3, ct242 tl, hi2, b01, fM s5]
              refine ct241 s5 h1 h6 tl ho o5 (fun G6 k6 => ?_)
              have s6 := s5.kp k6
              have f6 : ∀ r, r < mny n → am_gI G6 836 r = Dv n far S r := fun r hr => by rw [k6.i (by omega)]; exact f5 r hr
              have o6 : ∀ i, i < n → am_gI G6 834 i = wn (orv n j i) := fun i hi => by rw [k6.i (by omega)]; exact o5 i hi
              have kk6 : Kp (fun a _ => 834 ≤ a ∧ a ≤ 836) G G6 := k5.trans (k6.mono (fun a i z => by omega))
              have hnb : rkR n (swq (orv n j) (i + 1) (n - 1)) = nbv n j (i + 1) := rfl
              rw [hnb]
              generalize hx : nbv n j (i + 1) = x at nf
              have x7 : x < 720 := by omega
              have ex := f6 x nf.2.1
              by_cases cx : Dv n far S x = mm
              · rw [cx] at ex
                have hx2 := Dv_mm.mp cx
                have hx3 : dlv n x = far + 1 := by omega
                have hx4 : S x = false := by
                  cases hS : S x with
                  | false => rfl
                  | true => exact absurd (Or.inr ⟨hx3, hS⟩) hx2
                simp +decide (disch := omega) only [↓wm1, wb243_101 hc, wb243_106 hc, wb243_122 hc, wb243_135 hc, w0, w1, rI_wI, rP_wI, rL_wI, rI_wR, rP_wR, is_wI, is_wR, ia_wI, ia_wR, ow_wI, ow_wR, wn_add, wn_mul, wn_cl, wn_le, wn_lt, wn_inj, wn_ne1, wn_1ne, wn_gt1, wn_le1, nb0, nb1, am_kt, am_rt, List.cons_append, List.nil_append, true_and, and_true, not_true_eq_false, not_false_eq_true, imp_f, imp_t, implies_true, Nat.zero_add, if_true, if_false, false_and, and_false, fM s6, ia836 s6, ow836 s6, x7, ex]
                refine nx5 _ _ ⟨fun r => if r = x then true else S r, true, fun r hr => ?_, fun row a b t u1 u2 u3 u4 => ?_, fun t a b cc dd => ?_, (fun z => by cases z), fun i hi => ?_, kk6.wI ⟨by decide, by decide⟩ _, rfl⟩
                · rw [rI_wI]
                  by_cases e : r = x
                  · rw [if_pos ⟨rfl, e⟩, e]
                    unfold Dv
                    rw [if_pos (Or.inr ⟨hx3, by show (if x = x then true else S x) = true; rw [if_pos rfl]⟩), hx3]
                  · rw [if_neg (by omega), f6 r hr]
                    unfold Dv
                    show _ = (if dlv n r ≤ far ∨ (dlv n r = far + 1 ∧ (if r = x then true else S r) = true) then wn (dlv n r) else mm)
                    rw [if_neg e]
                · show (if nbv n row t = x then true else S (nbv n row t)) = true
                  split
                  · rfl
                  · exact d5 row a b t u1 u2 u3 u4
                · show (if nbv n j t = x then true else S (nbv n j t)) = true
                  split
                  · rfl
                  · rename_i hne
                    by_cases e : t = i + 1
                    · rw [e] at hne; exact absurd hx hne
                    · exact t5 t a (by omega) cc dd
                · rw [rI_wI, if_neg (by omega)]; exact o6 i hi
              · have ex2 : ¬ am_gI G6 836 x = mm := by rw [ex]; exact cx
                simp +decide (disch := omega) only [↓wm1, wb243_101 hc, wb243_106 hc, wb243_119 hc, wb243_135 hc, w0, w1, rI_wI, rP_wI, rL_wI, rI_wR, rP_wR, is_wI, is_wR, ia_wI, ia_wR, ow_wI, ow_wR, wn_add, wn_mul, wn_cl, wn_le, wn_lt, wn_inj, wn_ne1, wn_1ne, wn_gt1, wn_le1, nb0, nb1, am_kt, am_rt, List.cons_append, List.nil_append, true_and, and_true, not_true_eq_false, not_false_eq_true, imp_f, imp_t, implies_true, Nat.zero_add, if_true, if_false, false_and, and_false, fM s6, ia836 s6, x7, ex2]
                refine nx5 _ _ ⟨S, m, f6, d5, fun t a b cc dd => ?_, m5, o6, kk6, rfl⟩
                by_cases e : t = i + 1
                · rw [e, hx] at dd ⊢
                  rcases Classical.not_not.mp (fun z => cx (Dv_mm.mpr z)) with y | y
                  · omega
                  · exact y.2
                · exact t5 t a (by omega) cc dd
          · rintro _ G5 ⟨S, m, f5, d5, t5, m5, o5, k5, rfl⟩
            have c3 : 2 ^ (n - 1) ≤ 2 ^ (n - 1) - 1 + 1 := by omega
            rw [wb243_76 hc]
            simp +decide (disch := omega) only [↓wm1, wb243_141 hc, w0, w1, rI_wI, rP_wI, rL_wI, rI_wR, rP_wR, is_wI, is_wR, ia_wI, ia_wR, ow_wI, ow_wR, wn_add, wn_mul, wn_cl, wn_le, wn_lt, wn_inj, wn_ne1, wn_1ne, wn_gt1, wn_le1, nb0, nb1, am_kt, am_rt, List.cons_append, List.nil_append, true_and, and_true, not_true_eq_false, not_false_eq_true, imp_f, imp_t, implies_true, Nat.zero_add, if_true, if_false, false_and, and_false, en, ep, c3]
            refine nx3 _ _ ⟨S, m, f5, fun row a b t u1 u2 u3 u4 => ?_, m5, k5, rfl⟩
            by_cases e : row = j
            · rw [e] at u4 ⊢; exact t5 t u1 (by omega) u3 u4
            · exact d5 row (by omega) b t u1 u2 u3 u4
        · have e4 : ¬ am_gI G3 836 j = wn far := by rw [e3]; exact fun z => cf (hd.mp z)
          simp +decide (disch := omega) only [↓wm1, wb243_52 hc, wb243_63 hc, wb243_141 hc, w0, w1, rI_wI, rP_wI, rL_wI, rI_wR, rP_wR, is_wI, is_wR, ia_wI, ia_wR, ow_wI, ow_wR, wn_add, wn_mul, wn_cl, wn_le, wn_lt, wn_inj, wn_ne1, wn_1ne, wn_gt1, wn_le1, nb0, nb1, am_kt, am_rt, List.cons_append, List.nil_append, true_and, and_true, not_true_eq_false, not_false_eq_true, imp_f, imp_t, implies_true, Nat.zero_add, if_true, if_false, false_and, and_false, c2, fM s3, ia836 s3, j7, e4]
          refine nx3 _ _ ⟨S, m, f3, fun row a b t u1 u2 u3 u4 => ?_, m3, k3, rfl⟩
          by_cases e : row = j
          · rw [e] at b; exact absurd b cf
          · exact d3 row (by omega) b t u1 u2 u3 u4
      · rintro _ G3 ⟨S, m, f3, d3, m3, k3, rfl⟩
        have full : ∀ r, r < mny n → dlv n r = far + 1 → S r = true := fun r hr e => by
          have r0 : r ≠ 0 := fun z => by rw [z, dlv_0 n h1 (by omega)] at e; omega
          obtain ⟨p, t, a1, a2, a3, a4, a5, a6⟩ := prc_f h1 h6 hr r0
          have := d3 p a1 (by omega) t a2 a3 a4 (by rw [a6]; exact e)
          rw [a6] at this
          exact this
        rw [wb243_46 hc]
        cases hm : m with
        | false =>
          simp +decide (disch := omega) only [↓wm1, wb243_147 hc, wb243_152 hc, w0, w1, rI_wI, rP_wI, rL_wI, rI_wR, rP_wR, is_wI, is_wR, ia_wI, ia_wR, ow_wI, ow_wR, wn_add, wn_mul, wn_cl, wn_le, wn_lt, wn_inj, wn_ne1, wn_1ne, wn_gt1, wn_le1, nb0, nb1, am_kt, am_rt, List.cons_append, List.nil_append, true_and, and_true, not_true_eq_false, not_false_eq_true, imp_f, imp_t, implies_true, Nat.zero_add, if_true, if_false, false_and, and_false, Nat.le_refl, b01, Bool.false_eq_true]
          have none1 : ∀ r, r < mny n → dlv n r ≠ far + 1 := fun r hr e => by
            have a := full r hr e
            rw [m3 hm r] at a
            cases a
          refine k G3 (fun r hr => ?_) k3
          rw [f3 r hr]
          unfold Dv
          rw [if_pos (Or.inl (far_all h1 h6 none1 _ r hr rfl))]
        | true =>
          simp +decide (disch := omega) only [↓wm1, wb243_147 hc, wb243_153 hc, w0, w1, rI_wI, rP_wI, rL_wI, rI_wR, rP_wR, is_wI, is_wR, ia_wI, ia_wR, ow_wI, ow_wR, wn_add, wn_mul, wn_cl, wn_le, wn_lt, wn_inj, wn_ne1, wn_1ne, wn_gt1, wn_le1, nb0, nb1, am_kt, am_rt, List.cons_append, List.nil_append, true_and, and_true, not_true_eq_false, not_false_eq_true, imp_f, imp_t, implies_true, Nat.zero_add, if_true, if_false, false_and, and_false, Nat.le_refl, b01]
          refine nx _ _ ⟨fun r hr => ?_, k3, rfl⟩
          rw [f3 r hr]
          unfold Dv
          by_cases c : dlv n r ≤ far + 1
          · rw [if_pos (Or.inl c), if_pos]
            by_cases c2 : dlv n r ≤ far
            · exact Or.inl c2
            · exact Or.inr ⟨by omega, full r hr (by omega)⟩
          · rw [if_neg, if_neg]
            · rintro (z | z)
              · exact c z
              · cases z.2
            · rintro (z | z)
              · omega
              · omega
    · rintro _ G2 ⟨f2, k2, rfl⟩
      rw [wb243_35 hc]
      simp +decide (disch := omega) only [↓wm1, wb243_159 hc, w0, w1, rI_wI, rP_wI, rL_wI, rI_wR, rP_wR, is_wI, is_wR, ia_wI, ia_wR, ow_wI, ow_wR, wn_add, wn_mul, wn_cl, wn_le, wn_lt, wn_inj, wn_ne1, wn_1ne, wn_gt1, wn_le1, nb0, nb1, am_kt, am_rt, List.cons_append, List.nil_append, true_and, and_true, not_true_eq_false, not_false_eq_true, imp_f, imp_t, implies_true, Nat.zero_add, if_true, if_false, false_and, and_false, Nat.le_refl]
      refine k G2 (fun r hr => ?_) k2
      rw [f2 r hr]
      unfold Dv
      rw [if_pos (Or.inl (dlv_N n h1 h6 r hr))]
theorem ct244y (h1 : 1 ≤ n) (h6 : n ≤ 6) (hr : row < mny n) : am_C am_T (d + 2) 244 [.int (wn n), .int (wn row)] G post ↔ post (.inl (some (.int (wn 1)))) G := by
  have hc := am_C_one am_T (d + 1)
  have ml := mny_le n (by omega)
  have v1 := vin2_t (lo := 1) (hi := 7) h1 (show n < 7 by omega) (by decide)
  have v2 := vin2_t (lo := 0) (Nat.zero_le row) hr (by omega)
  rw [we244]
  simp +decide (disch := omega) only [↓wm1, wb244_0 hc, wb244_7 hc, wb244_10 hc, wb244_16 hc, wb244_21 hc, wb244_24 hc, wb244_28 hc, wb244_29 hc, w0, w1, w6, rI_wI, rP_wI, rL_wI, rI_wR, rP_wR, is_wI, is_wR, ia_wI, ia_wR, ow_wI, ow_wR, wn_add, wn_mul, wn_cl, wn_le, wn_lt, wn_inj, wn_ne1, wn_1ne, wn_gt1, wn_le1, nb0, nb1, am_kt, am_rt, List.cons_append, List.nil_append, true_and, and_true, not_true_eq_false, not_false_eq_true, imp_f, imp_t, implies_true, Nat.zero_add, if_true, if_false, false_and, and_false, ct153c, v1, b01, ct239 h6, ct153v (show mny n < 2147483648 by omega), v2]
theorem ct244a {x1 x2 : Int32} (h : x1 < wn 1 ∨ ¬ x1 < wn 7) : am_C am_T (d + 2) 244 [.int x1, .int x2] G post ↔ post (.inl (some (.int (wn 0)))) G := by
  have hc := am_C_one am_T (d + 1)
  have v1 := vin2_f h
  rw [we244]
  simp +decide (disch := omega) only [↓wm1, wb244_0 hc, wb244_7 hc, wb244_28 hc, wb244_29 hc, w0, w1, w6, rI_wI, rP_wI, rL_wI, rI_wR, rP_wR, is_wI, is_wR, ia_wI, ia_wR, ow_wI, ow_wR, wn_add, wn_mul, wn_cl, wn_le, wn_lt, wn_inj, wn_ne1, wn_1ne, wn_gt1, wn_le1, nb0, nb1, am_kt, am_rt, List.cons_append, List.nil_append, true_and, and_true, not_true_eq_false, not_false_eq_true, imp_f, imp_t, implies_true, Nat.zero_add, if_true, if_false, false_and, and_false, ct153c, v1, b01, Bool.false_eq_true]
theorem ct244b {x2 : Int32} (h1 : 1 ≤ n) (h6 : n ≤ 6) (h : x2 < wn 0 ∨ ¬ x2 < wn (mny n)) : am_C am_T (d + 2) 244 [.int (wn n), .int x2] G post ↔ post (.inl (some (.int (wn 0)))) G := by
  have hc := am_C_one am_T (d + 1)
  have ml := mny_le n (by omega)
  have v1 := vin2_t (lo := 1) (hi := 7) h1 (show n < 7 by omega) (by decide)
  have v2 := vin2_f h
  rw [we244]
  simp +decide (disch := omega) only [↓wm1, wb244_0 hc, wb244_7 hc, wb244_10 hc, wb244_16 hc, wb244_21 hc, wb244_28 hc, wb244_29 hc, w0, w1, w6, rI_wI, rP_wI, rL_wI, rI_wR, rP_wR, is_wI, is_wR, ia_wI, ia_wR, ow_wI, ow_wR, wn_add, wn_mul, wn_cl, wn_le, wn_lt, wn_inj, wn_ne1, wn_1ne, wn_gt1, wn_le1, nb0, nb1, am_kt, am_rt, List.cons_append, List.nil_append, true_and, and_true, not_true_eq_false, not_false_eq_true, imp_f, imp_t, implies_true, Nat.zero_add, if_true, if_false, false_and, and_false, ct153c, v1, b01, ct239 h6, ct153v (show mny n < 2147483648 by omega), v2, Bool.false_eq_true]
end
section
variable {G : am_G} {d : Nat} {V : Vt}
theorem LSR {G' : am_G} (k : Kp (fun a _ => 834 ≤ a ∧ a ≤ 836) G G') : Kp QSR G G' := k.mono (fun a i z => by unfold QSR; omega)
theorem rf_changes (hR : RepR G V) (x1 x2 : Int32) : am_C am_T (d + 12) 245 [.ref 334, .int x1, .int x2] G (OR G (rfV V (sp_changes x1 x2)) 1 (sp_changes x1 x2)) := by
  have hc := am_C_one am_T (d + 11)
  have hsh := hR.1
  have k0 := k0R G
  have s0 := hsh.kp k0
  have e0 := e0R G
  unfold sp_changes rwR
  rw [we245]
  rcases vin2_or x1 1 7 (by omega) (by omega) with ⟨n, hl1, hh1, rfl⟩ | hx1
  · have h6 : n ≤ 6 := by omega
    have ml := mny_le n (by omega)
    rw [if_pos (vin2_t hl1 hh1 (by omega)), u_wn (by omega)]
    rcases vin2_or x2 0 (mny n) (by omega) (by omega) with ⟨row, hl2, hh2, rfl⟩ | hx2
    · rw [if_pos (vin2_t hl2 hh2 (by omega)), u_wn (by omega)]
      generalize hP : OR G _ _ _ = P
      simp +decide (disch := omega) only [↓wm1, wb245_0 hc, wb245_11 hc, wb245_18 hc, wb245_19 hc, wb245_24 hc, wb245_29 hc, w0, w1, rI_wI, rP_wI, rL_wI, rI_wR, rP_wR, is_wI, is_wR, ia_wI, ia_wR, ow_wI, ow_wR, wn_add, wn_mul, wn_cl, wn_le, wn_lt, wn_inj, wn_ne1, wn_1ne, wn_gt1, wn_le1, nb0, nb1, am_kt, am_rt, List.cons_append, List.nil_append, true_and, and_true, not_true_eq_false, not_false_eq_true, imp_f, imp_t, implies_true, Nat.zero_add, if_true, if_false, false_and, and_false, fM hsh, fM s0, ct244y hl1 h6 hh2, ct152n s0 e0]
      refine ct243 s0 hl1 h6 (fun G1 g1 k1 => ?_)
      have s1 := s0.kp k1
      have e1 := g1 row hh2
      have r7 : row < 720 := by omega
      simp +decide (disch := omega) only [↓wm1, wb245_34 hc, w0, w1, rI_wI, rP_wI, rL_wI, rI_wR, rP_wR, is_wI, is_wR, ia_wI, ia_wR, ow_wI, ow_wR, wn_add, wn_mul, wn_cl, wn_le, wn_lt, wn_inj, wn_ne1, wn_1ne, wn_gt1, wn_le1, nb0, nb1, am_kt, am_rt, List.cons_append, List.nil_append, true_and, and_true, not_true_eq_false, not_false_eq_true, imp_f, imp_t, implies_true, Nat.zero_add, if_true, if_false, false_and, and_false, fM s1, ia836 s1, r7, e1]
      rw [← hP]; exact OR_ok hR (k0.trans (LSR k1)) (k1.thr (by omega) e0)
    · rw [if_neg (vin2_nf hx2)]
      generalize hP : OR G _ _ _ = P
      simp +decide (disch := omega) only [↓wm1, wb245_0 hc, wb245_11 hc, wb245_14 hc, wb245_19 hc, wb245_24 hc, wb245_27 hc, w0, w1, rI_wI, rP_wI, rL_wI, rI_wR, rP_wR, is_wI, is_wR, ia_wI, ia_wR, ow_wI, ow_wR, wn_add, wn_mul, wn_cl, wn_le, wn_lt, wn_inj, wn_ne1, wn_1ne, wn_gt1, wn_le1, nb0, nb1, am_kt, am_rt, List.cons_append, List.nil_append, true_and, and_true, not_true_eq_false, not_false_eq_true, imp_f, imp_t, implies_true, Nat.zero_add, if_true, if_false, false_and, and_false, fM hsh, fM s0, ct244b hl1 h6 hx2, ct152y (c := 1) (r := 1) (by decide) (by decide) (by decide) s0 e0]
      rw [← hP]; exact OR_8 hR k0
  · rw [if_neg (vin2_nf hx1)]
    generalize hP : OR G _ _ _ = P
    simp +decide (disch := omega) only [↓wm1, wb245_0 hc, wb245_11 hc, wb245_14 hc, wb245_19 hc, wb245_24 hc, wb245_27 hc, w0, w1, rI_wI, rP_wI, rL_wI, rI_wR, rP_wR, is_wI, is_wR, ia_wI, ia_wR, ow_wI, ow_wR, wn_add, wn_mul, wn_cl, wn_le, wn_lt, wn_inj, wn_ne1, wn_1ne, wn_gt1, wn_le1, nb0, nb1, am_kt, am_rt, List.cons_append, List.nil_append, true_and, and_true, not_true_eq_false, not_false_eq_true, imp_f, imp_t, implies_true, Nat.zero_add, if_true, if_false, false_and, and_false, fM hsh, fM s0, ct244a hx1, ct152y (c := 1) (r := 1) (by decide) (by decide) (by decide) s0 e0]
    rw [← hP]; exact OR_8 hR k0
theorem rf_next (hR : RepR G V) (x1 x2 : Int32) : am_C am_T (d + 12) 246 [.ref 334, .int x1, .int x2] G (OR G (rfV V (sp_next x1 x2)) 1 (sp_next x1 x2)) := by
  have hc := am_C_one am_T (d + 11)
  have hsh := hR.1
  have k0 := k0R G
  have s0 := hsh.kp k0
  have e0 := e0R G
  unfold sp_next rwR
  rw [we246]
  rcases vin2_or x1 1 7 (by omega) (by omega) with ⟨n, hl1, hh1, rfl⟩ | hx1
  · have h6 : n ≤ 6 := by omega
    have ml := mny_le n (by omega)
    rw [if_pos (vin2_t hl1 hh1 (by omega)), u_wn (by omega)]
    rcases vin2_or x2 0 (mny n) (by omega) (by omega) with ⟨row, hl2, hh2, rfl⟩ | hx2
    · rw [if_pos (vin2_t hl2 hh2 (by omega)), u_wn (by omega)]
      generalize hP : OR G _ _ _ = P
      have en : wn n - wn 1 = wn (n - 1) := wn_sub hl1
      have ep := bs1 (n - 1) (by omega)
      have p5 : 2 ^ (n - 1) ≤ 32 := Nat.pow_le_pow_right (n := 2) (show 0 < 2 by decide) (show n - 1 ≤ 5 by omega)
      have p1 : 1 ≤ 2 ^ (n - 1) := Nat.two_pow_pos _
      have ho : ∀ i, i < n → orv n row i < 6 := fun i hi => by have := (lyc_f hl1 h6 hh2 hi).1; omega
      have r7 : row < 720 := by omega
      have dr := dlv_lt n row
      simp +decide (disch := omega) only [↓wm1, wb246_0 hc, wb246_11 hc, wb246_18 hc, wb246_19 hc, wb246_24 hc, wb246_29 hc, w0, w1, rI_wI, rP_wI, rL_wI, rI_wR, rP_wR, is_wI, is_wR, ia_wI, ia_wR, ow_wI, ow_wR, wn_add, wn_mul, wn_cl, wn_le, wn_lt, wn_inj, wn_ne1, wn_1ne, wn_gt1, wn_le1, nb0, nb1, am_kt, am_rt, List.cons_append, List.nil_append, true_and, and_true, not_true_eq_false, not_false_eq_true, imp_f, imp_t, implies_true, Nat.zero_add, if_true, if_false, false_and, and_false, fM hsh, fM s0, ct244y hl1 h6 hh2, ct152n s0 e0]
      refine ct243 s0 hl1 h6 (fun G1 g1 k1 => ?_)
      have s1 := s0.kp k1
      simp +decide (disch := omega) only [↓wm1, wb246_36 hc, w0, w1, rI_wI, rP_wI, rL_wI, rI_wR, rP_wR, is_wI, is_wR, ia_wI, ia_wR, ow_wI, ow_wR, wn_add, wn_mul, wn_cl, wn_le, wn_lt, wn_inj, wn_ne1, wn_1ne, wn_gt1, wn_le1, nb0, nb1, am_kt, am_rt, List.cons_append, List.nil_append, true_and, and_true, not_true_eq_false, not_false_eq_true, imp_f, imp_t, implies_true, Nat.zero_add, if_true, if_false, false_and, and_false, fM s1]
      refine ct240 s1 hl1 h6 hh2 (fun G2 f2 k2 => ?_)
      simp +decide (disch := omega) only [↓wm1, wb246_42 hc, w0, w1, rI_wI, rP_wI, rL_wI, rI_wR, rP_wR, is_wI, is_wR, ia_wI, ia_wR, ow_wI, ow_wR, wn_add, wn_mul, wn_cl, wn_le, wn_lt, wn_inj, wn_ne1, wn_1ne, wn_gt1, wn_le1, nb0, nb1, am_kt, am_rt, List.cons_append, List.nil_append, true_and, and_true, not_true_eq_false, not_false_eq_true, imp_f, imp_t, implies_true, Nat.zero_add, if_true, if_false, false_and, and_false]
      refine am_for (2 ^ (n - 1) - 1) (fun j ls G' => (∀ i, i < n → am_gI G' 834 i = wn (orv n row i)) ∧ Kp (fun a _ => a = 834 ∨ a = 835) G1 G' ∧ ls = [some (.ref 334), some (.int (wn n)), some (.int (wn row)), some (.int (wn (nxp n row j).1)), some (.int (wn (j + 1))), none]) ?_ ?_ (2 ^ (n - 1) - 1) 0 (by omega) _ _ ⟨f2, k2.mono (fun a i z => Or.inl z), rfl⟩
      · rintro j hj _ G3 ⟨f3, k3, rfl⟩ nx
        have s3 := s1.kp k3
        have c3 : ¬ 2 ^ (n - 1) ≤ j + 1 := by omega
        have tl : j + 1 < 32 := by omega
        have xl := nxp_lt hl1 h6 hh2 j (by omega)
        have xf := nxp_f n row j
        have g3 : ∀ r, r < mny n → am_gI G3 836 r = wn (dlv n r) := fun r hr => by rw [k3.i (by omega)]; exact g1 r hr
        have nxe : nxp n row (j + 1) = if isc (j + 1) = true ∧ dlv n (nbv n row (j + 1)) + 1 = dlv n row ∧ ((nxp n row j).2 = false ∨ nbv n row (j + 1) < (nxp n row j).1) then (nbv n row (j + 1), true) else nxp n row j := rfl
        have lg : wn (dlv n row) - wn 1 = lim (dlv n row) := rfl
        rw [nxe] at nx
        generalize hX : nxp n row j = X at xl nx xf
        rw [wb246_45 hc]
        cases hi2 : isc (j + 1) with
        | false =>
          have er := g3 row hh2
          have le := lim_eq (a := dlv n row) (b := dlv n row) (by omega) (by omega)
          have c4 : ¬ dlv n row + 1 = dlv n row := by omega
          rw [if_neg (fun z => by rw [hi2] at z; cases z.1)] at nx
          simp +decide (disch := omega) only [↓wm1, wb246_55 hc, wb246_60 hc, wb246_73 hc, wb246_74 hc, wb246_110 hc, wb246_111 hc, w0, w1, rI_wI, rP_wI, rL_wI, rI_wR, rP_wR, is_wI, is_wR, ia_wI, ia_wR, ow_wI, ow_wR, wn_add, wn_mul, wn_cl, wn_le, wn_lt, wn_inj, wn_ne1, wn_1ne, wn_gt1, wn_le1, nb0, nb1, am_kt, am_rt, List.cons_append, List.nil_append, true_and, and_true, not_true_eq_false, not_false_eq_true, imp_f, imp_t, implies_true, Nat.zero_add, if_true, if_false, false_and, and_false, en, ep, c3, ct242 tl, hi2, b01, Bool.false_eq_true, fM s3, ia836 s3, r7, er, lg, le, c4]
          exact nx _ _ ⟨f3, k3, rfl⟩
        | true =>
          have nf := nbc_f hl1 h6 hh2 (show j + 1 < 2 ^ (n - 1) by omega) hi2
          simp +decide (disch := omega) only [↓wm1, wb246_55 hc, wb246_60 hc, wb246_63 hc, w0, w1, rI_wI, rP_wI, rL_wI, rI_wR, rP_wR, is_wI, is_wR, ia_wI, ia_wR, ow_wI, ow_wR, wn_add, wn_mul, wn_cl, wn_le, wn_lt, wn_inj, wn_ne1, wn_1ne, wn_gt1, wn_le1, nb0, nb1, am_kt, am_rt, List.cons_append, List.nil_append, true_and, and_true, not_true_eq_false, not_false_eq_true, imp_f, imp_t, implies_true, Nat.zero_add, if_true, if_false, false_and, and_false, en, ep, c3, ct242 tl, hi2, b01, fM s3]
          refine ct241 s3 hl1 h6 tl ho f3 (fun G4 k4 => ?_)
          have s4 := s3.kp k4
          have k14 : Kp (fun a _ => a = 834 ∨ a = 835) G1 G4 := k3.trans (k4.mono (fun a i z => Or.inr z))
          have g4 : ∀ r, r < mny n → am_gI G4 836 r = wn (dlv n r) := fun r hr => by rw [k14.i (by omega)]; exact g1 r hr
          have f4 : ∀ i, i < n → am_gI G4 834 i = wn (orv n row i) := fun i hi => by rw [k4.i (by omega)]; exact f3 i hi
          have hnb : rkR n (swq (orv n row) (j + 1) (n - 1)) = nbv n row (j + 1) := rfl
          rw [hnb]
          generalize hx : nbv n row (j + 1) = x at nf nx
          have dx := dlv_lt n x
          have x7 : x < 720 := by omega
          have er := g4 row hh2
          have ex := g4 x nf.2.1
          have le := lim_eq (a := dlv n x) (b := dlv n row) (by omega) (by omega)
          by_cases c4 : dlv n x + 1 = dlv n row
          · cases h2 : X.2 with
            | false =>
              rw [if_pos ⟨hi2, c4, Or.inl h2⟩] at nx
              have e2 := xf.1 h2
              simp +decide (disch := omega) only [↓wm1, wb246_70 hc, wb246_74 hc, wb246_94 hc, wb246_105 hc, wb246_111 hc, w0, w1, rI_wI, rP_wI, rL_wI, rI_wR, rP_wR, is_wI, is_wR, ia_wI, ia_wR, ow_wI, ow_wR, wn_add, wn_mul, wn_cl, wn_le, wn_lt, wn_inj, wn_ne1, wn_1ne, wn_gt1, wn_le1, nb0, nb1, am_kt, am_rt, List.cons_append, List.nil_append, true_and, and_true, not_true_eq_false, not_false_eq_true, imp_f, imp_t, implies_true, Nat.zero_add, if_true, if_false, false_and, and_false, fM s4, ia836 s4, r7, x7, er, ex, lg, le, c4, e2]
              exact nx _ _ ⟨f4, k14, rfl⟩
            | true =>
              have e2 : ¬ X.1 = row := xf.2 h2
              by_cases c5 : X.1 ≤ x
              · rw [if_neg (fun z => by rcases z.2.2 with y | y; rw [h2] at y; cases y; omega)] at nx
                simp +decide (disch := omega) only [↓wm1, wb246_70 hc, wb246_74 hc, wb246_94 hc, wb246_99 hc, wb246_110 hc, wb246_111 hc, w0, w1, rI_wI, rP_wI, rL_wI, rI_wR, rP_wR, is_wI, is_wR, ia_wI, ia_wR, ow_wI, ow_wR, wn_add, wn_mul, wn_cl, wn_le, wn_lt, wn_inj, wn_ne1, wn_1ne, wn_gt1, wn_le1, nb0, nb1, am_kt, am_rt, List.cons_append, List.nil_append, true_and, and_true, not_true_eq_false, not_false_eq_true, imp_f, imp_t, implies_true, Nat.zero_add, if_true, if_false, false_and, and_false, fM s4, ia836 s4, r7, x7, er, ex, lg, le, c4, e2, c5]
                exact nx _ _ ⟨f4, k14, rfl⟩
              · rw [if_pos ⟨hi2, c4, Or.inr (by omega)⟩] at nx
                simp +decide (disch := omega) only [↓wm1, wb246_70 hc, wb246_74 hc, wb246_94 hc, wb246_99 hc, wb246_105 hc, wb246_111 hc, w0, w1, rI_wI, rP_wI, rL_wI, rI_wR, rP_wR, is_wI, is_wR, ia_wI, ia_wR, ow_wI, ow_wR, wn_add, wn_mul, wn_cl, wn_le, wn_lt, wn_inj, wn_ne1, wn_1ne, wn_gt1, wn_le1, nb0, nb1, am_kt, am_rt, List.cons_append, List.nil_append, true_and, and_true, not_true_eq_false, not_false_eq_true, imp_f, imp_t, implies_true, Nat.zero_add, if_true, if_false, false_and, and_false, fM s4, ia836 s4, r7, x7, er, ex, lg, le, c4, e2, c5]
                exact nx _ _ ⟨f4, k14, rfl⟩
          · rw [if_neg (fun z => c4 z.2.1)] at nx
            simp +decide (disch := omega) only [↓wm1, wb246_70 hc, wb246_74 hc, wb246_110 hc, wb246_111 hc, w0, w1, rI_wI, rP_wI, rL_wI, rI_wR, rP_wR, is_wI, is_wR, ia_wI, ia_wR, ow_wI, ow_wR, wn_add, wn_mul, wn_cl, wn_le, wn_lt, wn_inj, wn_ne1, wn_1ne, wn_gt1, wn_le1, nb0, nb1, am_kt, am_rt, List.cons_append, List.nil_append, true_and, and_true, not_true_eq_false, not_false_eq_true, imp_f, imp_t, implies_true, Nat.zero_add, if_true, if_false, false_and, and_false, fM s4, ia836 s4, r7, x7, er, ex, lg, le, c4]
            exact nx _ _ ⟨f4, k14, rfl⟩
      · rintro _ G3 ⟨f3, k3, rfl⟩
        have c3 : 2 ^ (n - 1) ≤ 2 ^ (n - 1) - 1 + 1 := by omega
        rw [wb246_45 hc]
        simp +decide (disch := omega) only [↓wm1, wb246_118 hc, w0, w1, rI_wI, rP_wI, rL_wI, rI_wR, rP_wR, is_wI, is_wR, ia_wI, ia_wR, ow_wI, ow_wR, wn_add, wn_mul, wn_cl, wn_le, wn_lt, wn_inj, wn_ne1, wn_1ne, wn_gt1, wn_le1, nb0, nb1, am_kt, am_rt, List.cons_append, List.nil_append, true_and, and_true, not_true_eq_false, not_false_eq_true, imp_f, imp_t, implies_true, Nat.zero_add, if_true, if_false, false_and, and_false, en, ep, c3]
        rw [← hP]
        have k13 : Kp (fun a _ => 834 ≤ a ∧ a ≤ 836) (am_wI G 334 0 (wn 0)) G3 := k1.trans (k3.mono (fun a i z => by omega))
        exact OR_ok hR (k0.trans (LSR k13)) (k13.thr (by omega) e0)
    · rw [if_neg (vin2_nf hx2)]
      generalize hP : OR G _ _ _ = P
      simp +decide (disch := omega) only [↓wm1, wb246_0 hc, wb246_11 hc, wb246_14 hc, wb246_19 hc, wb246_24 hc, wb246_27 hc, w0, w1, rI_wI, rP_wI, rL_wI, rI_wR, rP_wR, is_wI, is_wR, ia_wI, ia_wR, ow_wI, ow_wR, wn_add, wn_mul, wn_cl, wn_le, wn_lt, wn_inj, wn_ne1, wn_1ne, wn_gt1, wn_le1, nb0, nb1, am_kt, am_rt, List.cons_append, List.nil_append, true_and, and_true, not_true_eq_false, not_false_eq_true, imp_f, imp_t, implies_true, Nat.zero_add, if_true, if_false, false_and, and_false, fM hsh, fM s0, ct244b hl1 h6 hx2, ct152y (c := 1) (r := 1) (by decide) (by decide) (by decide) s0 e0]
      rw [← hP]; exact OR_8 hR k0
  · rw [if_neg (vin2_nf hx1)]
    generalize hP : OR G _ _ _ = P
    simp +decide (disch := omega) only [↓wm1, wb246_0 hc, wb246_11 hc, wb246_14 hc, wb246_19 hc, wb246_24 hc, wb246_27 hc, w0, w1, rI_wI, rP_wI, rL_wI, rI_wR, rP_wR, is_wI, is_wR, ia_wI, ia_wR, ow_wI, ow_wR, wn_add, wn_mul, wn_cl, wn_le, wn_lt, wn_inj, wn_ne1, wn_1ne, wn_gt1, wn_le1, nb0, nb1, am_kt, am_rt, List.cons_append, List.nil_append, true_and, and_true, not_true_eq_false, not_false_eq_true, imp_f, imp_t, implies_true, Nat.zero_add, if_true, if_false, false_and, and_false, fM hsh, fM s0, ct244a hx1, ct152y (c := 1) (r := 1) (by decide) (by decide) (by decide) s0 e0]
    rw [← hP]; exact OR_8 hR k0
theorem rf_within (hR : RepR G V) (x1 x2 : Int32) : am_C am_T (d + 12) 247 [.ref 334, .int x1, .int x2] G (OR G (rfV V (sp_within x1 x2)) 1 (sp_within x1 x2)) := by
  have hc := am_C_one am_T (d + 11)
  have hsh := hR.1
  have k0 := k0R G
  have s0 := hsh.kp k0
  have e0 := e0R G
  unfold sp_within
  rw [we247]
  rcases vin2_or x1 1 7 (by omega) (by omega) with ⟨n, hl1, hh1, rfl⟩ | hx1
  · have h6 : n ≤ 6 := by omega
    have ml := mny_le n (by omega)
    have v1 := vin2_t hl1 hh1 (by omega)
    rw [if_pos v1, u_wn (by omega)]
    rcases vin2_or x2 0 16 (by omega) (by omega) with ⟨m, hl2, hh2, rfl⟩ | hx2
    · have v2 := vin2_t hl2 hh2 (by omega)
      rw [if_pos v2, u_wn (by omega)]
      generalize hP : OR G _ _ _ = P
      simp +decide (disch := omega) only [↓wm1, wb247_0 hc, wb247_13 hc, wb247_16 hc, wb247_23 hc, wb247_30 hc, wb247_31 hc, wb247_36 hc, wb247_41 hc, w0, w1, w6, w15, rI_wI, rP_wI, rL_wI, rI_wR, rP_wR, is_wI, is_wR, ia_wI, ia_wR, ow_wI, ow_wR, wn_add, wn_mul, wn_cl, wn_le, wn_lt, wn_inj, wn_ne1, wn_1ne, wn_gt1, wn_le1, nb0, nb1, am_kt, am_rt, List.cons_append, List.nil_append, true_and, and_true, not_true_eq_false, not_false_eq_true, imp_f, imp_t, implies_true, Nat.zero_add, if_true, if_false, false_and, and_false, fM hsh, fM s0, ct153c, v1, v2, b01, ct152n s0 e0]
      refine ct243 s0 hl1 h6 (fun G1 g1 k1 => ?_)
      have s1 := s0.kp k1
      simp +decide (disch := omega) only [↓wm1, wb247_48 hc, w0, w1, w6, w15, rI_wI, rP_wI, rL_wI, rI_wR, rP_wR, is_wI, is_wR, ia_wI, ia_wR, ow_wI, ow_wR, wn_add, wn_mul, wn_cl, wn_le, wn_lt, wn_inj, wn_ne1, wn_1ne, wn_gt1, wn_le1, nb0, nb1, am_kt, am_rt, List.cons_append, List.nil_append, true_and, and_true, not_true_eq_false, not_false_eq_true, imp_f, imp_t, implies_true, Nat.zero_add, if_true, if_false, false_and, and_false]
      refine am_for (mny n) (fun j ls G' => G1 = G' ∧ ls = [some (.ref 334), some (.int (wn n)), some (.int (wn m)), some (.int (wn (tsum (fun r => b01 (decide (dlv n r ≤ m))) j))), some (.int (wn j))]) ?_ ?_ (mny n) 0 (by omega) _ _ ⟨rfl, rfl⟩
      · rintro j hj _ _ ⟨rfl, rfl⟩ nx
        have c4 : ¬ mny n ≤ j := by omega
        have dj := dlv_lt n j
        have j7 : j < 720 := by omega
        have ej := g1 j hj
        rw [wb247_51 hc]
        by_cases c5 : dlv n j ≤ m
        · have c6 : ¬ m < dlv n j := by omega
          simp +decide (disch := omega) only [↓wm1, wb247_57 hc, wb247_60 hc, wb247_72 hc, wb247_77 hc, w0, w1, w6, w15, rI_wI, rP_wI, rL_wI, rI_wR, rP_wR, is_wI, is_wR, ia_wI, ia_wR, ow_wI, ow_wR, wn_add, wn_mul, wn_cl, wn_le, wn_lt, wn_inj, wn_ne1, wn_1ne, wn_gt1, wn_le1, nb0, nb1, am_kt, am_rt, List.cons_append, List.nil_append, true_and, and_true, not_true_eq_false, not_false_eq_true, imp_f, imp_t, implies_true, Nat.zero_add, if_true, if_false, false_and, and_false, ct239 h6, c4, fM s1, ia836 s1, j7, ej, c6]
          refine nx _ _ ⟨rfl, ?_⟩
          simp only [tsum, decide_eq_true c5, b01, if_true]
        · have c6 : m < dlv n j := by omega
          simp +decide (disch := omega) only [↓wm1, wb247_57 hc, wb247_60 hc, wb247_76 hc, wb247_77 hc, w0, w1, w6, w15, rI_wI, rP_wI, rL_wI, rI_wR, rP_wR, is_wI, is_wR, ia_wI, ia_wR, ow_wI, ow_wR, wn_add, wn_mul, wn_cl, wn_le, wn_lt, wn_inj, wn_ne1, wn_1ne, wn_gt1, wn_le1, nb0, nb1, am_kt, am_rt, List.cons_append, List.nil_append, true_and, and_true, not_true_eq_false, not_false_eq_true, imp_f, imp_t, implies_true, Nat.zero_add, if_true, if_false, false_and, and_false, ct239 h6, c4, fM s1, ia836 s1, j7, ej, c6]
          refine nx _ _ ⟨rfl, ?_⟩
          simp only [tsum, decide_eq_false c5, b01, Bool.false_eq_true, if_false]
      · rintro _ _ ⟨rfl, rfl⟩
        rw [wb247_51 hc]
        simp +decide (disch := omega) only [↓wm1, wb247_57 hc, wb247_85 hc, w0, w1, w6, w15, rI_wI, rP_wI, rL_wI, rI_wR, rP_wR, is_wI, is_wR, ia_wI, ia_wR, ow_wI, ow_wR, wn_add, wn_mul, wn_cl, wn_le, wn_lt, wn_inj, wn_ne1, wn_1ne, wn_gt1, wn_le1, nb0, nb1, am_kt, am_rt, List.cons_append, List.nil_append, true_and, and_true, not_true_eq_false, not_false_eq_true, imp_f, imp_t, implies_true, Nat.zero_add, if_true, if_false, false_and, and_false, ct239 h6, Nat.le_refl]
        rw [← hP]; exact OR_ok hR (k0.trans (LSR k1)) (k1.thr (by omega) e0)
    · rw [if_neg (vin2_nf hx2)]
      generalize hP : OR G _ _ _ = P
      simp +decide (disch := omega) only [↓wm1, wb247_0 hc, wb247_13 hc, wb247_16 hc, wb247_23 hc, wb247_26 hc, wb247_31 hc, wb247_36 hc, wb247_39 hc, w0, w1, w6, w15, rI_wI, rP_wI, rL_wI, rI_wR, rP_wR, is_wI, is_wR, ia_wI, ia_wR, ow_wI, ow_wR, wn_add, wn_mul, wn_cl, wn_le, wn_lt, wn_inj, wn_ne1, wn_1ne, wn_gt1, wn_le1, nb0, nb1, am_kt, am_rt, List.cons_append, List.nil_append, true_and, and_true, not_true_eq_false, not_false_eq_true, imp_f, imp_t, implies_true, Nat.zero_add, if_true, if_false, false_and, and_false, fM hsh, fM s0, ct153c, v1, vin2_f hx2, b01, Bool.false_eq_true, ct152y (c := 1) (r := 1) (by decide) (by decide) (by decide) s0 e0]
      rw [← hP]; exact OR_8 hR k0
  · rw [if_neg (vin2_nf hx1)]
    generalize hP : OR G _ _ _ = P
    simp +decide (disch := omega) only [↓wm1, wb247_0 hc, wb247_13 hc, wb247_26 hc, wb247_31 hc, wb247_36 hc, wb247_39 hc, w0, w1, w6, w15, rI_wI, rP_wI, rL_wI, rI_wR, rP_wR, is_wI, is_wR, ia_wI, ia_wR, ow_wI, ow_wR, wn_add, wn_mul, wn_cl, wn_le, wn_lt, wn_inj, wn_ne1, wn_1ne, wn_gt1, wn_le1, nb0, nb1, am_kt, am_rt, List.cons_append, List.nil_append, true_and, and_true, not_true_eq_false, not_false_eq_true, imp_f, imp_t, implies_true, Nat.zero_add, if_true, if_false, false_and, and_false, fM hsh, fM s0, ct153c, vin2_f hx1, b01, Bool.false_eq_true, ct152y (c := 1) (r := 1) (by decide) (by decide) (by decide) s0 e0]
    rw [← hP]; exact OR_8 hR k0
theorem rf_place (hR : RepR G V) (x1 x2 x3 : Int32) : am_C am_T (d + 12) 248 [.ref 334, .int x1, .int x2, .int x3] G (OR G (rfV V (sp_place x1 x2 x3)) 1 (sp_place x1 x2 x3)) := by
  have hc := am_C_one am_T (d + 11)
  have hsh := hR.1
  have k0 := k0R G
  have s0 := hsh.kp k0
  have e0 := e0R G
  unfold sp_place
  rw [we248]
  rcases vin2_or x1 1 7 (by omega) (by omega) with ⟨n, hl1, hh1, rfl⟩ | hx1
  · have h6 : n ≤ 6 := by omega
    have ml := mny_le n (by omega)
    rw [if_pos (vin2_t hl1 hh1 (by omega)), u_wn (by omega)]
    rcases vin2_or x2 0 (mny n) (by omega) (by omega) with ⟨row, hl2, hh2, rfl⟩ | hx2
    · rw [if_pos (vin2_t hl2 hh2 (by omega)), u_wn (by omega)]
      rcases vin2_or x3 0 n (by omega) (by omega) with ⟨p, hl3, hh3, rfl⟩ | hx3
      · have v3 := vin2_t hl3 hh3 (by omega)
        rw [if_pos v3, u_wn (by omega)]
        have p6 : p < 6 := by omega
        generalize hP : OR G _ _ _ = P
        simp +decide (disch := omega) only [↓wm1, wb248_0 hc, wb248_11 hc, wb248_14 hc, wb248_22 hc, wb248_29 hc, wb248_30 hc, wb248_35 hc, wb248_40 hc, w0, w1, rI_wI, rP_wI, rL_wI, rI_wR, rP_wR, is_wI, is_wR, ia_wI, ia_wR, ow_wI, ow_wR, wn_add, wn_mul, wn_cl, wn_le, wn_lt, wn_inj, wn_ne1, wn_1ne, wn_gt1, wn_le1, nb0, nb1, am_kt, am_rt, List.cons_append, List.nil_append, true_and, and_true, not_true_eq_false, not_false_eq_true, imp_f, imp_t, implies_true, Nat.zero_add, if_true, if_false, false_and, and_false, fM hsh, fM s0, ct244y hl1 h6 hh2, ct153v (show n < 2147483648 by omega), v3, b01, ct152n s0 e0]
        refine ct240 s0 hl1 h6 hh2 (fun G1 f1 k1 => ?_)
        have s1 := s0.kp k1
        have e1 := f1 p hh3
        simp +decide (disch := omega) only [↓wm1, wb248_46 hc, w0, w1, rI_wI, rP_wI, rL_wI, rI_wR, rP_wR, is_wI, is_wR, ia_wI, ia_wR, ow_wI, ow_wR, wn_add, wn_mul, wn_cl, wn_le, wn_lt, wn_inj, wn_ne1, wn_1ne, wn_gt1, wn_le1, nb0, nb1, am_kt, am_rt, List.cons_append, List.nil_append, true_and, and_true, not_true_eq_false, not_false_eq_true, imp_f, imp_t, implies_true, Nat.zero_add, if_true, if_false, false_and, and_false, fM s1, ia834 s1, p6, e1]
        rw [← hP]
        have k2 : Kp (fun a _ => 834 ≤ a ∧ a ≤ 836) (am_wI G 334 0 (wn 0)) G1 := k1.mono (fun a i z => by omega)
        exact OR_ok hR (k0.trans (LSR k2)) (k2.thr (by omega) e0)
      · rw [if_neg (vin2_nf hx3)]
        generalize hP : OR G _ _ _ = P
        simp +decide (disch := omega) only [↓wm1, wb248_0 hc, wb248_11 hc, wb248_14 hc, wb248_22 hc, wb248_25 hc, wb248_30 hc, wb248_35 hc, wb248_38 hc, w0, w1, rI_wI, rP_wI, rL_wI, rI_wR, rP_wR, is_wI, is_wR, ia_wI, ia_wR, ow_wI, ow_wR, wn_add, wn_mul, wn_cl, wn_le, wn_lt, wn_inj, wn_ne1, wn_1ne, wn_gt1, wn_le1, nb0, nb1, am_kt, am_rt, List.cons_append, List.nil_append, true_and, and_true, not_true_eq_false, not_false_eq_true, imp_f, imp_t, implies_true, Nat.zero_add, if_true, if_false, false_and, and_false, fM hsh, fM s0, ct244y hl1 h6 hh2, ct153v (show n < 2147483648 by omega), vin2_f hx3, b01, Bool.false_eq_true, ct152y (c := 1) (r := 1) (by decide) (by decide) (by decide) s0 e0]
        rw [← hP]; exact OR_8 hR k0
    · rw [if_neg (vin2_nf hx2)]
      generalize hP : OR G _ _ _ = P
      simp +decide (disch := omega) only [↓wm1, wb248_0 hc, wb248_11 hc, wb248_25 hc, wb248_30 hc, wb248_35 hc, wb248_38 hc, w0, w1, rI_wI, rP_wI, rL_wI, rI_wR, rP_wR, is_wI, is_wR, ia_wI, ia_wR, ow_wI, ow_wR, wn_add, wn_mul, wn_cl, wn_le, wn_lt, wn_inj, wn_ne1, wn_1ne, wn_gt1, wn_le1, nb0, nb1, am_kt, am_rt, List.cons_append, List.nil_append, true_and, and_true, not_true_eq_false, not_false_eq_true, imp_f, imp_t, implies_true, Nat.zero_add, if_true, if_false, false_and, and_false, fM hsh, fM s0, ct244b hl1 h6 hx2, ct152y (c := 1) (r := 1) (by decide) (by decide) (by decide) s0 e0]
      rw [← hP]; exact OR_8 hR k0
  · rw [if_neg (vin2_nf hx1)]
    generalize hP : OR G _ _ _ = P
    simp +decide (disch := omega) only [↓wm1, wb248_0 hc, wb248_11 hc, wb248_25 hc, wb248_30 hc, wb248_35 hc, wb248_38 hc, w0, w1, rI_wI, rP_wI, rL_wI, rI_wR, rP_wR, is_wI, is_wR, ia_wI, ia_wR, ow_wI, ow_wR, wn_add, wn_mul, wn_cl, wn_le, wn_lt, wn_inj, wn_ne1, wn_1ne, wn_gt1, wn_le1, nb0, nb1, am_kt, am_rt, List.cons_append, List.nil_append, true_and, and_true, not_true_eq_false, not_false_eq_true, imp_f, imp_t, implies_true, Nat.zero_add, if_true, if_false, false_and, and_false, fM hsh, fM s0, ct244a hx1, ct152y (c := 1) (r := 1) (by decide) (by decide) (by decide) s0 e0]
    rw [← hP]; exact OR_8 hR k0
end
