/-! SOUNDS, the reference's side. -/
section
variable {G : am_G} {d : Nat} {V : Vt} {post : am_O → am_G → Prop}
theorem ow837 (h : Sh G) : ∀ j, j < 14 → am_ow G 837 (wn j) 101 := fun j hj => h.ow (k := 101) (n := 14) (by decide +kernel) hj (by decide)
theorem ORl_ok {G' : am_G} {v : Int64} (h : RepR G V) (k : Kp QSR G G') (e : am_gI G' 334 0 = wn 0) : ORl G V (.inl v) (.inl (some (.long v))) G' := ⟨h.q k, k.mono (fun _ _ z => QSR_rs z), rfl, e⟩
theorem ORl_8 {G0 : am_G} {x : Int64} (h : RepR G V) (k0 : Kp QSR G G0) : ORl G (cnt8 V) (.inr 1) (.inl (some (.long x))) (bdG G0 1 1) := by
  obtain ⟨a, b, -, c⟩ := OR_8 (cd := 1) (x := 0) h k0
  exact ⟨a, b, ⟨x, rfl⟩, c⟩
theorem ct252_g {W : Nat} {x2 x4 : Int32} : ∀ (f a b : Nat) (o1 o3 o11 o12 : Option Value), b ≤ f → a ≤ 281474976710656 → b ≤ 281474976710656 → (∀ o9, am_W (am_C am_T (d + 11)) am_252 post 210 [some (.ref 334), none, some (.int x2), none, some (.int x4), some (.long (wl W)), none, some (.long (wl (Nat.gcd a b))), none, o9, none, none, none] [] G) →
    am_W (am_C am_T (d + 11)) am_252 post 185 [some (.ref 334), o1, some (.int x2), o3, some (.int x4), some (.long (wl W)), none, some (.long (wl a)), none, some (.long (wl b)), none, o11, o12] [] G := by
  have hc := am_C_one am_T (d + 11)
  intro f
  induction f with
  | zero =>
    intro a b o1 o3 o11 o12 hf ha hb k
    have e : b = 0 := by omega
    subst e
    rw [Nat.gcd_zero_right] at k
    have e4 := lge (a := 0) (b := 0) (by omega) (by decide)
    rw [wb252_185 hc]
    simp +decide (disch := omega) only [↓wm1, w0, w1, rI_wI, rP_wI, rL_wI, rI_wR, rP_wR, is_wI, is_wR, ia_wI, ia_wR, ow_wI, ow_wR, wn_add, wn_mul, wn_cl, wn_le, wn_lt, wn_inj, wn_ne1, wn_1ne, wn_gt1, wn_le1, nb0, nb1, am_kt, am_rt, List.cons_append, List.nil_append, true_and, and_true, not_true_eq_false, not_false_eq_true, imp_f, imp_t, implies_true, Nat.zero_add, if_true, if_false, false_and, and_false, w0, wn_l, e4]
    exact k _
  | succ f ih =>
    intro a b o1 o3 o11 o12 hf ha hb k
    have e4 := lge (a := b) (b := 0) (by omega) (by decide)
    rw [wb252_185 hc]
    by_cases c : b = 0
    · subst c
      rw [Nat.gcd_zero_right] at k
      simp +decide (disch := omega) only [↓wm1, w0, w1, rI_wI, rP_wI, rL_wI, rI_wR, rP_wR, is_wI, is_wR, ia_wI, ia_wR, ow_wI, ow_wR, wn_add, wn_mul, wn_cl, wn_le, wn_lt, wn_inj, wn_ne1, wn_1ne, wn_gt1, wn_le1, nb0, nb1, am_kt, am_rt, List.cons_append, List.nil_append, true_and, and_true, not_true_eq_false, not_false_eq_true, imp_f, imp_t, implies_true, Nat.zero_add, if_true, if_false, false_and, and_false, w0, wn_l, e4]
      exact k _
    · have c2 : ¬ wl b = 0 := by rw [show (0 : Int64) = wl 0 from rfl, wl_inj (by omega) (by omega)]; exact c
      have e1 : am_reml (wl a) (wl b) = wl (a % b) := wl_rem (by omega) (by omega)
      have ml : a % b < b := Nat.mod_lt _ (by omega)
      have eg : Nat.gcd a b = Nat.gcd b (a % b) := by rw [Nat.gcd_comm a b, Nat.gcd_rec b a, Nat.gcd_comm]
      rw [eg] at k
      have := ih b (a % b) none none (some (.long (wl (a % b)))) none (by omega) (by omega) (by omega) k
      simp +decide (disch := omega) only [↓wm1, wb252_192 hc, wb252_199 hc, wb252_203 hc, wb252_207 hc, w0, w1, w4, w12, w13, w14, w16, rI_wI, rP_wI, rL_wI, rI_wR, rP_wR, is_wI, is_wR, ia_wI, ia_wR, ow_wI, ow_wR, wn_add, wn_mul, wn_cl, wn_le, wn_lt, wn_inj, wn_ne1, wn_1ne, wn_gt1, wn_le1, nb0, nb1, am_kt, am_rt, List.cons_append, List.nil_append, true_and, and_true, not_true_eq_false, not_false_eq_true, imp_f, imp_t, implies_true, Nat.zero_add, if_true, if_false, false_and, and_false, w0, wn_l, e4, c, c2, e1]
      exact this
theorem ct252_m {n k q p : Nat} (hsh : Sh G) (hn : n < 13) (hk : k < 13) (hq : q ≤ 16) (hp : p < 2) (kk : ∀ G', Kp (fun a _ => a = 837) G G' → post (.inl (some (.long (q_sounds n k q p)))) G') :
    am_W (am_C am_T (d + 11)) am_252 post 61 [some (.ref 334), some (.int (wn n)), some (.int (wn k)), some (.int (wn q)), some (.int (wn p)), none, none, none, none, none, none, none, none] [] G := by
  have hc := am_C_one am_T (d + 11)
  have e16 : wn 16 - wn q = wn (16 - q) := wn_sub (by omega)
  have xl := exv_le hq n k
  have pl := p16_le hn
  simp +decide (disch := omega) only [↓wm1, wb252_61 hc, w0, w1, w4, w12, w13, w14, w16, rI_wI, rP_wI, rL_wI, rI_wR, rP_wR, is_wI, is_wR, ia_wI, ia_wR, ow_wI, ow_wR, wn_add, wn_mul, wn_cl, wn_le, wn_lt, wn_inj, wn_ne1, wn_1ne, wn_gt1, wn_le1, nb0, nb1, am_kt, am_rt, List.cons_append, List.nil_append, true_and, and_true, not_true_eq_false, not_false_eq_true, imp_f, imp_t, implies_true, Nat.zero_add, if_true, if_false, false_and, and_false]
  refine am_for 14 (fun j ls G' => (∀ i, i < j → am_gL G' 837 i = wl (exv q 0 i)) ∧ Kp (fun a _ => a = 837) G G' ∧ ls = [some (.ref 334), some (.int (wn n)), some (.int (wn k)), some (.int (wn q)), some (.int (wn p)), some (.int (wn j)), none, none, none, none, none, none, none]) ?_ ?_ 14 0 rfl _ _ ⟨fun i hi => by omega, Kp.refl G, rfl⟩
  · rintro j hj _ G1 ⟨f1, k1, rfl⟩ nx
    have s1 := hsh.kp k1
    have c1 : ¬ 14 ≤ j := by omega
    rw [wb252_64 hc]
    by_cases c2 : j = 0
    · subst c2
      simp +decide (disch := omega) only [↓wm1, wb252_71 hc, wb252_82 hc, wb252_87 hc, w0, w1, w4, w12, w13, w14, w16, rI_wI, rP_wI, rL_wI, rI_wR, rP_wR, is_wI, is_wR, ia_wI, ia_wR, ow_wI, ow_wR, wn_add, wn_mul, wn_cl, wn_le, wn_lt, wn_inj, wn_ne1, wn_1ne, wn_gt1, wn_le1, nb0, nb1, am_kt, am_rt, List.cons_append, List.nil_append, true_and, and_true, not_true_eq_false, not_false_eq_true, imp_f, imp_t, implies_true, Nat.zero_add, if_true, if_false, false_and, and_false, c1, fM s1, ow837 s1, wn_l]
      refine nx _ _ ⟨fun i hi => ?_, k1.wL (a := 837) (i := 0) rfl _, rfl⟩
      have e : i = 0 := by omega
      rw [rL_wL, if_pos ⟨rfl, e⟩, e]
      rfl
    · simp +decide (disch := omega) only [↓wm1, wb252_71 hc, wb252_86 hc, wb252_87 hc, w0, w1, w4, w12, w13, w14, w16, rI_wI, rP_wI, rL_wI, rI_wR, rP_wR, is_wI, is_wR, ia_wI, ia_wR, ow_wI, ow_wR, wn_add, wn_mul, wn_cl, wn_le, wn_lt, wn_inj, wn_ne1, wn_1ne, wn_gt1, wn_le1, nb0, nb1, am_kt, am_rt, List.cons_append, List.nil_append, true_and, and_true, not_true_eq_false, not_false_eq_true, imp_f, imp_t, implies_true, Nat.zero_add, if_true, if_false, false_and, and_false, c1, fM s1, c2, ow837 s1, hj, wn_l]
      refine nx _ _ ⟨fun i hi => ?_, k1.wL (by exact rfl) _, rfl⟩
      rw [rL_wL]
      by_cases e : i = j
      · rw [if_pos ⟨rfl, e⟩, e]
        simp only [exv]
        rw [if_neg c2]
      · rw [if_neg (by omega)]; exact f1 i (by omega)
  · rintro _ G1 ⟨f1, k1, rfl⟩
    rw [wb252_64 hc]
    simp +decide (disch := omega) only [↓wm1, wb252_94 hc, w0, w1, w4, w12, w13, w14, w16, rI_wI, rP_wI, rL_wI, rI_wR, rP_wR, is_wI, is_wR, ia_wI, ia_wR, ow_wI, ow_wR, wn_add, wn_mul, wn_cl, wn_le, wn_lt, wn_inj, wn_ne1, wn_1ne, wn_gt1, wn_le1, nb0, nb1, am_kt, am_rt, List.cons_append, List.nil_append, true_and, and_true, not_true_eq_false, not_false_eq_true, imp_f, imp_t, implies_true, Nat.zero_add, if_true, if_false, false_and, and_false, Nat.le_refl]
    refine am_for n (fun e ls G' => (∀ i, i < 14 → am_gL G' 837 i = wl (exv q e i)) ∧ Kp (fun a _ => a = 837) G G' ∧ ls = [some (.ref 334), some (.int (wn n)), some (.int (wn k)), some (.int (wn q)), some (.int (wn p)), some (.int (wn e)), none, none, none, none, none, none, none]) ?_ ?_ n 0 (by omega) _ _ ⟨f1, k1, rfl⟩
    · rintro e he _ G2 ⟨f2, k2, rfl⟩ nx
      have c1 : ¬ n ≤ e := by omega
      rw [wb252_97 hc]
      simp +decide (disch := omega) only [↓wm1, wb252_103 hc, w0, w1, w4, w12, w13, w14, w16, rI_wI, rP_wI, rL_wI, rI_wR, rP_wR, is_wI, is_wR, ia_wI, ia_wR, ow_wI, ow_wR, wn_add, wn_mul, wn_cl, wn_le, wn_lt, wn_inj, wn_ne1, wn_1ne, wn_gt1, wn_le1, nb0, nb1, am_kt, am_rt, List.cons_append, List.nil_append, true_and, and_true, not_true_eq_false, not_false_eq_true, imp_f, imp_t, implies_true, Nat.zero_add, if_true, if_false, false_and, and_false, c1]
      have l13 : wn 13 = lim (14 - 0) := by decide
      rw [l13]
      refine am_for 14 (fun j ls G' => (∀ i, i < 14 → am_gL G' 837 i = wl (if 14 - j ≤ i then exv q (e + 1) i else exv q e i)) ∧ Kp (fun a _ => a = 837) G G' ∧ ls = [some (.ref 334), some (.int (wn n)), some (.int (wn k)), some (.int (wn q)), some (.int (wn p)), some (.int (wn e)), some (.int (lim (14 - j))), none, none, none, none, none, none]) ?_ ?_ 14 0 rfl _ _ ⟨fun i hi => by rw [if_neg (by omega)]; exact f2 i hi, k2, rfl⟩
      · rintro j hj _ G3 ⟨f3, k3, rfl⟩ nx3
        have s3 := hsh.kp k3
        obtain ⟨h, hh⟩ : ∃ h, 14 - j = h + 1 := ⟨13 - j, by omega⟩
        have hh2 : 14 - (j + 1) = h := by omega
        have h14 : h < 14 := by omega
        rw [hh] at f3 ⊢
        rw [hh2] at nx3
        have g0 := f3 h h14
        rw [if_neg (by omega)] at g0
        rw [lim_s, wb252_107 hc]
        by_cases c2 : h = 0
        · subst c2
          simp +decide (disch := omega) only [↓wm1, wb252_112 hc, wb252_151 hc, wb252_152 hc, w0, w1, w4, w12, w13, w14, w16, rI_wI, rP_wI, rL_wI, rI_wR, rP_wR, is_wI, is_wR, ia_wI, ia_wR, ow_wI, ow_wR, wn_add, wn_mul, wn_cl, wn_le, wn_lt, wn_inj, wn_ne1, wn_1ne, wn_gt1, wn_le1, nb0, nb1, am_kt, am_rt, List.cons_append, List.nil_append, true_and, and_true, not_true_eq_false, not_false_eq_true, imp_f, imp_t, implies_true, Nat.zero_add, if_true, if_false, false_and, and_false, Nat.lt_irrefl, fM s3, ow837 s3, g0, e16, wn_l, wl_mul, wl_add, Nat.le_refl, lim_m]
          refine nx3 _ _ ⟨fun i hi => ?_, k3.wL (a := 837) (i := 0) rfl _, rfl⟩
          rw [rL_wL]
          by_cases e1 : i = 0
          · rw [if_pos ⟨rfl, e1⟩, e1, if_pos (by omega)]
            simp only [exv, Nat.lt_irrefl, if_false]
          · rw [if_neg (by omega), if_pos (by omega), f3 i hi, if_pos (by omega)]
        · have c3 : ¬ h ≤ 0 := by omega
          have e5 : wn h - wn 1 = wn (h - 1) := wn_sub (by omega)
          have g1 := f3 (h - 1) (by omega)
          rw [if_neg (by omega)] at g1
          have h15 : h - 1 < 14 := by omega
          simp +decide (disch := omega) only [↓wm1, wb252_112 hc, wb252_136 hc, wb252_152 hc, w0, w1, w4, w12, w13, w14, w16, rI_wI, rP_wI, rL_wI, rI_wR, rP_wR, is_wI, is_wR, ia_wI, ia_wR, ow_wI, ow_wR, wn_add, wn_mul, wn_cl, wn_le, wn_lt, wn_inj, wn_ne1, wn_1ne, wn_gt1, wn_le1, nb0, nb1, am_kt, am_rt, List.cons_append, List.nil_append, true_and, and_true, not_true_eq_false, not_false_eq_true, imp_f, imp_t, implies_true, Nat.zero_add, if_true, if_false, false_and, and_false, Nat.not_lt_zero, fM s3, ow837 s3, h14, h15, g0, g1, e16, e5, wn_l, wl_mul, wl_add, c3, lim_m]
          refine nx3 _ _ ⟨fun i hi => ?_, k3.wL (by exact rfl) _, rfl⟩
          rw [rL_wL]
          by_cases e1 : i = h
          · rw [if_pos ⟨rfl, e1⟩, e1, if_pos (Nat.le_refl h)]
            simp only [exv, if_pos (show 0 < h by omega)]
          · rw [if_neg (by omega), f3 i hi]
            by_cases e2 : h ≤ i
            · rw [if_pos (by omega), if_pos e2]
            · rw [if_neg (by omega), if_neg e2]
      · rintro _ G3 ⟨f3, k3, rfl⟩
        have q0 : mm < wn 0 := by decide
        rw [Nat.sub_self, lim_0, wb252_107 hc]
        simp +decide (disch := omega) only [↓wm1, wb252_160 hc, w0, w1, w4, w12, w13, w14, w16, rI_wI, rP_wI, rL_wI, rI_wR, rP_wR, is_wI, is_wR, ia_wI, ia_wR, ow_wI, ow_wR, wn_add, wn_mul, wn_cl, wn_le, wn_lt, wn_inj, wn_ne1, wn_1ne, wn_gt1, wn_le1, nb0, nb1, am_kt, am_rt, List.cons_append, List.nil_append, true_and, and_true, not_true_eq_false, not_false_eq_true, imp_f, imp_t, implies_true, Nat.zero_add, if_true, if_false, false_and, and_false, q0]
        exact nx _ _ ⟨fun i hi => by rw [f3 i hi, if_pos (by omega)], k3, rfl⟩
    · rintro _ G2 ⟨f2, k2, rfl⟩
      have s2 := hsh.kp k2
      have g2 := f2 k (by omega)
      have k14 : k < 14 := by omega
      have sh := shl4 n hn
      have gp : 0 < Nat.gcd (16 ^ n) (exv q n k) := Nat.gcd_pos_of_pos_left _ (Nat.pow_pos (by decide))
      have gl : Nat.gcd (16 ^ n) (exv q n k) ≤ 16 ^ n := Nat.gcd_le_left _ (Nat.pow_pos (by decide))
      rw [wb252_97 hc]
      simp +decide (disch := omega) only [↓wm1, wb252_166 hc, wb252_171 hc, wb252_173 hc, wb252_177 hc, wb252_183 hc, w0, w1, w4, w12, w13, w14, w16, rI_wI, rP_wI, rL_wI, rI_wR, rP_wR, is_wI, is_wR, ia_wI, ia_wR, ow_wI, ow_wR, wn_add, wn_mul, wn_cl, wn_le, wn_lt, wn_inj, wn_ne1, wn_1ne, wn_gt1, wn_le1, nb0, nb1, am_kt, am_rt, List.cons_append, List.nil_append, true_and, and_true, not_true_eq_false, not_false_eq_true, imp_f, imp_t, implies_true, Nat.zero_add, if_true, if_false, false_and, and_false, Nat.le_refl, wn_l, sh, fM s2, ow837 s2, k14, g2]
      refine ct252_g (exv q n k) (16 ^ n) (exv q n k) _ _ _ _ (Nat.le_refl _) pl (by omega) (fun o9 => ?_)
      generalize hg : Nat.gcd (16 ^ n) (exv q n k) = g at gp gl
      have c2 : ¬ wl g = 0 := by rw [show (0 : Int64) = wl 0 from rfl, wl_inj (by omega) (by omega)]; omega
      have d1 : wl (exv q n k) / wl g = wl (exv q n k / g) := wl_div (by omega) (by omega)
      have d2 : wl (16 ^ n) / wl g = wl (16 ^ n / g) := wl_div (by omega) (by omega)
      have := kk G2 k2
      by_cases c5 : p = 0
      · have e : q_sounds n k q p = wl (exv q n k / g) := by unfold q_sounds; rw [if_pos c5, hg]
        rw [e] at this
        simp +decide (disch := omega) only [↓wm1, wb252_210 hc, wb252_215 hc, wb252_221 hc, wb252_232 hc, w0, w1, w4, w12, w13, w14, w16, rI_wI, rP_wI, rL_wI, rI_wR, rP_wR, is_wI, is_wR, ia_wI, ia_wR, ow_wI, ow_wR, wn_add, wn_mul, wn_cl, wn_le, wn_lt, wn_inj, wn_ne1, wn_1ne, wn_gt1, wn_le1, nb0, nb1, am_kt, am_rt, List.cons_append, List.nil_append, true_and, and_true, not_true_eq_false, not_false_eq_true, imp_f, imp_t, implies_true, Nat.zero_add, if_true, if_false, false_and, and_false, c5, fM s2, ow837 s2, k14, g2, c2, d1]
        exact this
      · have e : q_sounds n k q p = wl (16 ^ n / g) := by unfold q_sounds; rw [if_neg c5, hg]
        rw [e] at this
        simp +decide (disch := omega) only [↓wm1, wb252_210 hc, wb252_227 hc, wb252_232 hc, w0, w1, w4, w12, w13, w14, w16, rI_wI, rP_wI, rL_wI, rI_wR, rP_wR, is_wI, is_wR, ia_wI, ia_wR, ow_wI, ow_wR, wn_add, wn_mul, wn_cl, wn_le, wn_lt, wn_inj, wn_ne1, wn_1ne, wn_gt1, wn_le1, nb0, nb1, am_kt, am_rt, List.cons_append, List.nil_append, true_and, and_true, not_true_eq_false, not_false_eq_true, imp_f, imp_t, implies_true, Nat.zero_add, if_true, if_false, false_and, and_false, c5, c2, d2]
        exact this
theorem rf_sounds (hR : RepR G V) (x1 x2 x3 x4 : Int32) : am_C am_T (d + 12) 252 [.ref 334, .int x1, .int x2, .int x3, .int x4] G (ORl G (rfL V (sp_sounds x1 x2 x3 x4)) (sp_sounds x1 x2 x3 x4)) := by
  have hc := am_C_one am_T (d + 11)
  have hsh := hR.1
  have k0 := k0R G
  have s0 := hsh.kp k0
  have e0 := e0R G
  unfold sp_sounds
  rw [we252]
  rcases vin2_or x1 0 13 (by omega) (by omega) with ⟨n, hl1, hh1, rfl⟩ | hx1
  · have v1 := vin2_t hl1 hh1 (by omega)
    rw [if_pos v1, u_wn (by omega)]
    rcases vin2_or x2 0 13 (by omega) (by omega) with ⟨k, hl2, hh2, rfl⟩ | hx2
    · have v2 := vin2_t hl2 hh2 (by omega)
      rw [if_pos v2, u_wn (by omega)]
      rcases vin2_or x3 0 17 (by omega) (by omega) with ⟨q, hl3, hh3, rfl⟩ | hx3
      · have v3 := vin2_t hl3 hh3 (by omega)
        rw [if_pos v3, u_wn (by omega)]
        rcases vin2_or x4 0 2 (by omega) (by omega) with ⟨p, hl4, hh4, rfl⟩ | hx4
        · have v4 := vin2_t hl4 hh4 (by omega)
          rw [if_pos v4, u_wn (by omega)]
          generalize hP : ORl G _ _ = P
          simp +decide (disch := omega) only [↓wm1, wb252_0 hc, wb252_13 hc, wb252_16 hc, wb252_23 hc, wb252_26 hc, wb252_33 hc, wb252_36 hc, wb252_43 hc, wb252_50 hc, wb252_51 hc, wb252_56 hc, w0, w1, w4, w12, w13, w14, w16, rI_wI, rP_wI, rL_wI, rI_wR, rP_wR, is_wI, is_wR, ia_wI, ia_wR, ow_wI, ow_wR, wn_add, wn_mul, wn_cl, wn_le, wn_lt, wn_inj, wn_ne1, wn_1ne, wn_gt1, wn_le1, nb0, nb1, am_kt, am_rt, List.cons_append, List.nil_append, true_and, and_true, not_true_eq_false, not_false_eq_true, imp_f, imp_t, implies_true, Nat.zero_add, if_true, if_false, false_and, and_false, fM hsh, fM s0, ct153c, v1, v2, v3, v4, b01, ct152n s0 e0]
          refine ct252_m s0 hh1 hh2 (by omega) hh4 (fun G1 k1 => ?_)
          rw [← hP]
          exact ORl_ok hR (k0.trans (k1.mono (fun a i z => by unfold QSR; omega))) (k1.thr (by omega) e0)
        · rw [if_neg (vin2_nf hx4)]
          generalize hP : ORl G _ _ = P
          simp +decide (disch := omega) only [↓wm1, wb252_0 hc, wb252_13 hc, wb252_16 hc, wb252_23 hc, wb252_26 hc, wb252_33 hc, wb252_36 hc, wb252_43 hc, wb252_46 hc, wb252_51 hc, wb252_56 hc, wb252_59 hc, w0, w1, w4, w12, w13, w14, w16, rI_wI, rP_wI, rL_wI, rI_wR, rP_wR, is_wI, is_wR, ia_wI, ia_wR, ow_wI, ow_wR, wn_add, wn_mul, wn_cl, wn_le, wn_lt, wn_inj, wn_ne1, wn_1ne, wn_gt1, wn_le1, nb0, nb1, am_kt, am_rt, List.cons_append, List.nil_append, true_and, and_true, not_true_eq_false, not_false_eq_true, imp_f, imp_t, implies_true, Nat.zero_add, if_true, if_false, false_and, and_false, fM hsh, fM s0, ct153c, v1, v2, v3, vin2_f hx4, b01, Bool.false_eq_true, ct152y (c := 1) (r := 1) (by decide) (by decide) (by decide) s0 e0]
          rw [← hP]; exact ORl_8 hR k0
      · rw [if_neg (vin2_nf hx3)]
        generalize hP : ORl G _ _ = P
        simp +decide (disch := omega) only [↓wm1, wb252_0 hc, wb252_13 hc, wb252_16 hc, wb252_23 hc, wb252_26 hc, wb252_33 hc, wb252_46 hc, wb252_51 hc, wb252_56 hc, wb252_59 hc, w0, w1, w4, w12, w13, w14, w16, rI_wI, rP_wI, rL_wI, rI_wR, rP_wR, is_wI, is_wR, ia_wI, ia_wR, ow_wI, ow_wR, wn_add, wn_mul, wn_cl, wn_le, wn_lt, wn_inj, wn_ne1, wn_1ne, wn_gt1, wn_le1, nb0, nb1, am_kt, am_rt, List.cons_append, List.nil_append, true_and, and_true, not_true_eq_false, not_false_eq_true, imp_f, imp_t, implies_true, Nat.zero_add, if_true, if_false, false_and, and_false, fM hsh, fM s0, ct153c, v1, v2, vin2_f hx3, b01, Bool.false_eq_true, ct152y (c := 1) (r := 1) (by decide) (by decide) (by decide) s0 e0]
        rw [← hP]; exact ORl_8 hR k0
    · rw [if_neg (vin2_nf hx2)]
      generalize hP : ORl G _ _ = P
      simp +decide (disch := omega) only [↓wm1, wb252_0 hc, wb252_13 hc, wb252_16 hc, wb252_23 hc, wb252_46 hc, wb252_51 hc, wb252_56 hc, wb252_59 hc, w0, w1, w4, w12, w13, w14, w16, rI_wI, rP_wI, rL_wI, rI_wR, rP_wR, is_wI, is_wR, ia_wI, ia_wR, ow_wI, ow_wR, wn_add, wn_mul, wn_cl, wn_le, wn_lt, wn_inj, wn_ne1, wn_1ne, wn_gt1, wn_le1, nb0, nb1, am_kt, am_rt, List.cons_append, List.nil_append, true_and, and_true, not_true_eq_false, not_false_eq_true, imp_f, imp_t, implies_true, Nat.zero_add, if_true, if_false, false_and, and_false, fM hsh, fM s0, ct153c, v1, vin2_f hx2, b01, Bool.false_eq_true, ct152y (c := 1) (r := 1) (by decide) (by decide) (by decide) s0 e0]
      rw [← hP]; exact ORl_8 hR k0
  · rw [if_neg (vin2_nf hx1)]
    generalize hP : ORl G _ _ = P
    simp +decide (disch := omega) only [↓wm1, wb252_0 hc, wb252_13 hc, wb252_46 hc, wb252_51 hc, wb252_56 hc, wb252_59 hc, w0, w1, w4, w12, w13, w14, w16, rI_wI, rP_wI, rL_wI, rI_wR, rP_wR, is_wI, is_wR, ia_wI, ia_wR, ow_wI, ow_wR, wn_add, wn_mul, wn_cl, wn_le, wn_lt, wn_inj, wn_ne1, wn_1ne, wn_gt1, wn_le1, nb0, nb1, am_kt, am_rt, List.cons_append, List.nil_append, true_and, and_true, not_true_eq_false, not_false_eq_true, imp_f, imp_t, implies_true, Nat.zero_add, if_true, if_false, false_and, and_false, fM hsh, fM s0, ct153c, vin2_f hx1, b01, Bool.false_eq_true, ct152y (c := 1) (r := 1) (by decide) (by decide) (by decide) s0 e0]
    rw [← hP]; exact ORl_8 hR k0
end
