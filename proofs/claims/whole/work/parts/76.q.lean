/-! Questions, both sides: ringers. -/
def gn (a b v w : Nat) : Int32 := if a = 0 then (if b = 0 then mm else wn w) else if b = 0 then wn v else wn 0
noncomputable def bes (a b v w : Nat) : Bool := @decide (¬ gn a b v w < gn (1 - a) b v w) (Classical.propDecidable _)
theorem bes_t {a b v w : Nat} (h : ¬ gn a b v w < gn (1 - a) b v w) : bes a b v w = true := @decide_eq_true _ (Classical.propDecidable _) h
theorem bes_f {a b v w : Nat} (h : gn a b v w < gn (1 - a) b v w) : bes a b v w = false := @decide_eq_false _ (Classical.propDecidable _) (fun z => z h)
noncomputable def rgs (v w a b : Nat) (m : Nat × Int32 × Int32) : Nat × Int32 × Int32 := if bes a b v w && bes b a v w then (m.1 + 1, if m.1 = 0 then wn (10 * a + b) else m.2.1, if m.1 = 0 then gn a b v w + gn b a v w else m.2.2) else m
noncomputable def rg (v w : Nat) : Nat → Nat × Int32 × Int32
  | 0 => (0, mm, wn 0)
  | j + 1 => rgs v w (j / 2) (j % 2) (rg v w j)
theorem rg_le (v w : Nat) : ∀ j, (rg v w j).1 ≤ j := by
  intro j
  induction j with
  | zero => exact Nat.le_refl _
  | succ j ih =>
    simp only [rg, rgs]
    split
    · show (rg v w j).1 + 1 ≤ j + 1; omega
    · omega
theorem rg_s {v w a b : Nat} (hb : b < 2) : rg v w (2 * a + b + 1) = rgs v w a b (rg v w (2 * a + b)) := by
  simp only [rg]
  rw [show (2 * a + b) / 2 = a by omega, show (2 * a + b) % 2 = b by omega]
noncomputable def q_ring (v w x : Nat) : Int32 := if x = 0 then wn (rg v w 4).1 else if x = 1 then (rg v w 4).2.1 else (rg v w 4).2.2
section
variable {G : am_G} {d a b v w : Nat} {post : am_O → am_G → Prop}
theorem ct146 (ha : a < 2) (hb : b < 2) : am_C am_T (d + 1) 146 [.int (wn a), .int (wn b), .int (wn v), .int (wn w)] G post ↔ post (.inl (some (.int (gn a b v w)))) G := by
  have hc := am_C_one am_T d
  rw [we146]
  unfold gn
  by_cases c1 : a = 0
  · by_cases c2 : b = 0
    · simp +decide (disch := omega) only [↓wm1, wb146_0 hc, wb146_4 hc, wb146_8 hc, wb146_12 hc, wb146_13 hc, wb146_14 hc, wb146_18 hc, wb146_22 hc, wb146_23 hc, w0, w1, rI_wI, rP_wI, rL_wI, rI_wR, rP_wR, is_wI, is_wR, ia_wI, ia_wR, ow_wI, ow_wR, wn_add, wn_mul, wn_cl, wn_le, wn_lt, wn_inj, wn_ne1, wn_1ne, wn_gt1, wn_le1, nb0, nb1, am_kt, am_rt, List.cons_append, List.nil_append, true_and, and_true, not_true_eq_false, not_false_eq_true, imp_f, imp_t, implies_true, Nat.zero_add, if_true, if_false, false_and, and_false, c1, c2]
    · simp +decide (disch := omega) only [↓wm1, wb146_0 hc, wb146_4 hc, wb146_8 hc, wb146_12 hc, wb146_13 hc, wb146_14 hc, wb146_18 hc, wb146_22 hc, wb146_23 hc, w0, w1, rI_wI, rP_wI, rL_wI, rI_wR, rP_wR, is_wI, is_wR, ia_wI, ia_wR, ow_wI, ow_wR, wn_add, wn_mul, wn_cl, wn_le, wn_lt, wn_inj, wn_ne1, wn_1ne, wn_gt1, wn_le1, nb0, nb1, am_kt, am_rt, List.cons_append, List.nil_append, true_and, and_true, not_true_eq_false, not_false_eq_true, imp_f, imp_t, implies_true, Nat.zero_add, if_true, if_false, false_and, and_false, c1, c2]
  · by_cases c2 : b = 0
    · simp +decide (disch := omega) only [↓wm1, wb146_0 hc, wb146_4 hc, wb146_8 hc, wb146_12 hc, wb146_13 hc, wb146_14 hc, wb146_18 hc, wb146_22 hc, wb146_23 hc, w0, w1, rI_wI, rP_wI, rL_wI, rI_wR, rP_wR, is_wI, is_wR, ia_wI, ia_wR, ow_wI, ow_wR, wn_add, wn_mul, wn_cl, wn_le, wn_lt, wn_inj, wn_ne1, wn_1ne, wn_gt1, wn_le1, nb0, nb1, am_kt, am_rt, List.cons_append, List.nil_append, true_and, and_true, not_true_eq_false, not_false_eq_true, imp_f, imp_t, implies_true, Nat.zero_add, if_true, if_false, false_and, and_false, c1, c2]
    · simp +decide (disch := omega) only [↓wm1, wb146_0 hc, wb146_4 hc, wb146_8 hc, wb146_12 hc, wb146_13 hc, wb146_14 hc, wb146_18 hc, wb146_22 hc, wb146_23 hc, w0, w1, rI_wI, rP_wI, rL_wI, rI_wR, rP_wR, is_wI, is_wR, ia_wI, ia_wR, ow_wI, ow_wR, wn_add, wn_mul, wn_cl, wn_le, wn_lt, wn_inj, wn_ne1, wn_1ne, wn_gt1, wn_le1, nb0, nb1, am_kt, am_rt, List.cons_append, List.nil_append, true_and, and_true, not_true_eq_false, not_false_eq_true, imp_f, imp_t, implies_true, Nat.zero_add, if_true, if_false, false_and, and_false, c1, c2]
theorem ct249 (ha : a < 2) (hb : b < 2) : am_C am_T (d + 1) 249 [.int (wn a), .int (wn b), .int (wn v), .int (wn w)] G post ↔ post (.inl (some (.int (gn a b v w)))) G := by
  have hc := am_C_one am_T d
  rw [we249]
  unfold gn
  by_cases c1 : a = 0
  · by_cases c2 : b = 0
    · simp +decide (disch := omega) only [↓wm1, wb249_0 hc, wb249_4 hc, wb249_8 hc, wb249_12 hc, wb249_16 hc, wb249_20 hc, wb249_24 hc, wb249_25 hc, w0, w1, rI_wI, rP_wI, rL_wI, rI_wR, rP_wR, is_wI, is_wR, ia_wI, ia_wR, ow_wI, ow_wR, wn_add, wn_mul, wn_cl, wn_le, wn_lt, wn_inj, wn_ne1, wn_1ne, wn_gt1, wn_le1, nb0, nb1, am_kt, am_rt, List.cons_append, List.nil_append, true_and, and_true, not_true_eq_false, not_false_eq_true, imp_f, imp_t, implies_true, Nat.zero_add, if_true, if_false, false_and, and_false, c1, c2]
    · simp +decide (disch := omega) only [↓wm1, wb249_0 hc, wb249_4 hc, wb249_8 hc, wb249_12 hc, wb249_16 hc, wb249_20 hc, wb249_24 hc, wb249_25 hc, w0, w1, rI_wI, rP_wI, rL_wI, rI_wR, rP_wR, is_wI, is_wR, ia_wI, ia_wR, ow_wI, ow_wR, wn_add, wn_mul, wn_cl, wn_le, wn_lt, wn_inj, wn_ne1, wn_1ne, wn_gt1, wn_le1, nb0, nb1, am_kt, am_rt, List.cons_append, List.nil_append, true_and, and_true, not_true_eq_false, not_false_eq_true, imp_f, imp_t, implies_true, Nat.zero_add, if_true, if_false, false_and, and_false, c1, c2]
  · by_cases c2 : b = 0
    · simp +decide (disch := omega) only [↓wm1, wb249_0 hc, wb249_4 hc, wb249_8 hc, wb249_12 hc, wb249_16 hc, wb249_20 hc, wb249_24 hc, wb249_25 hc, w0, w1, rI_wI, rP_wI, rL_wI, rI_wR, rP_wR, is_wI, is_wR, ia_wI, ia_wR, ow_wI, ow_wR, wn_add, wn_mul, wn_cl, wn_le, wn_lt, wn_inj, wn_ne1, wn_1ne, wn_gt1, wn_le1, nb0, nb1, am_kt, am_rt, List.cons_append, List.nil_append, true_and, and_true, not_true_eq_false, not_false_eq_true, imp_f, imp_t, implies_true, Nat.zero_add, if_true, if_false, false_and, and_false, c1, c2]
    · simp +decide (disch := omega) only [↓wm1, wb249_0 hc, wb249_4 hc, wb249_8 hc, wb249_12 hc, wb249_16 hc, wb249_20 hc, wb249_24 hc, wb249_25 hc, w0, w1, rI_wI, rP_wI, rL_wI, rI_wR, rP_wR, is_wI, is_wR, ia_wI, ia_wR, ow_wI, ow_wR, wn_add, wn_mul, wn_cl, wn_le, wn_lt, wn_inj, wn_ne1, wn_1ne, wn_gt1, wn_le1, nb0, nb1, am_kt, am_rt, List.cons_append, List.nil_append, true_and, and_true, not_true_eq_false, not_false_eq_true, imp_f, imp_t, implies_true, Nat.zero_add, if_true, if_false, false_and, and_false, c1, c2]
theorem ct250 (ha : a < 2) (hb : b < 2) : am_C am_T (d + 2) 250 [.int (wn a), .int (wn b), .int (wn v), .int (wn w)] G post ↔ post (.inl (some (.int (wn (b01 (bes a b v w)))))) G := by
  have hc := am_C_one am_T (d + 1)
  have e1 : wn 1 - wn a = wn (1 - a) := wn_sub (by omega)
  rw [we250]
  by_cases c : gn a b v w < gn (1 - a) b v w
  · simp +decide (disch := omega) only [↓wm1, wb250_0 hc, wb250_7 hc, wb250_16 hc, wb250_19 hc, wb250_23 hc, wb250_24 hc, w0, w1, rI_wI, rP_wI, rL_wI, rI_wR, rP_wR, is_wI, is_wR, ia_wI, ia_wR, ow_wI, ow_wR, wn_add, wn_mul, wn_cl, wn_le, wn_lt, wn_inj, wn_ne1, wn_1ne, wn_gt1, wn_le1, nb0, nb1, am_kt, am_rt, List.cons_append, List.nil_append, true_and, and_true, not_true_eq_false, not_false_eq_true, imp_f, imp_t, implies_true, Nat.zero_add, if_true, if_false, false_and, and_false, ct249 ha hb, ct249 (show 1 - a < 2 by omega) hb, e1, c, bes_f c, b01, Bool.false_eq_true]
  · simp +decide (disch := omega) only [↓wm1, wb250_0 hc, wb250_7 hc, wb250_16 hc, wb250_19 hc, wb250_23 hc, wb250_24 hc, w0, w1, rI_wI, rP_wI, rL_wI, rI_wR, rP_wR, is_wI, is_wR, ia_wI, ia_wR, ow_wI, ow_wR, wn_add, wn_mul, wn_cl, wn_le, wn_lt, wn_inj, wn_ne1, wn_1ne, wn_gt1, wn_le1, nb0, nb1, am_kt, am_rt, List.cons_append, List.nil_append, true_and, and_true, not_true_eq_false, not_false_eq_true, imp_f, imp_t, implies_true, Nat.zero_add, if_true, if_false, false_and, and_false, ct249 ha hb, ct249 (show 1 - a < 2 by omega) hb, e1, c, bes_t c, b01]
theorem ct147 (ha : a < 2) (hb : b < 2) : am_C am_T (d + 2) 147 [.int (wn a), .int (wn b), .int (wn v), .int (wn w)] G post ↔ post (.inl (some (.int (wn (b01 (bes a b v w && bes b a v w)))))) G := by
  have hc := am_C_one am_T (d + 1)
  have e1 : wn 1 - wn a = wn (1 - a) := wn_sub (by omega)
  have e2 : wn 1 - wn b = wn (1 - b) := wn_sub (by omega)
  rw [we147]
  by_cases c : gn a b v w < gn (1 - a) b v w
  · simp +decide (disch := omega) only [↓wm1, wb147_0 hc, wb147_7 hc, wb147_16 hc, wb147_19 hc, wb147_26 hc, wb147_35 hc, wb147_38 hc, wb147_42 hc, wb147_43 hc, w0, w1, rI_wI, rP_wI, rL_wI, rI_wR, rP_wR, is_wI, is_wR, ia_wI, ia_wR, ow_wI, ow_wR, wn_add, wn_mul, wn_cl, wn_le, wn_lt, wn_inj, wn_ne1, wn_1ne, wn_gt1, wn_le1, nb0, nb1, am_kt, am_rt, List.cons_append, List.nil_append, true_and, and_true, not_true_eq_false, not_false_eq_true, imp_f, imp_t, implies_true, Nat.zero_add, if_true, if_false, false_and, and_false, ct146 ha hb, ct146 (show 1 - a < 2 by omega) hb, e1, c, bes_f c, Bool.false_and, b01, Bool.false_eq_true]
  · by_cases c2 : gn b a v w < gn (1 - b) a v w
    · simp +decide (disch := omega) only [↓wm1, wb147_0 hc, wb147_7 hc, wb147_16 hc, wb147_19 hc, wb147_26 hc, wb147_35 hc, wb147_38 hc, wb147_42 hc, wb147_43 hc, w0, w1, rI_wI, rP_wI, rL_wI, rI_wR, rP_wR, is_wI, is_wR, ia_wI, ia_wR, ow_wI, ow_wR, wn_add, wn_mul, wn_cl, wn_le, wn_lt, wn_inj, wn_ne1, wn_1ne, wn_gt1, wn_le1, nb0, nb1, am_kt, am_rt, List.cons_append, List.nil_append, true_and, and_true, not_true_eq_false, not_false_eq_true, imp_f, imp_t, implies_true, Nat.zero_add, if_true, if_false, false_and, and_false, ct146 ha hb, ct146 hb ha, ct146 (show 1 - a < 2 by omega) hb, ct146 (show 1 - b < 2 by omega) ha, e1, e2, c, c2, bes_f c2, Bool.and_false, b01, Bool.false_eq_true]
    · simp +decide (disch := omega) only [↓wm1, wb147_0 hc, wb147_7 hc, wb147_16 hc, wb147_19 hc, wb147_26 hc, wb147_35 hc, wb147_38 hc, wb147_42 hc, wb147_43 hc, w0, w1, rI_wI, rP_wI, rL_wI, rI_wR, rP_wR, is_wI, is_wR, ia_wI, ia_wR, ow_wI, ow_wR, wn_add, wn_mul, wn_cl, wn_le, wn_lt, wn_inj, wn_ne1, wn_1ne, wn_gt1, wn_le1, nb0, nb1, am_kt, am_rt, List.cons_append, List.nil_append, true_and, and_true, not_true_eq_false, not_false_eq_true, imp_f, imp_t, implies_true, Nat.zero_add, if_true, if_false, false_and, and_false, ct146 ha hb, ct146 hb ha, ct146 (show 1 - a < 2 by omega) hb, ct146 (show 1 - b < 2 by omega) ha, e1, e2, c, c2, bes_t c, bes_t c2, Bool.and_self, b01]
end
section
variable {G : am_G} {d : Nat} {V : Vt}
noncomputable def sp_ringers (V : Vt) (x1 x2 x3 : Int32) : Res := if vin2 x1 0 (100) = true then if vin2 x2 0 (100) = true then if vin2 x3 0 (3) = true then .inl (q_ring (u x1) (u x2) (u x3)) else .inr 1 else .inr 1 else .inr 1
theorem cl_ringers (hR : RepC G V) (hB : am_rm G 1 6) (x1 x2 x3 : Int32) : am_C am_T (d + 12) 127 [.ref 0, .int x1, .int x2, .int x3] G (OC G (rfV V (sp_ringers V x1 x2 x3)) (sp_ringers V x1 x2 x3)) := by
  have hc := am_C_one am_T (d + 11)
  have hsh := hR.1
  have hv := hR.2.1
  obtain ⟨q, l, hT, -, -⟩ := hR.2.2.2.1
  have hr := hR.2.2.2.2.1.1
  have vd := hv.2.2.2.1
  have bB := vd.1
  have bH := vd.2.1
  have bD := vd.2.2.1
  have hs9 := hv.2.2.2.2.2.1
  have hvs := hs9.1
  have hg := hvs.g6 bB
  have ht := hvs.t6 bB
  have hm := hvs.2.2.2.2.2.1
  have h9 := hs9.2
  have p6 : 2 ^ dB (vδ V) ≤ 64 := Nat.pow_le_pow_right (n := 2) (by decide) bB
  have e6 := bs1 (dB (vδ V)) (by omega)
  unfold sp_ringers
  rw [we127]
  rcases vin2_or x1 0 (100) (by omega) (by omega) with ⟨b1, hl1, hh1, rfl⟩ | hx1
  · rw [if_pos (vin2_t hl1 hh1 (by omega))]
    have na1 : ¬ b1 < 0 := by omega
    have nb1 : ¬ 100 ≤ b1 := by omega
    have nc1 : ¬ 99 < b1 := by omega
    rcases vin2_or x2 0 (100) (by omega) (by omega) with ⟨b2, hl2, hh2, rfl⟩ | hx2
    · rw [if_pos (vin2_t hl2 hh2 (by omega))]
      have na2 : ¬ b2 < 0 := by omega
      have nb2 : ¬ 100 ≤ b2 := by omega
      have nc2 : ¬ 99 < b2 := by omega
      rcases vin2_or x3 0 (3) (by omega) (by omega) with ⟨b3, hl3, hh3, rfl⟩ | hx3
      · rw [if_pos (vin2_t hl3 hh3 (by omega))]
        have na3 : ¬ b3 < 0 := by omega
        have nb3 : ¬ 3 ≤ b3 := by omega
        have nc3 : ¬ 2 < b3 := by omega
        simp only [u_wn (show b1 < 2147483648 by omega), u_wn (show b2 < 2147483648 by omega), u_wn (show b3 < 2147483648 by omega)]
        generalize hP : OC G (rfV V (.inl (q_ring b1 b2 b3))) (.inl (q_ring b1 b2 b3)) = P
        simp +decide (disch := omega) only [↓wm1, wb127_0 hc, wb127_5 hc, wb127_11 hc, wb127_15 hc, wb127_16 hc, wb127_19 hc, wb127_24 hc, wb127_30 hc, wb127_34 hc, wb127_35 hc, wb127_38 hc, wb127_43 hc, wb127_48 hc, wb127_52 hc, wb127_53 hc, wb127_56 hc, wb127_74 hc, wb127_83 hc, wb127_92 hc, wb127_95 hc, wb127_98 hc, wb127_103 hc, wb127_122 hc, wb127_131 hc, wb127_134 hc, wb127_137 hc, wb127_143 hc, wb127_149 hc, wb127_153 hc, wb127_158 hc, wb127_163 hc, wb127_168 hc, wb127_170 hc, w0, w1, w2, w10, w99, rI_wI, rP_wI, rL_wI, rI_wR, rP_wR, is_wI, is_wR, ia_wI, ia_wR, ow_wI, ow_wR, wn_add, wn_mul, wn_cl, wn_le, wn_lt, wn_inj, wn_ne1, wn_1ne, wn_gt1, wn_le1, nb0, nb1, am_kt, am_rt, List.cons_append, List.nil_append, true_and, and_true, not_true_eq_false, not_false_eq_true, imp_f, imp_t, implies_true, Nat.zero_add, if_true, if_false, false_and, and_false, cn127, fC hsh, fW2 hsh hT, fD hsh hT.2.2.1, e6, na1, nb1, hh1, nc1, ct139y (v := 1) (by decide) (by decide), na2, nb2, hh2, nc2, na3, nb3, hh3, nc3]
        refine am_for 2 (fun a ls G2 => G = G2 ∧ ∃ o0, ls = [o0, some (.int (wn b1)), some (.int (wn b2)), some (.int (wn b3)), some (.int (wn (rg b1 b2 (2 * a)).1)), some (.int (rg b1 b2 (2 * a)).2.1), some (.int (rg b1 b2 (2 * a)).2.2), some (.int (wn a)), none]) ?_ ?_ 2 0 rfl _ _ ⟨rfl, _, rfl⟩
        · rintro a ha _ _ ⟨rfl, o0, rfl⟩ nx
          have c1 : ¬ 1 < a := by omega
          rw [wb127_68 hc]
          simp +decide (disch := omega) only [↓wm1, wb127_74 hc, w0, w1, w2, w10, w99, rI_wI, rP_wI, rL_wI, rI_wR, rP_wR, is_wI, is_wR, ia_wI, ia_wR, ow_wI, ow_wR, wn_add, wn_mul, wn_cl, wn_le, wn_lt, wn_inj, wn_ne1, wn_1ne, wn_gt1, wn_le1, nb0, nb1, am_kt, am_rt, List.cons_append, List.nil_append, true_and, and_true, not_true_eq_false, not_false_eq_true, imp_f, imp_t, implies_true, Nat.zero_add, if_true, if_false, false_and, and_false, cn127, c1]
          refine am_for 2 (fun b ls G2 => G = G2 ∧ ∃ o0, ls = [o0, some (.int (wn b1)), some (.int (wn b2)), some (.int (wn b3)), some (.int (wn (rg b1 b2 (2 * a + b)).1)), some (.int (rg b1 b2 (2 * a + b)).2.1), some (.int (rg b1 b2 (2 * a + b)).2.2), some (.int (wn a)), some (.int (wn b))]) ?_ ?_ 2 0 rfl _ _ ⟨rfl, _, rfl⟩
          · rintro b hb _ _ ⟨rfl, o0, rfl⟩ nx2
            have c2 : ¬ 1 < b := by omega
            have rl := rg_le b1 b2 (2 * a + b)
            have rs := rg_s (v := b1) (w := b2) (a := a) hb
            rw [wb127_77 hc]
            cases hq : (bes a b b1 b2 && bes b a b1 b2) with
            | false =>
              simp +decide (disch := omega) only [↓wm1, wb127_83 hc, wb127_92 hc, wb127_95 hc, wb127_137 hc, w0, w1, w2, w10, w99, rI_wI, rP_wI, rL_wI, rI_wR, rP_wR, is_wI, is_wR, ia_wI, ia_wR, ow_wI, ow_wR, wn_add, wn_mul, wn_cl, wn_le, wn_lt, wn_inj, wn_ne1, wn_1ne, wn_gt1, wn_le1, nb0, nb1, am_kt, am_rt, List.cons_append, List.nil_append, true_and, and_true, not_true_eq_false, not_false_eq_true, imp_f, imp_t, implies_true, Nat.zero_add, if_true, if_false, false_and, and_false, cn127, c2, ct147 ha hb, hq, b01, Bool.false_eq_true]
              refine nx2 _ _ ⟨rfl, none, ?_⟩
              rw [← Nat.add_assoc, rs]; simp only [rgs, hq, Bool.false_eq_true, if_false]
            | true =>
              by_cases c3 : (rg b1 b2 (2 * a + b)).1 = 0
              · simp +decide (disch := omega) only [↓wm1, wb127_83 hc, wb127_92 hc, wb127_98 hc, wb127_103 hc, wb127_122 hc, wb127_131 hc, wb127_134 hc, wb127_137 hc, w0, w1, w2, w10, w99, rI_wI, rP_wI, rL_wI, rI_wR, rP_wR, is_wI, is_wR, ia_wI, ia_wR, ow_wI, ow_wR, wn_add, wn_mul, wn_cl, wn_le, wn_lt, wn_inj, wn_ne1, wn_1ne, wn_gt1, wn_le1, nb0, nb1, am_kt, am_rt, List.cons_append, List.nil_append, true_and, and_true, not_true_eq_false, not_false_eq_true, imp_f, imp_t, implies_true, Nat.zero_add, if_true, if_false, false_and, and_false, cn127, c2, ct147 ha hb, ct146 ha hb, ct146 hb ha, hq, b01, c3]
                refine nx2 _ _ ⟨rfl, none, ?_⟩
                rw [← Nat.add_assoc, rs]; simp only [rgs, hq, if_true, c3]
              · simp +decide (disch := omega) only [↓wm1, wb127_83 hc, wb127_92 hc, wb127_98 hc, wb127_134 hc, wb127_137 hc, w0, w1, w2, w10, w99, rI_wI, rP_wI, rL_wI, rI_wR, rP_wR, is_wI, is_wR, ia_wI, ia_wR, ow_wI, ow_wR, wn_add, wn_mul, wn_cl, wn_le, wn_lt, wn_inj, wn_ne1, wn_1ne, wn_gt1, wn_le1, nb0, nb1, am_kt, am_rt, List.cons_append, List.nil_append, true_and, and_true, not_true_eq_false, not_false_eq_true, imp_f, imp_t, implies_true, Nat.zero_add, if_true, if_false, false_and, and_false, cn127, c2, ct147 ha hb, hq, b01, c3]
                refine nx2 _ _ ⟨rfl, none, ?_⟩
                rw [← Nat.add_assoc, rs]; simp only [rgs, hq, if_true, c3, if_false]
          · rintro _ _ ⟨rfl, o0, rfl⟩
            rw [wb127_77 hc]
            simp +decide (disch := omega) only [↓wm1, wb127_143 hc, w0, w1, w2, w10, w99, rI_wI, rP_wI, rL_wI, rI_wR, rP_wR, is_wI, is_wR, ia_wI, ia_wR, ow_wI, ow_wR, wn_add, wn_mul, wn_cl, wn_le, wn_lt, wn_inj, wn_ne1, wn_1ne, wn_gt1, wn_le1, nb0, nb1, am_kt, am_rt, List.cons_append, List.nil_append, true_and, and_true, not_true_eq_false, not_false_eq_true, imp_f, imp_t, implies_true, Nat.zero_add, if_true, if_false, false_and, and_false, cn127, Nat.le_refl]
            exact nx _ _ ⟨rfl, none, rfl⟩
        · rintro _ _ ⟨rfl, o0, rfl⟩
          unfold q_ring at hP
          rw [wb127_68 hc]
          by_cases z0 : b3 = 0
          · rw [if_pos z0] at hP
            simp +decide (disch := omega) only [↓wm1, wb127_149 hc, wb127_153 hc, wb127_170 hc, w0, w1, w2, w10, w99, rI_wI, rP_wI, rL_wI, rI_wR, rP_wR, is_wI, is_wR, ia_wI, ia_wR, ow_wI, ow_wR, wn_add, wn_mul, wn_cl, wn_le, wn_lt, wn_inj, wn_ne1, wn_1ne, wn_gt1, wn_le1, nb0, nb1, am_kt, am_rt, List.cons_append, List.nil_append, true_and, and_true, not_true_eq_false, not_false_eq_true, imp_f, imp_t, implies_true, Nat.zero_add, if_true, if_false, false_and, and_false, cn127, Nat.le_refl, z0]
            rw [← hP]; exact OC_ok hR (Kp.refl _)
          · rw [if_neg z0] at hP
            by_cases z1 : b3 = 1
            · rw [if_pos z1] at hP
              simp +decide (disch := omega) only [↓wm1, wb127_149 hc, wb127_158 hc, wb127_163 hc, wb127_170 hc, w0, w1, w2, w10, w99, rI_wI, rP_wI, rL_wI, rI_wR, rP_wR, is_wI, is_wR, ia_wI, ia_wR, ow_wI, ow_wR, wn_add, wn_mul, wn_cl, wn_le, wn_lt, wn_inj, wn_ne1, wn_1ne, wn_gt1, wn_le1, nb0, nb1, am_kt, am_rt, List.cons_append, List.nil_append, true_and, and_true, not_true_eq_false, not_false_eq_true, imp_f, imp_t, implies_true, Nat.zero_add, if_true, if_false, false_and, and_false, cn127, Nat.le_refl, z0, z1]
              rw [← hP]; exact OC_ok hR (Kp.refl _)
            · rw [if_neg z1] at hP
              simp +decide (disch := omega) only [↓wm1, wb127_149 hc, wb127_158 hc, wb127_168 hc, wb127_170 hc, w0, w1, w2, w10, w99, rI_wI, rP_wI, rL_wI, rI_wR, rP_wR, is_wI, is_wR, ia_wI, ia_wR, ow_wI, ow_wR, wn_add, wn_mul, wn_cl, wn_le, wn_lt, wn_inj, wn_ne1, wn_1ne, wn_gt1, wn_le1, nb0, nb1, am_kt, am_rt, List.cons_append, List.nil_append, true_and, and_true, not_true_eq_false, not_false_eq_true, imp_f, imp_t, implies_true, Nat.zero_add, if_true, if_false, false_and, and_false, cn127, Nat.le_refl, z0, z1]
              rw [← hP]; exact OC_ok hR (Kp.refl _)
      · rw [if_neg (vin2_nf hx3)]
        generalize hP : OC G (rfV V (.inr 1)) (.inr 1) = P
        by_cases hxa : x3 < wn 0
        · simp +decide (disch := omega) only [↓wm1, wb127_0 hc, wb127_5 hc, wb127_11 hc, wb127_15 hc, wb127_16 hc, wb127_19 hc, wb127_24 hc, wb127_30 hc, wb127_34 hc, wb127_35 hc, wb127_38 hc, wb127_43 hc, wb127_48 hc, wb127_52 hc, wb127_53 hc, wb127_56 hc, wb127_74 hc, wb127_83 hc, wb127_92 hc, wb127_95 hc, wb127_98 hc, wb127_103 hc, wb127_122 hc, wb127_131 hc, wb127_134 hc, wb127_137 hc, wb127_143 hc, wb127_149 hc, wb127_153 hc, wb127_158 hc, wb127_163 hc, wb127_168 hc, wb127_170 hc, w0, w1, w2, w10, w99, rI_wI, rP_wI, rL_wI, rI_wR, rP_wR, is_wI, is_wR, ia_wI, ia_wR, ow_wI, ow_wR, wn_add, wn_mul, wn_cl, wn_le, wn_lt, wn_inj, wn_ne1, wn_1ne, wn_gt1, wn_le1, nb0, nb1, am_kt, am_rt, List.cons_append, List.nil_append, true_and, and_true, not_true_eq_false, not_false_eq_true, imp_f, imp_t, implies_true, Nat.zero_add, if_true, if_false, false_and, and_false, cn127, fC hsh, fW2 hsh hT, fD hsh hT.2.2.1, e6, na1, nb1, hh1, nc1, ct139y (v := 1) (by decide) (by decide), na2, nb2, hh2, nc2, hxa, ct139n hsh hB]
          rw [← hP]; exact OC_8 hR hB
        · have hxb : ¬ x3 < wn (3) := by rcases hx3 with z | z; exact absurd z hxa; exact z
          have hxc : wn (3) ≤ x3 := Int32.not_lt.mp hxb
          have hxd : wn 2 < x3 := out3 (by decide) hxb
          simp +decide (disch := omega) only [↓wm1, wb127_0 hc, wb127_5 hc, wb127_11 hc, wb127_15 hc, wb127_16 hc, wb127_19 hc, wb127_24 hc, wb127_30 hc, wb127_34 hc, wb127_35 hc, wb127_38 hc, wb127_43 hc, wb127_48 hc, wb127_52 hc, wb127_53 hc, wb127_56 hc, wb127_74 hc, wb127_83 hc, wb127_92 hc, wb127_95 hc, wb127_98 hc, wb127_103 hc, wb127_122 hc, wb127_131 hc, wb127_134 hc, wb127_137 hc, wb127_143 hc, wb127_149 hc, wb127_153 hc, wb127_158 hc, wb127_163 hc, wb127_168 hc, wb127_170 hc, w0, w1, w2, w10, w99, rI_wI, rP_wI, rL_wI, rI_wR, rP_wR, is_wI, is_wR, ia_wI, ia_wR, ow_wI, ow_wR, wn_add, wn_mul, wn_cl, wn_le, wn_lt, wn_inj, wn_ne1, wn_1ne, wn_gt1, wn_le1, nb0, nb1, am_kt, am_rt, List.cons_append, List.nil_append, true_and, and_true, not_true_eq_false, not_false_eq_true, imp_f, imp_t, implies_true, Nat.zero_add, if_true, if_false, false_and, and_false, cn127, fC hsh, fW2 hsh hT, fD hsh hT.2.2.1, e6, na1, nb1, hh1, nc1, ct139y (v := 1) (by decide) (by decide), na2, nb2, hh2, nc2, hxa, hxb, hxc, hxd, ct139n hsh hB]
          rw [← hP]; exact OC_8 hR hB
    · rw [if_neg (vin2_nf hx2)]
      generalize hP : OC G (rfV V (.inr 1)) (.inr 1) = P
      by_cases hxa : x2 < wn 0
      · simp +decide (disch := omega) only [↓wm1, wb127_0 hc, wb127_5 hc, wb127_11 hc, wb127_15 hc, wb127_16 hc, wb127_19 hc, wb127_24 hc, wb127_30 hc, wb127_34 hc, wb127_35 hc, wb127_38 hc, wb127_43 hc, wb127_48 hc, wb127_52 hc, wb127_53 hc, wb127_56 hc, wb127_74 hc, wb127_83 hc, wb127_92 hc, wb127_95 hc, wb127_98 hc, wb127_103 hc, wb127_122 hc, wb127_131 hc, wb127_134 hc, wb127_137 hc, wb127_143 hc, wb127_149 hc, wb127_153 hc, wb127_158 hc, wb127_163 hc, wb127_168 hc, wb127_170 hc, w0, w1, w2, w10, w99, rI_wI, rP_wI, rL_wI, rI_wR, rP_wR, is_wI, is_wR, ia_wI, ia_wR, ow_wI, ow_wR, wn_add, wn_mul, wn_cl, wn_le, wn_lt, wn_inj, wn_ne1, wn_1ne, wn_gt1, wn_le1, nb0, nb1, am_kt, am_rt, List.cons_append, List.nil_append, true_and, and_true, not_true_eq_false, not_false_eq_true, imp_f, imp_t, implies_true, Nat.zero_add, if_true, if_false, false_and, and_false, cn127, fC hsh, fW2 hsh hT, fD hsh hT.2.2.1, e6, na1, nb1, hh1, nc1, ct139y (v := 1) (by decide) (by decide), hxa, ct139n hsh hB]
        rw [← hP]; exact OC_8 hR hB
      · have hxb : ¬ x2 < wn (100) := by rcases hx2 with z | z; exact absurd z hxa; exact z
        have hxc : wn (100) ≤ x2 := Int32.not_lt.mp hxb
        have hxd : wn 99 < x2 := out3 (by decide) hxb
        simp +decide (disch := omega) only [↓wm1, wb127_0 hc, wb127_5 hc, wb127_11 hc, wb127_15 hc, wb127_16 hc, wb127_19 hc, wb127_24 hc, wb127_30 hc, wb127_34 hc, wb127_35 hc, wb127_38 hc, wb127_43 hc, wb127_48 hc, wb127_52 hc, wb127_53 hc, wb127_56 hc, wb127_74 hc, wb127_83 hc, wb127_92 hc, wb127_95 hc, wb127_98 hc, wb127_103 hc, wb127_122 hc, wb127_131 hc, wb127_134 hc, wb127_137 hc, wb127_143 hc, wb127_149 hc, wb127_153 hc, wb127_158 hc, wb127_163 hc, wb127_168 hc, wb127_170 hc, w0, w1, w2, w10, w99, rI_wI, rP_wI, rL_wI, rI_wR, rP_wR, is_wI, is_wR, ia_wI, ia_wR, ow_wI, ow_wR, wn_add, wn_mul, wn_cl, wn_le, wn_lt, wn_inj, wn_ne1, wn_1ne, wn_gt1, wn_le1, nb0, nb1, am_kt, am_rt, List.cons_append, List.nil_append, true_and, and_true, not_true_eq_false, not_false_eq_true, imp_f, imp_t, implies_true, Nat.zero_add, if_true, if_false, false_and, and_false, cn127, fC hsh, fW2 hsh hT, fD hsh hT.2.2.1, e6, na1, nb1, hh1, nc1, ct139y (v := 1) (by decide) (by decide), hxa, hxb, hxc, hxd, ct139n hsh hB]
        rw [← hP]; exact OC_8 hR hB
  · rw [if_neg (vin2_nf hx1)]
    generalize hP : OC G (rfV V (.inr 1)) (.inr 1) = P
    by_cases hxa : x1 < wn 0
    · simp +decide (disch := omega) only [↓wm1, wb127_0 hc, wb127_5 hc, wb127_11 hc, wb127_15 hc, wb127_16 hc, wb127_19 hc, wb127_24 hc, wb127_30 hc, wb127_34 hc, wb127_35 hc, wb127_38 hc, wb127_43 hc, wb127_48 hc, wb127_52 hc, wb127_53 hc, wb127_56 hc, wb127_74 hc, wb127_83 hc, wb127_92 hc, wb127_95 hc, wb127_98 hc, wb127_103 hc, wb127_122 hc, wb127_131 hc, wb127_134 hc, wb127_137 hc, wb127_143 hc, wb127_149 hc, wb127_153 hc, wb127_158 hc, wb127_163 hc, wb127_168 hc, wb127_170 hc, w0, w1, w2, w10, w99, rI_wI, rP_wI, rL_wI, rI_wR, rP_wR, is_wI, is_wR, ia_wI, ia_wR, ow_wI, ow_wR, wn_add, wn_mul, wn_cl, wn_le, wn_lt, wn_inj, wn_ne1, wn_1ne, wn_gt1, wn_le1, nb0, nb1, am_kt, am_rt, List.cons_append, List.nil_append, true_and, and_true, not_true_eq_false, not_false_eq_true, imp_f, imp_t, implies_true, Nat.zero_add, if_true, if_false, false_and, and_false, cn127, fC hsh, fW2 hsh hT, fD hsh hT.2.2.1, e6, hxa, ct139n hsh hB]
      rw [← hP]; exact OC_8 hR hB
    · have hxb : ¬ x1 < wn (100) := by rcases hx1 with z | z; exact absurd z hxa; exact z
      have hxc : wn (100) ≤ x1 := Int32.not_lt.mp hxb
      have hxd : wn 99 < x1 := out3 (by decide) hxb
      simp +decide (disch := omega) only [↓wm1, wb127_0 hc, wb127_5 hc, wb127_11 hc, wb127_15 hc, wb127_16 hc, wb127_19 hc, wb127_24 hc, wb127_30 hc, wb127_34 hc, wb127_35 hc, wb127_38 hc, wb127_43 hc, wb127_48 hc, wb127_52 hc, wb127_53 hc, wb127_56 hc, wb127_74 hc, wb127_83 hc, wb127_92 hc, wb127_95 hc, wb127_98 hc, wb127_103 hc, wb127_122 hc, wb127_131 hc, wb127_134 hc, wb127_137 hc, wb127_143 hc, wb127_149 hc, wb127_153 hc, wb127_158 hc, wb127_163 hc, wb127_168 hc, wb127_170 hc, w0, w1, w2, w10, w99, rI_wI, rP_wI, rL_wI, rI_wR, rP_wR, is_wI, is_wR, ia_wI, ia_wR, ow_wI, ow_wR, wn_add, wn_mul, wn_cl, wn_le, wn_lt, wn_inj, wn_ne1, wn_1ne, wn_gt1, wn_le1, nb0, nb1, am_kt, am_rt, List.cons_append, List.nil_append, true_and, and_true, not_true_eq_false, not_false_eq_true, imp_f, imp_t, implies_true, Nat.zero_add, if_true, if_false, false_and, and_false, cn127, fC hsh, fW2 hsh hT, fD hsh hT.2.2.1, e6, hxa, hxb, hxc, hxd, ct139n hsh hB]
      rw [← hP]; exact OC_8 hR hB
theorem rf_ringers (hR : RepR G V) (x1 x2 x3 : Int32) : am_C am_T (d + 12) 251 [.ref 334, .int x1, .int x2, .int x3] G (OR G (rfV V (sp_ringers V x1 x2 x3)) 1 (sp_ringers V x1 x2 x3)) := by
  have hc := am_C_one am_T (d + 11)
  have k0 : Kp QSR G (am_wI G 334 0 (wn 0)) := (Kp.refl G).wI (Or.inl ⟨rfl, Or.inl rfl⟩) _
  have e0 : am_gI (am_wI G 334 0 (wn 0)) 334 0 = wn 0 := by rw [rI_wI, if_pos ⟨rfl, rfl⟩]
  have hR0 := hR.q k0
  have hshG := hR.1
  unfold sp_ringers
  rw [we251]
  generalize hOR : OR G = OG
  simp +decide (disch := omega) only [↓wm1, wb251_0 hc, w0, w1, w2, w10, w99, rI_wI, rP_wI, rL_wI, rI_wR, rP_wR, is_wI, is_wR, ia_wI, ia_wR, ow_wI, ow_wR, wn_add, wn_mul, wn_cl, wn_le, wn_lt, wn_inj, wn_ne1, wn_1ne, wn_gt1, wn_le1, nb0, nb1, am_kt, am_rt, List.cons_append, List.nil_append, true_and, and_true, not_true_eq_false, not_false_eq_true, imp_f, imp_t, implies_true, Nat.zero_add, if_true, if_false, false_and, and_false, fM hshG, fE2 hR.2.2.2.1, ia338 hshG]
  generalize am_wI G 334 0 (wn 0) = G0 at k0 e0 hR0 ⊢
  subst hOR
  have hsh := hR0.1
  have hv := hR0.2.1
  have hT := hR0.2.2.2.1
  have hr := hR0.2.2.2.2.1.1
  have vd := hv.2.2.2.1
  have bB := vd.1
  have bH := vd.2.1
  have bD := vd.2.2.1
  have hs9 := hv.2.2.2.2.2.1
  have hvs := hs9.1
  have hg := hvs.g6 bB
  have ht := hvs.t6 bB
  have hm := hvs.2.2.2.2.2.1
  have h9 := hs9.2
  have p6 : 2 ^ dB (vδ V) ≤ 64 := Nat.pow_le_pow_right (n := 2) (by decide) bB
  have e6 := bs1 (dB (vδ V)) (by omega)
  rcases vin2_or x1 0 (100) (by omega) (by omega) with ⟨b1, hl1, hh1, rfl⟩ | hx1
  · rw [if_pos (vin2_t hl1 hh1 (by omega))]
    rcases vin2_or x2 0 (100) (by omega) (by omega) with ⟨b2, hl2, hh2, rfl⟩ | hx2
    · rw [if_pos (vin2_t hl2 hh2 (by omega))]
      rcases vin2_or x3 0 (3) (by omega) (by omega) with ⟨b3, hl3, hh3, rfl⟩ | hx3
      · rw [if_pos (vin2_t hl3 hh3 (by omega))]
        simp only [u_wn (show b1 < 2147483648 by omega), u_wn (show b2 < 2147483648 by omega), u_wn (show b3 < 2147483648 by omega)]
        generalize hP : OR G (rfV V (.inl (q_ring b1 b2 b3))) 1 (.inl (q_ring b1 b2 b3)) = P
        simp +decide (disch := omega) only [↓wm1, wb251_0 hc, wb251_13 hc, wb251_16 hc, wb251_23 hc, wb251_26 hc, wb251_32 hc, wb251_35 hc, wb251_39 hc, wb251_40 hc, wb251_45 hc, wb251_48 hc, wb251_50 hc, wb251_68 hc, wb251_77 hc, wb251_86 hc, wb251_89 hc, wb251_98 hc, wb251_101 hc, wb251_104 hc, wb251_109 hc, wb251_118 hc, wb251_127 hc, wb251_131 hc, wb251_133 hc, wb251_140 hc, wb251_151 hc, wb251_153 hc, wb251_158 hc, wb251_164 hc, wb251_170 hc, wb251_174 hc, wb251_179 hc, wb251_184 hc, wb251_189 hc, wb251_191 hc, w0, w1, w2, w10, w99, rI_wI, rP_wI, rL_wI, rI_wR, rP_wR, is_wI, is_wR, ia_wI, ia_wR, ow_wI, ow_wR, wn_add, wn_mul, wn_cl, wn_le, wn_lt, wn_inj, wn_ne1, wn_1ne, wn_gt1, wn_le1, nb0, nb1, am_kt, am_rt, List.cons_append, List.nil_append, true_and, and_true, not_true_eq_false, not_false_eq_true, imp_f, imp_t, implies_true, Nat.zero_add, if_true, if_false, false_and, and_false, fM hsh, fE2 hT, ia338 hsh, e6, b01, if_true, Bool.false_eq_true, ct214 hsh hT, ct215 hsh hT, ct220, ct153c, ct153v, ct152n hsh e0, vin2_t hl1 hh1 (by omega), vin2_t hl2 hh2 (by omega), vin2_t hl3 hh3 (by omega)]
        refine am_for 2 (fun a ls G2 => G0 = G2 ∧ ∃ o0, ls = [o0, some (.int (wn b1)), some (.int (wn b2)), some (.int (wn b3)), some (.int (wn (rg b1 b2 (2 * a)).1)), some (.int (rg b1 b2 (2 * a)).2.1), some (.int (rg b1 b2 (2 * a)).2.2), some (.int (wn a)), none]) ?_ ?_ 2 0 rfl _ _ ⟨rfl, _, rfl⟩
        · rintro a ha _ _ ⟨rfl, o0, rfl⟩ nx
          have c1 : ¬ 2 ≤ a := by omega
          rw [wb251_62 hc]
          simp +decide (disch := omega) only [↓wm1, wb251_68 hc, w0, w1, w2, w10, w99, rI_wI, rP_wI, rL_wI, rI_wR, rP_wR, is_wI, is_wR, ia_wI, ia_wR, ow_wI, ow_wR, wn_add, wn_mul, wn_cl, wn_le, wn_lt, wn_inj, wn_ne1, wn_1ne, wn_gt1, wn_le1, nb0, nb1, am_kt, am_rt, List.cons_append, List.nil_append, true_and, and_true, not_true_eq_false, not_false_eq_true, imp_f, imp_t, implies_true, Nat.zero_add, if_true, if_false, false_and, and_false, c1]
          refine am_for 2 (fun b ls G2 => G0 = G2 ∧ ∃ o0, ls = [o0, some (.int (wn b1)), some (.int (wn b2)), some (.int (wn b3)), some (.int (wn (rg b1 b2 (2 * a + b)).1)), some (.int (rg b1 b2 (2 * a + b)).2.1), some (.int (rg b1 b2 (2 * a + b)).2.2), some (.int (wn a)), some (.int (wn b))]) ?_ ?_ 2 0 rfl _ _ ⟨rfl, _, rfl⟩
          · rintro b hb _ _ ⟨rfl, o0, rfl⟩ nx2
            have c2 : ¬ 2 ≤ b := by omega
            have rl := rg_le b1 b2 (2 * a + b)
            have rs := rg_s (v := b1) (w := b2) (a := a) hb
            rw [wb251_71 hc]
            cases hq1 : bes a b b1 b2 with
            | false =>
              simp +decide (disch := omega) only [↓wm1, wb251_77 hc, wb251_86 hc, wb251_158 hc, w0, w1, w2, w10, w99, rI_wI, rP_wI, rL_wI, rI_wR, rP_wR, is_wI, is_wR, ia_wI, ia_wR, ow_wI, ow_wR, wn_add, wn_mul, wn_cl, wn_le, wn_lt, wn_inj, wn_ne1, wn_1ne, wn_gt1, wn_le1, nb0, nb1, am_kt, am_rt, List.cons_append, List.nil_append, true_and, and_true, not_true_eq_false, not_false_eq_true, imp_f, imp_t, implies_true, Nat.zero_add, if_true, if_false, false_and, and_false, c2, ct250 ha hb, hq1, b01, Bool.false_eq_true]
              refine nx2 _ _ ⟨rfl, none, ?_⟩
              rw [← Nat.add_assoc, rs]; simp only [rgs, hq1, Bool.false_and, Bool.false_eq_true, if_false]
            | true =>
              cases hq2 : bes b a b1 b2 with
              | false =>
                simp +decide (disch := omega) only [↓wm1, wb251_77 hc, wb251_86 hc, wb251_89 hc, wb251_98 hc, wb251_101 hc, wb251_158 hc, w0, w1, w2, w10, w99, rI_wI, rP_wI, rL_wI, rI_wR, rP_wR, is_wI, is_wR, ia_wI, ia_wR, ow_wI, ow_wR, wn_add, wn_mul, wn_cl, wn_le, wn_lt, wn_inj, wn_ne1, wn_1ne, wn_gt1, wn_le1, nb0, nb1, am_kt, am_rt, List.cons_append, List.nil_append, true_and, and_true, not_true_eq_false, not_false_eq_true, imp_f, imp_t, implies_true, Nat.zero_add, if_true, if_false, false_and, and_false, c2, ct250 ha hb, ct250 hb ha, hq1, hq2, b01, Bool.false_eq_true]
                refine nx2 _ _ ⟨rfl, none, ?_⟩
                rw [← Nat.add_assoc, rs]; simp only [rgs, hq1, hq2, Bool.and_false, Bool.false_eq_true, if_false]
              | true =>
                by_cases c3 : (rg b1 b2 (2 * a + b)).1 = 0
                · simp +decide (disch := omega) only [↓wm1, wb251_77 hc, wb251_86 hc, wb251_89 hc, wb251_98 hc, wb251_104 hc, wb251_109 hc, wb251_118 hc, wb251_127 hc, wb251_133 hc, wb251_140 hc, wb251_153 hc, wb251_158 hc, w0, w1, w2, w10, w99, rI_wI, rP_wI, rL_wI, rI_wR, rP_wR, is_wI, is_wR, ia_wI, ia_wR, ow_wI, ow_wR, wn_add, wn_mul, wn_cl, wn_le, wn_lt, wn_inj, wn_ne1, wn_1ne, wn_gt1, wn_le1, nb0, nb1, am_kt, am_rt, List.cons_append, List.nil_append, true_and, and_true, not_true_eq_false, not_false_eq_true, imp_f, imp_t, implies_true, Nat.zero_add, if_true, if_false, false_and, and_false, c2, ct250 ha hb, ct250 hb ha, ct249 ha hb, ct249 hb ha, hq1, hq2, b01, c3]
                  refine nx2 _ _ ⟨rfl, none, ?_⟩
                  rw [← Nat.add_assoc, rs]; simp only [rgs, hq1, hq2, Bool.and_self, if_true, c3]
                · simp +decide (disch := omega) only [↓wm1, wb251_77 hc, wb251_86 hc, wb251_89 hc, wb251_98 hc, wb251_104 hc, wb251_131 hc, wb251_133 hc, wb251_151 hc, wb251_153 hc, wb251_158 hc, w0, w1, w2, w10, w99, rI_wI, rP_wI, rL_wI, rI_wR, rP_wR, is_wI, is_wR, ia_wI, ia_wR, ow_wI, ow_wR, wn_add, wn_mul, wn_cl, wn_le, wn_lt, wn_inj, wn_ne1, wn_1ne, wn_gt1, wn_le1, nb0, nb1, am_kt, am_rt, List.cons_append, List.nil_append, true_and, and_true, not_true_eq_false, not_false_eq_true, imp_f, imp_t, implies_true, Nat.zero_add, if_true, if_false, false_and, and_false, c2, ct250 ha hb, ct250 hb ha, hq1, hq2, b01, c3]
                  refine nx2 _ _ ⟨rfl, none, ?_⟩
                  rw [← Nat.add_assoc, rs]; simp only [rgs, hq1, hq2, Bool.and_self, if_true, c3, if_false]
          · rintro _ _ ⟨rfl, o0, rfl⟩
            rw [wb251_71 hc]
            simp +decide (disch := omega) only [↓wm1, wb251_164 hc, w0, w1, w2, w10, w99, rI_wI, rP_wI, rL_wI, rI_wR, rP_wR, is_wI, is_wR, ia_wI, ia_wR, ow_wI, ow_wR, wn_add, wn_mul, wn_cl, wn_le, wn_lt, wn_inj, wn_ne1, wn_1ne, wn_gt1, wn_le1, nb0, nb1, am_kt, am_rt, List.cons_append, List.nil_append, true_and, and_true, not_true_eq_false, not_false_eq_true, imp_f, imp_t, implies_true, Nat.zero_add, if_true, if_false, false_and, and_false, Nat.le_refl]
            exact nx _ _ ⟨rfl, none, rfl⟩
        · rintro _ _ ⟨rfl, o0, rfl⟩
          unfold q_ring at hP
          rw [wb251_62 hc]
          by_cases z0 : b3 = 0
          · rw [if_pos z0] at hP
            simp +decide (disch := omega) only [↓wm1, wb251_170 hc, wb251_174 hc, wb251_191 hc, w0, w1, w2, w10, w99, rI_wI, rP_wI, rL_wI, rI_wR, rP_wR, is_wI, is_wR, ia_wI, ia_wR, ow_wI, ow_wR, wn_add, wn_mul, wn_cl, wn_le, wn_lt, wn_inj, wn_ne1, wn_1ne, wn_gt1, wn_le1, nb0, nb1, am_kt, am_rt, List.cons_append, List.nil_append, true_and, and_true, not_true_eq_false, not_false_eq_true, imp_f, imp_t, implies_true, Nat.zero_add, if_true, if_false, false_and, and_false, Nat.le_refl, z0]
            rw [← hP]; exact OR_ok hR k0 e0
          · rw [if_neg z0] at hP
            by_cases z1 : b3 = 1
            · rw [if_pos z1] at hP
              simp +decide (disch := omega) only [↓wm1, wb251_170 hc, wb251_179 hc, wb251_184 hc, wb251_191 hc, w0, w1, w2, w10, w99, rI_wI, rP_wI, rL_wI, rI_wR, rP_wR, is_wI, is_wR, ia_wI, ia_wR, ow_wI, ow_wR, wn_add, wn_mul, wn_cl, wn_le, wn_lt, wn_inj, wn_ne1, wn_1ne, wn_gt1, wn_le1, nb0, nb1, am_kt, am_rt, List.cons_append, List.nil_append, true_and, and_true, not_true_eq_false, not_false_eq_true, imp_f, imp_t, implies_true, Nat.zero_add, if_true, if_false, false_and, and_false, Nat.le_refl, z0, z1]
              rw [← hP]; exact OR_ok hR k0 e0
            · rw [if_neg z1] at hP
              simp +decide (disch := omega) only [↓wm1, wb251_170 hc, wb251_179 hc, wb251_189 hc, wb251_191 hc, w0, w1, w2, w10, w99, rI_wI, rP_wI, rL_wI, rI_wR, rP_wR, is_wI, is_wR, ia_wI, ia_wR, ow_wI, ow_wR, wn_add, wn_mul, wn_cl, wn_le, wn_lt, wn_inj, wn_ne1, wn_1ne, wn_gt1, wn_le1, nb0, nb1, am_kt, am_rt, List.cons_append, List.nil_append, true_and, and_true, not_true_eq_false, not_false_eq_true, imp_f, imp_t, implies_true, Nat.zero_add, if_true, if_false, false_and, and_false, Nat.le_refl, z0, z1]
              rw [← hP]; exact OR_ok hR k0 e0
      · rw [if_neg (vin2_nf hx3)]
        generalize hP : OR G (rfV V (.inr 1)) 1 (.inr 1) = P
        simp +decide (disch := omega) only [↓wm1, wb251_0 hc, wb251_13 hc, wb251_16 hc, wb251_23 hc, wb251_26 hc, wb251_32 hc, wb251_35 hc, wb251_39 hc, wb251_40 hc, wb251_45 hc, wb251_48 hc, wb251_50 hc, wb251_68 hc, wb251_77 hc, wb251_86 hc, wb251_89 hc, wb251_98 hc, wb251_101 hc, wb251_104 hc, wb251_109 hc, wb251_118 hc, wb251_127 hc, wb251_131 hc, wb251_133 hc, wb251_140 hc, wb251_151 hc, wb251_153 hc, wb251_158 hc, wb251_164 hc, wb251_170 hc, wb251_174 hc, wb251_179 hc, wb251_184 hc, wb251_189 hc, wb251_191 hc, w0, w1, w2, w10, w99, rI_wI, rP_wI, rL_wI, rI_wR, rP_wR, is_wI, is_wR, ia_wI, ia_wR, ow_wI, ow_wR, wn_add, wn_mul, wn_cl, wn_le, wn_lt, wn_inj, wn_ne1, wn_1ne, wn_gt1, wn_le1, nb0, nb1, am_kt, am_rt, List.cons_append, List.nil_append, true_and, and_true, not_true_eq_false, not_false_eq_true, imp_f, imp_t, implies_true, Nat.zero_add, if_true, if_false, false_and, and_false, fM hsh, fE2 hT, ia338 hsh, e6, b01, if_true, Bool.false_eq_true, ct214 hsh hT, ct215 hsh hT, ct220, ct153c, ct153v, ct152n hsh e0, vin2_t hl1 hh1 (by omega), vin2_t hl2 hh2 (by omega), vin2_f hx3, ct152y (c := 1) (r := 1) (by decide) (by decide) (by decide) hsh e0]
        rw [← hP]; exact OR_8 hR k0
    · rw [if_neg (vin2_nf hx2)]
      generalize hP : OR G (rfV V (.inr 1)) 1 (.inr 1) = P
      simp +decide (disch := omega) only [↓wm1, wb251_0 hc, wb251_13 hc, wb251_16 hc, wb251_23 hc, wb251_26 hc, wb251_32 hc, wb251_35 hc, wb251_39 hc, wb251_40 hc, wb251_45 hc, wb251_48 hc, wb251_50 hc, wb251_68 hc, wb251_77 hc, wb251_86 hc, wb251_89 hc, wb251_98 hc, wb251_101 hc, wb251_104 hc, wb251_109 hc, wb251_118 hc, wb251_127 hc, wb251_131 hc, wb251_133 hc, wb251_140 hc, wb251_151 hc, wb251_153 hc, wb251_158 hc, wb251_164 hc, wb251_170 hc, wb251_174 hc, wb251_179 hc, wb251_184 hc, wb251_189 hc, wb251_191 hc, w0, w1, w2, w10, w99, rI_wI, rP_wI, rL_wI, rI_wR, rP_wR, is_wI, is_wR, ia_wI, ia_wR, ow_wI, ow_wR, wn_add, wn_mul, wn_cl, wn_le, wn_lt, wn_inj, wn_ne1, wn_1ne, wn_gt1, wn_le1, nb0, nb1, am_kt, am_rt, List.cons_append, List.nil_append, true_and, and_true, not_true_eq_false, not_false_eq_true, imp_f, imp_t, implies_true, Nat.zero_add, if_true, if_false, false_and, and_false, fM hsh, fE2 hT, ia338 hsh, e6, b01, if_true, Bool.false_eq_true, ct214 hsh hT, ct215 hsh hT, ct220, ct153c, ct153v, ct152n hsh e0, vin2_t hl1 hh1 (by omega), vin2_f hx2, ct152y (c := 1) (r := 1) (by decide) (by decide) (by decide) hsh e0]
      rw [← hP]; exact OR_8 hR k0
  · rw [if_neg (vin2_nf hx1)]
    generalize hP : OR G (rfV V (.inr 1)) 1 (.inr 1) = P
    simp +decide (disch := omega) only [↓wm1, wb251_0 hc, wb251_13 hc, wb251_16 hc, wb251_23 hc, wb251_26 hc, wb251_32 hc, wb251_35 hc, wb251_39 hc, wb251_40 hc, wb251_45 hc, wb251_48 hc, wb251_50 hc, wb251_68 hc, wb251_77 hc, wb251_86 hc, wb251_89 hc, wb251_98 hc, wb251_101 hc, wb251_104 hc, wb251_109 hc, wb251_118 hc, wb251_127 hc, wb251_131 hc, wb251_133 hc, wb251_140 hc, wb251_151 hc, wb251_153 hc, wb251_158 hc, wb251_164 hc, wb251_170 hc, wb251_174 hc, wb251_179 hc, wb251_184 hc, wb251_189 hc, wb251_191 hc, w0, w1, w2, w10, w99, rI_wI, rP_wI, rL_wI, rI_wR, rP_wR, is_wI, is_wR, ia_wI, ia_wR, ow_wI, ow_wR, wn_add, wn_mul, wn_cl, wn_le, wn_lt, wn_inj, wn_ne1, wn_1ne, wn_gt1, wn_le1, nb0, nb1, am_kt, am_rt, List.cons_append, List.nil_append, true_and, and_true, not_true_eq_false, not_false_eq_true, imp_f, imp_t, implies_true, Nat.zero_add, if_true, if_false, false_and, and_false, fM hsh, fE2 hT, ia338 hsh, e6, b01, if_true, Bool.false_eq_true, ct214 hsh hT, ct215 hsh hT, ct220, ct153c, ct153v, ct152n hsh e0, vin2_f hx1, ct152y (c := 1) (r := 1) (by decide) (by decide) (by decide) hsh e0]
    rw [← hP]; exact OR_8 hR k0
end
