/-! The reference's reading of a district. -/
theorem spl_again : spl [97, 103, 97, 105, 110] 1 7 1 9 14 0 := ⟨by decide, by decide, by decide, by decide, by decide, by decide, by decide⟩
theorem spl_apart : spl [97, 112, 97, 114, 116] 1 16 1 18 20 0 := ⟨by decide, by decide, by decide, by decide, by decide, by decide, by decide⟩
theorem spl_bell : spl [98, 101, 108, 108] 2 5 12 12 0 0 := ⟨by decide, by decide, by decide, by decide, by decide, by decide, by decide⟩
theorem spl_bring : spl [98, 114, 105, 110, 103] 2 18 9 14 7 0 := ⟨by decide, by decide, by decide, by decide, by decide, by decide, by decide⟩
theorem spl_crack : spl [99, 114, 97, 99, 107] 3 18 1 3 11 0 := ⟨by decide, by decide, by decide, by decide, by decide, by decide, by decide⟩
theorem spl_cracks : spl [99, 114, 97, 99, 107, 115] 3 18 1 3 11 19 := ⟨by decide, by decide, by decide, by decide, by decide, by decide, by decide⟩
theorem spl_damp : spl [100, 97, 109, 112] 4 1 13 16 0 0 := ⟨by decide, by decide, by decide, by decide, by decide, by decide, by decide⟩
theorem spl_deed : spl [100, 101, 101, 100] 4 5 5 4 0 0 := ⟨by decide, by decide, by decide, by decide, by decide, by decide, by decide⟩
theorem spl_far : spl [102, 97, 114] 6 1 18 0 0 0 := ⟨by decide, by decide, by decide, by decide, by decide, by decide, by decide⟩
theorem spl_gag : spl [103, 97, 103] 7 1 7 0 0 0 := ⟨by decide, by decide, by decide, by decide, by decide, by decide, by decide⟩
theorem spl_hour : spl [104, 111, 117, 114] 8 15 21 18 0 0 := ⟨by decide, by decide, by decide, by decide, by decide, by decide, by decide⟩
theorem spl_house : spl [104, 111, 117, 115, 101] 8 15 21 19 5 0 := ⟨by decide, by decide, by decide, by decide, by decide, by decide, by decide⟩
theorem spl_least : spl [108, 101, 97, 115, 116] 12 5 1 19 20 0 := ⟨by decide, by decide, by decide, by decide, by decide, by decide, by decide⟩
theorem spl_loud : spl [108, 111, 117, 100] 12 15 21 4 0 0 := ⟨by decide, by decide, by decide, by decide, by decide, by decide, by decide⟩
theorem spl_most : spl [109, 111, 115, 116] 13 15 19 20 0 0 := ⟨by decide, by decide, by decide, by decide, by decide, by decide, by decide⟩
theorem spl_pull : spl [112, 117, 108, 108] 16 21 12 12 0 0 := ⟨by decide, by decide, by decide, by decide, by decide, by decide, by decide⟩
theorem spl_pulled : spl [112, 117, 108, 108, 101, 100] 16 21 12 12 5 4 := ⟨by decide, by decide, by decide, by decide, by decide, by decide, by decide⟩
theorem spl_steal : spl [115, 116, 101, 97, 108] 19 20 5 1 12 0 := ⟨by decide, by decide, by decide, by decide, by decide, by decide, by decide⟩
def oi (x : Option Nat) : Int32 := match x with
  | some k => wn k
  | none => mm
section
variable {G : am_G} {d n p o : Nat} {t : Nat → Nat} {δ : Dt} {post : am_O → am_G → Prop}
theorem ct173 (hsh : Sh G) (h : rQ G t n p o) (k : ∀ G', rQ G' t n p o → am_gI G' 334 4 = wn p → Kp Q4 G G' → post (.inl (some (.int (oi (wi0 (wrd t n p)))))) G') : am_C am_T (d + 5) 173 [.ref 334] G post := by
  have hc := am_C_one am_T (d + 4)
  unfold wi0 oi at k
  rw [we173]
  simp +decide (disch := omega) only [↓wm1, wb173_0 hc, w0, w1, w2, w3, w4, w5, w8, w12, w13, w15, w16, w19, w21, rI_wI, rP_wI, rL_wI, rI_wR, rP_wR, is_wI, is_wR, ia_wI, ia_wR, ow_wI, ow_wR, wn_add, wn_mul, wn_cl, wn_le, wn_lt, wn_inj, wn_ne1, wn_1ne, wn_gt1, wn_le1, nb0, nb1, am_kt, am_rt, List.cons_append, List.nil_append, true_and, and_true, not_true_eq_false, not_false_eq_true, imp_f, imp_t, implies_true, Nat.zero_add, if_true, if_false, fM hsh]
  refine ct166 spl_bell hsh h (fun G1 r1 e1 k1 => ?_)
  have s1 := hsh.kp k1
  by_cases c1 : wrd t n p = [98, 101, 108, 108]
  · simp only [c1, decide_true, b01, if_true]
    simp only [c1, if_false, if_true] at k
    simp +decide (disch := omega) only [↓wm1, wb173_12 hc, wb173_15 hc, w0, w1, w2, w3, w4, w5, w8, w12, w13, w15, w16, w19, w21, rI_wI, rP_wI, rL_wI, rI_wR, rP_wR, is_wI, is_wR, ia_wI, ia_wR, ow_wI, ow_wR, wn_add, wn_mul, wn_cl, wn_le, wn_lt, wn_inj, wn_ne1, wn_1ne, wn_gt1, wn_le1, nb0, nb1, am_kt, am_rt, List.cons_append, List.nil_append, true_and, and_true, not_true_eq_false, not_false_eq_true, imp_f, imp_t, implies_true, Nat.zero_add, if_true, if_false]
    exact k G1 r1 e1 k1
  · simp only [c1, decide_false, b01, Bool.false_eq_true, if_false]
    simp +decide (disch := omega) only [↓wm1, wb173_12 hc, w0, w1, w2, w3, w4, w5, w8, w12, w13, w15, w16, w19, w21, rI_wI, rP_wI, rL_wI, rI_wR, rP_wR, is_wI, is_wR, ia_wI, ia_wR, ow_wI, ow_wR, wn_add, wn_mul, wn_cl, wn_le, wn_lt, wn_inj, wn_ne1, wn_1ne, wn_gt1, wn_le1, nb0, nb1, am_kt, am_rt, List.cons_append, List.nil_append, true_and, and_true, not_true_eq_false, not_false_eq_true, imp_f, imp_t, implies_true, Nat.zero_add, if_true, if_false]
    simp +decide (disch := omega) only [↓wm1, wb173_17 hc, w0, w1, w2, w3, w4, w5, w8, w12, w13, w15, w16, w19, w21, rI_wI, rP_wI, rL_wI, rI_wR, rP_wR, is_wI, is_wR, ia_wI, ia_wR, ow_wI, ow_wR, wn_add, wn_mul, wn_cl, wn_le, wn_lt, wn_inj, wn_ne1, wn_1ne, wn_gt1, wn_le1, nb0, nb1, am_kt, am_rt, List.cons_append, List.nil_append, true_and, and_true, not_true_eq_false, not_false_eq_true, imp_f, imp_t, implies_true, Nat.zero_add, if_true, if_false, fM s1]
    refine ct166 spl_house s1 r1 (fun G2 r2 e2 k2 => ?_)
    have s2 := s1.kp k2
    have kk2 := k1.trans k2
    by_cases c2 : wrd t n p = [104, 111, 117, 115, 101]
    · simp only [c2, decide_true, b01, if_true]
      simp only [c1, c2, if_false, if_true] at k
      simp +decide (disch := omega) only [↓wm1, wb173_31 hc, wb173_34 hc, w0, w1, w2, w3, w4, w5, w8, w12, w13, w15, w16, w19, w21, rI_wI, rP_wI, rL_wI, rI_wR, rP_wR, is_wI, is_wR, ia_wI, ia_wR, ow_wI, ow_wR, wn_add, wn_mul, wn_cl, wn_le, wn_lt, wn_inj, wn_ne1, wn_1ne, wn_gt1, wn_le1, nb0, nb1, am_kt, am_rt, List.cons_append, List.nil_append, true_and, and_true, not_true_eq_false, not_false_eq_true, imp_f, imp_t, implies_true, Nat.zero_add, if_true, if_false]
      exact k G2 r2 e2 kk2
    · simp only [c2, decide_false, b01, Bool.false_eq_true, if_false]
      simp +decide (disch := omega) only [↓wm1, wb173_31 hc, w0, w1, w2, w3, w4, w5, w8, w12, w13, w15, w16, w19, w21, rI_wI, rP_wI, rL_wI, rI_wR, rP_wR, is_wI, is_wR, ia_wI, ia_wR, ow_wI, ow_wR, wn_add, wn_mul, wn_cl, wn_le, wn_lt, wn_inj, wn_ne1, wn_1ne, wn_gt1, wn_le1, nb0, nb1, am_kt, am_rt, List.cons_append, List.nil_append, true_and, and_true, not_true_eq_false, not_false_eq_true, imp_f, imp_t, implies_true, Nat.zero_add, if_true, if_false]
      simp +decide (disch := omega) only [↓wm1, wb173_36 hc, w0, w1, w2, w3, w4, w5, w8, w12, w13, w15, w16, w19, w21, rI_wI, rP_wI, rL_wI, rI_wR, rP_wR, is_wI, is_wR, ia_wI, ia_wR, ow_wI, ow_wR, wn_add, wn_mul, wn_cl, wn_le, wn_lt, wn_inj, wn_ne1, wn_1ne, wn_gt1, wn_le1, nb0, nb1, am_kt, am_rt, List.cons_append, List.nil_append, true_and, and_true, not_true_eq_false, not_false_eq_true, imp_f, imp_t, implies_true, Nat.zero_add, if_true, if_false, fM s2]
      refine ct166 spl_deed s2 r2 (fun G3 r3 e3 k3 => ?_)
      have s3 := s2.kp k3
      have kk3 := kk2.trans k3
      by_cases c3 : wrd t n p = [100, 101, 101, 100]
      · simp only [c3, decide_true, b01, if_true]
        simp only [c1, c2, c3, if_false, if_true] at k
        simp +decide (disch := omega) only [↓wm1, wb173_46 hc, wb173_49 hc, w0, w1, w2, w3, w4, w5, w8, w12, w13, w15, w16, w19, w21, rI_wI, rP_wI, rL_wI, rI_wR, rP_wR, is_wI, is_wR, ia_wI, ia_wR, ow_wI, ow_wR, wn_add, wn_mul, wn_cl, wn_le, wn_lt, wn_inj, wn_ne1, wn_1ne, wn_gt1, wn_le1, nb0, nb1, am_kt, am_rt, List.cons_append, List.nil_append, true_and, and_true, not_true_eq_false, not_false_eq_true, imp_f, imp_t, implies_true, Nat.zero_add, if_true, if_false]
        exact k G3 r3 e3 kk3
      · simp only [c3, decide_false, b01, Bool.false_eq_true, if_false]
        simp +decide (disch := omega) only [↓wm1, wb173_46 hc, w0, w1, w2, w3, w4, w5, w8, w12, w13, w15, w16, w19, w21, rI_wI, rP_wI, rL_wI, rI_wR, rP_wR, is_wI, is_wR, ia_wI, ia_wR, ow_wI, ow_wR, wn_add, wn_mul, wn_cl, wn_le, wn_lt, wn_inj, wn_ne1, wn_1ne, wn_gt1, wn_le1, nb0, nb1, am_kt, am_rt, List.cons_append, List.nil_append, true_and, and_true, not_true_eq_false, not_false_eq_true, imp_f, imp_t, implies_true, Nat.zero_add, if_true, if_false]
        simp +decide (disch := omega) only [↓wm1, wb173_51 hc, w0, w1, w2, w3, w4, w5, w8, w12, w13, w15, w16, w19, w21, rI_wI, rP_wI, rL_wI, rI_wR, rP_wR, is_wI, is_wR, ia_wI, ia_wR, ow_wI, ow_wR, wn_add, wn_mul, wn_cl, wn_le, wn_lt, wn_inj, wn_ne1, wn_1ne, wn_gt1, wn_le1, nb0, nb1, am_kt, am_rt, List.cons_append, List.nil_append, true_and, and_true, not_true_eq_false, not_false_eq_true, imp_f, imp_t, implies_true, Nat.zero_add, if_true, if_false, fM s3]
        refine ct166 spl_damp s3 r3 (fun G4 r4 e4 k4 => ?_)
        have s4 := s3.kp k4
        have kk4 := kk3.trans k4
        by_cases c4 : wrd t n p = [100, 97, 109, 112]
        · simp only [c4, decide_true, b01, if_true]
          simp only [c1, c2, c3, c4, if_false, if_true] at k
          simp +decide (disch := omega) only [↓wm1, wb173_63 hc, wb173_66 hc, wb173_71 hc, w0, w1, w2, w3, w4, w5, w8, w12, w13, w15, w16, w19, w21, rI_wI, rP_wI, rL_wI, rI_wR, rP_wR, is_wI, is_wR, ia_wI, ia_wR, ow_wI, ow_wR, wn_add, wn_mul, wn_cl, wn_le, wn_lt, wn_inj, wn_ne1, wn_1ne, wn_gt1, wn_le1, nb0, nb1, am_kt, am_rt, List.cons_append, List.nil_append, true_and, and_true, not_true_eq_false, not_false_eq_true, imp_f, imp_t, implies_true, Nat.zero_add, if_true, if_false]
          exact k G4 r4 e4 kk4
        · simp only [c4, decide_false, b01, Bool.false_eq_true, if_false]
          simp only [c1, c2, c3, c4, if_false] at k
          simp +decide (disch := omega) only [↓wm1, wb173_63 hc, wb173_70 hc, wb173_71 hc, w0, w1, w2, w3, w4, w5, w8, w12, w13, w15, w16, w19, w21, rI_wI, rP_wI, rL_wI, rI_wR, rP_wR, is_wI, is_wR, ia_wI, ia_wR, ow_wI, ow_wR, wn_add, wn_mul, wn_cl, wn_le, wn_lt, wn_inj, wn_ne1, wn_1ne, wn_gt1, wn_le1, nb0, nb1, am_kt, am_rt, List.cons_append, List.nil_append, true_and, and_true, not_true_eq_false, not_false_eq_true, imp_f, imp_t, implies_true, Nat.zero_add, if_true, if_false]
          exact k G4 r4 e4 kk4
theorem ct189 (hsh : Sh G) (h : rQ G t n p o) (k : ∀ G', rQ G' t n p o → am_gI G' 334 4 = wn p → Kp Q4 G G' → post (.inl (some (.int (oi (wi1 (wrd t n p)))))) G') : am_C am_T (d + 5) 189 [.ref 334] G post := by
  have hc := am_C_one am_T (d + 4)
  unfold wi1 oi at k
  rw [we189]
  simp +decide (disch := omega) only [↓wm1, wb189_0 hc, w0, w1, w2, w3, w4, w5, w6, w7, w8, w9, w11, w12, w13, w14, w15, w16, w18, w19, w20, w21, rI_wI, rP_wI, rL_wI, rI_wR, rP_wR, is_wI, is_wR, ia_wI, ia_wR, ow_wI, ow_wR, wn_add, wn_mul, wn_cl, wn_le, wn_lt, wn_inj, wn_ne1, wn_1ne, wn_gt1, wn_le1, nb0, nb1, am_kt, am_rt, List.cons_append, List.nil_append, true_and, and_true, not_true_eq_false, not_false_eq_true, imp_f, imp_t, implies_true, Nat.zero_add, if_true, if_false, fM hsh]
  refine ct166 spl_pull hsh h (fun G1 r1 e1 k1 => ?_)
  have s1 := hsh.kp k1
  by_cases c1 : wrd t n p = [112, 117, 108, 108]
  · simp only [c1, decide_true, b01, if_true]
    simp only [c1, if_false, if_true] at k
    simp +decide (disch := omega) only [↓wm1, wb189_14 hc, wb189_17 hc, w0, w1, w2, w3, w4, w5, w6, w7, w8, w9, w11, w12, w13, w14, w15, w16, w18, w19, w20, w21, rI_wI, rP_wI, rL_wI, rI_wR, rP_wR, is_wI, is_wR, ia_wI, ia_wR, ow_wI, ow_wR, wn_add, wn_mul, wn_cl, wn_le, wn_lt, wn_inj, wn_ne1, wn_1ne, wn_gt1, wn_le1, nb0, nb1, am_kt, am_rt, List.cons_append, List.nil_append, true_and, and_true, not_true_eq_false, not_false_eq_true, imp_f, imp_t, implies_true, Nat.zero_add, if_true, if_false]
    exact k G1 r1 e1 k1
  · simp only [c1, decide_false, b01, Bool.false_eq_true, if_false]
    simp +decide (disch := omega) only [↓wm1, wb189_14 hc, w0, w1, w2, w3, w4, w5, w6, w7, w8, w9, w11, w12, w13, w14, w15, w16, w18, w19, w20, w21, rI_wI, rP_wI, rL_wI, rI_wR, rP_wR, is_wI, is_wR, ia_wI, ia_wR, ow_wI, ow_wR, wn_add, wn_mul, wn_cl, wn_le, wn_lt, wn_inj, wn_ne1, wn_1ne, wn_gt1, wn_le1, nb0, nb1, am_kt, am_rt, List.cons_append, List.nil_append, true_and, and_true, not_true_eq_false, not_false_eq_true, imp_f, imp_t, implies_true, Nat.zero_add, if_true, if_false]
    simp +decide (disch := omega) only [↓wm1, wb189_19 hc, w0, w1, w2, w3, w4, w5, w6, w7, w8, w9, w11, w12, w13, w14, w15, w16, w18, w19, w20, w21, rI_wI, rP_wI, rL_wI, rI_wR, rP_wR, is_wI, is_wR, ia_wI, ia_wR, ow_wI, ow_wR, wn_add, wn_mul, wn_cl, wn_le, wn_lt, wn_inj, wn_ne1, wn_1ne, wn_gt1, wn_le1, nb0, nb1, am_kt, am_rt, List.cons_append, List.nil_append, true_and, and_true, not_true_eq_false, not_false_eq_true, imp_f, imp_t, implies_true, Nat.zero_add, if_true, if_false, fM s1]
    refine ct166 spl_crack s1 r1 (fun G2 r2 e2 k2 => ?_)
    have s2 := s1.kp k2
    have kk2 := k1.trans k2
    by_cases c2 : wrd t n p = [99, 114, 97, 99, 107]
    · simp only [c2, decide_true, b01, if_true]
      simp only [c1, c2, if_false, if_true] at k
      simp +decide (disch := omega) only [↓wm1, wb189_31 hc, wb189_34 hc, w0, w1, w2, w3, w4, w5, w6, w7, w8, w9, w11, w12, w13, w14, w15, w16, w18, w19, w20, w21, rI_wI, rP_wI, rL_wI, rI_wR, rP_wR, is_wI, is_wR, ia_wI, ia_wR, ow_wI, ow_wR, wn_add, wn_mul, wn_cl, wn_le, wn_lt, wn_inj, wn_ne1, wn_1ne, wn_gt1, wn_le1, nb0, nb1, am_kt, am_rt, List.cons_append, List.nil_append, true_and, and_true, not_true_eq_false, not_false_eq_true, imp_f, imp_t, implies_true, Nat.zero_add, if_true, if_false]
      exact k G2 r2 e2 kk2
    · simp only [c2, decide_false, b01, Bool.false_eq_true, if_false]
      simp +decide (disch := omega) only [↓wm1, wb189_31 hc, w0, w1, w2, w3, w4, w5, w6, w7, w8, w9, w11, w12, w13, w14, w15, w16, w18, w19, w20, w21, rI_wI, rP_wI, rL_wI, rI_wR, rP_wR, is_wI, is_wR, ia_wI, ia_wR, ow_wI, ow_wR, wn_add, wn_mul, wn_cl, wn_le, wn_lt, wn_inj, wn_ne1, wn_1ne, wn_gt1, wn_le1, nb0, nb1, am_kt, am_rt, List.cons_append, List.nil_append, true_and, and_true, not_true_eq_false, not_false_eq_true, imp_f, imp_t, implies_true, Nat.zero_add, if_true, if_false]
      simp +decide (disch := omega) only [↓wm1, wb189_36 hc, w0, w1, w2, w3, w4, w5, w6, w7, w8, w9, w11, w12, w13, w14, w15, w16, w18, w19, w20, w21, rI_wI, rP_wI, rL_wI, rI_wR, rP_wR, is_wI, is_wR, ia_wI, ia_wR, ow_wI, ow_wR, wn_add, wn_mul, wn_cl, wn_le, wn_lt, wn_inj, wn_ne1, wn_1ne, wn_gt1, wn_le1, nb0, nb1, am_kt, am_rt, List.cons_append, List.nil_append, true_and, and_true, not_true_eq_false, not_false_eq_true, imp_f, imp_t, implies_true, Nat.zero_add, if_true, if_false, fM s2]
      refine ct166 spl_gag s2 r2 (fun G3 r3 e3 k3 => ?_)
      have s3 := s2.kp k3
      have kk3 := kk2.trans k3
      by_cases c3 : wrd t n p = [103, 97, 103]
      · simp only [c3, decide_true, b01, if_true]
        simp only [c1, c2, c3, if_false, if_true] at k
        simp +decide (disch := omega) only [↓wm1, wb189_48 hc, wb189_51 hc, w0, w1, w2, w3, w4, w5, w6, w7, w8, w9, w11, w12, w13, w14, w15, w16, w18, w19, w20, w21, rI_wI, rP_wI, rL_wI, rI_wR, rP_wR, is_wI, is_wR, ia_wI, ia_wR, ow_wI, ow_wR, wn_add, wn_mul, wn_cl, wn_le, wn_lt, wn_inj, wn_ne1, wn_1ne, wn_gt1, wn_le1, nb0, nb1, am_kt, am_rt, List.cons_append, List.nil_append, true_and, and_true, not_true_eq_false, not_false_eq_true, imp_f, imp_t, implies_true, Nat.zero_add, if_true, if_false]
        exact k G3 r3 e3 kk3
      · simp only [c3, decide_false, b01, Bool.false_eq_true, if_false]
        simp +decide (disch := omega) only [↓wm1, wb189_48 hc, w0, w1, w2, w3, w4, w5, w6, w7, w8, w9, w11, w12, w13, w14, w15, w16, w18, w19, w20, w21, rI_wI, rP_wI, rL_wI, rI_wR, rP_wR, is_wI, is_wR, ia_wI, ia_wR, ow_wI, ow_wR, wn_add, wn_mul, wn_cl, wn_le, wn_lt, wn_inj, wn_ne1, wn_1ne, wn_gt1, wn_le1, nb0, nb1, am_kt, am_rt, List.cons_append, List.nil_append, true_and, and_true, not_true_eq_false, not_false_eq_true, imp_f, imp_t, implies_true, Nat.zero_add, if_true, if_false]
        simp +decide (disch := omega) only [↓wm1, wb189_53 hc, w0, w1, w2, w3, w4, w5, w6, w7, w8, w9, w11, w12, w13, w14, w15, w16, w18, w19, w20, w21, rI_wI, rP_wI, rL_wI, rI_wR, rP_wR, is_wI, is_wR, ia_wI, ia_wR, ow_wI, ow_wR, wn_add, wn_mul, wn_cl, wn_le, wn_lt, wn_inj, wn_ne1, wn_1ne, wn_gt1, wn_le1, nb0, nb1, am_kt, am_rt, List.cons_append, List.nil_append, true_and, and_true, not_true_eq_false, not_false_eq_true, imp_f, imp_t, implies_true, Nat.zero_add, if_true, if_false, fM s3]
        refine ct166 spl_steal s3 r3 (fun G4 r4 e4 k4 => ?_)
        have s4 := s3.kp k4
        have kk4 := kk3.trans k4
        by_cases c4 : wrd t n p = [115, 116, 101, 97, 108]
        · simp only [c4, decide_true, b01, if_true]
          simp only [c1, c2, c3, c4, if_false, if_true] at k
          simp +decide (disch := omega) only [↓wm1, wb189_66 hc, wb189_69 hc, w0, w1, w2, w3, w4, w5, w6, w7, w8, w9, w11, w12, w13, w14, w15, w16, w18, w19, w20, w21, rI_wI, rP_wI, rL_wI, rI_wR, rP_wR, is_wI, is_wR, ia_wI, ia_wR, ow_wI, ow_wR, wn_add, wn_mul, wn_cl, wn_le, wn_lt, wn_inj, wn_ne1, wn_1ne, wn_gt1, wn_le1, nb0, nb1, am_kt, am_rt, List.cons_append, List.nil_append, true_and, and_true, not_true_eq_false, not_false_eq_true, imp_f, imp_t, implies_true, Nat.zero_add, if_true, if_false]
          exact k G4 r4 e4 kk4
        · simp only [c4, decide_false, b01, Bool.false_eq_true, if_false]
          simp +decide (disch := omega) only [↓wm1, wb189_66 hc, w0, w1, w2, w3, w4, w5, w6, w7, w8, w9, w11, w12, w13, w14, w15, w16, w18, w19, w20, w21, rI_wI, rP_wI, rL_wI, rI_wR, rP_wR, is_wI, is_wR, ia_wI, ia_wR, ow_wI, ow_wR, wn_add, wn_mul, wn_cl, wn_le, wn_lt, wn_inj, wn_ne1, wn_1ne, wn_gt1, wn_le1, nb0, nb1, am_kt, am_rt, List.cons_append, List.nil_append, true_and, and_true, not_true_eq_false, not_false_eq_true, imp_f, imp_t, implies_true, Nat.zero_add, if_true, if_false]
          simp +decide (disch := omega) only [↓wm1, wb189_71 hc, w0, w1, w2, w3, w4, w5, w6, w7, w8, w9, w11, w12, w13, w14, w15, w16, w18, w19, w20, w21, rI_wI, rP_wI, rL_wI, rI_wR, rP_wR, is_wI, is_wR, ia_wI, ia_wR, ow_wI, ow_wR, wn_add, wn_mul, wn_cl, wn_le, wn_lt, wn_inj, wn_ne1, wn_1ne, wn_gt1, wn_le1, nb0, nb1, am_kt, am_rt, List.cons_append, List.nil_append, true_and, and_true, not_true_eq_false, not_false_eq_true, imp_f, imp_t, implies_true, Nat.zero_add, if_true, if_false, fM s4]
          refine ct166 spl_bring s4 r4 (fun G5 r5 e5 k5 => ?_)
          have s5 := s4.kp k5
          have kk5 := kk4.trans k5
          by_cases c5 : wrd t n p = [98, 114, 105, 110, 103]
          · simp only [c5, decide_true, b01, if_true]
            simp only [c1, c2, c3, c4, c5, if_false, if_true] at k
            simp +decide (disch := omega) only [↓wm1, wb189_85 hc, wb189_88 hc, w0, w1, w2, w3, w4, w5, w6, w7, w8, w9, w11, w12, w13, w14, w15, w16, w18, w19, w20, w21, rI_wI, rP_wI, rL_wI, rI_wR, rP_wR, is_wI, is_wR, ia_wI, ia_wR, ow_wI, ow_wR, wn_add, wn_mul, wn_cl, wn_le, wn_lt, wn_inj, wn_ne1, wn_1ne, wn_gt1, wn_le1, nb0, nb1, am_kt, am_rt, List.cons_append, List.nil_append, true_and, and_true, not_true_eq_false, not_false_eq_true, imp_f, imp_t, implies_true, Nat.zero_add, if_true, if_false]
            exact k G5 r5 e5 kk5
          · simp only [c5, decide_false, b01, Bool.false_eq_true, if_false]
            simp +decide (disch := omega) only [↓wm1, wb189_85 hc, w0, w1, w2, w3, w4, w5, w6, w7, w8, w9, w11, w12, w13, w14, w15, w16, w18, w19, w20, w21, rI_wI, rP_wI, rL_wI, rI_wR, rP_wR, is_wI, is_wR, ia_wI, ia_wR, ow_wI, ow_wR, wn_add, wn_mul, wn_cl, wn_le, wn_lt, wn_inj, wn_ne1, wn_1ne, wn_gt1, wn_le1, nb0, nb1, am_kt, am_rt, List.cons_append, List.nil_append, true_and, and_true, not_true_eq_false, not_false_eq_true, imp_f, imp_t, implies_true, Nat.zero_add, if_true, if_false]
            simp +decide (disch := omega) only [↓wm1, wb189_90 hc, w0, w1, w2, w3, w4, w5, w6, w7, w8, w9, w11, w12, w13, w14, w15, w16, w18, w19, w20, w21, rI_wI, rP_wI, rL_wI, rI_wR, rP_wR, is_wI, is_wR, ia_wI, ia_wR, ow_wI, ow_wR, wn_add, wn_mul, wn_cl, wn_le, wn_lt, wn_inj, wn_ne1, wn_1ne, wn_gt1, wn_le1, nb0, nb1, am_kt, am_rt, List.cons_append, List.nil_append, true_and, and_true, not_true_eq_false, not_false_eq_true, imp_f, imp_t, implies_true, Nat.zero_add, if_true, if_false, fM s5]
            refine ct166 spl_damp s5 r5 (fun G6 r6 e6 k6 => ?_)
            have s6 := s5.kp k6
            have kk6 := kk5.trans k6
            by_cases c6 : wrd t n p = [100, 97, 109, 112]
            · simp only [c6, decide_true, b01, if_true]
              simp only [c1, c2, c3, c4, c5, c6, if_false, if_true] at k
              simp +decide (disch := omega) only [↓wm1, wb189_102 hc, wb189_105 hc, w0, w1, w2, w3, w4, w5, w6, w7, w8, w9, w11, w12, w13, w14, w15, w16, w18, w19, w20, w21, rI_wI, rP_wI, rL_wI, rI_wR, rP_wR, is_wI, is_wR, ia_wI, ia_wR, ow_wI, ow_wR, wn_add, wn_mul, wn_cl, wn_le, wn_lt, wn_inj, wn_ne1, wn_1ne, wn_gt1, wn_le1, nb0, nb1, am_kt, am_rt, List.cons_append, List.nil_append, true_and, and_true, not_true_eq_false, not_false_eq_true, imp_f, imp_t, implies_true, Nat.zero_add, if_true, if_false]
              exact k G6 r6 e6 kk6
            · simp only [c6, decide_false, b01, Bool.false_eq_true, if_false]
              simp +decide (disch := omega) only [↓wm1, wb189_102 hc, w0, w1, w2, w3, w4, w5, w6, w7, w8, w9, w11, w12, w13, w14, w15, w16, w18, w19, w20, w21, rI_wI, rP_wI, rL_wI, rI_wR, rP_wR, is_wI, is_wR, ia_wI, ia_wR, ow_wI, ow_wR, wn_add, wn_mul, wn_cl, wn_le, wn_lt, wn_inj, wn_ne1, wn_1ne, wn_gt1, wn_le1, nb0, nb1, am_kt, am_rt, List.cons_append, List.nil_append, true_and, and_true, not_true_eq_false, not_false_eq_true, imp_f, imp_t, implies_true, Nat.zero_add, if_true, if_false]
              simp +decide (disch := omega) only [↓wm1, wb189_107 hc, w0, w1, w2, w3, w4, w5, w6, w7, w8, w9, w11, w12, w13, w14, w15, w16, w18, w19, w20, w21, rI_wI, rP_wI, rL_wI, rI_wR, rP_wR, is_wI, is_wR, ia_wI, ia_wR, ow_wI, ow_wR, wn_add, wn_mul, wn_cl, wn_le, wn_lt, wn_inj, wn_ne1, wn_1ne, wn_gt1, wn_le1, nb0, nb1, am_kt, am_rt, List.cons_append, List.nil_append, true_and, and_true, not_true_eq_false, not_false_eq_true, imp_f, imp_t, implies_true, Nat.zero_add, if_true, if_false, fM s6]
              refine ct166 spl_hour s6 r6 (fun G7 r7 e7 k7 => ?_)
              have s7 := s6.kp k7
              have kk7 := kk6.trans k7
              by_cases c7 : wrd t n p = [104, 111, 117, 114]
              · simp only [c7, decide_true, b01, if_true]
                simp only [c1, c2, c3, c4, c5, c6, c7, if_false, if_true] at k
                simp +decide (disch := omega) only [↓wm1, wb189_121 hc, wb189_124 hc, w0, w1, w2, w3, w4, w5, w6, w7, w8, w9, w11, w12, w13, w14, w15, w16, w18, w19, w20, w21, rI_wI, rP_wI, rL_wI, rI_wR, rP_wR, is_wI, is_wR, ia_wI, ia_wR, ow_wI, ow_wR, wn_add, wn_mul, wn_cl, wn_le, wn_lt, wn_inj, wn_ne1, wn_1ne, wn_gt1, wn_le1, nb0, nb1, am_kt, am_rt, List.cons_append, List.nil_append, true_and, and_true, not_true_eq_false, not_false_eq_true, imp_f, imp_t, implies_true, Nat.zero_add, if_true, if_false]
                exact k G7 r7 e7 kk7
              · simp only [c7, decide_false, b01, Bool.false_eq_true, if_false]
                simp +decide (disch := omega) only [↓wm1, wb189_121 hc, w0, w1, w2, w3, w4, w5, w6, w7, w8, w9, w11, w12, w13, w14, w15, w16, w18, w19, w20, w21, rI_wI, rP_wI, rL_wI, rI_wR, rP_wR, is_wI, is_wR, ia_wI, ia_wR, ow_wI, ow_wR, wn_add, wn_mul, wn_cl, wn_le, wn_lt, wn_inj, wn_ne1, wn_1ne, wn_gt1, wn_le1, nb0, nb1, am_kt, am_rt, List.cons_append, List.nil_append, true_and, and_true, not_true_eq_false, not_false_eq_true, imp_f, imp_t, implies_true, Nat.zero_add, if_true, if_false]
                simp +decide (disch := omega) only [↓wm1, wb189_127 hc, w0, w1, w2, w3, w4, w5, w6, w7, w8, w9, w11, w12, w13, w14, w15, w16, w18, w19, w20, w21, rI_wI, rP_wI, rL_wI, rI_wR, rP_wR, is_wI, is_wR, ia_wI, ia_wR, ow_wI, ow_wR, wn_add, wn_mul, wn_cl, wn_le, wn_lt, wn_inj, wn_ne1, wn_1ne, wn_gt1, wn_le1, nb0, nb1, am_kt, am_rt, List.cons_append, List.nil_append, true_and, and_true, not_true_eq_false, not_false_eq_true, imp_f, imp_t, implies_true, Nat.zero_add, if_true, if_false, fM s7]
                refine ct166 spl_again s7 r7 (fun G8 r8 e8 k8 => ?_)
                have s8 := s7.kp k8
                have kk8 := kk7.trans k8
                by_cases c8 : wrd t n p = [97, 103, 97, 105, 110]
                · simp only [c8, decide_true, b01, if_true]
                  simp only [c1, c2, c3, c4, c5, c6, c7, c8, if_false, if_true] at k
                  simp +decide (disch := omega) only [↓wm1, wb189_140 hc, wb189_143 hc, wb189_149 hc, w0, w1, w2, w3, w4, w5, w6, w7, w8, w9, w11, w12, w13, w14, w15, w16, w18, w19, w20, w21, rI_wI, rP_wI, rL_wI, rI_wR, rP_wR, is_wI, is_wR, ia_wI, ia_wR, ow_wI, ow_wR, wn_add, wn_mul, wn_cl, wn_le, wn_lt, wn_inj, wn_ne1, wn_1ne, wn_gt1, wn_le1, nb0, nb1, am_kt, am_rt, List.cons_append, List.nil_append, true_and, and_true, not_true_eq_false, not_false_eq_true, imp_f, imp_t, implies_true, Nat.zero_add, if_true, if_false]
                  exact k G8 r8 e8 kk8
                · simp only [c8, decide_false, b01, Bool.false_eq_true, if_false]
                  simp only [c1, c2, c3, c4, c5, c6, c7, c8, if_false] at k
                  simp +decide (disch := omega) only [↓wm1, wb189_140 hc, wb189_148 hc, wb189_149 hc, w0, w1, w2, w3, w4, w5, w6, w7, w8, w9, w11, w12, w13, w14, w15, w16, w18, w19, w20, w21, rI_wI, rP_wI, rL_wI, rI_wR, rP_wR, is_wI, is_wR, ia_wI, ia_wR, ow_wI, ow_wR, wn_add, wn_mul, wn_cl, wn_le, wn_lt, wn_inj, wn_ne1, wn_1ne, wn_gt1, wn_le1, nb0, nb1, am_kt, am_rt, List.cons_append, List.nil_append, true_and, and_true, not_true_eq_false, not_false_eq_true, imp_f, imp_t, implies_true, Nat.zero_add, if_true, if_false]
                  exact k G8 r8 e8 kk8
theorem ct174 {k : Nat} (hk : k < 3) : am_C am_T (d + 1) 174 [.int (wn k)] G post ↔ post (.inl (some (.int (wn (6 + k))))) G := by
  have hc := am_C_one am_T d
  rw [we174]
  have hk' : k = 0 ∨ k = 1 ∨ k = 2 := by omega
  rcases hk' with rfl | rfl | rfl <;> simp +decide (disch := omega) only [↓wm1, wb174_0 hc, wb174_4 hc, wb174_9 hc, wb174_14 hc, wb174_19 hc, wb174_21 hc, w0, w1, w6, w7, w8, rI_wI, rP_wI, rL_wI, rI_wR, rP_wR, is_wI, is_wR, ia_wI, ia_wR, ow_wI, ow_wR, wn_add, wn_mul, wn_cl, wn_le, wn_lt, wn_inj, wn_ne1, wn_1ne, wn_gt1, wn_le1, nb0, nb1, am_kt, am_rt, List.cons_append, List.nil_append, true_and, and_true, not_true_eq_false, not_false_eq_true, imp_f, imp_t, implies_true, Nat.zero_add, if_true, if_false]
/-- the reference's draft of a district -/
def rEr (G : am_G) (δ : Dt) : Prop := am_gI G 337 0 = wn (dB δ) ∧ am_gI G 337 1 = wn (dH δ) ∧ am_gI G 337 2 = wn (dD δ) ∧ am_gI G 337 3 = wn (dW δ) ∧ (∀ b, b < dB δ → am_gI G (340 + b) 0 = wn (bM δ b) ∧ am_gI G (340 + b) 1 = wn (bL δ b)) ∧ (∀ h, h < dH δ → am_gI G (354 + h) 0 = wn (hF δ h) ∧ am_gI G (354 + h) 1 = wn (hE δ h)) ∧ ∀ e, e < dD δ → am_gI G (370 + e) 0 = wn (eH δ e) ∧ am_gI G (370 + e) 1 = wn (eM δ e) ∧ am_gI G (370 + e) 2 = wn (eN δ e)
def CS : Nat → Nat → Prop := fun a i => (a = 334 ∧ 4 ≤ i ∧ i ≤ 8) ∨ a = 337 ∨ (340 ≤ a ∧ a ≤ 345) ∨ (354 ≤ a ∧ a ≤ 360) ∨ (370 ≤ a ∧ a ≤ 377)
theorem rEr.kp {Sc : Nat → Nat → Prop} {G G' : am_G} {δ : Dt} (h : rEr G δ) (v : vD δ) (k : Kp Sc G G') (hn : ∀ q i, (q = 337 ∨ (340 ≤ q ∧ q ≤ 345) ∨ (354 ≤ q ∧ q ≤ 360) ∨ (370 ≤ q ∧ q ≤ 377)) → ¬ Sc q i) : rEr G' δ := by
  obtain ⟨r0, r1, r2, r3, r4, r5, r6⟩ := h
  obtain ⟨v0, v1, v2, v3⟩ := v
  refine ⟨?_, ?_, ?_, ?_, fun b hb => ⟨?_, ?_⟩, fun b hb => ⟨?_, ?_⟩, fun b hb => ⟨?_, ?_, ?_⟩⟩
  · rw [k.i (hn _ _ (by omega))]; exact r0
  · rw [k.i (hn _ _ (by omega))]; exact r1
  · rw [k.i (hn _ _ (by omega))]; exact r2
  · rw [k.i (hn _ _ (by omega))]; exact r3
  · rw [k.i (hn _ _ (by omega))]; exact (r4 b hb).1
  · rw [k.i (hn _ _ (by omega))]; exact (r4 b hb).2
  · rw [k.i (hn _ _ (by omega))]; exact (r5 b hb).1
  · rw [k.i (hn _ _ (by omega))]; exact (r5 b hb).2
  · rw [k.i (hn _ _ (by omega))]; exact (r6 b hb).1
  · rw [k.i (hn _ _ (by omega))]; exact (r6 b hb).2.1
  · rw [k.i (hn _ _ (by omega))]; exact (r6 b hb).2.2
theorem Kp.cs {G G' : am_G} (k : Kp QS G G') : Kp CS G G' := k.mono (fun _ _ z => Or.inl ⟨z.1, z.2.1, Nat.le_trans z.2.2 (by decide)⟩)
theorem ra_wI (G : am_G) (a i b : Nat) (v j : Int32) : am_ra (am_wI G a i v) b j = am_ra G b j := rfl
theorem Kp.cs4 {G G' : am_G} (k : Kp Q4 G G') : Kp CS G G' := k.q4.cs
theorem rQ.wI {G : am_G} {t : Nat → Nat} {n p o a i : Nat} (h : rQ G t n p o) (v : Int32) (ha : 335 < a) : rQ (am_wI G a i v) t n p o := h.kp (Sc := fun b _ => b = a) ((Kp.refl G).wI (by exact rfl) v) (fun b j z => by omega)
theorem fQ.wI {G : am_G} {t : Nat → Nat} {n k w a i : Nat} (h : fQ G t n k w) (v : Int32) (ha : 335 < a) : fQ (am_wI G a i v) t n k w := h.kp (Sc := fun b _ => b = a) ((Kp.refl G).wI (by exact rfl) v) (fun b j z => by omega)
/-- behind a fault the rest of a clause does nothing that counts -/
theorem ct175_tg {k kk w : Nat} {o2 o3 : Option Value} (hsh : Sh G) (h : fQ G t n kk w) (hk : k < 4) (kbad : ∀ G', fQ G' t n kk w → Kp CS G G' → post (.inl none) G') : am_W (am_C am_T d) am_175 post 276 [some (.ref 334), some (.int (wn k)), o2, o3] [] G := by
  have hc := am_C_one am_T d
  have h7 := h.2.2.2.2.2.2.1
  have hkk : ¬ kk = 0 := by have := h.2.2.2.2.2.1; omega
  have hk3 : kk < 2147483648 := by have := h.2.2.2.2.2.1; omega
  by_cases c : 3 ≤ k
  · simp +decide (disch := omega) only [↓wm1, wb175_276 hc, wb175_302 hc, w0, w1, w2, w3, w9, w30, w59, w60, w200, rI_wI, rP_wI, rL_wI, rI_wR, rP_wR, is_wI, is_wR, ia_wI, ia_wR, ow_wI, ow_wR, wn_add, wn_mul, wn_cl, wn_le, wn_lt, wn_inj, wn_ne1, wn_1ne, wn_gt1, wn_le1, nb0, nb1, am_kt, am_rt, List.cons_append, List.nil_append, true_and, and_true, not_true_eq_false, not_false_eq_true, imp_f, imp_t, implies_true, Nat.zero_add, if_true, if_false, fM hsh, c]
    exact kbad G h (Kp.refl G)
  · simp +decide (disch := omega) only [↓wm1, wb175_276 hc, wb175_281 hc, wb175_299 hc, wb175_300 hc, wb175_302 hc, w0, w1, w2, w3, w9, w30, w59, w60, w200, rI_wI, rP_wI, rL_wI, rI_wR, rP_wR, is_wI, is_wR, ia_wI, ia_wR, ow_wI, ow_wR, wn_add, wn_mul, wn_cl, wn_le, wn_lt, wn_inj, wn_ne1, wn_1ne, wn_gt1, wn_le1, nb0, nb1, am_kt, am_rt, List.cons_append, List.nil_append, true_and, and_true, not_true_eq_false, not_false_eq_true, imp_f, imp_t, implies_true, Nat.zero_add, if_true, if_false, fM hsh, c, ia337 hsh, ow337 hsh, h7, hkk]
    exact kbad _ (h.wI _ (by decide)) ((Kp.refl G).wI (Or.inr (Or.inl rfl)) _)
theorem ct175_tf {k kk w : Nat} {o2 o3 : Option Value} (hk : k < 4) (hsh : Sh G) (h : fQ G t n kk w) (kbad : ∀ G', fQ G' t n kk w → Kp CS G G' → post (.inl none) G') : am_W (am_C am_T (d + 1)) am_175 post 270 [some (.ref 334), some (.int (wn k)), o2, o3] [] G := by
  have hc := am_C_one am_T (d + 1)
  rw [wb175_270 hc]
  simp +decide (disch := omega) only [↓wm1, w0, w1, rI_wI, rP_wI, rL_wI, rI_wR, rP_wR, is_wI, is_wR, ia_wI, ia_wR, ow_wI, ow_wR, wn_add, wn_mul, wn_cl, wn_le, wn_lt, wn_inj, wn_ne1, wn_1ne, wn_gt1, wn_le1, nb0, nb1, am_kt, am_rt, List.cons_append, List.nil_append, true_and, and_true, not_true_eq_false, not_false_eq_true, imp_f, imp_t, implies_true, Nat.zero_add, if_true, if_false, fM hsh, ct169f hsh h]
  exact ct175_tg hsh h hk kbad

theorem ct175_b0 {p0 c : Nat} (hsh : Sh G) (h : rQ G t n p o) (hr : rEr G δ) (hv : vD δ) (hB : dB δ < 6) (h7 : am_gI G 334 7 = wn c)
    (kok : ∀ q δ' G', pb (pbell t n p p0 δ) (fun x => pb (psgn t n x.1 59) (fun q => .inr (q, x.2))) = .inr (q, δ') → rQ G' t n q o → rEr G' δ' → am_gI G' 334 7 = wn c → Kp CS G G' → post (.inl none) G')
    (kbad : ∀ k w G', pb (pbell t n p p0 δ) (fun x => pb (psgn t n x.1 59) (fun q => .inr (q, x.2))) = .inl (k, w) → fQ G' t n k w → Kp CS G G' → post (.inl none) G') : am_W (am_C am_T (d + 4)) am_175 post 124 [some (.ref 334), some (.int (wn 0)), some (.int (wn (dB δ))), none] [] G := by
  have hc := am_C_one am_T (d + 4)
  obtain ⟨r1, r2, r3, r4, r5, r6, r7⟩ := hr
  have hBn : ¬ dB δ = 6 := by omega
  unfold pbell at kok kbad
  rw [if_neg hBn] at kok kbad
  rw [wb175_124 hc]
  simp +decide (disch := omega) only [↓wm1, w0, w1, rI_wI, rP_wI, rL_wI, rI_wR, rP_wR, is_wI, is_wR, ia_wI, ia_wR, ow_wI, ow_wR, wn_add, wn_mul, wn_cl, wn_le, wn_lt, wn_inj, wn_ne1, wn_1ne, wn_gt1, wn_le1, nb0, nb1, am_kt, am_rt, List.cons_append, List.nil_append, true_and, and_true, not_true_eq_false, not_false_eq_true, imp_f, imp_t, implies_true, Nat.zero_add, if_true, if_false, fM hsh, fr339 hsh]
  refine ct163 (lo := 0) (hi := 10) hsh h rfl (by decide) (by decide) (fun v q1 G1 e1 h1 k1 => ?_) (fun kk G1 e1 h1 k1 => ?_)
  · have s1 := hsh.kp k1
    simp +decide (disch := omega) only [↓wm1, wb175_138 hc, w0, w1, w2, w3, w9, w30, w59, w60, w200, rI_wI, rP_wI, rL_wI, rI_wR, rP_wR, is_wI, is_wR, ia_wI, ia_wR, ow_wI, ow_wR, wn_add, wn_mul, wn_cl, wn_le, wn_lt, wn_inj, wn_ne1, wn_1ne, wn_gt1, wn_le1, nb0, nb1, am_kt, am_rt, List.cons_append, List.nil_append, true_and, and_true, not_true_eq_false, not_false_eq_true, imp_f, imp_t, implies_true, Nat.zero_add, if_true, if_false, fM s1, fr339 s1, ra_wI, rP_wI]
    refine ct163 (G := am_wI G1 (340 + dB δ) 0 (wn v)) (lo := 1) (hi := 61) s1 (h1.wI _ (by omega)) rfl (by decide) (by decide) (fun w q2 G2 e2 h2 k2 => ?_) (fun kk G2 e2 h2 k2 => ?_)
    · have s2 := Sh.kp (G := am_wI G1 (340 + dB δ) 0 (wn v)) s1 k2
      simp only [e1, pb, e2] at kok kbad
      simp +decide (disch := omega) only [↓wm1, wb175_153 hc, w0, w1, w2, w3, w9, w30, w59, w60, w200, rI_wI, rP_wI, rL_wI, rI_wR, rP_wR, is_wI, is_wR, ia_wI, ia_wR, ow_wI, ow_wR, wn_add, wn_mul, wn_cl, wn_le, wn_lt, wn_inj, wn_ne1, wn_1ne, wn_gt1, wn_le1, nb0, nb1, am_kt, am_rt, List.cons_append, List.nil_append, true_and, and_true, not_true_eq_false, not_false_eq_true, imp_f, imp_t, implies_true, Nat.zero_add, if_true, if_false, fM s2, fr339 s2]
      rw [wb175_270 hc]
      simp +decide (disch := omega) only [↓wm1, w0, w1, rI_wI, rP_wI, rL_wI, rI_wR, rP_wR, is_wI, is_wR, ia_wI, ia_wR, ow_wI, ow_wR, wn_add, wn_mul, wn_cl, wn_le, wn_lt, wn_inj, wn_ne1, wn_1ne, wn_gt1, wn_le1, nb0, nb1, am_kt, am_rt, List.cons_append, List.nil_append, true_and, and_true, not_true_eq_false, not_false_eq_true, imp_f, imp_t, implies_true, Nat.zero_add, if_true, if_false, fM s2]
      have kG : Kp CS G (am_wI G2 (340 + dB δ) 1 (wn w)) := ((k1.cs.wI (by unfold CS; omega) _).trans k2.cs).wI (by unfold CS; omega) _
      refine ct169 (G := am_wI G2 (340 + dB δ) 1 (wn w)) s2 (h2.wI _ (by omega)) (by decide) (fun q3 G3 e3 h3 k3 => ?_) (fun G3 e3 h3 k3 => ?_)
      · have s3 := Sh.kp (G := am_wI G2 (340 + dB δ) 1 (wn w)) s2 k3
        simp only [e3] at kok
        have f5 := h3.2.2.2.2.2.2.2.2.1
        have kk : ∀ b j, 337 ≤ b → ¬ (b = 340 + dB δ ∧ (j = 0 ∨ j = 1)) → am_gI G3 b j = am_gI G b j := by
          intro b j z1 z2
          rw [k3.i (by unfold QS; omega), rI_wI, if_neg (by omega), k2.i (by unfold QS; omega), rI_wI, if_neg (by omega), k1.i (by unfold QS; omega)]
        have g0 : am_gI G3 337 0 = wn (dB δ) := by rw [kk _ _ (by omega) (by omega)]; exact r1
        have f0 : am_gI G3 (340 + dB δ) 0 = wn v := by
          rw [k3.i (by unfold QS; omega), rI_wI, if_neg (by omega), k2.i (by unfold QS; omega), rI_wI, if_pos ⟨rfl, rfl⟩]
        have f1 : am_gI G3 (340 + dB δ) 1 = wn w := by
          rw [k3.i (by unfold QS; omega), rI_wI, if_pos ⟨rfl, rfl⟩]
        simp +decide (disch := omega) only [↓wm1, wb175_276 hc, wb175_281 hc, wb175_295 hc, wb175_300 hc, wb175_302 hc, w0, w1, w2, w3, w9, w30, w59, w60, w200, rI_wI, rP_wI, rL_wI, rI_wR, rP_wR, is_wI, is_wR, ia_wI, ia_wR, ow_wI, ow_wR, wn_add, wn_mul, wn_cl, wn_le, wn_lt, wn_inj, wn_ne1, wn_1ne, wn_gt1, wn_le1, nb0, nb1, am_kt, am_rt, List.cons_append, List.nil_append, true_and, and_true, not_true_eq_false, not_false_eq_true, imp_f, imp_t, implies_true, Nat.zero_add, if_true, if_false, fM s3, ia337 s3, ow337 s3, g0, f5]
        refine kok q3 (addB δ v w) _ rfl (h3.wI _ (by decide)) ⟨?_, ?_, ?_, ?_, fun b hb => ?_, fun b hb => ?_, fun b hb => ?_⟩ ?_ ((kG.trans k3.cs).wI (Or.inr (Or.inl rfl)) _)
        · rw [rI_wI, if_pos ⟨rfl, rfl⟩]; rfl
        · rw [rI_wI, if_neg (by omega), kk _ _ (by omega) (by omega)]; exact r2
        · rw [rI_wI, if_neg (by omega), kk _ _ (by omega) (by omega)]; exact r3
        · rw [rI_wI, if_neg (by omega), kk _ _ (by omega) (by omega)]; exact r4
        · change b < dB δ + 1 at hb
          show am_gI _ (340 + b) 0 = wn (up1 (bM δ) (dB δ) v b) ∧ am_gI _ (340 + b) 1 = wn (up1 (bL δ) (dB δ) w b)
          rw [rI_wI, if_neg (by omega), rI_wI, if_neg (by omega)]
          by_cases e : b = dB δ
          · subst e
            rw [up1_s, up1_s]
            exact ⟨f0, f1⟩
          · rw [up1_o _ _ e, up1_o _ _ e, kk _ _ (by omega) (by omega), kk _ _ (by omega) (by omega)]
            exact r5 b (by omega)
        · have hb7 : b < 8 := by have q1 := hv.1; have q2 := hv.2.1; first | (change b < dH δ at hb; omega) | (change b < dB δ at hb; omega)
          rw [rI_wI, if_neg (by omega), rI_wI, if_neg (by omega), kk _ _ (by omega) (by omega), kk _ _ (by omega) (by omega)]
          exact r6 b hb
        · have hb8 : b < 8 := by have q1 := hv.2.2.1; change b < dD δ at hb; omega
          rw [rI_wI, if_neg (by omega), rI_wI, if_neg (by omega), rI_wI, if_neg (by omega), kk _ _ (by omega) (by omega), kk _ _ (by omega) (by omega), kk _ _ (by omega) (by omega)]
          exact r7 b hb
        · rw [rI_wI, if_neg (by omega), k3.i (by unfold QS; omega), rI_wI, if_neg (by omega), k2.i (by unfold QS; omega), rI_wI, if_neg (by omega), k1.i (by unfold QS; omega)]; exact h7
      · have s3 := Sh.kp (G := am_wI G2 (340 + dB δ) 1 (wn w)) s2 k3
        simp only [e3] at kbad
        simp +decide (disch := omega) only [↓wm1, w0, w1, rI_wI, rP_wI, rL_wI, rI_wR, rP_wR, is_wI, is_wR, ia_wI, ia_wR, ow_wI, ow_wR, wn_add, wn_mul, wn_cl, wn_le, wn_lt, wn_inj, wn_ne1, wn_1ne, wn_gt1, wn_le1, nb0, nb1, am_kt, am_rt, List.cons_append, List.nil_append, true_and, and_true, not_true_eq_false, not_false_eq_true, imp_f, imp_t, implies_true, Nat.zero_add, if_true, if_false, am_kt]
        exact ct175_tg s3 h3 (by decide) (fun G4 h4 k4 => kbad 1 q2 G4 rfl h4 ((kG.trans k3.cs).trans k4))
    · have s2 := Sh.kp (G := am_wI G1 (340 + dB δ) 0 (wn v)) s1 k2
      simp only [e1, pb, e2] at kbad
      simp +decide (disch := omega) only [↓wm1, wb175_153 hc, w0, w1, w2, w3, w9, w30, w59, w60, w200, rI_wI, rP_wI, rL_wI, rI_wR, rP_wR, is_wI, is_wR, ia_wI, ia_wR, ow_wI, ow_wR, wn_add, wn_mul, wn_cl, wn_le, wn_lt, wn_inj, wn_ne1, wn_1ne, wn_gt1, wn_le1, nb0, nb1, am_kt, am_rt, List.cons_append, List.nil_append, true_and, and_true, not_true_eq_false, not_false_eq_true, imp_f, imp_t, implies_true, Nat.zero_add, if_true, if_false, fM s2, fr339 s2]
      exact ct175_tf (G := am_wI G2 (340 + dB δ) 1 (wn 0)) (by decide) s2 (h2.wI _ (by omega)) (fun G4 h4 k4 => kbad kk q1 G4 rfl h4 ((((k1.cs.wI (by unfold CS; omega) _).trans k2.cs).wI (by unfold CS; omega) _).trans k4))
  · have s1 := hsh.kp k1
    simp only [e1, pb] at kbad
    have h1' : fQ (am_wI G1 (340 + dB δ) 0 (wn 0)) t n kk p := h1.wI _ (by omega)
    simp +decide (disch := omega) only [↓wm1, wb175_138 hc, w0, w1, w2, w3, w9, w30, w59, w60, w200, rI_wI, rP_wI, rL_wI, rI_wR, rP_wR, is_wI, is_wR, ia_wI, ia_wR, ow_wI, ow_wR, wn_add, wn_mul, wn_cl, wn_le, wn_lt, wn_inj, wn_ne1, wn_1ne, wn_gt1, wn_le1, nb0, nb1, am_kt, am_rt, List.cons_append, List.nil_append, true_and, and_true, not_true_eq_false, not_false_eq_true, imp_f, imp_t, implies_true, Nat.zero_add, if_true, if_false, fM s1, fr339 s1, ra_wI, rP_wI]
    rw [ct163f (G := am_wI G1 (340 + dB δ) 0 (wn 0)) s1 h1']
    simp +decide (disch := omega) only [↓wm1, wb175_153 hc, w0, w1, w2, w3, w9, w30, w59, w60, w200, rI_wI, rP_wI, rL_wI, rI_wR, rP_wR, is_wI, is_wR, ia_wI, ia_wR, ow_wI, ow_wR, wn_add, wn_mul, wn_cl, wn_le, wn_lt, wn_inj, wn_ne1, wn_1ne, wn_gt1, wn_le1, nb0, nb1, am_kt, am_rt, List.cons_append, List.nil_append, true_and, and_true, not_true_eq_false, not_false_eq_true, imp_f, imp_t, implies_true, Nat.zero_add, if_true, if_false, fM s1, fr339 s1]
    exact ct175_tf (G := am_wI (am_wI G1 (340 + dB δ) 0 (wn 0)) (340 + dB δ) 1 (wn 0)) (by decide) s1 (h1'.wI _ (by omega)) (fun G4 h4 k4 => kbad kk p G4 rfl h4 (((k1.cs.wI (by unfold CS; omega) _).wI (by unfold CS; omega) _).trans k4))
theorem ct175_b1 {p0 c : Nat} (hsh : Sh G) (h : rQ G t n p o) (hr : rEr G δ) (hv : vD δ) (hB : dH δ < 7) (h7 : am_gI G 334 7 = wn c)
    (kok : ∀ q δ' G', pb (phous t n p p0 δ) (fun x => pb (psgn t n x.1 59) (fun q => .inr (q, x.2))) = .inr (q, δ') → rQ G' t n q o → rEr G' δ' → am_gI G' 334 7 = wn c → Kp CS G G' → post (.inl none) G')
    (kbad : ∀ k w G', pb (phous t n p p0 δ) (fun x => pb (psgn t n x.1 59) (fun q => .inr (q, x.2))) = .inl (k, w) → fQ G' t n k w → Kp CS G G' → post (.inl none) G') : am_W (am_C am_T (d + 4)) am_175 post 157 [some (.ref 334), some (.int (wn 1)), some (.int (wn (dH δ))), none] [] G := by
  have hc := am_C_one am_T (d + 4)
  obtain ⟨r1, r2, r3, r4, r5, r6, r7⟩ := hr
  have hBn : ¬ dH δ = 7 := by omega
  unfold phous at kok kbad
  rw [if_neg hBn] at kok kbad
  rw [wb175_157 hc]
  simp +decide (disch := omega) only [↓wm1, w0, w1, rI_wI, rP_wI, rL_wI, rI_wR, rP_wR, is_wI, is_wR, ia_wI, ia_wR, ow_wI, ow_wR, wn_add, wn_mul, wn_cl, wn_le, wn_lt, wn_inj, wn_ne1, wn_1ne, wn_gt1, wn_le1, nb0, nb1, am_kt, am_rt, List.cons_append, List.nil_append, true_and, and_true, not_true_eq_false, not_false_eq_true, imp_f, imp_t, implies_true, Nat.zero_add, if_true, if_false, fM hsh, fr353 hsh]
  refine ct163 (lo := 0) (hi := 31) hsh h rfl (by decide) (by decide) (fun v q1 G1 e1 h1 k1 => ?_) (fun kk G1 e1 h1 k1 => ?_)
  · have s1 := hsh.kp k1
    simp +decide (disch := omega) only [↓wm1, wb175_171 hc, w0, w1, w2, w3, w9, w30, w59, w60, w200, rI_wI, rP_wI, rL_wI, rI_wR, rP_wR, is_wI, is_wR, ia_wI, ia_wR, ow_wI, ow_wR, wn_add, wn_mul, wn_cl, wn_le, wn_lt, wn_inj, wn_ne1, wn_1ne, wn_gt1, wn_le1, nb0, nb1, am_kt, am_rt, List.cons_append, List.nil_append, true_and, and_true, not_true_eq_false, not_false_eq_true, imp_f, imp_t, implies_true, Nat.zero_add, if_true, if_false, fM s1, fr353 s1, ra_wI, rP_wI]
    refine ct163 (G := am_wI G1 (354 + dH δ) 0 (wn v)) (lo := 0) (hi := 10) s1 (h1.wI _ (by omega)) rfl (by decide) (by decide) (fun w q2 G2 e2 h2 k2 => ?_) (fun kk G2 e2 h2 k2 => ?_)
    · have s2 := Sh.kp (G := am_wI G1 (354 + dH δ) 0 (wn v)) s1 k2
      simp only [e1, pb, e2] at kok kbad
      simp +decide (disch := omega) only [↓wm1, wb175_186 hc, w0, w1, w2, w3, w9, w30, w59, w60, w200, rI_wI, rP_wI, rL_wI, rI_wR, rP_wR, is_wI, is_wR, ia_wI, ia_wR, ow_wI, ow_wR, wn_add, wn_mul, wn_cl, wn_le, wn_lt, wn_inj, wn_ne1, wn_1ne, wn_gt1, wn_le1, nb0, nb1, am_kt, am_rt, List.cons_append, List.nil_append, true_and, and_true, not_true_eq_false, not_false_eq_true, imp_f, imp_t, implies_true, Nat.zero_add, if_true, if_false, fM s2, fr353 s2]
      rw [wb175_270 hc]
      simp +decide (disch := omega) only [↓wm1, w0, w1, rI_wI, rP_wI, rL_wI, rI_wR, rP_wR, is_wI, is_wR, ia_wI, ia_wR, ow_wI, ow_wR, wn_add, wn_mul, wn_cl, wn_le, wn_lt, wn_inj, wn_ne1, wn_1ne, wn_gt1, wn_le1, nb0, nb1, am_kt, am_rt, List.cons_append, List.nil_append, true_and, and_true, not_true_eq_false, not_false_eq_true, imp_f, imp_t, implies_true, Nat.zero_add, if_true, if_false, fM s2]
      have kG : Kp CS G (am_wI G2 (354 + dH δ) 1 (wn w)) := ((k1.cs.wI (by unfold CS; omega) _).trans k2.cs).wI (by unfold CS; omega) _
      refine ct169 (G := am_wI G2 (354 + dH δ) 1 (wn w)) s2 (h2.wI _ (by omega)) (by decide) (fun q3 G3 e3 h3 k3 => ?_) (fun G3 e3 h3 k3 => ?_)
      · have s3 := Sh.kp (G := am_wI G2 (354 + dH δ) 1 (wn w)) s2 k3
        simp only [e3] at kok
        have f5 := h3.2.2.2.2.2.2.2.2.1
        have kk : ∀ b j, 337 ≤ b → ¬ (b = 354 + dH δ ∧ (j = 0 ∨ j = 1)) → am_gI G3 b j = am_gI G b j := by
          intro b j z1 z2
          rw [k3.i (by unfold QS; omega), rI_wI, if_neg (by omega), k2.i (by unfold QS; omega), rI_wI, if_neg (by omega), k1.i (by unfold QS; omega)]
        have g0 : am_gI G3 337 1 = wn (dH δ) := by rw [kk _ _ (by omega) (by omega)]; exact r2
        have f0 : am_gI G3 (354 + dH δ) 0 = wn v := by
          rw [k3.i (by unfold QS; omega), rI_wI, if_neg (by omega), k2.i (by unfold QS; omega), rI_wI, if_pos ⟨rfl, rfl⟩]
        have f1 : am_gI G3 (354 + dH δ) 1 = wn w := by
          rw [k3.i (by unfold QS; omega), rI_wI, if_pos ⟨rfl, rfl⟩]
        simp +decide (disch := omega) only [↓wm1, wb175_276 hc, wb175_281 hc, wb175_295 hc, wb175_300 hc, wb175_302 hc, w0, w1, w2, w3, w9, w30, w59, w60, w200, rI_wI, rP_wI, rL_wI, rI_wR, rP_wR, is_wI, is_wR, ia_wI, ia_wR, ow_wI, ow_wR, wn_add, wn_mul, wn_cl, wn_le, wn_lt, wn_inj, wn_ne1, wn_1ne, wn_gt1, wn_le1, nb0, nb1, am_kt, am_rt, List.cons_append, List.nil_append, true_and, and_true, not_true_eq_false, not_false_eq_true, imp_f, imp_t, implies_true, Nat.zero_add, if_true, if_false, fM s3, ia337 s3, ow337 s3, g0, f5]
        refine kok q3 (addH δ v w) _ rfl (h3.wI _ (by decide)) ⟨?_, ?_, ?_, ?_, fun b hb => ?_, fun b hb => ?_, fun b hb => ?_⟩ ?_ ((kG.trans k3.cs).wI (Or.inr (Or.inl rfl)) _)
        · rw [rI_wI, if_neg (by omega), kk _ _ (by omega) (by omega)]; exact r1
        · rw [rI_wI, if_pos ⟨rfl, rfl⟩]; rfl
        · rw [rI_wI, if_neg (by omega), kk _ _ (by omega) (by omega)]; exact r3
        · rw [rI_wI, if_neg (by omega), kk _ _ (by omega) (by omega)]; exact r4
        · have hb7 : b < 8 := by have q1 := hv.1; have q2 := hv.2.1; first | (change b < dH δ at hb; omega) | (change b < dB δ at hb; omega)
          rw [rI_wI, if_neg (by omega), rI_wI, if_neg (by omega), kk _ _ (by omega) (by omega), kk _ _ (by omega) (by omega)]
          exact r5 b hb
        · change b < dH δ + 1 at hb
          show am_gI _ (354 + b) 0 = wn (up1 (hF δ) (dH δ) v b) ∧ am_gI _ (354 + b) 1 = wn (up1 (hE δ) (dH δ) w b)
          rw [rI_wI, if_neg (by omega), rI_wI, if_neg (by omega)]
          by_cases e : b = dH δ
          · subst e
            rw [up1_s, up1_s]
            exact ⟨f0, f1⟩
          · rw [up1_o _ _ e, up1_o _ _ e, kk _ _ (by omega) (by omega), kk _ _ (by omega) (by omega)]
            exact r6 b (by omega)
        · have hb8 : b < 8 := by have q1 := hv.2.2.1; change b < dD δ at hb; omega
          rw [rI_wI, if_neg (by omega), rI_wI, if_neg (by omega), rI_wI, if_neg (by omega), kk _ _ (by omega) (by omega), kk _ _ (by omega) (by omega), kk _ _ (by omega) (by omega)]
          exact r7 b hb
        · rw [rI_wI, if_neg (by omega), k3.i (by unfold QS; omega), rI_wI, if_neg (by omega), k2.i (by unfold QS; omega), rI_wI, if_neg (by omega), k1.i (by unfold QS; omega)]; exact h7
      · have s3 := Sh.kp (G := am_wI G2 (354 + dH δ) 1 (wn w)) s2 k3
        simp only [e3] at kbad
        simp +decide (disch := omega) only [↓wm1, w0, w1, rI_wI, rP_wI, rL_wI, rI_wR, rP_wR, is_wI, is_wR, ia_wI, ia_wR, ow_wI, ow_wR, wn_add, wn_mul, wn_cl, wn_le, wn_lt, wn_inj, wn_ne1, wn_1ne, wn_gt1, wn_le1, nb0, nb1, am_kt, am_rt, List.cons_append, List.nil_append, true_and, and_true, not_true_eq_false, not_false_eq_true, imp_f, imp_t, implies_true, Nat.zero_add, if_true, if_false, am_kt]
        exact ct175_tg s3 h3 (by decide) (fun G4 h4 k4 => kbad 1 q2 G4 rfl h4 ((kG.trans k3.cs).trans k4))
    · have s2 := Sh.kp (G := am_wI G1 (354 + dH δ) 0 (wn v)) s1 k2
      simp only [e1, pb, e2] at kbad
      simp +decide (disch := omega) only [↓wm1, wb175_186 hc, w0, w1, w2, w3, w9, w30, w59, w60, w200, rI_wI, rP_wI, rL_wI, rI_wR, rP_wR, is_wI, is_wR, ia_wI, ia_wR, ow_wI, ow_wR, wn_add, wn_mul, wn_cl, wn_le, wn_lt, wn_inj, wn_ne1, wn_1ne, wn_gt1, wn_le1, nb0, nb1, am_kt, am_rt, List.cons_append, List.nil_append, true_and, and_true, not_true_eq_false, not_false_eq_true, imp_f, imp_t, implies_true, Nat.zero_add, if_true, if_false, fM s2, fr353 s2]
      exact ct175_tf (G := am_wI G2 (354 + dH δ) 1 (wn 0)) (by decide) s2 (h2.wI _ (by omega)) (fun G4 h4 k4 => kbad kk q1 G4 rfl h4 ((((k1.cs.wI (by unfold CS; omega) _).trans k2.cs).wI (by unfold CS; omega) _).trans k4))
  · have s1 := hsh.kp k1
    simp only [e1, pb] at kbad
    have h1' : fQ (am_wI G1 (354 + dH δ) 0 (wn 0)) t n kk p := h1.wI _ (by omega)
    simp +decide (disch := omega) only [↓wm1, wb175_171 hc, w0, w1, w2, w3, w9, w30, w59, w60, w200, rI_wI, rP_wI, rL_wI, rI_wR, rP_wR, is_wI, is_wR, ia_wI, ia_wR, ow_wI, ow_wR, wn_add, wn_mul, wn_cl, wn_le, wn_lt, wn_inj, wn_ne1, wn_1ne, wn_gt1, wn_le1, nb0, nb1, am_kt, am_rt, List.cons_append, List.nil_append, true_and, and_true, not_true_eq_false, not_false_eq_true, imp_f, imp_t, implies_true, Nat.zero_add, if_true, if_false, fM s1, fr353 s1, ra_wI, rP_wI]
    rw [ct163f (G := am_wI G1 (354 + dH δ) 0 (wn 0)) s1 h1']
    simp +decide (disch := omega) only [↓wm1, wb175_186 hc, w0, w1, w2, w3, w9, w30, w59, w60, w200, rI_wI, rP_wI, rL_wI, rI_wR, rP_wR, is_wI, is_wR, ia_wI, ia_wR, ow_wI, ow_wR, wn_add, wn_mul, wn_cl, wn_le, wn_lt, wn_inj, wn_ne1, wn_1ne, wn_gt1, wn_le1, nb0, nb1, am_kt, am_rt, List.cons_append, List.nil_append, true_and, and_true, not_true_eq_false, not_false_eq_true, imp_f, imp_t, implies_true, Nat.zero_add, if_true, if_false, fM s1, fr353 s1]
    exact ct175_tf (G := am_wI (am_wI G1 (354 + dH δ) 0 (wn 0)) (354 + dH δ) 1 (wn 0)) (by decide) s1 (h1'.wI _ (by omega)) (fun G4 h4 k4 => kbad kk p G4 rfl h4 (((k1.cs.wI (by unfold CS; omega) _).wI (by unfold CS; omega) _).trans k4))
end
