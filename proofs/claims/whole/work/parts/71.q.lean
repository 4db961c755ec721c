/-! Questions, both sides: century, span. -/
noncomputable def q_cent (V : Vt) (s : Int32) (n q w : Nat) : Int32 := match w with
  | 0 => wn (tsum (tIn (cen (vδ V) (vΛ V) q n (vσ V, s, 0)).1) (dH (vδ V)))
  | 1 => wn (tb (spk (cen (vδ V) (vΛ V) q n (vσ V, s, 0)).1) (dB (vδ V)))
  | 2 => wn (cen (vδ V) (vΛ V) q n (vσ V, s, 0)).2.2
  | _ => wn (tb (hmd (cen (vδ V) (vΛ V) q n (vσ V, s, 0)).1) (dH (vδ V)))
/-- fewest, most, by how many a house has a mood -/
noncomputable def spf (V : Vt) (s : Int32) (n q h : Nat) : Nat → Nat × Nat × Nat
  | 0 => (2147483647, 0, 0)
  | k + 1 => (min (spf V s n q h k).1 (cen (vδ V) (vΛ V) q n (vσ V, s + wn k, 0)).2.2, max (spf V s n q h k).2.1 (cen (vδ V) (vΛ V) q n (vσ V, s + wn k, 0)).2.2, (spf V s n q h k).2.2 + b01 (hmd (cen (vδ V) (vΛ V) q n (vσ V, s + wn k, 0)).1 h))
theorem spf_ok {V : Vt} {s : Int32} {n q h : Nat} (hB : dB (vδ V) ≤ 6) (hv : vS9 (dB (vδ V)) (dH (vδ V)) (vσ V)) (hn : n ≤ 96) : ∀ k, (spf V s n q h k).1 ≤ 2147483647 ∧ (1 ≤ k → (spf V s n q h k).1 ≤ 96) ∧ (spf V s n q h k).2.1 ≤ 96 := by
  intro k
  induction k with
  | zero => exact ⟨Nat.le_refl _, fun z => by omega, by simp [spf]⟩
  | succ k ih =>
    have := (cen_ok (Λ := vΛ V) (q := q) (s := s + wn k) hB hv n hn).2.2.1
    simp only [spf]
    omega
noncomputable def q_span (V : Vt) (s : Int32) (m n q w h : Nat) : Int32 := if w = 0 then wn (spf V s n q h m).1 else if w = 1 then wn (spf V s n q h m).2.1 else wn (spf V s n q h m).2.2
section
variable {G : am_G} {d : Nat} {V : Vt}
noncomputable def sp_century (V : Vt) (x1 x2 x3 x4 : Int32) : Res := if vin2 x2 1 (97) = true then if vin2 x3 0 (17) = true then if vin2 x4 0 (4) = true then .inl (q_cent V x1 (u x2) (u x3) (u x4)) else .inr 1 else .inr 1 else .inr 1
theorem cl_century (hR : RepC G V) (hB : am_rm G 1 6) (x1 x2 x3 x4 : Int32) : am_C am_T (d + 12) 133 [.ref 0, .int x1, .int x2, .int x3, .int x4] G (OC G (rfV V (sp_century V x1 x2 x3 x4)) (sp_century V x1 x2 x3 x4)) := by
  have hc := am_C_one am_T (d + 11)
  have hsh := hR.1
  have hv := hR.2.1
  obtain ⟨q, l, hT, -, -⟩ := hR.2.2.2.1
  have hr := hR.2.2.2.2.1.1
  have vd := hv.2.2.2.1
  have bB := vd.1
  have bH := vd.2.1
  have bD := vd.2.2.1
  have hs9 := hv.2.2.2.2.2.1
  have hvs := hs9.1
  have hg := hvs.g6 bB
  have ht := hvs.t6 bB
  have hm := hvs.2.2.2.2.2.1
  have h9 := hs9.2
  have p6 : 2 ^ dB (vδ V) ≤ 64 := Nat.pow_le_pow_right (n := 2) (by decide) bB
  have e6 := bs1 (dB (vδ V)) (by omega)
  unfold sp_century
  rw [we133]
  rcases vin2_or x2 1 (97) (by omega) (by omega) with ⟨b2, hl2, hh2, rfl⟩ | hx2
  · rw [if_pos (vin2_t hl2 hh2 (by omega))]
    have na2 : ¬ b2 < 1 := by omega
    have nb2 : ¬ 97 ≤ b2 := by omega
    have nc2 : ¬ 96 < b2 := by omega
    rcases vin2_or x3 0 (17) (by omega) (by omega) with ⟨b3, hl3, hh3, rfl⟩ | hx3
    · rw [if_pos (vin2_t hl3 hh3 (by omega))]
      have na3 : ¬ b3 < 0 := by omega
      have nb3 : ¬ 17 ≤ b3 := by omega
      have nc3 : ¬ 16 < b3 := by omega
      rcases vin2_or x4 0 (4) (by omega) (by omega) with ⟨b4, hl4, hh4, rfl⟩ | hx4
      · rw [if_pos (vin2_t hl4 hh4 (by omega))]
        have na4 : ¬ b4 < 0 := by omega
        have nb4 : ¬ 4 ≤ b4 := by omega
        have nc4 : ¬ 3 < b4 := by omega
        simp only [u_wn (show b2 < 2147483648 by omega), u_wn (show b3 < 2147483648 by omega), u_wn (show b4 < 2147483648 by omega)]
        generalize hP : OC G (rfV V (.inl (q_cent V x1 b2 b3 b4))) (.inl (q_cent V x1 b2 b3 b4)) = P
        simp +decide (disch := omega) only [↓wm1, wb133_0 hc, wb133_6 hc, wb133_12 hc, wb133_16 hc, wb133_17 hc, wb133_20 hc, wb133_25 hc, wb133_31 hc, wb133_35 hc, wb133_36 hc, wb133_39 hc, wb133_45 hc, wb133_51 hc, wb133_55 hc, wb133_56 hc, wb133_59 hc, wb133_80 hc, wb133_108 hc, wb133_118 hc, wb133_119 hc, wb133_133 hc, wb133_134 hc, wb133_142 hc, wb133_152 hc, w0, w1, w3, w16, w96, rI_wI, rP_wI, rL_wI, rI_wR, rP_wR, is_wI, is_wR, ia_wI, ia_wR, ow_wI, ow_wR, wn_add, wn_mul, wn_cl, wn_le, wn_lt, wn_inj, wn_ne1, wn_1ne, wn_gt1, wn_le1, nb0, nb1, am_kt, am_rt, List.cons_append, List.nil_append, true_and, and_true, not_true_eq_false, not_false_eq_true, imp_f, imp_t, implies_true, Nat.zero_add, if_true, if_false, false_and, and_false, cn133, fC hsh, fW2 hsh hT, fD hsh hT.2.2.1, e6, na2, nb2, hh2, nc2, ct139y (v := 1) (by decide) (by decide), na3, nb3, hh3, nc3, na4, nb4, hh4, nc4, fS hsh h32]
        refine ct1 ⟨hsh, hT, hr⟩ hs9 (by omega) (by omega) (fun G1 i1 y1 k1 => ?_)
        have ok := cen_ok (Λ := vΛ V) (q := b3) (s := x1) bB hs9 b2 (by omega)
        have vm := ok.1.2.2.2.2.2.1
        simp +decide (disch := omega) only [↓wm1, wb133_80 hc, w0, w1, w3, w16, w96, rI_wI, rP_wI, rL_wI, rI_wR, rP_wR, is_wI, is_wR, ia_wI, ia_wR, ow_wI, ow_wR, wn_add, wn_mul, wn_cl, wn_le, wn_lt, wn_inj, wn_ne1, wn_1ne, wn_gt1, wn_le1, nb0, nb1, am_kt, am_rt, List.cons_append, List.nil_append, true_and, and_true, not_true_eq_false, not_false_eq_true, imp_f, imp_t, implies_true, Nat.zero_add, if_true, if_false, false_and, and_false, cn133]
        simp only [am_swc_iff]
        have hcs : b4 = 0 ∨ b4 = 1 ∨ b4 = 2 ∨ b4 = 3 := by omega
        rcases hcs with rfl | rfl | rfl | rfl
        · rw [show am_swt (wn 0) (wn 0) [108, 119, 134] 142 = 108 from by decide +kernel]
          simp +decide (disch := omega) only [↓wm1, wb133_108 hc, wb133_118 hc, w0, w1, w3, w16, w96, rI_wI, rP_wI, rL_wI, rI_wR, rP_wR, is_wI, is_wR, ia_wI, ia_wR, ow_wI, ow_wR, wn_add, wn_mul, wn_cl, wn_le, wn_lt, wn_inj, wn_ne1, wn_1ne, wn_gt1, wn_le1, nb0, nb1, am_kt, am_rt, List.cons_append, List.nil_append, true_and, and_true, not_true_eq_false, not_false_eq_true, imp_f, imp_t, implies_true, Nat.zero_add, if_true, if_false, false_and, and_false, cn133, fC i1.1, fW2 i1.1 i1.2.1, fD i1.1 i1.2.1.2.2.1, ct58i i1.1 h120 y1.1, tAll_eq ok.1 bH]
          rw [← hP]; exact OC_ok hR (CN_q k1)
        · rw [show am_swt (wn 1) (wn 0) [108, 119, 134] 142 = 119 from by decide +kernel]
          simp +decide (disch := omega) only [↓wm1, wb133_119 hc, wb133_133 hc, w0, w1, w3, w16, w96, rI_wI, rP_wI, rL_wI, rI_wR, rP_wR, is_wI, is_wR, ia_wI, ia_wR, ow_wI, ow_wR, wn_add, wn_mul, wn_cl, wn_le, wn_lt, wn_inj, wn_ne1, wn_1ne, wn_gt1, wn_le1, nb0, nb1, am_kt, am_rt, List.cons_append, List.nil_append, true_and, and_true, not_true_eq_false, not_false_eq_true, imp_f, imp_t, implies_true, Nat.zero_add, if_true, if_false, false_and, and_false, cn133, fC i1.1, fW2 i1.1 i1.2.1, fD i1.1 i1.2.1.2.2.1, ct87 i1.1 i1.2.1 h120 y1.1 (ok.1.g6 bB) (ok.1.t6 bB)]
          rw [← hP]; exact OC_ok hR (CN_q k1)
        · rw [show am_swt (wn 2) (wn 0) [108, 119, 134] 142 = 134 from by decide +kernel]
          simp +decide (disch := omega) only [↓wm1, wb133_134 hc, w0, w1, w3, w16, w96, rI_wI, rP_wI, rL_wI, rI_wR, rP_wR, is_wI, is_wR, ia_wI, ia_wR, ow_wI, ow_wR, wn_add, wn_mul, wn_cl, wn_le, wn_lt, wn_inj, wn_ne1, wn_1ne, wn_gt1, wn_le1, nb0, nb1, am_kt, am_rt, List.cons_append, List.nil_append, true_and, and_true, not_true_eq_false, not_false_eq_true, imp_f, imp_t, implies_true, Nat.zero_add, if_true, if_false, false_and, and_false, cn133, fC i1.1, fW2 i1.1 i1.2.1, fD i1.1 i1.2.1.2.2.1, y1.2.2]
          rw [← hP]; exact OC_ok hR (CN_q k1)
        · rw [show am_swt (wn 3) (wn 0) [108, 119, 134] 142 = 142 from by decide +kernel]
          simp +decide (disch := omega) only [↓wm1, wb133_142 hc, wb133_152 hc, w0, w1, w3, w16, w96, rI_wI, rP_wI, rL_wI, rI_wR, rP_wR, is_wI, is_wR, ia_wI, ia_wR, ow_wI, ow_wR, wn_add, wn_mul, wn_cl, wn_le, wn_lt, wn_inj, wn_ne1, wn_1ne, wn_gt1, wn_le1, nb0, nb1, am_kt, am_rt, List.cons_append, List.nil_append, true_and, and_true, not_true_eq_false, not_false_eq_true, imp_f, imp_t, implies_true, Nat.zero_add, if_true, if_false, false_and, and_false, cn133, fC i1.1, fW2 i1.1 i1.2.1, fD i1.1 i1.2.1.2.2.1, ct61i i1.1 h120 y1.1 vm, mAll_eq ok.1 bH]
          rw [← hP]; exact OC_ok hR (CN_q k1)
      · rw [if_neg (vin2_nf hx4)]
        generalize hP : OC G (rfV V (.inr 1)) (.inr 1) = P
        by_cases hxa : x4 < wn 0
        · simp +decide (disch := omega) only [↓wm1, wb133_0 hc, wb133_6 hc, wb133_12 hc, wb133_16 hc, wb133_17 hc, wb133_20 hc, wb133_25 hc, wb133_31 hc, wb133_35 hc, wb133_36 hc, wb133_39 hc, wb133_45 hc, wb133_51 hc, wb133_55 hc, wb133_56 hc, wb133_59 hc, wb133_80 hc, wb133_108 hc, wb133_118 hc, wb133_119 hc, wb133_133 hc, wb133_134 hc, wb133_142 hc, wb133_152 hc, w0, w1, w3, w16, w96, rI_wI, rP_wI, rL_wI, rI_wR, rP_wR, is_wI, is_wR, ia_wI, ia_wR, ow_wI, ow_wR, wn_add, wn_mul, wn_cl, wn_le, wn_lt, wn_inj, wn_ne1, wn_1ne, wn_gt1, wn_le1, nb0, nb1, am_kt, am_rt, List.cons_append, List.nil_append, true_and, and_true, not_true_eq_false, not_false_eq_true, imp_f, imp_t, implies_true, Nat.zero_add, if_true, if_false, false_and, and_false, cn133, fC hsh, fW2 hsh hT, fD hsh hT.2.2.1, e6, na2, nb2, hh2, nc2, ct139y (v := 1) (by decide) (by decide), na3, nb3, hh3, nc3, hxa, ct139n hsh hB]
          rw [← hP]; exact OC_8 hR hB
        · have hxb : ¬ x4 < wn (4) := by rcases hx4 with z | z; exact absurd z hxa; exact z
          have hxc : wn (4) ≤ x4 := Int32.not_lt.mp hxb
          have hxd : wn 3 < x4 := out3 (by decide) hxb
          simp +decide (disch := omega) only [↓wm1, wb133_0 hc, wb133_6 hc, wb133_12 hc, wb133_16 hc, wb133_17 hc, wb133_20 hc, wb133_25 hc, wb133_31 hc, wb133_35 hc, wb133_36 hc, wb133_39 hc, wb133_45 hc, wb133_51 hc, wb133_55 hc, wb133_56 hc, wb133_59 hc, wb133_80 hc, wb133_108 hc, wb133_118 hc, wb133_119 hc, wb133_133 hc, wb133_134 hc, wb133_142 hc, wb133_152 hc, w0, w1, w3, w16, w96, rI_wI, rP_wI, rL_wI, rI_wR, rP_wR, is_wI, is_wR, ia_wI, ia_wR, ow_wI, ow_wR, wn_add, wn_mul, wn_cl, wn_le, wn_lt, wn_inj, wn_ne1, wn_1ne, wn_gt1, wn_le1, nb0, nb1, am_kt, am_rt, List.cons_append, List.nil_append, true_and, and_true, not_true_eq_false, not_false_eq_true, imp_f, imp_t, implies_true, Nat.zero_add, if_true, if_false, false_and, and_false, cn133, fC hsh, fW2 hsh hT, fD hsh hT.2.2.1, e6, na2, nb2, hh2, nc2, ct139y (v := 1) (by decide) (by decide), na3, nb3, hh3, nc3, hxa, hxb, hxc, hxd, ct139n hsh hB]
          rw [← hP]; exact OC_8 hR hB
    · rw [if_neg (vin2_nf hx3)]
      generalize hP : OC G (rfV V (.inr 1)) (.inr 1) = P
      by_cases hxa : x3 < wn 0
      · simp +decide (disch := omega) only [↓wm1, wb133_0 hc, wb133_6 hc, wb133_12 hc, wb133_16 hc, wb133_17 hc, wb133_20 hc, wb133_25 hc, wb133_31 hc, wb133_35 hc, wb133_36 hc, wb133_39 hc, wb133_45 hc, wb133_51 hc, wb133_55 hc, wb133_56 hc, wb133_59 hc, wb133_80 hc, wb133_108 hc, wb133_118 hc, wb133_119 hc, wb133_133 hc, wb133_134 hc, wb133_142 hc, wb133_152 hc, w0, w1, w3, w16, w96, rI_wI, rP_wI, rL_wI, rI_wR, rP_wR, is_wI, is_wR, ia_wI, ia_wR, ow_wI, ow_wR, wn_add, wn_mul, wn_cl, wn_le, wn_lt, wn_inj, wn_ne1, wn_1ne, wn_gt1, wn_le1, nb0, nb1, am_kt, am_rt, List.cons_append, List.nil_append, true_and, and_true, not_true_eq_false, not_false_eq_true, imp_f, imp_t, implies_true, Nat.zero_add, if_true, if_false, false_and, and_false, cn133, fC hsh, fW2 hsh hT, fD hsh hT.2.2.1, e6, na2, nb2, hh2, nc2, ct139y (v := 1) (by decide) (by decide), hxa, ct139n hsh hB]
        rw [← hP]; exact OC_8 hR hB
      · have hxb : ¬ x3 < wn (17) := by rcases hx3 with z | z; exact absurd z hxa; exact z
        have hxc : wn (17) ≤ x3 := Int32.not_lt.mp hxb
        have hxd : wn 16 < x3 := out3 (by decide) hxb
        simp +decide (disch := omega) only [↓wm1, wb133_0 hc, wb133_6 hc, wb133_12 hc, wb133_16 hc, wb133_17 hc, wb133_20 hc, wb133_25 hc, wb133_31 hc, wb133_35 hc, wb133_36 hc, wb133_39 hc, wb133_45 hc, wb133_51 hc, wb133_55 hc, wb133_56 hc, wb133_59 hc, wb133_80 hc, wb133_108 hc, wb133_118 hc, wb133_119 hc, wb133_133 hc, wb133_134 hc, wb133_142 hc, wb133_152 hc, w0, w1, w3, w16, w96, rI_wI, rP_wI, rL_wI, rI_wR, rP_wR, is_wI, is_wR, ia_wI, ia_wR, ow_wI, ow_wR, wn_add, wn_mul, wn_cl, wn_le, wn_lt, wn_inj, wn_ne1, wn_1ne, wn_gt1, wn_le1, nb0, nb1, am_kt, am_rt, List.cons_append, List.nil_append, true_and, and_true, not_true_eq_false, not_false_eq_true, imp_f, imp_t, implies_true, Nat.zero_add, if_true, if_false, false_and, and_false, cn133, fC hsh, fW2 hsh hT, fD hsh hT.2.2.1, e6, na2, nb2, hh2, nc2, ct139y (v := 1) (by decide) (by decide), hxa, hxb, hxc, hxd, ct139n hsh hB]
        rw [← hP]; exact OC_8 hR hB
  · rw [if_neg (vin2_nf hx2)]
    generalize hP : OC G (rfV V (.inr 1)) (.inr 1) = P
    by_cases hxa : x2 < wn 1
    · simp +decide (disch := omega) only [↓wm1, wb133_0 hc, wb133_6 hc, wb133_12 hc, wb133_16 hc, wb133_17 hc, wb133_20 hc, wb133_25 hc, wb133_31 hc, wb133_35 hc, wb133_36 hc, wb133_39 hc, wb133_45 hc, wb133_51 hc, wb133_55 hc, wb133_56 hc, wb133_59 hc, wb133_80 hc, wb133_108 hc, wb133_118 hc, wb133_119 hc, wb133_133 hc, wb133_134 hc, wb133_142 hc, wb133_152 hc, w0, w1, w3, w16, w96, rI_wI, rP_wI, rL_wI, rI_wR, rP_wR, is_wI, is_wR, ia_wI, ia_wR, ow_wI, ow_wR, wn_add, wn_mul, wn_cl, wn_le, wn_lt, wn_inj, wn_ne1, wn_1ne, wn_gt1, wn_le1, nb0, nb1, am_kt, am_rt, List.cons_append, List.nil_append, true_and, and_true, not_true_eq_false, not_false_eq_true, imp_f, imp_t, implies_true, Nat.zero_add, if_true, if_false, false_and, and_false, cn133, fC hsh, fW2 hsh hT, fD hsh hT.2.2.1, e6, hxa, ct139n hsh hB]
      rw [← hP]; exact OC_8 hR hB
    · have hxb : ¬ x2 < wn (97) := by rcases hx2 with z | z; exact absurd z hxa; exact z
      have hxc : wn (97) ≤ x2 := Int32.not_lt.mp hxb
      have hxd : wn 96 < x2 := out3 (by decide) hxb
      simp +decide (disch := omega) only [↓wm1, wb133_0 hc, wb133_6 hc, wb133_12 hc, wb133_16 hc, wb133_17 hc, wb133_20 hc, wb133_25 hc, wb133_31 hc, wb133_35 hc, wb133_36 hc, wb133_39 hc, wb133_45 hc, wb133_51 hc, wb133_55 hc, wb133_56 hc, wb133_59 hc, wb133_80 hc, wb133_108 hc, wb133_118 hc, wb133_119 hc, wb133_133 hc, wb133_134 hc, wb133_142 hc, wb133_152 hc, w0, w1, w3, w16, w96, rI_wI, rP_wI, rL_wI, rI_wR, rP_wR, is_wI, is_wR, ia_wI, ia_wR, ow_wI, ow_wR, wn_add, wn_mul, wn_cl, wn_le, wn_lt, wn_inj, wn_ne1, wn_1ne, wn_gt1, wn_le1, nb0, nb1, am_kt, am_rt, List.cons_append, List.nil_append, true_and, and_true, not_true_eq_false, not_false_eq_true, imp_f, imp_t, implies_true, Nat.zero_add, if_true, if_false, false_and, and_false, cn133, fC hsh, fW2 hsh hT, fD hsh hT.2.2.1, e6, hxa, hxb, hxc, hxd, ct139n hsh hB]
      rw [← hP]; exact OC_8 hR hB
theorem rf_century (hR : RepR G V) (x1 x2 x3 x4 : Int32) : am_C am_T (d + 12) 261 [.ref 334, .int x1, .int x2, .int x3, .int x4] G (OR G (rfV V (sp_century V x1 x2 x3 x4)) 1 (sp_century V x1 x2 x3 x4)) := by
  have hc := am_C_one am_T (d + 11)
  have k0 : Kp QSR G (am_wI G 334 0 (wn 0)) := (Kp.refl G).wI (Or.inl ⟨rfl, Or.inl rfl⟩) _
  have e0 : am_gI (am_wI G 334 0 (wn 0)) 334 0 = wn 0 := by rw [rI_wI, if_pos ⟨rfl, rfl⟩]
  have hR0 := hR.q k0
  have hshG := hR.1
  unfold sp_century
  rw [we261]
  generalize hOR : OR G = OG
  simp +decide (disch := omega) only [↓wm1, wb261_0 hc, w0, w1, w2, w3, rI_wI, rP_wI, rL_wI, rI_wR, rP_wR, is_wI, is_wR, ia_wI, ia_wR, ow_wI, ow_wR, wn_add, wn_mul, wn_cl, wn_le, wn_lt, wn_inj, wn_ne1, wn_1ne, wn_gt1, wn_le1, nb0, nb1, am_kt, am_rt, List.cons_append, List.nil_append, true_and, and_true, not_true_eq_false, not_false_eq_true, imp_f, imp_t, implies_true, Nat.zero_add, if_true, if_false, false_and, and_false, fM hshG, fE2 hR.2.2.2.1, ia338 hshG]
  generalize am_wI G 334 0 (wn 0) = G0 at k0 e0 hR0 ⊢
  subst hOR
  have hsh := hR0.1
  have hv := hR0.2.1
  have hT := hR0.2.2.2.1
  have hr := hR0.2.2.2.2.1.1
  have vd := hv.2.2.2.1
  have bB := vd.1
  have bH := vd.2.1
  have bD := vd.2.2.1
  have hs9 := hv.2.2.2.2.2.1
  have hvs := hs9.1
  have hg := hvs.g6 bB
  have ht := hvs.t6 bB
  have hm := hvs.2.2.2.2.2.1
  have h9 := hs9.2
  have p6 : 2 ^ dB (vδ V) ≤ 64 := Nat.pow_le_pow_right (n := 2) (by decide) bB
  have e6 := bs1 (dB (vδ V)) (by omega)
  rcases vin2_or x2 1 (97) (by omega) (by omega) with ⟨b2, hl2, hh2, rfl⟩ | hx2
  · rw [if_pos (vin2_t hl2 hh2 (by omega))]
    rcases vin2_or x3 0 (17) (by omega) (by omega) with ⟨b3, hl3, hh3, rfl⟩ | hx3
    · rw [if_pos (vin2_t hl3 hh3 (by omega))]
      rcases vin2_or x4 0 (4) (by omega) (by omega) with ⟨b4, hl4, hh4, rfl⟩ | hx4
      · rw [if_pos (vin2_t hl4 hh4 (by omega))]
        simp only [u_wn (show b2 < 2147483648 by omega), u_wn (show b3 < 2147483648 by omega), u_wn (show b4 < 2147483648 by omega)]
        generalize hP : OR G (rfV V (.inl (q_cent V x1 b2 b3 b4))) 1 (.inl (q_cent V x1 b2 b3 b4)) = P
        simp +decide (disch := omega) only [↓wm1, wb261_0 hc, wb261_11 hc, wb261_14 hc, wb261_21 hc, wb261_24 hc, wb261_28 hc, wb261_29 hc, wb261_34 hc, wb261_37 hc, wb261_39 hc, wb261_46 hc, wb261_51 hc, wb261_59 hc, wb261_62 hc, wb261_68 hc, wb261_76 hc, wb261_79 hc, wb261_85 hc, wb261_93 hc, wb261_101 hc, wb261_105 hc, wb261_113 hc, w0, w1, w2, w3, rI_wI, rP_wI, rL_wI, rI_wR, rP_wR, is_wI, is_wR, ia_wI, ia_wR, ow_wI, ow_wR, wn_add, wn_mul, wn_cl, wn_le, wn_lt, wn_inj, wn_ne1, wn_1ne, wn_gt1, wn_le1, nb0, nb1, am_kt, am_rt, List.cons_append, List.nil_append, true_and, and_true, not_true_eq_false, not_false_eq_true, imp_f, imp_t, implies_true, Nat.zero_add, if_true, if_false, false_and, and_false, fM hsh, fE2 hT, ia338 hsh, e6, b01, if_true, Bool.false_eq_true, ct214 hsh hT, ct215 hsh hT, ct220, ct153c, ct153v, ct152n hsh e0, ct260, Bool.false_and, Bool.and_false, Bool.and_self, vin2_t hl2 hh2 (by omega), vin2_t hl3 hh3 (by omega), vin2_t hl4 hh4 (by omega)]
        refine ct259 ⟨hsh, hT, hr⟩ hs9 (by omega) (by omega) (fun G1 i1 y1 k1 => ?_)
        have ok := cen_ok (Λ := vΛ V) (q := b3) (s := x1) bB hs9 b2 (by omega)
        have vm := ok.1.2.2.2.2.2.1
        have ep : wn (tsum (sP (cen (vδ V) (vΛ V) b3 b2 (vσ V, x1, 0)).1) (dB (vδ V))) - wn (tsum (sP (vσ V)) (dB (vδ V))) = wn (cen (vδ V) (vΛ V) b3 b2 (vσ V, x1, 0)).2.2 := by rw [ok.2.2.2, wn_sub (by omega), Nat.add_sub_cancel_left]
        have hcs : b4 = 0 ∨ b4 = 1 ∨ b4 = 2 ∨ b4 = 3 := by omega
        rcases hcs with rfl | rfl | rfl | rfl
        · simp +decide (disch := omega) only [↓wm1, wb261_46 hc, wb261_51 hc, wb261_59 hc, wb261_113 hc, w0, w1, w2, w3, rI_wI, rP_wI, rL_wI, rI_wR, rP_wR, is_wI, is_wR, ia_wI, ia_wR, ow_wI, ow_wR, wn_add, wn_mul, wn_cl, wn_le, wn_lt, wn_inj, wn_ne1, wn_1ne, wn_gt1, wn_le1, nb0, nb1, am_kt, am_rt, List.cons_append, List.nil_append, true_and, and_true, not_true_eq_false, not_false_eq_true, imp_f, imp_t, implies_true, Nat.zero_add, if_true, if_false, false_and, and_false, fM i1.1, ct208 i1.1 i1.2.1 h809 y1.1]
          rw [← hP]; exact OR_ok hR (k0.trans (MC_q k1)) (k1.thr (by unfold MC; omega) e0)
        · simp +decide (disch := omega) only [↓wm1, wb261_46 hc, wb261_62 hc, wb261_68 hc, wb261_76 hc, wb261_113 hc, w0, w1, w2, w3, rI_wI, rP_wI, rL_wI, rI_wR, rP_wR, is_wI, is_wR, ia_wI, ia_wR, ow_wI, ow_wR, wn_add, wn_mul, wn_cl, wn_le, wn_lt, wn_inj, wn_ne1, wn_1ne, wn_gt1, wn_le1, nb0, nb1, am_kt, am_rt, List.cons_append, List.nil_append, true_and, and_true, not_true_eq_false, not_false_eq_true, imp_f, imp_t, implies_true, Nat.zero_add, if_true, if_false, false_and, and_false, fM i1.1, ct198 i1.1 i1.2.1 h809 y1.1]
          rw [← hP]; exact OR_ok hR (k0.trans (MC_q k1)) (k1.thr (by unfold MC; omega) e0)
        · simp +decide (disch := omega) only [↓wm1, wb261_46 hc, wb261_62 hc, wb261_79 hc, wb261_85 hc, wb261_93 hc, wb261_101 hc, wb261_113 hc, w0, w1, w2, w3, rI_wI, rP_wI, rL_wI, rI_wR, rP_wR, is_wI, is_wR, ia_wI, ia_wR, ow_wI, ow_wR, wn_add, wn_mul, wn_cl, wn_le, wn_lt, wn_inj, wn_ne1, wn_1ne, wn_gt1, wn_le1, nb0, nb1, am_kt, am_rt, List.cons_append, List.nil_append, true_and, and_true, not_true_eq_false, not_false_eq_true, imp_f, imp_t, implies_true, Nat.zero_add, if_true, if_false, false_and, and_false, fM i1.1, ct212 i1.1 i1.2.1 h809 y1.1, ct212 i1.1 i1.2.1 h808 i1.2.2, ep]
          rw [← hP]; exact OR_ok hR (k0.trans (MC_q k1)) (k1.thr (by unfold MC; omega) e0)
        · simp +decide (disch := omega) only [↓wm1, wb261_46 hc, wb261_62 hc, wb261_79 hc, wb261_105 hc, wb261_113 hc, w0, w1, w2, w3, rI_wI, rP_wI, rL_wI, rI_wR, rP_wR, is_wI, is_wR, ia_wI, ia_wR, ow_wI, ow_wR, wn_add, wn_mul, wn_cl, wn_le, wn_lt, wn_inj, wn_ne1, wn_1ne, wn_gt1, wn_le1, nb0, nb1, am_kt, am_rt, List.cons_append, List.nil_append, true_and, and_true, not_true_eq_false, not_false_eq_true, imp_f, imp_t, implies_true, Nat.zero_add, if_true, if_false, false_and, and_false, fM i1.1, ct209 i1.1 i1.2.1 h809 y1.1 vm]
          rw [← hP]; exact OR_ok hR (k0.trans (MC_q k1)) (k1.thr (by unfold MC; omega) e0)
      · rw [if_neg (vin2_nf hx4)]
        generalize hP : OR G (rfV V (.inr 1)) 1 (.inr 1) = P
        simp +decide (disch := omega) only [↓wm1, wb261_0 hc, wb261_11 hc, wb261_14 hc, wb261_21 hc, wb261_24 hc, wb261_28 hc, wb261_29 hc, wb261_34 hc, wb261_37 hc, wb261_39 hc, wb261_46 hc, wb261_51 hc, wb261_59 hc, wb261_62 hc, wb261_68 hc, wb261_76 hc, wb261_79 hc, wb261_85 hc, wb261_93 hc, wb261_101 hc, wb261_105 hc, wb261_113 hc, w0, w1, w2, w3, rI_wI, rP_wI, rL_wI, rI_wR, rP_wR, is_wI, is_wR, ia_wI, ia_wR, ow_wI, ow_wR, wn_add, wn_mul, wn_cl, wn_le, wn_lt, wn_inj, wn_ne1, wn_1ne, wn_gt1, wn_le1, nb0, nb1, am_kt, am_rt, List.cons_append, List.nil_append, true_and, and_true, not_true_eq_false, not_false_eq_true, imp_f, imp_t, implies_true, Nat.zero_add, if_true, if_false, false_and, and_false, fM hsh, fE2 hT, ia338 hsh, e6, b01, if_true, Bool.false_eq_true, ct214 hsh hT, ct215 hsh hT, ct220, ct153c, ct153v, ct152n hsh e0, ct260, Bool.false_and, Bool.and_false, Bool.and_self, vin2_t hl2 hh2 (by omega), vin2_t hl3 hh3 (by omega), vin2_f hx4, ct152y (c := 1) (r := 1) (by decide) (by decide) (by decide) hsh e0]
        rw [← hP]; exact OR_8 hR k0
    · rw [if_neg (vin2_nf hx3)]
      generalize hP : OR G (rfV V (.inr 1)) 1 (.inr 1) = P
      simp +decide (disch := omega) only [↓wm1, wb261_0 hc, wb261_11 hc, wb261_14 hc, wb261_21 hc, wb261_24 hc, wb261_28 hc, wb261_29 hc, wb261_34 hc, wb261_37 hc, wb261_39 hc, wb261_46 hc, wb261_51 hc, wb261_59 hc, wb261_62 hc, wb261_68 hc, wb261_76 hc, wb261_79 hc, wb261_85 hc, wb261_93 hc, wb261_101 hc, wb261_105 hc, wb261_113 hc, w0, w1, w2, w3, rI_wI, rP_wI, rL_wI, rI_wR, rP_wR, is_wI, is_wR, ia_wI, ia_wR, ow_wI, ow_wR, wn_add, wn_mul, wn_cl, wn_le, wn_lt, wn_inj, wn_ne1, wn_1ne, wn_gt1, wn_le1, nb0, nb1, am_kt, am_rt, List.cons_append, List.nil_append, true_and, and_true, not_true_eq_false, not_false_eq_true, imp_f, imp_t, implies_true, Nat.zero_add, if_true, if_false, false_and, and_false, fM hsh, fE2 hT, ia338 hsh, e6, b01, if_true, Bool.false_eq_true, ct214 hsh hT, ct215 hsh hT, ct220, ct153c, ct153v, ct152n hsh e0, ct260, Bool.false_and, Bool.and_false, Bool.and_self, vin2_t hl2 hh2 (by omega), vin2_f hx3, ct152y (c := 1) (r := 1) (by decide) (by decide) (by decide) hsh e0]
      rw [← hP]; exact OR_8 hR k0
  · rw [if_neg (vin2_nf hx2)]
    generalize hP : OR G (rfV V (.inr 1)) 1 (.inr 1) = P
    simp +decide (disch := omega) only [↓wm1, wb261_0 hc, wb261_11 hc, wb261_14 hc, wb261_21 hc, wb261_24 hc, wb261_28 hc, wb261_29 hc, wb261_34 hc, wb261_37 hc, wb261_39 hc, wb261_46 hc, wb261_51 hc, wb261_59 hc, wb261_62 hc, wb261_68 hc, wb261_76 hc, wb261_79 hc, wb261_85 hc, wb261_93 hc, wb261_101 hc, wb261_105 hc, wb261_113 hc, w0, w1, w2, w3, rI_wI, rP_wI, rL_wI, rI_wR, rP_wR, is_wI, is_wR, ia_wI, ia_wR, ow_wI, ow_wR, wn_add, wn_mul, wn_cl, wn_le, wn_lt, wn_inj, wn_ne1, wn_1ne, wn_gt1, wn_le1, nb0, nb1, am_kt, am_rt, List.cons_append, List.nil_append, true_and, and_true, not_true_eq_false, not_false_eq_true, imp_f, imp_t, implies_true, Nat.zero_add, if_true, if_false, false_and, and_false, fM hsh, fE2 hT, ia338 hsh, e6, b01, if_true, Bool.false_eq_true, ct214 hsh hT, ct215 hsh hT, ct220, ct153c, ct153v, ct152n hsh e0, ct260, Bool.false_and, Bool.and_false, Bool.and_self, vin2_f hx2, ct152y (c := 1) (r := 1) (by decide) (by decide) (by decide) hsh e0]
    rw [← hP]; exact OR_8 hR k0
noncomputable def sp_span (V : Vt) (x1 x2 x3 x4 x5 x6 : Int32) : Res := if vin2 x2 1 (21) = true then if vin2 x3 1 (97) = true then if vin2 x4 0 (17) = true then if vin2 x5 0 (3) = true then if vin2 x6 0 (dH (vδ V)) = true then .inl (q_span V x1 (u x2) (u x3) (u x4) (u x5) (u x6)) else .inr 1 else .inr 1 else .inr 1 else .inr 1 else .inr 1
theorem cl_span (hR : RepC G V) (hB : am_rm G 1 6) (x1 x2 x3 x4 x5 x6 : Int32) : am_C am_T (d + 12) 134 [.ref 0, .int x1, .int x2, .int x3, .int x4, .int x5, .int x6] G (OC G (rfV V (sp_span V x1 x2 x3 x4 x5 x6)) (sp_span V x1 x2 x3 x4 x5 x6)) := by
  have hc := am_C_one am_T (d + 11)
  have hsh := hR.1
  have hv := hR.2.1
  obtain ⟨q, l, hT, -, -⟩ := hR.2.2.2.1
  have hr := hR.2.2.2.2.1.1
  have vd := hv.2.2.2.1
  have bB := vd.1
  have bH := vd.2.1
  have bD := vd.2.2.1
  have hs9 := hv.2.2.2.2.2.1
  have hvs := hs9.1
  have hg := hvs.g6 bB
  have ht := hvs.t6 bB
  have hm := hvs.2.2.2.2.2.1
  have h9 := hs9.2
  have p6 : 2 ^ dB (vδ V) ≤ 64 := Nat.pow_le_pow_right (n := 2) (by decide) bB
  have e6 := bs1 (dB (vδ V)) (by omega)
  unfold sp_span
  rw [we134]
  rcases vin2_or x2 1 (21) (by omega) (by omega) with ⟨b2, hl2, hh2, rfl⟩ | hx2
  · rw [if_pos (vin2_t hl2 hh2 (by omega))]
    have na2 : ¬ b2 < 1 := by omega
    have nb2 : ¬ 21 ≤ b2 := by omega
    have nc2 : ¬ 20 < b2 := by omega
    rcases vin2_or x3 1 (97) (by omega) (by omega) with ⟨b3, hl3, hh3, rfl⟩ | hx3
    · rw [if_pos (vin2_t hl3 hh3 (by omega))]
      have na3 : ¬ b3 < 1 := by omega
      have nb3 : ¬ 97 ≤ b3 := by omega
      have nc3 : ¬ 96 < b3 := by omega
      rcases vin2_or x4 0 (17) (by omega) (by omega) with ⟨b4, hl4, hh4, rfl⟩ | hx4
      · rw [if_pos (vin2_t hl4 hh4 (by omega))]
        have na4 : ¬ b4 < 0 := by omega
        have nb4 : ¬ 17 ≤ b4 := by omega
        have nc4 : ¬ 16 < b4 := by omega
        rcases vin2_or x5 0 (3) (by omega) (by omega) with ⟨b5, hl5, hh5, rfl⟩ | hx5
        · rw [if_pos (vin2_t hl5 hh5 (by omega))]
          have na5 : ¬ b5 < 0 := by omega
          have nb5 : ¬ 3 ≤ b5 := by omega
          have nc5 : ¬ 2 < b5 := by omega
          rcases vin2_or x6 0 (dH (vδ V)) (by omega) (by omega) with ⟨b6, hl6, hh6, rfl⟩ | hx6
          · rw [if_pos (vin2_t hl6 hh6 (by omega))]
            have na6 : ¬ b6 < 0 := by omega
            have nb6 : ¬ dH (vδ V) ≤ b6 := by omega
            simp only [u_wn (show b2 < 2147483648 by omega), u_wn (show b3 < 2147483648 by omega), u_wn (show b4 < 2147483648 by omega), u_wn (show b5 < 2147483648 by omega), u_wn (show b6 < 2147483648 by omega)]
            generalize hP : OC G (rfV V (.inl (q_span V x1 b2 b3 b4 b5 b6))) (.inl (q_span V x1 b2 b3 b4 b5 b6)) = P
            simp +decide (disch := omega) only [↓wm1, wb134_0 hc, wb134_6 hc, wb134_12 hc, wb134_16 hc, wb134_17 hc, wb134_20 hc, wb134_26 hc, wb134_32 hc, wb134_36 hc, wb134_37 hc, wb134_40 hc, wb134_46 hc, wb134_53 hc, wb134_57 hc, wb134_58 hc, wb134_61 hc, wb134_67 hc, wb134_73 hc, wb134_77 hc, wb134_78 hc, wb134_81 hc, wb134_87 hc, wb134_102 hc, wb134_106 hc, wb134_107 hc, wb134_110 hc, wb134_130 hc, wb134_155 hc, wb134_167 hc, wb134_181 hc, wb134_195 hc, wb134_199 hc, wb134_202 hc, wb134_208 hc, wb134_213 hc, wb134_218 hc, wb134_224 hc, wb134_229 hc, wb134_231 hc, w0, w1, w2, w16, w20, w96, rI_wI, rP_wI, rL_wI, rI_wR, rP_wR, is_wI, is_wR, ia_wI, ia_wR, ow_wI, ow_wR, wn_add, wn_mul, wn_cl, wn_le, wn_lt, wn_inj, wn_ne1, wn_1ne, wn_gt1, wn_le1, nb0, nb1, am_kt, am_rt, List.cons_append, List.nil_append, true_and, and_true, not_true_eq_false, not_false_eq_true, imp_f, imp_t, implies_true, Nat.zero_add, if_true, if_false, false_and, and_false, cn134, fC hsh, fW2 hsh hT, fD hsh hT.2.2.1, e6, na2, nb2, hh2, nc2, ct139y (v := 1) (by decide) (by decide), na3, nb3, hh3, nc3, na4, nb4, hh4, nc4, na5, nb5, hh5, nc5, na6, nb6, hh6, fS hsh h32, w2147483647]
            refine am_for b2 (fun j ls G2 => CI G2 q l (vδ V) (vΛ V) (vσ V) ∧ Kp CN G G2 ∧ ls = [some (.ref 0), some (.int x1), some (.int (wn b2)), some (.int (wn b3)), some (.int (wn b4)), some (.int (wn b5)), some (.int (wn b6)), some (.int (wn (spf V x1 b3 b4 b6 j).1)), some (.int (wn (spf V x1 b3 b4 b6 j).2.1)), some (.int (wn (spf V x1 b3 b4 b6 j).2.2)), some (.int (wn j))]) ?_ ?_ b2 0 (by omega) _ _ ⟨⟨hsh, hT, hr⟩, Kp.refl G, rfl⟩
            · rintro j hj _ G1 ⟨i1, k1, rfl⟩ nx
              have c1 : ¬ b2 ≤ j := by omega
              have so := spf_ok (s := x1) (q := b4) (h := b6) bB hs9 (show b3 ≤ 96 by omega) j
              have ok := cen_ok (Λ := vΛ V) (q := b4) (s := x1 + wn j) bB hs9 b3 (by omega)
              have vm := ok.1.2.2.2.2.2.1
              rw [wb134_124 hc]
              simp +decide (disch := omega) only [↓wm1, wb134_130 hc, w0, w1, w2, w16, w20, w96, rI_wI, rP_wI, rL_wI, rI_wR, rP_wR, is_wI, is_wR, ia_wI, ia_wR, ow_wI, ow_wR, wn_add, wn_mul, wn_cl, wn_le, wn_lt, wn_inj, wn_ne1, wn_1ne, wn_gt1, wn_le1, nb0, nb1, am_kt, am_rt, List.cons_append, List.nil_append, true_and, and_true, not_true_eq_false, not_false_eq_true, imp_f, imp_t, implies_true, Nat.zero_add, if_true, if_false, false_and, and_false, cn134, c1, fC i1.1, fW2 i1.1 i1.2.1, fD i1.1 i1.2.1.2.2.1, fS i1.1 h32]
              refine ct1 i1 hs9 (by omega) (by omega) (fun G2 i2 y2 k2 => ?_)
              have hmi := hm1_iff vm b6
              simp +decide (disch := omega) only [↓wm1, wb134_155 hc, w0, w1, w2, w16, w20, w96, rI_wI, rP_wI, rL_wI, rI_wR, rP_wR, is_wI, is_wR, ia_wI, ia_wR, ow_wI, ow_wR, wn_add, wn_mul, wn_cl, wn_le, wn_lt, wn_inj, wn_ne1, wn_1ne, wn_gt1, wn_le1, nb0, nb1, am_kt, am_rt, List.cons_append, List.nil_append, true_and, and_true, not_true_eq_false, not_false_eq_true, imp_f, imp_t, implies_true, Nat.zero_add, if_true, if_false, false_and, and_false, cn134, fC i2.1, y2.2.2]
              rw [ct272n (by omega) (by omega)]
              simp +decide (disch := omega) only [↓wm1, wb134_167 hc, w0, w1, w2, w16, w20, w96, rI_wI, rP_wI, rL_wI, rI_wR, rP_wR, is_wI, is_wR, ia_wI, ia_wR, ow_wI, ow_wR, wn_add, wn_mul, wn_cl, wn_le, wn_lt, wn_inj, wn_ne1, wn_1ne, wn_gt1, wn_le1, nb0, nb1, am_kt, am_rt, List.cons_append, List.nil_append, true_and, and_true, not_true_eq_false, not_false_eq_true, imp_f, imp_t, implies_true, Nat.zero_add, if_true, if_false, false_and, and_false, cn134, fC i2.1, y2.2.2]
              rw [ct271n (by omega) (by omega)]
              simp +decide (disch := omega) only [↓wm1, wb134_181 hc, w0, w1, w2, w16, w20, w96, rI_wI, rP_wI, rL_wI, rI_wR, rP_wR, is_wI, is_wR, ia_wI, ia_wR, ow_wI, ow_wR, wn_add, wn_mul, wn_cl, wn_le, wn_lt, wn_inj, wn_ne1, wn_1ne, wn_gt1, wn_le1, nb0, nb1, am_kt, am_rt, List.cons_append, List.nil_append, true_and, and_true, not_true_eq_false, not_false_eq_true, imp_f, imp_t, implies_true, Nat.zero_add, if_true, if_false, false_and, and_false, cn134, fC i2.1, ct60i i2.1 h120 y2.1 vm (show b6 < 7 by omega)]
              by_cases c2 : (mf (fun m => sM (cen (vδ V) (vΛ V) b4 b3 (vσ V, x1 + wn j, 0)).1 (b6 * 10 + m)) 10).1 = mm
              · have hf : hmd (cen (vδ V) (vΛ V) b4 b3 (vσ V, x1 + wn j, 0)).1 b6 = false := by unfold hmd; rw [← hmi]; simp only [hm1, c2, not_true_eq_false, decide_false]
                simp +decide (disch := omega) only [↓wm1, wb134_195 hc, wb134_202 hc, w0, w1, w2, w16, w20, w96, rI_wI, rP_wI, rL_wI, rI_wR, rP_wR, is_wI, is_wR, ia_wI, ia_wR, ow_wI, ow_wR, wn_add, wn_mul, wn_cl, wn_le, wn_lt, wn_inj, wn_ne1, wn_1ne, wn_gt1, wn_le1, nb0, nb1, am_kt, am_rt, List.cons_append, List.nil_append, true_and, and_true, not_true_eq_false, not_false_eq_true, imp_f, imp_t, implies_true, Nat.zero_add, if_true, if_false, false_and, and_false, cn134, c2]
                refine nx _ _ ⟨i2, k1.trans k2, ?_⟩
                simp only [spf, hf, b01, Bool.false_eq_true, if_false, Nat.add_zero]
              · have hf : hmd (cen (vδ V) (vΛ V) b4 b3 (vσ V, x1 + wn j, 0)).1 b6 = true := by unfold hmd; rw [← hmi]; simp only [hm1, c2, not_false_eq_true, decide_true]
                simp +decide (disch := omega) only [↓wm1, wb134_195 hc, wb134_199 hc, wb134_202 hc, w0, w1, w2, w16, w20, w96, rI_wI, rP_wI, rL_wI, rI_wR, rP_wR, is_wI, is_wR, ia_wI, ia_wR, ow_wI, ow_wR, wn_add, wn_mul, wn_cl, wn_le, wn_lt, wn_inj, wn_ne1, wn_1ne, wn_gt1, wn_le1, nb0, nb1, am_kt, am_rt, List.cons_append, List.nil_append, true_and, and_true, not_true_eq_false, not_false_eq_true, imp_f, imp_t, implies_true, Nat.zero_add, if_true, if_false, false_and, and_false, cn134, c2]
                refine nx _ _ ⟨i2, k1.trans k2, ?_⟩
                simp only [spf, hf, b01, if_true]
            · rintro _ G1 ⟨i1, k1, rfl⟩
              unfold q_span at hP
              rw [wb134_124 hc]
              by_cases z0 : b5 = 0
              · rw [if_pos z0] at hP
                simp +decide (disch := omega) only [↓wm1, wb134_208 hc, wb134_213 hc, wb134_231 hc, w0, w1, w2, w16, w20, w96, rI_wI, rP_wI, rL_wI, rI_wR, rP_wR, is_wI, is_wR, ia_wI, ia_wR, ow_wI, ow_wR, wn_add, wn_mul, wn_cl, wn_le, wn_lt, wn_inj, wn_ne1, wn_1ne, wn_gt1, wn_le1, nb0, nb1, am_kt, am_rt, List.cons_append, List.nil_append, true_and, and_true, not_true_eq_false, not_false_eq_true, imp_f, imp_t, implies_true, Nat.zero_add, if_true, if_false, false_and, and_false, cn134, Nat.le_refl, z0]
                rw [← hP]; exact OC_ok hR (CN_q k1)
              · rw [if_neg z0] at hP
                by_cases z1 : b5 = 1
                · rw [if_pos z1] at hP
                  simp +decide (disch := omega) only [↓wm1, wb134_208 hc, wb134_218 hc, wb134_224 hc, wb134_231 hc, w0, w1, w2, w16, w20, w96, rI_wI, rP_wI, rL_wI, rI_wR, rP_wR, is_wI, is_wR, ia_wI, ia_wR, ow_wI, ow_wR, wn_add, wn_mul, wn_cl, wn_le, wn_lt, wn_inj, wn_ne1, wn_1ne, wn_gt1, wn_le1, nb0, nb1, am_kt, am_rt, List.cons_append, List.nil_append, true_and, and_true, not_true_eq_false, not_false_eq_true, imp_f, imp_t, implies_true, Nat.zero_add, if_true, if_false, false_and, and_false, cn134, Nat.le_refl, z0, z1]
                  rw [← hP]; exact OC_ok hR (CN_q k1)
                · rw [if_neg z1] at hP
                  simp +decide (disch := omega) only [↓wm1, wb134_208 hc, wb134_218 hc, wb134_229 hc, wb134_231 hc, w0, w1, w2, w16, w20, w96, rI_wI, rP_wI, rL_wI, rI_wR, rP_wR, is_wI, is_wR, ia_wI, ia_wR, ow_wI, ow_wR, wn_add, wn_mul, wn_cl, wn_le, wn_lt, wn_inj, wn_ne1, wn_1ne, wn_gt1, wn_le1, nb0, nb1, am_kt, am_rt, List.cons_append, List.nil_append, true_and, and_true, not_true_eq_false, not_false_eq_true, imp_f, imp_t, implies_true, Nat.zero_add, if_true, if_false, false_and, and_false, cn134, Nat.le_refl, z0, z1]
                  rw [← hP]; exact OC_ok hR (CN_q k1)
          · rw [if_neg (vin2_nf hx6)]
            generalize hP : OC G (rfV V (.inr 1)) (.inr 1) = P
            by_cases hxa : x6 < wn 0
            · simp +decide (disch := omega) only [↓wm1, wb134_0 hc, wb134_6 hc, wb134_12 hc, wb134_16 hc, wb134_17 hc, wb134_20 hc, wb134_26 hc, wb134_32 hc, wb134_36 hc, wb134_37 hc, wb134_40 hc, wb134_46 hc, wb134_53 hc, wb134_57 hc, wb134_58 hc, wb134_61 hc, wb134_67 hc, wb134_73 hc, wb134_77 hc, wb134_78 hc, wb134_81 hc, wb134_87 hc, wb134_102 hc, wb134_106 hc, wb134_107 hc, wb134_110 hc, wb134_130 hc, wb134_155 hc, wb134_167 hc, wb134_181 hc, wb134_195 hc, wb134_199 hc, wb134_202 hc, wb134_208 hc, wb134_213 hc, wb134_218 hc, wb134_224 hc, wb134_229 hc, wb134_231 hc, w0, w1, w2, w16, w20, w96, rI_wI, rP_wI, rL_wI, rI_wR, rP_wR, is_wI, is_wR, ia_wI, ia_wR, ow_wI, ow_wR, wn_add, wn_mul, wn_cl, wn_le, wn_lt, wn_inj, wn_ne1, wn_1ne, wn_gt1, wn_le1, nb0, nb1, am_kt, am_rt, List.cons_append, List.nil_append, true_and, and_true, not_true_eq_false, not_false_eq_true, imp_f, imp_t, implies_true, Nat.zero_add, if_true, if_false, false_and, and_false, cn134, fC hsh, fW2 hsh hT, fD hsh hT.2.2.1, e6, na2, nb2, hh2, nc2, ct139y (v := 1) (by decide) (by decide), na3, nb3, hh3, nc3, na4, nb4, hh4, nc4, na5, nb5, hh5, nc5, hxa, ct139n hsh hB]
              rw [← hP]; exact OC_8 hR hB
            · have hxb : ¬ x6 < wn (dH (vδ V)) := by rcases hx6 with z | z; exact absurd z hxa; exact z
              have hxc : wn (dH (vδ V)) ≤ x6 := Int32.not_lt.mp hxb
              simp +decide (disch := omega) only [↓wm1, wb134_0 hc, wb134_6 hc, wb134_12 hc, wb134_16 hc, wb134_17 hc, wb134_20 hc, wb134_26 hc, wb134_32 hc, wb134_36 hc, wb134_37 hc, wb134_40 hc, wb134_46 hc, wb134_53 hc, wb134_57 hc, wb134_58 hc, wb134_61 hc, wb134_67 hc, wb134_73 hc, wb134_77 hc, wb134_78 hc, wb134_81 hc, wb134_87 hc, wb134_102 hc, wb134_106 hc, wb134_107 hc, wb134_110 hc, wb134_130 hc, wb134_155 hc, wb134_167 hc, wb134_181 hc, wb134_195 hc, wb134_199 hc, wb134_202 hc, wb134_208 hc, wb134_213 hc, wb134_218 hc, wb134_224 hc, wb134_229 hc, wb134_231 hc, w0, w1, w2, w16, w20, w96, rI_wI, rP_wI, rL_wI, rI_wR, rP_wR, is_wI, is_wR, ia_wI, ia_wR, ow_wI, ow_wR, wn_add, wn_mul, wn_cl, wn_le, wn_lt, wn_inj, wn_ne1, wn_1ne, wn_gt1, wn_le1, nb0, nb1, am_kt, am_rt, List.cons_append, List.nil_append, true_and, and_true, not_true_eq_false, not_false_eq_true, imp_f, imp_t, implies_true, Nat.zero_add, if_true, if_false, false_and, and_false, cn134, fC hsh, fW2 hsh hT, fD hsh hT.2.2.1, e6, na2, nb2, hh2, nc2, ct139y (v := 1) (by decide) (by decide), na3, nb3, hh3, nc3, na4, nb4, hh4, nc4, na5, nb5, hh5, nc5, hxa, hxb, hxc, ct139n hsh hB]
              rw [← hP]; exact OC_8 hR hB
        · rw [if_neg (vin2_nf hx5)]
          generalize hP : OC G (rfV V (.inr 1)) (.inr 1) = P
          by_cases hxa : x5 < wn 0
          · simp +decide (disch := omega) only [↓wm1, wb134_0 hc, wb134_6 hc, wb134_12 hc, wb134_16 hc, wb134_17 hc, wb134_20 hc, wb134_26 hc, wb134_32 hc, wb134_36 hc, wb134_37 hc, wb134_40 hc, wb134_46 hc, wb134_53 hc, wb134_57 hc, wb134_58 hc, wb134_61 hc, wb134_67 hc, wb134_73 hc, wb134_77 hc, wb134_78 hc, wb134_81 hc, wb134_87 hc, wb134_102 hc, wb134_106 hc, wb134_107 hc, wb134_110 hc, wb134_130 hc, wb134_155 hc, wb134_167 hc, wb134_181 hc, wb134_195 hc, wb134_199 hc, wb134_202 hc, wb134_208 hc, wb134_213 hc, wb134_218 hc, wb134_224 hc, wb134_229 hc, wb134_231 hc, w0, w1, w2, w16, w20, w96, rI_wI, rP_wI, rL_wI, rI_wR, rP_wR, is_wI, is_wR, ia_wI, ia_wR, ow_wI, ow_wR, wn_add, wn_mul, wn_cl, wn_le, wn_lt, wn_inj, wn_ne1, wn_1ne, wn_gt1, wn_le1, nb0, nb1, am_kt, am_rt, List.cons_append, List.nil_append, true_and, and_true, not_true_eq_false, not_false_eq_true, imp_f, imp_t, implies_true, Nat.zero_add, if_true, if_false, false_and, and_false, cn134, fC hsh, fW2 hsh hT, fD hsh hT.2.2.1, e6, na2, nb2, hh2, nc2, ct139y (v := 1) (by decide) (by decide), na3, nb3, hh3, nc3, na4, nb4, hh4, nc4, hxa, ct139n hsh hB]
            rw [← hP]; exact OC_8 hR hB
          · have hxb : ¬ x5 < wn (3) := by rcases hx5 with z | z; exact absurd z hxa; exact z
            have hxc : wn (3) ≤ x5 := Int32.not_lt.mp hxb
            have hxd : wn 2 < x5 := out3 (by decide) hxb
            simp +decide (disch := omega) only [↓wm1, wb134_0 hc, wb134_6 hc, wb134_12 hc, wb134_16 hc, wb134_17 hc, wb134_20 hc, wb134_26 hc, wb134_32 hc, wb134_36 hc, wb134_37 hc, wb134_40 hc, wb134_46 hc, wb134_53 hc, wb134_57 hc, wb134_58 hc, wb134_61 hc, wb134_67 hc, wb134_73 hc, wb134_77 hc, wb134_78 hc, wb134_81 hc, wb134_87 hc, wb134_102 hc, wb134_106 hc, wb134_107 hc, wb134_110 hc, wb134_130 hc, wb134_155 hc, wb134_167 hc, wb134_181 hc, wb134_195 hc, wb134_199 hc, wb134_202 hc, wb134_208 hc, wb134_213 hc, wb134_218 hc, wb134_224 hc, wb134_229 hc, wb134_231 hc, w0, w1, w2, w16, w20, w96, rI_wI, rP_wI, rL_wI, rI_wR, rP_wR, is_wI, is_wR, ia_wI, ia_wR, ow_wI, ow_wR, wn_add, wn_mul, wn_cl, wn_le, wn_lt, wn_inj, wn_ne1, wn_1ne, wn_gt1, wn_le1, nb0, nb1, am_kt, am_rt, List.cons_append, List.nil_append, true_and, and_true, not_true_eq_false, not_false_eq_true, imp_f, imp_t, implies_true, Nat.zero_add, if_true, if_false, false_and, and_false, cn134, fC hsh, fW2 hsh hT, fD hsh hT.2.2.1, e6, na2, nb2, hh2, nc2, ct139y (v := 1) (by decide) (by decide), na3, nb3, hh3, nc3, na4, nb4, hh4, nc4, hxa, hxb, hxc, hxd, ct139n hsh hB]
            rw [← hP]; exact OC_8 hR hB
      · rw [if_neg (vin2_nf hx4)]
        generalize hP : OC G (rfV V (.inr 1)) (.inr 1) = P
        by_cases hxa : x4 < wn 0
        · simp +decide (disch := omega) only [↓wm1, wb134_0 hc, wb134_6 hc, wb134_12 hc, wb134_16 hc, wb134_17 hc, wb134_20 hc, wb134_26 hc, wb134_32 hc, wb134_36 hc, wb134_37 hc, wb134_40 hc, wb134_46 hc, wb134_53 hc, wb134_57 hc, wb134_58 hc, wb134_61 hc, wb134_67 hc, wb134_73 hc, wb134_77 hc, wb134_78 hc, wb134_81 hc, wb134_87 hc, wb134_102 hc, wb134_106 hc, wb134_107 hc, wb134_110 hc, wb134_130 hc, wb134_155 hc, wb134_167 hc, wb134_181 hc, wb134_195 hc, wb134_199 hc, wb134_202 hc, wb134_208 hc, wb134_213 hc, wb134_218 hc, wb134_224 hc, wb134_229 hc, wb134_231 hc, w0, w1, w2, w16, w20, w96, rI_wI, rP_wI, rL_wI, rI_wR, rP_wR, is_wI, is_wR, ia_wI, ia_wR, ow_wI, ow_wR, wn_add, wn_mul, wn_cl, wn_le, wn_lt, wn_inj, wn_ne1, wn_1ne, wn_gt1, wn_le1, nb0, nb1, am_kt, am_rt, List.cons_append, List.nil_append, true_and, and_true, not_true_eq_false, not_false_eq_true, imp_f, imp_t, implies_true, Nat.zero_add, if_true, if_false, false_and, and_false, cn134, fC hsh, fW2 hsh hT, fD hsh hT.2.2.1, e6, na2, nb2, hh2, nc2, ct139y (v := 1) (by decide) (by decide), na3, nb3, hh3, nc3, hxa, ct139n hsh hB]
          rw [← hP]; exact OC_8 hR hB
        · have hxb : ¬ x4 < wn (17) := by rcases hx4 with z | z; exact absurd z hxa; exact z
          have hxc : wn (17) ≤ x4 := Int32.not_lt.mp hxb
          have hxd : wn 16 < x4 := out3 (by decide) hxb
          simp +decide (disch := omega) only [↓wm1, wb134_0 hc, wb134_6 hc, wb134_12 hc, wb134_16 hc, wb134_17 hc, wb134_20 hc, wb134_26 hc, wb134_32 hc, wb134_36 hc, wb134_37 hc, wb134_40 hc, wb134_46 hc, wb134_53 hc, wb134_57 hc, wb134_58 hc, wb134_61 hc, wb134_67 hc, wb134_73 hc, wb134_77 hc, wb134_78 hc, wb134_81 hc, wb134_87 hc, wb134_102 hc, wb134_106 hc, wb134_107 hc, wb134_110 hc, wb134_130 hc, wb134_155 hc, wb134_167 hc, wb134_181 hc, wb134_195 hc, wb134_199 hc, wb134_202 hc, wb134_208 hc, wb134_213 hc, wb134_218 hc, wb134_224 hc, wb134_229 hc, wb134_231 hc, w0, w1, w2, w16, w20, w96, rI_wI, rP_wI, rL_wI, rI_wR, rP_wR, is_wI, is_wR, ia_wI, ia_wR, ow_wI, ow_wR, wn_add, wn_mul, wn_cl, wn_le, wn_lt, wn_inj, wn_ne1, wn_1ne, wn_gt1, wn_le1, nb0, nb1, am_kt, am_rt, List.cons_append, List.nil_append, true_and, and_true, not_true_eq_false, not_false_eq_true, imp_f, imp_t, implies_true, Nat.zero_add, if_true, if_false, false_and, and_false, cn134, fC hsh, fW2 hsh hT, fD hsh hT.2.2.1, e6, na2, nb2, hh2, nc2, ct139y (v := 1) (by decide) (by decide), na3, nb3, hh3, nc3, hxa, hxb, hxc, hxd, ct139n hsh hB]
          rw [← hP]; exact OC_8 hR hB
    · rw [if_neg (vin2_nf hx3)]
      generalize hP : OC G (rfV V (.inr 1)) (.inr 1) = P
      by_cases hxa : x3 < wn 1
      · simp +decide (disch := omega) only [↓wm1, wb134_0 hc, wb134_6 hc, wb134_12 hc, wb134_16 hc, wb134_17 hc, wb134_20 hc, wb134_26 hc, wb134_32 hc, wb134_36 hc, wb134_37 hc, wb134_40 hc, wb134_46 hc, wb134_53 hc, wb134_57 hc, wb134_58 hc, wb134_61 hc, wb134_67 hc, wb134_73 hc, wb134_77 hc, wb134_78 hc, wb134_81 hc, wb134_87 hc, wb134_102 hc, wb134_106 hc, wb134_107 hc, wb134_110 hc, wb134_130 hc, wb134_155 hc, wb134_167 hc, wb134_181 hc, wb134_195 hc, wb134_199 hc, wb134_202 hc, wb134_208 hc, wb134_213 hc, wb134_218 hc, wb134_224 hc, wb134_229 hc, wb134_231 hc, w0, w1, w2, w16, w20, w96, rI_wI, rP_wI, rL_wI, rI_wR, rP_wR, is_wI, is_wR, ia_wI, ia_wR, ow_wI, ow_wR, wn_add, wn_mul, wn_cl, wn_le, wn_lt, wn_inj, wn_ne1, wn_1ne, wn_gt1, wn_le1, nb0, nb1, am_kt, am_rt, List.cons_append, List.nil_append, true_and, and_true, not_true_eq_false, not_false_eq_true, imp_f, imp_t, implies_true, Nat.zero_add, if_true, if_false, false_and, and_false, cn134, fC hsh, fW2 hsh hT, fD hsh hT.2.2.1, e6, na2, nb2, hh2, nc2, ct139y (v := 1) (by decide) (by decide), hxa, ct139n hsh hB]
        rw [← hP]; exact OC_8 hR hB
      · have hxb : ¬ x3 < wn (97) := by rcases hx3 with z | z; exact absurd z hxa; exact z
        have hxc : wn (97) ≤ x3 := Int32.not_lt.mp hxb
        have hxd : wn 96 < x3 := out3 (by decide) hxb
        simp +decide (disch := omega) only [↓wm1, wb134_0 hc, wb134_6 hc, wb134_12 hc, wb134_16 hc, wb134_17 hc, wb134_20 hc, wb134_26 hc, wb134_32 hc, wb134_36 hc, wb134_37 hc, wb134_40 hc, wb134_46 hc, wb134_53 hc, wb134_57 hc, wb134_58 hc, wb134_61 hc, wb134_67 hc, wb134_73 hc, wb134_77 hc, wb134_78 hc, wb134_81 hc, wb134_87 hc, wb134_102 hc, wb134_106 hc, wb134_107 hc, wb134_110 hc, wb134_130 hc, wb134_155 hc, wb134_167 hc, wb134_181 hc, wb134_195 hc, wb134_199 hc, wb134_202 hc, wb134_208 hc, wb134_213 hc, wb134_218 hc, wb134_224 hc, wb134_229 hc, wb134_231 hc, w0, w1, w2, w16, w20, w96, rI_wI, rP_wI, rL_wI, rI_wR, rP_wR, is_wI, is_wR, ia_wI, ia_wR, ow_wI, ow_wR, wn_add, wn_mul, wn_cl, wn_le, wn_lt, wn_inj, wn_ne1, wn_1ne, wn_gt1, wn_le1, nb0, nb1, am_kt, am_rt, List.cons_append, List.nil_append, true_and, and_true, not_true_eq_false, not_false_eq_true, imp_f, imp_t, implies_true, Nat.zero_add, if_true, if_false, false_and, and_false, cn134, fC hsh, fW2 hsh hT, fD hsh hT.2.2.1, e6, na2, nb2, hh2, nc2, ct139y (v := 1) (by decide) (by decide), hxa, hxb, hxc, hxd, ct139n hsh hB]
        rw [← hP]; exact OC_8 hR hB
  · rw [if_neg (vin2_nf hx2)]
    generalize hP : OC G (rfV V (.inr 1)) (.inr 1) = P
    by_cases hxa : x2 < wn 1
    · simp +decide (disch := omega) only [↓wm1, wb134_0 hc, wb134_6 hc, wb134_12 hc, wb134_16 hc, wb134_17 hc, wb134_20 hc, wb134_26 hc, wb134_32 hc, wb134_36 hc, wb134_37 hc, wb134_40 hc, wb134_46 hc, wb134_53 hc, wb134_57 hc, wb134_58 hc, wb134_61 hc, wb134_67 hc, wb134_73 hc, wb134_77 hc, wb134_78 hc, wb134_81 hc, wb134_87 hc, wb134_102 hc, wb134_106 hc, wb134_107 hc, wb134_110 hc, wb134_130 hc, wb134_155 hc, wb134_167 hc, wb134_181 hc, wb134_195 hc, wb134_199 hc, wb134_202 hc, wb134_208 hc, wb134_213 hc, wb134_218 hc, wb134_224 hc, wb134_229 hc, wb134_231 hc, w0, w1, w2, w16, w20, w96, rI_wI, rP_wI, rL_wI, rI_wR, rP_wR, is_wI, is_wR, ia_wI, ia_wR, ow_wI, ow_wR, wn_add, wn_mul, wn_cl, wn_le, wn_lt, wn_inj, wn_ne1, wn_1ne, wn_gt1, wn_le1, nb0, nb1, am_kt, am_rt, List.cons_append, List.nil_append, true_and, and_true, not_true_eq_false, not_false_eq_true, imp_f, imp_t, implies_true, Nat.zero_add, if_true, if_false, false_and, and_false, cn134, fC hsh, fW2 hsh hT, fD hsh hT.2.2.1, e6, hxa, ct139n hsh hB]
      rw [← hP]; exact OC_8 hR hB
    · have hxb : ¬ x2 < wn (21) := by rcases hx2 with z | z; exact absurd z hxa; exact z
      have hxc : wn (21) ≤ x2 := Int32.not_lt.mp hxb
      have hxd : wn 20 < x2 := out3 (by decide) hxb
      simp +decide (disch := omega) only [↓wm1, wb134_0 hc, wb134_6 hc, wb134_12 hc, wb134_16 hc, wb134_17 hc, wb134_20 hc, wb134_26 hc, wb134_32 hc, wb134_36 hc, wb134_37 hc, wb134_40 hc, wb134_46 hc, wb134_53 hc, wb134_57 hc, wb134_58 hc, wb134_61 hc, wb134_67 hc, wb134_73 hc, wb134_77 hc, wb134_78 hc, wb134_81 hc, wb134_87 hc, wb134_102 hc, wb134_106 hc, wb134_107 hc, wb134_110 hc, wb134_130 hc, wb134_155 hc, wb134_167 hc, wb134_181 hc, wb134_195 hc, wb134_199 hc, wb134_202 hc, wb134_208 hc, wb134_213 hc, wb134_218 hc, wb134_224 hc, wb134_229 hc, wb134_231 hc, w0, w1, w2, w16, w20, w96, rI_wI, rP_wI, rL_wI, rI_wR, rP_wR, is_wI, is_wR, ia_wI, ia_wR, ow_wI, ow_wR, wn_add, wn_mul, wn_cl, wn_le, wn_lt, wn_inj, wn_ne1, wn_1ne, wn_gt1, wn_le1, nb0, nb1, am_kt, am_rt, List.cons_append, List.nil_append, true_and, and_true, not_true_eq_false, not_false_eq_true, imp_f, imp_t, implies_true, Nat.zero_add, if_true, if_false, false_and, and_false, cn134, fC hsh, fW2 hsh hT, fD hsh hT.2.2.1, e6, hxa, hxb, hxc, hxd, ct139n hsh hB]
      rw [← hP]; exact OC_8 hR hB
theorem rf_span (hR : RepR G V) (x1 x2 x3 x4 x5 x6 : Int32) : am_C am_T (d + 12) 262 [.ref 334, .int x1, .int x2, .int x3, .int x4, .int x5, .int x6] G (OR G (rfV V (sp_span V x1 x2 x3 x4 x5 x6)) 1 (sp_span V x1 x2 x3 x4 x5 x6)) := by
  have hc := am_C_one am_T (d + 11)
  have k0 : Kp QSR G (am_wI G 334 0 (wn 0)) := (Kp.refl G).wI (Or.inl ⟨rfl, Or.inl rfl⟩) _
  have e0 : am_gI (am_wI G 334 0 (wn 0)) 334 0 = wn 0 := by rw [rI_wI, if_pos ⟨rfl, rfl⟩]
  have hR0 := hR.q k0
  have hshG := hR.1
  unfold sp_span
  rw [we262]
  generalize hOR : OR G = OG
  simp +decide (disch := omega) only [↓wm1, wb262_0 hc, w0, w1, w2, w20, rI_wI, rP_wI, rL_wI, rI_wR, rP_wR, is_wI, is_wR, ia_wI, ia_wR, ow_wI, ow_wR, wn_add, wn_mul, wn_cl, wn_le, wn_lt, wn_inj, wn_ne1, wn_1ne, wn_gt1, wn_le1, nb0, nb1, am_kt, am_rt, List.cons_append, List.nil_append, true_and, and_true, not_true_eq_false, not_false_eq_true, imp_f, imp_t, implies_true, Nat.zero_add, if_true, if_false, false_and, and_false, fM hshG, fE2 hR.2.2.2.1, ia338 hshG]
  generalize am_wI G 334 0 (wn 0) = G0 at k0 e0 hR0 ⊢
  subst hOR
  have hsh := hR0.1
  have hv := hR0.2.1
  have hT := hR0.2.2.2.1
  have hr := hR0.2.2.2.2.1.1
  have vd := hv.2.2.2.1
  have bB := vd.1
  have bH := vd.2.1
  have bD := vd.2.2.1
  have hs9 := hv.2.2.2.2.2.1
  have hvs := hs9.1
  have hg := hvs.g6 bB
  have ht := hvs.t6 bB
  have hm := hvs.2.2.2.2.2.1
  have h9 := hs9.2
  have p6 : 2 ^ dB (vδ V) ≤ 64 := Nat.pow_le_pow_right (n := 2) (by decide) bB
  have e6 := bs1 (dB (vδ V)) (by omega)
  rcases vin2_or x2 1 (21) (by omega) (by omega) with ⟨b2, hl2, hh2, rfl⟩ | hx2
  · rw [if_pos (vin2_t hl2 hh2 (by omega))]
    rcases vin2_or x3 1 (97) (by omega) (by omega) with ⟨b3, hl3, hh3, rfl⟩ | hx3
    · rw [if_pos (vin2_t hl3 hh3 (by omega))]
      rcases vin2_or x4 0 (17) (by omega) (by omega) with ⟨b4, hl4, hh4, rfl⟩ | hx4
      · rw [if_pos (vin2_t hl4 hh4 (by omega))]
        rcases vin2_or x5 0 (3) (by omega) (by omega) with ⟨b5, hl5, hh5, rfl⟩ | hx5
        · rw [if_pos (vin2_t hl5 hh5 (by omega))]
          rcases vin2_or x6 0 (dH (vδ V)) (by omega) (by omega) with ⟨b6, hl6, hh6, rfl⟩ | hx6
          · rw [if_pos (vin2_t hl6 hh6 (by omega))]
            simp only [u_wn (show b2 < 2147483648 by omega), u_wn (show b3 < 2147483648 by omega), u_wn (show b4 < 2147483648 by omega), u_wn (show b5 < 2147483648 by omega), u_wn (show b6 < 2147483648 by omega)]
            generalize hP : OR G (rfV V (.inl (q_span V x1 b2 b3 b4 b5 b6))) 1 (.inl (q_span V x1 b2 b3 b4 b5 b6)) = P
            simp +decide (disch := omega) only [↓wm1, wb262_0 hc, wb262_13 hc, wb262_16 hc, wb262_22 hc, wb262_25 hc, wb262_32 hc, wb262_35 hc, wb262_41 hc, wb262_44 hc, wb262_48 hc, wb262_49 hc, wb262_54 hc, wb262_57 hc, wb262_59 hc, wb262_77 hc, wb262_88 hc, wb262_96 hc, wb262_104 hc, wb262_113 hc, wb262_118 hc, wb262_125 hc, wb262_134 hc, wb262_146 hc, wb262_151 hc, wb262_154 hc, wb262_158 hc, wb262_159 hc, wb262_168 hc, wb262_173 hc, wb262_178 hc, wb262_184 hc, wb262_189 hc, wb262_191 hc, w0, w1, w2, w20, rI_wI, rP_wI, rL_wI, rI_wR, rP_wR, is_wI, is_wR, ia_wI, ia_wR, ow_wI, ow_wR, wn_add, wn_mul, wn_cl, wn_le, wn_lt, wn_inj, wn_ne1, wn_1ne, wn_gt1, wn_le1, nb0, nb1, am_kt, am_rt, List.cons_append, List.nil_append, true_and, and_true, not_true_eq_false, not_false_eq_true, imp_f, imp_t, implies_true, Nat.zero_add, if_true, if_false, false_and, and_false, fM hsh, fE2 hT, ia338 hsh, e6, b01, if_true, Bool.false_eq_true, ct214 hsh hT, ct215 hsh hT, ct220, ct153c, ct153v, ct152n hsh e0, ct260, Bool.false_and, Bool.and_false, Bool.and_self, vin2_t hl2 hh2 (by omega), vin2_t hl3 hh3 (by omega), vin2_t hl4 hh4 (by omega), vin2_t hl5 hh5 (by omega), vin2_t hl6 hh6 (by omega)]
            refine am_for b2 (fun j ls G2 => RI G2 (vδ V) (vΛ V) (vσ V) ∧ Kp MC G0 G2 ∧ ls = [some (.ref 334), some (.int x1), some (.int (wn b2)), some (.int (wn b3)), some (.int (wn b4)), some (.int (wn b5)), some (.int (wn b6)), some (.int (if j = 0 then mm else wn (spf V x1 b3 b4 b6 j).1)), some (.int (wn (spf V x1 b3 b4 b6 j).2.1)), some (.int (wn (spf V x1 b3 b4 b6 j).2.2)), some (.int (wn j)), none]) ?_ ?_ b2 0 (by omega) _ _ ⟨⟨hsh, hT, hr⟩, Kp.refl G0, rfl⟩
            · rintro j hj _ G1 ⟨i1, k1, rfl⟩ nx
              have c1 : ¬ b2 ≤ j := by omega
              have so := spf_ok (s := x1) (q := b4) (h := b6) bB hs9 (show b3 ≤ 96 by omega) j
              have ok := cen_ok (Λ := vΛ V) (q := b4) (s := x1 + wn j) bB hs9 b3 (by omega)
              have vm := ok.1.2.2.2.2.2.1
              have ep : wn (tsum (sP (cen (vδ V) (vΛ V) b4 b3 (vσ V, x1 + wn j, 0)).1) (dB (vδ V))) - wn (tsum (sP (vσ V)) (dB (vδ V))) = wn (cen (vδ V) (vΛ V) b4 b3 (vσ V, x1 + wn j, 0)).2.2 := by rw [ok.2.2.2, wn_sub (by omega), Nat.add_sub_cancel_left]
              rw [wb262_71 hc]
              simp +decide (disch := omega) only [↓wm1, wb262_77 hc, w0, w1, w2, w20, rI_wI, rP_wI, rL_wI, rI_wR, rP_wR, is_wI, is_wR, ia_wI, ia_wR, ow_wI, ow_wR, wn_add, wn_mul, wn_cl, wn_le, wn_lt, wn_inj, wn_ne1, wn_1ne, wn_gt1, wn_le1, nb0, nb1, am_kt, am_rt, List.cons_append, List.nil_append, true_and, and_true, not_true_eq_false, not_false_eq_true, imp_f, imp_t, implies_true, Nat.zero_add, if_true, if_false, false_and, and_false, c1, fM i1.1]
              refine ct259 i1 hs9 (by omega) (by omega) (fun G2 i2 y2 k2 => ?_)
              have hlt := tb_lt (hmd (cen (vδ V) (vΛ V) b4 b3 (vσ V, x1 + wn j, 0)).1) (dH (vδ V))
              have hp7 : 2 ^ dH (vδ V) ≤ 2 ^ 7 := Nat.pow_le_pow_right (by decide) bH
              have eb := bt_tb (hmd (cen (vδ V) (vΛ V) b4 b3 (vσ V, x1 + wn j, 0)).1) (dH (vδ V)) b6 hh6
              have fin : ∀ o7 : Option Value, am_W (am_C am_T (d + 11)) am_262 P 125 [some (.ref 334), some (.int x1), some (.int (wn b2)), some (.int (wn b3)), some (.int (wn b4)), some (.int (wn b5)), some (.int (wn b6)), o7, some (.int (wn (spf V x1 b3 b4 b6 j).2.1)), some (.int (wn (spf V x1 b3 b4 b6 j).2.2)), some (.int (wn j)), some (.int (wn (cen (vδ V) (vΛ V) b4 b3 (vσ V, x1 + wn j, 0)).2.2))] [.int (wn (min (spf V x1 b3 b4 b6 j).1 (cen (vδ V) (vΛ V) b4 b3 (vσ V, x1 + wn j, 0)).2.2))] G2 := by
                intro o7
                simp +decide (disch := omega) only [↓wm1, wb262_125 hc, w0, w1, w2, w20, rI_wI, rP_wI, rL_wI, rI_wR, rP_wR, is_wI, is_wR, ia_wI, ia_wR, ow_wI, ow_wR, wn_add, wn_mul, wn_cl, wn_le, wn_lt, wn_inj, wn_ne1, wn_1ne, wn_gt1, wn_le1, nb0, nb1, am_kt, am_rt, List.cons_append, List.nil_append, true_and, and_true, not_true_eq_false, not_false_eq_true, imp_f, imp_t, implies_true, Nat.zero_add, if_true, if_false, false_and, and_false]
                rw [ct155n (by omega) (by omega)]
                simp +decide (disch := omega) only [↓wm1, wb262_134 hc, wb262_146 hc, w0, w1, w2, w20, rI_wI, rP_wI, rL_wI, rI_wR, rP_wR, is_wI, is_wR, ia_wI, ia_wR, ow_wI, ow_wR, wn_add, wn_mul, wn_cl, wn_le, wn_lt, wn_inj, wn_ne1, wn_1ne, wn_gt1, wn_le1, nb0, nb1, am_kt, am_rt, List.cons_append, List.nil_append, true_and, and_true, not_true_eq_false, not_false_eq_true, imp_f, imp_t, implies_true, Nat.zero_add, if_true, if_false, false_and, and_false, fM i2.1, ct209 i2.1 i2.2.1 h809 y2.1 vm, ct156 (show tb (hmd (cen (vδ V) (vΛ V) b4 b3 (vσ V, x1 + wn j, 0)).1) (dH (vδ V)) < 256 by omega) (show b6 < 8 by omega), eb]
                cases hf : hmd (cen (vδ V) (vΛ V) b4 b3 (vσ V, x1 + wn j, 0)).1 b6 with
                | true =>
                  simp +decide (disch := omega) only [↓wm1, wb262_151 hc, wb262_154 hc, wb262_159 hc, w0, w1, w2, w20, rI_wI, rP_wI, rL_wI, rI_wR, rP_wR, is_wI, is_wR, ia_wI, ia_wR, ow_wI, ow_wR, wn_add, wn_mul, wn_cl, wn_le, wn_lt, wn_inj, wn_ne1, wn_1ne, wn_gt1, wn_le1, nb0, nb1, am_kt, am_rt, List.cons_append, List.nil_append, true_and, and_true, not_true_eq_false, not_false_eq_true, imp_f, imp_t, implies_true, Nat.zero_add, if_true, if_false, false_and, and_false, b01]
                  refine nx _ _ ⟨i2, k1.trans k2, ?_⟩
                  simp only [spf, hf, b01, if_true, Nat.add_eq_zero_iff, Nat.one_ne_zero, and_false, if_false]
                | false =>
                  simp +decide (disch := omega) only [↓wm1, wb262_151 hc, wb262_158 hc, wb262_159 hc, w0, w1, w2, w20, rI_wI, rP_wI, rL_wI, rI_wR, rP_wR, is_wI, is_wR, ia_wI, ia_wR, ow_wI, ow_wR, wn_add, wn_mul, wn_cl, wn_le, wn_lt, wn_inj, wn_ne1, wn_1ne, wn_gt1, wn_le1, nb0, nb1, am_kt, am_rt, List.cons_append, List.nil_append, true_and, and_true, not_true_eq_false, not_false_eq_true, imp_f, imp_t, implies_true, Nat.zero_add, if_true, if_false, false_and, and_false, b01, Bool.false_eq_true]
                  refine nx _ _ ⟨i2, k1.trans k2, ?_⟩
                  simp only [spf, hf, b01, Bool.false_eq_true, Nat.add_eq_zero_iff, Nat.one_ne_zero, and_false, if_false, Nat.add_zero]
              by_cases cj : j = 0
              · subst cj
                have e7 : min (spf V x1 b3 b4 b6 0).1 (cen (vδ V) (vΛ V) b4 b3 (vσ V, x1 + wn 0, 0)).2.2 = (cen (vδ V) (vΛ V) b4 b3 (vσ V, x1 + wn 0, 0)).2.2 := by simp only [spf]; omega
                simp only [e7] at fin
                simp +decide (disch := omega) only [↓wm1, wb262_88 hc, wb262_96 hc, wb262_104 hc, wb262_113 hc, w0, w1, w2, w20, rI_wI, rP_wI, rL_wI, rI_wR, rP_wR, is_wI, is_wR, ia_wI, ia_wR, ow_wI, ow_wR, wn_add, wn_mul, wn_cl, wn_le, wn_lt, wn_inj, wn_ne1, wn_1ne, wn_gt1, wn_le1, nb0, nb1, am_kt, am_rt, List.cons_append, List.nil_append, true_and, and_true, not_true_eq_false, not_false_eq_true, imp_f, imp_t, implies_true, Nat.zero_add, if_true, if_false, false_and, and_false, fM i2.1, ct212 i2.1 i2.2.1 h809 y2.1, ct212 i2.1 i2.2.1 h808 i2.2.2, ep]
                exact fin _
              · have s96 := so.2.1 (by omega)
                simp +decide (disch := omega) only [↓wm1, wb262_88 hc, wb262_96 hc, wb262_104 hc, wb262_118 hc, w0, w1, w2, w20, rI_wI, rP_wI, rL_wI, rI_wR, rP_wR, is_wI, is_wR, ia_wI, ia_wR, ow_wI, ow_wR, wn_add, wn_mul, wn_cl, wn_le, wn_lt, wn_inj, wn_ne1, wn_1ne, wn_gt1, wn_le1, nb0, nb1, am_kt, am_rt, List.cons_append, List.nil_append, true_and, and_true, not_true_eq_false, not_false_eq_true, imp_f, imp_t, implies_true, Nat.zero_add, if_true, if_false, false_and, and_false, fM i2.1, ct212 i2.1 i2.2.1 h809 y2.1, ct212 i2.1 i2.2.1 h808 i2.2.2, ep, cj]
                rw [ct154n (by omega) (by omega)]
                simp only [am_kt, am_rt, List.cons_append, List.nil_append]
                exact fin _
            · rintro _ G1 ⟨i1, k1, rfl⟩
              have cb : ¬ b2 = 0 := by omega
              unfold q_span at hP
              rw [wb262_71 hc, if_neg cb]
              by_cases z0 : b5 = 0
              · rw [if_pos z0] at hP
                simp +decide (disch := omega) only [↓wm1, wb262_168 hc, wb262_173 hc, wb262_191 hc, w0, w1, w2, w20, rI_wI, rP_wI, rL_wI, rI_wR, rP_wR, is_wI, is_wR, ia_wI, ia_wR, ow_wI, ow_wR, wn_add, wn_mul, wn_cl, wn_le, wn_lt, wn_inj, wn_ne1, wn_1ne, wn_gt1, wn_le1, nb0, nb1, am_kt, am_rt, List.cons_append, List.nil_append, true_and, and_true, not_true_eq_false, not_false_eq_true, imp_f, imp_t, implies_true, Nat.zero_add, if_true, if_false, false_and, and_false, Nat.le_refl, z0]
                rw [← hP]; exact OR_ok hR (k0.trans (MC_q k1)) (k1.thr (by unfold MC; omega) e0)
              · rw [if_neg z0] at hP
                by_cases z1 : b5 = 1
                · rw [if_pos z1] at hP
                  simp +decide (disch := omega) only [↓wm1, wb262_168 hc, wb262_178 hc, wb262_184 hc, wb262_191 hc, w0, w1, w2, w20, rI_wI, rP_wI, rL_wI, rI_wR, rP_wR, is_wI, is_wR, ia_wI, ia_wR, ow_wI, ow_wR, wn_add, wn_mul, wn_cl, wn_le, wn_lt, wn_inj, wn_ne1, wn_1ne, wn_gt1, wn_le1, nb0, nb1, am_kt, am_rt, List.cons_append, List.nil_append, true_and, and_true, not_true_eq_false, not_false_eq_true, imp_f, imp_t, implies_true, Nat.zero_add, if_true, if_false, false_and, and_false, Nat.le_refl, z0, z1]
                  rw [← hP]; exact OR_ok hR (k0.trans (MC_q k1)) (k1.thr (by unfold MC; omega) e0)
                · rw [if_neg z1] at hP
                  simp +decide (disch := omega) only [↓wm1, wb262_168 hc, wb262_178 hc, wb262_189 hc, wb262_191 hc, w0, w1, w2, w20, rI_wI, rP_wI, rL_wI, rI_wR, rP_wR, is_wI, is_wR, ia_wI, ia_wR, ow_wI, ow_wR, wn_add, wn_mul, wn_cl, wn_le, wn_lt, wn_inj, wn_ne1, wn_1ne, wn_gt1, wn_le1, nb0, nb1, am_kt, am_rt, List.cons_append, List.nil_append, true_and, and_true, not_true_eq_false, not_false_eq_true, imp_f, imp_t, implies_true, Nat.zero_add, if_true, if_false, false_and, and_false, Nat.le_refl, z0, z1]
                  rw [← hP]; exact OR_ok hR (k0.trans (MC_q k1)) (k1.thr (by unfold MC; omega) e0)
          · rw [if_neg (vin2_nf hx6)]
            generalize hP : OR G (rfV V (.inr 1)) 1 (.inr 1) = P
            simp +decide (disch := omega) only [↓wm1, wb262_0 hc, wb262_13 hc, wb262_16 hc, wb262_22 hc, wb262_25 hc, wb262_32 hc, wb262_35 hc, wb262_41 hc, wb262_44 hc, wb262_48 hc, wb262_49 hc, wb262_54 hc, wb262_57 hc, wb262_59 hc, wb262_77 hc, wb262_88 hc, wb262_96 hc, wb262_104 hc, wb262_113 hc, wb262_118 hc, wb262_125 hc, wb262_134 hc, wb262_146 hc, wb262_151 hc, wb262_154 hc, wb262_158 hc, wb262_159 hc, wb262_168 hc, wb262_173 hc, wb262_178 hc, wb262_184 hc, wb262_189 hc, wb262_191 hc, w0, w1, w2, w20, rI_wI, rP_wI, rL_wI, rI_wR, rP_wR, is_wI, is_wR, ia_wI, ia_wR, ow_wI, ow_wR, wn_add, wn_mul, wn_cl, wn_le, wn_lt, wn_inj, wn_ne1, wn_1ne, wn_gt1, wn_le1, nb0, nb1, am_kt, am_rt, List.cons_append, List.nil_append, true_and, and_true, not_true_eq_false, not_false_eq_true, imp_f, imp_t, implies_true, Nat.zero_add, if_true, if_false, false_and, and_false, fM hsh, fE2 hT, ia338 hsh, e6, b01, if_true, Bool.false_eq_true, ct214 hsh hT, ct215 hsh hT, ct220, ct153c, ct153v, ct152n hsh e0, ct260, Bool.false_and, Bool.and_false, Bool.and_self, vin2_t hl2 hh2 (by omega), vin2_t hl3 hh3 (by omega), vin2_t hl4 hh4 (by omega), vin2_t hl5 hh5 (by omega), vin2_f hx6, ct152y (c := 1) (r := 1) (by decide) (by decide) (by decide) hsh e0]
            rw [← hP]; exact OR_8 hR k0
        · rw [if_neg (vin2_nf hx5)]
          generalize hP : OR G (rfV V (.inr 1)) 1 (.inr 1) = P
          simp +decide (disch := omega) only [↓wm1, wb262_0 hc, wb262_13 hc, wb262_16 hc, wb262_22 hc, wb262_25 hc, wb262_32 hc, wb262_35 hc, wb262_41 hc, wb262_44 hc, wb262_48 hc, wb262_49 hc, wb262_54 hc, wb262_57 hc, wb262_59 hc, wb262_77 hc, wb262_88 hc, wb262_96 hc, wb262_104 hc, wb262_113 hc, wb262_118 hc, wb262_125 hc, wb262_134 hc, wb262_146 hc, wb262_151 hc, wb262_154 hc, wb262_158 hc, wb262_159 hc, wb262_168 hc, wb262_173 hc, wb262_178 hc, wb262_184 hc, wb262_189 hc, wb262_191 hc, w0, w1, w2, w20, rI_wI, rP_wI, rL_wI, rI_wR, rP_wR, is_wI, is_wR, ia_wI, ia_wR, ow_wI, ow_wR, wn_add, wn_mul, wn_cl, wn_le, wn_lt, wn_inj, wn_ne1, wn_1ne, wn_gt1, wn_le1, nb0, nb1, am_kt, am_rt, List.cons_append, List.nil_append, true_and, and_true, not_true_eq_false, not_false_eq_true, imp_f, imp_t, implies_true, Nat.zero_add, if_true, if_false, false_and, and_false, fM hsh, fE2 hT, ia338 hsh, e6, b01, if_true, Bool.false_eq_true, ct214 hsh hT, ct215 hsh hT, ct220, ct153c, ct153v, ct152n hsh e0, ct260, Bool.false_and, Bool.and_false, Bool.and_self, vin2_t hl2 hh2 (by omega), vin2_t hl3 hh3 (by omega), vin2_t hl4 hh4 (by omega), vin2_f hx5, ct152y (c := 1) (r := 1) (by decide) (by decide) (by decide) hsh e0]
          rw [← hP]; exact OR_8 hR k0
      · rw [if_neg (vin2_nf hx4)]
        generalize hP : OR G (rfV V (.inr 1)) 1 (.inr 1) = P
        simp +decide (disch := omega) only [↓wm1, wb262_0 hc, wb262_13 hc, wb262_16 hc, wb262_22 hc, wb262_25 hc, wb262_32 hc, wb262_35 hc, wb262_41 hc, wb262_44 hc, wb262_48 hc, wb262_49 hc, wb262_54 hc, wb262_57 hc, wb262_59 hc, wb262_77 hc, wb262_88 hc, wb262_96 hc, wb262_104 hc, wb262_113 hc, wb262_118 hc, wb262_125 hc, wb262_134 hc, wb262_146 hc, wb262_151 hc, wb262_154 hc, wb262_158 hc, wb262_159 hc, wb262_168 hc, wb262_173 hc, wb262_178 hc, wb262_184 hc, wb262_189 hc, wb262_191 hc, w0, w1, w2, w20, rI_wI, rP_wI, rL_wI, rI_wR, rP_wR, is_wI, is_wR, ia_wI, ia_wR, ow_wI, ow_wR, wn_add, wn_mul, wn_cl, wn_le, wn_lt, wn_inj, wn_ne1, wn_1ne, wn_gt1, wn_le1, nb0, nb1, am_kt, am_rt, List.cons_append, List.nil_append, true_and, and_true, not_true_eq_false, not_false_eq_true, imp_f, imp_t, implies_true, Nat.zero_add, if_true, if_false, false_and, and_false, fM hsh, fE2 hT, ia338 hsh, e6, b01, if_true, Bool.false_eq_true, ct214 hsh hT, ct215 hsh hT, ct220, ct153c, ct153v, ct152n hsh e0, ct260, Bool.false_and, Bool.and_false, Bool.and_self, vin2_t hl2 hh2 (by omega), vin2_t hl3 hh3 (by omega), vin2_f hx4, ct152y (c := 1) (r := 1) (by decide) (by decide) (by decide) hsh e0]
        rw [← hP]; exact OR_8 hR k0
    · rw [if_neg (vin2_nf hx3)]
      generalize hP : OR G (rfV V (.inr 1)) 1 (.inr 1) = P
      simp +decide (disch := omega) only [↓wm1, wb262_0 hc, wb262_13 hc, wb262_16 hc, wb262_22 hc, wb262_25 hc, wb262_32 hc, wb262_35 hc, wb262_41 hc, wb262_44 hc, wb262_48 hc, wb262_49 hc, wb262_54 hc, wb262_57 hc, wb262_59 hc, wb262_77 hc, wb262_88 hc, wb262_96 hc, wb262_104 hc, wb262_113 hc, wb262_118 hc, wb262_125 hc, wb262_134 hc, wb262_146 hc, wb262_151 hc, wb262_154 hc, wb262_158 hc, wb262_159 hc, wb262_168 hc, wb262_173 hc, wb262_178 hc, wb262_184 hc, wb262_189 hc, wb262_191 hc, w0, w1, w2, w20, rI_wI, rP_wI, rL_wI, rI_wR, rP_wR, is_wI, is_wR, ia_wI, ia_wR, ow_wI, ow_wR, wn_add, wn_mul, wn_cl, wn_le, wn_lt, wn_inj, wn_ne1, wn_1ne, wn_gt1, wn_le1, nb0, nb1, am_kt, am_rt, List.cons_append, List.nil_append, true_and, and_true, not_true_eq_false, not_false_eq_true, imp_f, imp_t, implies_true, Nat.zero_add, if_true, if_false, false_and, and_false, fM hsh, fE2 hT, ia338 hsh, e6, b01, if_true, Bool.false_eq_true, ct214 hsh hT, ct215 hsh hT, ct220, ct153c, ct153v, ct152n hsh e0, ct260, Bool.false_and, Bool.and_false, Bool.and_self, vin2_t hl2 hh2 (by omega), vin2_f hx3, ct152y (c := 1) (r := 1) (by decide) (by decide) (by decide) hsh e0]
      rw [← hP]; exact OR_8 hR k0
  · rw [if_neg (vin2_nf hx2)]
    generalize hP : OR G (rfV V (.inr 1)) 1 (.inr 1) = P
    simp +decide (disch := omega) only [↓wm1, wb262_0 hc, wb262_13 hc, wb262_16 hc, wb262_22 hc, wb262_25 hc, wb262_32 hc, wb262_35 hc, wb262_41 hc, wb262_44 hc, wb262_48 hc, wb262_49 hc, wb262_54 hc, wb262_57 hc, wb262_59 hc, wb262_77 hc, wb262_88 hc, wb262_96 hc, wb262_104 hc, wb262_113 hc, wb262_118 hc, wb262_125 hc, wb262_134 hc, wb262_146 hc, wb262_151 hc, wb262_154 hc, wb262_158 hc, wb262_159 hc, wb262_168 hc, wb262_173 hc, wb262_178 hc, wb262_184 hc, wb262_189 hc, wb262_191 hc, w0, w1, w2, w20, rI_wI, rP_wI, rL_wI, rI_wR, rP_wR, is_wI, is_wR, ia_wI, ia_wR, ow_wI, ow_wR, wn_add, wn_mul, wn_cl, wn_le, wn_lt, wn_inj, wn_ne1, wn_1ne, wn_gt1, wn_le1, nb0, nb1, am_kt, am_rt, List.cons_append, List.nil_append, true_and, and_true, not_true_eq_false, not_false_eq_true, imp_f, imp_t, implies_true, Nat.zero_add, if_true, if_false, false_and, and_false, fM hsh, fE2 hT, ia338 hsh, e6, b01, if_true, Bool.false_eq_true, ct214 hsh hT, ct215 hsh hT, ct220, ct153c, ct153v, ct152n hsh e0, ct260, Bool.false_and, Bool.and_false, Bool.and_self, vin2_f hx2, ct152y (c := 1) (r := 1) (by decide) (by decide) (by decide) hsh e0]
    rw [← hP]; exact OR_8 hR k0
end
