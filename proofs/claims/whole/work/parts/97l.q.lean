/-! Rows, the object's side: the questions. -/
theorem Cs.mn {G : am_G} (h : Cs G) : Mn G := ⟨h.2.2.2.2.1, h.2.2.2.2.2⟩
def rwR (x1 x2 : Int32) (v : Nat → Nat → Int32) : Res := if vin2 x1 1 7 = true then (if vin2 x2 0 (mny (u x1)) = true then .inl (v (u x1) (u x2)) else .inr 1) else .inr 1
def sp_changes (x1 x2 : Int32) : Res := rwR x1 x2 (fun n r => wn (dlv n r))
def sp_next (x1 x2 : Int32) : Res := rwR x1 x2 (fun n r => wn (nxp n r (2 ^ (n - 1) - 1)).1)
def q_within (n k : Nat) : Nat := tsum (fun r => b01 (decide (dlv n r ≤ k))) (mny n)
def sp_within (x1 x2 : Int32) : Res := if vin2 x1 1 7 = true then (if vin2 x2 0 16 = true then .inl (wn (q_within (u x1) (u x2))) else .inr 1) else .inr 1
def sp_place (x1 x2 x3 : Int32) : Res := if vin2 x1 1 7 = true then (if vin2 x2 0 (mny (u x1)) = true then (if vin2 x3 0 (u x1) = true then .inl (wn (orv (u x1) (u x2) (u x3))) else .inr 1) else .inr 1) else .inr 1
section
variable {G : am_G} {d : Nat} {V : Vt} {post : am_O → am_G → Prop}
theorem OC_r {G' : am_G} {v : Int32} (hR : RepC G V) (k : Kp LSC G G') (r : rR G') : OC G V (.inl v) (.inl (some (.int v))) G' := by
  obtain ⟨hsh, hv, tp, tw, di, im, bk, ct, rr⟩ := hR.parts
  have hw := hv.2.2.2.2.2.2.1
  have hi3 := hv.2.2.2.2.2.2.2.2.1
  have hiw : ∀ j, j < vi V → viw V j ≤ 16 := fun j hj => (hv.2.2.2.2.2.2.2.2.2.1 j hj).2.1
  have e : ∀ a i, ¬ (111 ≤ a ∧ a ≤ 114) → am_gI G' a i = am_gI G a i := fun a i z => k.i z
  exact ⟨RepC.mk (hsh.kp k) hv (tp.eq (fun a i z => e a i (by omega))) (tw.eq (fun i => k.p 3 i) (fun a i z1 z2 => e a i (by omega))) (DiC.eq di hw (fun a i z1 z2 => e a i (by omega))) (ImC.eq im hi3 hiw (e _ _ (by omega)) (fun a i z1 z2 => e a i (by omega)))
    (BkC.eq bk (fun a i z => e a i (by omega))) (CtC.eq ct (fun i => e _ i (by omega))) r, Fc.kp k (fun a i z => by unfold LSC at z; omega), rfl⟩
theorem ct145y {n row : Nat} (hm : Mn G) (hi : am_is G 0 11) (h1 : 1 ≤ n) (h6 : n ≤ 6) (hr : row < mny n) : am_C am_T (d + 2) 145 [.ref 0, .int (wn n), .int (wn row)] G post ↔ post (.inl none) G := by
  have hc := am_C_one am_T (d + 1)
  have ml := mny_le n (by omega)
  have c1 : ¬ n < 1 := by omega
  have c2 : ¬ 6 < n := by omega
  have c3 : ¬ mny n ≤ row := by omega
  have n7 : n < 7 := by omega
  rw [we145]
  simp +decide (disch := omega) only [↓wm1, wb145_0 hc, wb145_6 hc, wb145_12 hc, wb145_16 hc, wb145_17 hc, wb145_20 hc, wb145_25 hc, wb145_34 hc, wb145_38 hc, wb145_39 hc, wb145_42 hc, w0, w1, w6, rI_wI, rP_wI, rL_wI, rI_wR, rP_wR, is_wI, is_wR, ia_wI, ia_wR, ow_wI, ow_wR, wn_add, wn_mul, wn_cl, wn_le, wn_lt, wn_inj, wn_ne1, wn_1ne, wn_gt1, wn_le1, nb0, nb1, am_kt, am_rt, List.cons_append, List.nil_append, true_and, and_true, not_true_eq_false, not_false_eq_true, imp_f, imp_t, implies_true, Nat.zero_add, if_true, if_false, false_and, and_false, cn145, c1, c2, c3, Nat.not_lt_zero, hi, ia1, hm.1, n7, ct139y (v := 1) (by decide) (by decide)]
theorem ct145a {x1 x2 : Int32} (h : x1 < wn 1 ∨ ¬ x1 < wn 7) (hsh : Sh G) (hB : am_rm G 1 6) : am_C am_T (d + 2) 145 [.ref 0, .int x1, .int x2] G post ↔ post (.inr (am_K G).length) (thr8 G) := by
  have hc := am_C_one am_T (d + 1)
  rw [we145]
  by_cases h1 : x1 < wn 1
  · simp +decide (disch := omega) only [↓wm1, wb145_0 hc, wb145_16 hc, wb145_17 hc, w0, w1, w6, rI_wI, rP_wI, rL_wI, rI_wR, rP_wR, is_wI, is_wR, ia_wI, ia_wR, ow_wI, ow_wR, wn_add, wn_mul, wn_cl, wn_le, wn_lt, wn_inj, wn_ne1, wn_1ne, wn_gt1, wn_le1, nb0, nb1, am_kt, am_rt, List.cons_append, List.nil_append, true_and, and_true, not_true_eq_false, not_false_eq_true, imp_f, imp_t, implies_true, Nat.zero_add, if_true, if_false, false_and, and_false, cn145, fC hsh, h1, ct139n hsh hB]
  · have h2 : wn 6 < x1 := by
      rcases h with z | z
      · exact absurd z h1
      · exact out3 (by decide) z
    simp +decide (disch := omega) only [↓wm1, wb145_0 hc, wb145_6 hc, wb145_16 hc, wb145_17 hc, w0, w1, w6, rI_wI, rP_wI, rL_wI, rI_wR, rP_wR, is_wI, is_wR, ia_wI, ia_wR, ow_wI, ow_wR, wn_add, wn_mul, wn_cl, wn_le, wn_lt, wn_inj, wn_ne1, wn_1ne, wn_gt1, wn_le1, nb0, nb1, am_kt, am_rt, List.cons_append, List.nil_append, true_and, and_true, not_true_eq_false, not_false_eq_true, imp_f, imp_t, implies_true, Nat.zero_add, if_true, if_false, false_and, and_false, cn145, fC hsh, h1, h2, ct139n hsh hB]
theorem ct145b {x2 : Int32} {n : Nat} (h1 : 1 ≤ n) (h6 : n ≤ 6) (h : x2 < wn 0 ∨ ¬ x2 < wn (mny n)) (hsh : Sh G) (hm : Mn G) (hB : am_rm G 1 6) : am_C am_T (d + 2) 145 [.ref 0, .int (wn n), .int x2] G post ↔ post (.inr (am_K G).length) (thr8 G) := by
  have hc := am_C_one am_T (d + 1)
  have c1 : ¬ n < 1 := by omega
  have c2 : ¬ 6 < n := by omega
  have n7 : n < 7 := by omega
  have ml := mny_le n (by omega)
  rw [we145]
  by_cases h2 : x2 < wn 0
  · simp +decide (disch := omega) only [↓wm1, wb145_0 hc, wb145_6 hc, wb145_12 hc, wb145_17 hc, wb145_20 hc, wb145_38 hc, wb145_39 hc, w0, w1, w6, rI_wI, rP_wI, rL_wI, rI_wR, rP_wR, is_wI, is_wR, ia_wI, ia_wR, ow_wI, ow_wR, wn_add, wn_mul, wn_cl, wn_le, wn_lt, wn_inj, wn_ne1, wn_1ne, wn_gt1, wn_le1, nb0, nb1, am_kt, am_rt, List.cons_append, List.nil_append, true_and, and_true, not_true_eq_false, not_false_eq_true, imp_f, imp_t, implies_true, Nat.zero_add, if_true, if_false, false_and, and_false, cn145, fC hsh, c1, c2, h2, ct139y (v := 1) (by decide) (by decide), ct139n hsh hB]
  · have h3 : wn (mny n) ≤ x2 := by
      rcases h with z | z
      · exact absurd z h2
      · exact out2 (by omega) z
    simp +decide (disch := omega) only [↓wm1, wb145_0 hc, wb145_6 hc, wb145_12 hc, wb145_17 hc, wb145_20 hc, wb145_25 hc, wb145_38 hc, wb145_39 hc, w0, w1, w6, rI_wI, rP_wI, rL_wI, rI_wR, rP_wR, is_wI, is_wR, ia_wI, ia_wR, ow_wI, ow_wR, wn_add, wn_mul, wn_cl, wn_le, wn_lt, wn_inj, wn_ne1, wn_1ne, wn_gt1, wn_le1, nb0, nb1, am_kt, am_rt, List.cons_append, List.nil_append, true_and, and_true, not_true_eq_false, not_false_eq_true, imp_f, imp_t, implies_true, Nat.zero_add, if_true, if_false, false_and, and_false, cn145, fC hsh, c1, c2, h2, h3, ia1, hm.1, n7, ct139y (v := 1) (by decide) (by decide), ct139n hsh hB]
theorem ct40 {n row p : Nat} (hsh : Sh G) (hm : Mn G) (h1 : 1 ≤ n) (h6 : n ≤ 6) (hr : row < mny n) (hp : p < n) (k : ∀ G', Kp (fun a _ => a = 113) G G' → post (.inl (some (.int (wn (orv n row p))))) G') : am_C am_T (d + 3) 40 [.ref 110, .int (wn n), .int (wn row), .int (wn p)] G post := by
  have hc := am_C_one am_T (d + 2)
  have p6 : p < 6 := by omega
  rw [we40]
  simp +decide (disch := omega) only [↓wm1, wb40_0 hc, w0, w1, rI_wI, rP_wI, rL_wI, rI_wR, rP_wR, is_wI, is_wR, ia_wI, ia_wR, ow_wI, ow_wR, wn_add, wn_mul, wn_cl, wn_le, wn_lt, wn_inj, wn_ne1, wn_1ne, wn_gt1, wn_le1, nb0, nb1, am_kt, am_rt, List.cons_append, List.nil_append, true_and, and_true, not_true_eq_false, not_false_eq_true, imp_f, imp_t, implies_true, Nat.zero_add, if_true, if_false, false_and, and_false, fC hsh]
  refine ct42 hsh hm h1 h6 hr (fun G1 f1 k1 => ?_)
  have s1 := hsh.kp k1
  have e1 := f1 p hp
  simp +decide (disch := omega) only [↓wm1, wb40_6 hc, w0, w1, rI_wI, rP_wI, rL_wI, rI_wR, rP_wR, is_wI, is_wR, ia_wI, ia_wR, ow_wI, ow_wR, wn_add, wn_mul, wn_cl, wn_le, wn_lt, wn_inj, wn_ne1, wn_1ne, wn_gt1, wn_le1, nb0, nb1, am_kt, am_rt, List.cons_append, List.nil_append, true_and, and_true, not_true_eq_false, not_false_eq_true, imp_f, imp_t, implies_true, Nat.zero_add, if_true, if_false, false_and, and_false, fC s1, q110 s1, ia113 s1, p6, e1]
  exact k G1 k1
theorem cl_changes (hR : RepC G V) (hB : am_rm G 1 6) (hcs : Cs G) (x1 x2 : Int32) : am_C am_T (d + 12) 123 [.ref 0, .int x1, .int x2] G (OC G (rfV V (sp_changes x1 x2)) (sp_changes x1 x2)) := by
  have hc := am_C_one am_T (d + 11)
  have hsh := hR.1
  have hm := hcs.mn
  have i0 := (fC hsh).1
  unfold sp_changes rwR
  rw [we123]
  rcases vin2_or x1 1 7 (by omega) (by omega) with ⟨n, hl1, hh1, rfl⟩ | hx1
  · have h6 : n ≤ 6 := by omega
    have ml := mny_le n (by omega)
    rw [if_pos (vin2_t hl1 hh1 (by omega)), u_wn (by omega)]
    rcases vin2_or x2 0 (mny n) (by omega) (by omega) with ⟨row, hl2, hh2, rfl⟩ | hx2
    · rw [if_pos (vin2_t hl2 hh2 (by omega)), u_wn (by omega)]
      generalize hP : OC G _ _ = P
      simp +decide (disch := omega) only [↓wm1, wb123_0 hc, w0, w1, rI_wI, rP_wI, rL_wI, rI_wR, rP_wR, is_wI, is_wR, ia_wI, ia_wR, ow_wI, ow_wR, wn_add, wn_mul, wn_cl, wn_le, wn_lt, wn_inj, wn_ne1, wn_1ne, wn_gt1, wn_le1, nb0, nb1, am_kt, am_rt, List.cons_append, List.nil_append, true_and, and_true, not_true_eq_false, not_false_eq_true, imp_f, imp_t, implies_true, Nat.zero_add, if_true, if_false, false_and, and_false, cn123, i0, ct145y hm i0 hl1 h6 hh2]
      simp +decide (disch := omega) only [↓wm1, wb123_6 hc, w0, w1, rI_wI, rP_wI, rL_wI, rI_wR, rP_wR, is_wI, is_wR, ia_wI, ia_wR, ow_wI, ow_wR, wn_add, wn_mul, wn_cl, wn_le, wn_lt, wn_inj, wn_ne1, wn_1ne, wn_gt1, wn_le1, nb0, nb1, am_kt, am_rt, List.cons_append, List.nil_append, true_and, and_true, not_true_eq_false, not_false_eq_true, imp_f, imp_t, implies_true, Nat.zero_add, if_true, if_false, false_and, and_false, cn123, fC hsh]
      refine ct37 hsh hm hR.parts.2.2.2.2.2.2.2.2 hl1 h6 hh2 (fun G1 g1 R1 k1 => ?_)
      simp +decide (disch := omega) only [↓wm1, wb123_15 hc, w0, w1, rI_wI, rP_wI, rL_wI, rI_wR, rP_wR, is_wI, is_wR, ia_wI, ia_wR, ow_wI, ow_wR, wn_add, wn_mul, wn_cl, wn_le, wn_lt, wn_inj, wn_ne1, wn_1ne, wn_gt1, wn_le1, nb0, nb1, am_kt, am_rt, List.cons_append, List.nil_append, true_and, and_true, not_true_eq_false, not_false_eq_true, imp_f, imp_t, implies_true, Nat.zero_add, if_true, if_false, false_and, and_false, cn123]
      rw [← hP]; exact OC_r hR k1 R1
    · rw [if_neg (vin2_nf hx2)]
      generalize hP : OC G _ _ = P
      simp +decide (disch := omega) only [↓wm1, wb123_0 hc, w0, w1, rI_wI, rP_wI, rL_wI, rI_wR, rP_wR, is_wI, is_wR, ia_wI, ia_wR, ow_wI, ow_wR, wn_add, wn_mul, wn_cl, wn_le, wn_lt, wn_inj, wn_ne1, wn_1ne, wn_gt1, wn_le1, nb0, nb1, am_kt, am_rt, List.cons_append, List.nil_append, true_and, and_true, not_true_eq_false, not_false_eq_true, imp_f, imp_t, implies_true, Nat.zero_add, if_true, if_false, false_and, and_false, cn123, i0, ct145b hl1 h6 hx2 hsh hm hB]
      rw [← hP]; exact OC_8 hR hB
  · rw [if_neg (vin2_nf hx1)]
    generalize hP : OC G _ _ = P
    simp +decide (disch := omega) only [↓wm1, wb123_0 hc, w0, w1, rI_wI, rP_wI, rL_wI, rI_wR, rP_wR, is_wI, is_wR, ia_wI, ia_wR, ow_wI, ow_wR, wn_add, wn_mul, wn_cl, wn_le, wn_lt, wn_inj, wn_ne1, wn_1ne, wn_gt1, wn_le1, nb0, nb1, am_kt, am_rt, List.cons_append, List.nil_append, true_and, and_true, not_true_eq_false, not_false_eq_true, imp_f, imp_t, implies_true, Nat.zero_add, if_true, if_false, false_and, and_false, cn123, i0, ct145a hx1 hsh hB]
    rw [← hP]; exact OC_8 hR hB
theorem cl_next (hR : RepC G V) (hB : am_rm G 1 6) (hcs : Cs G) (x1 x2 : Int32) : am_C am_T (d + 12) 124 [.ref 0, .int x1, .int x2] G (OC G (rfV V (sp_next x1 x2)) (sp_next x1 x2)) := by
  have hc := am_C_one am_T (d + 11)
  have hsh := hR.1
  have hm := hcs.mn
  have i0 := (fC hsh).1
  unfold sp_next rwR
  rw [we124]
  rcases vin2_or x1 1 7 (by omega) (by omega) with ⟨n, hl1, hh1, rfl⟩ | hx1
  · have h6 : n ≤ 6 := by omega
    have ml := mny_le n (by omega)
    rw [if_pos (vin2_t hl1 hh1 (by omega)), u_wn (by omega)]
    rcases vin2_or x2 0 (mny n) (by omega) (by omega) with ⟨row, hl2, hh2, rfl⟩ | hx2
    · rw [if_pos (vin2_t hl2 hh2 (by omega)), u_wn (by omega)]
      generalize hP : OC G _ _ = P
      simp +decide (disch := omega) only [↓wm1, wb124_0 hc, w0, w1, rI_wI, rP_wI, rL_wI, rI_wR, rP_wR, is_wI, is_wR, ia_wI, ia_wR, ow_wI, ow_wR, wn_add, wn_mul, wn_cl, wn_le, wn_lt, wn_inj, wn_ne1, wn_1ne, wn_gt1, wn_le1, nb0, nb1, am_kt, am_rt, List.cons_append, List.nil_append, true_and, and_true, not_true_eq_false, not_false_eq_true, imp_f, imp_t, implies_true, Nat.zero_add, if_true, if_false, false_and, and_false, cn124, i0, ct145y hm i0 hl1 h6 hh2]
      simp +decide (disch := omega) only [↓wm1, wb124_6 hc, w0, w1, rI_wI, rP_wI, rL_wI, rI_wR, rP_wR, is_wI, is_wR, ia_wI, ia_wR, ow_wI, ow_wR, wn_add, wn_mul, wn_cl, wn_le, wn_lt, wn_inj, wn_ne1, wn_1ne, wn_gt1, wn_le1, nb0, nb1, am_kt, am_rt, List.cons_append, List.nil_append, true_and, and_true, not_true_eq_false, not_false_eq_true, imp_f, imp_t, implies_true, Nat.zero_add, if_true, if_false, false_and, and_false, cn124, fC hsh]
      refine ct39 hsh hm hR.parts.2.2.2.2.2.2.2.2 hl1 h6 hh2 (fun G1 R1 k1 => ?_)
      simp +decide (disch := omega) only [↓wm1, wb124_15 hc, w0, w1, rI_wI, rP_wI, rL_wI, rI_wR, rP_wR, is_wI, is_wR, ia_wI, ia_wR, ow_wI, ow_wR, wn_add, wn_mul, wn_cl, wn_le, wn_lt, wn_inj, wn_ne1, wn_1ne, wn_gt1, wn_le1, nb0, nb1, am_kt, am_rt, List.cons_append, List.nil_append, true_and, and_true, not_true_eq_false, not_false_eq_true, imp_f, imp_t, implies_true, Nat.zero_add, if_true, if_false, false_and, and_false, cn124]
      rw [← hP]; exact OC_r hR k1 R1
    · rw [if_neg (vin2_nf hx2)]
      generalize hP : OC G _ _ = P
      simp +decide (disch := omega) only [↓wm1, wb124_0 hc, w0, w1, rI_wI, rP_wI, rL_wI, rI_wR, rP_wR, is_wI, is_wR, ia_wI, ia_wR, ow_wI, ow_wR, wn_add, wn_mul, wn_cl, wn_le, wn_lt, wn_inj, wn_ne1, wn_1ne, wn_gt1, wn_le1, nb0, nb1, am_kt, am_rt, List.cons_append, List.nil_append, true_and, and_true, not_true_eq_false, not_false_eq_true, imp_f, imp_t, implies_true, Nat.zero_add, if_true, if_false, false_and, and_false, cn124, i0, ct145b hl1 h6 hx2 hsh hm hB]
      rw [← hP]; exact OC_8 hR hB
  · rw [if_neg (vin2_nf hx1)]
    generalize hP : OC G _ _ = P
    simp +decide (disch := omega) only [↓wm1, wb124_0 hc, w0, w1, rI_wI, rP_wI, rL_wI, rI_wR, rP_wR, is_wI, is_wR, ia_wI, ia_wR, ow_wI, ow_wR, wn_add, wn_mul, wn_cl, wn_le, wn_lt, wn_inj, wn_ne1, wn_1ne, wn_gt1, wn_le1, nb0, nb1, am_kt, am_rt, List.cons_append, List.nil_append, true_and, and_true, not_true_eq_false, not_false_eq_true, imp_f, imp_t, implies_true, Nat.zero_add, if_true, if_false, false_and, and_false, cn124, i0, ct145a hx1 hsh hB]
    rw [← hP]; exact OC_8 hR hB
theorem cl_place (hR : RepC G V) (hB : am_rm G 1 6) (hcs : Cs G) (x1 x2 x3 : Int32) : am_C am_T (d + 12) 126 [.ref 0, .int x1, .int x2, .int x3] G (OC G (rfV V (sp_place x1 x2 x3)) (sp_place x1 x2 x3)) := by
  have hc := am_C_one am_T (d + 11)
  have hsh := hR.1
  have hm := hcs.mn
  have i0 := (fC hsh).1
  unfold sp_place
  rw [we126]
  rcases vin2_or x1 1 7 (by omega) (by omega) with ⟨n, hl1, hh1, rfl⟩ | hx1
  · have h6 : n ≤ 6 := by omega
    have ml := mny_le n (by omega)
    rw [if_pos (vin2_t hl1 hh1 (by omega)), u_wn (by omega)]
    rcases vin2_or x2 0 (mny n) (by omega) (by omega) with ⟨row, hl2, hh2, rfl⟩ | hx2
    · rw [if_pos (vin2_t hl2 hh2 (by omega)), u_wn (by omega)]
      rcases vin2_or x3 0 n (by omega) (by omega) with ⟨p, hl3, hh3, rfl⟩ | hx3
      · rw [if_pos (vin2_t hl3 hh3 (by omega)), u_wn (by omega)]
        have c1 : ¬ n ≤ p := by omega
        have p6 : p < 6 := by omega
        generalize hP : OC G _ _ = P
        simp +decide (disch := omega) only [↓wm1, wb126_0 hc, wb126_6 hc, wb126_11 hc, wb126_16 hc, wb126_21 hc, w0, w1, rI_wI, rP_wI, rL_wI, rI_wR, rP_wR, is_wI, is_wR, ia_wI, ia_wR, ow_wI, ow_wR, wn_add, wn_mul, wn_cl, wn_le, wn_lt, wn_inj, wn_ne1, wn_1ne, wn_gt1, wn_le1, nb0, nb1, am_kt, am_rt, List.cons_append, List.nil_append, true_and, and_true, not_true_eq_false, not_false_eq_true, imp_f, imp_t, implies_true, Nat.zero_add, if_true, if_false, false_and, and_false, cn126, i0, ct145y hm i0 hl1 h6 hh2, Nat.not_lt_zero, c1, ct139y (v := 1) (by decide) (by decide)]
        simp +decide (disch := omega) only [↓wm1, wb126_24 hc, w0, w1, rI_wI, rP_wI, rL_wI, rI_wR, rP_wR, is_wI, is_wR, ia_wI, ia_wR, ow_wI, ow_wR, wn_add, wn_mul, wn_cl, wn_le, wn_lt, wn_inj, wn_ne1, wn_1ne, wn_gt1, wn_le1, nb0, nb1, am_kt, am_rt, List.cons_append, List.nil_append, true_and, and_true, not_true_eq_false, not_false_eq_true, imp_f, imp_t, implies_true, Nat.zero_add, if_true, if_false, false_and, and_false, cn126, fC hsh]
        refine ct40 hsh hm hl1 h6 hh2 hh3 (fun G1 k1 => ?_)
        simp +decide (disch := omega) only [↓wm1, wb126_34 hc, w0, w1, rI_wI, rP_wI, rL_wI, rI_wR, rP_wR, is_wI, is_wR, ia_wI, ia_wR, ow_wI, ow_wR, wn_add, wn_mul, wn_cl, wn_le, wn_lt, wn_inj, wn_ne1, wn_1ne, wn_gt1, wn_le1, nb0, nb1, am_kt, am_rt, List.cons_append, List.nil_append, true_and, and_true, not_true_eq_false, not_false_eq_true, imp_f, imp_t, implies_true, Nat.zero_add, if_true, if_false, false_and, and_false, cn126]
        rw [← hP]
        exact OC_ok hR (k1.mono (fun a i z => by unfold QSC; omega))
      · rw [if_neg (vin2_nf hx3)]
        generalize hP : OC G _ _ = P
        by_cases hxa : x3 < wn 0
        · simp +decide (disch := omega) only [↓wm1, wb126_0 hc, wb126_6 hc, wb126_20 hc, wb126_21 hc, w0, w1, rI_wI, rP_wI, rL_wI, rI_wR, rP_wR, is_wI, is_wR, ia_wI, ia_wR, ow_wI, ow_wR, wn_add, wn_mul, wn_cl, wn_le, wn_lt, wn_inj, wn_ne1, wn_1ne, wn_gt1, wn_le1, nb0, nb1, am_kt, am_rt, List.cons_append, List.nil_append, true_and, and_true, not_true_eq_false, not_false_eq_true, imp_f, imp_t, implies_true, Nat.zero_add, if_true, if_false, false_and, and_false, cn126, fC hsh, ct145y hm i0 hl1 h6 hh2, hxa, ct139n hsh hB]
          rw [← hP]; exact OC_8 hR hB
        · have hxc : wn n ≤ x3 := by
            rcases hx3 with z | z
            · exact absurd z hxa
            · exact out2 (by omega) z
          simp +decide (disch := omega) only [↓wm1, wb126_0 hc, wb126_6 hc, wb126_11 hc, wb126_20 hc, wb126_21 hc, w0, w1, rI_wI, rP_wI, rL_wI, rI_wR, rP_wR, is_wI, is_wR, ia_wI, ia_wR, ow_wI, ow_wR, wn_add, wn_mul, wn_cl, wn_le, wn_lt, wn_inj, wn_ne1, wn_1ne, wn_gt1, wn_le1, nb0, nb1, am_kt, am_rt, List.cons_append, List.nil_append, true_and, and_true, not_true_eq_false, not_false_eq_true, imp_f, imp_t, implies_true, Nat.zero_add, if_true, if_false, false_and, and_false, cn126, fC hsh, ct145y hm i0 hl1 h6 hh2, hxa, hxc, ct139n hsh hB]
          rw [← hP]; exact OC_8 hR hB
    · rw [if_neg (vin2_nf hx2)]
      generalize hP : OC G _ _ = P
      simp +decide (disch := omega) only [↓wm1, wb126_0 hc, w0, w1, rI_wI, rP_wI, rL_wI, rI_wR, rP_wR, is_wI, is_wR, ia_wI, ia_wR, ow_wI, ow_wR, wn_add, wn_mul, wn_cl, wn_le, wn_lt, wn_inj, wn_ne1, wn_1ne, wn_gt1, wn_le1, nb0, nb1, am_kt, am_rt, List.cons_append, List.nil_append, true_and, and_true, not_true_eq_false, not_false_eq_true, imp_f, imp_t, implies_true, Nat.zero_add, if_true, if_false, false_and, and_false, cn126, i0, ct145b hl1 h6 hx2 hsh hm hB]
      rw [← hP]; exact OC_8 hR hB
  · rw [if_neg (vin2_nf hx1)]
    generalize hP : OC G _ _ = P
    simp +decide (disch := omega) only [↓wm1, wb126_0 hc, w0, w1, rI_wI, rP_wI, rL_wI, rI_wR, rP_wR, is_wI, is_wR, ia_wI, ia_wR, ow_wI, ow_wR, wn_add, wn_mul, wn_cl, wn_le, wn_lt, wn_inj, wn_ne1, wn_1ne, wn_gt1, wn_le1, nb0, nb1, am_kt, am_rt, List.cons_append, List.nil_append, true_and, and_true, not_true_eq_false, not_false_eq_true, imp_f, imp_t, implies_true, Nat.zero_add, if_true, if_false, false_and, and_false, cn126, i0, ct145a hx1 hsh hB]
    rw [← hP]; exact OC_8 hR hB
theorem cl_within (hR : RepC G V) (hB : am_rm G 1 6) (hcs : Cs G) (x1 x2 : Int32) : am_C am_T (d + 12) 125 [.ref 0, .int x1, .int x2] G (OC G (rfV V (sp_within x1 x2)) (sp_within x1 x2)) := by
  have hc := am_C_one am_T (d + 11)
  have hsh := hR.1
  have hm := hcs.mn
  unfold sp_within
  rw [we125]
  rcases vin2_or x1 1 7 (by omega) (by omega) with ⟨n, hl1, hh1, rfl⟩ | hx1
  · have h6 : n ≤ 6 := by omega
    have ml := mny_le n (by omega)
    have c1 : ¬ n < 1 := by omega
    have c2 : ¬ 6 < n := by omega
    rw [if_pos (vin2_t hl1 hh1 (by omega)), u_wn (by omega)]
    rcases vin2_or x2 0 16 (by omega) (by omega) with ⟨m, hl2, hh2, rfl⟩ | hx2
    · rw [if_pos (vin2_t hl2 hh2 (by omega)), u_wn (by omega)]
      have c3 : ¬ 15 < m := by omega
      generalize hP : OC G _ _ = P
      simp +decide (disch := omega) only [↓wm1, wb125_0 hc, wb125_6 hc, wb125_12 hc, wb125_17 hc, wb125_20 hc, wb125_25 hc, wb125_31 hc, wb125_36 hc, wb125_39 hc, w0, w1, w6, w15, rI_wI, rP_wI, rL_wI, rI_wR, rP_wR, is_wI, is_wR, ia_wI, ia_wR, ow_wI, ow_wR, wn_add, wn_mul, wn_cl, wn_le, wn_lt, wn_inj, wn_ne1, wn_1ne, wn_gt1, wn_le1, nb0, nb1, am_kt, am_rt, List.cons_append, List.nil_append, true_and, and_true, not_true_eq_false, not_false_eq_true, imp_f, imp_t, implies_true, Nat.zero_add, if_true, if_false, false_and, and_false, cn125, fC hsh, c1, c2, c3, Nat.not_lt_zero, ct139y (v := 1) (by decide) (by decide)]
      refine am_for (mny n) (fun j ls G' => rR G' ∧ Kp LSC G G' ∧ ls = [some (.ref 0), some (.int (wn n)), some (.int (wn m)), some (.int (wn (tsum (fun r => b01 (decide (dlv n r ≤ m))) j))), some (.int (wn j))]) ?_ ?_ (mny n) 0 (by omega) _ _ ⟨hR.parts.2.2.2.2.2.2.2.2, Kp.refl G, rfl⟩
      · rintro j hj _ G1 ⟨R1, k1, rfl⟩ nx
        have s1 := hsh.kp k1
        have m1 := hm.kp k1 (fun a i z => by unfold LSC at z; omega)
        have c4 : ¬ mny n ≤ j := by omega
        have dj := dlv_lt n j
        rw [wb125_44 hc]
        simp +decide (disch := omega) only [↓wm1, wb125_54 hc, w0, w1, w6, w15, rI_wI, rP_wI, rL_wI, rI_wR, rP_wR, is_wI, is_wR, ia_wI, ia_wR, ow_wI, ow_wR, wn_add, wn_mul, wn_cl, wn_le, wn_lt, wn_inj, wn_ne1, wn_1ne, wn_gt1, wn_le1, nb0, nb1, am_kt, am_rt, List.cons_append, List.nil_append, true_and, and_true, not_true_eq_false, not_false_eq_true, imp_f, imp_t, implies_true, Nat.zero_add, if_true, if_false, false_and, and_false, cn125, ia1, m1.1, hh1, c4, fC s1]
        refine ct37 s1 m1 R1 hl1 h6 hj (fun G2 g2 R2 k2 => ?_)
        by_cases c5 : dlv n j ≤ m
        · have c6 : ¬ m < dlv n j := by omega
          simp +decide (disch := omega) only [↓wm1, wb125_64 hc, wb125_68 hc, wb125_71 hc, w0, w1, w6, w15, rI_wI, rP_wI, rL_wI, rI_wR, rP_wR, is_wI, is_wR, ia_wI, ia_wR, ow_wI, ow_wR, wn_add, wn_mul, wn_cl, wn_le, wn_lt, wn_inj, wn_ne1, wn_1ne, wn_gt1, wn_le1, nb0, nb1, am_kt, am_rt, List.cons_append, List.nil_append, true_and, and_true, not_true_eq_false, not_false_eq_true, imp_f, imp_t, implies_true, Nat.zero_add, if_true, if_false, false_and, and_false, cn125, c6]
          refine nx _ _ ⟨R2, k1.trans k2, ?_⟩
          simp only [tsum, decide_eq_true c5, b01, if_true]
        · have c6 : m < dlv n j := by omega
          simp +decide (disch := omega) only [↓wm1, wb125_64 hc, wb125_71 hc, w0, w1, w6, w15, rI_wI, rP_wI, rL_wI, rI_wR, rP_wR, is_wI, is_wR, ia_wI, ia_wR, ow_wI, ow_wR, wn_add, wn_mul, wn_cl, wn_le, wn_lt, wn_inj, wn_ne1, wn_1ne, wn_gt1, wn_le1, nb0, nb1, am_kt, am_rt, List.cons_append, List.nil_append, true_and, and_true, not_true_eq_false, not_false_eq_true, imp_f, imp_t, implies_true, Nat.zero_add, if_true, if_false, false_and, and_false, cn125, c6]
          refine nx _ _ ⟨R2, k1.trans k2, ?_⟩
          simp only [tsum, decide_eq_false c5, b01, Bool.false_eq_true, if_false, Nat.add_zero]
      · rintro _ G1 ⟨R1, k1, rfl⟩
        have m1 := hm.kp k1 (fun a i z => by unfold LSC at z; omega)
        rw [wb125_44 hc]
        simp +decide (disch := omega) only [↓wm1, wb125_77 hc, w0, w1, w6, w15, rI_wI, rP_wI, rL_wI, rI_wR, rP_wR, is_wI, is_wR, ia_wI, ia_wR, ow_wI, ow_wR, wn_add, wn_mul, wn_cl, wn_le, wn_lt, wn_inj, wn_ne1, wn_1ne, wn_gt1, wn_le1, nb0, nb1, am_kt, am_rt, List.cons_append, List.nil_append, true_and, and_true, not_true_eq_false, not_false_eq_true, imp_f, imp_t, implies_true, Nat.zero_add, if_true, if_false, false_and, and_false, cn125, ia1, m1.1, hh1, Nat.le_refl]
        rw [← hP]; exact OC_r hR k1 R1
    · rw [if_neg (vin2_nf hx2)]
      generalize hP : OC G _ _ = P
      by_cases hxa : x2 < wn 0
      · simp +decide (disch := omega) only [↓wm1, wb125_0 hc, wb125_6 hc, wb125_12 hc, wb125_17 hc, wb125_20 hc, wb125_35 hc, wb125_36 hc, w0, w1, w6, w15, rI_wI, rP_wI, rL_wI, rI_wR, rP_wR, is_wI, is_wR, ia_wI, ia_wR, ow_wI, ow_wR, wn_add, wn_mul, wn_cl, wn_le, wn_lt, wn_inj, wn_ne1, wn_1ne, wn_gt1, wn_le1, nb0, nb1, am_kt, am_rt, List.cons_append, List.nil_append, true_and, and_true, not_true_eq_false, not_false_eq_true, imp_f, imp_t, implies_true, Nat.zero_add, if_true, if_false, false_and, and_false, cn125, fC hsh, c1, c2, hxa, ct139y (v := 1) (by decide) (by decide), ct139n hsh hB]
        rw [← hP]; exact OC_8 hR hB
      · have hxc : wn 15 < x2 := by
          rcases hx2 with z | z
          · exact absurd z hxa
          · exact out3 (by decide) z
        simp +decide (disch := omega) only [↓wm1, wb125_0 hc, wb125_6 hc, wb125_12 hc, wb125_17 hc, wb125_20 hc, wb125_25 hc, wb125_35 hc, wb125_36 hc, w0, w1, w6, w15, rI_wI, rP_wI, rL_wI, rI_wR, rP_wR, is_wI, is_wR, ia_wI, ia_wR, ow_wI, ow_wR, wn_add, wn_mul, wn_cl, wn_le, wn_lt, wn_inj, wn_ne1, wn_1ne, wn_gt1, wn_le1, nb0, nb1, am_kt, am_rt, List.cons_append, List.nil_append, true_and, and_true, not_true_eq_false, not_false_eq_true, imp_f, imp_t, implies_true, Nat.zero_add, if_true, if_false, false_and, and_false, cn125, fC hsh, c1, c2, hxa, hxc, ct139y (v := 1) (by decide) (by decide), ct139n hsh hB]
        rw [← hP]; exact OC_8 hR hB
  · rw [if_neg (vin2_nf hx1)]
    generalize hP : OC G _ _ = P
    by_cases hxa : x1 < wn 1
    · simp +decide (disch := omega) only [↓wm1, wb125_0 hc, wb125_16 hc, wb125_17 hc, w0, w1, w6, w15, rI_wI, rP_wI, rL_wI, rI_wR, rP_wR, is_wI, is_wR, ia_wI, ia_wR, ow_wI, ow_wR, wn_add, wn_mul, wn_cl, wn_le, wn_lt, wn_inj, wn_ne1, wn_1ne, wn_gt1, wn_le1, nb0, nb1, am_kt, am_rt, List.cons_append, List.nil_append, true_and, and_true, not_true_eq_false, not_false_eq_true, imp_f, imp_t, implies_true, Nat.zero_add, if_true, if_false, false_and, and_false, cn125, fC hsh, hxa, ct139n hsh hB]
      rw [← hP]; exact OC_8 hR hB
    · have hxc : wn 6 < x1 := by
        rcases hx1 with z | z
        · exact absurd z hxa
        · exact out3 (by decide) z
      simp +decide (disch := omega) only [↓wm1, wb125_0 hc, wb125_6 hc, wb125_16 hc, wb125_17 hc, w0, w1, w6, w15, rI_wI, rP_wI, rL_wI, rI_wR, rP_wR, is_wI, is_wR, ia_wI, ia_wR, ow_wI, ow_wR, wn_add, wn_mul, wn_cl, wn_le, wn_lt, wn_inj, wn_ne1, wn_1ne, wn_gt1, wn_le1, nb0, nb1, am_kt, am_rt, List.cons_append, List.nil_append, true_and, and_true, not_true_eq_false, not_false_eq_true, imp_f, imp_t, implies_true, Nat.zero_add, if_true, if_false, false_and, and_false, cn125, fC hsh, hxa, hxc, ct139n hsh hB]
      rw [← hP]; exact OC_8 hR hB
end
