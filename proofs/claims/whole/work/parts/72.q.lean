/-! The parts of the whole state; undo, images, counts, the fault. -/
def TpC (G : am_G) (V : Vt) : Prop := Bt G (vt V) ∧ am_gI G 1 1 = wn (vm V) ∧ am_gI G 1 7 = oI (vf V)
def DiC (G : am_G) (V : Vt) : Prop := rS G 32 (vσ V) ∧ am_gI G 31 2 = wn (vw V) ∧ ∀ i, i < vw V → rS G (37 + 4 * i) (vb V i)
def ImC (G : am_G) (V : Vt) : Prop := am_gI G 0 5 = wn (vi V) ∧ ∀ j, j < vi V → rS G (125 + 70 * j) (vis V j) ∧ am_gI G (124 + 70 * j) 2 = wn (viw V j) ∧ ∀ i, i < viw V j → rS G (130 + 70 * j + 4 * i) (vib V j i)
def BkC (G : am_G) (V : Vt) : Prop := am_gI G 106 0 = wn (vk V).length ∧ ∀ h, h < 7 → am_gI G 107 h = bkv (vk V) h
def CtC (G : am_G) (V : Vt) : Prop := am_gI G 0 6 = wn (vr V) ∧ am_gI G 0 7 = wn (v7 V) ∧ am_gI G 0 8 = wn (v8 V)
theorem RepC.mk {G : am_G} {V : Vt} (h1 : Sh G) (h2 : vV V) (h3 : TpC G V) (h4 : TwC G (vδ V) (vΛ V)) (h5 : DiC G V) (h6 : ImC G V) (h7 : BkC G V) (h8 : CtC G V) (h9 : rR G) : RepC G V := ⟨h1, h2, h3, h4, h5, h6, h7, h8, h9⟩
theorem RepC.parts {G : am_G} {V : Vt} (h : RepC G V) : Sh G ∧ vV V ∧ TpC G V ∧ TwC G (vδ V) (vΛ V) ∧ DiC G V ∧ ImC G V ∧ BkC G V ∧ CtC G V ∧ rR G := h
section
variable {G G' : am_G} {V : Vt}
theorem TpC.eq (h : TpC G V) (e : ∀ a i, a = 1 ∨ a = 2 → am_gI G' a i = am_gI G a i) : TpC G' V :=
  ⟨⟨h.1.1, fun i hi => by rw [e _ _ (Or.inr rfl)]; exact h.1.2 i hi⟩, by rw [e _ _ (Or.inl rfl)]; exact h.2.1, by rw [e _ _ (Or.inl rfl)]; exact h.2.2⟩
theorem TwC.eq {δ : Dt} {Λ : List Tok} (h : TwC G δ Λ) (eP : ∀ i, am_gP G' 3 i = am_gP G 3 i) (e : ∀ a i, 4 ≤ a → a < 26 → am_gI G' a i = am_gI G a i) : TwC G' δ Λ := by
  obtain ⟨q, l, h1, h2, h3⟩ := h
  exact ⟨q, l, h1.eq eP e, by rw [eP]; exact h2, by rw [eP]; exact h3⟩
theorem DiC.eq (h : DiC G V) (hw : vw V ≤ 16) (e : ∀ a i, 31 ≤ a → a ≤ 100 → am_gI G' a i = am_gI G a i) : DiC G' V :=
  ⟨h.1.eq (fun a i z1 z2 => e a i (by omega) (by omega)), by rw [e _ _ (by omega) (by omega)]; exact h.2.1, fun i hi => (h.2.2 i hi).eq (fun a j z1 z2 => e a j (by omega) (by omega))⟩
theorem ImC.eq (h : ImC G V) (hi : vi V ≤ 3) (hw : ∀ j, j < vi V → viw V j ≤ 16) (e5 : am_gI G' 0 5 = am_gI G 0 5) (e : ∀ a i, 124 ≤ a → a < 334 → am_gI G' a i = am_gI G a i) : ImC G' V :=
  ⟨by rw [e5]; exact h.1, fun j hj => ⟨(h.2 j hj).1.eq (fun a i z1 z2 => e a i (by omega) (by omega)), by rw [e _ _ (by omega) (by omega)]; exact (h.2 j hj).2.1, fun i hi2 => ((h.2 j hj).2.2 i hi2).eq (fun a m z1 z2 => by have := hw j hj; exact e a m (by omega) (by omega))⟩⟩
theorem BkC.eq (h : BkC G V) (e : ∀ a i, (a = 106 ∧ i = 0) ∨ a = 107 → am_gI G' a i = am_gI G a i) : BkC G' V :=
  ⟨by rw [e _ _ (Or.inl ⟨rfl, rfl⟩)]; exact h.1, fun j hj => by rw [e _ _ (Or.inr rfl)]; exact h.2 j hj⟩
theorem CtC.eq (h : CtC G V) (e : ∀ i, am_gI G' 0 i = am_gI G 0 i) : CtC G' V := ⟨by rw [e]; exact h.1, by rw [e]; exact h.2.1, by rw [e]; exact h.2.2⟩
theorem rR.eq (h : rR G) (e : ∀ i, am_gI G' 111 i = am_gI G 111 i) : rR G' := by
  intro n n1 n2
  rcases h n n1 n2 with z | z
  · left; intro row hr; rw [e]; exact z row hr
  · right; intro row hr; rw [e]; exact z row hr
end
/-! the reference's parts -/
def TpR (G : am_G) (V : Vt) : Prop := Bq G (vt V) ∧ am_gI G 334 1 = wn (vm V) ∧ am_gI G 334 3 = oI (vf V)
def DiR (G : am_G) (V : Vt) : Prop := rW G 808 0 (vσ V) ∧ am_gI G 334 34 = wn (vw V) ∧ ∀ i, i < vw V → rW G (811 + i) 0 (vb V i)
def ImR (G : am_G) (V : Vt) : Prop := am_gI G 334 36 = wn (vi V) ∧ ∀ j, j < vi V → am_gI G (828 + j) 0 = wn (viw V j) ∧ rW G (828 + j) 1 (vis V j) ∧ ∀ i, i < viw V j → rW G (828 + j) (97 + 96 * i) (vib V j i)
def CtR (G : am_G) (V : Vt) : Prop := am_gI G 334 35 = wn (vr V) ∧ am_gI G 336 0 = wn (v7 V) ∧ am_gI G 336 1 = wn (v8 V)
theorem RepR.mk {G : am_G} {V : Vt} (h1 : Sh G) (h2 : vV V) (h3 : TpR G V) (h4 : Tm G (vδ V) (vΛ V)) (h5 : DiR G V) (h6 : ImR G V) (h7 : LB G (vk V)) (h8 : CtR G V) : RepR G V := ⟨h1, h2, h3, h4, h5, h6, h7, h8⟩
theorem RepR.parts {G : am_G} {V : Vt} (h : RepR G V) : Sh G ∧ vV V ∧ TpR G V ∧ Tm G (vδ V) (vΛ V) ∧ DiR G V ∧ ImR G V ∧ LB G (vk V) ∧ CtR G V := h
section
variable {G G' : am_G} {V : Vt}
theorem TpR.eq (h : TpR G V) (e : ∀ a i, (a = 334 ∧ (i = 1 ∨ i = 3)) ∨ a = 335 → am_gI G' a i = am_gI G a i) : TpR G' V :=
  ⟨⟨h.1.1, fun i hi => by rw [e _ _ (Or.inr rfl)]; exact h.1.2 i hi⟩, by rw [e _ _ (Or.inl ⟨rfl, Or.inl rfl⟩)]; exact h.2.1, by rw [e _ _ (Or.inl ⟨rfl, Or.inr rfl⟩)]; exact h.2.2⟩
theorem DiR.eq (h : DiR G V) (hw : vw V ≤ 16) (e : ∀ a i, (a = 334 ∧ i = 34) ∨ a = 808 ∨ (811 ≤ a ∧ a ≤ 826) → am_gI G' a i = am_gI G a i) : DiR G' V :=
  ⟨h.1.eq (fun i => e _ i (by omega)), by rw [e _ _ (by omega)]; exact h.2.1, fun i hi => (h.2.2 i hi).eq (fun j => e _ j (by omega))⟩
theorem ImR.eq (h : ImR G V) (hi : vi V ≤ 3) (e : ∀ a i, (a = 334 ∧ i = 36) ∨ (828 ≤ a ∧ a ≤ 830) → am_gI G' a i = am_gI G a i) : ImR G' V :=
  ⟨by rw [e _ _ (by omega)]; exact h.1, fun j hj => ⟨by rw [e _ _ (by omega)]; exact (h.2 j hj).1, (h.2 j hj).2.1.eq (fun i => e _ i (by omega)), fun i hi2 => ((h.2 j hj).2.2 i hi2).eq (fun m => e _ m (by omega))⟩⟩
theorem LB.eq {bk : List (Nat × Nat)} (h : LB G bk) (hb : bk.length ≤ 7) (e : ∀ a i, (a = 334 ∧ i = 33) ∨ (710 ≤ a ∧ a < 717) → am_gI G' a i = am_gI G a i) : LB G' bk := by
  refine ⟨by rw [e _ _ (by omega)]; exact h.1, fun i x hx => ?_⟩
  have hi : i < bk.length := (List.getElem?_eq_some_iff.mp hx).1
  rw [e _ _ (by omega), e _ _ (by omega)]
  exact h.2 i x hx
theorem CtR.eq (h : CtR G V) (e : ∀ a i, (a = 334 ∧ i = 35) ∨ a = 336 → am_gI G' a i = am_gI G a i) : CtR G' V := ⟨by rw [e _ _ (by omega)]; exact h.1, by rw [e _ _ (by omega)]; exact h.2.1, by rw [e _ _ (by omega)]; exact h.2.2⟩
theorem Tm.eq2 {δ : Dt} {Λ : List Tok} (h : Tm G δ Λ) (e : ∀ a i, (a = 338 ∨ (346 ≤ a ∧ a ≤ 352) ∨ (361 ≤ a ∧ a ≤ 368) ∨ (378 ≤ a ∧ a ≤ 547)) ∨ (a = 334 ∧ i = 19) → am_gI G' a i = am_gI G a i) : Tm G' δ Λ := by
  obtain ⟨t1, t2, t3, t4⟩ := h
  have hl := okΛ_len t4
  obtain ⟨r0, r1, r2, r3, r4, r5, r6⟩ := t1
  have hB := t2.1
  have hH := t2.2.1
  have hD := t2.2.2.1
  refine ⟨⟨?_, ?_, ?_, ?_, fun b hb => ⟨?_, ?_⟩, fun b hb => ⟨?_, ?_⟩, fun b hb => ⟨?_, ?_, ?_⟩⟩, t2, ⟨?_, fun i t ht => ?_⟩, t4⟩
  · rw [e _ _ (by omega)]; exact r0
  · rw [e _ _ (by omega)]; exact r1
  · rw [e _ _ (by omega)]; exact r2
  · rw [e _ _ (by omega)]; exact r3
  · rw [e _ _ (by omega)]; exact (r4 b hb).1
  · rw [e _ _ (by omega)]; exact (r4 b hb).2
  · rw [e _ _ (by omega)]; exact (r5 b hb).1
  · rw [e _ _ (by omega)]; exact (r5 b hb).2
  · rw [e _ _ (by omega)]; exact (r6 b hb).1
  · rw [e _ _ (by omega)]; exact (r6 b hb).2.1
  · rw [e _ _ (by omega)]; exact (r6 b hb).2.2
  · rw [e _ _ (by omega)]; exact t3.1
  · have hi : i < Λ.length := (List.getElem?_eq_some_iff.mp ht).1
    rw [e _ _ (by omega), e _ _ (by omega)]; exact t3.2 i t ht
end
/-! fault, status, count -/
def q_stat (V : Vt) (x : Int32) : Int32 := if x = wn 0 then wn (v7 V) else if x = wn 1 then wn (v8 V) else mm
def q_cnt (V : Vt) (x : Int32) : Int32 := if x = wn 0 then wn (vi V) else if x = wn 1 then wn (vm V) else if x = wn 2 then wn (vw V) else mm
section
variable {G : am_G} {d : Nat} {V : Vt}
theorem cl_fault (hR : RepC G V) : am_C am_T (d + 12) 106 [.ref 0] G (OC G V (.inl (oI (vf V)))) := by
  have hc := am_C_one am_T (d + 11)
  have e := hR.parts.2.2.1.2.2
  rw [we106]
  generalize hP : OC G V (.inl (oI (vf V))) = P
  simp +decide (disch := omega) only [↓wm1, wb106_0 hc, w0, w1, rI_wI, rP_wI, rL_wI, rI_wR, rP_wR, is_wI, is_wR, ia_wI, ia_wR, ow_wI, ow_wR, wn_add, wn_mul, wn_cl, wn_le, wn_lt, wn_inj, wn_ne1, wn_1ne, wn_gt1, wn_le1, nb0, nb1, am_kt, am_rt, List.cons_append, List.nil_append, true_and, and_true, not_true_eq_false, not_false_eq_true, imp_f, imp_t, implies_true, Nat.zero_add, if_true, if_false, false_and, and_false, cn106, fC hR.1, e]
  rw [← hP]; exact OC_ok hR (Kp.refl G)
theorem k0R (G : am_G) : Kp QSR G (am_wI G 334 0 (wn 0)) := (Kp.refl G).wI (Or.inl ⟨rfl, Or.inl rfl⟩) _
theorem e0R (G : am_G) : am_gI (am_wI G 334 0 (wn 0)) 334 0 = wn 0 := by rw [rI_wI, if_pos ⟨rfl, rfl⟩]
theorem rf_fault (hR : RepR G V) : am_C am_T (d + 12) 192 [.ref 334] G (OR G V 1 (.inl (oI (vf V)))) := by
  have hc := am_C_one am_T (d + 11)
  have e := hR.parts.2.2.1.2.2
  rw [we192]
  generalize hP : OR G V 1 (.inl (oI (vf V))) = P
  simp +decide (disch := omega) only [↓wm1, wb192_0 hc, w0, w1, rI_wI, rP_wI, rL_wI, rI_wR, rP_wR, is_wI, is_wR, ia_wI, ia_wR, ow_wI, ow_wR, wn_add, wn_mul, wn_cl, wn_le, wn_lt, wn_inj, wn_ne1, wn_1ne, wn_gt1, wn_le1, nb0, nb1, am_kt, am_rt, List.cons_append, List.nil_append, true_and, and_true, not_true_eq_false, not_false_eq_true, imp_f, imp_t, implies_true, Nat.zero_add, if_true, if_false, false_and, and_false, fM hR.1, e]
  rw [← hP]; exact OR_ok hR (k0R G) (e0R G)
theorem cl_status (hR : RepC G V) (x : Int32) : am_C am_T (d + 12) 137 [.ref 0, .int x] G (OC G V (.inl (q_stat V x))) := by
  have hc := am_C_one am_T (d + 11)
  have e := hR.parts.2.2.2.2.2.2.2.1
  rw [we137]
  unfold q_stat
  by_cases c0 : x = wn 0
  · rw [if_pos c0]
    generalize hP : OC G V (.inl (wn (v7 V))) = P
    simp +decide (disch := omega) only [↓wm1, wb137_0 hc, wb137_4 hc, wb137_11 hc, wb137_16 hc, wb137_23 hc, wb137_24 hc, w0, w1, rI_wI, rP_wI, rL_wI, rI_wR, rP_wR, is_wI, is_wR, ia_wI, ia_wR, ow_wI, ow_wR, wn_add, wn_mul, wn_cl, wn_le, wn_lt, wn_inj, wn_ne1, wn_1ne, wn_gt1, wn_le1, nb0, nb1, am_kt, am_rt, List.cons_append, List.nil_append, true_and, and_true, not_true_eq_false, not_false_eq_true, imp_f, imp_t, implies_true, Nat.zero_add, if_true, if_false, false_and, and_false, fC hR.1, c0, e.2.1]
    rw [← hP]; exact OC_ok hR (Kp.refl G)
  · rw [if_neg c0]
    by_cases c1 : x = wn 1
    · rw [if_pos c1]
      generalize hP : OC G V (.inl (wn (v8 V))) = P
      simp +decide (disch := omega) only [↓wm1, wb137_0 hc, wb137_4 hc, wb137_11 hc, wb137_16 hc, wb137_23 hc, wb137_24 hc, w0, w1, rI_wI, rP_wI, rL_wI, rI_wR, rP_wR, is_wI, is_wR, ia_wI, ia_wR, ow_wI, ow_wR, wn_add, wn_mul, wn_cl, wn_le, wn_lt, wn_inj, wn_ne1, wn_1ne, wn_gt1, wn_le1, nb0, nb1, am_kt, am_rt, List.cons_append, List.nil_append, true_and, and_true, not_true_eq_false, not_false_eq_true, imp_f, imp_t, implies_true, Nat.zero_add, if_true, if_false, false_and, and_false, fC hR.1, c1, e.2.2]
      rw [← hP]; exact OC_ok hR (Kp.refl G)
    · rw [if_neg c1]
      generalize hP : OC G V (.inl mm) = P
      simp +decide (disch := omega) only [↓wm1, wb137_0 hc, wb137_4 hc, wb137_11 hc, wb137_16 hc, wb137_23 hc, wb137_24 hc, w0, w1, rI_wI, rP_wI, rL_wI, rI_wR, rP_wR, is_wI, is_wR, ia_wI, ia_wR, ow_wI, ow_wR, wn_add, wn_mul, wn_cl, wn_le, wn_lt, wn_inj, wn_ne1, wn_1ne, wn_gt1, wn_le1, nb0, nb1, am_kt, am_rt, List.cons_append, List.nil_append, true_and, and_true, not_true_eq_false, not_false_eq_true, imp_f, imp_t, implies_true, Nat.zero_add, if_true, if_false, false_and, and_false, fC hR.1, c0, c1]
      rw [← hP]; exact OC_ok hR (Kp.refl G)
theorem rf_status (hR : RepR G V) (x : Int32) : am_C am_T (d + 12) 267 [.ref 334, .int x] G (OR G V 1 (.inl (q_stat V x))) := by
  have hc := am_C_one am_T (d + 11)
  have e := hR.parts.2.2.2.2.2.2.2
  rw [we267]
  unfold q_stat
  rcases vin2_or x 0 2 (by decide) (by decide) with ⟨b, -, hb, rfl⟩ | hx
  · have hv := vin2_t (lo := 0) (Nat.zero_le b) hb (by decide)
    have hb2 : b = 0 ∨ b = 1 := by omega
    rcases hb2 with rfl | rfl
    · rw [if_pos rfl]
      generalize hP : OR G V 1 (.inl (wn (v7 V))) = P
      simp +decide (disch := omega) only [↓wm1, wb267_0 hc, wb267_11 hc, wb267_14 hc, wb267_23 hc, wb267_24 hc, w0, w1, rI_wI, rP_wI, rL_wI, rI_wR, rP_wR, is_wI, is_wR, ia_wI, ia_wR, ow_wI, ow_wR, wn_add, wn_mul, wn_cl, wn_le, wn_lt, wn_inj, wn_ne1, wn_1ne, wn_gt1, wn_le1, nb0, nb1, am_kt, am_rt, List.cons_append, List.nil_append, true_and, and_true, not_true_eq_false, not_false_eq_true, imp_f, imp_t, implies_true, Nat.zero_add, if_true, if_false, false_and, and_false, fM hR.1, ct153c, hv, b01, ia336 hR.1, e.2.1]
      rw [← hP]; exact OR_ok hR (k0R G) (e0R G)
    · rw [if_neg (by decide), if_pos rfl]
      generalize hP : OR G V 1 (.inl (wn (v8 V))) = P
      simp +decide (disch := omega) only [↓wm1, wb267_0 hc, wb267_11 hc, wb267_14 hc, wb267_23 hc, wb267_24 hc, w0, w1, rI_wI, rP_wI, rL_wI, rI_wR, rP_wR, is_wI, is_wR, ia_wI, ia_wR, ow_wI, ow_wR, wn_add, wn_mul, wn_cl, wn_le, wn_lt, wn_inj, wn_ne1, wn_1ne, wn_gt1, wn_le1, nb0, nb1, am_kt, am_rt, List.cons_append, List.nil_append, true_and, and_true, not_true_eq_false, not_false_eq_true, imp_f, imp_t, implies_true, Nat.zero_add, if_true, if_false, false_and, and_false, fM hR.1, ct153c, hv, b01, ia336 hR.1, e.2.2]
      rw [← hP]; exact OR_ok hR (k0R G) (e0R G)
  · have hv := vin2_f hx
    have c0 : ¬ x = wn 0 := by rintro rfl; rw [vin2_t (lo := 0) (Nat.le_refl _) (by decide) (by decide)] at hv; cases hv
    have c1 : ¬ x = wn 1 := by rintro rfl; rw [vin2_t (lo := 0) (Nat.zero_le _) (by decide) (by decide)] at hv; cases hv
    rw [if_neg c0, if_neg c1]
    generalize hP : OR G V 1 (.inl mm) = P
    simp +decide (disch := omega) only [↓wm1, wb267_0 hc, wb267_11 hc, wb267_14 hc, wb267_23 hc, wb267_24 hc, w0, w1, rI_wI, rP_wI, rL_wI, rI_wR, rP_wR, is_wI, is_wR, ia_wI, ia_wR, ow_wI, ow_wR, wn_add, wn_mul, wn_cl, wn_le, wn_lt, wn_inj, wn_ne1, wn_1ne, wn_gt1, wn_le1, nb0, nb1, am_kt, am_rt, List.cons_append, List.nil_append, true_and, and_true, not_true_eq_false, not_false_eq_true, imp_f, imp_t, implies_true, Nat.zero_add, if_true, if_false, false_and, and_false, fM hR.1, ct153c, hv, b01, Bool.false_eq_true]
    rw [← hP]; exact OR_ok hR (k0R G) (e0R G)
theorem cl_count (hR : RepC G V) (x : Int32) : am_C am_T (d + 12) 138 [.ref 0, .int x] G (OC G V (.inl (q_cnt V x))) := by
  have hc := am_C_one am_T (d + 11)
  obtain ⟨-, -, tp, -, di, im, -, -, -⟩ := hR.parts
  rw [we138, wb138_0 hc]
  unfold q_cnt
  by_cases c0 : x = wn 0
  · rw [if_pos c0]
    generalize hP : OC G V (.inl (wn (vi V))) = P
    refine ⟨fun _ => ?_, fun z => absurd c0 z⟩
    simp +decide (disch := omega) only [↓wm1, wb138_0 hc, wb138_28 hc, wb138_33 hc, wb138_41 hc, wb138_49 hc, w0, w1, rI_wI, rP_wI, rL_wI, rI_wR, rP_wR, is_wI, is_wR, ia_wI, ia_wR, ow_wI, ow_wR, wn_add, wn_mul, wn_cl, wn_le, wn_lt, wn_inj, wn_ne1, wn_1ne, wn_gt1, wn_le1, nb0, nb1, am_kt, am_rt, List.cons_append, List.nil_append, true_and, and_true, not_true_eq_false, not_false_eq_true, imp_f, imp_t, implies_true, Nat.zero_add, if_true, if_false, false_and, and_false, fC hR.1, im.1]
    rw [← hP]; exact OC_ok hR (Kp.refl G)
  · rw [if_neg c0]
    refine ⟨fun z => absurd z c0, fun _ => ?_⟩
    by_cases c1 : x = wn 1
    · rw [if_pos c1]
      generalize hP : OC G V (.inl (wn (vm V))) = P
      refine ⟨fun _ => ?_, fun z => absurd c1 z⟩
      simp +decide (disch := omega) only [↓wm1, wb138_0 hc, wb138_28 hc, wb138_33 hc, wb138_41 hc, wb138_49 hc, w0, w1, rI_wI, rP_wI, rL_wI, rI_wR, rP_wR, is_wI, is_wR, ia_wI, ia_wR, ow_wI, ow_wR, wn_add, wn_mul, wn_cl, wn_le, wn_lt, wn_inj, wn_ne1, wn_1ne, wn_gt1, wn_le1, nb0, nb1, am_kt, am_rt, List.cons_append, List.nil_append, true_and, and_true, not_true_eq_false, not_false_eq_true, imp_f, imp_t, implies_true, Nat.zero_add, if_true, if_false, false_and, and_false, fC hR.1, tp.2.1]
      rw [← hP]; exact OC_ok hR (Kp.refl G)
    · rw [if_neg c1]
      refine ⟨fun z => absurd z c1, fun _ => ?_⟩
      by_cases c2 : x = wn 2
      · rw [if_pos c2]
        generalize hP : OC G V (.inl (wn (vw V))) = P
        refine ⟨fun _ => ?_, fun z => absurd c2 z⟩
        simp +decide (disch := omega) only [↓wm1, wb138_0 hc, wb138_28 hc, wb138_33 hc, wb138_41 hc, wb138_49 hc, w0, w1, rI_wI, rP_wI, rL_wI, rI_wR, rP_wR, is_wI, is_wR, ia_wI, ia_wR, ow_wI, ow_wR, wn_add, wn_mul, wn_cl, wn_le, wn_lt, wn_inj, wn_ne1, wn_1ne, wn_gt1, wn_le1, nb0, nb1, am_kt, am_rt, List.cons_append, List.nil_append, true_and, and_true, not_true_eq_false, not_false_eq_true, imp_f, imp_t, implies_true, Nat.zero_add, if_true, if_false, false_and, and_false, fC hR.1, di.2.1]
        rw [← hP]; exact OC_ok hR (Kp.refl G)
      · rw [if_neg c2]
        generalize hP : OC G V (.inl mm) = P
        refine ⟨fun z => absurd z c2, fun _ => ?_⟩
        show am_W _ _ _ 49 _ _ _
        simp +decide (disch := omega) only [↓wm1, wb138_0 hc, wb138_28 hc, wb138_33 hc, wb138_41 hc, wb138_49 hc, w0, w1, rI_wI, rP_wI, rL_wI, rI_wR, rP_wR, is_wI, is_wR, ia_wI, ia_wR, ow_wI, ow_wR, wn_add, wn_mul, wn_cl, wn_le, wn_lt, wn_inj, wn_ne1, wn_1ne, wn_gt1, wn_le1, nb0, nb1, am_kt, am_rt, List.cons_append, List.nil_append, true_and, and_true, not_true_eq_false, not_false_eq_true, imp_f, imp_t, implies_true, Nat.zero_add, if_true, if_false, false_and, and_false]
        rw [← hP]; exact OC_ok hR (Kp.refl G)
theorem rf_count (hR : RepR G V) (x : Int32) : am_C am_T (d + 12) 268 [.ref 334, .int x] G (OR G V 1 (.inl (q_cnt V x))) := by
  have hc := am_C_one am_T (d + 11)
  obtain ⟨-, -, tp, -, di, im, -, -⟩ := hR.parts
  rw [we268]
  unfold q_cnt
  by_cases c0 : x = wn 0
  · rw [if_pos c0]
    generalize hP : OR G V 1 (.inl (wn (vi V))) = P
    simp +decide (disch := omega) only [↓wm1, wb268_0 hc, wb268_9 hc, wb268_16 hc, wb268_21 hc, wb268_28 hc, wb268_33 hc, wb268_40 hc, wb268_41 hc, w0, w1, w2, rI_wI, rP_wI, rL_wI, rI_wR, rP_wR, is_wI, is_wR, ia_wI, ia_wR, ow_wI, ow_wR, wn_add, wn_mul, wn_cl, wn_le, wn_lt, wn_inj, wn_ne1, wn_1ne, wn_gt1, wn_le1, nb0, nb1, am_kt, am_rt, List.cons_append, List.nil_append, true_and, and_true, not_true_eq_false, not_false_eq_true, imp_f, imp_t, implies_true, Nat.zero_add, if_true, if_false, false_and, and_false, fM hR.1, c0, im.1]
    rw [← hP]; exact OR_ok hR (k0R G) (e0R G)
  · rw [if_neg c0]
    by_cases c1 : x = wn 1
    · rw [if_pos c1]
      generalize hP : OR G V 1 (.inl (wn (vm V))) = P
      simp +decide (disch := omega) only [↓wm1, wb268_0 hc, wb268_9 hc, wb268_16 hc, wb268_21 hc, wb268_28 hc, wb268_33 hc, wb268_40 hc, wb268_41 hc, w0, w1, w2, rI_wI, rP_wI, rL_wI, rI_wR, rP_wR, is_wI, is_wR, ia_wI, ia_wR, ow_wI, ow_wR, wn_add, wn_mul, wn_cl, wn_le, wn_lt, wn_inj, wn_ne1, wn_1ne, wn_gt1, wn_le1, nb0, nb1, am_kt, am_rt, List.cons_append, List.nil_append, true_and, and_true, not_true_eq_false, not_false_eq_true, imp_f, imp_t, implies_true, Nat.zero_add, if_true, if_false, false_and, and_false, fM hR.1, c1, tp.2.1]
      rw [← hP]; exact OR_ok hR (k0R G) (e0R G)
    · rw [if_neg c1]
      by_cases c2 : x = wn 2
      · rw [if_pos c2]
        generalize hP : OR G V 1 (.inl (wn (vw V))) = P
        simp +decide (disch := omega) only [↓wm1, wb268_0 hc, wb268_9 hc, wb268_16 hc, wb268_21 hc, wb268_28 hc, wb268_33 hc, wb268_40 hc, wb268_41 hc, w0, w1, w2, rI_wI, rP_wI, rL_wI, rI_wR, rP_wR, is_wI, is_wR, ia_wI, ia_wR, ow_wI, ow_wR, wn_add, wn_mul, wn_cl, wn_le, wn_lt, wn_inj, wn_ne1, wn_1ne, wn_gt1, wn_le1, nb0, nb1, am_kt, am_rt, List.cons_append, List.nil_append, true_and, and_true, not_true_eq_false, not_false_eq_true, imp_f, imp_t, implies_true, Nat.zero_add, if_true, if_false, false_and, and_false, fM hR.1, c2, di.2.1]
        rw [← hP]; exact OR_ok hR (k0R G) (e0R G)
      · rw [if_neg c2]
        generalize hP : OR G V 1 (.inl mm) = P
        simp +decide (disch := omega) only [↓wm1, wb268_0 hc, wb268_9 hc, wb268_16 hc, wb268_21 hc, wb268_28 hc, wb268_33 hc, wb268_40 hc, wb268_41 hc, w0, w1, w2, rI_wI, rP_wI, rL_wI, rI_wR, rP_wR, is_wI, is_wR, ia_wI, ia_wR, ow_wI, ow_wR, wn_add, wn_mul, wn_cl, wn_le, wn_lt, wn_inj, wn_ne1, wn_1ne, wn_gt1, wn_le1, nb0, nb1, am_kt, am_rt, List.cons_append, List.nil_append, true_and, and_true, not_true_eq_false, not_false_eq_true, imp_f, imp_t, implies_true, Nat.zero_add, if_true, if_false, false_and, and_false, fM hR.1, c0, c1, c2]
        rw [← hP]; exact OR_ok hR (k0R G) (e0R G)
/-! undo -/
def s_undo (V : Vt) : Vt := if vw V = 0 then V else mkV (vt V) (vm V) (vf V) (vδ V) (vΛ V) (vb V (vw V - 1)) (vw V - 1) (vb V) (vi V) (vis V) (viw V) (vib V) (vk V) 0 (v7 V) (v8 V)
def q_undo (V : Vt) : Int32 := if vw V = 0 then mm else wn (vw V - 1)
theorem vV_undo (h : vV V) : vV (s_undo V) := by
  unfold s_undo
  split
  · exact h
  · obtain ⟨h1, h2, h3, h4, h5, h6, h7, h8, h9⟩ := h
    exact ⟨h1, h2, h3, h4, h5, h8 _ (by omega), by show vw V - 1 ≤ 16; omega, fun i hi => h8 i (by change i < vw V - 1 at hi; omega), h9⟩
theorem sts37 : ∀ i, i < 16 → 37 + 4 * i ∈ sts := by decide
theorem fB36 (h : Sh G) : (∀ i, i < 16 → am_ra G 36 (wn i)) ∧ (∀ i, i < 16 → am_gP G 36 i = 37 + 4 * i) ∧ ∀ i, i < 16 → 37 + 4 * i < 90000 := by
  have key : ∀ i, i < 16 → (36, i, 37 + 4 * i) ∈ pp0 := by decide +kernel
  exact ⟨fun i hi => h.ra4 (n := 16) (by decide +kernel) hi (by decide), fun i hi => h.2 _ (key i hi), fun i hi => by omega⟩
theorem ct7_0 {post : am_O → am_G → Prop} (hsh : Sh G) (e : am_gI G 31 2 = wn 0) : am_C am_T (d + 1) 7 [.ref 31] G post ↔ post (.inl (some (.int (wn 0)))) G := by
  have hc := am_C_one am_T d
  rw [we7]
  simp +decide (disch := omega) only [↓wm1, wb7_0 hc, wb7_7 hc, w0, w1, rI_wI, rP_wI, rL_wI, rI_wR, rP_wR, is_wI, is_wR, ia_wI, ia_wR, ow_wI, ow_wR, wn_add, wn_mul, wn_cl, wn_le, wn_lt, wn_inj, wn_ne1, wn_1ne, wn_gt1, wn_le1, nb0, nb1, am_kt, am_rt, List.cons_append, List.nil_append, true_and, and_true, not_true_eq_false, not_false_eq_true, imp_f, imp_t, implies_true, Nat.zero_add, if_true, if_false, false_and, and_false, fC hsh, e, Nat.lt_irrefl]
theorem ct7_1 {w : Nat} {σ : St} {post : am_O → am_G → Prop} (hsh : Sh G) (e : am_gI G 31 2 = wn (w + 1)) (hw : w < 16) (r0 : rS G (37 + 4 * w) σ) (k : ∀ G', rS G' 32 σ → am_gI G' 31 2 = wn w → Kp (fun a i => (a = 31 ∧ i = 2) ∨ (32 ≤ a ∧ a < 36)) G G' → post (.inl (some (.int (wn 1)))) G') : am_C am_T (d + 2) 7 [.ref 31] G post := by
  have hc := am_C_one am_T (d + 1)
  have cw : 0 < w + 1 := by omega
  have e1 : wn (w + 1) - wn 1 = wn w := by rw [wn_sub (by omega)]; rfl
  rw [we7]
  simp +decide (disch := omega) only [↓wm1, wb7_0 hc, wb7_9 hc, w0, w1, rI_wI, rP_wI, rL_wI, rI_wR, rP_wR, is_wI, is_wR, ia_wI, ia_wR, ow_wI, ow_wR, wn_add, wn_mul, wn_cl, wn_le, wn_lt, wn_inj, wn_ne1, wn_1ne, wn_gt1, wn_le1, nb0, nb1, am_kt, am_rt, List.cons_append, List.nil_append, true_and, and_true, not_true_eq_false, not_false_eq_true, imp_f, imp_t, implies_true, Nat.zero_add, if_true, if_false, false_and, and_false, fC hsh, fB36 hsh, e, cw, e1, ra_wI]
  have k1 : Kp (fun a i => a = 31 ∧ i = 2) G (am_wI G 31 2 (wn w)) := (Kp.refl G).wI ⟨rfl, rfl⟩ _
  refine ct47 (hsh.kp k1) h32 (sts37 w (by omega)) (by omega) (r0.kp k1 (by intro a i z1 z2 z; omega)) (fun G2 r2 k2 => ?_)
  simp +decide (disch := omega) only [↓wm1, wb7_35 hc, w0, w1, rI_wI, rP_wI, rL_wI, rI_wR, rP_wR, is_wI, is_wR, ia_wI, ia_wR, ow_wI, ow_wR, wn_add, wn_mul, wn_cl, wn_le, wn_lt, wn_inj, wn_ne1, wn_1ne, wn_gt1, wn_le1, nb0, nb1, am_kt, am_rt, List.cons_append, List.nil_append, true_and, and_true, not_true_eq_false, not_false_eq_true, imp_f, imp_t, implies_true, Nat.zero_add, if_true, if_false, false_and, and_false]
  exact k G2 r2 (by rw [k2.i (by unfold sc; omega), rI_wI, if_pos ⟨rfl, rfl⟩]) ((k1.mono (fun a i z => Or.inl z)).trans (k2.mono (fun a i z => Or.inr (by unfold sc at z; omega))))
theorem cl_undo (hR : RepC G V) : am_C am_T (d + 12) 107 [.ref 0] G (OC G (s_undo V) (.inl (q_undo V))) := by
  have hc := am_C_one am_T (d + 11)
  obtain ⟨hsh, hv, tp, tw, di, im, bk, ct, rr⟩ := hR.parts
  have hw := hv.2.2.2.2.2.2.1
  have vv := vV_undo hv
  have hi3 := hv.2.2.2.2.2.2.2.2.1
  have hiw : ∀ j, j < vi V → viw V j ≤ 16 := fun j hj => (hv.2.2.2.2.2.2.2.2.2.1 j hj).2.1
  have d1 := di.2.1
  unfold s_undo q_undo at *
  rw [we107]
  by_cases c : vw V = 0
  · simp only [if_pos c] at vv ⊢
    rw [c] at d1
    generalize hP : OC G V (.inl mm) = P
    simp +decide (disch := omega) only [↓wm1, wb107_0 hc, wb107_7 hc, wb107_10 hc, wb107_12 hc, w0, w1, rI_wI, rP_wI, rL_wI, rI_wR, rP_wR, is_wI, is_wR, ia_wI, ia_wR, ow_wI, ow_wR, wn_add, wn_mul, wn_cl, wn_le, wn_lt, wn_inj, wn_ne1, wn_1ne, wn_gt1, wn_le1, nb0, nb1, am_kt, am_rt, List.cons_append, List.nil_append, true_and, and_true, not_true_eq_false, not_false_eq_true, imp_f, imp_t, implies_true, Nat.zero_add, if_true, if_false, false_and, and_false, cn107, fC hsh, ct7_0 hsh d1]
    rw [← hP]; exact OC_ok hR (Kp.refl G)
  · simp only [if_neg c] at vv ⊢
    obtain ⟨w, hw1⟩ : ∃ w, vw V = w + 1 := ⟨vw V - 1, by omega⟩
    have r0 := di.2.2 w (by omega)
    rw [hw1] at vv hw d1 ⊢
    rw [show w + 1 - 1 = w by omega] at vv ⊢
    generalize hP : OC G _ _ = P
    simp +decide (disch := omega) only [↓wm1, wb107_0 hc, w0, w1, rI_wI, rP_wI, rL_wI, rI_wR, rP_wR, is_wI, is_wR, ia_wI, ia_wR, ow_wI, ow_wR, wn_add, wn_mul, wn_cl, wn_le, wn_lt, wn_inj, wn_ne1, wn_1ne, wn_gt1, wn_le1, nb0, nb1, am_kt, am_rt, List.cons_append, List.nil_append, true_and, and_true, not_true_eq_false, not_false_eq_true, imp_f, imp_t, implies_true, Nat.zero_add, if_true, if_false, false_and, and_false, cn107, fC hsh]
    refine ct7_1 hsh d1 (by omega) r0 (fun G2 r2 f2 k2 => ?_)
    have s2 := hsh.kp k2
    simp +decide (disch := omega) only [↓wm1, wb107_7 hc, wb107_12 hc, w0, w1, rI_wI, rP_wI, rL_wI, rI_wR, rP_wR, is_wI, is_wR, ia_wI, ia_wR, ow_wI, ow_wR, wn_add, wn_mul, wn_cl, wn_le, wn_lt, wn_inj, wn_ne1, wn_1ne, wn_gt1, wn_le1, nb0, nb1, am_kt, am_rt, List.cons_append, List.nil_append, true_and, and_true, not_true_eq_false, not_false_eq_true, imp_f, imp_t, implies_true, Nat.zero_add, if_true, if_false, false_and, and_false, cn107, fC s2, f2]
    rw [← hP]
    have kk : Kp (fun a i => (a = 31 ∧ i = 2) ∨ (32 ≤ a ∧ a < 36) ∨ (a = 0 ∧ i = 6)) G (am_wI G2 0 6 (wn 0)) := (k2.mono (fun a i z => by omega)).wI (Or.inr (Or.inr ⟨rfl, rfl⟩)) _
    have s3 : Sh (am_wI G2 0 6 (wn 0)) := s2
    refine ⟨RepC.mk s3 vv (tp.eq (fun a i z => kk.i (by omega))) (tw.eq (fun i => kk.p 3 i) (fun a i z1 z2 => kk.i (by omega))) ⟨?_, ?_, fun i hi => ?_⟩ (im.eq hi3 hiw (kk.i (by omega)) (fun a i z1 z2 => kk.i (by omega))) (bk.eq (fun a i z => kk.i (by omega))) ⟨?_, ?_, ?_⟩ (rr.eq (fun i => kk.i (by omega))), Fc.kp kk (fun a i z => by omega), rfl⟩
    · exact r2.eq (fun a i z1 z2 => by rw [rI_wI, if_neg (by omega)])
    · show am_gI _ 31 2 = wn w
      rw [rI_wI, if_neg (by omega)]; exact f2
    · change i < w at hi
      exact (di.2.2 i (by omega)).eq (fun a j z1 z2 => kk.i (by omega))
    · show am_gI _ 0 6 = wn 0
      rw [rI_wI, if_pos ⟨rfl, rfl⟩]
    · show am_gI _ 0 7 = wn (v7 V)
      rw [kk.i (by omega)]; exact ct.2.1
    · show am_gI _ 0 8 = wn (v8 V)
      rw [kk.i (by omega)]; exact ct.2.2
theorem rf_undo (hR : RepR G V) : am_C am_T (d + 12) 206 [.ref 334] G (OR G (s_undo V) 1 (.inl (q_undo V))) := by
  have hc := am_C_one am_T (d + 11)
  obtain ⟨hsh, hv, tp, tm, di, im, lb, ct⟩ := hR.parts
  have hw := hv.2.2.2.2.2.2.1
  have vv := vV_undo hv
  have hi3 := hv.2.2.2.2.2.2.2.2.1
  have hl7 := hv.2.2.2.2.2.2.2.2.2.2.1
  unfold s_undo q_undo at *
  rw [we206]
  by_cases c : vw V = 0
  · simp only [if_pos c] at vv ⊢
    generalize hP : OR G V 1 (.inl mm) = P
    simp +decide (disch := omega) only [↓wm1, wb206_0 hc, wb206_12 hc, wb206_14 hc, wb206_40 hc, w0, w1, rI_wI, rP_wI, rL_wI, rI_wR, rP_wR, is_wI, is_wR, ia_wI, ia_wR, ow_wI, ow_wR, wn_add, wn_mul, wn_cl, wn_le, wn_lt, wn_inj, wn_ne1, wn_1ne, wn_gt1, wn_le1, nb0, nb1, am_kt, am_rt, List.cons_append, List.nil_append, true_and, and_true, not_true_eq_false, not_false_eq_true, imp_f, imp_t, implies_true, Nat.zero_add, if_true, if_false, false_and, and_false, fM hsh, di.2.1, c]
    rw [← hP]; exact OR_ok hR (k0R G) (e0R G)
  · simp only [if_neg c] at vv ⊢
    obtain ⟨w, hw1⟩ : ∃ w, vw V = w + 1 := ⟨vw V - 1, by omega⟩
    have cw : ¬ w + 1 = 0 := by omega
    have e1 : wn (w + 1) - wn 1 = wn w := by rw [wn_sub (by omega)]; rfl
    have r0 := di.2.2 w (by omega)
    have d1 := di.2.1
    rw [hw1] at vv d1 hw ⊢
    rw [show w + 1 - 1 = w by omega] at vv ⊢
    generalize hP : OR G _ _ _ = P
    simp +decide (disch := omega) only [↓wm1, wb206_0 hc, wb206_14 hc, w0, w1, rI_wI, rP_wI, rL_wI, rI_wR, rP_wR, is_wI, is_wR, ia_wI, ia_wR, ow_wI, ow_wR, wn_add, wn_mul, wn_cl, wn_le, wn_lt, wn_inj, wn_ne1, wn_1ne, wn_gt1, wn_le1, nb0, nb1, am_kt, am_rt, List.cons_append, List.nil_append, true_and, and_true, not_true_eq_false, not_false_eq_true, imp_f, imp_t, implies_true, Nat.zero_add, if_true, if_false, false_and, and_false, fM hsh, d1, cw, e1, fr810 hsh, ra_wI]
    have k1 : Kp (fun a i => a = 334 ∧ (i = 0 ∨ i = 34)) G (am_wI (am_wI G 334 0 (wn 0)) 334 34 (wn w)) := ((Kp.refl G).wI ⟨rfl, Or.inl rfl⟩ _).wI ⟨rfl, Or.inr rfl⟩ _
    refine ct178 (hsh.kp k1) (mrw (show w < 16 by omega)) h808 (by omega) (fun G2 f2 k2 => ?_)
    have s2 := (hsh.kp k1).kp k2
    have g2 : am_gI G2 334 34 = wn w := by rw [k2.i (by omega), rI_wI, if_pos ⟨rfl, rfl⟩]
    simp +decide (disch := omega) only [↓wm1, wb206_40 hc, w0, w1, rI_wI, rP_wI, rL_wI, rI_wR, rP_wR, is_wI, is_wR, ia_wI, ia_wR, ow_wI, ow_wR, wn_add, wn_mul, wn_cl, wn_le, wn_lt, wn_inj, wn_ne1, wn_1ne, wn_gt1, wn_le1, nb0, nb1, am_kt, am_rt, List.cons_append, List.nil_append, true_and, and_true, not_true_eq_false, not_false_eq_true, imp_f, imp_t, implies_true, Nat.zero_add, if_true, if_false, false_and, and_false, fM s2, g2]
    rw [← hP]
    have kk : Kp (fun a i => (a = 334 ∧ (i = 0 ∨ i = 34 ∨ i = 35)) ∨ a = 808) G (am_wI G2 334 35 (wn 0)) := ((k1.mono (fun a i z => Or.inl (by omega))).trans (k2.mono (fun a i z => Or.inr z))).wI (Or.inl ⟨rfl, by omega⟩) _
    have s3 : Sh (am_wI G2 334 35 (wn 0)) := s2
    refine ⟨RepR.mk s3 vv (tp.eq (fun a i z => kk.i (by omega))) (tm.eq2 (fun a i z => kk.i (by omega))) ⟨?_, ?_, fun i hi => ?_⟩ (im.eq hi3 (fun a i z => kk.i (by omega))) (lb.eq hl7 (fun a i z => kk.i (by omega))) ⟨?_, ?_, ?_⟩, kk.mono (fun a i z => by unfold RS; omega), rfl, ?_⟩
    · have : rW G2 808 0 (vb V w) := by
        intro j hj
        rw [Nat.zero_add, f2 j hj, rI_wI, if_neg (by omega), rI_wI, if_neg (by omega)]
        have := r0 j hj
        rw [Nat.zero_add] at this
        exact this
      exact this.eq (fun i => by rw [rI_wI, if_neg (by omega)])
    · show am_gI _ 334 34 = wn w
      rw [rI_wI, if_neg (by omega)]; exact g2
    · change i < w at hi
      exact (di.2.2 i (by omega)).eq (fun j => kk.i (by omega))
    · show am_gI _ 334 35 = wn 0
      rw [rI_wI, if_pos ⟨rfl, rfl⟩]
    · show am_gI _ 336 0 = wn (v7 V)
      rw [kk.i (by omega)]; exact ct.2.1
    · show am_gI _ 336 1 = wn (v8 V)
      rw [kk.i (by omega)]; exact ct.2.2
    · rw [rI_wI, if_neg (by omega), k2.i (by omega), rI_wI, if_neg (by omega), rI_wI, if_pos ⟨rfl, rfl⟩]
end
