/-! Images, both sides. -/
def s_img (V : Vt) : Vt := if vi V = 3 then V else mkV (vt V) (vm V) (vf V) (vδ V) (vΛ V) (vσ V) (vw V) (vb V) (vi V + 1) (fun j => if j = vi V then vσ V else vis V j) (fun j => if j = vi V then vw V else viw V j) (fun j => if j = vi V then vb V else vib V j) (vk V) (vr V) (v7 V) (v8 V)
def q_img (V : Vt) : Int32 := if vi V = 3 then mm else wn (vi V + 1)
def s_res (V : Vt) : Vt := if vi V = 0 then V else mkV (vt V) (vm V) (vf V) (vδ V) (vΛ V) (vis V (vi V - 1)) (viw V (vi V - 1)) (vib V (vi V - 1)) (vi V - 1) (vis V) (viw V) (vib V) (vk V) 0 (v7 V) (v8 V)
def q_res (V : Vt) : Int32 := if vi V = 0 then mm else wn (vi V - 1)
theorem vV_img {V : Vt} (h : vV V) : vV (s_img V) := by
  unfold s_img
  split
  · exact h
  · obtain ⟨h1, h2, h3, h4, h5, h6, h7, h8, h9, h10, h11⟩ := h
    refine ⟨h1, h2, h3, h4, h5, h6, h7, h8, by show vi V + 1 ≤ 3; omega, fun j hj => ?_, h11⟩
    change j < vi V + 1 at hj
    show vS9 _ _ (if j = vi V then vσ V else vis V j) ∧ (if j = vi V then vw V else viw V j) ≤ 16 ∧ ∀ i, i < (if j = vi V then vw V else viw V j) → vS9 _ _ ((if j = vi V then vb V else vib V j) i)
    by_cases e : j = vi V
    · simp only [if_pos e]; exact ⟨h6, h7, h8⟩
    · simp only [if_neg e]; exact h10 j (by omega)
theorem vV_res {V : Vt} (h : vV V) : vV (s_res V) := by
  unfold s_res
  split
  · exact h
  · obtain ⟨h1, h2, h3, h4, h5, h6, h7, h8, h9, h10, h11⟩ := h
    have q := h10 (vi V - 1) (by omega)
    exact ⟨h1, h2, h3, h4, h5, q.1, q.2.1, q.2.2, by show vi V - 1 ≤ 3; omega, fun j hj => h10 j (by change j < vi V - 1 at hj; omega), h11⟩
/-- the four diaries: now at 31, images at 124, 194, 264 -/
def dia (a : Nat) : Prop := a = 31 ∨ a = 124 ∨ a = 194 ∨ a = 264
theorem fDi {G : am_G} {a : Nat} (h : Sh G) (ha : dia a) : am_is G a 1 ∧ am_gP G a 0 = a + 1 ∧ am_gP G a 1 = a + 5 ∧ a + 1 ∈ sts ∧ a + 1 < 90000 ∧ a + 5 < 90000 ∧ (∀ i, i < 16 → am_ra G (a + 5) (wn i)) ∧ (∀ i, i < 16 → am_gP G (a + 5) i = a + 6 + 4 * i) ∧ (∀ i, i < 16 → a + 6 + 4 * i < 90000) ∧ ∀ i, i < 16 → a + 6 + 4 * i ∈ sts := by
  have k1 : ∀ a, (a = 31 ∨ a = 124 ∨ a = 194 ∨ a = 264) → kk0[a]? = some (1, 3) ∧ (a, 0, a + 1) ∈ pp0 ∧ (a, 1, a + 5) ∈ pp0 ∧ a + 1 ∈ sts ∧ kk0[a + 5]? = some (104, 16) ∧ (∀ i, i < 16 → (a + 5, i, a + 6 + 4 * i) ∈ pp0) ∧ ∀ i, i < 16 → a + 6 + 4 * i ∈ sts := by
    intro a ha
    rcases ha with rfl | rfl | rfl | rfl <;> decide +kernel
  obtain ⟨z1, z2, z3, z4, z5, z6, z7⟩ := k1 a ha
  unfold dia at ha
  exact ⟨h.i z1, h.2 _ z2, h.2 _ z3, z4, by omega, by omega, fun i hi => h.ra4 z5 hi (by decide), fun i hi => h.2 _ (z6 i hi), fun i hi => by omega, z7⟩
/-- a diary's cells -/
def rDi (G : am_G) (a : Nat) (σ : St) (w : Nat) (b : Nat → St) : Prop := rS G (a + 1) σ ∧ am_gI G a 2 = wn w ∧ ∀ i, i < w → rS G (a + 6 + 4 * i) (b i)
def dsc (a : Nat) : Nat → Nat → Prop := fun q _ => a ≤ q ∧ q < a + 70
section
variable {G : am_G} {d : Nat} {V : Vt} {post : am_O → am_G → Prop}
theorem ct8 {a c w : Nat} {σ : St} {b : Nat → St} (hsh : Sh G) (ha : dia a) (hc' : dia c) (hne : a ≠ c) (hw : w ≤ 16) (hr : rDi G c σ w b) (k : ∀ G', rDi G' a σ w b → Kp (dsc a) G G' → post (.inl none) G') : am_C am_T (d + 2) 8 [.ref a, .ref c] G post := by
  have hc := am_C_one am_T (d + 1)
  have dd : a + 70 ≤ c ∨ c + 70 ≤ a := by unfold dia at ha hc'; omega
  have fa := fDi hsh ha
  have fc := fDi hsh hc'
  rw [we8]
  simp +decide (disch := omega) only [↓wm1, wb8_0 hc, w0, w1, w16, rI_wI, rP_wI, rL_wI, rI_wR, rP_wR, is_wI, is_wR, ia_wI, ia_wR, ow_wI, ow_wR, wn_add, wn_mul, wn_cl, wn_le, wn_lt, wn_inj, wn_ne1, wn_1ne, wn_gt1, wn_le1, nb0, nb1, am_kt, am_rt, List.cons_append, List.nil_append, true_and, and_true, not_true_eq_false, not_false_eq_true, imp_f, imp_t, implies_true, Nat.zero_add, if_true, if_false, false_and, and_false, fa, fc, iS hsh fa.2.2.2.1]
  refine ct47 hsh fa.2.2.2.1 fc.2.2.2.1 (by omega) hr.1 (fun G1 r1 k1 => ?_)
  have s1 := hsh.kp k1
  have fa1 := fDi s1 ha
  have fc1 := fDi s1 hc'
  have e1 : am_gI G1 c 2 = wn w := by rw [k1.i (by unfold sc; omega)]; exact hr.2.1
  simp +decide (disch := omega) only [↓wm1, wb8_11 hc, w0, w1, w16, rI_wI, rP_wI, rL_wI, rI_wR, rP_wR, is_wI, is_wR, ia_wI, ia_wR, ow_wI, ow_wR, wn_add, wn_mul, wn_cl, wn_le, wn_lt, wn_inj, wn_ne1, wn_1ne, wn_gt1, wn_le1, nb0, nb1, am_kt, am_rt, List.cons_append, List.nil_append, true_and, and_true, not_true_eq_false, not_false_eq_true, imp_f, imp_t, implies_true, Nat.zero_add, if_true, if_false, false_and, and_false, fa1, fc1, e1]
  have k2 : Kp (dsc a) G (am_wI G1 a 2 (wn w)) := (k1.mono (fun q i z => by unfold sc at z; unfold dsc; omega)).wI (by unfold dsc; omega) _
  refine am_for w (fun j ls G2 => Kp (dsc a) G G2 ∧ rS G2 (a + 1) σ ∧ am_gI G2 a 2 = wn w ∧ (∀ i, i < j → rS G2 (a + 6 + 4 * i) (b i)) ∧ ls = [some (.ref a), some (.ref c), some (.int (wn j))]) ?_ ?_ w 0 (by omega) _ _ ⟨k2, r1.eq (fun q i z1 z2 => by rw [rI_wI, if_neg (by omega)]), by rw [rI_wI, if_pos ⟨rfl, rfl⟩], fun i hi => by omega, rfl⟩
  · rintro j hj _ G2 ⟨kk, r2, e2, rb, rfl⟩ nx
    have c1 : ¬ w ≤ j := by omega
    have c2 : ¬ 16 ≤ j := by omega
    have s2 := hsh.kp kk
    have fa2 := fDi s2 ha
    have fc2 := fDi s2 hc'
    have rc : rS G2 (c + 6 + 4 * j) (b j) := (hr.2.2 j hj).kp kk (by intro q i z1 z2 z; unfold dsc at z; omega)
    rw [wb8_21 hc]
    simp +decide (disch := omega) only [↓wm1, wb8_29 hc, wb8_35 hc, w0, w1, w16, rI_wI, rP_wI, rL_wI, rI_wR, rP_wR, is_wI, is_wR, ia_wI, ia_wR, ow_wI, ow_wR, wn_add, wn_mul, wn_cl, wn_le, wn_lt, wn_inj, wn_ne1, wn_1ne, wn_gt1, wn_le1, nb0, nb1, am_kt, am_rt, List.cons_append, List.nil_append, true_and, and_true, not_true_eq_false, not_false_eq_true, imp_f, imp_t, implies_true, Nat.zero_add, if_true, if_false, false_and, and_false, fa2, fc2, e2, c1, c2, iS s2 (fa2.2.2.2.2.2.2.2.2.2 j (show j < 16 by omega))]
    refine ct47 s2 (fa2.2.2.2.2.2.2.2.2.2 j (by omega)) (fc2.2.2.2.2.2.2.2.2.2 j (by omega)) (by omega) rc (fun G3 r3 k3 => ?_)
    simp +decide (disch := omega) only [↓wm1, wb8_50 hc, w0, w1, w16, rI_wI, rP_wI, rL_wI, rI_wR, rP_wR, is_wI, is_wR, ia_wI, ia_wR, ow_wI, ow_wR, wn_add, wn_mul, wn_cl, wn_le, wn_lt, wn_inj, wn_ne1, wn_1ne, wn_gt1, wn_le1, nb0, nb1, am_kt, am_rt, List.cons_append, List.nil_append, true_and, and_true, not_true_eq_false, not_false_eq_true, imp_f, imp_t, implies_true, Nat.zero_add, if_true, if_false, false_and, and_false]
    refine nx _ _ ⟨kk.trans (k3.mono (fun q i z => by unfold sc at z; unfold dsc; omega)), r2.kp k3 (by intro q i z1 z2 z; unfold sc at z; omega), by rw [k3.i (by unfold sc; omega)]; exact e2, fun i hi => ?_, rfl⟩
    by_cases e : i = j
    · subst e; exact r3
    · exact (rb i (by omega)).kp k3 (by intro q m z1 z2 z; unfold sc at z; omega)
  · rintro _ G2 ⟨kk, r2, e2, rb, rfl⟩
    have fa2 := fDi (hsh.kp kk) ha
    rw [wb8_21 hc]
    simp +decide (disch := omega) only [↓wm1, wb8_56 hc, w0, w1, w16, rI_wI, rP_wI, rL_wI, rI_wR, rP_wR, is_wI, is_wR, ia_wI, ia_wR, ow_wI, ow_wR, wn_add, wn_mul, wn_cl, wn_le, wn_lt, wn_inj, wn_ne1, wn_1ne, wn_gt1, wn_le1, nb0, nb1, am_kt, am_rt, List.cons_append, List.nil_append, true_and, and_true, not_true_eq_false, not_false_eq_true, imp_f, imp_t, implies_true, Nat.zero_add, if_true, if_false, false_and, and_false, fa2, e2, Nat.le_refl]
    exact k G2 ⟨r2, e2, rb⟩ kk
theorem fI101 (h : Sh G) : (∀ i, i < 3 → am_ra G 101 (wn i)) ∧ (∀ i, i < 3 → am_gP G 101 i = 124 + 70 * i) ∧ ∀ i, i < 3 → 124 + 70 * i < 90000 := by
  have key : ∀ i, i < 3 → (101, i, 124 + 70 * i) ∈ pp0 := by decide +kernel
  exact ⟨fun i hi => h.ra3 (n := 3) (by decide +kernel) hi (by decide), fun i hi => h.2 _ (key i hi), fun i hi => by omega⟩
theorem dia_i {i : Nat} (h : i < 3) : dia (124 + 70 * i) := by unfold dia; omega
theorem dia_31 : dia 31 := Or.inl rfl
theorem cl_image (hR : RepC G V) : am_C am_T (d + 12) 135 [.ref 0] G (OC G (s_img V) (.inl (q_img V))) := by
  have hc := am_C_one am_T (d + 11)
  obtain ⟨hsh, hv, tp, tw, di, im, bk, ct, rr⟩ := hR.parts
  have hw := hv.2.2.2.2.2.2.1
  have vv := vV_img hv
  have hi3 := hv.2.2.2.2.2.2.2.2.1
  have hiw : ∀ j, j < vi V → viw V j ≤ 16 := fun j hj => (hv.2.2.2.2.2.2.2.2.2.1 j hj).2.1
  have i1 := im.1
  unfold s_img q_img at *
  rw [we135]
  by_cases c : vi V = 3
  · simp only [if_pos c] at vv ⊢
    rw [c] at i1
    generalize hP : OC G V (.inl mm) = P
    simp +decide (disch := omega) only [↓wm1, wb135_0 hc, wb135_8 hc, w0, w1, w3, rI_wI, rP_wI, rL_wI, rI_wR, rP_wR, is_wI, is_wR, ia_wI, ia_wR, ow_wI, ow_wR, wn_add, wn_mul, wn_cl, wn_le, wn_lt, wn_inj, wn_ne1, wn_1ne, wn_gt1, wn_le1, nb0, nb1, am_kt, am_rt, List.cons_append, List.nil_append, true_and, and_true, not_true_eq_false, not_false_eq_true, imp_f, imp_t, implies_true, Nat.zero_add, if_true, if_false, false_and, and_false, fC hsh, i1, Nat.lt_irrefl]
    rw [← hP]; exact OC_ok hR (Kp.refl G)
  · have cv : vi V < 3 := by omega
    simp only [if_neg c] at vv ⊢
    generalize hP : OC G _ _ = P
    simp +decide (disch := omega) only [↓wm1, wb135_0 hc, wb135_10 hc, w0, w1, w3, rI_wI, rP_wI, rL_wI, rI_wR, rP_wR, is_wI, is_wR, ia_wI, ia_wR, ow_wI, ow_wR, wn_add, wn_mul, wn_cl, wn_le, wn_lt, wn_inj, wn_ne1, wn_1ne, wn_gt1, wn_le1, nb0, nb1, am_kt, am_rt, List.cons_append, List.nil_append, true_and, and_true, not_true_eq_false, not_false_eq_true, imp_f, imp_t, implies_true, Nat.zero_add, if_true, if_false, false_and, and_false, fC hsh, i1, cv, fI101 hsh, fDi hsh (dia_i cv)]
    refine ct8 (σ := vσ V) (w := vw V) (b := vb V) hsh (dia_i cv) dia_31 (by omega) hw ⟨di.1, di.2.1, di.2.2⟩ (fun G2 r2 k2 => ?_)
    have s2 := hsh.kp k2
    have f2 : am_gI G2 0 5 = wn (vi V) := by rw [k2.i (by unfold dsc; omega)]; exact i1
    simp +decide (disch := omega) only [↓wm1, wb135_26 hc, w0, w1, w3, rI_wI, rP_wI, rL_wI, rI_wR, rP_wR, is_wI, is_wR, ia_wI, ia_wR, ow_wI, ow_wR, wn_add, wn_mul, wn_cl, wn_le, wn_lt, wn_inj, wn_ne1, wn_1ne, wn_gt1, wn_le1, nb0, nb1, am_kt, am_rt, List.cons_append, List.nil_append, true_and, and_true, not_true_eq_false, not_false_eq_true, imp_f, imp_t, implies_true, Nat.zero_add, if_true, if_false, false_and, and_false, fC s2, f2]
    rw [← hP]
    have kk : Kp (fun a i => (124 + 70 * vi V ≤ a ∧ a < 194 + 70 * vi V) ∨ (a = 0 ∧ i = 5)) G (am_wI G2 0 5 (wn (vi V + 1))) := (k2.mono (fun a i z => by unfold dsc at z; omega)).wI (Or.inr ⟨rfl, rfl⟩) _
    have s3 : Sh (am_wI G2 0 5 (wn (vi V + 1))) := s2
    refine ⟨RepC.mk s3 vv (tp.eq (fun a i z => kk.i (by omega))) (tw.eq (fun i => kk.p 3 i) (fun a i z1 z2 => kk.i (by omega))) (di.eq hw (fun a i z1 z2 => kk.i (by omega))) ⟨?_, fun j hj => ?_⟩ (bk.eq (fun a i z => kk.i (by omega))) ⟨?_, ?_, ?_⟩ (rr.eq (fun i => kk.i (by omega))), Fc.kp kk (fun a i z => by omega), rfl⟩
    · show am_gI _ 0 5 = wn (vi V + 1)
      rw [rI_wI, if_pos ⟨rfl, rfl⟩]
    · change j < vi V + 1 at hj
      show rS _ (125 + 70 * j) (if j = vi V then vσ V else vis V j) ∧ am_gI _ (124 + 70 * j) 2 = wn (if j = vi V then vw V else viw V j) ∧ ∀ i, i < (if j = vi V then vw V else viw V j) → rS _ (130 + 70 * j + 4 * i) ((if j = vi V then vb V else vib V j) i)
      by_cases e : j = vi V
      · simp only [if_pos e]
        rw [e]
        refine ⟨?_, ?_, fun i hi => ?_⟩
        · have := r2.1; rw [show 124 + 70 * vi V + 1 = 125 + 70 * vi V by omega] at this
          exact this.eq (fun a i z1 z2 => by rw [rI_wI, if_neg (by omega)])
        · rw [rI_wI, if_neg (by omega)]; exact r2.2.1
        · have := r2.2.2 i hi; rw [show 124 + 70 * vi V + 6 + 4 * i = 130 + 70 * vi V + 4 * i by omega] at this
          exact this.eq (fun a m z1 z2 => by rw [rI_wI, if_neg (by omega)])
      · simp only [if_neg e]
        have hj' : j < vi V := by omega
        have w16 := hiw j hj'
        exact ⟨(im.2 j hj').1.eq (fun a i z1 z2 => kk.i (by omega)), by rw [kk.i (by omega)]; exact (im.2 j hj').2.1, fun i hi => ((im.2 j hj').2.2 i hi).eq (fun a m z1 z2 => kk.i (by omega))⟩
    · show am_gI _ 0 6 = wn (vr V)
      rw [kk.i (by omega)]; exact ct.1
    · show am_gI _ 0 7 = wn (v7 V)
      rw [kk.i (by omega)]; exact ct.2.1
    · show am_gI _ 0 8 = wn (v8 V)
      rw [kk.i (by omega)]; exact ct.2.2
theorem cl_restore (hR : RepC G V) : am_C am_T (d + 12) 136 [.ref 0] G (OC G (s_res V) (.inl (q_res V))) := by
  have hc := am_C_one am_T (d + 11)
  obtain ⟨hsh, hv, tp, tw, di, im, bk, ct, rr⟩ := hR.parts
  have hw := hv.2.2.2.2.2.2.1
  have vv := vV_res hv
  have hi3 := hv.2.2.2.2.2.2.2.2.1
  have hiw : ∀ j, j < vi V → viw V j ≤ 16 := fun j hj => (hv.2.2.2.2.2.2.2.2.2.1 j hj).2.1
  have i1 := im.1
  unfold s_res q_res at *
  rw [we136]
  by_cases c : vi V = 0
  · simp only [if_pos c] at vv ⊢
    rw [c] at i1
    generalize hP : OC G V (.inl mm) = P
    simp +decide (disch := omega) only [↓wm1, wb136_0 hc, wb136_7 hc, w0, w1, rI_wI, rP_wI, rL_wI, rI_wR, rP_wR, is_wI, is_wR, ia_wI, ia_wR, ow_wI, ow_wR, wn_add, wn_mul, wn_cl, wn_le, wn_lt, wn_inj, wn_ne1, wn_1ne, wn_gt1, wn_le1, nb0, nb1, am_kt, am_rt, List.cons_append, List.nil_append, true_and, and_true, not_true_eq_false, not_false_eq_true, imp_f, imp_t, implies_true, Nat.zero_add, if_true, if_false, false_and, and_false, fC hsh, i1, Nat.lt_irrefl]
    rw [← hP]; exact OC_ok hR (Kp.refl G)
  · simp only [if_neg c] at vv ⊢
    obtain ⟨w, hw1⟩ : ∃ w, vi V = w + 1 := ⟨vi V - 1, by omega⟩
    have cw : 0 < w + 1 := by omega
    have w3 : w < 3 := by omega
    have e1 : wn (w + 1) - wn 1 = wn w := by rw [wn_sub (by omega)]; rfl
    have q0 := im.2 w (by omega)
    have w16 := hiw w (by omega)
    rw [hw1] at vv i1 ⊢
    rw [show w + 1 - 1 = w by omega] at vv ⊢
    generalize hP : OC G _ _ = P
    simp +decide (disch := omega) only [↓wm1, wb136_0 hc, wb136_9 hc, w0, w1, rI_wI, rP_wI, rL_wI, rI_wR, rP_wR, is_wI, is_wR, ia_wI, ia_wR, ow_wI, ow_wR, wn_add, wn_mul, wn_cl, wn_le, wn_lt, wn_inj, wn_ne1, wn_1ne, wn_gt1, wn_le1, nb0, nb1, am_kt, am_rt, List.cons_append, List.nil_append, true_and, and_true, not_true_eq_false, not_false_eq_true, imp_f, imp_t, implies_true, Nat.zero_add, if_true, if_false, false_and, and_false, fC hsh, i1, cw, e1, fI101 hsh, ra_wI]
    have k1 : Kp (fun a i => a = 0 ∧ i = 5) G (am_wI G 0 5 (wn w)) := (Kp.refl G).wI ⟨rfl, rfl⟩ _
    refine ct8 (σ := vis V w) (w := viw V w) (b := vib V w) (hsh.kp k1) dia_31 (dia_i w3) (by omega) w16 ⟨?_, ?_, fun i hi => ?_⟩ (fun G2 r2 k2 => ?_)
    · rw [show 124 + 70 * w + 1 = 125 + 70 * w by omega]
      exact q0.1.kp k1 (by intro a i z1 z2 z; omega)
    · rw [rI_wI, if_neg (by omega)]; exact q0.2.1
    · rw [show 124 + 70 * w + 6 + 4 * i = 130 + 70 * w + 4 * i by omega]
      exact (q0.2.2 i hi).kp k1 (by intro a m z1 z2 z; omega)
    have s2 := (hsh.kp k1).kp k2
    have f2 : am_gI G2 0 5 = wn w := by rw [k2.i (by unfold dsc; omega), rI_wI, if_pos ⟨rfl, rfl⟩]
    simp +decide (disch := omega) only [↓wm1, wb136_35 hc, w0, w1, rI_wI, rP_wI, rL_wI, rI_wR, rP_wR, is_wI, is_wR, ia_wI, ia_wR, ow_wI, ow_wR, wn_add, wn_mul, wn_cl, wn_le, wn_lt, wn_inj, wn_ne1, wn_1ne, wn_gt1, wn_le1, nb0, nb1, am_kt, am_rt, List.cons_append, List.nil_append, true_and, and_true, not_true_eq_false, not_false_eq_true, imp_f, imp_t, implies_true, Nat.zero_add, if_true, if_false, false_and, and_false, fC s2, f2]
    rw [← hP]
    have kk : Kp (fun a i => (31 ≤ a ∧ a < 101) ∨ (a = 0 ∧ (i = 5 ∨ i = 6))) G (am_wI G2 0 6 (wn 0)) := ((k1.mono (fun a i z => by omega)).trans (k2.mono (fun a i z => by unfold dsc at z; omega))).wI (Or.inr ⟨rfl, Or.inr rfl⟩) _
    have s3 : Sh (am_wI G2 0 6 (wn 0)) := s2
    refine ⟨RepC.mk s3 vv (tp.eq (fun a i z => kk.i (by omega))) (tw.eq (fun i => kk.p 3 i) (fun a i z1 z2 => kk.i (by omega))) ⟨?_, ?_, fun i hi => ?_⟩ ⟨?_, fun j hj => ?_⟩ (bk.eq (fun a i z => kk.i (by omega))) ⟨?_, ?_, ?_⟩ (rr.eq (fun i => kk.i (by omega))), Fc.kp kk (fun a i z => by omega), rfl⟩
    · exact r2.1.eq (fun a i z1 z2 => by rw [rI_wI, if_neg (by omega)])
    · show am_gI _ 31 2 = wn (viw V w)
      rw [rI_wI, if_neg (by omega)]; exact r2.2.1
    · have := r2.2.2 i hi
      exact this.eq (fun a m z1 z2 => by rw [rI_wI, if_neg (by omega)])
    · show am_gI _ 0 5 = wn w
      rw [rI_wI, if_neg (by omega)]; exact f2
    · change j < w at hj
      have wj := hiw j (by omega)
      have qj := im.2 j (by omega)
      exact ⟨qj.1.eq (fun a i z1 z2 => kk.i (by omega)), by rw [kk.i (by omega)]; exact qj.2.1, fun i hi => (qj.2.2 i hi).eq (fun a m z1 z2 => by change i < viw V j at hi; exact kk.i (by omega))⟩
    · show am_gI _ 0 6 = wn 0
      rw [rI_wI, if_pos ⟨rfl, rfl⟩]
    · show am_gI _ 0 7 = wn (v7 V)
      rw [kk.i (by omega)]; exact ct.2.1
    · show am_gI _ 0 8 = wn (v8 V)
      rw [kk.i (by omega)]; exact ct.2.2
end
