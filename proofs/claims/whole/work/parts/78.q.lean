/-! The district, the object's side. -/
/-- scratch of a text's reading: the tape, the spare district, the spare law -/
def SP (q l : Nat) : Nat → Nat → Prop := fun a i => a = 1 ∨ (16 - q ≤ a ∧ a ≤ 16 - q + 7) ∨ (43 - l ≤ a ∧ a ≤ 43 - l + 2) ∨ QSC a i
def s_bad (V : Vt) (w : Nat) : Vt := mkV (vt V) 0 (some w) (vδ V) (vΛ V) (vσ V) (vw V) (vb V) (vi V) (vis V) (viw V) (vib V) (vk V) (vr V) (v7 V) (v8 V)
theorem vV_bad {V : Vt} (h : vV V) (w : Nat) : vV (s_bad V w) := by
  obtain ⟨h1, -, -, h4⟩ := h
  exact ⟨h1, Nat.zero_le _, fun p _ => Nat.zero_le p, h4⟩
section
variable {G G' : am_G} {d : Nat} {V : Vt} {q l : Nat}
theorem TwC.sp {δ : Dt} {Λ : List Tok} (hT : Tw G q l δ Λ) (p1 : am_gP G 3 1 = 16 - q) (p3 : am_gP G 3 3 = 43 - l) (k : Kp (SP q l) G G') : TwC G' δ Λ := by
  obtain ⟨h1, h2, h3, h4, h5, h6, h7, h8⟩ := hT
  refine ⟨q, l, ⟨by rw [k.p]; exact h1, by rw [k.p]; exact h2, h3, h4, h5.kp k (fun a i b c z => ?_), h6, ⟨?_, fun i t ht => ?_⟩, h8⟩, by rw [k.p]; exact p1, by rw [k.p]; exact p3⟩
  · unfold SP QSC at z; omega
  · rw [k.i (fun z => by unfold SP QSC at z; omega)]; exact h7.1
  · rw [k.i (fun z => by unfold SP QSC at z; omega)]; exact h7.2 i t ht
theorem SP_lt {a i : Nat} (hq : q = 4 ∨ q = 12) (hl : l = 20 ∨ l = 23) (h : SP q l a i) : a < 334 := by unfold SP QSC at h; omega
/-- a text that ended with a fault -/
theorem OC_bad {k w : Nat} (hR : RepC G V) (hT : Tw G q l (vδ V) (vΛ V)) (p1 : am_gP G 3 1 = 16 - q) (p3 : am_gP G 3 3 = 43 - l) (kp : Kp (SP q l) G G') (hf : fT G' k w) : OC G (s_bad V w) (.inl (wn k - wn 10)) (.inl (some (.int (wn k - wn 10)))) G' := by
  obtain ⟨hsh, hv, tp, tw, di, im, bk, ct, rr⟩ := hR.parts
  have hq := hT.2.2.1
  have hl := hT.2.2.2.1
  have hw := hv.2.2.2.2.2.2.1
  have hi3 := hv.2.2.2.2.2.2.2.2.1
  have hiw : ∀ j, j < vi V → viw V j ≤ 16 := fun j hj => (hv.2.2.2.2.2.2.2.2.2.1 j hj).2.1
  have e : ∀ a i, ¬ SP q l a i → am_gI G' a i = am_gI G a i := fun a i z => kp.i z
  refine ⟨RepC.mk (hsh.kp kp) (vV_bad hv w) ⟨tp.1.kp kp (by intro i z; unfold SP QSC at z; omega), hf.1, hf.2.2⟩ (TwC.sp hT p1 p3 kp) (DiC.eq di hw (fun a i z1 z2 => e a i (by unfold SP QSC; omega))) (ImC.eq im hi3 hiw (e _ _ (by unfold SP QSC; omega)) (fun a i z1 z2 => e a i (by unfold SP QSC; omega)))
    (BkC.eq bk (fun a i z => e a i (by unfold SP QSC; omega))) (CtC.eq ct (fun i => e _ i (by unfold SP QSC; omega))) (rr.eq (fun i => e _ i (by unfold SP QSC; omega))), Fc.kp kp (fun a i z => SP_lt hq hl z), rfl⟩
theorem ct80 {post : am_O → am_G → Prop} (hsh : Sh G) (hq : q = 4 ∨ q = 12) (hl : l = 20 ∨ l = 23) (e0 : am_gP G 3 0 = q) (e1 : am_gP G 3 1 = 16 - q) (e2 : am_gP G 3 2 = l) (k : ∀ G', rL G' l CL → Kp (LSc l) (am_wP (am_wP G 3 0 (16 - q)) 3 1 q) G' → post (.inl none) G') : am_C am_T (d + 3) 80 [.ref 3] G post := by
  have hc := am_C_one am_T (d + 2)
  have s1 : Sh (am_wP (am_wP G 3 0 (16 - q)) 3 1 q) := (hsh.wP3 0 (16 - q) (by decide)).wP3 1 q (by decide)
  have n1 : 16 - q < 90000 := by omega
  have n2 : q < 90000 := by omega
  have n3 : l < 90000 := by omega
  have i1 : am_is G l 4 := (fL hsh hl).1
  rw [we80]
  simp +decide (disch := omega) only [↓wm1, wb80_0 hc, w0, w1, rI_wI, rP_wI, rL_wI, rI_wR, rP_wR, is_wI, is_wR, ia_wI, ia_wR, ow_wI, ow_wR, wn_add, wn_mul, wn_cl, wn_le, wn_lt, wn_inj, wn_ne1, wn_1ne, wn_gt1, wn_le1, nb0, nb1, am_kt, am_rt, List.cons_append, List.nil_append, true_and, and_true, not_true_eq_false, not_false_eq_true, imp_f, imp_t, implies_true, Nat.zero_add, if_true, if_false, false_and, and_false, fC hsh, e0, e1, e2, rP_wP, is_wP, n1, n2, n3, i1]
  refine ct23 s1 hl (fun G1 r1 k1 => ?_)
  simp +decide (disch := omega) only [↓wm1, wb80_25 hc, w0, w1, rI_wI, rP_wI, rL_wI, rI_wR, rP_wR, is_wI, is_wR, ia_wI, ia_wR, ow_wI, ow_wR, wn_add, wn_mul, wn_cl, wn_le, wn_lt, wn_inj, wn_ne1, wn_1ne, wn_gt1, wn_le1, nb0, nb1, am_kt, am_rt, List.cons_append, List.nil_append, true_and, and_true, not_true_eq_false, not_false_eq_true, imp_f, imp_t, implies_true, Nat.zero_add, if_true, if_false, false_and, and_false]
  exact k G1 r1 k1
end
/-- the answer of a text of n signs for a district -/
def q_dn (V : Vt) (n : Nat) : Int32 := match pds (vt V) n 61 (skb (vt V) n 0) 0 δ0 with
  | .inl x => wn x.1 - wn 10
  | .inr δ' => wn (dB δ')
def s_dnew (V : Vt) (δ' : Dt) : Vt := mkV (vt V) 0 none δ' [] (sZ (dW δ')) 0 (vb V) 0 (vis V) (viw V) (vib V) [] 0 (v7 V) (v8 V)
def s_dn (V : Vt) (n : Nat) : Vt := match pds (vt V) n 61 (skb (vt V) n 0) 0 δ0 with
  | .inl x => s_bad V x.2
  | .inr δ' => s_dnew V δ'
theorem vS9_Z {δ : Dt} (h : vD δ) : vS9 (dB δ) (dH δ) (sZ (dW δ)) := ⟨⟨Nat.zero_le _, h.2.2.2.1, Nat.two_pow_pos _, Nat.two_pow_pos _, fun _ => Nat.zero_le _, fun _ => Nat.zero_le _, fun _ _ => rfl, fun _ _ => rfl⟩, Nat.zero_le _⟩
theorem vV_dnew {V : Vt} (h : vV V) {δ' : Dt} (hd : vD δ') : vV (s_dnew V δ') :=
  ⟨h.1, Nat.zero_le _, fun p _ => Nat.zero_le p, hd, Or.inl rfl, vS9_Z hd, Nat.zero_le _, fun i hi => absurd hi (Nat.not_lt_zero i), Nat.zero_le _, fun i hi => absurd hi (Nat.not_lt_zero i), Nat.zero_le _, fun x hx => absurd hx List.not_mem_nil, List.Pairwise.nil⟩
section
variable {G G' : am_G} {d : Nat} {V : Vt} {q l : Nat}
theorem Fc.wp {Sc Sd : Nat → Nat → Prop} {G2 : am_G} {u v i j : Nat} (k1 : Kp Sc G G2) (k2 : Kp Sd (am_wP (am_wP G2 3 i u) 3 j v) G') (h1 : ∀ a i, Sc a i → a < 334) (h2 : ∀ a i, Sd a i → a < 334) : Fc G G' := by
  refine ⟨k2.2.2.1.trans k1.2.2.1, ?_, ?_, fun a i h => ?_, fun a i h => ?_⟩
  · rw [k2.1]; show (am_K G2).length ≤ _; rw [k1.1]; omega
  · rw [k2.2.1]; show am_us G2 ≤ _; rw [k1.2.1]; omega
  · rw [k2.i (fun z => by have := h2 a i z; unfold Hi at h; omega)]
    exact k1.i (fun z => by have := h1 a i z; unfold Hi at h; omega)
  · rw [k2.2.2.2.2.2 a i (fun z => by have := h2 a i z; unfold Hi at h; omega)]
    exact k1.2.2.2.2.2 a i (fun z => by have := h1 a i z; unfold Hi at h; omega)
theorem cl_dn {n : Nat} (hR : RepC G V) (hcs : Cs G) (hn : n ≤ vm V) : am_C am_T (d + 12) 102 [.ref 0, .int (wn n)] G (OC G (s_dn V n) (.inl (q_dn V n))) := by
  have hc := am_C_one am_T (d + 11)
  obtain ⟨hsh, hv, tp, tw, di, im, bk, ct, rr⟩ := hR.parts
  obtain ⟨q, l, hT, p1, p3⟩ := tw
  have hq := hT.2.2.1
  have hl := hT.2.2.2.1
  have hm6 := hv.2.1
  have n6 : n ≤ 600 := by omega
  rw [we102]
  generalize hP : OC G _ _ = P
  simp +decide (disch := omega) only [↓wm1, wb102_0 hc, w0, w1, w600, rI_wI, rP_wI, rL_wI, rI_wR, rP_wR, is_wI, is_wR, ia_wI, ia_wR, ow_wI, ow_wR, wn_add, wn_mul, wn_cl, wn_le, wn_lt, wn_inj, wn_ne1, wn_1ne, wn_gt1, wn_le1, nb0, nb1, am_kt, am_rt, List.cons_append, List.nil_append, true_and, and_true, not_true_eq_false, not_false_eq_true, imp_f, imp_t, implies_true, Nat.zero_add, if_true, if_false, false_and, and_false, cn102, fC hsh, ct144y (M := 600) hsh tp.2.1 hm6 (Nat.le_refl 600) hn n6]
  simp +decide (disch := omega) only [↓wm1, wb102_8 hc, w0, w1, w600, rI_wI, rP_wI, rL_wI, rI_wR, rP_wR, is_wI, is_wR, ia_wI, ia_wR, ow_wI, ow_wR, wn_add, wn_mul, wn_cl, wn_le, wn_lt, wn_inj, wn_ne1, wn_1ne, wn_gt1, wn_le1, nb0, nb1, am_kt, am_rt, List.cons_append, List.nil_append, true_and, and_true, not_true_eq_false, not_false_eq_true, imp_f, imp_t, implies_true, Nat.zero_add, if_true, if_false, false_and, and_false, cn102, fC hsh]
  refine ct64 hsh tp.1 n6 (fun G1 r1 k1 => ?_)
  have s1 := hsh.kp k1
  have f1 : am_gP G1 3 1 = 16 - q := by rw [k1.p]; exact p1
  have n1 : 16 - q < 90000 := by omega
  have ha : 16 - q = 4 ∨ 16 - q = 12 := by omega
  have i1 : am_is G1 (16 - q) 2 := (fD s1 ha).1
  have W1 : Wt G1 100003 20 (cx tx0) := (Cs.w0 hsh hcs).1.kp k1 (by intro a i z; unfold T1 at z; omega)
  simp +decide (disch := omega) only [↓wm1, wb102_16 hc, w0, w1, w600, rI_wI, rP_wI, rL_wI, rI_wR, rP_wR, is_wI, is_wR, ia_wI, ia_wR, ow_wI, ow_wR, wn_add, wn_mul, wn_cl, wn_le, wn_lt, wn_inj, wn_ne1, wn_1ne, wn_gt1, wn_le1, nb0, nb1, am_kt, am_rt, List.cons_append, List.nil_append, true_and, and_true, not_true_eq_false, not_false_eq_true, imp_f, imp_t, implies_true, Nat.zero_add, if_true, if_false, false_and, and_false, cn102, fC s1, f1, n1, i1]
  refine ct10 s1 W1 r1 ha (fun δ' G2 e2 v2 r2 d2 k2 => ?_) (fun k w G2 e2 h2 k2 => ?_)
  · have s2 := s1.kp k2
    have kk2 : Kp (fun a _ => a = 1 ∨ (16 - q ≤ a ∧ a ≤ 16 - q + 7)) G G2 := (k1.mono (fun a i z => by unfold T1 at z; omega)).trans (k2.mono (fun a i z => by unfold DS at z; omega))
    have ep : ∀ i, am_gP G2 3 i = am_gP G 3 i := fun i => kk2.p 3 i
    simp +decide (disch := omega) only [↓wm1, wb102_30 hc, wb102_41 hc, w0, w1, w600, rI_wI, rP_wI, rL_wI, rI_wR, rP_wR, is_wI, is_wR, ia_wI, ia_wR, ow_wI, ow_wR, wn_add, wn_mul, wn_cl, wn_le, wn_lt, wn_inj, wn_ne1, wn_1ne, wn_gt1, wn_le1, nb0, nb1, am_kt, am_rt, List.cons_append, List.nil_append, true_and, and_true, not_true_eq_false, not_false_eq_true, imp_f, imp_t, implies_true, Nat.zero_add, if_true, if_false, false_and, and_false, cn102, fC s2]
    refine ct80 s2 hq hl (by rw [ep]; exact hT.1) (by rw [ep]; exact p1) (by rw [ep]; exact hT.2.1) (fun G3 r3 k3 => ?_)
    have s3 : Sh G3 := ((s2.wP3 0 (16 - q) (by decide)).wP3 1 q (by decide)).kp k3
    have d3 : rD G3 (16 - q) δ' := d2.eq (fun a i z1 z2 => by rw [k3.i (by unfold LSc; omega)]; rfl)
    have e3 : am_gP G3 3 0 = 16 - q := by rw [k3.p, rP_wP, if_neg (by decide), rP_wP, if_pos ⟨rfl, rfl⟩]
    have e31 : am_gP G3 3 1 = q := by rw [k3.p, rP_wP, if_pos ⟨rfl, rfl⟩]
    have e32 : am_gP G3 3 2 = l := by rw [k3.p, rP_wP, if_neg (by decide), rP_wP, if_neg (by decide), ep]; exact hT.2.1
    have e33 : am_gP G3 3 3 = 43 - l := by rw [k3.p, rP_wP, if_neg (by decide), rP_wP, if_neg (by decide), ep]; exact p3
    have w3 := d3.2.2.2.1
    have i3 : am_is G3 (16 - q) 2 := (fD s3 ha).1
    simp +decide (disch := omega) only [↓wm1, wb102_48 hc, w0, w1, w600, rI_wI, rP_wI, rL_wI, rI_wR, rP_wR, is_wI, is_wR, ia_wI, ia_wR, ow_wI, ow_wR, wn_add, wn_mul, wn_cl, wn_le, wn_lt, wn_inj, wn_ne1, wn_1ne, wn_gt1, wn_le1, nb0, nb1, am_kt, am_rt, List.cons_append, List.nil_append, true_and, and_true, not_true_eq_false, not_false_eq_true, imp_f, imp_t, implies_true, Nat.zero_add, if_true, if_false, false_and, and_false, cn102, fC s3, e3, n1, i3, w3]
    refine ct5 s3 (fun G4 r4 w4 k4 => ?_)
    have s4 := s3.kp k4
    simp +decide (disch := omega) only [↓wm1, wb102_65 hc, w0, w1, w600, rI_wI, rP_wI, rL_wI, rI_wR, rP_wR, is_wI, is_wR, ia_wI, ia_wR, ow_wI, ow_wR, wn_add, wn_mul, wn_cl, wn_le, wn_lt, wn_inj, wn_ne1, wn_1ne, wn_gt1, wn_le1, nb0, nb1, am_kt, am_rt, List.cons_append, List.nil_append, true_and, and_true, not_true_eq_false, not_false_eq_true, imp_f, imp_t, implies_true, Nat.zero_add, if_true, if_false, false_and, and_false, cn102, fC s4]
    refine ct16 s4 (fun G5 b5 c5 k5 => ?_)
    have s5 := s4.kp k5
    have k35 : Kp (fun a i => (31 ≤ a ∧ a < 36) ∨ (a = 106 ∧ i = 0) ∨ a = 107 ∨ (a = 0 ∧ (i = 5 ∨ i = 6))) G3 (am_wI (am_wI G5 0 5 (wn 0)) 0 6 (wn 0)) := ((((k4.mono (fun a i z => by omega)).trans (k5.mono (fun a i z => by omega))).wI (Or.inr (Or.inr (Or.inr ⟨rfl, Or.inl rfl⟩))) _).wI (Or.inr (Or.inr (Or.inr ⟨rfl, Or.inr rfl⟩))) _)
    have s6 := s3.kp k35
    have e6 : am_gP (am_wI (am_wI G5 0 5 (wn 0)) 0 6 (wn 0)) 3 0 = 16 - q := by rw [k35.p]; exact e3
    have d6 : rD (am_wI (am_wI G5 0 5 (wn 0)) 0 6 (wn 0)) (16 - q) δ' := d3.kp k35 (by intro a i z1 z2 z; omega)
    have b6 := d6.1
    have i6 : am_is (am_wI (am_wI G5 0 5 (wn 0)) 0 6 (wn 0)) (16 - q) 2 := (fD s6 ha).1
    simp +decide (disch := omega) only [↓wm1, w0, w1, rI_wI, rP_wI, rL_wI, rI_wR, rP_wR, is_wI, is_wR, ia_wI, ia_wR, ow_wI, ow_wR, wn_add, wn_mul, wn_cl, wn_le, wn_lt, wn_inj, wn_ne1, wn_1ne, wn_gt1, wn_le1, nb0, nb1, am_kt, am_rt, List.cons_append, List.nil_append, true_and, and_true, not_true_eq_false, not_false_eq_true, imp_f, imp_t, implies_true, Nat.zero_add, if_true, if_false, false_and, and_false, true_and]
    rw [wb102_72 hc]
    generalize hG6 : am_wI (am_wI G5 0 5 (wn 0)) 0 6 (wn 0) = G6 at *
    have j5 : am_is G5 0 11 := (fC s5).1
    have j6 : am_is (am_wI G5 0 5 (wn 0)) 0 11 := j5
    simp +decide (disch := omega) only [↓wm1, w0, w1, rI_wI, rP_wI, rL_wI, rI_wR, rP_wR, is_wI, is_wR, ia_wI, ia_wR, ow_wI, ow_wR, wn_add, wn_mul, wn_cl, wn_le, wn_lt, wn_inj, wn_ne1, wn_1ne, wn_gt1, wn_le1, nb0, nb1, am_kt, am_rt, List.cons_append, List.nil_append, true_and, and_true, not_true_eq_false, not_false_eq_true, imp_f, imp_t, implies_true, Nat.zero_add, if_true, if_false, false_and, and_false, hG6, j5, j6, fC s6, e6, n1, i6, b6]
    rw [← hP]
    have hs : s_dn V n = s_dnew V δ' := by unfold s_dn; rw [e2]
    have hq2 : q_dn V n = wn (dB δ') := by unfold q_dn; rw [e2]
    rw [hs, hq2]
    have kf : Kp (fun a i => (31 ≤ a ∧ a < 36) ∨ (a = 106 ∧ i = 0) ∨ a = 107 ∨ (a = 0 ∧ (i = 5 ∨ i = 6)) ∨ a = l ∨ a = l + 1) (am_wP (am_wP G2 3 0 (16 - q)) 3 1 q) G6 := (k3.mono (fun a i z => by unfold LSc at z; omega)).trans (k35.mono (fun a i z => by omega))
    have e : ∀ a i, ¬ (a = 1 ∨ (16 - q ≤ a ∧ a ≤ 16 - q + 7) ∨ (31 ≤ a ∧ a < 36) ∨ (a = 106 ∧ i = 0) ∨ a = 107 ∨ (a = 0 ∧ (i = 5 ∨ i = 6)) ∨ a = l ∨ a = l + 1) → am_gI G6 a i = am_gI G a i := fun a i z => by
      rw [kf.i (fun y => z (by omega))]
      exact kk2.i (fun y => z (by omega))
    have eG : ∀ a i, ¬ (a = 0 ∧ (i = 5 ∨ i = 6)) → am_gI G6 a i = am_gI G5 a i := fun a i z => by rw [← hG6, rI_wI, if_neg (by omega), rI_wI, if_neg (by omega)]
    refine ⟨RepC.mk s6 (vV_dnew hv v2) ⟨⟨hv.1, fun i hi => by rw [e _ _ (by omega)]; exact tp.1.2 i hi⟩, ?_, ?_⟩ ⟨16 - q, l, ⟨e6, by rw [k35.p]; exact e32, ha, hl, d6, v2, ?_, Or.inl rfl⟩, ?_, by rw [k35.p]; exact e33⟩ ⟨?_, ?_, fun i hi => absurd hi (Nat.not_lt_zero i)⟩ ⟨?_, fun i hi => absurd hi (Nat.not_lt_zero i)⟩ ⟨?_, fun h hh => ?_⟩ ⟨?_, ?_, ?_⟩ (rr.eq (fun i => e _ i (by omega))), Fc.wp kk2 kf (fun a i z => by omega) (fun a i z => by omega), rfl⟩
    · rw [kf.i (by omega)]; exact r2.2.2.2.2.2.1
    · rw [kf.i (by omega)]; exact r2.2.2.2.2.2.2.2.2.2
    · exact ⟨by rw [k35.i (by omega)]; exact r3.1, fun i t ht => by rw [k35.i (by omega)]; exact r3.2 i t ht⟩
    · rw [k35.p, e31]; omega
    · exact r4.eq (fun a i z1 z2 => by rw [eG _ _ (by omega), k5.i (by omega)])
    · rw [eG _ _ (by omega), k5.i (by omega)]; exact w4
    · rw [← hG6, rI_wI, if_neg (by omega), rI_wI, if_pos ⟨rfl, rfl⟩]; rfl
    · rw [eG _ _ (by omega)]; exact c5
    · rw [eG _ _ (by omega)]; exact b5 h hh
    · rw [← hG6, rI_wI, if_pos ⟨rfl, rfl⟩]; rfl
    · rw [e _ _ (by omega)]; exact ct.2.1
    · rw [e _ _ (by omega)]; exact ct.2.2
  · have s2 := s1.kp k2
    simp +decide (disch := omega) only [↓wm1, wb102_30 hc, wb102_33 hc, wb102_40 hc, w0, w1, w600, rI_wI, rP_wI, rL_wI, rI_wR, rP_wR, is_wI, is_wR, ia_wI, ia_wR, ow_wI, ow_wR, wn_add, wn_mul, wn_cl, wn_le, wn_lt, wn_inj, wn_ne1, wn_1ne, wn_gt1, wn_le1, nb0, nb1, am_kt, am_rt, List.cons_append, List.nil_append, true_and, and_true, not_true_eq_false, not_false_eq_true, imp_f, imp_t, implies_true, Nat.zero_add, if_true, if_false, false_and, and_false, cn102, fC s2, ct67 s2 h2]
    rw [← hP]
    have hs : s_dn V n = s_bad V w := by unfold s_dn; rw [e2]
    have hq2 : q_dn V n = wn k - wn 10 := by unfold q_dn; rw [e2]
    rw [hs, hq2]
    exact OC_bad hR hT p1 p3 ((k1.mono (fun a i z => by unfold T1 at z; unfold SP; omega)).trans (k2.mono (fun a i z => by unfold DS at z; unfold SP; omega))) h2
def s_dist (V : Vt) (x : Int32) : Vt := if vin2 x 0 (vm V + 1) then s_dn V x.toNatClampNeg else cnt8 V
def q_dist (V : Vt) (x : Int32) : Res := if vin2 x 0 (vm V + 1) then .inl (q_dn V x.toNatClampNeg) else .inr 1
theorem cl_dist (hR : RepC G V) (hB : am_rm G 1 6) (hcs : Cs G) (x : Int32) : am_C am_T (d + 12) 102 [.ref 0, .int x] G (OC G (s_dist V x) (q_dist V x)) := by
  have hm6 := hR.parts.2.1.2.1
  unfold s_dist q_dist
  rcases vin2_or x 0 (vm V + 1) (by decide) (by omega) with ⟨b, -, hb, rfl⟩ | hx
  · rw [vin2_t (lo := 0) (Nat.zero_le b) hb (by omega), if_pos rfl, if_pos rfl, wn_cl (by omega)]
    exact cl_dn hR hcs (by omega)
  · rw [vin2_f hx, if_neg (by decide), if_neg (by decide)]
    have hc := am_C_one am_T (d + 11)
    have m1 : min (vm V) 600 + 1 = vm V + 1 := by omega
    rw [we102]
    generalize hP : OC G _ _ = P
    simp +decide (disch := omega) only [↓wm1, wb102_0 hc, w0, w1, w600, rI_wI, rP_wI, rL_wI, rI_wR, rP_wR, is_wI, is_wR, ia_wI, ia_wR, ow_wI, ow_wR, wn_add, wn_mul, wn_cl, wn_le, wn_lt, wn_inj, wn_ne1, wn_1ne, wn_gt1, wn_le1, nb0, nb1, am_kt, am_rt, List.cons_append, List.nil_append, true_and, and_true, not_true_eq_false, not_false_eq_true, imp_f, imp_t, implies_true, Nat.zero_add, if_true, if_false, false_and, and_false, cn102, fC hR.1, ct144n (M := 600) (by rw [m1]; exact hx) hR.1 hB hR.parts.2.2.1.2.1 hm6 (Nat.le_refl 600)]
    rw [← hP]
    exact OC_8 hR hB
end
