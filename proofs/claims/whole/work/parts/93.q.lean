/-! A work, the object's side: the whole. -/
def ofR (R : List Et) (i : Nat) : Et := R.getD i (0, 0, 0)
def wres (V : Vt) (R : List Et) : Wv := grun (vδ V) (vΛ V) (ofR R) 50 0 R.length (0, 0, 0, vσ V)
def s_wnew (V : Vt) (R : List Et) : Vt := mkV (vt V) 0 none (vδ V) (vΛ V) (wres V R).2.2.2 (vw V + 1) (fun i => if i = vw V then vσ V else vb V i) (vi V) (vis V) (viw V) (vib V) (vk V) (wres V R).2.2.1 (v7 V) (v8 V)
def s_wful (V : Vt) : Vt := mkV (vt V) 0 none (vδ V) (vΛ V) (vσ V) (vw V) (vb V) (vi V) (vis V) (viw V) (vib V) (vk V) (vr V) (v7 V) (v8 V)
def s_wn (V : Vt) (n : Nat) : Vt := if vw V = 16 then s_wful V else match pwork (vt V) n (dB (vδ V)) with
  | .inl x => s_bad V x.2
  | .inr R => s_wnew V R
def q_wn (V : Vt) (n : Nat) : Int32 := if vw V = 16 then -20 else match pwork (vt V) n (dB (vδ V)) with
  | .inl x => wn x.1 - wn 10
  | .inr R => wn (wres V R).2.1
theorem ofR_get {R : List Et} {i : Nat} (hi : i < R.length) : R[i]? = some (ofR R i) := by
  unfold ofR
  rw [List.getD_eq_getElem?_getD, List.getElem?_eq_getElem hi]
  rfl
theorem wfE_R {δ : Dt} {R : List Et} (h : ∀ i e, R[i]? = some e → ew (dB δ) R.length i e) : wfE δ (ofR R) R.length := fun i hi => h i _ (ofR_get hi)
theorem vW_res {V : Vt} (hv : vV V) {R : List Et} (h : ∀ i e, R[i]? = some e → ew (dB (vδ V)) R.length i e) : vW (vδ V) (wres V R) :=
  vW_run hv.2.2.2.1.1 (wfE_R h) 50 0 R.length _ (Nat.le_refl _) ⟨Nat.zero_le _, hv.2.2.2.2.2.1⟩
theorem vV_wful {V : Vt} (h : vV V) : vV (s_wful V) := by
  obtain ⟨h1, -, -, h4⟩ := h
  exact ⟨h1, Nat.zero_le _, fun p _ => Nat.zero_le p, h4⟩
theorem vV_wnew {V : Vt} (hv : vV V) (hw : vw V < 16) {R : List Et} (h : ∀ i e, R[i]? = some e → ew (dB (vδ V)) R.length i e) : vV (s_wnew V R) := by
  have hr := vW_res hv h
  obtain ⟨h1, -, -, h4, h5, h6, h7, h8, h9⟩ := hv
  refine ⟨h1, Nat.zero_le _, fun p _ => Nat.zero_le p, h4, h5, hr.2, by show vw V + 1 ≤ 16; omega, fun i hi => ?_, h9⟩
  change i < vw V + 1 at hi
  show vS9 _ _ (if i = vw V then vσ V else vb V i)
  split
  · exact h6
  · exact h8 i (by omega)
section
variable {G : am_G} {d : Nat} {V : Vt} {post : am_O → am_G → Prop}
theorem ct98 (hsh : Sh G) : am_C am_T (d + 1) 98 [.ref 27] G post ↔ post (.inl none) (am_wI (am_wI (am_wI G 27 4 (wn 0)) 27 5 (wn 0)) 27 6 (wn 0)) := by
  have hc := am_C_one am_T d
  rw [we98]
  simp +decide (disch := omega) only [↓wm1, wb98_0 hc, w0, w1, rI_wI, rP_wI, rL_wI, rI_wR, rP_wR, is_wI, is_wR, ia_wI, ia_wR, ow_wI, ow_wR, wn_add, wn_mul, wn_cl, wn_le, wn_lt, wn_inj, wn_ne1, wn_1ne, wn_gt1, wn_le1, nb0, nb1, am_kt, am_rt, List.cons_append, List.nil_append, true_and, and_true, not_true_eq_false, not_false_eq_true, imp_f, imp_t, implies_true, Nat.zero_add, if_true, if_false, false_and, and_false, fC hsh]
theorem cl_wn {n : Nat} (hR : RepC G V) (hcs : Cs G) (hn : n ≤ vm V) (hn2 : n ≤ 150) : am_C am_T (d + 80) 104 [.ref 0, .int (wn n)] G (OC G (s_wn V n) (.inl (q_wn V n))) := by
  have hc := am_C_one am_T (d + 79)
  obtain ⟨hsh, hv, tp, tw, di, im, bk, ct, rr⟩ := hR.parts
  obtain ⟨q, l, hT, p1, p3⟩ := tw
  have hq := hT.2.2.1
  have hl := hT.2.2.2.1
  have hw := hv.2.2.2.2.2.2.1
  have hi3 := hv.2.2.2.2.2.2.2.2.1
  have hiw : ∀ j, j < vi V → viw V j ≤ 16 := fun j hj => (hv.2.2.2.2.2.2.2.2.2.1 j hj).2.1
  have hm6 := hv.2.1
  have n6 : n ≤ 600 := by omega
  have d1 := di.2.1
  unfold s_wn q_wn
  rw [we104]
  by_cases c : vw V = 16
  · rw [if_pos c, if_pos c]
    have cw : ¬ vw V < 16 := by omega
    generalize hP : OC G _ _ = P
    simp +decide (disch := omega) only [↓wm1, wb104_0 hc, w0, w1, w16, w150, rI_wI, rP_wI, rL_wI, rI_wR, rP_wR, is_wI, is_wR, ia_wI, ia_wR, ow_wI, ow_wR, wn_add, wn_mul, wn_cl, wn_le, wn_lt, wn_inj, wn_ne1, wn_1ne, wn_gt1, wn_le1, nb0, nb1, am_kt, am_rt, List.cons_append, List.nil_append, true_and, and_true, not_true_eq_false, not_false_eq_true, imp_f, imp_t, implies_true, Nat.zero_add, if_true, if_false, false_and, and_false, cn104, fC hsh, ct144y (M := 150) hsh tp.2.1 hm6 (by decide) hn hn2]
    simp +decide (disch := omega) only [↓wm1, wb104_8 hc, wb104_20 hc, w0, w1, w16, w150, rI_wI, rP_wI, rL_wI, rI_wR, rP_wR, is_wI, is_wR, ia_wI, ia_wR, ow_wI, ow_wR, wn_add, wn_mul, wn_cl, wn_le, wn_lt, wn_inj, wn_ne1, wn_1ne, wn_gt1, wn_le1, nb0, nb1, am_kt, am_rt, List.cons_append, List.nil_append, true_and, and_true, not_true_eq_false, not_false_eq_true, imp_f, imp_t, implies_true, Nat.zero_add, if_true, if_false, false_and, and_false, cn104, fC hsh, d1, cw]
    refine ct64 (n := 0) hsh tp.1 (Nat.zero_le _) (fun G1 r1 k1 => ?_)
    have s1 := hsh.kp k1
    simp +decide (disch := omega) only [↓wm1, wb104_28 hc, w0, w1, w16, w150, rI_wI, rP_wI, rL_wI, rI_wR, rP_wR, is_wI, is_wR, ia_wI, ia_wR, ow_wI, ow_wR, wn_add, wn_mul, wn_cl, wn_le, wn_lt, wn_inj, wn_ne1, wn_1ne, wn_gt1, wn_le1, nb0, nb1, am_kt, am_rt, List.cons_append, List.nil_append, true_and, and_true, not_true_eq_false, not_false_eq_true, imp_f, imp_t, implies_true, Nat.zero_add, if_true, if_false, false_and, and_false, cn104]
    rw [← hP]
    have e : ∀ a i, a ≠ 1 → am_gI G1 a i = am_gI G a i := fun a i z => k1.i (by unfold T1; omega)
    exact ⟨RepC.mk s1 (vV_wful hv) ⟨r1.1, r1.2.2.2.2.2.1, r1.2.2.2.2.2.2.2.2.2⟩ (TwC.eq ⟨q, l, hT, p1, p3⟩ (fun i => k1.p 3 i) (fun a i z1 z2 => e a i (by omega))) (DiC.eq di hw (fun a i z1 z2 => e a i (by omega))) (ImC.eq im hi3 hiw (e _ _ (by omega)) (fun a i z1 z2 => e a i (by omega)))
      (BkC.eq bk (fun a i z => e a i (by omega))) (CtC.eq ct (fun i => e _ i (by omega))) (rr.eq (fun i => e _ i (by omega))), Fc.kp k1 (fun a i z => by unfold T1 at z; omega), rfl⟩
  · rw [if_neg c, if_neg c]
    have cw : vw V < 16 := by omega
    generalize hP : OC G _ _ = P
    simp +decide (disch := omega) only [↓wm1, wb104_0 hc, w0, w1, w16, w150, rI_wI, rP_wI, rL_wI, rI_wR, rP_wR, is_wI, is_wR, ia_wI, ia_wR, ow_wI, ow_wR, wn_add, wn_mul, wn_cl, wn_le, wn_lt, wn_inj, wn_ne1, wn_1ne, wn_gt1, wn_le1, nb0, nb1, am_kt, am_rt, List.cons_append, List.nil_append, true_and, and_true, not_true_eq_false, not_false_eq_true, imp_f, imp_t, implies_true, Nat.zero_add, if_true, if_false, false_and, and_false, cn104, fC hsh, ct144y (M := 150) hsh tp.2.1 hm6 (by decide) hn hn2]
    simp +decide (disch := omega) only [↓wm1, wb104_8 hc, wb104_31 hc, w0, w1, w16, w150, rI_wI, rP_wI, rL_wI, rI_wR, rP_wR, is_wI, is_wR, ia_wI, ia_wR, ow_wI, ow_wR, wn_add, wn_mul, wn_cl, wn_le, wn_lt, wn_inj, wn_ne1, wn_1ne, wn_gt1, wn_le1, nb0, nb1, am_kt, am_rt, List.cons_append, List.nil_append, true_and, and_true, not_true_eq_false, not_false_eq_true, imp_f, imp_t, implies_true, Nat.zero_add, if_true, if_false, false_and, and_false, cn104, fC hsh, d1, cw]
    refine ct64 hsh tp.1 n6 (fun G1 r1 k1 => ?_)
    have s1 := hsh.kp k1
    have T1' : Tw G1 q l (vδ V) (vΛ V) := hT.kp k1 (fun a i z => by unfold T1 at z; omega)
    have W1 : Wt G1 100004 42 (cx tx1) := (Cs.w0 hsh hcs).2.1.kp k1 (by intro a i z; unfold T1 at z; omega)
    have nq : q < 90000 := by omega
    simp +decide (disch := omega) only [↓wm1, wb104_39 hc, w0, w1, w16, w150, rI_wI, rP_wI, rL_wI, rI_wR, rP_wR, is_wI, is_wR, ia_wI, ia_wR, ow_wI, ow_wR, wn_add, wn_mul, wn_cl, wn_le, wn_lt, wn_inj, wn_ne1, wn_1ne, wn_gt1, wn_le1, nb0, nb1, am_kt, am_rt, List.cons_append, List.nil_append, true_and, and_true, not_true_eq_false, not_false_eq_true, imp_f, imp_t, implies_true, Nat.zero_add, if_true, if_false, false_and, and_false, cn104, fC s1, fW2 s1 T1', (fD s1 hq).1, nq]
    refine ct94 hv.2.2.2.1.1 hn2 s1 W1 r1 (fun R G2 e2 r2 c2 l2 k2 => ?_) (fun k w G2 e2 h2 k2 => ?_)
    · have s2 := s1.kp k2
      obtain ⟨R50, Rew⟩ := pwork_ok hn2 e2
      rw [e2] at hP
      simp only [] at hP
      have d2 : am_gI G2 31 2 = wn (vw V) := by rw [k2.i (by unfold PSc; omega), k1.i (by unfold T1; omega)]; exact d1
      have σ2 : rS G2 32 (vσ V) := (di.1.kp k1 (by intro a i z1 z2 z; unfold T1 at z; omega)).kp k2 (by intro a i z1 z2 z; unfold PSc at z; omega)
      simp +decide (disch := omega) only [↓wm1, wb104_60 hc, wb104_71 hc, w0, w1, w16, w150, rI_wI, rP_wI, rL_wI, rI_wR, rP_wR, is_wI, is_wR, ia_wI, ia_wR, ow_wI, ow_wR, wn_add, wn_mul, wn_cl, wn_le, wn_lt, wn_inj, wn_ne1, wn_1ne, wn_gt1, wn_le1, nb0, nb1, am_kt, am_rt, List.cons_append, List.nil_append, true_and, and_true, not_true_eq_false, not_false_eq_true, imp_f, imp_t, implies_true, Nat.zero_add, if_true, if_false, false_and, and_false, cn104, fC s2]
      refine ct6 s2 cw d2 σ2 (fun G3 r3 d3 k3 => ?_)
      have s3 := s2.kp k3
      simp +decide (disch := omega) only [↓wm1, wb104_78 hc, w0, w1, w16, w150, rI_wI, rP_wI, rL_wI, rI_wR, rP_wR, is_wI, is_wR, ia_wI, ia_wR, ow_wI, ow_wR, wn_add, wn_mul, wn_cl, wn_le, wn_lt, wn_inj, wn_ne1, wn_1ne, wn_gt1, wn_le1, nb0, nb1, am_kt, am_rt, List.cons_append, List.nil_append, true_and, and_true, not_true_eq_false, not_false_eq_true, imp_f, imp_t, implies_true, Nat.zero_add, if_true, if_false, false_and, and_false, cn104, fC s3, ct98 s3]
      have k4 : Kp (fun a i => a = 27 ∧ 4 ≤ i ∧ i ≤ 6) G3 (am_wI (am_wI (am_wI G3 27 4 (wn 0)) 27 5 (wn 0)) 27 6 (wn 0)) := (((Kp.refl G3).wI ⟨rfl, by decide, by decide⟩ _).wI ⟨rfl, by decide, by decide⟩ _).wI ⟨rfl, by decide, by decide⟩ _
      have C4 : rCn (am_wI (am_wI (am_wI G3 27 4 (wn 0)) 27 5 (wn 0)) 27 6 (wn 0)) (0, 0, 0, vσ V) := by
        refine ⟨by simp [rI_wI], by simp [rI_wI], by simp [rI_wI], ?_⟩
        exact ((σ2.kp k3 (by intro a i z1 z2 z; omega)).kp k4 (by intro a i z1 z2 z; omega))
      generalize am_wI (am_wI (am_wI G3 27 4 (wn 0)) 27 5 (wn 0)) 27 6 (wn 0) = G4 at k4 C4 ⊢
      have s4 := s3.kp k4
      have c4 : am_gI G4 27 3 = wn R.length := by rw [k4.i (by omega), k3.i (by omega)]; exact c2
      have P4 : rPC G4 (ofR R) R.length := fun i hi => by
        have z := l2 i _ (ofR_get hi)
        rw [Nat.zero_add] at z
        rw [k4.i (by omega), k3.i (by omega), k4.i (by omega), k3.i (by omega), k4.i (by omega), k3.i (by omega)]
        exact z
      have T4 : Tw G4 q l (vδ V) (vΛ V) := ((T1'.kp k2 (fun a i z => by unfold PSc at z; omega)).kp k3 (fun a i z => by omega)).kp k4 (fun a i z => by omega)
      simp +decide (disch := omega) only [↓wm1, wb104_85 hc, w0, w1, w16, w150, rI_wI, rP_wI, rL_wI, rI_wR, rP_wR, is_wI, is_wR, ia_wI, ia_wR, ow_wI, ow_wR, wn_add, wn_mul, wn_cl, wn_le, wn_lt, wn_inj, wn_ne1, wn_1ne, wn_gt1, wn_le1, nb0, nb1, am_kt, am_rt, List.cons_append, List.nil_append, true_and, and_true, not_true_eq_false, not_false_eq_true, imp_f, imp_t, implies_true, Nat.zero_add, if_true, if_false, false_and, and_false, cn104, fC s4, c4]
      refine ct99 (d := d + 21) (wfE_R Rew) (by omega) 50 50 0 R.length (0, 0, 0, vσ V) G4 _ (Nat.le_refl _) (by omega) (Nat.le_refl _) (by decide) s4 T4 P4 C4 ⟨Nat.zero_le _, hv.2.2.2.2.2.1⟩ (fun G5 C5 k5 => ?_)
      have s5 := s4.kp k5
      change rCn G5 (wres V R) at C5
      obtain ⟨x4, x5, x6, x7⟩ := C5
      simp +decide (disch := omega) only [↓wm1, wb104_111 hc, w0, w1, w16, w150, rI_wI, rP_wI, rL_wI, rI_wR, rP_wR, is_wI, is_wR, ia_wI, ia_wR, ow_wI, ow_wR, wn_add, wn_mul, wn_cl, wn_le, wn_lt, wn_inj, wn_ne1, wn_1ne, wn_gt1, wn_le1, nb0, nb1, am_kt, am_rt, List.cons_append, List.nil_append, true_and, and_true, not_true_eq_false, not_false_eq_true, imp_f, imp_t, implies_true, Nat.zero_add, if_true, if_false, false_and, and_false, cn104, fC s5, x6, x5]
      rw [← hP]
      have k6 : Kp (fun a i => a = 0 ∧ i = 6) G5 (am_wI G5 0 6 (wn (wres V R).2.2.1)) := (Kp.refl G5).wI ⟨rfl, rfl⟩ _
      have kk : Kp (fun a i => a = 1 ∨ QSC a i ∨ (a = 31 ∧ i = 2) ∨ (32 ≤ a ∧ a < 36) ∨ (37 + 4 * vw V ≤ a ∧ a < 41 + 4 * vw V) ∨ (a = 0 ∧ i = 6)) G (am_wI G5 0 6 (wn (wres V R).2.2.1)) :=
        (((((k1.mono (fun a i z => by unfold T1 at z; omega)).trans (k2.mono (fun a i z => by unfold PSc at z; unfold QSC; omega))).trans (k3.mono (fun a i z => by omega))).trans (k4.mono (fun a i z => by unfold QSC; omega))).trans (k5.mono (fun a i z => by unfold WS PS at z; unfold QSC; omega))).trans (k6.mono (fun a i z => by omega))
      have e : ∀ a i, ¬ (a = 1 ∨ QSC a i ∨ (a = 31 ∧ i = 2) ∨ (32 ≤ a ∧ a < 36) ∨ (37 + 4 * vw V ≤ a ∧ a < 41 + 4 * vw V) ∨ (a = 0 ∧ i = 6)) → am_gI (am_wI G5 0 6 (wn (wres V R).2.2.1)) a i = am_gI G a i := fun a i z => kk.i z
      have e1 : ∀ i, am_gI (am_wI G5 0 6 (wn (wres V R).2.2.1)) 1 i = am_gI G2 1 i := fun i => by rw [k6.i (by omega), k5.i (by unfold WS PS; omega), k4.i (by omega), k3.i (by omega)]
      refine ⟨RepC.mk (s5.kp k6) (vV_wnew hv cw Rew) ⟨⟨hv.1, fun i hi => by rw [e _ _ (by unfold QSC; omega)]; exact tp.1.2 i hi⟩, ?_, ?_⟩ ⟨q, l, hT.kp kk (fun a i z => by unfold QSC at z; omega), by rw [kk.p]; exact p1, by rw [kk.p]; exact p3⟩ ⟨?_, ?_, fun i hi => ?_⟩ (ImC.eq im hi3 hiw (e _ _ (by unfold QSC; omega)) (fun a i z1 z2 => e a i (by unfold QSC; omega)))
        (BkC.eq bk (fun a i z => e a i (by unfold QSC; omega))) ⟨?_, ?_, ?_⟩ (rr.eq (fun i => e _ i (by unfold QSC; omega))), Fc.kp kk (fun a i z => by unfold QSC at z; omega), rfl⟩
      · rw [e1]; exact r2.2.2.2.2.2.1
      · rw [e1]; exact r2.2.2.2.2.2.2.2.2.2
      · exact x7.eq (fun a i z1 z2 => k6.i (by omega))
      · show am_gI _ 31 2 = wn (vw V + 1)
        rw [k6.i (by omega), k5.i (by unfold WS PS; omega), k4.i (by omega)]; exact d3
      · change i < vw V + 1 at hi
        show rS _ (37 + 4 * i) (if i = vw V then vσ V else vb V i)
        by_cases ei : i = vw V
        · rw [if_pos ei, ei]
          exact r3.eq (fun a j z1 z2 => by rw [k6.i (by omega), k5.i (by unfold WS PS; omega), k4.i (by omega)])
        · rw [if_neg ei]
          exact (di.2.2 i (by omega)).eq (fun a j z1 z2 => e a j (by unfold QSC; omega))
      · show am_gI _ 0 6 = wn (wres V R).2.2.1
        rw [rI_wI, if_pos ⟨rfl, rfl⟩]
      · rw [e _ _ (by unfold QSC; omega)]; exact ct.2.1
      · rw [e _ _ (by unfold QSC; omega)]; exact ct.2.2
    · have s2 := s1.kp k2
      rw [e2] at hP
      simp only [] at hP
      simp +decide (disch := omega) only [↓wm1, wb104_60 hc, wb104_63 hc, wb104_70 hc, w0, w1, w16, w150, rI_wI, rP_wI, rL_wI, rI_wR, rP_wR, is_wI, is_wR, ia_wI, ia_wR, ow_wI, ow_wR, wn_add, wn_mul, wn_cl, wn_le, wn_lt, wn_inj, wn_ne1, wn_1ne, wn_gt1, wn_le1, nb0, nb1, am_kt, am_rt, List.cons_append, List.nil_append, true_and, and_true, not_true_eq_false, not_false_eq_true, imp_f, imp_t, implies_true, Nat.zero_add, if_true, if_false, false_and, and_false, cn104, fC s2, ct67 s2 h2]
      rw [← hP]
      exact OC_bad hR hT p1 p3 ((k1.mono (fun a i z => by unfold T1 at z; unfold SP; omega)).trans (k2.mono (fun a i z => by unfold PSc at z; unfold SP QSC; omega))) h2
def s_work (V : Vt) (x : Int32) : Vt := if vin2 x 0 (min (vm V) 150 + 1) then s_wn V x.toNatClampNeg else cnt8 V
def q_work (V : Vt) (x : Int32) : Res := if vin2 x 0 (min (vm V) 150 + 1) then .inl (q_wn V x.toNatClampNeg) else .inr 1
theorem cl_work (hR : RepC G V) (hB : am_rm G 1 6) (hcs : Cs G) (x : Int32) : am_C am_T (d + 80) 104 [.ref 0, .int x] G (OC G (s_work V x) (q_work V x)) := by
  have hm6 := hR.parts.2.1.2.1
  unfold s_work q_work
  rcases vin2_or x 0 (min (vm V) 150 + 1) (by decide) (by omega) with ⟨b, -, hb, rfl⟩ | hx
  · rw [vin2_t (lo := 0) (Nat.zero_le b) hb (by omega), if_pos rfl, if_pos rfl, wn_cl (by omega)]
    exact cl_wn hR hcs (by omega) (by omega)
  · rw [vin2_f hx, if_neg (by decide), if_neg (by decide)]
    have hc := am_C_one am_T (d + 79)
    rw [we104]
    generalize hP : OC G _ _ = P
    simp +decide (disch := omega) only [↓wm1, wb104_0 hc, w0, w1, w16, w150, rI_wI, rP_wI, rL_wI, rI_wR, rP_wR, is_wI, is_wR, ia_wI, ia_wR, ow_wI, ow_wR, wn_add, wn_mul, wn_cl, wn_le, wn_lt, wn_inj, wn_ne1, wn_1ne, wn_gt1, wn_le1, nb0, nb1, am_kt, am_rt, List.cons_append, List.nil_append, true_and, and_true, not_true_eq_false, not_false_eq_true, imp_f, imp_t, implies_true, Nat.zero_add, if_true, if_false, false_and, and_false, cn104, fC hR.1, ct144n (M := 150) hx hR.1 hB hR.parts.2.2.1.2.1 hm6 (by decide)]
    rw [← hP]
    exact OC_8 hR hB
end
