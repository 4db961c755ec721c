/-! The law, the object's side: the whole. -/
section
variable {G : am_G} {d l n o p : Nat} {t : Nat → Nat} {post : am_O → am_G → Prop} {V : Vt}
theorem CPsm (hl : l = 20 ∨ l = 23) (hn : n ≤ 150) : ∀ (L o d : Nat), o + L = 6 → CP (d + 11 + 3 * L) 26 l t n o (psm t n L) := by
  intro L
  induction L with
  | zero =>
    intro o d ho
    have h0 : Gd t n (fun _ _ => .inl (0, 0)) := fun p Λ q Λ' _ e => by cases e
    have a := CP28 (d := d) (t := t) (n := n) (ps := fun _ _ => .inl (0, 0)) hl ho h0 hn (Or.inl rfl)
    have b := CP27 (d := d + 7) hl (Gd_un (Or.inl rfl)) hn a
    exact CP26 (d := d + 8) hl (Gd_ser (Gd_un (Or.inl rfl)) sgp_ok) hn b
  | succ L ih =>
    intro o d ho
    have i1 := ih (o + 1) d (by omega)
    rw [show d + 11 + 3 * L = (d + 3 + 3 * L) + 8 by omega] at i1
    have a := CP28 (d := d + 3 + 3 * L) hl ho (Gd_sm L) hn (Or.inr i1)
    have b := CP27 (d := d + 3 + 3 * L + 7) hl (Gd_un (Or.inr (Gd_sm L))) hn a
    have c := CP26 (d := d + 3 + 3 * L + 8) hl (Gd_ser (Gd_un (Or.inr (Gd_sm L))) sgp_ok) hn b
    rw [show d + 11 + 3 * (L + 1) = d + 3 + 3 * L + 8 + 3 by omega]
    exact c
theorem ct25 (hsh : Sh G) (hl : l = 20 ∨ l = 23) (hn : n ≤ 150) (hW : Wt G 100005 60 (cx tx2)) (h : rT G t n (skb t n 0) 0)
    (kok : ∀ Λ' G', plaw t n = .inr Λ' → rT G' t n n 0 → rL G' l Λ' → Kp (LT l) G G' → post (.inl (some (.int (wn 1)))) G')
    (kbad : ∀ k w G', plaw t n = .inl (k, w) → fT G' k w → Kp (LT l) G G' → post (.inl (some (.int (wn 0)))) G') : am_C am_T (d + 30) 25 [.ref l, .ref 1] G post := by
  have hc := am_C_one am_T (d + 29)
  have k0 : Kp (LT l) G (am_wI G l 2 (wn 0)) := (Kp.refl G).wI (Or.inr (Or.inl ⟨rfl, rfl⟩)) _
  have s0 := hsh.kp k0
  have r0 : rL (am_wI G l 2 (wn 0)) l [] := ⟨by rw [rI_wI, if_pos ⟨rfl, rfl⟩]; rfl, fun i t ht => by simp at ht⟩
  unfold plaw at kok kbad
  rw [we25]
  simp +decide (disch := omega) only [↓wm1, wb25_0 hc, w0, w1, rI_wI, rP_wI, rL_wI, rI_wR, rP_wR, is_wI, is_wR, ia_wI, ia_wR, ow_wI, ow_wR, wn_add, wn_mul, wn_cl, wn_le, wn_lt, wn_inj, wn_ne1, wn_1ne, wn_gt1, wn_le1, nb0, nb1, am_kt, am_rt, List.cons_append, List.nil_append, true_and, and_true, not_true_eq_false, not_false_eq_true, imp_f, imp_t, implies_true, Nat.zero_add, if_true, if_false, false_and, and_false, fL hsh hl]
  refine CPsm hl hn 6 0 d rfl (am_wI G l 2 (wn 0)) _ [] _ s0 (hW.lt hl k0) (h.kp ((Kp.refl G).wI (by exact rfl) _ : Kp (fun a i => a = l) G _) (fun a i z => by omega)) r0 (Nat.zero_le _) (fun q Λ1 G1 e1 t1 l1 k1 => ?_) (fun k w m G1 e1 f1 m1 hm1 k1 => ?_)
  · have s1 := s0.kp k1
    have hq := t1.2.2.1
    have e3 := t1.2.2.2.2.2.2.2.1
    simp only [e1, pb] at kok kbad
    by_cases c : n ≤ q
    · rw [if_pos c] at kok kbad
      have hqe : q = n := by omega
      subst hqe
      simp +decide (disch := omega) only [↓wm1, wb25_10 hc, wb25_13 hc, wb25_17 hc, wb25_32 hc, wb25_37 hc, w0, w1, rI_wI, rP_wI, rL_wI, rI_wR, rP_wR, is_wI, is_wR, ia_wI, ia_wR, ow_wI, ow_wR, wn_add, wn_mul, wn_cl, wn_le, wn_lt, wn_inj, wn_ne1, wn_1ne, wn_gt1, wn_le1, nb0, nb1, am_kt, am_rt, List.cons_append, List.nil_append, true_and, and_true, not_true_eq_false, not_false_eq_true, imp_f, imp_t, implies_true, Nat.zero_add, if_true, if_false, false_and, and_false, fC s1, ct68 s1 t1, decide_true, b01, Nat.le_refl]
      exact kok Λ1 G1 rfl t1 l1 (k0.trans k1)
    · rw [if_neg c] at kok kbad
      simp +decide (disch := omega) only [↓wm1, wb25_10 hc, wb25_13 hc, wb25_17 hc, wb25_20 hc, wb25_29 hc, wb25_36 hc, wb25_37 hc, w0, w1, rI_wI, rP_wI, rL_wI, rI_wR, rP_wR, is_wI, is_wR, ia_wI, ia_wR, ow_wI, ow_wR, wn_add, wn_mul, wn_cl, wn_le, wn_lt, wn_inj, wn_ne1, wn_1ne, wn_gt1, wn_le1, nb0, nb1, am_kt, am_rt, List.cons_append, List.nil_append, true_and, and_true, not_true_eq_false, not_false_eq_true, imp_f, imp_t, implies_true, Nat.zero_add, if_true, if_false, false_and, and_false, fC s1, ct68 s1 t1, decide_eq_false c, b01, Bool.false_eq_true, e3, ct66 s1]
      exact kbad 1 q _ rfl (fT_of t1.2.2.2.2.2.1 1 q) ((k0.trans k1).trans (T1.lt (kp_f G1 1 q)))
  · simp only [e1, pb] at kok kbad
    simp +decide (disch := omega) only [↓wm1, wb25_10 hc, wb25_36 hc, wb25_37 hc, w0, w1, rI_wI, rP_wI, rL_wI, rI_wR, rP_wR, is_wI, is_wR, ia_wI, ia_wR, ow_wI, ow_wR, wn_add, wn_mul, wn_cl, wn_le, wn_lt, wn_inj, wn_ne1, wn_1ne, wn_gt1, wn_le1, nb0, nb1, am_kt, am_rt, List.cons_append, List.nil_append, true_and, and_true, not_true_eq_false, not_false_eq_true, imp_f, imp_t, implies_true, Nat.zero_add, if_true, if_false, false_and, and_false]
    exact kbad k w G1 rfl f1 (k0.trans k1)
end
def q_ln (V : Vt) (n : Nat) : Int32 := match plaw (vt V) n with
  | .inl x => wn x.1 - wn 10
  | .inr _ => wn 1
def s_lnew (V : Vt) (Λ' : List Tok) : Vt := mkV (vt V) 0 none (vδ V) Λ' (vσ V) (vw V) (vb V) (vi V) (vis V) (viw V) (vib V) (vk V) (vr V) (v7 V) (v8 V)
def s_ln (V : Vt) (n : Nat) : Vt := match plaw (vt V) n with
  | .inl x => s_bad V x.2
  | .inr Λ' => s_lnew V Λ'
theorem vV_lnew {V : Vt} (h : vV V) {Λ' : List Tok} (hd : okL Λ') : vV (s_lnew V Λ') := by
  obtain ⟨h1, -, -, h4, -, h6⟩ := h
  exact ⟨h1, Nat.zero_le _, fun p _ => Nat.zero_le p, h4, Or.inr hd, h6⟩
theorem okL_ne {Λ : List Tok} (h : okL Λ) : eff Λ = Λ := by
  unfold eff
  rw [if_neg]
  rintro rfl
  have := h.2.2
  cases this
section
variable {G G' : am_G} {d : Nat} {V : Vt} {q l : Nat}
theorem ct81 {post : am_O → am_G → Prop} (hsh : Sh G) (hl : l = 20 ∨ l = 23) (e2 : am_gP G 3 2 = l) (e3 : am_gP G 3 3 = 43 - l) : am_C am_T (d + 1) 81 [.ref 3] G post ↔ post (.inl none) (am_wP (am_wP G 3 2 (43 - l)) 3 3 l) := by
  have hc := am_C_one am_T d
  have n1 : 43 - l < 90000 := by omega
  have n3 : l < 90000 := by omega
  rw [we81]
  simp +decide (disch := omega) only [↓wm1, wb81_0 hc, w0, w1, rI_wI, rP_wI, rL_wI, rI_wR, rP_wR, is_wI, is_wR, ia_wI, ia_wR, ow_wI, ow_wR, wn_add, wn_mul, wn_cl, wn_le, wn_lt, wn_inj, wn_ne1, wn_1ne, wn_gt1, wn_le1, nb0, nb1, am_kt, am_rt, List.cons_append, List.nil_append, true_and, and_true, not_true_eq_false, not_false_eq_true, imp_f, imp_t, implies_true, Nat.zero_add, if_true, if_false, false_and, and_false, fC hsh, e2, e3, rP_wP, is_wP, n1, n3]
theorem cl_ln {n : Nat} (hR : RepC G V) (hcs : Cs G) (hn : n ≤ vm V) (hn2 : n ≤ 150) : am_C am_T (d + 40) 103 [.ref 0, .int (wn n)] G (OC G (s_ln V n) (.inl (q_ln V n))) := by
  have hc := am_C_one am_T (d + 39)
  obtain ⟨hsh, hv, tp, tw, di, im, bk, ct, rr⟩ := hR.parts
  obtain ⟨q, l, hT, p1, p3⟩ := tw
  have hq := hT.2.2.1
  have hl := hT.2.2.2.1
  have hw := hv.2.2.2.2.2.2.1
  have hi3 := hv.2.2.2.2.2.2.2.2.1
  have hiw : ∀ j, j < vi V → viw V j ≤ 16 := fun j hj => (hv.2.2.2.2.2.2.2.2.2.1 j hj).2.1
  have hm6 := hv.2.1
  have n6 : n ≤ 600 := by omega
  rw [we103]
  generalize hP : OC G _ _ = P
  simp +decide (disch := omega) only [↓wm1, wb103_0 hc, w0, w1, w150, rI_wI, rP_wI, rL_wI, rI_wR, rP_wR, is_wI, is_wR, ia_wI, ia_wR, ow_wI, ow_wR, wn_add, wn_mul, wn_cl, wn_le, wn_lt, wn_inj, wn_ne1, wn_1ne, wn_gt1, wn_le1, nb0, nb1, am_kt, am_rt, List.cons_append, List.nil_append, true_and, and_true, not_true_eq_false, not_false_eq_true, imp_f, imp_t, implies_true, Nat.zero_add, if_true, if_false, false_and, and_false, cn103, fC hsh, ct144y (M := 150) hsh tp.2.1 hm6 (by decide) hn hn2]
  simp +decide (disch := omega) only [↓wm1, wb103_8 hc, w0, w1, w150, rI_wI, rP_wI, rL_wI, rI_wR, rP_wR, is_wI, is_wR, ia_wI, ia_wR, ow_wI, ow_wR, wn_add, wn_mul, wn_cl, wn_le, wn_lt, wn_inj, wn_ne1, wn_1ne, wn_gt1, wn_le1, nb0, nb1, am_kt, am_rt, List.cons_append, List.nil_append, true_and, and_true, not_true_eq_false, not_false_eq_true, imp_f, imp_t, implies_true, Nat.zero_add, if_true, if_false, false_and, and_false, cn103, fC hsh]
  refine ct64 hsh tp.1 n6 (fun G1 r1 k1 => ?_)
  have s1 := hsh.kp k1
  have f1 : am_gP G1 3 3 = 43 - l := by rw [k1.p]; exact p3
  have n1 : 43 - l < 90000 := by omega
  have ha : 43 - l = 20 ∨ 43 - l = 23 := by omega
  have i1 : am_is G1 (43 - l) 4 := (fL s1 ha).1
  have W1 : Wt G1 100005 60 (cx tx2) := (Cs.w0 hsh hcs).2.2.kp k1 (by intro a i z; unfold T1 at z; omega)
  simp +decide (disch := omega) only [↓wm1, wb103_16 hc, w0, w1, w150, rI_wI, rP_wI, rL_wI, rI_wR, rP_wR, is_wI, is_wR, ia_wI, ia_wR, ow_wI, ow_wR, wn_add, wn_mul, wn_cl, wn_le, wn_lt, wn_inj, wn_ne1, wn_1ne, wn_gt1, wn_le1, nb0, nb1, am_kt, am_rt, List.cons_append, List.nil_append, true_and, and_true, not_true_eq_false, not_false_eq_true, imp_f, imp_t, implies_true, Nat.zero_add, if_true, if_false, false_and, and_false, cn103, fC s1, f1, n1, i1]
  refine ct25 s1 ha hn2 W1 r1 (fun Λ' G2 e2 r2 l2 k2 => ?_) (fun k w G2 e2 h2 k2 => ?_)
  · have s2 := s1.kp k2
    have ok := plaw_ok hn2 e2
    have kk2 : Kp (SP q l) G G2 := (k1.mono (fun a i z => by unfold T1 at z; unfold SP; omega)).trans (k2.mono (fun a i z => by unfold LT at z; unfold SP; omega))
    have ep : ∀ i, am_gP G2 3 i = am_gP G 3 i := fun i => kk2.p 3 i
    simp +decide (disch := omega) only [↓wm1, wb103_30 hc, wb103_41 hc, wb103_48 hc, w0, w1, w150, rI_wI, rP_wI, rL_wI, rI_wR, rP_wR, is_wI, is_wR, ia_wI, ia_wR, ow_wI, ow_wR, wn_add, wn_mul, wn_cl, wn_le, wn_lt, wn_inj, wn_ne1, wn_1ne, wn_gt1, wn_le1, nb0, nb1, am_kt, am_rt, List.cons_append, List.nil_append, true_and, and_true, not_true_eq_false, not_false_eq_true, imp_f, imp_t, implies_true, Nat.zero_add, if_true, if_false, false_and, and_false, cn103, fC s2, ct81 s2 hl (by rw [ep]; exact hT.2.1) (by rw [ep]; exact p3)]
    rw [← hP]
    have hs : s_ln V n = s_lnew V Λ' := by unfold s_ln; rw [e2]
    have hq2 : q_ln V n = wn 1 := by unfold q_ln; rw [e2]
    rw [hs, hq2]
    have s3 : Sh (am_wP (am_wP G2 3 2 (43 - l)) 3 3 l) := (s2.wP3 2 (43 - l) (by decide)).wP3 3 l (by decide)
    have e : ∀ a i, ¬ SP q l a i → am_gI (am_wP (am_wP G2 3 2 (43 - l)) 3 3 l) a i = am_gI G a i := fun a i z => by rw [rI_wP, rI_wP]; exact kk2.i z
    have hdT := hT.2.2.2.2.1
    refine ⟨RepC.mk s3 (vV_lnew hv ok) ⟨⟨hv.1, fun i hi => by rw [e _ _ (by unfold SP QSC; omega)]; exact tp.1.2 i hi⟩, ?_, ?_⟩ ⟨q, 43 - l, ⟨?_, ?_, hq, ha, hdT.eq (fun a i z1 z2 => e a i (by unfold SP QSC; omega)), hT.2.2.2.2.2.1, ?_, Or.inr ok⟩, ?_, ?_⟩ (DiC.eq di hw (fun a i z1 z2 => e a i (by unfold SP QSC; omega))) (ImC.eq im hi3 hiw (e _ _ (by unfold SP QSC; omega)) (fun a i z1 z2 => e a i (by unfold SP QSC; omega)))
      (BkC.eq bk (fun a i z => e a i (by unfold SP QSC; omega))) (CtC.eq ct (fun i => e _ i (by unfold SP QSC; omega))) (rr.eq (fun i => e _ i (by unfold SP QSC; omega))), Fc.wp kk2 (Kp.refl (Sc := fun _ _ => False) _) (fun a i z => SP_lt hq hl z) (fun a i z => z.elim), rfl⟩
    · rw [rI_wP, rI_wP]; exact r2.2.2.2.2.2.1
    · rw [rI_wP, rI_wP]; exact r2.2.2.2.2.2.2.2.2.2
    · rw [rP_wP, if_neg (by decide), rP_wP, if_neg (by decide), ep]; exact hT.1
    · rw [rP_wP, if_neg (by decide), rP_wP, if_pos ⟨rfl, rfl⟩]
    · show rL _ (43 - l) (eff Λ')
      rw [okL_ne ok]
      exact l2
    · rw [rP_wP, if_neg (by decide), rP_wP, if_neg (by decide), ep]; exact p1
    · rw [rP_wP, if_pos ⟨rfl, rfl⟩]; omega
  · have s2 := s1.kp k2
    simp +decide (disch := omega) only [↓wm1, wb103_30 hc, wb103_33 hc, wb103_40 hc, w0, w1, w150, rI_wI, rP_wI, rL_wI, rI_wR, rP_wR, is_wI, is_wR, ia_wI, ia_wR, ow_wI, ow_wR, wn_add, wn_mul, wn_cl, wn_le, wn_lt, wn_inj, wn_ne1, wn_1ne, wn_gt1, wn_le1, nb0, nb1, am_kt, am_rt, List.cons_append, List.nil_append, true_and, and_true, not_true_eq_false, not_false_eq_true, imp_f, imp_t, implies_true, Nat.zero_add, if_true, if_false, false_and, and_false, cn103, fC s2, ct67 s2 h2]
    rw [← hP]
    have hs : s_ln V n = s_bad V w := by unfold s_ln; rw [e2]
    have hq2 : q_ln V n = wn k - wn 10 := by unfold q_ln; rw [e2]
    rw [hs, hq2]
    exact OC_bad hR hT p1 p3 ((k1.mono (fun a i z => by unfold T1 at z; unfold SP; omega)).trans (k2.mono (fun a i z => by unfold LT at z; unfold SP; omega))) h2
def s_law (V : Vt) (x : Int32) : Vt := if vin2 x 0 (min (vm V) 150 + 1) then s_ln V x.toNatClampNeg else cnt8 V
def q_law (V : Vt) (x : Int32) : Res := if vin2 x 0 (min (vm V) 150 + 1) then .inl (q_ln V x.toNatClampNeg) else .inr 1
theorem cl_law (hR : RepC G V) (hB : am_rm G 1 6) (hcs : Cs G) (x : Int32) : am_C am_T (d + 40) 103 [.ref 0, .int x] G (OC G (s_law V x) (q_law V x)) := by
  have hm6 := hR.parts.2.1.2.1
  unfold s_law q_law
  rcases vin2_or x 0 (min (vm V) 150 + 1) (by decide) (by omega) with ⟨b, -, hb, rfl⟩ | hx
  · rw [vin2_t (lo := 0) (Nat.zero_le b) hb (by omega), if_pos rfl, if_pos rfl, wn_cl (by omega)]
    exact cl_ln hR hcs (by omega) (by omega)
  · rw [vin2_f hx, if_neg (by decide), if_neg (by decide)]
    have hc := am_C_one am_T (d + 39)
    rw [we103]
    generalize hP : OC G _ _ = P
    simp +decide (disch := omega) only [↓wm1, wb103_0 hc, w0, w1, w150, rI_wI, rP_wI, rL_wI, rI_wR, rP_wR, is_wI, is_wR, ia_wI, ia_wR, ow_wI, ow_wR, wn_add, wn_mul, wn_cl, wn_le, wn_lt, wn_inj, wn_ne1, wn_1ne, wn_gt1, wn_le1, nb0, nb1, am_kt, am_rt, List.cons_append, List.nil_append, true_and, and_true, not_true_eq_false, not_false_eq_true, imp_f, imp_t, implies_true, Nat.zero_add, if_true, if_false, false_and, and_false, cn103, fC hR.1, ct144n (M := 150) hx hR.1 hB hR.parts.2.2.1.2.1 hm6 (by decide)]
    rw [← hP]
    exact OC_8 hR hB
end
