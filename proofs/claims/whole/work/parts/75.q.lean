/-! feed, both sides. -/
theorem nar_sb : ∀ b, b < 256 → vp_nar .byte (sb b) = sb b := by decide +kernel
theorem by_ex (y : Int32) : ∃ b, b < 256 ∧ y &&& wn 255 = wn b ∧ vp_nar .byte (Int8.toInt32 (Int32.toInt8 y)) = sb b := by
  have hb : (y.toBitVec &&& 255#32).toNat = y.toBitVec.toNat % 256 := by
    rw [BitVec.toNat_and]
    have := Nat.and_two_pow_sub_one_eq_mod y.toBitVec.toNat 8
    simpa using this
  have hlt : y.toBitVec.toNat % 256 < 256 := Nat.mod_lt _ (by decide)
  refine ⟨y.toBitVec.toNat % 256, hlt, ?_, ?_⟩
  · have := of_bv (y &&& wn 255)
    rw [this]
    congr 1
  · have e : Int8.toInt32 (Int32.toInt8 y) = sb (y.toBitVec.toNat % 256) := by
      apply Int32.toInt_inj.mp
      rw [sb_toInt _ hlt, Int8.toInt_toInt32, Int32.toInt_toInt8]
      have h1 : y.toInt = if 2 * y.toBitVec.toNat < 2 ^ 32 then (y.toBitVec.toNat : Int) else (y.toBitVec.toNat : Int) - (2 ^ 32 : Nat) := BitVec.toInt_eq_toNat_cond y.toBitVec
      rw [Int.bmod_def, h1]
      split <;> split <;> split <;> omega
    rw [e]
    exact nar_sb _ hlt
noncomputable def byn (y : Int32) : Nat := Classical.choose (by_ex y)
theorem byn_lt (y : Int32) : byn y < 256 := (Classical.choose_spec (by_ex y)).1
theorem byn_m (y : Int32) : y &&& wn 255 = wn (byn y) := (Classical.choose_spec (by_ex y)).2.1
theorem byn_c (y : Int32) : vp_nar .byte (Int8.toInt32 (Int32.toInt8 y)) = sb (byn y) := (Classical.choose_spec (by_ex y)).2.2
/-- the byte of a number at a shift -/
noncomputable def bys (v : Int32) (s : Nat) : Nat := byn (v >>> (wn s &&& 31))
noncomputable def put4 (t : Nat → Nat) (m : Nat) (v : Int32) : Nat → Nat := fun i => if i = m then bys v 24 else if i = m + 1 then bys v 16 else if i = m + 2 then bys v 8 else if i = m + 3 then bys v 0 else t i
theorem put4_lt {t : Nat → Nat} (h : ∀ i, t i < 256) (m : Nat) (v : Int32) : ∀ i, put4 t m v i < 256 := by
  intro i
  unfold put4
  repeat' split
  all_goals first | exact byn_lt _ | exact h i
theorem a8_24 : wn 24 + (-8) = wn 16 := by decide
theorem a8_16 : wn 16 + (-8) = wn 8 := by decide
theorem a8_8 : wn 8 + (-8) = wn 0 := by decide
theorem a8_0 : (wn 0 + (-8) < wn 0) = True := eq_true (by decide)
def FS1 : Nat → Nat → Prop := fun a i => a = 2 ∨ (a = 1 ∧ i = 1)
section
variable {G : am_G} {d : Nat} {V : Vt} {post : am_O → am_G → Prop}
theorem ct63 {m : Nat} {v : Int32} {t : Nat → Nat} (hsh : Sh G) (hb : Bt G t) (e : am_gI G 1 1 = wn m) (hm : m + 4 ≤ 600) (k : ∀ G', Bt G' (put4 t m v) → am_gI G' 1 1 = wn (m + 4) → Kp FS1 G G' → post (.inl none) G') : am_C am_T (d + 1) 63 [.ref 1, .int v] G post := by
  have hc := am_C_one am_T d
  have st : ∀ (G1 : am_G) (m1 s : Nat) (s2 : Int32), Sh G1 → am_gI G1 1 1 = wn m1 → m1 < 600 → s < 100 → wn s + (-8) = s2 → am_W (am_C am_T d) am_63 post 3 [some (.ref 1), some (.int v), some (.int s2)] [] (am_wI (am_wI G1 2 m1 (sb (byn (v >>> (wn s &&& 31))))) 1 1 (wn (m1 + 1))) → am_W (am_C am_T d) am_63 post 3 [some (.ref 1), some (.int v), some (.int (wn s))] [] G1 := by
    intro G1 m1 s s2 s1 e1 hm1 hs es kk
    have c0 : ¬ 600 ≤ m1 := by omega
    rw [wb63_3 hc]
    simp +decide (disch := omega) only [↓wm1, wb63_7 hc, wb63_17 hc, w0, w1, w24, w600, rI_wI, rP_wI, rL_wI, rI_wR, rP_wR, is_wI, is_wR, ia_wI, ia_wR, ow_wI, ow_wR, wn_add, wn_mul, wn_cl, wn_le, wn_lt, wn_inj, wn_ne1, wn_1ne, wn_gt1, wn_le1, nb0, nb1, am_kt, am_rt, List.cons_append, List.nil_append, true_and, and_true, not_true_eq_false, not_false_eq_true, imp_f, imp_t, implies_true, Nat.zero_add, if_true, if_false, false_and, and_false, fC s1, e1, ow2 s1, c0, es, byn_c, Nat.not_lt_zero]
    exact kk
  rw [we63]
  simp +decide (disch := omega) only [↓wm1, wb63_0 hc, w0, w1, w24, w600, rI_wI, rP_wI, rL_wI, rI_wR, rP_wR, is_wI, is_wR, ia_wI, ia_wR, ow_wI, ow_wR, wn_add, wn_mul, wn_cl, wn_le, wn_lt, wn_inj, wn_ne1, wn_1ne, wn_gt1, wn_le1, nb0, nb1, am_kt, am_rt, List.cons_append, List.nil_append, true_and, and_true, not_true_eq_false, not_false_eq_true, imp_f, imp_t, implies_true, Nat.zero_add, if_true, if_false, false_and, and_false]
  refine st G m 24 _ hsh e (by omega) (by decide) a8_24 ?_
  refine st _ (m + 1) 16 _ hsh (by rw [rI_wI, if_pos ⟨rfl, rfl⟩]) (by omega) (by decide) a8_16 ?_
  refine st _ (m + 1 + 1) 8 _ hsh (by rw [rI_wI, if_pos ⟨rfl, rfl⟩]) (by omega) (by decide) a8_8 ?_
  refine st _ (m + 1 + 1 + 1) 0 _ hsh (by rw [rI_wI, if_pos ⟨rfl, rfl⟩]) (by omega) (by decide) rfl ?_
  rw [wb63_3 hc]
  simp +decide (disch := omega) only [↓wm1, wb63_46 hc, w0, w1, w24, w600, rI_wI, rP_wI, rL_wI, rI_wR, rP_wR, is_wI, is_wR, ia_wI, ia_wR, ow_wI, ow_wR, wn_add, wn_mul, wn_cl, wn_le, wn_lt, wn_inj, wn_ne1, wn_1ne, wn_gt1, wn_le1, nb0, nb1, am_kt, am_rt, List.cons_append, List.nil_append, true_and, and_true, not_true_eq_false, not_false_eq_true, imp_f, imp_t, implies_true, Nat.zero_add, if_true, if_false, false_and, and_false, a8_0]
  refine k _ ⟨put4_lt hb.1 m v, fun i hi => ?_⟩ ?_ ?_
  · simp only [rI_wI, put4, bys]
    by_cases e0 : i = m
    · subst e0
      have n1 : ¬ i = i + 1 + 1 := by omega
      have n2 : ¬ i = i + 1 + 1 + 1 := by omega
      simp [n1, n2]
    · by_cases e1 : i = m + 1
      · subst e1; simp
      · by_cases e2 : i = m + 2
        · subst e2; simp
        · by_cases e3 : i = m + 3
          · subst e3; simp
          · have n1 : ¬ i = m + 1 + 1 := by omega
            have n2 : ¬ i = m + 1 + 1 + 1 := by omega
            simp only [e0, e1, e2, e3, n1, n2, and_false, if_false]
            simpa using hb.2 i hi
  · rw [rI_wI, if_pos ⟨rfl, rfl⟩]
  · exact ((((((((Kp.refl G).wI (Or.inl rfl) _).wI (Or.inr ⟨rfl, rfl⟩) _).wI (Or.inl rfl) _).wI (Or.inr ⟨rfl, rfl⟩) _).wI (Or.inl rfl) _).wI (Or.inr ⟨rfl, rfl⟩) _).wI (Or.inl rfl) _).wI (Or.inr ⟨rfl, rfl⟩) _
noncomputable def fdT (t : Nat → Nat) (m : Nat) (x1 x2 x3 x4 x5 : Int32) : Nat → Nat := put4 (put4 (put4 (put4 (put4 t m x1) (m + 4) x2) (m + 4 + 4) x3) (m + 4 + 4 + 4) x4) (m + 4 + 4 + 4 + 4) x5
noncomputable def s_feed (V : Vt) (x1 x2 x3 x4 x5 : Int32) : Vt := if vm V + 20 ≤ 600 then mkV (fdT (vt V) (vm V) x1 x2 x3 x4 x5) (vm V + 20) (vf V) (vδ V) (vΛ V) (vσ V) (vw V) (vb V) (vi V) (vis V) (viw V) (vib V) (vk V) (vr V) (v7 V) (v8 V) else V
def q_feed (V : Vt) : Int32 := if vm V + 20 ≤ 600 then wn (vm V + 20) else mm
theorem vV_feed (h : vV V) (x1 x2 x3 x4 x5 : Int32) : vV (s_feed V x1 x2 x3 x4 x5) := by
  unfold s_feed
  split
  · obtain ⟨h1, h2, h3⟩ := h
    exact ⟨put4_lt (put4_lt (put4_lt (put4_lt (put4_lt h1 _ _) _ _) _ _) _ _) _ _, by show vm V + 20 ≤ 600; assumption, h3⟩
  · exact h
theorem cl_feed (hR : RepC G V) (x1 x2 x3 x4 x5 : Int32) : am_C am_T (d + 12) 101 [.ref 0, .int x1, .int x2, .int x3, .int x4, .int x5] G (OC G (s_feed V x1 x2 x3 x4 x5) (.inl (q_feed V))) := by
  have hc := am_C_one am_T (d + 11)
  obtain ⟨hsh, hv, tp, tw, di, im, bk, ct, rr⟩ := hR.parts
  have vv := vV_feed hv x1 x2 x3 x4 x5
  have hw := hv.2.2.2.2.2.2.1
  have hi3 := hv.2.2.2.2.2.2.2.2.1
  have hiw : ∀ j, j < vi V → viw V j ≤ 16 := fun j hj => (hv.2.2.2.2.2.2.2.2.2.1 j hj).2.1
  have hm6 := hv.2.1
  unfold s_feed q_feed at *
  rw [we101]
  by_cases c : vm V + 20 ≤ 600
  · simp only [if_pos c] at vv ⊢
    generalize hP : OC G _ _ = P
    simp +decide (disch := omega) only [↓wm1, wb101_0 hc, wb101_18 hc, w0, w1, w20, w600, rI_wI, rP_wI, rL_wI, rI_wR, rP_wR, is_wI, is_wR, ia_wI, ia_wR, ow_wI, ow_wR, wn_add, wn_mul, wn_cl, wn_le, wn_lt, wn_inj, wn_ne1, wn_1ne, wn_gt1, wn_le1, nb0, nb1, am_kt, am_rt, List.cons_append, List.nil_append, true_and, and_true, not_true_eq_false, not_false_eq_true, imp_f, imp_t, implies_true, Nat.zero_add, if_true, if_false, false_and, and_false, fC hsh, tp.2.1, c]
    refine ct63 hsh tp.1 tp.2.1 (by omega) (fun G1 b1 e1 k1 => ?_)
    have s1 := hsh.kp k1
    simp +decide (disch := omega) only [↓wm1, wb101_26 hc, w0, w1, w20, w600, rI_wI, rP_wI, rL_wI, rI_wR, rP_wR, is_wI, is_wR, ia_wI, ia_wR, ow_wI, ow_wR, wn_add, wn_mul, wn_cl, wn_le, wn_lt, wn_inj, wn_ne1, wn_1ne, wn_gt1, wn_le1, nb0, nb1, am_kt, am_rt, List.cons_append, List.nil_append, true_and, and_true, not_true_eq_false, not_false_eq_true, imp_f, imp_t, implies_true, Nat.zero_add, if_true, if_false, false_and, and_false, fC s1]
    refine ct63 s1 b1 e1 (by omega) (fun G2 b2 e2 k2 => ?_)
    have s2 := s1.kp k2
    simp +decide (disch := omega) only [↓wm1, wb101_34 hc, w0, w1, w20, w600, rI_wI, rP_wI, rL_wI, rI_wR, rP_wR, is_wI, is_wR, ia_wI, ia_wR, ow_wI, ow_wR, wn_add, wn_mul, wn_cl, wn_le, wn_lt, wn_inj, wn_ne1, wn_1ne, wn_gt1, wn_le1, nb0, nb1, am_kt, am_rt, List.cons_append, List.nil_append, true_and, and_true, not_true_eq_false, not_false_eq_true, imp_f, imp_t, implies_true, Nat.zero_add, if_true, if_false, false_and, and_false, fC s2]
    refine ct63 s2 b2 e2 (by omega) (fun G3 b3 e3 k3 => ?_)
    have s3 := s2.kp k3
    simp +decide (disch := omega) only [↓wm1, wb101_42 hc, w0, w1, w20, w600, rI_wI, rP_wI, rL_wI, rI_wR, rP_wR, is_wI, is_wR, ia_wI, ia_wR, ow_wI, ow_wR, wn_add, wn_mul, wn_cl, wn_le, wn_lt, wn_inj, wn_ne1, wn_1ne, wn_gt1, wn_le1, nb0, nb1, am_kt, am_rt, List.cons_append, List.nil_append, true_and, and_true, not_true_eq_false, not_false_eq_true, imp_f, imp_t, implies_true, Nat.zero_add, if_true, if_false, false_and, and_false, fC s3]
    refine ct63 s3 b3 e3 (by omega) (fun G4 b4 e4 k4 => ?_)
    have s4 := s3.kp k4
    simp +decide (disch := omega) only [↓wm1, wb101_51 hc, w0, w1, w20, w600, rI_wI, rP_wI, rL_wI, rI_wR, rP_wR, is_wI, is_wR, ia_wI, ia_wR, ow_wI, ow_wR, wn_add, wn_mul, wn_cl, wn_le, wn_lt, wn_inj, wn_ne1, wn_1ne, wn_gt1, wn_le1, nb0, nb1, am_kt, am_rt, List.cons_append, List.nil_append, true_and, and_true, not_true_eq_false, not_false_eq_true, imp_f, imp_t, implies_true, Nat.zero_add, if_true, if_false, false_and, and_false, fC s4]
    refine ct63 s4 b4 e4 (by omega) (fun G5 b5 e5 k5 => ?_)
    have s5 := s4.kp k5
    rw [show vm V + 4 + 4 + 4 + 4 + 4 = vm V + 20 by omega] at e5
    simp +decide (disch := omega) only [↓wm1, wb101_60 hc, w0, w1, w20, w600, rI_wI, rP_wI, rL_wI, rI_wR, rP_wR, is_wI, is_wR, ia_wI, ia_wR, ow_wI, ow_wR, wn_add, wn_mul, wn_cl, wn_le, wn_lt, wn_inj, wn_ne1, wn_1ne, wn_gt1, wn_le1, nb0, nb1, am_kt, am_rt, List.cons_append, List.nil_append, true_and, and_true, not_true_eq_false, not_false_eq_true, imp_f, imp_t, implies_true, Nat.zero_add, if_true, if_false, false_and, and_false, fC s5, e5]
    rw [← hP]
    have kk : Kp FS1 G G5 := (((k1.trans k2).trans k3).trans k4).trans k5
    refine ⟨RepC.mk s5 vv ⟨b5, e5, ?_⟩ (tw.eq (fun i => kk.p 3 i) (fun a i z1 z2 => kk.i (by unfold FS1; omega))) (di.eq hw (fun a i z1 z2 => kk.i (by unfold FS1; omega))) (im.eq hi3 hiw (kk.i (by unfold FS1; omega)) (fun a i z1 z2 => kk.i (by unfold FS1; omega))) (bk.eq (fun a i z => kk.i (by unfold FS1; omega))) (ct.eq (fun i => kk.i (by unfold FS1; omega))) (rr.eq (fun i => kk.i (by unfold FS1; omega))), Fc.kp kk (fun a i z => by unfold FS1 at z; omega), rfl⟩
    rw [kk.i (by unfold FS1; omega)]; exact tp.2.2
  · simp only [if_neg c] at vv ⊢
    generalize hP : OC G V (.inl mm) = P
    simp +decide (disch := omega) only [↓wm1, wb101_0 hc, wb101_16 hc, w0, w1, w20, w600, rI_wI, rP_wI, rL_wI, rI_wR, rP_wR, is_wI, is_wR, ia_wI, ia_wR, ow_wI, ow_wR, wn_add, wn_mul, wn_cl, wn_le, wn_lt, wn_inj, wn_ne1, wn_1ne, wn_gt1, wn_le1, nb0, nb1, am_kt, am_rt, List.cons_append, List.nil_append, true_and, and_true, not_true_eq_false, not_false_eq_true, imp_f, imp_t, implies_true, Nat.zero_add, if_true, if_false, false_and, and_false, fC hsh, tp.2.1, c]
    rw [← hP]; exact OC_ok hR (Kp.refl G)
/-- the number that gives the k-th byte -/
def fdx (x1 x2 x3 x4 x5 : Int32) (k : Nat) : Int32 := if k < 4 then x1 else if k < 8 then x2 else if k < 12 then x3 else if k < 16 then x4 else x5
theorem fdT_at (t : Nat → Nat) (m : Nat) (x1 x2 x3 x4 x5 : Int32) : ∀ k, k < 20 → fdT t m x1 x2 x3 x4 x5 (m + k) = bys (fdx x1 x2 x3 x4 x5 k) (24 - 8 * (k % 4)) := by
  intro k hk
  have : k = 0 ∨ k = 1 ∨ k = 2 ∨ k = 3 ∨ k = 4 ∨ k = 5 ∨ k = 6 ∨ k = 7 ∨ k = 8 ∨ k = 9 ∨ k = 10 ∨ k = 11 ∨ k = 12 ∨ k = 13 ∨ k = 14 ∨ k = 15 ∨ k = 16 ∨ k = 17 ∨ k = 18 ∨ k = 19 := by omega
  unfold fdT put4
  rcases this with rfl | rfl | rfl | rfl | rfl | rfl | rfl | rfl | rfl | rfl | rfl | rfl | rfl | rfl | rfl | rfl | rfl | rfl | rfl | rfl <;> simp [fdx, Nat.add_assoc]
theorem fdT_out (t : Nat → Nat) (m : Nat) (x1 x2 x3 x4 x5 : Int32) (i : Nat) (h : i < m ∨ m + 20 ≤ i) : fdT t m x1 x2 x3 x4 x5 i = t i := by
  unfold fdT put4
  repeat rw [if_neg (by omega)]
theorem rf_feed (hR : RepR G V) (x1 x2 x3 x4 x5 : Int32) : am_C am_T (d + 12) 157 [.ref 334, .int x1, .int x2, .int x3, .int x4, .int x5] G (OR G (s_feed V x1 x2 x3 x4 x5) 1 (.inl (q_feed V))) := by
  have hc := am_C_one am_T (d + 11)
  obtain ⟨hsh, hv, tp, tm, di, im, lb, ct⟩ := hR.parts
  have vv := vV_feed hv x1 x2 x3 x4 x5
  have hw := hv.2.2.2.2.2.2.1
  have hi3 := hv.2.2.2.2.2.2.2.2.1
  have hl7 := hv.2.2.2.2.2.2.2.2.2.2.1
  have hm6 := hv.2.1
  unfold s_feed q_feed at *
  rw [we157]
  by_cases c : vm V + 20 ≤ 600
  · simp only [if_pos c] at vv ⊢
    generalize hP : OR G _ _ _ = P
    simp +decide (disch := omega) only [↓wm1, wb157_0 hc, wb157_20 hc, w0, w1, w4, w8, w12, w16, w20, w24, w255, w600, rI_wI, rP_wI, rL_wI, rI_wR, rP_wR, is_wI, is_wR, ia_wI, ia_wR, ow_wI, ow_wR, wn_add, wn_mul, wn_cl, wn_le, wn_lt, wn_inj, wn_ne1, wn_1ne, wn_gt1, wn_le1, nb0, nb1, am_kt, am_rt, List.cons_append, List.nil_append, true_and, and_true, not_true_eq_false, not_false_eq_true, imp_f, imp_t, implies_true, Nat.zero_add, if_true, if_false, false_and, and_false, fM hsh, tp.2.1, c]
    have n4 : ¬ (wn 4 = wn 0) := by decide
    refine am_for 20 (fun j ls G1 => Kp (fun a i => (a = 334 ∧ (i = 0 ∨ i = 1)) ∨ a = 335) G G1 ∧ am_gI G1 334 0 = wn 0 ∧ am_gI G1 334 1 = wn (vm V + j) ∧ (∀ i, i < 600 → am_gI G1 335 i = wn (if i < vm V + j then fdT (vt V) (vm V) x1 x2 x3 x4 x5 i else vt V i)) ∧ ∃ o7, ls = [some (.ref 334), some (.int x1), some (.int x2), some (.int x3), some (.int x4), some (.int x5), some (.int (wn j)), o7]) ?_ ?_ 20 0 rfl _ _ ⟨(Kp.refl G).wI (Or.inl ⟨rfl, Or.inl rfl⟩) _, by rw [rI_wI, if_pos ⟨rfl, rfl⟩], by rw [rI_wI, if_neg (by omega)]; exact tp.2.1, fun i hi => ?_, none, rfl⟩
    · rintro j hj _ G1 ⟨k1, z1, e1, h1, o7, rfl⟩ nx
      have c1 : ¬ 20 ≤ j := by omega
      have s1 := hsh.kp k1
      have at76 : am_W (am_C am_T (d + 11)) am_157 P 76 [some (.ref 334), some (.int x1), some (.int x2), some (.int x3), some (.int x4), some (.int x5), some (.int (wn j)), none] [.int (fdx x1 x2 x3 x4 x5 j)] G1 := by
        have hmod : j % 4 < 4 := Nat.mod_lt _ (by decide)
        have es : wn 24 - wn (8 * (j % 4)) = wn (24 - 8 * (j % 4)) := wn_sub (by omega)
        simp +decide (disch := omega) only [↓wm1, wb157_76 hc, w0, w1, w4, w8, w12, w16, w20, w24, w255, w600, rI_wI, rP_wI, rL_wI, rI_wR, rP_wR, is_wI, is_wR, ia_wI, ia_wR, ow_wI, ow_wR, wn_add, wn_mul, wn_cl, wn_le, wn_lt, wn_inj, wn_ne1, wn_1ne, wn_gt1, wn_le1, nb0, nb1, am_kt, am_rt, List.cons_append, List.nil_append, true_and, and_true, not_true_eq_false, not_false_eq_true, imp_f, imp_t, implies_true, Nat.zero_add, if_true, if_false, false_and, and_false, fM s1, e1, n4, wn_rem, es, byn_m, ow335 s1]
        refine nx _ _ ⟨?_, ?_, ?_, fun i hi => ?_, _, rfl⟩
        · exact (k1.wI (Or.inr rfl) _).wI (Or.inl ⟨rfl, Or.inr rfl⟩) _
        · rw [rI_wI, if_neg (by omega), rI_wI, if_neg (by omega)]; exact z1
        · rw [rI_wI, if_pos ⟨rfl, rfl⟩]; rfl
        · rw [rI_wI, if_neg (by omega), rI_wI]
          by_cases e : i = vm V + j
          · rw [if_pos ⟨rfl, e⟩, e, if_pos (by omega), fdT_at _ _ _ _ _ _ _ j hj]
            rfl
          · rw [if_neg (fun z => e z.2), h1 i hi]
            by_cases e2 : i < vm V + j
            · rw [if_pos e2, if_pos (by omega)]
            · rw [if_neg e2, if_neg (by omega)]
      unfold fdx at at76
      rw [wb157_23 hc]
      by_cases d4 : 4 ≤ j
      · by_cases d8 : 8 ≤ j
        · by_cases d12 : 12 ≤ j
          · by_cases d16 : 16 ≤ j
            · rw [if_neg (by omega), if_neg (by omega), if_neg (by omega), if_neg (by omega)] at at76
              simp +decide (disch := omega) only [↓wm1, wb157_30 hc, wb157_40 hc, wb157_51 hc, wb157_62 hc, wb157_74 hc, w0, w1, w4, w8, w12, w16, w20, w24, w255, w600, rI_wI, rP_wI, rL_wI, rI_wR, rP_wR, is_wI, is_wR, ia_wI, ia_wR, ow_wI, ow_wR, wn_add, wn_mul, wn_cl, wn_le, wn_lt, wn_inj, wn_ne1, wn_1ne, wn_gt1, wn_le1, nb0, nb1, am_kt, am_rt, List.cons_append, List.nil_append, true_and, and_true, not_true_eq_false, not_false_eq_true, imp_f, imp_t, implies_true, Nat.zero_add, if_true, if_false, false_and, and_false, c1, d4, d8, d12, d16]
              exact at76
            · rw [if_neg (by omega), if_neg (by omega), if_neg (by omega), if_pos (by omega)] at at76
              simp +decide (disch := omega) only [↓wm1, wb157_30 hc, wb157_40 hc, wb157_51 hc, wb157_62 hc, wb157_69 hc, w0, w1, w4, w8, w12, w16, w20, w24, w255, w600, rI_wI, rP_wI, rL_wI, rI_wR, rP_wR, is_wI, is_wR, ia_wI, ia_wR, ow_wI, ow_wR, wn_add, wn_mul, wn_cl, wn_le, wn_lt, wn_inj, wn_ne1, wn_1ne, wn_gt1, wn_le1, nb0, nb1, am_kt, am_rt, List.cons_append, List.nil_append, true_and, and_true, not_true_eq_false, not_false_eq_true, imp_f, imp_t, implies_true, Nat.zero_add, if_true, if_false, false_and, and_false, c1, d4, d8, d12, d16]
              exact at76
          · rw [if_neg (by omega), if_neg (by omega), if_pos (by omega)] at at76
            simp +decide (disch := omega) only [↓wm1, wb157_30 hc, wb157_40 hc, wb157_51 hc, wb157_58 hc, w0, w1, w4, w8, w12, w16, w20, w24, w255, w600, rI_wI, rP_wI, rL_wI, rI_wR, rP_wR, is_wI, is_wR, ia_wI, ia_wR, ow_wI, ow_wR, wn_add, wn_mul, wn_cl, wn_le, wn_lt, wn_inj, wn_ne1, wn_1ne, wn_gt1, wn_le1, nb0, nb1, am_kt, am_rt, List.cons_append, List.nil_append, true_and, and_true, not_true_eq_false, not_false_eq_true, imp_f, imp_t, implies_true, Nat.zero_add, if_true, if_false, false_and, and_false, c1, d4, d8, d12]
            exact at76
        · rw [if_neg (by omega), if_pos (by omega)] at at76
          simp +decide (disch := omega) only [↓wm1, wb157_30 hc, wb157_40 hc, wb157_47 hc, w0, w1, w4, w8, w12, w16, w20, w24, w255, w600, rI_wI, rP_wI, rL_wI, rI_wR, rP_wR, is_wI, is_wR, ia_wI, ia_wR, ow_wI, ow_wR, wn_add, wn_mul, wn_cl, wn_le, wn_lt, wn_inj, wn_ne1, wn_1ne, wn_gt1, wn_le1, nb0, nb1, am_kt, am_rt, List.cons_append, List.nil_append, true_and, and_true, not_true_eq_false, not_false_eq_true, imp_f, imp_t, implies_true, Nat.zero_add, if_true, if_false, false_and, and_false, c1, d4, d8]
          exact at76
      · rw [if_pos (by omega)] at at76
        simp +decide (disch := omega) only [↓wm1, wb157_30 hc, wb157_36 hc, w0, w1, w4, w8, w12, w16, w20, w24, w255, w600, rI_wI, rP_wI, rL_wI, rI_wR, rP_wR, is_wI, is_wR, ia_wI, ia_wR, ow_wI, ow_wR, wn_add, wn_mul, wn_cl, wn_le, wn_lt, wn_inj, wn_ne1, wn_1ne, wn_gt1, wn_le1, nb0, nb1, am_kt, am_rt, List.cons_append, List.nil_append, true_and, and_true, not_true_eq_false, not_false_eq_true, imp_f, imp_t, implies_true, Nat.zero_add, if_true, if_false, false_and, and_false, c1, d4]
        exact at76
    · rintro _ G1 ⟨k1, z1, e1, h1, o7, rfl⟩
      have s1 := hsh.kp k1
      rw [wb157_23 hc]
      simp +decide (disch := omega) only [↓wm1, wb157_120 hc, w0, w1, w4, w8, w12, w16, w20, w24, w255, w600, rI_wI, rP_wI, rL_wI, rI_wR, rP_wR, is_wI, is_wR, ia_wI, ia_wR, ow_wI, ow_wR, wn_add, wn_mul, wn_cl, wn_le, wn_lt, wn_inj, wn_ne1, wn_1ne, wn_gt1, wn_le1, nb0, nb1, am_kt, am_rt, List.cons_append, List.nil_append, true_and, and_true, not_true_eq_false, not_false_eq_true, imp_f, imp_t, implies_true, Nat.zero_add, if_true, if_false, false_and, and_false, Nat.le_refl, fM s1, e1]
      rw [← hP]
      refine ⟨RepR.mk s1 vv ⟨⟨vv.1, fun i hi => ?_⟩, e1, ?_⟩ (tm.eq2 (fun a i z => k1.i (by omega))) (di.eq hw (fun a i z => k1.i (by omega))) (im.eq hi3 (fun a i z => k1.i (by omega))) (lb.eq hl7 (fun a i z => k1.i (by omega))) (ct.eq (fun a i z => k1.i (by omega))), k1.mono (fun a i z => by unfold RS; omega), rfl, z1⟩
      · rw [h1 i hi]
        show wn _ = wn (fdT (vt V) (vm V) x1 x2 x3 x4 x5 i)
        by_cases e2 : i < vm V + 20
        · rw [if_pos e2]
        · rw [if_neg e2, fdT_out _ _ _ _ _ _ _ _ (by omega)]
      · show am_gI G1 334 3 = oI (vf V)
        rw [k1.i (by omega)]; exact tp.2.2
    · rw [rI_wI, if_neg (by omega), tp.1.2 i hi]
      by_cases e2 : i < vm V + 0
      · rw [if_pos e2, fdT_out _ _ _ _ _ _ _ _ (by omega)]
      · rw [if_neg e2]
  · simp only [if_neg c] at vv ⊢
    generalize hP : OR G V 1 (.inl mm) = P
    simp +decide (disch := omega) only [↓wm1, wb157_0 hc, wb157_18 hc, w0, w1, w4, w8, w12, w16, w20, w24, w255, w600, rI_wI, rP_wI, rL_wI, rI_wR, rP_wR, is_wI, is_wR, ia_wI, ia_wR, ow_wI, ow_wR, wn_add, wn_mul, wn_cl, wn_le, wn_lt, wn_inj, wn_ne1, wn_1ne, wn_gt1, wn_le1, nb0, nb1, am_kt, am_rt, List.cons_append, List.nil_append, true_and, and_true, not_true_eq_false, not_false_eq_true, imp_f, imp_t, implies_true, Nat.zero_add, if_true, if_false, false_and, and_false, fM hsh, tp.2.1, c]
    rw [← hP]; exact OR_ok hR (k0R G) (e0R G)
end
