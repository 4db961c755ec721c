/-! The reference's constructor (gen97s.py). -/
def rF : Nat → Nat → Int32 := fun b j => if b = 334 ∧ j = 3 then mm else cF4 b j
def rK0 : List (Nat × Nat) := iK 3 ++ [(12, 49)]
def rP0 : List (Nat × Nat × Nat) := iP 3
def rK1 : List (Nat × Nat) := rK0 ++ [(100, 600)]
def rP1 : List (Nat × Nat × Nat) := rP0
def rK2 : List (Nat × Nat) := rK1 ++ [(100, 2)]
def rP2 : List (Nat × Nat × Nat) := ((334, 9, 335) :: rP1)
def rK3 : List (Nat × Nat) := rK2 ++ [(100, 4)]
def rP3 : List (Nat × Nat × Nat) := ((334, 10, 336) :: rP2)
def rK4 : List (Nat × Nat) := rK3 ++ [(100, 4)]
def rP4 : List (Nat × Nat × Nat) := ((334, 11, 337) :: rP3)
def rK5 : List (Nat × Nat) := rK4 ++ (102, 6) :: List.replicate 6 (100, 2)
def rP5 : List (Nat × Nat × Nat) := p2 339 6 ((334, 12, 338) :: rP4)
def rK6 : List (Nat × Nat) := rK5 ++ (102, 6) :: List.replicate 6 (100, 2)
def rP6 : List (Nat × Nat × Nat) := p2 346 6 ((334, 13, 339) :: rP5)
def rK7 : List (Nat × Nat) := rK6 ++ (102, 7) :: List.replicate 7 (100, 2)
def rP7 : List (Nat × Nat × Nat) := p2 353 7 ((334, 14, 346) :: rP6)
def rK8 : List (Nat × Nat) := rK7 ++ (102, 7) :: List.replicate 7 (100, 2)
def rP8 : List (Nat × Nat × Nat) := p2 361 7 ((334, 15, 353) :: rP7)
def rK9 : List (Nat × Nat) := rK8 ++ (102, 8) :: List.replicate 8 (100, 3)
def rP9 : List (Nat × Nat × Nat) := p2 369 8 ((334, 16, 361) :: rP8)
def rK10 : List (Nat × Nat) := rK9 ++ (102, 8) :: List.replicate 8 (100, 3)
def rP10 : List (Nat × Nat × Nat) := p2 378 8 ((334, 17, 369) :: rP9)
def rK11 : List (Nat × Nat) := rK10 ++ (102, 160) :: List.replicate 160 (100, 2)
def rP11 : List (Nat × Nat × Nat) := p2 387 160 ((334, 18, 378) :: rP10)
def rK12 : List (Nat × Nat) := rK11 ++ (102, 160) :: List.replicate 160 (100, 2)
def rP12 : List (Nat × Nat × Nat) := p2 548 160 ((334, 21, 387) :: rP11)
def rK13 : List (Nat × Nat) := rK12 ++ (102, 7) :: List.replicate 7 (100, 2)
def rP13 : List (Nat × Nat × Nat) := p2 709 7 ((334, 22, 548) :: rP12)
def rK14 : List (Nat × Nat) := rK13 ++ (102, 7) :: List.replicate 7 (100, 2)
def rP14 : List (Nat × Nat × Nat) := p2 717 7 ((334, 23, 709) :: rP13)
def rK15 : List (Nat × Nat) := rK14 ++ [(100, 160)]
def rP15 : List (Nat × Nat × Nat) := ((334, 24, 717) :: rP14)
def rK16 : List (Nat × Nat) := rK15 ++ [(100, 9)]
def rP16 : List (Nat × Nat × Nat) := ((334, 25, 725) :: rP15)
def rK17 : List (Nat × Nat) := rK16 ++ (102, 80) :: List.replicate 80 (100, 3)
def rP17 : List (Nat × Nat × Nat) := p2 727 80 ((334, 26, 726) :: rP16)
def rK18 : List (Nat × Nat) := rK17 ++ [(100, 96)]
def rP18 : List (Nat × Nat × Nat) := ((334, 27, 727) :: rP17)
def rK19 : List (Nat × Nat) := rK18 ++ [(100, 96)]
def rP19 : List (Nat × Nat × Nat) := ((334, 29, 808) :: rP18)
def rK20 : List (Nat × Nat) := rK19 ++ (102, 16) :: List.replicate 16 (100, 96)
def rP20 : List (Nat × Nat × Nat) := p2 810 16 ((334, 30, 809) :: rP19)
def rK21 : List (Nat × Nat) := rK20 ++ (102, 3) :: List.replicate 3 (100, 1633)
def rP21 : List (Nat × Nat × Nat) := p2 827 3 ((334, 31, 810) :: rP20)
def rK22 : List (Nat × Nat) := rK21 ++ [(100, 6)]
def rP22 : List (Nat × Nat × Nat) := ((334, 32, 827) :: rP21)
def rK23 : List (Nat × Nat) := rK22 ++ [(100, 6)]
def rP23 : List (Nat × Nat × Nat) := ((334, 40, 831) :: rP22)
def rK24 : List (Nat × Nat) := rK23 ++ [(100, 100)]
def rP24 : List (Nat × Nat × Nat) := ((334, 41, 832) :: rP23)
def rK25 : List (Nat × Nat) := rK24 ++ [(100, 6)]
def rP25 : List (Nat × Nat × Nat) := ((334, 43, 833) :: rP24)
def rK26 : List (Nat × Nat) := rK25 ++ [(100, 6)]
def rP26 : List (Nat × Nat × Nat) := ((334, 44, 834) :: rP25)
def rK27 : List (Nat × Nat) := rK26 ++ [(100, 720)]
def rP27 : List (Nat × Nat × Nat) := ((334, 45, 835) :: rP26)
def rK28 : List (Nat × Nat) := rK27 ++ [(101, 14)]
def rP28 : List (Nat × Nat × Nat) := ((334, 46, 836) :: rP27)
def rKL : List (Nat × Nat) := rK28
def rPL : List (Nat × Nat × Nat) := (334, 47, 837) :: rP28
section
variable {G0 G : am_G}
theorem rF_z (hz : ∀ a i, 334 ≤ a → cF4 a i = 0) {a i : Nat} (ha : 334 ≤ a) (h : ¬ (a = 334 ∧ i = 3)) : rF a i = wn 0 := by
  unfold rF
  rw [if_neg h]
  exact hz a i ha
theorem ct177z {d A B : Nat} {post : am_O → am_G → Prop} : am_C am_T (d + 1) 177 [.ref A, .ref B, .int (wn 0)] G post ↔ post (.inl none) G := by
  have hc := am_C_one am_T d
  rw [we177]
  simp +decide (disch := omega) only [↓wm1, wb177_0 hc, w0, w1, rI_wI, rP_wI, rL_wI, rI_wR, rP_wR, is_wI, is_wR, ia_wI, ia_wR, ow_wI, ow_wR, wn_add, wn_mul, wn_cl, wn_le, wn_lt, wn_inj, wn_ne1, wn_1ne, wn_gt1, wn_le1, nb0, nb1, am_kt, am_rt, List.cons_append, List.nil_append, true_and, and_true, not_true_eq_false, not_false_eq_true, imp_f, imp_t, implies_true, Nat.zero_add, if_true, if_false, false_and, and_false]
  rw [wb177_2 hc]
  simp +decide (disch := omega) only [↓wm1, wb177_43 hc, w0, w1, rI_wI, rP_wI, rL_wI, rI_wR, rP_wR, is_wI, is_wR, ia_wI, ia_wR, ow_wI, ow_wR, wn_add, wn_mul, wn_cl, wn_le, wn_lt, wn_inj, wn_ne1, wn_1ne, wn_gt1, wn_le1, nb0, nb1, am_kt, am_rt, List.cons_append, List.nil_append, true_and, and_true, not_true_eq_false, not_false_eq_true, imp_f, imp_t, implies_true, Nat.zero_add, if_true, if_false, false_and, and_false, Nat.le_refl]
theorem ct150c {d : Nat} {post : am_O → am_G → Prop} (M : Mk G0 G rKL 838 21207 rPL rF) (hz : ∀ a i, 334 ≤ a → cF4 a i = 0) (kk : ∀ G', Mk G0 G' rKL 838 21207 rPL rF → post (.inl none) G') : am_C am_T (d + 1) 150 [.ref 334] G post := by
  have hc := am_C_one am_T d
  have h3 : rKL[334]? = some (12, 49) := by decide +kernel
  have h7 : rKL[337]? = some (100, 4) := by decide +kernel
  have l1 : lkp rPL 334 11 = 337 := by decide +kernel
  rw [we150]
  simp +decide (disch := omega) only [↓wm1, wb150_0 hc, w0, w1, w4, rI_wI, rP_wI, rL_wI, rI_wR, rP_wR, is_wI, is_wR, ia_wI, ia_wR, ow_wI, ow_wR, wn_add, wn_mul, wn_cl, wn_le, wn_lt, wn_inj, wn_ne1, wn_1ne, wn_gt1, wn_le1, nb0, nb1, am_kt, am_rt, List.cons_append, List.nil_append, true_and, and_true, not_true_eq_false, not_false_eq_true, imp_f, imp_t, implies_true, Nat.zero_add, if_true, if_false, false_and, and_false]
  refine am_for 4 (fun j ls G' => Mk G0 G' rKL 838 21207 rPL rF ∧ ls = [some (.ref 334), some (.int (wn j))]) ?_ ?_ 4 0 rfl _ _ ⟨M, rfl⟩
  · rintro j hj _ G1 ⟨M1, rfl⟩ nx
    have c1 : ¬ 4 ≤ j := by omega
    have eP : am_gP G1 334 11 = 337 := (M1.gP (by decide) 11).trans l1
    rw [wb150_2 hc]
    simp +decide (disch := omega) only [↓wm1, wb150_7 hc, w0, w1, w4, rI_wI, rP_wI, rL_wI, rI_wR, rP_wR, is_wI, is_wR, ia_wI, ia_wR, ow_wI, ow_wR, wn_add, wn_mul, wn_cl, wn_le, wn_lt, wn_inj, wn_ne1, wn_1ne, wn_gt1, wn_le1, nb0, nb1, am_kt, am_rt, List.cons_append, List.nil_append, true_and, and_true, not_true_eq_false, not_false_eq_true, imp_f, imp_t, implies_true, Nat.zero_add, if_true, if_false, false_and, and_false, c1, M1.is h3, eP, M1.ow h7 (by decide), hj]
    exact nx _ _ ⟨M1.wI0 (by decide) (by decide) (rF_z hz (by decide) (by omega)), rfl⟩
  · rintro _ G1 ⟨M1, rfl⟩
    rw [wb150_2 hc]
    simp +decide (disch := omega) only [↓wm1, wb150_20 hc, w0, w1, w4, rI_wI, rP_wI, rL_wI, rI_wR, rP_wR, is_wI, is_wR, ia_wI, ia_wR, ow_wI, ow_wR, wn_add, wn_mul, wn_cl, wn_le, wn_lt, wn_inj, wn_ne1, wn_1ne, wn_gt1, wn_le1, nb0, nb1, am_kt, am_rt, List.cons_append, List.nil_append, true_and, and_true, not_true_eq_false, not_false_eq_true, imp_f, imp_t, implies_true, Nat.zero_add, if_true, if_false, false_and, and_false, Nat.le_refl]
    exact kk _ M1
theorem ct179c {d : Nat} {post : am_O → am_G → Prop} (M : Mk G0 G rKL 838 21207 rPL rF) (hz : ∀ a i, 334 ≤ a → cF4 a i = 0) (kk : ∀ G', Mk G0 G' rKL 838 21207 rPL rF → post (.inl none) G') : am_C am_T (d + 2) 179 [.ref 334] G post := by
  have hc := am_C_one am_T (d + 1)
  have h3 : rKL[334]? = some (12, 49) := by decide +kernel
  have h7 : rKL[337]? = some (100, 4) := by decide +kernel
  have h8 : rKL[338]? = some (100, 4) := by decide +kernel
  have h9 : rKL[808]? = some (100, 96) := by decide +kernel
  have l : lkp rPL 334 11 = 337 ∧ lkp rPL 334 12 = 338 ∧ lkp rPL 334 13 = 339 ∧ lkp rPL 334 14 = 346 ∧ lkp rPL 334 15 = 353 ∧ lkp rPL 334 16 = 361 ∧ lkp rPL 334 17 = 369 ∧ lkp rPL 334 18 = 378 ∧ lkp rPL 334 29 = 808 := by decide +kernel
  have fp : ∀ {G'}, Mk G0 G' rKL 838 21207 rPL rF → am_gP G' 334 11 = 337 ∧ am_gP G' 334 12 = 338 ∧ am_gP G' 334 13 = 339 ∧ am_gP G' 334 14 = 346 ∧ am_gP G' 334 15 = 353 ∧ am_gP G' 334 16 = 361 ∧ am_gP G' 334 17 = 369 ∧ am_gP G' 334 18 = 378 ∧ am_gP G' 334 29 = 808 := fun m => by
    simp only [m.gP (show 334 < 838 by decide)]
    exact l
  rw [we179]
  simp +decide (disch := omega) only [↓wm1, wb179_0 hc, w0, w1, w2, w3, w4, w94, w96, rI_wI, rP_wI, rL_wI, rI_wR, rP_wR, is_wI, is_wR, ia_wI, ia_wR, ow_wI, ow_wR, wn_add, wn_mul, wn_cl, wn_le, wn_lt, wn_inj, wn_ne1, wn_1ne, wn_gt1, wn_le1, nb0, nb1, am_kt, am_rt, List.cons_append, List.nil_append, true_and, and_true, not_true_eq_false, not_false_eq_true, imp_f, imp_t, implies_true, Nat.zero_add, if_true, if_false, false_and, and_false]
  refine am_for 4 (fun j ls G' => Mk G0 G' rKL 838 21207 rPL rF ∧ ls = [some (.ref 334), some (.int (wn j))]) ?_ ?_ 4 0 rfl _ _ ⟨M, rfl⟩
  · rintro j hj _ G1 ⟨M1, rfl⟩ nx
    have c1 : ¬ 4 ≤ j := by omega
    have e1 : am_gI G1 337 j = wn 0 := (M1.gI (by decide) j).trans (rF_z hz (by decide) (by omega))
    rw [wb179_2 hc]
    simp +decide (disch := omega) only [↓wm1, wb179_7 hc, w0, w1, w2, w3, w4, w94, w96, rI_wI, rP_wI, rL_wI, rI_wR, rP_wR, is_wI, is_wR, ia_wI, ia_wR, ow_wI, ow_wR, wn_add, wn_mul, wn_cl, wn_le, wn_lt, wn_inj, wn_ne1, wn_1ne, wn_gt1, wn_le1, nb0, nb1, am_kt, am_rt, List.cons_append, List.nil_append, true_and, and_true, not_true_eq_false, not_false_eq_true, imp_f, imp_t, implies_true, Nat.zero_add, if_true, if_false, false_and, and_false, c1, M1.is h3, fp M1, M1.ia h7 (by decide), M1.ow h8 (by decide), hj, e1]
    exact nx _ _ ⟨M1.wI0 (by decide) (by decide) (rF_z hz (by decide) (by omega)), rfl⟩
  · rintro _ G1 ⟨M1, rfl⟩
    have e8 : ∀ j, am_gI G1 338 j = wn 0 := fun j => (M1.gI (by decide) j).trans (rF_z hz (by decide) (by omega))
    rw [wb179_2 hc]
    simp +decide (disch := omega) only [↓wm1, wb179_25 hc, wb179_42 hc, wb179_59 hc, wb179_76 hc, w0, w1, w2, w3, w4, w94, w96, rI_wI, rP_wI, rL_wI, rI_wR, rP_wR, is_wI, is_wR, ia_wI, ia_wR, ow_wI, ow_wR, wn_add, wn_mul, wn_cl, wn_le, wn_lt, wn_inj, wn_ne1, wn_1ne, wn_gt1, wn_le1, nb0, nb1, am_kt, am_rt, List.cons_append, List.nil_append, true_and, and_true, not_true_eq_false, not_false_eq_true, imp_f, imp_t, implies_true, Nat.zero_add, if_true, if_false, false_and, and_false, Nat.le_refl, M1.is h3, fp M1, M1.ia h8 (by decide), e8, ct177z]
    refine am_for 96 (fun j ls G' => Mk G0 G' rKL 838 21207 rPL rF ∧ ls = [some (.ref 334), some (.int (wn j))]) ?_ ?_ 96 0 rfl _ _ ⟨M1, rfl⟩
    · rintro j hj _ G2 ⟨M2, rfl⟩ nx
      have c1 : ¬ 96 ≤ j := by omega
      rw [wb179_78 hc]
      simp +decide (disch := omega) only [↓wm1, wb179_84 hc, w0, w1, w2, w3, w4, w94, w96, rI_wI, rP_wI, rL_wI, rI_wR, rP_wR, is_wI, is_wR, ia_wI, ia_wR, ow_wI, ow_wR, wn_add, wn_mul, wn_cl, wn_le, wn_lt, wn_inj, wn_ne1, wn_1ne, wn_gt1, wn_le1, nb0, nb1, am_kt, am_rt, List.cons_append, List.nil_append, true_and, and_true, not_true_eq_false, not_false_eq_true, imp_f, imp_t, implies_true, Nat.zero_add, if_true, if_false, false_and, and_false, c1, M2.is h3, fp M2, M2.ow h9 (by decide), hj]
      exact nx _ _ ⟨M2.wI0 (by decide) (by decide) (rF_z hz (by decide) (by omega)), rfl⟩
    · rintro _ G2 ⟨M2, rfl⟩
      have e9 : ∀ j, am_gI G2 338 j = wn 0 := fun j => (M2.gI (by decide) j).trans (rF_z hz (by decide) (by omega))
      have z : ∀ {a i : Nat}, 334 ≤ a → ¬ (a = 334 ∧ i = 3) → rF a i = wn 0 := fun h1 h2 => rF_z hz h1 h2
      have M3 := (((((M2.wI0 (a := 808) (i := 94) (by decide) (by decide) (z (by decide) (by decide))).wI0 (a := 334) (i := 19) (by decide) (by decide) (z (by decide) (by decide))).wI0 (a := 334) (i := 33) (by decide) (by decide) (z (by decide) (by decide))).wI0 (a := 334) (i := 34) (by decide) (by decide) (z (by decide) (by decide))).wI0 (a := 334) (i := 35) (by decide) (by decide) (z (by decide) (by decide))).wI0 (a := 334) (i := 36) (by decide) (by decide) (z (by decide) (by decide))
      rw [wb179_78 hc]
      simp +decide (disch := omega) only [↓wm1, wb179_97 hc, w0, w1, w2, w3, w4, w94, w96, rI_wI, rP_wI, rL_wI, rI_wR, rP_wR, is_wI, is_wR, ia_wI, ia_wR, ow_wI, ow_wR, wn_add, wn_mul, wn_cl, wn_le, wn_lt, wn_inj, wn_ne1, wn_1ne, wn_gt1, wn_le1, nb0, nb1, am_kt, am_rt, List.cons_append, List.nil_append, true_and, and_true, not_true_eq_false, not_false_eq_true, imp_f, imp_t, implies_true, Nat.zero_add, if_true, if_false, false_and, and_false, Nat.le_refl, M2.is h3, fp M2, M2.ia h8 (by decide), M2.ow h9 (by decide), e9]
      exact kk _ M3
set_option maxHeartbeats 16000000 in
theorem ct149c {d : Nat} {post : am_O → am_G → Prop} (M : Mk G0 G rK0 335 11460 rP0 cF4) (hz : ∀ a i, 334 ≤ a → cF4 a i = 0) (kk : ∀ G', Mk G0 G' rKL 838 21207 rPL rF → post (.inl none) G') : am_C am_T (d + 3) 149 [.ref 334] G post := by
  have hc := am_C_one am_T (d + 2)
  have h0 : rK0[334]? = some (12, 49) := gnew (by decide +kernel)
  have M0 : Mk G0 (am_wI G 334 3 mm) rK0 335 11460 rP0 rF := M.wI 3 mm (by decide) (by decide)
  have ii := M.is h0
  rw [we149]
  simp +decide (disch := omega) only [↓wm1, wb149_0 hc, w0, w1, w2, w3, w4, w6, w7, w8, w9, w14, w16, w80, w96, w100, w160, w600, w720, rI_wI, rP_wI, rL_wI, rI_wR, rP_wR, is_wI, is_wR, ia_wI, ia_wR, ow_wI, ow_wR, wn_add, wn_mul, wn_cl, wn_le, wn_lt, wn_inj, wn_ne1, wn_1ne, wn_gt1, wn_le1, nb0, nb1, am_kt, am_rt, List.cons_append, List.nil_append, true_and, and_true, not_true_eq_false, not_false_eq_true, imp_f, imp_t, implies_true, Nat.zero_add, if_true, if_false, false_and, and_false, ii, M.rm, M.len, rK_wI, rm_wI]
  have M1 : Mk G0 (am_nw (am_wI G 334 3 mm) 100 600) rK1 336 12060 rP1 rF := M0.nw 100 600 (by decide)
  have h1 : rK1[334]? = some (12, 49) := gap h0
  generalize am_nw (am_wI G 334 3 mm) 100 600 = G1 at M1 ⊢
  simp +decide (disch := omega) only [↓wm1, wb149_15 hc, w0, w1, w2, w3, w4, w6, w7, w8, w9, w14, w16, w80, w96, w100, w160, w600, w720, rI_wI, rP_wI, rL_wI, rI_wR, rP_wR, is_wI, is_wR, ia_wI, ia_wR, ow_wI, ow_wR, wn_add, wn_mul, wn_cl, wn_le, wn_lt, wn_inj, wn_ne1, wn_1ne, wn_gt1, wn_le1, nb0, nb1, am_kt, am_rt, List.cons_append, List.nil_append, true_and, and_true, not_true_eq_false, not_false_eq_true, imp_f, imp_t, implies_true, Nat.zero_add, if_true, if_false, false_and, and_false, M1.is h1, M1.rm, M1.len, rK_wP, rm_wP, w1633]
  have M2 : Mk G0 (am_nw (am_wP G1 334 9 335) 100 2) rK2 337 12062 rP2 rF := (M1.wP 9 335 (by decide)).nw 100 2 (by decide)
  have h2 : rK2[334]? = some (12, 49) := gap h1
  generalize am_nw (am_wP G1 334 9 335) 100 2 = G2 at M2 ⊢
  simp +decide (disch := omega) only [↓wm1, wb149_22 hc, w0, w1, w2, w3, w4, w6, w7, w8, w9, w14, w16, w80, w96, w100, w160, w600, w720, rI_wI, rP_wI, rL_wI, rI_wR, rP_wR, is_wI, is_wR, ia_wI, ia_wR, ow_wI, ow_wR, wn_add, wn_mul, wn_cl, wn_le, wn_lt, wn_inj, wn_ne1, wn_1ne, wn_gt1, wn_le1, nb0, nb1, am_kt, am_rt, List.cons_append, List.nil_append, true_and, and_true, not_true_eq_false, not_false_eq_true, imp_f, imp_t, implies_true, Nat.zero_add, if_true, if_false, false_and, and_false, M2.is h2, M2.rm, M2.len, rK_wP, rm_wP, w1633]
  have M3 : Mk G0 (am_nw (am_wP G2 334 10 336) 100 4) rK3 338 12066 rP3 rF := (M2.wP 10 336 (by decide)).nw 100 4 (by decide)
  have h3 : rK3[334]? = some (12, 49) := gap h2
  generalize am_nw (am_wP G2 334 10 336) 100 4 = G3 at M3 ⊢
  simp +decide (disch := omega) only [↓wm1, wb149_29 hc, w0, w1, w2, w3, w4, w6, w7, w8, w9, w14, w16, w80, w96, w100, w160, w600, w720, rI_wI, rP_wI, rL_wI, rI_wR, rP_wR, is_wI, is_wR, ia_wI, ia_wR, ow_wI, ow_wR, wn_add, wn_mul, wn_cl, wn_le, wn_lt, wn_inj, wn_ne1, wn_1ne, wn_gt1, wn_le1, nb0, nb1, am_kt, am_rt, List.cons_append, List.nil_append, true_and, and_true, not_true_eq_false, not_false_eq_true, imp_f, imp_t, implies_true, Nat.zero_add, if_true, if_false, false_and, and_false, M3.is h3, M3.rm, M3.len, rK_wP, rm_wP, w1633]
  have M4 : Mk G0 (am_nw (am_wP G3 334 11 337) 100 4) rK4 339 12070 rP4 rF := (M3.wP 11 337 (by decide)).nw 100 4 (by decide)
  have h4 : rK4[334]? = some (12, 49) := gap h3
  generalize am_nw (am_wP G3 334 11 337) 100 4 = G4 at M4 ⊢
  simp +decide (disch := omega) only [↓wm1, wb149_36 hc, w0, w1, w2, w3, w4, w6, w7, w8, w9, w14, w16, w80, w96, w100, w160, w600, w720, rI_wI, rP_wI, rL_wI, rI_wR, rP_wR, is_wI, is_wR, ia_wI, ia_wR, ow_wI, ow_wR, wn_add, wn_mul, wn_cl, wn_le, wn_lt, wn_inj, wn_ne1, wn_1ne, wn_gt1, wn_le1, nb0, nb1, am_kt, am_rt, List.cons_append, List.nil_append, true_and, and_true, not_true_eq_false, not_false_eq_true, imp_f, imp_t, implies_true, Nat.zero_add, if_true, if_false, false_and, and_false, M4.is h4, M4.rm, M4.len, rK_wP, rm_wP, w1633]
  have M5 : Mk G0 (am_n2 (am_wP G4 334 12 338) 6 2) rK5 346 12088 rP5 rF := (M4.wP 12 338 (by decide)).n2 6 2 (by decide)
  have h5 : rK5[334]? = some (12, 49) := gap h4
  generalize am_n2 (am_wP G4 334 12 338) 6 2 = G5 at M5 ⊢
  simp +decide (disch := omega) only [↓wm1, wb149_47 hc, w0, w1, w2, w3, w4, w6, w7, w8, w9, w14, w16, w80, w96, w100, w160, w600, w720, rI_wI, rP_wI, rL_wI, rI_wR, rP_wR, is_wI, is_wR, ia_wI, ia_wR, ow_wI, ow_wR, wn_add, wn_mul, wn_cl, wn_le, wn_lt, wn_inj, wn_ne1, wn_1ne, wn_gt1, wn_le1, nb0, nb1, am_kt, am_rt, List.cons_append, List.nil_append, true_and, and_true, not_true_eq_false, not_false_eq_true, imp_f, imp_t, implies_true, Nat.zero_add, if_true, if_false, false_and, and_false, M5.is h5, M5.rm, M5.len, rK_wP, rm_wP, w1633]
  have M6 : Mk G0 (am_n2 (am_wP G5 334 13 339) 6 2) rK6 353 12106 rP6 rF := (M5.wP 13 339 (by decide)).n2 6 2 (by decide)
  have h6 : rK6[334]? = some (12, 49) := gap h5
  generalize am_n2 (am_wP G5 334 13 339) 6 2 = G6 at M6 ⊢
  simp +decide (disch := omega) only [↓wm1, wb149_58 hc, w0, w1, w2, w3, w4, w6, w7, w8, w9, w14, w16, w80, w96, w100, w160, w600, w720, rI_wI, rP_wI, rL_wI, rI_wR, rP_wR, is_wI, is_wR, ia_wI, ia_wR, ow_wI, ow_wR, wn_add, wn_mul, wn_cl, wn_le, wn_lt, wn_inj, wn_ne1, wn_1ne, wn_gt1, wn_le1, nb0, nb1, am_kt, am_rt, List.cons_append, List.nil_append, true_and, and_true, not_true_eq_false, not_false_eq_true, imp_f, imp_t, implies_true, Nat.zero_add, if_true, if_false, false_and, and_false, M6.is h6, M6.rm, M6.len, rK_wP, rm_wP, w1633]
  have M7 : Mk G0 (am_n2 (am_wP G6 334 14 346) 7 2) rK7 361 12127 rP7 rF := (M6.wP 14 346 (by decide)).n2 7 2 (by decide)
  have h7 : rK7[334]? = some (12, 49) := gap h6
  generalize am_n2 (am_wP G6 334 14 346) 7 2 = G7 at M7 ⊢
  simp +decide (disch := omega) only [↓wm1, wb149_69 hc, w0, w1, w2, w3, w4, w6, w7, w8, w9, w14, w16, w80, w96, w100, w160, w600, w720, rI_wI, rP_wI, rL_wI, rI_wR, rP_wR, is_wI, is_wR, ia_wI, ia_wR, ow_wI, ow_wR, wn_add, wn_mul, wn_cl, wn_le, wn_lt, wn_inj, wn_ne1, wn_1ne, wn_gt1, wn_le1, nb0, nb1, am_kt, am_rt, List.cons_append, List.nil_append, true_and, and_true, not_true_eq_false, not_false_eq_true, imp_f, imp_t, implies_true, Nat.zero_add, if_true, if_false, false_and, and_false, M7.is h7, M7.rm, M7.len, rK_wP, rm_wP, w1633]
  have M8 : Mk G0 (am_n2 (am_wP G7 334 15 353) 7 2) rK8 369 12148 rP8 rF := (M7.wP 15 353 (by decide)).n2 7 2 (by decide)
  have h8 : rK8[334]? = some (12, 49) := gap h7
  generalize am_n2 (am_wP G7 334 15 353) 7 2 = G8 at M8 ⊢
  simp +decide (disch := omega) only [↓wm1, wb149_80 hc, w0, w1, w2, w3, w4, w6, w7, w8, w9, w14, w16, w80, w96, w100, w160, w600, w720, rI_wI, rP_wI, rL_wI, rI_wR, rP_wR, is_wI, is_wR, ia_wI, ia_wR, ow_wI, ow_wR, wn_add, wn_mul, wn_cl, wn_le, wn_lt, wn_inj, wn_ne1, wn_1ne, wn_gt1, wn_le1, nb0, nb1, am_kt, am_rt, List.cons_append, List.nil_append, true_and, and_true, not_true_eq_false, not_false_eq_true, imp_f, imp_t, implies_true, Nat.zero_add, if_true, if_false, false_and, and_false, M8.is h8, M8.rm, M8.len, rK_wP, rm_wP, w1633]
  have M9 : Mk G0 (am_n2 (am_wP G8 334 16 361) 8 3) rK9 378 12180 rP9 rF := (M8.wP 16 361 (by decide)).n2 8 3 (by decide)
  have h9 : rK9[334]? = some (12, 49) := gap h8
  generalize am_n2 (am_wP G8 334 16 361) 8 3 = G9 at M9 ⊢
  simp +decide (disch := omega) only [↓wm1, wb149_91 hc, w0, w1, w2, w3, w4, w6, w7, w8, w9, w14, w16, w80, w96, w100, w160, w600, w720, rI_wI, rP_wI, rL_wI, rI_wR, rP_wR, is_wI, is_wR, ia_wI, ia_wR, ow_wI, ow_wR, wn_add, wn_mul, wn_cl, wn_le, wn_lt, wn_inj, wn_ne1, wn_1ne, wn_gt1, wn_le1, nb0, nb1, am_kt, am_rt, List.cons_append, List.nil_append, true_and, and_true, not_true_eq_false, not_false_eq_true, imp_f, imp_t, implies_true, Nat.zero_add, if_true, if_false, false_and, and_false, M9.is h9, M9.rm, M9.len, rK_wP, rm_wP, w1633]
  have M10 : Mk G0 (am_n2 (am_wP G9 334 17 369) 8 3) rK10 387 12212 rP10 rF := (M9.wP 17 369 (by decide)).n2 8 3 (by decide)
  have h10 : rK10[334]? = some (12, 49) := gap h9
  generalize am_n2 (am_wP G9 334 17 369) 8 3 = G10 at M10 ⊢
  simp +decide (disch := omega) only [↓wm1, wb149_102 hc, w0, w1, w2, w3, w4, w6, w7, w8, w9, w14, w16, w80, w96, w100, w160, w600, w720, rI_wI, rP_wI, rL_wI, rI_wR, rP_wR, is_wI, is_wR, ia_wI, ia_wR, ow_wI, ow_wR, wn_add, wn_mul, wn_cl, wn_le, wn_lt, wn_inj, wn_ne1, wn_1ne, wn_gt1, wn_le1, nb0, nb1, am_kt, am_rt, List.cons_append, List.nil_append, true_and, and_true, not_true_eq_false, not_false_eq_true, imp_f, imp_t, implies_true, Nat.zero_add, if_true, if_false, false_and, and_false, M10.is h10, M10.rm, M10.len, rK_wP, rm_wP, w1633]
  have M11 : Mk G0 (am_n2 (am_wP G10 334 18 378) 160 2) rK11 548 12692 rP11 rF := (M10.wP 18 378 (by decide)).n2 160 2 (by decide)
  have h11 : rK11[334]? = some (12, 49) := gap h10
  generalize am_n2 (am_wP G10 334 18 378) 160 2 = G11 at M11 ⊢
  simp +decide (disch := omega) only [↓wm1, wb149_114 hc, w0, w1, w2, w3, w4, w6, w7, w8, w9, w14, w16, w80, w96, w100, w160, w600, w720, rI_wI, rP_wI, rL_wI, rI_wR, rP_wR, is_wI, is_wR, ia_wI, ia_wR, ow_wI, ow_wR, wn_add, wn_mul, wn_cl, wn_le, wn_lt, wn_inj, wn_ne1, wn_1ne, wn_gt1, wn_le1, nb0, nb1, am_kt, am_rt, List.cons_append, List.nil_append, true_and, and_true, not_true_eq_false, not_false_eq_true, imp_f, imp_t, implies_true, Nat.zero_add, if_true, if_false, false_and, and_false, M11.is h11, M11.rm, M11.len, rK_wP, rm_wP, w1633]
  have M12 : Mk G0 (am_n2 (am_wP G11 334 21 387) 160 2) rK12 709 13172 rP12 rF := (M11.wP 21 387 (by decide)).n2 160 2 (by decide)
  have h12 : rK12[334]? = some (12, 49) := gap h11
  generalize am_n2 (am_wP G11 334 21 387) 160 2 = G12 at M12 ⊢
  simp +decide (disch := omega) only [↓wm1, wb149_126 hc, w0, w1, w2, w3, w4, w6, w7, w8, w9, w14, w16, w80, w96, w100, w160, w600, w720, rI_wI, rP_wI, rL_wI, rI_wR, rP_wR, is_wI, is_wR, ia_wI, ia_wR, ow_wI, ow_wR, wn_add, wn_mul, wn_cl, wn_le, wn_lt, wn_inj, wn_ne1, wn_1ne, wn_gt1, wn_le1, nb0, nb1, am_kt, am_rt, List.cons_append, List.nil_append, true_and, and_true, not_true_eq_false, not_false_eq_true, imp_f, imp_t, implies_true, Nat.zero_add, if_true, if_false, false_and, and_false, M12.is h12, M12.rm, M12.len, rK_wP, rm_wP, w1633]
  have M13 : Mk G0 (am_n2 (am_wP G12 334 22 548) 7 2) rK13 717 13193 rP13 rF := (M12.wP 22 548 (by decide)).n2 7 2 (by decide)
  have h13 : rK13[334]? = some (12, 49) := gap h12
  generalize am_n2 (am_wP G12 334 22 548) 7 2 = G13 at M13 ⊢
  simp +decide (disch := omega) only [↓wm1, wb149_137 hc, w0, w1, w2, w3, w4, w6, w7, w8, w9, w14, w16, w80, w96, w100, w160, w600, w720, rI_wI, rP_wI, rL_wI, rI_wR, rP_wR, is_wI, is_wR, ia_wI, ia_wR, ow_wI, ow_wR, wn_add, wn_mul, wn_cl, wn_le, wn_lt, wn_inj, wn_ne1, wn_1ne, wn_gt1, wn_le1, nb0, nb1, am_kt, am_rt, List.cons_append, List.nil_append, true_and, and_true, not_true_eq_false, not_false_eq_true, imp_f, imp_t, implies_true, Nat.zero_add, if_true, if_false, false_and, and_false, M13.is h13, M13.rm, M13.len, rK_wP, rm_wP, w1633]
  have M14 : Mk G0 (am_n2 (am_wP G13 334 23 709) 7 2) rK14 725 13214 rP14 rF := (M13.wP 23 709 (by decide)).n2 7 2 (by decide)
  have h14 : rK14[334]? = some (12, 49) := gap h13
  generalize am_n2 (am_wP G13 334 23 709) 7 2 = G14 at M14 ⊢
  simp +decide (disch := omega) only [↓wm1, wb149_148 hc, w0, w1, w2, w3, w4, w6, w7, w8, w9, w14, w16, w80, w96, w100, w160, w600, w720, rI_wI, rP_wI, rL_wI, rI_wR, rP_wR, is_wI, is_wR, ia_wI, ia_wR, ow_wI, ow_wR, wn_add, wn_mul, wn_cl, wn_le, wn_lt, wn_inj, wn_ne1, wn_1ne, wn_gt1, wn_le1, nb0, nb1, am_kt, am_rt, List.cons_append, List.nil_append, true_and, and_true, not_true_eq_false, not_false_eq_true, imp_f, imp_t, implies_true, Nat.zero_add, if_true, if_false, false_and, and_false, M14.is h14, M14.rm, M14.len, rK_wP, rm_wP, w1633]
  have M15 : Mk G0 (am_nw (am_wP G14 334 24 717) 100 160) rK15 726 13374 rP15 rF := (M14.wP 24 717 (by decide)).nw 100 160 (by decide)
  have h15 : rK15[334]? = some (12, 49) := gap h14
  generalize am_nw (am_wP G14 334 24 717) 100 160 = G15 at M15 ⊢
  simp +decide (disch := omega) only [↓wm1, wb149_157 hc, w0, w1, w2, w3, w4, w6, w7, w8, w9, w14, w16, w80, w96, w100, w160, w600, w720, rI_wI, rP_wI, rL_wI, rI_wR, rP_wR, is_wI, is_wR, ia_wI, ia_wR, ow_wI, ow_wR, wn_add, wn_mul, wn_cl, wn_le, wn_lt, wn_inj, wn_ne1, wn_1ne, wn_gt1, wn_le1, nb0, nb1, am_kt, am_rt, List.cons_append, List.nil_append, true_and, and_true, not_true_eq_false, not_false_eq_true, imp_f, imp_t, implies_true, Nat.zero_add, if_true, if_false, false_and, and_false, M15.is h15, M15.rm, M15.len, rK_wP, rm_wP, w1633]
  have M16 : Mk G0 (am_nw (am_wP G15 334 25 725) 100 9) rK16 727 13383 rP16 rF := (M15.wP 25 725 (by decide)).nw 100 9 (by decide)
  have h16 : rK16[334]? = some (12, 49) := gap h15
  generalize am_nw (am_wP G15 334 25 725) 100 9 = G16 at M16 ⊢
  simp +decide (disch := omega) only [↓wm1, wb149_165 hc, w0, w1, w2, w3, w4, w6, w7, w8, w9, w14, w16, w80, w96, w100, w160, w600, w720, rI_wI, rP_wI, rL_wI, rI_wR, rP_wR, is_wI, is_wR, ia_wI, ia_wR, ow_wI, ow_wR, wn_add, wn_mul, wn_cl, wn_le, wn_lt, wn_inj, wn_ne1, wn_1ne, wn_gt1, wn_le1, nb0, nb1, am_kt, am_rt, List.cons_append, List.nil_append, true_and, and_true, not_true_eq_false, not_false_eq_true, imp_f, imp_t, implies_true, Nat.zero_add, if_true, if_false, false_and, and_false, M16.is h16, M16.rm, M16.len, rK_wP, rm_wP, w1633]
  have M17 : Mk G0 (am_n2 (am_wP G16 334 26 726) 80 3) rK17 808 13703 rP17 rF := (M16.wP 26 726 (by decide)).n2 80 3 (by decide)
  have h17 : rK17[334]? = some (12, 49) := gap h16
  generalize am_n2 (am_wP G16 334 26 726) 80 3 = G17 at M17 ⊢
  simp +decide (disch := omega) only [↓wm1, wb149_176 hc, w0, w1, w2, w3, w4, w6, w7, w8, w9, w14, w16, w80, w96, w100, w160, w600, w720, rI_wI, rP_wI, rL_wI, rI_wR, rP_wR, is_wI, is_wR, ia_wI, ia_wR, ow_wI, ow_wR, wn_add, wn_mul, wn_cl, wn_le, wn_lt, wn_inj, wn_ne1, wn_1ne, wn_gt1, wn_le1, nb0, nb1, am_kt, am_rt, List.cons_append, List.nil_append, true_and, and_true, not_true_eq_false, not_false_eq_true, imp_f, imp_t, implies_true, Nat.zero_add, if_true, if_false, false_and, and_false, M17.is h17, M17.rm, M17.len, rK_wP, rm_wP, w1633]
  have M18 : Mk G0 (am_nw (am_wP G17 334 27 727) 100 96) rK18 809 13799 rP18 rF := (M17.wP 27 727 (by decide)).nw 100 96 (by decide)
  have h18 : rK18[334]? = some (12, 49) := gap h17
  generalize am_nw (am_wP G17 334 27 727) 100 96 = G18 at M18 ⊢
  simp +decide (disch := omega) only [↓wm1, wb149_184 hc, w0, w1, w2, w3, w4, w6, w7, w8, w9, w14, w16, w80, w96, w100, w160, w600, w720, rI_wI, rP_wI, rL_wI, rI_wR, rP_wR, is_wI, is_wR, ia_wI, ia_wR, ow_wI, ow_wR, wn_add, wn_mul, wn_cl, wn_le, wn_lt, wn_inj, wn_ne1, wn_1ne, wn_gt1, wn_le1, nb0, nb1, am_kt, am_rt, List.cons_append, List.nil_append, true_and, and_true, not_true_eq_false, not_false_eq_true, imp_f, imp_t, implies_true, Nat.zero_add, if_true, if_false, false_and, and_false, M18.is h18, M18.rm, M18.len, rK_wP, rm_wP, w1633]
  have M19 : Mk G0 (am_nw (am_wP G18 334 29 808) 100 96) rK19 810 13895 rP19 rF := (M18.wP 29 808 (by decide)).nw 100 96 (by decide)
  have h19 : rK19[334]? = some (12, 49) := gap h18
  generalize am_nw (am_wP G18 334 29 808) 100 96 = G19 at M19 ⊢
  simp +decide (disch := omega) only [↓wm1, wb149_192 hc, w0, w1, w2, w3, w4, w6, w7, w8, w9, w14, w16, w80, w96, w100, w160, w600, w720, rI_wI, rP_wI, rL_wI, rI_wR, rP_wR, is_wI, is_wR, ia_wI, ia_wR, ow_wI, ow_wR, wn_add, wn_mul, wn_cl, wn_le, wn_lt, wn_inj, wn_ne1, wn_1ne, wn_gt1, wn_le1, nb0, nb1, am_kt, am_rt, List.cons_append, List.nil_append, true_and, and_true, not_true_eq_false, not_false_eq_true, imp_f, imp_t, implies_true, Nat.zero_add, if_true, if_false, false_and, and_false, M19.is h19, M19.rm, M19.len, rK_wP, rm_wP, w1633]
  have M20 : Mk G0 (am_n2 (am_wP G19 334 30 809) 16 96) rK20 827 15447 rP20 rF := (M19.wP 30 809 (by decide)).n2 16 96 (by decide)
  have h20 : rK20[334]? = some (12, 49) := gap h19
  generalize am_n2 (am_wP G19 334 30 809) 16 96 = G20 at M20 ⊢
  simp +decide (disch := omega) only [↓wm1, wb149_204 hc, w0, w1, w2, w3, w4, w6, w7, w8, w9, w14, w16, w80, w96, w100, w160, w600, w720, rI_wI, rP_wI, rL_wI, rI_wR, rP_wR, is_wI, is_wR, ia_wI, ia_wR, ow_wI, ow_wR, wn_add, wn_mul, wn_cl, wn_le, wn_lt, wn_inj, wn_ne1, wn_1ne, wn_gt1, wn_le1, nb0, nb1, am_kt, am_rt, List.cons_append, List.nil_append, true_and, and_true, not_true_eq_false, not_false_eq_true, imp_f, imp_t, implies_true, Nat.zero_add, if_true, if_false, false_and, and_false, M20.is h20, M20.rm, M20.len, rK_wP, rm_wP, w1633]
  have M21 : Mk G0 (am_n2 (am_wP G20 334 31 810) 3 1633) rK21 831 20349 rP21 rF := (M20.wP 31 810 (by decide)).n2 3 1633 (by decide)
  have h21 : rK21[334]? = some (12, 49) := gap h20
  generalize am_n2 (am_wP G20 334 31 810) 3 1633 = G21 at M21 ⊢
  simp +decide (disch := omega) only [↓wm1, wb149_216 hc, w0, w1, w2, w3, w4, w6, w7, w8, w9, w14, w16, w80, w96, w100, w160, w600, w720, rI_wI, rP_wI, rL_wI, rI_wR, rP_wR, is_wI, is_wR, ia_wI, ia_wR, ow_wI, ow_wR, wn_add, wn_mul, wn_cl, wn_le, wn_lt, wn_inj, wn_ne1, wn_1ne, wn_gt1, wn_le1, nb0, nb1, am_kt, am_rt, List.cons_append, List.nil_append, true_and, and_true, not_true_eq_false, not_false_eq_true, imp_f, imp_t, implies_true, Nat.zero_add, if_true, if_false, false_and, and_false, M21.is h21, M21.rm, M21.len, rK_wP, rm_wP, w1633]
  have M22 : Mk G0 (am_nw (am_wP G21 334 32 827) 100 6) rK22 832 20355 rP22 rF := (M21.wP 32 827 (by decide)).nw 100 6 (by decide)
  have h22 : rK22[334]? = some (12, 49) := gap h21
  generalize am_nw (am_wP G21 334 32 827) 100 6 = G22 at M22 ⊢
  simp +decide (disch := omega) only [↓wm1, wb149_224 hc, w0, w1, w2, w3, w4, w6, w7, w8, w9, w14, w16, w80, w96, w100, w160, w600, w720, rI_wI, rP_wI, rL_wI, rI_wR, rP_wR, is_wI, is_wR, ia_wI, ia_wR, ow_wI, ow_wR, wn_add, wn_mul, wn_cl, wn_le, wn_lt, wn_inj, wn_ne1, wn_1ne, wn_gt1, wn_le1, nb0, nb1, am_kt, am_rt, List.cons_append, List.nil_append, true_and, and_true, not_true_eq_false, not_false_eq_true, imp_f, imp_t, implies_true, Nat.zero_add, if_true, if_false, false_and, and_false, M22.is h22, M22.rm, M22.len, rK_wP, rm_wP, w1633]
  have M23 : Mk G0 (am_nw (am_wP G22 334 40 831) 100 6) rK23 833 20361 rP23 rF := (M22.wP 40 831 (by decide)).nw 100 6 (by decide)
  have h23 : rK23[334]? = some (12, 49) := gap h22
  generalize am_nw (am_wP G22 334 40 831) 100 6 = G23 at M23 ⊢
  simp +decide (disch := omega) only [↓wm1, wb149_232 hc, w0, w1, w2, w3, w4, w6, w7, w8, w9, w14, w16, w80, w96, w100, w160, w600, w720, rI_wI, rP_wI, rL_wI, rI_wR, rP_wR, is_wI, is_wR, ia_wI, ia_wR, ow_wI, ow_wR, wn_add, wn_mul, wn_cl, wn_le, wn_lt, wn_inj, wn_ne1, wn_1ne, wn_gt1, wn_le1, nb0, nb1, am_kt, am_rt, List.cons_append, List.nil_append, true_and, and_true, not_true_eq_false, not_false_eq_true, imp_f, imp_t, implies_true, Nat.zero_add, if_true, if_false, false_and, and_false, M23.is h23, M23.rm, M23.len, rK_wP, rm_wP, w1633]
  have M24 : Mk G0 (am_nw (am_wP G23 334 41 832) 100 100) rK24 834 20461 rP24 rF := (M23.wP 41 832 (by decide)).nw 100 100 (by decide)
  have h24 : rK24[334]? = some (12, 49) := gap h23
  generalize am_nw (am_wP G23 334 41 832) 100 100 = G24 at M24 ⊢
  simp +decide (disch := omega) only [↓wm1, wb149_240 hc, w0, w1, w2, w3, w4, w6, w7, w8, w9, w14, w16, w80, w96, w100, w160, w600, w720, rI_wI, rP_wI, rL_wI, rI_wR, rP_wR, is_wI, is_wR, ia_wI, ia_wR, ow_wI, ow_wR, wn_add, wn_mul, wn_cl, wn_le, wn_lt, wn_inj, wn_ne1, wn_1ne, wn_gt1, wn_le1, nb0, nb1, am_kt, am_rt, List.cons_append, List.nil_append, true_and, and_true, not_true_eq_false, not_false_eq_true, imp_f, imp_t, implies_true, Nat.zero_add, if_true, if_false, false_and, and_false, M24.is h24, M24.rm, M24.len, rK_wP, rm_wP, w1633]
  have M25 : Mk G0 (am_nw (am_wP G24 334 43 833) 100 6) rK25 835 20467 rP25 rF := (M24.wP 43 833 (by decide)).nw 100 6 (by decide)
  have h25 : rK25[334]? = some (12, 49) := gap h24
  generalize am_nw (am_wP G24 334 43 833) 100 6 = G25 at M25 ⊢
  simp +decide (disch := omega) only [↓wm1, wb149_248 hc, w0, w1, w2, w3, w4, w6, w7, w8, w9, w14, w16, w80, w96, w100, w160, w600, w720, rI_wI, rP_wI, rL_wI, rI_wR, rP_wR, is_wI, is_wR, ia_wI, ia_wR, ow_wI, ow_wR, wn_add, wn_mul, wn_cl, wn_le, wn_lt, wn_inj, wn_ne1, wn_1ne, wn_gt1, wn_le1, nb0, nb1, am_kt, am_rt, List.cons_append, List.nil_append, true_and, and_true, not_true_eq_false, not_false_eq_true, imp_f, imp_t, implies_true, Nat.zero_add, if_true, if_false, false_and, and_false, M25.is h25, M25.rm, M25.len, rK_wP, rm_wP, w1633]
  have M26 : Mk G0 (am_nw (am_wP G25 334 44 834) 100 6) rK26 836 20473 rP26 rF := (M25.wP 44 834 (by decide)).nw 100 6 (by decide)
  have h26 : rK26[334]? = some (12, 49) := gap h25
  generalize am_nw (am_wP G25 334 44 834) 100 6 = G26 at M26 ⊢
  simp +decide (disch := omega) only [↓wm1, wb149_256 hc, w0, w1, w2, w3, w4, w6, w7, w8, w9, w14, w16, w80, w96, w100, w160, w600, w720, rI_wI, rP_wI, rL_wI, rI_wR, rP_wR, is_wI, is_wR, ia_wI, ia_wR, ow_wI, ow_wR, wn_add, wn_mul, wn_cl, wn_le, wn_lt, wn_inj, wn_ne1, wn_1ne, wn_gt1, wn_le1, nb0, nb1, am_kt, am_rt, List.cons_append, List.nil_append, true_and, and_true, not_true_eq_false, not_false_eq_true, imp_f, imp_t, implies_true, Nat.zero_add, if_true, if_false, false_and, and_false, M26.is h26, M26.rm, M26.len, rK_wP, rm_wP, w1633]
  have M27 : Mk G0 (am_nw (am_wP G26 334 45 835) 100 720) rK27 837 21193 rP27 rF := (M26.wP 45 835 (by decide)).nw 100 720 (by decide)
  have h27 : rK27[334]? = some (12, 49) := gap h26
  generalize am_nw (am_wP G26 334 45 835) 100 720 = G27 at M27 ⊢
  simp +decide (disch := omega) only [↓wm1, wb149_265 hc, w0, w1, w2, w3, w4, w6, w7, w8, w9, w14, w16, w80, w96, w100, w160, w600, w720, rI_wI, rP_wI, rL_wI, rI_wR, rP_wR, is_wI, is_wR, ia_wI, ia_wR, ow_wI, ow_wR, wn_add, wn_mul, wn_cl, wn_le, wn_lt, wn_inj, wn_ne1, wn_1ne, wn_gt1, wn_le1, nb0, nb1, am_kt, am_rt, List.cons_append, List.nil_append, true_and, and_true, not_true_eq_false, not_false_eq_true, imp_f, imp_t, implies_true, Nat.zero_add, if_true, if_false, false_and, and_false, M27.is h27, M27.rm, M27.len, rK_wP, rm_wP, w1633]
  have M28 : Mk G0 (am_nw (am_wP G27 334 46 836) 101 14) rK28 838 21207 rP28 rF := (M27.wP 46 836 (by decide)).nw 101 14 (by decide)
  have h28 : rK28[334]? = some (12, 49) := gap h27
  generalize am_nw (am_wP G27 334 46 836) 101 14 = G28 at M28 ⊢
  have Ml : Mk G0 (am_wP G28 334 47 837) rKL 838 21207 rPL rF := M28.wP 47 837 (by decide)
  have il := Ml.is h28
  simp +decide (disch := omega) only [↓wm1, wb149_273 hc, w0, w1, w2, w3, w4, w6, w7, w8, w9, w14, w16, w80, w96, w100, w160, w600, w720, rI_wI, rP_wI, rL_wI, rI_wR, rP_wR, is_wI, is_wR, ia_wI, ia_wR, ow_wI, ow_wR, wn_add, wn_mul, wn_cl, wn_le, wn_lt, wn_inj, wn_ne1, wn_1ne, wn_gt1, wn_le1, nb0, nb1, am_kt, am_rt, List.cons_append, List.nil_append, true_and, and_true, not_true_eq_false, not_false_eq_true, imp_f, imp_t, implies_true, Nat.zero_add, if_true, if_false, false_and, and_false, M28.is h28, il]
  generalize am_wP G28 334 47 837 = Gm at Ml ⊢
  refine ct150c Ml hz (fun Gn Mn => ?_)
  simp +decide (disch := omega) only [↓wm1, wb149_280 hc, w0, w1, w2, w3, w4, w6, w7, w8, w9, w14, w16, w80, w96, w100, w160, w600, w720, rI_wI, rP_wI, rL_wI, rI_wR, rP_wR, is_wI, is_wR, ia_wI, ia_wR, ow_wI, ow_wR, wn_add, wn_mul, wn_cl, wn_le, wn_lt, wn_inj, wn_ne1, wn_1ne, wn_gt1, wn_le1, nb0, nb1, am_kt, am_rt, List.cons_append, List.nil_append, true_and, and_true, not_true_eq_false, not_false_eq_true, imp_f, imp_t, implies_true, Nat.zero_add, if_true, if_false, false_and, and_false, Mn.is h28]
  refine ct179c Mn hz (fun Go Mo => ?_)
  simp +decide (disch := omega) only [↓wm1, wb149_284 hc, w0, w1, w2, w3, w4, w6, w7, w8, w9, w14, w16, w80, w96, w100, w160, w600, w720, rI_wI, rP_wI, rL_wI, rI_wR, rP_wR, is_wI, is_wR, ia_wI, ia_wR, ow_wI, ow_wR, wn_add, wn_mul, wn_cl, wn_le, wn_lt, wn_inj, wn_ne1, wn_1ne, wn_gt1, wn_le1, nb0, nb1, am_kt, am_rt, List.cons_append, List.nil_append, true_and, and_true, not_true_eq_false, not_false_eq_true, imp_f, imp_t, implies_true, Nat.zero_add, if_true, if_false, false_and, and_false]
  exact kk _ Mo
end
