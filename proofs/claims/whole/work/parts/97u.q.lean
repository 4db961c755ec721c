/-! The object's constructor, whole (gen97s.py). -/
def cF0 : Nat → Nat → Int32 := fun _ _ => 0
def cF1 : Nat → Nat → Int32 := fun b j => if b = 1 ∧ j = 7 then mm else cF0 b j
def cF2 : Nat → Nat → Int32 := cmF cF1 20 21
def cF3 : Nat → Nat → Int32 := flF cF2 107 7 mm
def cF4 : Nat → Nat → Int32 := flF cF3 111 873 mm
def cK0 : List (Nat × Nat) := [(11, 14)]
def cK1 : List (Nat × Nat) := cK0 ++ [(8, 8)]
def cK2 : List (Nat × Nat) := cK1 ++ [(105, 600)]
def cK3 : List (Nat × Nat) := cK2 ++ [(9, 5)]
def cP1 : List (Nat × Nat × Nat) := [(1, 0, 2)]
def cP2 : List (Nat × Nat × Nat) := (0, 0, 1) :: cP1
def tK1 : List (Nat × Nat) := K9 (cK3 ++ [(2, 11)])
def tK2 : List (Nat × Nat) := K9 (tK1 ++ [(2, 11)])
def tK3 : List (Nat × Nat) := K22 (tK2 ++ [(4, 3)])
def tK4 : List (Nat × Nat) := K22 (tK3 ++ [(4, 3)])
def tK5 : List (Nat × Nat) := tK4 ++ [(100, 9)]
def tP1 : List (Nat × Nat × Nat) := (3, 0, 4) :: P9 4 5 cP2
def tP2 : List (Nat × Nat × Nat) := (3, 1, 12) :: P9 12 13 tP1
def tP3 : List (Nat × Nat × Nat) := (3, 2, 20) :: P22 20 21 tP2
def tP4 : List (Nat × Nat × Nat) := (3, 3, 23) :: P22 23 24 tP3
def tP5 : List (Nat × Nat × Nat) := (3, 4, 26) :: tP4
def mK1 : List (Nat × Nat) := (((tK5 ++ [(10, 7)]) ++ [(100, 150)]) ++ [(100, 150)]) ++ [(100, 150)]
def mP1 : List (Nat × Nat × Nat) := (27, 2, 30) :: (27, 1, 29) :: (27, 0, 28) :: (0, 1, 3) :: tP5
def mK2 : List (Nat × Nat) := dyK (mK1 ++ [(1, 3)]) 16
def mP2 : List (Nat × Nat × Nat) := dyP 31 32 ((0, 2, 27) :: mP1) 16
def mK3 : List (Nat × Nat) := mK2 ++ [(103, 3)]
def mP3 : List (Nat × Nat × Nat) := (0, 3, 31) :: mP2
def mK4 : List (Nat × Nat) := K45 (mK3 ++ [(7, 7)])
def mP4 : List (Nat × Nat × Nat) := P45 102 103 ((0, 4, 101) :: mP3)
def mK5 : List (Nat × Nat) := (((mK4 ++ [(3, 8)]) ++ [(100, 7)]) ++ [(100, 7)]) ++ [(100, 700)]
def mP5 : List (Nat × Nat × Nat) := (106, 7, 109) :: (106, 2, 108) :: (106, 1, 107) :: (0, 9, 102) :: mP4
def mK6 : List (Nat × Nat) := ((((mK5 ++ [(6, 4)]) ++ [(100, 873)]) ++ [(100, 720)]) ++ [(100, 6)]) ++ [(100, 6)]
def mP6 : List (Nat × Nat × Nat) := (110, 3, 114) :: (110, 2, 113) :: (110, 1, 112) :: (110, 0, 111) :: (0, 10, 106) :: mP5
def mK7 : List (Nat × Nat) := K31 (mK6 ++ [(5, 3)])
def mP7 : List (Nat × Nat × Nat) := P31 115 116 ((0, 11, 110) :: mP6)
def mK8 : List (Nat × Nat) := K45 ((mK7 ++ [(0, 3)]) ++ [(7, 7)])
def mP8 : List (Nat × Nat × Nat) := (119, 0, 120) :: P45 120 121 ((0, 12, 115) :: mP7)
def mP9 : List (Nat × Nat × Nat) := (0, 13, 119) :: mP8
def iK (i : Nat) : List (Nat × Nat) := match i with
  | 0 => mK8
  | i + 1 => dyK (iK i ++ [(1, 3)]) 16
def iP (i : Nat) : List (Nat × Nat × Nat) := match i with
  | 0 => mP9
  | i + 1 => (101, i, 124 + 70 * i) :: dyP (124 + 70 * i) (125 + 70 * i) (iP i) 16
section
variable {G0 G : am_G}
theorem ct79c {d : Nat} {post : am_O → am_G → Prop} (M : Mk G0 G cK3 4 627 cP2 cF1) (kk : ∀ G', Mk G0 G' tK5 27 1364 tP5 cF2 → post (.inl none) G') : am_C am_T (d + 3) 79 [.ref 3] G post := by
  have hc := am_C_one am_T (d + 2)
  have h0 : cK3[3]? = some (9, 5) := by decide +kernel
  have h1 : tK1[3]? = some (9, 5) := by decide +kernel
  have h2 : tK2[3]? = some (9, 5) := by decide +kernel
  have h3 : tK3[3]? = some (9, 5) := by decide +kernel
  have h4 : tK4[3]? = some (9, 5) := by decide +kernel
  have h5 : tK5[3]? = some (9, 5) := by decide +kernel
  rw [we79]
  simp +decide (disch := omega) only [↓wm1, wb79_0 hc, w0, w1, w9, rI_wI, rP_wI, rL_wI, rI_wR, rP_wR, is_wI, is_wR, ia_wI, ia_wR, ow_wI, ow_wR, wn_add, wn_mul, wn_cl, wn_le, wn_lt, wn_inj, wn_ne1, wn_1ne, wn_gt1, wn_le1, nb0, nb1, am_kt, am_rt, List.cons_append, List.nil_append, true_and, and_true, not_true_eq_false, not_false_eq_true, imp_f, imp_t, implies_true, Nat.zero_add, if_true, if_false, false_and, and_false, M.rm, M.len]
  have M1 : Mk G0 (am_nw G 2 11) (cK3 ++ [(2, 11)]) 5 638 cP2 cF1 := M.nw 2 11 (by decide)
  refine ct9c M1 (gnew M.2.1) (by decide) (by decide) (fun G2 M2 => ?_)
  have M2 : Mk G0 G2 tK1 12 688 (P9 4 5 cP2) cF1 := M2
  simp +decide (disch := omega) only [↓wm1, wb79_12 hc, w0, w1, w9, rI_wI, rP_wI, rL_wI, rI_wR, rP_wR, is_wI, is_wR, ia_wI, ia_wR, ow_wI, ow_wR, wn_add, wn_mul, wn_cl, wn_le, wn_lt, wn_inj, wn_ne1, wn_1ne, wn_gt1, wn_le1, nb0, nb1, am_kt, am_rt, List.cons_append, List.nil_append, true_and, and_true, not_true_eq_false, not_false_eq_true, imp_f, imp_t, implies_true, Nat.zero_add, if_true, if_false, false_and, and_false, M2.is h1, M2.rm, M2.len, rK_wP, rm_wP]
  have M3 : Mk G0 (am_nw (am_wP G2 3 0 4) 2 11) (tK1 ++ [(2, 11)]) 13 699 tP1 cF1 := (M2.wP 0 4 (by decide)).nw 2 11 (by decide)
  refine ct9c M3 (gnew M2.2.1) (by decide) (by decide) (fun G4 M4 => ?_)
  have M4 : Mk G0 G4 tK2 20 749 (P9 12 13 tP1) cF1 := M4
  simp +decide (disch := omega) only [↓wm1, wb79_23 hc, w0, w1, w9, rI_wI, rP_wI, rL_wI, rI_wR, rP_wR, is_wI, is_wR, ia_wI, ia_wR, ow_wI, ow_wR, wn_add, wn_mul, wn_cl, wn_le, wn_lt, wn_inj, wn_ne1, wn_1ne, wn_gt1, wn_le1, nb0, nb1, am_kt, am_rt, List.cons_append, List.nil_append, true_and, and_true, not_true_eq_false, not_false_eq_true, imp_f, imp_t, implies_true, Nat.zero_add, if_true, if_false, false_and, and_false, M4.is h2, M4.rm, M4.len, rK_wP, rm_wP]
  have M5 : Mk G0 (am_nw (am_wP G4 3 1 12) 4 3) (tK2 ++ [(4, 3)]) 21 752 tP2 cF1 := (M4.wP 1 12 (by decide)).nw 4 3 (by decide)
  refine ct22c M5 (gnew M4.2.1) (by decide) (by decide) (fun G6 M6 => ?_)
  have M6 : Mk G0 G6 tK3 23 1052 (P22 20 21 tP2) cF1 := M6
  simp +decide (disch := omega) only [↓wm1, wb79_34 hc, w0, w1, w9, rI_wI, rP_wI, rL_wI, rI_wR, rP_wR, is_wI, is_wR, ia_wI, ia_wR, ow_wI, ow_wR, wn_add, wn_mul, wn_cl, wn_le, wn_lt, wn_inj, wn_ne1, wn_1ne, wn_gt1, wn_le1, nb0, nb1, am_kt, am_rt, List.cons_append, List.nil_append, true_and, and_true, not_true_eq_false, not_false_eq_true, imp_f, imp_t, implies_true, Nat.zero_add, if_true, if_false, false_and, and_false, M6.is h3, M6.rm, M6.len, rK_wP, rm_wP]
  have M7 : Mk G0 (am_nw (am_wP G6 3 2 20) 4 3) (tK3 ++ [(4, 3)]) 24 1055 tP3 cF1 := (M6.wP 2 20 (by decide)).nw 4 3 (by decide)
  refine ct22c M7 (gnew M6.2.1) (by decide) (by decide) (fun G8 M8 => ?_)
  have M8 : Mk G0 G8 tK4 26 1355 (P22 23 24 tP3) cF1 := M8
  have M9 : Mk G0 (am_nw (am_wP G8 3 3 23) 100 9) tK5 27 1364 tP4 cF1 := (M8.wP 3 23 (by decide)).nw 100 9 (by decide)
  have Ma : Mk G0 (am_wP (am_nw (am_wP G8 3 3 23) 100 9) 3 4 26) tK5 27 1364 tP5 cF1 := M9.wP 4 26 (by decide)
  have i9 := M9.is h5
  have e2 : am_gP (am_wP (am_nw (am_wP G8 3 3 23) 100 9) 3 4 26) 3 2 = 20 := (Ma.gP (by decide) 2).trans (by decide +kernel)
  have k20 : tK5[20]? = some (4, 3) := by decide +kernel
  have k21 : tK5[21]? = some (100, 150) := by decide +kernel
  have ib := Ma.is k20
  simp +decide (disch := omega) only [↓wm1, wb79_45 hc, w0, w1, w9, rI_wI, rP_wI, rL_wI, rI_wR, rP_wR, is_wI, is_wR, ia_wI, ia_wR, ow_wI, ow_wR, wn_add, wn_mul, wn_cl, wn_le, wn_lt, wn_inj, wn_ne1, wn_1ne, wn_gt1, wn_le1, nb0, nb1, am_kt, am_rt, List.cons_append, List.nil_append, true_and, and_true, not_true_eq_false, not_false_eq_true, imp_f, imp_t, implies_true, Nat.zero_add, if_true, if_false, false_and, and_false, M8.is h4, M8.rm, M8.len, rK_wP, rm_wP, i9, is_wP, e2, M9.is k20]
  refine ct23c Ma k20 k21 (by decide +kernel) (by decide) (by decide) (fun Gb Mb => ?_)
  simp +decide (disch := omega) only [↓wm1, wb79_63 hc, w0, w1, w9, rI_wI, rP_wI, rL_wI, rI_wR, rP_wR, is_wI, is_wR, ia_wI, ia_wR, ow_wI, ow_wR, wn_add, wn_mul, wn_cl, wn_le, wn_lt, wn_inj, wn_ne1, wn_1ne, wn_gt1, wn_le1, nb0, nb1, am_kt, am_rt, List.cons_append, List.nil_append, true_and, and_true, not_true_eq_false, not_false_eq_true, imp_f, imp_t, implies_true, Nat.zero_add, if_true, if_false, false_and, and_false]
  exact kk _ Mb
theorem ct100c {d : Nat} {post : am_O → am_G → Prop} (M : Mk G0 G cK0 1 14 [] cF0) (kk : ∀ G', Mk G0 G' (iK 3) 334 11411 (iP 3) cF4 → post (.inl none) G') : am_C am_T (d + 4) 100 [.ref 0] G post := by
  have hc := am_C_one am_T (d + 3)
  have h2 : cK2[0]? = some (11, 14) := by decide +kernel
  have h5 : tK5[0]? = some (11, 14) := by decide +kernel
  have g1 : mK1[0]? = some (11, 14) := by decide +kernel
  have g2 : mK2[0]? = some (11, 14) := by decide +kernel
  have g3 : mK3[0]? = some (11, 14) := by decide +kernel
  have g4 : mK4[0]? = some (11, 14) := by decide +kernel
  have g5 : mK5[0]? = some (11, 14) := by decide +kernel
  have g6 : mK6[0]? = some (11, 14) := by decide +kernel
  have g7 : mK7[0]? = some (11, 14) := by decide +kernel
  have g8 : mK8[0]? = some (11, 14) := by decide +kernel
  rw [we100]
  simp +decide (disch := omega) only [↓wm1, wb100_0 hc, w0, w1, w3, rI_wI, rP_wI, rL_wI, rI_wR, rP_wR, is_wI, is_wR, ia_wI, ia_wR, ow_wI, ow_wR, wn_add, wn_mul, wn_cl, wn_le, wn_lt, wn_inj, wn_ne1, wn_1ne, wn_gt1, wn_le1, nb0, nb1, am_kt, am_rt, List.cons_append, List.nil_append, true_and, and_true, not_true_eq_false, not_false_eq_true, imp_f, imp_t, implies_true, Nat.zero_add, if_true, if_false, false_and, and_false, M.rm, M.len]
  have M1 : Mk G0 (am_nw G 8 8) cK1 2 22 [] cF0 := M.nw 8 8 (by decide)
  generalize am_nw G 8 8 = G1 at M1 ⊢
  simp +decide (disch := omega) only [↓wm1, wb100_8 hc, w0, w1, w3, rI_wI, rP_wI, rL_wI, rI_wR, rP_wR, is_wI, is_wR, ia_wI, ia_wR, ow_wI, ow_wR, wn_add, wn_mul, wn_cl, wn_le, wn_lt, wn_inj, wn_ne1, wn_1ne, wn_gt1, wn_le1, nb0, nb1, am_kt, am_rt, List.cons_append, List.nil_append, true_and, and_true, not_true_eq_false, not_false_eq_true, imp_f, imp_t, implies_true, Nat.zero_add, if_true, if_false, false_and, and_false]
  refine ct62c M1 (by decide +kernel) (by decide) (by decide) (fun G2 M2 => ?_)
  have M2 : Mk G0 G2 cK2 3 622 cP1 cF1 := M2
  simp +decide (disch := omega) only [↓wm1, wb100_12 hc, w0, w1, w3, rI_wI, rP_wI, rL_wI, rI_wR, rP_wR, is_wI, is_wR, ia_wI, ia_wR, ow_wI, ow_wR, wn_add, wn_mul, wn_cl, wn_le, wn_lt, wn_inj, wn_ne1, wn_1ne, wn_gt1, wn_le1, nb0, nb1, am_kt, am_rt, List.cons_append, List.nil_append, true_and, and_true, not_true_eq_false, not_false_eq_true, imp_f, imp_t, implies_true, Nat.zero_add, if_true, if_false, false_and, and_false, M2.is h2, M2.rm, M2.len, rK_wP, rm_wP]
  have M3 : Mk G0 (am_nw (am_wP G2 0 0 1) 9 5) cK3 4 627 cP2 cF1 := (M2.wP 0 1 (by decide)).nw 9 5 (by decide)
  generalize am_nw (am_wP G2 0 0 1) 9 5 = G3 at M3 ⊢
  simp +decide (disch := omega) only [↓wm1, wb100_19 hc, w0, w1, w3, rI_wI, rP_wI, rL_wI, rI_wR, rP_wR, is_wI, is_wR, ia_wI, ia_wR, ow_wI, ow_wR, wn_add, wn_mul, wn_cl, wn_le, wn_lt, wn_inj, wn_ne1, wn_1ne, wn_gt1, wn_le1, nb0, nb1, am_kt, am_rt, List.cons_append, List.nil_append, true_and, and_true, not_true_eq_false, not_false_eq_true, imp_f, imp_t, implies_true, Nat.zero_add, if_true, if_false, false_and, and_false]
  refine ct79c M3 (fun G4 M4 => ?_)
  simp +decide (disch := omega) only [↓wm1, wb100_23 hc, w0, w1, w3, rI_wI, rP_wI, rL_wI, rI_wR, rP_wR, is_wI, is_wR, ia_wI, ia_wR, ow_wI, ow_wR, wn_add, wn_mul, wn_cl, wn_le, wn_lt, wn_inj, wn_ne1, wn_1ne, wn_gt1, wn_le1, nb0, nb1, am_kt, am_rt, List.cons_append, List.nil_append, true_and, and_true, not_true_eq_false, not_false_eq_true, imp_f, imp_t, implies_true, Nat.zero_add, if_true, if_false, false_and, and_false, M4.is h5, M4.rm, M4.len, rK_wP, rm_wP]
  have M5 : Mk G0 (am_nw (am_wP G4 0 1 3) 10 7) (tK5 ++ [(10, 7)]) 28 1371 ((0, 1, 3) :: tP5) cF2 := (M4.wP 1 3 (by decide)).nw 10 7 (by decide)
  generalize am_nw (am_wP G4 0 1 3) 10 7 = G5 at M5 ⊢
  simp +decide (disch := omega) only [↓wm1, wb100_30 hc, w0, w1, w3, rI_wI, rP_wI, rL_wI, rI_wR, rP_wR, is_wI, is_wR, ia_wI, ia_wR, ow_wI, ow_wR, wn_add, wn_mul, wn_cl, wn_le, wn_lt, wn_inj, wn_ne1, wn_1ne, wn_gt1, wn_le1, nb0, nb1, am_kt, am_rt, List.cons_append, List.nil_append, true_and, and_true, not_true_eq_false, not_false_eq_true, imp_f, imp_t, implies_true, Nat.zero_add, if_true, if_false, false_and, and_false]
  refine ct93c M5 (gnew M4.2.1) (by decide) (by decide) (fun G6 M6 => ?_)
  have M6 : Mk G0 G6 mK1 31 1821 mP1 cF2 := M6
  simp +decide (disch := omega) only [↓wm1, wb100_34 hc, w0, w1, w3, rI_wI, rP_wI, rL_wI, rI_wR, rP_wR, is_wI, is_wR, ia_wI, ia_wR, ow_wI, ow_wR, wn_add, wn_mul, wn_cl, wn_le, wn_lt, wn_inj, wn_ne1, wn_1ne, wn_gt1, wn_le1, nb0, nb1, am_kt, am_rt, List.cons_append, List.nil_append, true_and, and_true, not_true_eq_false, not_false_eq_true, imp_f, imp_t, implies_true, Nat.zero_add, if_true, if_false, false_and, and_false, M6.is g1, M6.rm, M6.len, rK_wP, rm_wP]
  have M7 : Mk G0 (am_nw (am_wP G6 0 2 27) 1 3) (mK1 ++ [(1, 3)]) 32 1824 ((0, 2, 27) :: mP1) cF2 := (M6.wP 2 27 (by decide)).nw 1 3 (by decide)
  generalize am_nw (am_wP G6 0 2 27) 1 3 = G7 at M7 ⊢
  simp +decide (disch := omega) only [↓wm1, wb100_41 hc, w0, w1, w3, rI_wI, rP_wI, rL_wI, rI_wR, rP_wR, is_wI, is_wR, ia_wI, ia_wR, ow_wI, ow_wR, wn_add, wn_mul, wn_cl, wn_le, wn_lt, wn_inj, wn_ne1, wn_1ne, wn_gt1, wn_le1, nb0, nb1, am_kt, am_rt, List.cons_append, List.nil_append, true_and, and_true, not_true_eq_false, not_false_eq_true, imp_f, imp_t, implies_true, Nat.zero_add, if_true, if_false, false_and, and_false]
  refine ct4c M7 (gnew M6.2.1) (by decide) (by decide) (fun G8 M8 => ?_)
  have M8 : Mk G0 G8 mK2 101 3353 mP2 cF2 := M8
  simp +decide (disch := omega) only [↓wm1, wb100_45 hc, w0, w1, w3, rI_wI, rP_wI, rL_wI, rI_wR, rP_wR, is_wI, is_wR, ia_wI, ia_wR, ow_wI, ow_wR, wn_add, wn_mul, wn_cl, wn_le, wn_lt, wn_inj, wn_ne1, wn_1ne, wn_gt1, wn_le1, nb0, nb1, am_kt, am_rt, List.cons_append, List.nil_append, true_and, and_true, not_true_eq_false, not_false_eq_true, imp_f, imp_t, implies_true, Nat.zero_add, if_true, if_false, false_and, and_false, M8.is g2, M8.rm, M8.len, rK_wP, rm_wP]
  have M9 : Mk G0 (am_nw (am_wP G8 0 3 31) 103 3) mK3 102 3356 mP3 cF2 := (M8.wP 3 31 (by decide)).nw 103 3 (by decide)
  generalize am_nw (am_wP G8 0 3 31) 103 3 = G9 at M9 ⊢
  simp +decide (disch := omega) only [↓wm1, wb100_53 hc, w0, w1, w3, rI_wI, rP_wI, rL_wI, rI_wR, rP_wR, is_wI, is_wR, ia_wI, ia_wR, ow_wI, ow_wR, wn_add, wn_mul, wn_cl, wn_le, wn_lt, wn_inj, wn_ne1, wn_1ne, wn_gt1, wn_le1, nb0, nb1, am_kt, am_rt, List.cons_append, List.nil_append, true_and, and_true, not_true_eq_false, not_false_eq_true, imp_f, imp_t, implies_true, Nat.zero_add, if_true, if_false, false_and, and_false, M9.is g3, M9.rm, M9.len, rK_wP, rm_wP]
  have Ma : Mk G0 (am_nw (am_wP G9 0 4 101) 7 7) (mK3 ++ [(7, 7)]) 103 3363 ((0, 4, 101) :: mP3) cF2 := (M9.wP 4 101 (by decide)).nw 7 7 (by decide)
  generalize am_nw (am_wP G9 0 4 101) 7 7 = Ga at Ma ⊢
  simp +decide (disch := omega) only [↓wm1, wb100_60 hc, w0, w1, w3, rI_wI, rP_wI, rL_wI, rI_wR, rP_wR, is_wI, is_wR, ia_wI, ia_wR, ow_wI, ow_wR, wn_add, wn_mul, wn_cl, wn_le, wn_lt, wn_inj, wn_ne1, wn_1ne, wn_gt1, wn_le1, nb0, nb1, am_kt, am_rt, List.cons_append, List.nil_append, true_and, and_true, not_true_eq_false, not_false_eq_true, imp_f, imp_t, implies_true, Nat.zero_add, if_true, if_false, false_and, and_false]
  refine ct45c Ma (gnew M9.2.1) (by decide) (by decide) (fun Gb Mb => ?_)
  have Mb : Mk G0 Gb mK4 106 3445 mP4 cF2 := Mb
  simp +decide (disch := omega) only [↓wm1, wb100_64 hc, w0, w1, w3, rI_wI, rP_wI, rL_wI, rI_wR, rP_wR, is_wI, is_wR, ia_wI, ia_wR, ow_wI, ow_wR, wn_add, wn_mul, wn_cl, wn_le, wn_lt, wn_inj, wn_ne1, wn_1ne, wn_gt1, wn_le1, nb0, nb1, am_kt, am_rt, List.cons_append, List.nil_append, true_and, and_true, not_true_eq_false, not_false_eq_true, imp_f, imp_t, implies_true, Nat.zero_add, if_true, if_false, false_and, and_false, Mb.is g4, Mb.rm, Mb.len, rK_wP, rm_wP]
  have Mc : Mk G0 (am_nw (am_wP Gb 0 9 102) 3 8) (mK4 ++ [(3, 8)]) 107 3453 ((0, 9, 102) :: mP4) cF2 := (Mb.wP 9 102 (by decide)).nw 3 8 (by decide)
  generalize am_nw (am_wP Gb 0 9 102) 3 8 = Gc at Mc ⊢
  simp +decide (disch := omega) only [↓wm1, wb100_71 hc, w0, w1, w3, rI_wI, rP_wI, rL_wI, rI_wR, rP_wR, is_wI, is_wR, ia_wI, ia_wR, ow_wI, ow_wR, wn_add, wn_mul, wn_cl, wn_le, wn_lt, wn_inj, wn_ne1, wn_1ne, wn_gt1, wn_le1, nb0, nb1, am_kt, am_rt, List.cons_append, List.nil_append, true_and, and_true, not_true_eq_false, not_false_eq_true, imp_f, imp_t, implies_true, Nat.zero_add, if_true, if_false, false_and, and_false]
  refine ct15c Mc (gnew Mb.2.1) (by decide) (by decide) (fun Gd Md => ?_)
  have Md : Mk G0 Gd mK5 110 4167 mP5 cF3 := Md
  simp +decide (disch := omega) only [↓wm1, wb100_75 hc, w0, w1, w3, rI_wI, rP_wI, rL_wI, rI_wR, rP_wR, is_wI, is_wR, ia_wI, ia_wR, ow_wI, ow_wR, wn_add, wn_mul, wn_cl, wn_le, wn_lt, wn_inj, wn_ne1, wn_1ne, wn_gt1, wn_le1, nb0, nb1, am_kt, am_rt, List.cons_append, List.nil_append, true_and, and_true, not_true_eq_false, not_false_eq_true, imp_f, imp_t, implies_true, Nat.zero_add, if_true, if_false, false_and, and_false, Md.is g5, Md.rm, Md.len, rK_wP, rm_wP]
  have Me : Mk G0 (am_nw (am_wP Gd 0 10 106) 6 4) (mK5 ++ [(6, 4)]) 111 4171 ((0, 10, 106) :: mP5) cF3 := (Md.wP 10 106 (by decide)).nw 6 4 (by decide)
  generalize am_nw (am_wP Gd 0 10 106) 6 4 = Ge at Me ⊢
  simp +decide (disch := omega) only [↓wm1, wb100_82 hc, w0, w1, w3, rI_wI, rP_wI, rL_wI, rI_wR, rP_wR, is_wI, is_wR, ia_wI, ia_wR, ow_wI, ow_wR, wn_add, wn_mul, wn_cl, wn_le, wn_lt, wn_inj, wn_ne1, wn_1ne, wn_gt1, wn_le1, nb0, nb1, am_kt, am_rt, List.cons_append, List.nil_append, true_and, and_true, not_true_eq_false, not_false_eq_true, imp_f, imp_t, implies_true, Nat.zero_add, if_true, if_false, false_and, and_false]
  refine ct36c Me (gnew Md.2.1) (by decide) (by decide) (fun Gf Mf => ?_)
  have Mf : Mk G0 Gf mK6 115 5776 mP6 cF4 := Mf
  simp +decide (disch := omega) only [↓wm1, wb100_86 hc, w0, w1, w3, rI_wI, rP_wI, rL_wI, rI_wR, rP_wR, is_wI, is_wR, ia_wI, ia_wR, ow_wI, ow_wR, wn_add, wn_mul, wn_cl, wn_le, wn_lt, wn_inj, wn_ne1, wn_1ne, wn_gt1, wn_le1, nb0, nb1, am_kt, am_rt, List.cons_append, List.nil_append, true_and, and_true, not_true_eq_false, not_false_eq_true, imp_f, imp_t, implies_true, Nat.zero_add, if_true, if_false, false_and, and_false, Mf.is g6, Mf.rm, Mf.len, rK_wP, rm_wP]
  have Mg : Mk G0 (am_nw (am_wP Gf 0 11 110) 5 3) (mK6 ++ [(5, 3)]) 116 5779 ((0, 11, 110) :: mP6) cF4 := (Mf.wP 11 110 (by decide)).nw 5 3 (by decide)
  generalize am_nw (am_wP Gf 0 11 110) 5 3 = Gg at Mg ⊢
  simp +decide (disch := omega) only [↓wm1, wb100_93 hc, w0, w1, w3, rI_wI, rP_wI, rL_wI, rI_wR, rP_wR, is_wI, is_wR, ia_wI, ia_wR, ow_wI, ow_wR, wn_add, wn_mul, wn_cl, wn_le, wn_lt, wn_inj, wn_ne1, wn_1ne, wn_gt1, wn_le1, nb0, nb1, am_kt, am_rt, List.cons_append, List.nil_append, true_and, and_true, not_true_eq_false, not_false_eq_true, imp_f, imp_t, implies_true, Nat.zero_add, if_true, if_false, false_and, and_false]
  refine ct31c Mg (gnew Mf.2.1) (by decide) (by decide) (fun Gh Mh => ?_)
  have Mh : Mk G0 Gh mK7 119 6723 mP7 cF4 := Mh
  simp +decide (disch := omega) only [↓wm1, wb100_97 hc, w0, w1, w3, rI_wI, rP_wI, rL_wI, rI_wR, rP_wR, is_wI, is_wR, ia_wI, ia_wR, ow_wI, ow_wR, wn_add, wn_mul, wn_cl, wn_le, wn_lt, wn_inj, wn_ne1, wn_1ne, wn_gt1, wn_le1, nb0, nb1, am_kt, am_rt, List.cons_append, List.nil_append, true_and, and_true, not_true_eq_false, not_false_eq_true, imp_f, imp_t, implies_true, Nat.zero_add, if_true, if_false, false_and, and_false, Mh.is g7, Mh.rm, Mh.len, rK_wP, rm_wP]
  have Mi : Mk G0 (am_nw (am_wP Gh 0 12 115) 0 3) (mK7 ++ [(0, 3)]) 120 6726 ((0, 12, 115) :: mP7) cF4 := (Mh.wP 12 115 (by decide)).nw 0 3 (by decide)
  generalize am_nw (am_wP Gh 0 12 115) 0 3 = Gi at Mi ⊢
  simp +decide (disch := omega) only [↓wm1, wb100_104 hc, w0, w1, w3, rI_wI, rP_wI, rL_wI, rI_wR, rP_wR, is_wI, is_wR, ia_wI, ia_wR, ow_wI, ow_wR, wn_add, wn_mul, wn_cl, wn_le, wn_lt, wn_inj, wn_ne1, wn_1ne, wn_gt1, wn_le1, nb0, nb1, am_kt, am_rt, List.cons_append, List.nil_append, true_and, and_true, not_true_eq_false, not_false_eq_true, imp_f, imp_t, implies_true, Nat.zero_add, if_true, if_false, false_and, and_false]
  refine ct0c Mi (gnew Mh.2.1) (by decide) (by decide) (fun Gj Mj => ?_)
  have Mj : Mk G0 Gj mK8 124 6815 mP8 cF4 := Mj
  simp +decide (disch := omega) only [↓wm1, wb100_108 hc, w0, w1, w3, rI_wI, rP_wI, rL_wI, rI_wR, rP_wR, is_wI, is_wR, ia_wI, ia_wR, ow_wI, ow_wR, wn_add, wn_mul, wn_cl, wn_le, wn_lt, wn_inj, wn_ne1, wn_1ne, wn_gt1, wn_le1, nb0, nb1, am_kt, am_rt, List.cons_append, List.nil_append, true_and, and_true, not_true_eq_false, not_false_eq_true, imp_f, imp_t, implies_true, Nat.zero_add, if_true, if_false, false_and, and_false, Mj.is g8]
  have Ml : Mk G0 (am_wP Gj 0 13 119) (iK 0) 124 6815 (iP 0) cF4 := Mj.wP 13 119 (by decide)
  have gi : ∀ i, (iK i)[0]? = some (11, 14) := by
    intro i
    induction i with
    | zero => exact g8
    | succ i ih => exact dyK_g (gap ih) 16
  have g101 : ∀ i, (iK i)[101]? = some (103, 3) := by
    intro i
    induction i with
    | zero => decide +kernel
    | succ i ih => exact dyK_g (gap ih) 16
  have ip : ∀ i, i < 3 → lkp (iP i) 0 4 = 101 := by decide +kernel
  refine am_for 3 (fun i ls G' => Mk G0 G' (iK i) (124 + 70 * i) (6815 + 1532 * i) (iP i) cF4 ∧ ls = [some (.ref 0), some (.int (wn i))]) ?_ ?_ 3 0 rfl _ _ ⟨Ml, rfl⟩
  · rintro i hi _ G5 ⟨M5, rfl⟩ nx
    have c1 : ¬ 3 ≤ i := by omega
    have eP : am_gP G5 0 4 = 101 := (M5.gP (by omega) 4).trans (ip i hi)
    have n5 : 124 + 70 * i < 90000 := by omega
    have M6 := M5.nw 1 3 n5
    rw [wb100_113 hc]
    simp +decide (disch := omega) only [↓wm1, wb100_118 hc, w0, w1, w3, rI_wI, rP_wI, rL_wI, rI_wR, rP_wR, is_wI, is_wR, ia_wI, ia_wR, ow_wI, ow_wR, wn_add, wn_mul, wn_cl, wn_le, wn_lt, wn_inj, wn_ne1, wn_1ne, wn_gt1, wn_le1, nb0, nb1, am_kt, am_rt, List.cons_append, List.nil_append, true_and, and_true, not_true_eq_false, not_false_eq_true, imp_f, imp_t, implies_true, Nat.zero_add, if_true, if_false, false_and, and_false, c1, M5.is (gi i), eP, M5.rm, M5.len]
    generalize am_nw G5 1 3 = G6 at M6 ⊢
    simp +decide (disch := omega) only [↓wm1, wb100_126 hc, w0, w1, w3, rI_wI, rP_wI, rL_wI, rI_wR, rP_wR, is_wI, is_wR, ia_wI, ia_wR, ow_wI, ow_wR, wn_add, wn_mul, wn_cl, wn_le, wn_lt, wn_inj, wn_ne1, wn_1ne, wn_gt1, wn_le1, nb0, nb1, am_kt, am_rt, List.cons_append, List.nil_append, true_and, and_true, not_true_eq_false, not_false_eq_true, imp_f, imp_t, implies_true, Nat.zero_add, if_true, if_false, false_and, and_false, n5]
    refine ct4c M6 (gnew M5.2.1) (by omega) (by omega) (fun G7 M7 => ?_)
    have aa : am_aa G7 101 (wn i) (124 + 70 * i) := Or.inl ⟨M7.ow (dyK_g (gap (g101 i)) 16) (by decide) i hi, M7.is (dyK_g (gnew M5.2.1) 16)⟩
    simp +decide (disch := omega) only [↓wm1, wb100_130 hc, w0, w1, w3, rI_wI, rP_wI, rL_wI, rI_wR, rP_wR, is_wI, is_wR, ia_wI, ia_wR, ow_wI, ow_wR, wn_add, wn_mul, wn_cl, wn_le, wn_lt, wn_inj, wn_ne1, wn_1ne, wn_gt1, wn_le1, nb0, nb1, am_kt, am_rt, List.cons_append, List.nil_append, true_and, and_true, not_true_eq_false, not_false_eq_true, imp_f, imp_t, implies_true, Nat.zero_add, if_true, if_false, false_and, and_false, aa]
    refine nx _ _ ⟨?_, rfl⟩
    have M8 := M7.wP (a := 101) i (124 + 70 * i) (by omega)
    have e1 : 124 + 70 * i + 1 + 69 = 124 + 70 * (i + 1) := by omega
    have e2 : 6815 + 1532 * i + 3 + 1529 = 6815 + 1532 * (i + 1) := by omega
    have e3 : 124 + 70 * i + 1 = 125 + 70 * i := by omega
    rw [e1, e2, e3] at M8
    exact M8
  · rintro _ G5 ⟨M5, rfl⟩
    rw [wb100_113 hc]
    simp +decide (disch := omega) only [↓wm1, wb100_137 hc, w0, w1, w3, rI_wI, rP_wI, rL_wI, rI_wR, rP_wR, is_wI, is_wR, ia_wI, ia_wR, ow_wI, ow_wR, wn_add, wn_mul, wn_cl, wn_le, wn_lt, wn_inj, wn_ne1, wn_1ne, wn_gt1, wn_le1, nb0, nb1, am_kt, am_rt, List.cons_append, List.nil_append, true_and, and_true, not_true_eq_false, not_false_eq_true, imp_f, imp_t, implies_true, Nat.zero_add, if_true, if_false, false_and, and_false, Nat.le_refl]
    exact kk _ M5
end
