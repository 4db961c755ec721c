/-! The constructors of the object (gen97s.py). -/
theorem K45g {k : List (Nat × Nat)} {a : Nat} {x : Nat × Nat} (h : k[a]? = some x) : (K45 k)[a]? = some x := gap (gap (gap h))
section
variable {G0 G : am_G} {k : List (Nat × Nat)} {N u : Nat} {P : List (Nat × Nat × Nat)} {f : Nat → Nat → Int32}
theorem ct62c {d a : Nat} {post : am_O → am_G → Prop} (M : Mk G0 G k N u P f) (ha : k[a]? = some (8, 8)) (hN : N ≤ 80000) (hu : u ≤ 7000000) (kk : ∀ G', Mk G0 G' (k ++ [(105, 600)]) (N + 1) (u + 600) ((a, 0, N) :: P) (fun b j => if b = a ∧ j = 7 then mm else f b j) → post (.inl none) G') : am_C am_T (d + 1) 62 [.ref a] G post := by
  have hc := am_C_one am_T d
  have aN := M.lt ha
  have a9 : a < 90000 := by omega
  have n0 : N < 90000 := by omega
  have M1 := M.nw 105 600 n0
  have i1 := M1.is (gap ha)
  have M3 := (M1.wP (a := a) 0 N (by omega)).wI (a := a) 7 mm (by omega) (by omega)
  rw [we62]
  simp +decide (disch := omega) only [↓wm1, wb62_0 hc, w0, w1, w600, rI_wI, rP_wI, rL_wI, rI_wR, rP_wR, is_wI, is_wR, ia_wI, ia_wR, ow_wI, ow_wR, wn_add, wn_mul, wn_cl, wn_le, wn_lt, wn_inj, wn_ne1, wn_1ne, wn_gt1, wn_le1, nb0, nb1, am_kt, am_rt, List.cons_append, List.nil_append, true_and, and_true, not_true_eq_false, not_false_eq_true, imp_f, imp_t, implies_true, Nat.zero_add, if_true, if_false, false_and, and_false, a9, n0, M.rm, M.len, i1, is_wP]
  exact kk _ M3
theorem ct93c {d a : Nat} {post : am_O → am_G → Prop} (M : Mk G0 G k N u P f) (ha : k[a]? = some (10, 7)) (hN : N ≤ 80000) (hu : u ≤ 7000000) (kk : ∀ G', Mk G0 G' (((k ++ [(100, 150)]) ++ [(100, 150)]) ++ [(100, 150)]) (N + 3) (u + 450) ((a, 2, N + 2) :: (a, 1, N + 1) :: (a, 0, N) :: P) f → post (.inl none) G') : am_C am_T (d + 1) 93 [.ref a] G post := by
  have hc := am_C_one am_T d
  have aN := M.lt ha
  have a9 : a < 90000 := by omega
  have n0 : N < 90000 := by omega
  have n1 : N + 1 < 90000 := by omega
  have n2 : N + 2 < 90000 := by omega
  have M1 : Mk G0 (am_nw G 100 150) (k ++ [(100, 150)]) (N + 1) (u + 150) P f := M.nw 100 150 n0
  have M2 : Mk G0 (am_nw (am_wP (am_nw G 100 150) a 0 N) 100 150) ((k ++ [(100, 150)]) ++ [(100, 150)]) (N + 2) (u + 300) ((a, 0, N) :: P) f := (M1.wP (a := a) 0 N (by omega)).nw 100 150 n1
  have M3 : Mk G0 (am_nw (am_wP (am_nw (am_wP (am_nw G 100 150) a 0 N) 100 150) a 1 (N + 1)) 100 150) (((k ++ [(100, 150)]) ++ [(100, 150)]) ++ [(100, 150)]) (N + 3) (u + 450) ((a, 1, N + 1) :: (a, 0, N) :: P) f := (M2.wP (a := a) 1 (N + 1) (by omega)).nw 100 150 n2
  have i1 := M1.is (gap ha)
  have i2 := M2.is (gap (gap ha))
  have i3 := M3.is (gap (gap (gap ha)))
  rw [we93]
  simp +decide (disch := omega) only [↓wm1, wb93_0 hc, w0, w1, w150, rI_wI, rP_wI, rL_wI, rI_wR, rP_wR, is_wI, is_wR, ia_wI, ia_wR, ow_wI, ow_wR, wn_add, wn_mul, wn_cl, wn_le, wn_lt, wn_inj, wn_ne1, wn_1ne, wn_gt1, wn_le1, nb0, nb1, am_kt, am_rt, List.cons_append, List.nil_append, true_and, and_true, not_true_eq_false, not_false_eq_true, imp_f, imp_t, implies_true, Nat.zero_add, if_true, if_false, false_and, and_false, a9, n0, n1, n2, M.rm, M.len, M1.rm, M1.len, M2.rm, M2.len, i1, i2, i3, rm_wP, rK_wP]
  exact kk _ (M3.wP 2 (N + 2) (by omega))
theorem ct0c {d a : Nat} {post : am_O → am_G → Prop} (M : Mk G0 G k N u P f) (ha : k[a]? = some (0, 3)) (hN : N ≤ 70000) (hu : u ≤ 6000000) (kk : ∀ G', Mk G0 G' (K45 (k ++ [(7, 7)])) (N + 4) (u + 89) ((a, 0, N) :: P45 N (N + 1) P) f → post (.inl none) G') : am_C am_T (d + 2) 0 [.ref a] G post := by
  have hc := am_C_one am_T (d + 1)
  have aN := M.lt ha
  have a9 : a < 90000 := by omega
  have n0 : N < 90000 := by omega
  have M1 := M.nw 7 7 n0
  rw [we0]
  simp +decide (disch := omega) only [↓wm1, wb0_0 hc, w0, w1, rI_wI, rP_wI, rL_wI, rI_wR, rP_wR, is_wI, is_wR, ia_wI, ia_wR, ow_wI, ow_wR, wn_add, wn_mul, wn_cl, wn_le, wn_lt, wn_inj, wn_ne1, wn_1ne, wn_gt1, wn_le1, nb0, nb1, am_kt, am_rt, List.cons_append, List.nil_append, true_and, and_true, not_true_eq_false, not_false_eq_true, imp_f, imp_t, implies_true, Nat.zero_add, if_true, if_false, false_and, and_false, a9, M.rm, M.len]
  generalize am_nw G 7 7 = G1 at M1 ⊢
  simp +decide (disch := omega) only [↓wm1, wb0_8 hc, w0, w1, rI_wI, rP_wI, rL_wI, rI_wR, rP_wR, is_wI, is_wR, ia_wI, ia_wR, ow_wI, ow_wR, wn_add, wn_mul, wn_cl, wn_le, wn_lt, wn_inj, wn_ne1, wn_1ne, wn_gt1, wn_le1, nb0, nb1, am_kt, am_rt, List.cons_append, List.nil_append, true_and, and_true, not_true_eq_false, not_false_eq_true, imp_f, imp_t, implies_true, Nat.zero_add, if_true, if_false, false_and, and_false, n0]
  refine ct45c M1 (gnew M.2.1) (by omega) (by omega) (fun G2 M2 => ?_)
  simp +decide (disch := omega) only [↓wm1, wb0_12 hc, w0, w1, rI_wI, rP_wI, rL_wI, rI_wR, rP_wR, is_wI, is_wR, ia_wI, ia_wR, ow_wI, ow_wR, wn_add, wn_mul, wn_cl, wn_le, wn_lt, wn_inj, wn_ne1, wn_1ne, wn_gt1, wn_le1, nb0, nb1, am_kt, am_rt, List.cons_append, List.nil_append, true_and, and_true, not_true_eq_false, not_false_eq_true, imp_f, imp_t, implies_true, Nat.zero_add, if_true, if_false, false_and, and_false, n0, M2.is (K45g (gap ha))]
  exact kk _ (M2.wP 0 N (by omega))
theorem ct15c {d a : Nat} {post : am_O → am_G → Prop} (M : Mk G0 G k N u P f) (ha : k[a]? = some (3, 8)) (hN : N ≤ 80000) (hu : u ≤ 7000000) (kk : ∀ G', Mk G0 G' (((k ++ [(100, 7)]) ++ [(100, 7)]) ++ [(100, 700)]) (N + 3) (u + 714) ((a, 7, N + 2) :: (a, 2, N + 1) :: (a, 1, N) :: P) (flF f N 7 mm) → post (.inl none) G') : am_C am_T (d + 2) 15 [.ref a] G post := by
  have hc := am_C_one am_T (d + 1)
  have aN := M.lt ha
  have a9 : a < 90000 := by omega
  have n0 : N < 90000 := by omega
  have n1 : N + 1 < 90000 := by omega
  have n2 : N + 2 < 90000 := by omega
  rw [we15]
  simp +decide (disch := omega) only [↓wm1, wb15_0 hc, w0, w1, w7, w700, rI_wI, rP_wI, rL_wI, rI_wR, rP_wR, is_wI, is_wR, ia_wI, ia_wR, ow_wI, ow_wR, wn_add, wn_mul, wn_cl, wn_le, wn_lt, wn_inj, wn_ne1, wn_1ne, wn_gt1, wn_le1, nb0, nb1, am_kt, am_rt, List.cons_append, List.nil_append, true_and, and_true, not_true_eq_false, not_false_eq_true, imp_f, imp_t, implies_true, Nat.zero_add, if_true, if_false, false_and, and_false, a9, n0, M.is ha, M.rm, M.len, rK_wP, rm_wP, w873, w896, w1633]
  have M0 : Mk G0 (am_nw G 100 7) (k ++ [(100, 7)]) (N + 1) (u + 7) P f := M.nw 100 7 (by omega)
  have h0 : (k ++ [(100, 7)])[a]? = some (3, 8) := gap ha
  have hN0 : (k ++ [(100, 7)])[N]? = some (100, 7) := gnew M.2.1
  generalize am_nw G 100 7 = G1 at M0 ⊢
  simp +decide (disch := omega) only [↓wm1, wb15_9 hc, w0, w1, w7, w700, rI_wI, rP_wI, rL_wI, rI_wR, rP_wR, is_wI, is_wR, ia_wI, ia_wR, ow_wI, ow_wR, wn_add, wn_mul, wn_cl, wn_le, wn_lt, wn_inj, wn_ne1, wn_1ne, wn_gt1, wn_le1, nb0, nb1, am_kt, am_rt, List.cons_append, List.nil_append, true_and, and_true, not_true_eq_false, not_false_eq_true, imp_f, imp_t, implies_true, Nat.zero_add, if_true, if_false, false_and, and_false, a9, n0, M0.is h0, M0.rm, M0.len, rK_wP, rm_wP, w873, w896, w1633, n0]
  have M1 : Mk G0 (am_nw (am_wP G1 a 1 N) 100 7) ((k ++ [(100, 7)]) ++ [(100, 7)]) (N + 2) (u + 14) ((a, 1, N) :: P) f := (M0.wP 1 (N) (by omega)).nw 100 7 (by omega)
  have h1 : ((k ++ [(100, 7)]) ++ [(100, 7)])[a]? = some (3, 8) := gap h0
  have hN0 : ((k ++ [(100, 7)]) ++ [(100, 7)])[N]? = some (100, 7) := gap hN0
  generalize am_nw (am_wP G1 a 1 N) 100 7 = G2 at M1 ⊢
  simp +decide (disch := omega) only [↓wm1, wb15_17 hc, w0, w1, w7, w700, rI_wI, rP_wI, rL_wI, rI_wR, rP_wR, is_wI, is_wR, ia_wI, ia_wR, ow_wI, ow_wR, wn_add, wn_mul, wn_cl, wn_le, wn_lt, wn_inj, wn_ne1, wn_1ne, wn_gt1, wn_le1, nb0, nb1, am_kt, am_rt, List.cons_append, List.nil_append, true_and, and_true, not_true_eq_false, not_false_eq_true, imp_f, imp_t, implies_true, Nat.zero_add, if_true, if_false, false_and, and_false, a9, n0, M1.is h1, M1.rm, M1.len, rK_wP, rm_wP, w873, w896, w1633, n1]
  have M2 : Mk G0 (am_nw (am_wP G2 a 2 (N + 1)) 100 700) (((k ++ [(100, 7)]) ++ [(100, 7)]) ++ [(100, 700)]) (N + 3) (u + 714) ((a, 2, N + 1) :: ((a, 1, N) :: P)) f := (M1.wP 2 (N + 1) (by omega)).nw 100 700 (by omega)
  have h2 : (((k ++ [(100, 7)]) ++ [(100, 7)]) ++ [(100, 700)])[a]? = some (3, 8) := gap h1
  have hN0 : (((k ++ [(100, 7)]) ++ [(100, 7)]) ++ [(100, 700)])[N]? = some (100, 7) := gap hN0
  generalize am_nw (am_wP G2 a 2 (N + 1)) 100 700 = G3 at M2 ⊢
  have Ml : Mk G0 (am_wP G3 a 7 (N + 2)) (((k ++ [(100, 7)]) ++ [(100, 7)]) ++ [(100, 700)]) (N + 3) (u + 714) ((a, 7, N + 2) :: ((a, 2, N + 1) :: ((a, 1, N) :: P))) f := M2.wP 7 (N + 2) (by omega)
  have eP : am_gP (am_wP G3 a 7 (N + 2)) a 1 = N := by rw [Ml.gP (by omega)]; simp [lkp]
  have il := Ml.is h2
  simp +decide (disch := omega) only [↓wm1, wb15_26 hc, w0, w1, w7, w700, rI_wI, rP_wI, rL_wI, rI_wR, rP_wR, is_wI, is_wR, ia_wI, ia_wR, ow_wI, ow_wR, wn_add, wn_mul, wn_cl, wn_le, wn_lt, wn_inj, wn_ne1, wn_1ne, wn_gt1, wn_le1, nb0, nb1, am_kt, am_rt, List.cons_append, List.nil_append, true_and, and_true, not_true_eq_false, not_false_eq_true, imp_f, imp_t, implies_true, Nat.zero_add, if_true, if_false, false_and, and_false, a9, n0, n2, M2.is h2, il, eP]
  refine ct279c Ml hN0 (by decide) (by omega) (fun G9 M9 => ?_)
  simp +decide (disch := omega) only [↓wm1, wb15_37 hc, w0, w1, w7, w700, rI_wI, rP_wI, rL_wI, rI_wR, rP_wR, is_wI, is_wR, ia_wI, ia_wR, ow_wI, ow_wR, wn_add, wn_mul, wn_cl, wn_le, wn_lt, wn_inj, wn_ne1, wn_1ne, wn_gt1, wn_le1, nb0, nb1, am_kt, am_rt, List.cons_append, List.nil_append, true_and, and_true, not_true_eq_false, not_false_eq_true, imp_f, imp_t, implies_true, Nat.zero_add, if_true, if_false, false_and, and_false]
  exact kk _ M9
theorem ct36c {d a : Nat} {post : am_O → am_G → Prop} (M : Mk G0 G k N u P f) (ha : k[a]? = some (6, 4)) (hN : N ≤ 80000) (hu : u ≤ 7000000) (kk : ∀ G', Mk G0 G' ((((k ++ [(100, 873)]) ++ [(100, 720)]) ++ [(100, 6)]) ++ [(100, 6)]) (N + 4) (u + 1605) ((a, 3, N + 3) :: (a, 2, N + 2) :: (a, 1, N + 1) :: (a, 0, N) :: P) (flF f N 873 mm) → post (.inl none) G') : am_C am_T (d + 2) 36 [.ref a] G post := by
  have hc := am_C_one am_T (d + 1)
  have aN := M.lt ha
  have a9 : a < 90000 := by omega
  have n0 : N < 90000 := by omega
  have n1 : N + 1 < 90000 := by omega
  have n2 : N + 2 < 90000 := by omega
  have n3 : N + 3 < 90000 := by omega
  rw [we36]
  simp +decide (disch := omega) only [↓wm1, wb36_0 hc, w0, w1, w6, w720, rI_wI, rP_wI, rL_wI, rI_wR, rP_wR, is_wI, is_wR, ia_wI, ia_wR, ow_wI, ow_wR, wn_add, wn_mul, wn_cl, wn_le, wn_lt, wn_inj, wn_ne1, wn_1ne, wn_gt1, wn_le1, nb0, nb1, am_kt, am_rt, List.cons_append, List.nil_append, true_and, and_true, not_true_eq_false, not_false_eq_true, imp_f, imp_t, implies_true, Nat.zero_add, if_true, if_false, false_and, and_false, a9, n0, M.is ha, M.rm, M.len, rK_wP, rm_wP, w873, w896, w1633]
  have M0 : Mk G0 (am_nw G 100 873) (k ++ [(100, 873)]) (N + 1) (u + 873) P f := M.nw 100 873 (by omega)
  have h0 : (k ++ [(100, 873)])[a]? = some (6, 4) := gap ha
  have hN0 : (k ++ [(100, 873)])[N]? = some (100, 873) := gnew M.2.1
  generalize am_nw G 100 873 = G1 at M0 ⊢
  simp +decide (disch := omega) only [↓wm1, wb36_10 hc, w0, w1, w6, w720, rI_wI, rP_wI, rL_wI, rI_wR, rP_wR, is_wI, is_wR, ia_wI, ia_wR, ow_wI, ow_wR, wn_add, wn_mul, wn_cl, wn_le, wn_lt, wn_inj, wn_ne1, wn_1ne, wn_gt1, wn_le1, nb0, nb1, am_kt, am_rt, List.cons_append, List.nil_append, true_and, and_true, not_true_eq_false, not_false_eq_true, imp_f, imp_t, implies_true, Nat.zero_add, if_true, if_false, false_and, and_false, a9, n0, M0.is h0, M0.rm, M0.len, rK_wP, rm_wP, w873, w896, w1633, n0]
  have M1 : Mk G0 (am_nw (am_wP G1 a 0 N) 100 720) ((k ++ [(100, 873)]) ++ [(100, 720)]) (N + 2) (u + 1593) ((a, 0, N) :: P) f := (M0.wP 0 (N) (by omega)).nw 100 720 (by omega)
  have h1 : ((k ++ [(100, 873)]) ++ [(100, 720)])[a]? = some (6, 4) := gap h0
  have hN0 : ((k ++ [(100, 873)]) ++ [(100, 720)])[N]? = some (100, 873) := gap hN0
  generalize am_nw (am_wP G1 a 0 N) 100 720 = G2 at M1 ⊢
  simp +decide (disch := omega) only [↓wm1, wb36_19 hc, w0, w1, w6, w720, rI_wI, rP_wI, rL_wI, rI_wR, rP_wR, is_wI, is_wR, ia_wI, ia_wR, ow_wI, ow_wR, wn_add, wn_mul, wn_cl, wn_le, wn_lt, wn_inj, wn_ne1, wn_1ne, wn_gt1, wn_le1, nb0, nb1, am_kt, am_rt, List.cons_append, List.nil_append, true_and, and_true, not_true_eq_false, not_false_eq_true, imp_f, imp_t, implies_true, Nat.zero_add, if_true, if_false, false_and, and_false, a9, n0, M1.is h1, M1.rm, M1.len, rK_wP, rm_wP, w873, w896, w1633, n1]
  have M2 : Mk G0 (am_nw (am_wP G2 a 1 (N + 1)) 100 6) (((k ++ [(100, 873)]) ++ [(100, 720)]) ++ [(100, 6)]) (N + 3) (u + 1599) ((a, 1, N + 1) :: ((a, 0, N) :: P)) f := (M1.wP 1 (N + 1) (by omega)).nw 100 6 (by omega)
  have h2 : (((k ++ [(100, 873)]) ++ [(100, 720)]) ++ [(100, 6)])[a]? = some (6, 4) := gap h1
  have hN0 : (((k ++ [(100, 873)]) ++ [(100, 720)]) ++ [(100, 6)])[N]? = some (100, 873) := gap hN0
  generalize am_nw (am_wP G2 a 1 (N + 1)) 100 6 = G3 at M2 ⊢
  simp +decide (disch := omega) only [↓wm1, wb36_27 hc, w0, w1, w6, w720, rI_wI, rP_wI, rL_wI, rI_wR, rP_wR, is_wI, is_wR, ia_wI, ia_wR, ow_wI, ow_wR, wn_add, wn_mul, wn_cl, wn_le, wn_lt, wn_inj, wn_ne1, wn_1ne, wn_gt1, wn_le1, nb0, nb1, am_kt, am_rt, List.cons_append, List.nil_append, true_and, and_true, not_true_eq_false, not_false_eq_true, imp_f, imp_t, implies_true, Nat.zero_add, if_true, if_false, false_and, and_false, a9, n0, M2.is h2, M2.rm, M2.len, rK_wP, rm_wP, w873, w896, w1633, n2]
  have M3 : Mk G0 (am_nw (am_wP G3 a 2 (N + 2)) 100 6) ((((k ++ [(100, 873)]) ++ [(100, 720)]) ++ [(100, 6)]) ++ [(100, 6)]) (N + 4) (u + 1605) ((a, 2, N + 2) :: ((a, 1, N + 1) :: ((a, 0, N) :: P))) f := (M2.wP 2 (N + 2) (by omega)).nw 100 6 (by omega)
  have h3 : ((((k ++ [(100, 873)]) ++ [(100, 720)]) ++ [(100, 6)]) ++ [(100, 6)])[a]? = some (6, 4) := gap h2
  have hN0 : ((((k ++ [(100, 873)]) ++ [(100, 720)]) ++ [(100, 6)]) ++ [(100, 6)])[N]? = some (100, 873) := gap hN0
  generalize am_nw (am_wP G3 a 2 (N + 2)) 100 6 = G4 at M3 ⊢
  have Ml : Mk G0 (am_wP G4 a 3 (N + 3)) ((((k ++ [(100, 873)]) ++ [(100, 720)]) ++ [(100, 6)]) ++ [(100, 6)]) (N + 4) (u + 1605) ((a, 3, N + 3) :: ((a, 2, N + 2) :: ((a, 1, N + 1) :: ((a, 0, N) :: P)))) f := M3.wP 3 (N + 3) (by omega)
  have eP : am_gP (am_wP G4 a 3 (N + 3)) a 0 = N := by rw [Ml.gP (by omega)]; simp [lkp]
  have il := Ml.is h3
  simp +decide (disch := omega) only [↓wm1, wb36_35 hc, w0, w1, w6, w720, rI_wI, rP_wI, rL_wI, rI_wR, rP_wR, is_wI, is_wR, ia_wI, ia_wR, ow_wI, ow_wR, wn_add, wn_mul, wn_cl, wn_le, wn_lt, wn_inj, wn_ne1, wn_1ne, wn_gt1, wn_le1, nb0, nb1, am_kt, am_rt, List.cons_append, List.nil_append, true_and, and_true, not_true_eq_false, not_false_eq_true, imp_f, imp_t, implies_true, Nat.zero_add, if_true, if_false, false_and, and_false, a9, n0, n3, M3.is h3, il, eP]
  refine ct279c Ml hN0 (by decide) (by omega) (fun G9 M9 => ?_)
  simp +decide (disch := omega) only [↓wm1, wb36_46 hc, w0, w1, w6, w720, rI_wI, rP_wI, rL_wI, rI_wR, rP_wR, is_wI, is_wR, ia_wI, ia_wR, ow_wI, ow_wR, wn_add, wn_mul, wn_cl, wn_le, wn_lt, wn_inj, wn_ne1, wn_1ne, wn_gt1, wn_le1, nb0, nb1, am_kt, am_rt, List.cons_append, List.nil_append, true_and, and_true, not_true_eq_false, not_false_eq_true, imp_f, imp_t, implies_true, Nat.zero_add, if_true, if_false, false_and, and_false]
  exact kk _ M9
/-- one sign more -/
def adF (f : Nat → Nat → Int32) (l A n : Nat) (x : Int32) : Nat → Nat → Int32 := fun b j => if b = l ∧ j = 2 then wn (n + 1) else if b = A ∧ j = n then x else f b j
theorem adF_2 {l A n : Nat} {x : Int32} : adF f l A n x l 2 = wn (n + 1) := by unfold adF; rw [if_pos ⟨rfl, rfl⟩]
theorem ct24c {d l A n : Nat} {x : Int32} {post : am_O → am_G → Prop} (M : Mk G0 G k N u P f) (hl : k[l]? = some (4, 3)) (hA : k[A]? = some (100, 150)) (hp : lkp P l 0 = A) (hlA : ¬ l = A) (hf : f l 2 = wn n) (hn : n < 150) (hN : N ≤ 90000) (kk : ∀ G', Mk G0 G' k N u P (adF f l A n x) → post (.inl none) G') : am_C am_T (d + 1) 24 [.ref l, .int x] G post := by
  have hc := am_C_one am_T d
  have lN := M.lt hl
  have AN := M.lt hA
  have A9 : A < 90000 := by omega
  have c1 : ¬ 150 ≤ n := by omega
  have e2 : am_gI G l 2 = wn n := (M.gI lN 2).trans hf
  have eP : am_gP G l 0 = A := (M.gP lN 0).trans hp
  rw [we24]
  simp +decide (disch := omega) only [↓wm1, wb24_0 hc, wb24_10 hc, wb24_30 hc, w0, w1, w150, rI_wI, rP_wI, rL_wI, rI_wR, rP_wR, is_wI, is_wR, ia_wI, ia_wR, ow_wI, ow_wR, wn_add, wn_mul, wn_cl, wn_le, wn_lt, wn_inj, wn_ne1, wn_1ne, wn_gt1, wn_le1, nb0, nb1, am_kt, am_rt, List.cons_append, List.nil_append, true_and, and_true, not_true_eq_false, not_false_eq_true, imp_f, imp_t, implies_true, Nat.zero_add, if_true, if_false, false_and, and_false, M.is hl, e2, eP, c1, A9, M.ow hA (by decide), hn, hlA]
  exact kk _ ((M.wI n x AN hN).wI 2 (wn (n + 1)) lN hN)
def cmF (f : Nat → Nat → Int32) (l A : Nat) : Nat → Nat → Int32 := adF (adF (adF (adF (adF (adF (adF (adF (adF (fun b j => if b = l ∧ j = 2 then wn 0 else f b j) l A 0 (wn 1000)) l A 1 (wn 1001)) l A 2 (wn 2001)) l A 3 (wn 1002)) l A 4 (wn 3)) l A 5 (wn 2002)) l A 6 (wn 2001)) l A 7 (wn 1004)) l A 8 (wn 2001)
theorem ct23c {d l A : Nat} {post : am_O → am_G → Prop} (M : Mk G0 G k N u P f) (hl : k[l]? = some (4, 3)) (hA : k[A]? = some (100, 150)) (hp : lkp P l 0 = A) (hlA : ¬ l = A) (hN : N ≤ 90000) (kk : ∀ G', Mk G0 G' k N u P (cmF f l A) → post (.inl none) G') : am_C am_T (d + 2) 23 [.ref l] G post := by
  have hc := am_C_one am_T (d + 1)
  have M0 := M.wI (a := l) 2 (wn 0) (M.lt hl) hN
  rw [we23]
  simp +decide (disch := omega) only [↓wm1, wb23_0 hc, w0, w1, w3, w1000, w2001, w2002, rI_wI, rP_wI, rL_wI, rI_wR, rP_wR, is_wI, is_wR, ia_wI, ia_wR, ow_wI, ow_wR, wn_add, wn_mul, wn_cl, wn_le, wn_lt, wn_inj, wn_ne1, wn_1ne, wn_gt1, wn_le1, nb0, nb1, am_kt, am_rt, List.cons_append, List.nil_append, true_and, and_true, not_true_eq_false, not_false_eq_true, imp_f, imp_t, implies_true, Nat.zero_add, if_true, if_false, false_and, and_false, M.is hl]
  refine ct24c M0 hl hA hp hlA (if_pos ⟨rfl, rfl⟩) (by decide) hN (fun G1 M1 => ?_)
  simp +decide (disch := omega) only [↓wm1, wb23_12 hc, w0, w1, w3, w1000, w2001, w2002, rI_wI, rP_wI, rL_wI, rI_wR, rP_wR, is_wI, is_wR, ia_wI, ia_wR, ow_wI, ow_wR, wn_add, wn_mul, wn_cl, wn_le, wn_lt, wn_inj, wn_ne1, wn_1ne, wn_gt1, wn_le1, nb0, nb1, am_kt, am_rt, List.cons_append, List.nil_append, true_and, and_true, not_true_eq_false, not_false_eq_true, imp_f, imp_t, implies_true, Nat.zero_add, if_true, if_false, false_and, and_false, M1.is hl, w1001, w1002, w1004]
  refine ct24c M1 hl hA hp hlA adF_2 (by decide) hN (fun G2 M2 => ?_)
  simp +decide (disch := omega) only [↓wm1, wb23_19 hc, w0, w1, w3, w1000, w2001, w2002, rI_wI, rP_wI, rL_wI, rI_wR, rP_wR, is_wI, is_wR, ia_wI, ia_wR, ow_wI, ow_wR, wn_add, wn_mul, wn_cl, wn_le, wn_lt, wn_inj, wn_ne1, wn_1ne, wn_gt1, wn_le1, nb0, nb1, am_kt, am_rt, List.cons_append, List.nil_append, true_and, and_true, not_true_eq_false, not_false_eq_true, imp_f, imp_t, implies_true, Nat.zero_add, if_true, if_false, false_and, and_false, M2.is hl, w1001, w1002, w1004]
  refine ct24c M2 hl hA hp hlA adF_2 (by decide) hN (fun G3 M3 => ?_)
  simp +decide (disch := omega) only [↓wm1, wb23_26 hc, w0, w1, w3, w1000, w2001, w2002, rI_wI, rP_wI, rL_wI, rI_wR, rP_wR, is_wI, is_wR, ia_wI, ia_wR, ow_wI, ow_wR, wn_add, wn_mul, wn_cl, wn_le, wn_lt, wn_inj, wn_ne1, wn_1ne, wn_gt1, wn_le1, nb0, nb1, am_kt, am_rt, List.cons_append, List.nil_append, true_and, and_true, not_true_eq_false, not_false_eq_true, imp_f, imp_t, implies_true, Nat.zero_add, if_true, if_false, false_and, and_false, M3.is hl, w1001, w1002, w1004]
  refine ct24c M3 hl hA hp hlA adF_2 (by decide) hN (fun G4 M4 => ?_)
  simp +decide (disch := omega) only [↓wm1, wb23_33 hc, w0, w1, w3, w1000, w2001, w2002, rI_wI, rP_wI, rL_wI, rI_wR, rP_wR, is_wI, is_wR, ia_wI, ia_wR, ow_wI, ow_wR, wn_add, wn_mul, wn_cl, wn_le, wn_lt, wn_inj, wn_ne1, wn_1ne, wn_gt1, wn_le1, nb0, nb1, am_kt, am_rt, List.cons_append, List.nil_append, true_and, and_true, not_true_eq_false, not_false_eq_true, imp_f, imp_t, implies_true, Nat.zero_add, if_true, if_false, false_and, and_false, M4.is hl, w1001, w1002, w1004]
  refine ct24c M4 hl hA hp hlA adF_2 (by decide) hN (fun G5 M5 => ?_)
  simp +decide (disch := omega) only [↓wm1, wb23_38 hc, w0, w1, w3, w1000, w2001, w2002, rI_wI, rP_wI, rL_wI, rI_wR, rP_wR, is_wI, is_wR, ia_wI, ia_wR, ow_wI, ow_wR, wn_add, wn_mul, wn_cl, wn_le, wn_lt, wn_inj, wn_ne1, wn_1ne, wn_gt1, wn_le1, nb0, nb1, am_kt, am_rt, List.cons_append, List.nil_append, true_and, and_true, not_true_eq_false, not_false_eq_true, imp_f, imp_t, implies_true, Nat.zero_add, if_true, if_false, false_and, and_false, M5.is hl, w1001, w1002, w1004]
  refine ct24c M5 hl hA hp hlA adF_2 (by decide) hN (fun G6 M6 => ?_)
  simp +decide (disch := omega) only [↓wm1, wb23_45 hc, w0, w1, w3, w1000, w2001, w2002, rI_wI, rP_wI, rL_wI, rI_wR, rP_wR, is_wI, is_wR, ia_wI, ia_wR, ow_wI, ow_wR, wn_add, wn_mul, wn_cl, wn_le, wn_lt, wn_inj, wn_ne1, wn_1ne, wn_gt1, wn_le1, nb0, nb1, am_kt, am_rt, List.cons_append, List.nil_append, true_and, and_true, not_true_eq_false, not_false_eq_true, imp_f, imp_t, implies_true, Nat.zero_add, if_true, if_false, false_and, and_false, M6.is hl, w1001, w1002, w1004]
  refine ct24c M6 hl hA hp hlA adF_2 (by decide) hN (fun G7 M7 => ?_)
  simp +decide (disch := omega) only [↓wm1, wb23_52 hc, w0, w1, w3, w1000, w2001, w2002, rI_wI, rP_wI, rL_wI, rI_wR, rP_wR, is_wI, is_wR, ia_wI, ia_wR, ow_wI, ow_wR, wn_add, wn_mul, wn_cl, wn_le, wn_lt, wn_inj, wn_ne1, wn_1ne, wn_gt1, wn_le1, nb0, nb1, am_kt, am_rt, List.cons_append, List.nil_append, true_and, and_true, not_true_eq_false, not_false_eq_true, imp_f, imp_t, implies_true, Nat.zero_add, if_true, if_false, false_and, and_false, M7.is hl, w1001, w1002, w1004]
  refine ct24c M7 hl hA hp hlA adF_2 (by decide) hN (fun G8 M8 => ?_)
  simp +decide (disch := omega) only [↓wm1, wb23_59 hc, w0, w1, w3, w1000, w2001, w2002, rI_wI, rP_wI, rL_wI, rI_wR, rP_wR, is_wI, is_wR, ia_wI, ia_wR, ow_wI, ow_wR, wn_add, wn_mul, wn_cl, wn_le, wn_lt, wn_inj, wn_ne1, wn_1ne, wn_gt1, wn_le1, nb0, nb1, am_kt, am_rt, List.cons_append, List.nil_append, true_and, and_true, not_true_eq_false, not_false_eq_true, imp_f, imp_t, implies_true, Nat.zero_add, if_true, if_false, false_and, and_false, M8.is hl, w1001, w1002, w1004]
  refine ct24c M8 hl hA hp hlA adF_2 (by decide) hN (fun G9 M9 => ?_)
  simp +decide (disch := omega) only [↓wm1, wb23_66 hc, w0, w1, w3, w1000, w2001, w2002, rI_wI, rP_wI, rL_wI, rI_wR, rP_wR, is_wI, is_wR, ia_wI, ia_wR, ow_wI, ow_wR, wn_add, wn_mul, wn_cl, wn_le, wn_lt, wn_inj, wn_ne1, wn_1ne, wn_gt1, wn_le1, nb0, nb1, am_kt, am_rt, List.cons_append, List.nil_append, true_and, and_true, not_true_eq_false, not_false_eq_true, imp_f, imp_t, implies_true, Nat.zero_add, if_true, if_false, false_and, and_false]
  exact kk _ M9
/-- a Diary's states -/
def dyK (k : List (Nat × Nat)) : Nat → List (Nat × Nat)
  | 0 => K45 (k ++ [(7, 7)]) ++ [(104, 16)]
  | i + 1 => K45 (dyK k i ++ [(7, 7)])
def dyP (a N : Nat) (P : List (Nat × Nat × Nat)) : Nat → List (Nat × Nat × Nat)
  | 0 => (a, 1, N + 4) :: (a, 0, N) :: P45 N (N + 1) P
  | i + 1 => (N + 4, i, N + 5 + 4 * i) :: P45 (N + 5 + 4 * i) (N + 5 + 4 * i + 1) (dyP a N P i)
theorem dyK_g {a : Nat} {x : Nat × Nat} (h : k[a]? = some x) : ∀ i, (dyK k i)[a]? = some x := by
  intro i
  induction i with
  | zero => exact gap (K45g (gap h))
  | succ i ih => exact K45g (gap ih)
theorem dyK_4 (hk : k.length = N) : ∀ i, (dyK k i)[N + 4]? = some (104, 16) := by
  intro i
  induction i with
  | zero =>
    have hl : (K45 (k ++ [(7, 7)])).length = N + 4 := by
      unfold K45
      simp only [List.length_append, List.length_cons, List.length_nil, hk]
    exact gnew hl
  | succ i ih => exact K45g (gap ih)
theorem dyP_1 {a : Nat} (ha : a < N) : ∀ i, lkp (dyP a N P i) a 1 = N + 4 := by
  intro i
  induction i with
  | zero => simp [dyP, lkp]
  | succ i ih =>
    simp only [dyP, P45, lkp]
    rw [if_neg (by omega), if_neg (by omega), if_neg (by omega), if_neg (by omega)]
    exact ih
theorem ct4c {d a : Nat} {post : am_O → am_G → Prop} (M : Mk G0 G k N u P f) (ha : k[a]? = some (1, 3)) (hN : N ≤ 60000) (hu : u ≤ 6000000) (kk : ∀ G', Mk G0 G' (dyK k 16) (N + 69) (u + 1529) (dyP a N P 16) f → post (.inl none) G') : am_C am_T (d + 2) 4 [.ref a] G post := by
  have hc := am_C_one am_T (d + 1)
  have aN := M.lt ha
  have a9 : a < 90000 := by omega
  have n0 : N < 90000 := by omega
  have n4 : N + 4 < 90000 := by omega
  have M1 := M.nw 7 7 n0
  rw [we4]
  simp +decide (disch := omega) only [↓wm1, wb4_0 hc, w0, w1, w16, rI_wI, rP_wI, rL_wI, rI_wR, rP_wR, is_wI, is_wR, ia_wI, ia_wR, ow_wI, ow_wR, wn_add, wn_mul, wn_cl, wn_le, wn_lt, wn_inj, wn_ne1, wn_1ne, wn_gt1, wn_le1, nb0, nb1, am_kt, am_rt, List.cons_append, List.nil_append, true_and, and_true, not_true_eq_false, not_false_eq_true, imp_f, imp_t, implies_true, Nat.zero_add, if_true, if_false, false_and, and_false, a9, M.rm, M.len]
  generalize am_nw G 7 7 = G1 at M1 ⊢
  simp +decide (disch := omega) only [↓wm1, wb4_8 hc, w0, w1, w16, rI_wI, rP_wI, rL_wI, rI_wR, rP_wR, is_wI, is_wR, ia_wI, ia_wR, ow_wI, ow_wR, wn_add, wn_mul, wn_cl, wn_le, wn_lt, wn_inj, wn_ne1, wn_1ne, wn_gt1, wn_le1, nb0, nb1, am_kt, am_rt, List.cons_append, List.nil_append, true_and, and_true, not_true_eq_false, not_false_eq_true, imp_f, imp_t, implies_true, Nat.zero_add, if_true, if_false, false_and, and_false, n0]
  refine ct45c M1 (gnew M.2.1) (by omega) (by omega) (fun G2 M2 => ?_)
  have M2 : Mk G0 G2 (K45 (k ++ [(7, 7)])) (N + 4) (u + 89) (P45 N (N + 1) P) f := M2
  have M3 : Mk G0 (am_nw (am_wP G2 a 0 N) 104 16) (dyK k 0) (N + 5) (u + 105) ((a, 0, N) :: P45 N (N + 1) P) f := (M2.wP 0 N (by omega)).nw 104 16 n4
  have h2 := K45g (k := k ++ [(7, 7)]) (gap ha)
  simp +decide (disch := omega) only [↓wm1, wb4_12 hc, w0, w1, w16, rI_wI, rP_wI, rL_wI, rI_wR, rP_wR, is_wI, is_wR, ia_wI, ia_wR, ow_wI, ow_wR, wn_add, wn_mul, wn_cl, wn_le, wn_lt, wn_inj, wn_ne1, wn_1ne, wn_gt1, wn_le1, nb0, nb1, am_kt, am_rt, List.cons_append, List.nil_append, true_and, and_true, not_true_eq_false, not_false_eq_true, imp_f, imp_t, implies_true, Nat.zero_add, if_true, if_false, false_and, and_false, M2.is h2, n0, M2.rm, M2.len, rK_wP, rm_wP]
  generalize am_nw (am_wP G2 a 0 N) 104 16 = G3 at M3 ⊢
  simp +decide (disch := omega) only [↓wm1, wb4_21 hc, w0, w1, w16, rI_wI, rP_wI, rL_wI, rI_wR, rP_wR, is_wI, is_wR, ia_wI, ia_wR, ow_wI, ow_wR, wn_add, wn_mul, wn_cl, wn_le, wn_lt, wn_inj, wn_ne1, wn_1ne, wn_gt1, wn_le1, nb0, nb1, am_kt, am_rt, List.cons_append, List.nil_append, true_and, and_true, not_true_eq_false, not_false_eq_true, imp_f, imp_t, implies_true, Nat.zero_add, if_true, if_false, false_and, and_false, M3.is (dyK_g ha 0), n4]
  have M4 : Mk G0 (am_wP G3 a 1 (N + 4)) (dyK k 0) (N + 5) (u + 105) (dyP a N P 0) f := M3.wP 1 (N + 4) (by omega)
  refine am_for 16 (fun i ls G' => Mk G0 G' (dyK k i) (N + 5 + 4 * i) (u + 105 + 89 * i) (dyP a N P i) f ∧ ls = [some (.ref a), some (.int (wn i))]) ?_ ?_ 16 0 rfl _ _ ⟨M4, rfl⟩
  · rintro i hi _ G5 ⟨M5, rfl⟩ nx
    have c1 : ¬ 16 ≤ i := by omega
    have eP : am_gP G5 a 1 = N + 4 := by rw [M5.gP (by omega)]; exact dyP_1 aN i
    have n5 : N + 5 + 4 * i < 90000 := by omega
    have M6 := M5.nw 7 7 n5
    rw [wb4_26 hc]
    simp +decide (disch := omega) only [↓wm1, wb4_32 hc, w0, w1, w16, rI_wI, rP_wI, rL_wI, rI_wR, rP_wR, is_wI, is_wR, ia_wI, ia_wR, ow_wI, ow_wR, wn_add, wn_mul, wn_cl, wn_le, wn_lt, wn_inj, wn_ne1, wn_1ne, wn_gt1, wn_le1, nb0, nb1, am_kt, am_rt, List.cons_append, List.nil_append, true_and, and_true, not_true_eq_false, not_false_eq_true, imp_f, imp_t, implies_true, Nat.zero_add, if_true, if_false, false_and, and_false, c1, M5.is (dyK_g ha i), eP, n4, M5.rm, M5.len]
    generalize am_nw G5 7 7 = G6 at M6 ⊢
    simp +decide (disch := omega) only [↓wm1, wb4_40 hc, w0, w1, w16, rI_wI, rP_wI, rL_wI, rI_wR, rP_wR, is_wI, is_wR, ia_wI, ia_wR, ow_wI, ow_wR, wn_add, wn_mul, wn_cl, wn_le, wn_lt, wn_inj, wn_ne1, wn_1ne, wn_gt1, wn_le1, nb0, nb1, am_kt, am_rt, List.cons_append, List.nil_append, true_and, and_true, not_true_eq_false, not_false_eq_true, imp_f, imp_t, implies_true, Nat.zero_add, if_true, if_false, false_and, and_false, n5]
    refine ct45c M6 (gnew M5.2.1) (by omega) (by omega) (fun G7 M7 => ?_)
    have aa : am_aa G7 (N + 4) (wn i) (N + 5 + 4 * i) := Or.inr ⟨M7.ow (K45g (gap (dyK_4 M.2.1 i))) (by decide) i hi, M7.is (K45g (gnew M5.2.1))⟩
    simp +decide (disch := omega) only [↓wm1, wb4_44 hc, w0, w1, w16, rI_wI, rP_wI, rL_wI, rI_wR, rP_wR, is_wI, is_wR, ia_wI, ia_wR, ow_wI, ow_wR, wn_add, wn_mul, wn_cl, wn_le, wn_lt, wn_inj, wn_ne1, wn_1ne, wn_gt1, wn_le1, nb0, nb1, am_kt, am_rt, List.cons_append, List.nil_append, true_and, and_true, not_true_eq_false, not_false_eq_true, imp_f, imp_t, implies_true, Nat.zero_add, if_true, if_false, false_and, and_false, aa]
    refine nx _ _ ⟨?_, rfl⟩
    have M8 := M7.wP (a := N + 4) i (N + 5 + 4 * i) (by omega)
    have e1 : N + 5 + 4 * i + 1 + 3 = N + 5 + 4 * (i + 1) := by omega
    have e2 : u + 105 + 89 * i + 7 + 82 = u + 105 + 89 * (i + 1) := by omega
    rw [e1, e2] at M8
    exact M8
  · rintro _ G5 ⟨M5, rfl⟩
    rw [wb4_26 hc]
    simp +decide (disch := omega) only [↓wm1, wb4_51 hc, w0, w1, w16, rI_wI, rP_wI, rL_wI, rI_wR, rP_wR, is_wI, is_wR, ia_wI, ia_wR, ow_wI, ow_wR, wn_add, wn_mul, wn_cl, wn_le, wn_lt, wn_inj, wn_ne1, wn_1ne, wn_gt1, wn_le1, nb0, nb1, am_kt, am_rt, List.cons_append, List.nil_append, true_and, and_true, not_true_eq_false, not_false_eq_true, imp_f, imp_t, implies_true, Nat.zero_add, if_true, if_false, false_and, and_false, Nat.le_refl]
    exact kk _ M5
end
