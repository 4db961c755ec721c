/-! The district, the reference's side. -/
theorem Sh.al {G : am_G} (h : Sh G) {a n : Nat} (hk : kk0[a]? = some (100, n)) : am_al G a := Or.inl ⟨100, n, h.k hk, by decide, by decide⟩
theorem Sh.ln {G : am_G} (h : Sh G) {a n : Nat} (hk : kk0[a]? = some (100, n)) : am_ln G a = n := by
  have e := h.k hk
  unfold am_ln
  rw [e]
/-- an array of rows -/
def Ry (A N L : Nat) : Prop := kk0[A]? = some (102, N) ∧ ∀ i, i < N → kk0[A + 1 + i]? = some (100, L) ∧ (A, i, A + 1 + i) ∈ pp0
theorem Ry.f {A N L : Nat} (k : Ry A N L) {G : am_G} (h : Sh G) (hA : A < 838) (hN : N ≤ 160) (hL : L ≤ 3) : (∀ i, i < N → am_ra G A (wn i)) ∧ (∀ i, i < N → am_gP G A i = A + 1 + i) ∧ (∀ i, i < N → A + 1 + i < 90000) ∧ (∀ i j, i < N → j < L → am_ia G (A + 1 + i) (wn j)) ∧ (∀ i j, i < N → j < L → am_ow G (A + 1 + i) (wn j) 100) ∧ (∀ i, i < N → am_al G (A + 1 + i)) ∧ ∀ i, i < N → am_ln G (A + 1 + i) = L :=
  ⟨fun i hi => h.ra k.1 hi (by omega), fun i hi => h.2 _ (k.2 i hi).2, fun i hi => by omega, fun i j hi hj => h.ia (k.2 i hi).1 hj (by omega), fun i j hi hj => h.ow (k.2 i hi).1 hj (by omega), fun i hi => h.al (k.2 i hi).1, fun i hi => h.ln (k.2 i hi).1⟩
theorem ofN (n : Nat) : Int32.ofNat n = wn n := rfl
section
variable {G : am_G} {d : Nat} {V : Vt} {post : am_O → am_G → Prop}
theorem ct177 {A B N L m : Nat} (hsh : Sh G) (kA : Ry A N L) (kB : Ry B N L) (hA : A < 838) (hB : B < 838) (hN : N ≤ 160) (hL : L ≤ 3) (hm : m ≤ N) (hAB : A + 1 + N ≤ B ∨ B + 1 + N ≤ A + 1) (k : ∀ G', (∀ j i, j < m → i < L → am_gI G' (B + 1 + j) i = am_gI G (A + 1 + j) i) → Kp (fun a _ => B + 1 ≤ a ∧ a < B + 1 + N) G G' → post (.inl none) G') : am_C am_T (d + 1) 177 [.ref A, .ref B, .int (wn m)] G post := by
  have hc := am_C_one am_T d
  rw [we177]
  simp +decide (disch := omega) only [↓wm1, wb177_0 hc, w0, w1, rI_wI, rP_wI, rL_wI, rI_wR, rP_wR, is_wI, is_wR, ia_wI, ia_wR, ow_wI, ow_wR, wn_add, wn_mul, wn_cl, wn_le, wn_lt, wn_inj, wn_ne1, wn_1ne, wn_gt1, wn_le1, nb0, nb1, am_kt, am_rt, List.cons_append, List.nil_append, true_and, and_true, not_true_eq_false, not_false_eq_true, imp_f, imp_t, implies_true, Nat.zero_add, if_true, if_false, false_and, and_false]
  refine am_for m (fun j ls G' => (∀ j' i, j' < j → i < L → am_gI G' (B + 1 + j') i = am_gI G (A + 1 + j') i) ∧ Kp (fun a _ => B + 1 ≤ a ∧ a < B + 1 + N) G G' ∧ ls = [some (.ref A), some (.ref B), some (.int (wn m)), some (.int (wn j)), none]) ?_ ?_ m 0 (by omega) _ _ ⟨fun j' i z => by omega, Kp.refl G, rfl⟩
  · rintro j hj _ G1 ⟨h1, k1, rfl⟩ nx
    have c1 : ¬ m ≤ j := by omega
    have hjN : j < N := by omega
    rw [wb177_2 hc]
    simp +decide (disch := omega) only [↓wm1, wb177_7 hc, w0, w1, rI_wI, rP_wI, rL_wI, rI_wR, rP_wR, is_wI, is_wR, ia_wI, ia_wR, ow_wI, ow_wR, wn_add, wn_mul, wn_cl, wn_le, wn_lt, wn_inj, wn_ne1, wn_1ne, wn_gt1, wn_le1, nb0, nb1, am_kt, am_rt, List.cons_append, List.nil_append, true_and, and_true, not_true_eq_false, not_false_eq_true, imp_f, imp_t, implies_true, Nat.zero_add, if_true, if_false, false_and, and_false, c1]
    refine am_for L (fun i ls G' => (∀ j' i', j' < j → i' < L → am_gI G' (B + 1 + j') i' = am_gI G (A + 1 + j') i') ∧ (∀ i', i' < i → am_gI G' (B + 1 + j) i' = am_gI G (A + 1 + j) i') ∧ Kp (fun a _ => B + 1 ≤ a ∧ a < B + 1 + N) G G' ∧ ls = [some (.ref A), some (.ref B), some (.int (wn m)), some (.int (wn j)), some (.int (wn i))]) ?_ ?_ L 0 (by omega) _ _ ⟨h1, fun i' z => by omega, k1, rfl⟩
    · rintro i hi _ G2 ⟨h2, g2, k2, rfl⟩ nx2
      have s2 := hsh.kp k2
      have c2 : ¬ L ≤ i := by omega
      have e2 : am_gI G2 (A + 1 + j) i = am_gI G (A + 1 + j) i := k2.i (by omega)
      rw [wb177_10 hc]
      simp +decide (disch := omega) only [↓wm1, wb177_19 hc, w0, w1, rI_wI, rP_wI, rL_wI, rI_wR, rP_wR, is_wI, is_wR, ia_wI, ia_wR, ow_wI, ow_wR, wn_add, wn_mul, wn_cl, wn_le, wn_lt, wn_inj, wn_ne1, wn_1ne, wn_gt1, wn_le1, nb0, nb1, am_kt, am_rt, List.cons_append, List.nil_append, true_and, and_true, not_true_eq_false, not_false_eq_true, imp_f, imp_t, implies_true, Nat.zero_add, if_true, if_false, false_and, and_false, kA.f s2 hA hN hL, kB.f s2 hB hN hL, hjN, ofN, c2, hi, e2]
      refine nx2 _ _ ⟨fun j' i' z1 z2 => ?_, fun i' z => ?_, k2.wI ⟨by omega, by omega⟩ _, rfl⟩
      · rw [rI_wI, if_neg (by omega)]; exact h2 j' i' z1 z2
      · rw [rI_wI]
        by_cases e : i' = i
        · rw [if_pos ⟨rfl, e⟩, e]
        · rw [if_neg (fun z => e z.2)]; exact g2 i' (by omega)
    · rintro _ G2 ⟨h2, g2, k2, rfl⟩
      have s2 := hsh.kp k2
      rw [wb177_10 hc]
      simp +decide (disch := omega) only [↓wm1, wb177_37 hc, w0, w1, rI_wI, rP_wI, rL_wI, rI_wR, rP_wR, is_wI, is_wR, ia_wI, ia_wR, ow_wI, ow_wR, wn_add, wn_mul, wn_cl, wn_le, wn_lt, wn_inj, wn_ne1, wn_1ne, wn_gt1, wn_le1, nb0, nb1, am_kt, am_rt, List.cons_append, List.nil_append, true_and, and_true, not_true_eq_false, not_false_eq_true, imp_f, imp_t, implies_true, Nat.zero_add, if_true, if_false, false_and, and_false, kA.f s2 hA hN hL, kB.f s2 hB hN hL, hjN, ofN, Nat.le_refl]
      refine nx _ _ ⟨fun j' i' z1 z2 => ?_, k2, rfl⟩
      by_cases e : j' = j
      · rw [e]; exact g2 i' z2
      · exact h2 j' i' (by omega) z2
  · rintro _ G1 ⟨h1, k1, rfl⟩
    rw [wb177_2 hc]
    simp +decide (disch := omega) only [↓wm1, wb177_43 hc, w0, w1, rI_wI, rP_wI, rL_wI, rI_wR, rP_wR, is_wI, is_wR, ia_wI, ia_wR, ow_wI, ow_wR, wn_add, wn_mul, wn_cl, wn_le, wn_lt, wn_inj, wn_ne1, wn_1ne, wn_gt1, wn_le1, nb0, nb1, am_kt, am_rt, List.cons_append, List.nil_append, true_and, and_true, not_true_eq_false, not_false_eq_true, imp_f, imp_t, implies_true, Nat.zero_add, if_true, if_false, false_and, and_false, Nat.le_refl]
    exact k G1 h1 k1
theorem ct150 (hsh : Sh G) (k : ∀ G', rEr G' δ0 → Kp (fun a _ => a = 337) G G' → post (.inl none) G') : am_C am_T (d + 1) 150 [.ref 334] G post := by
  have hc := am_C_one am_T d
  rw [we150]
  simp +decide (disch := omega) only [↓wm1, wb150_0 hc, w0, w1, w4, rI_wI, rP_wI, rL_wI, rI_wR, rP_wR, is_wI, is_wR, ia_wI, ia_wR, ow_wI, ow_wR, wn_add, wn_mul, wn_cl, wn_le, wn_lt, wn_inj, wn_ne1, wn_1ne, wn_gt1, wn_le1, nb0, nb1, am_kt, am_rt, List.cons_append, List.nil_append, true_and, and_true, not_true_eq_false, not_false_eq_true, imp_f, imp_t, implies_true, Nat.zero_add, if_true, if_false, false_and, and_false]
  refine am_for 4 (fun j ls G' => (∀ j', j' < j → am_gI G' 337 j' = wn 0) ∧ Kp (fun a _ => a = 337) G G' ∧ ls = [some (.ref 334), some (.int (wn j))]) ?_ ?_ 4 0 rfl _ _ ⟨fun j' z => by omega, Kp.refl G, rfl⟩
  · rintro j hj _ G1 ⟨h1, k1, rfl⟩ nx
    have c1 : ¬ 4 ≤ j := by omega
    have s1 := hsh.kp k1
    rw [wb150_2 hc]
    simp +decide (disch := omega) only [↓wm1, wb150_7 hc, w0, w1, w4, rI_wI, rP_wI, rL_wI, rI_wR, rP_wR, is_wI, is_wR, ia_wI, ia_wR, ow_wI, ow_wR, wn_add, wn_mul, wn_cl, wn_le, wn_lt, wn_inj, wn_ne1, wn_1ne, wn_gt1, wn_le1, nb0, nb1, am_kt, am_rt, List.cons_append, List.nil_append, true_and, and_true, not_true_eq_false, not_false_eq_true, imp_f, imp_t, implies_true, Nat.zero_add, if_true, if_false, false_and, and_false, c1, fM s1, ow337 s1, hj]
    refine nx _ _ ⟨fun j' z => ?_, k1.wI rfl _, rfl⟩
    rw [rI_wI]
    by_cases e : j' = j
    · rw [if_pos ⟨rfl, e⟩]
    · rw [if_neg (fun z => e z.2)]; exact h1 j' (by omega)
  · rintro _ G1 ⟨h1, k1, rfl⟩
    rw [wb150_2 hc]
    simp +decide (disch := omega) only [↓wm1, wb150_20 hc, w0, w1, w4, rI_wI, rP_wI, rL_wI, rI_wR, rP_wR, is_wI, is_wR, ia_wI, ia_wR, ow_wI, ow_wR, wn_add, wn_mul, wn_cl, wn_le, wn_lt, wn_inj, wn_ne1, wn_1ne, wn_gt1, wn_le1, nb0, nb1, am_kt, am_rt, List.cons_append, List.nil_append, true_and, and_true, not_true_eq_false, not_false_eq_true, imp_f, imp_t, implies_true, Nat.zero_add, if_true, if_false, false_and, and_false, Nat.le_refl]
    exact k G1 ⟨h1 0 (by decide), h1 1 (by decide), h1 2 (by decide), h1 3 (by decide), fun b hb => absurd hb (Nat.not_lt_zero b), fun b hb => absurd hb (Nat.not_lt_zero b), fun b hb => absurd hb (Nat.not_lt_zero b)⟩ k1
theorem ent_Z {dm j : Nat} : ent (sZ dm) j = if j = 94 then dm else 0 := by
  have hb : ∀ b, bt 0 b = 0 := fun b => by unfold bt; rw [Nat.zero_div]
  show (if j < 6 then 0 else if j < 12 then bt 0 (j - 6) else if j < 18 then bt 0 (j - 12) else if j < 24 then 0 else if j < 94 then 0 else if j = 94 then dm else 0) = _
  rw [hb, hb]
  repeat' split
  all_goals first | rfl | omega
/-- cells of a new town -/
def NT : Nat → Nat → Prop := fun a i => a = 338 ∨ (347 ≤ a ∧ a ≤ 352) ∨ (362 ≤ a ∧ a ≤ 368) ∨ (379 ≤ a ∧ a ≤ 386) ∨ a = 808 ∨ (a = 334 ∧ (i = 19 ∨ (33 ≤ i ∧ i ≤ 36)))
theorem ct179 {δ : Dt} (hsh : Sh G) (hr : rEr G δ) (hv : vD δ) (k : ∀ G', rE G' δ → rW G' 808 0 (sZ (dW δ)) → am_gI G' 334 19 = wn 0 → am_gI G' 334 33 = wn 0 → am_gI G' 334 34 = wn 0 → am_gI G' 334 35 = wn 0 → am_gI G' 334 36 = wn 0 → Kp NT G G' → post (.inl none) G') : am_C am_T (d + 2) 179 [.ref 334] G post := by
  have hc := am_C_one am_T (d + 1)
  obtain ⟨r0, r1, r2, r3, r4, r5, r6⟩ := hr
  rw [we179]
  simp +decide (disch := omega) only [↓wm1, wb179_0 hc, w0, w1, w2, w3, w4, w94, w96, rI_wI, rP_wI, rL_wI, rI_wR, rP_wR, is_wI, is_wR, ia_wI, ia_wR, ow_wI, ow_wR, wn_add, wn_mul, wn_cl, wn_le, wn_lt, wn_inj, wn_ne1, wn_1ne, wn_gt1, wn_le1, nb0, nb1, am_kt, am_rt, List.cons_append, List.nil_append, true_and, and_true, not_true_eq_false, not_false_eq_true, imp_f, imp_t, implies_true, Nat.zero_add, if_true, if_false, false_and, and_false]
  refine am_for 4 (fun j ls G' => (∀ j', j' < j → am_gI G' 338 j' = am_gI G 337 j') ∧ Kp (fun a _ => a = 338) G G' ∧ ls = [some (.ref 334), some (.int (wn j))]) ?_ ?_ 4 0 rfl _ _ ⟨fun j' z => by omega, Kp.refl G, rfl⟩
  · rintro j hj _ G1 ⟨h1, k1, rfl⟩ nx
    have c1 : ¬ 4 ≤ j := by omega
    have s1 := hsh.kp k1
    have e1 : am_gI G1 337 j = am_gI G 337 j := k1.i (by omega)
    rw [wb179_2 hc]
    simp +decide (disch := omega) only [↓wm1, wb179_7 hc, w0, w1, w2, w3, w4, w94, w96, rI_wI, rP_wI, rL_wI, rI_wR, rP_wR, is_wI, is_wR, ia_wI, ia_wR, ow_wI, ow_wR, wn_add, wn_mul, wn_cl, wn_le, wn_lt, wn_inj, wn_ne1, wn_1ne, wn_gt1, wn_le1, nb0, nb1, am_kt, am_rt, List.cons_append, List.nil_append, true_and, and_true, not_true_eq_false, not_false_eq_true, imp_f, imp_t, implies_true, Nat.zero_add, if_true, if_false, false_and, and_false, c1, fM s1, ia337 s1, ow338 s1, hj, e1]
    refine nx _ _ ⟨fun j' z => ?_, k1.wI rfl _, rfl⟩
    rw [rI_wI]
    by_cases e : j' = j
    · rw [if_pos ⟨rfl, e⟩, e]
    · rw [if_neg (fun z => e z.2)]; exact h1 j' (by omega)
  · rintro _ G1 ⟨h1, k1, rfl⟩
    have s1 := hsh.kp k1
    have b1 : am_gI G1 338 0 = wn (dB δ) := by rw [h1 0 (by decide)]; exact r0
    have b2 : am_gI G1 338 1 = wn (dH δ) := by rw [h1 1 (by decide)]; exact r1
    have b3 : am_gI G1 338 2 = wn (dD δ) := by rw [h1 2 (by decide)]; exact r2
    have b4 : am_gI G1 338 3 = wn (dW δ) := by rw [h1 3 (by decide)]; exact r3
    rw [wb179_2 hc]
    simp +decide (disch := omega) only [↓wm1, wb179_25 hc, w0, w1, w2, w3, w4, w94, w96, rI_wI, rP_wI, rL_wI, rI_wR, rP_wR, is_wI, is_wR, ia_wI, ia_wR, ow_wI, ow_wR, wn_add, wn_mul, wn_cl, wn_le, wn_lt, wn_inj, wn_ne1, wn_1ne, wn_gt1, wn_le1, nb0, nb1, am_kt, am_rt, List.cons_append, List.nil_append, true_and, and_true, not_true_eq_false, not_false_eq_true, imp_f, imp_t, implies_true, Nat.zero_add, if_true, if_false, false_and, and_false, Nat.le_refl, fM s1, ia338 s1, b1]
    refine ct177 (A := 339) (B := 346) (N := 6) (L := 2) s1 kr339 kr346 (by decide) (by decide) (by decide) (by decide) hv.1 (by decide) (fun G2 g2 k2 => ?_)
    have s2 := s1.kp k2
    have b2' : am_gI G2 338 1 = wn (dH δ) := by rw [k2.i (by omega)]; exact b2
    simp +decide (disch := omega) only [↓wm1, wb179_42 hc, w0, w1, w2, w3, w4, w94, w96, rI_wI, rP_wI, rL_wI, rI_wR, rP_wR, is_wI, is_wR, ia_wI, ia_wR, ow_wI, ow_wR, wn_add, wn_mul, wn_cl, wn_le, wn_lt, wn_inj, wn_ne1, wn_1ne, wn_gt1, wn_le1, nb0, nb1, am_kt, am_rt, List.cons_append, List.nil_append, true_and, and_true, not_true_eq_false, not_false_eq_true, imp_f, imp_t, implies_true, Nat.zero_add, if_true, if_false, false_and, and_false, fM s2, ia338 s2, b2']
    refine ct177 (A := 353) (B := 361) (N := 7) (L := 2) s2 kr353 kr361 (by decide) (by decide) (by decide) (by decide) hv.2.1 (by decide) (fun G3 g3 k3 => ?_)
    have s3 := s2.kp k3
    have b3' : am_gI G3 338 2 = wn (dD δ) := by rw [k3.i (by omega), k2.i (by omega)]; exact b3
    simp +decide (disch := omega) only [↓wm1, wb179_59 hc, w0, w1, w2, w3, w4, w94, w96, rI_wI, rP_wI, rL_wI, rI_wR, rP_wR, is_wI, is_wR, ia_wI, ia_wR, ow_wI, ow_wR, wn_add, wn_mul, wn_cl, wn_le, wn_lt, wn_inj, wn_ne1, wn_1ne, wn_gt1, wn_le1, nb0, nb1, am_kt, am_rt, List.cons_append, List.nil_append, true_and, and_true, not_true_eq_false, not_false_eq_true, imp_f, imp_t, implies_true, Nat.zero_add, if_true, if_false, false_and, and_false, fM s3, ia338 s3, b3']
    refine ct177 (A := 369) (B := 378) (N := 8) (L := 3) s3 kr369 kr378 (by decide) (by decide) (by decide) (by decide) hv.2.2.1 (by decide) (fun G4 g4 k4 => ?_)
    have s4 := s3.kp k4
    have kk : Kp NT G G4 := (((k1.mono (fun a i z => show NT a i from Or.inl z)).trans (k2.mono (fun a i z => by unfold NT; omega))).trans (k3.mono (fun a i z => by unfold NT; omega))).trans (k4.mono (fun a i z => by unfold NT; omega))
    have E4 : rE G4 δ := by
      refine ⟨?_, ?_, ?_, ?_, fun b hb => ?_, fun b hb => ?_, fun b hb => ?_⟩
      · rw [k4.i (by omega), k3.i (by omega), k2.i (by omega)]; exact b1
      · rw [k4.i (by omega), k3.i (by omega), k2.i (by omega)]; exact b2
      · rw [k4.i (by omega), k3.i (by omega), k2.i (by omega)]; exact b3
      · rw [k4.i (by omega), k3.i (by omega), k2.i (by omega)]; exact b4
      · have hB := hv.1
        have e := fun i hi => g2 b i hb hi
        have c := r4 b hb
        refine ⟨?_, ?_⟩
        · rw [k4.i (by omega), k3.i (by omega), e 0 (by decide), k1.i (by omega)]; exact c.1
        · rw [k4.i (by omega), k3.i (by omega), e 1 (by decide), k1.i (by omega)]; exact c.2
      · have hB := hv.2.1
        have e := fun i hi => g3 b i hb hi
        have c := r5 b hb
        refine ⟨?_, ?_⟩
        · rw [k4.i (by omega), e 0 (by decide), k2.i (by omega), k1.i (by omega)]; exact c.1
        · rw [k4.i (by omega), e 1 (by decide), k2.i (by omega), k1.i (by omega)]; exact c.2
      · have hB := hv.2.2.1
        have e := fun i hi => g4 b i hb hi
        have c := r6 b hb
        refine ⟨?_, ?_, ?_⟩
        · rw [e 0 (by decide), k3.i (by omega), k2.i (by omega), k1.i (by omega)]; exact c.1
        · rw [e 1 (by decide), k3.i (by omega), k2.i (by omega), k1.i (by omega)]; exact c.2.1
        · rw [e 2 (by decide), k3.i (by omega), k2.i (by omega), k1.i (by omega)]; exact c.2.2
    simp +decide (disch := omega) only [↓wm1, wb179_76 hc, w0, w1, w2, w3, w4, w94, w96, rI_wI, rP_wI, rL_wI, rI_wR, rP_wR, is_wI, is_wR, ia_wI, ia_wR, ow_wI, ow_wR, wn_add, wn_mul, wn_cl, wn_le, wn_lt, wn_inj, wn_ne1, wn_1ne, wn_gt1, wn_le1, nb0, nb1, am_kt, am_rt, List.cons_append, List.nil_append, true_and, and_true, not_true_eq_false, not_false_eq_true, imp_f, imp_t, implies_true, Nat.zero_add, if_true, if_false, false_and, and_false]
    refine am_for 96 (fun j ls G' => (∀ j', j' < j → am_gI G' 808 j' = wn 0) ∧ Kp (fun a _ => a = 808) G4 G' ∧ ls = [some (.ref 334), some (.int (wn j))]) ?_ ?_ 96 0 rfl _ _ ⟨fun j' z => by omega, Kp.refl G4, rfl⟩
    · rintro j hj _ G5 ⟨h5, k5, rfl⟩ nx
      have c1 : ¬ 96 ≤ j := by omega
      have s5 := s4.kp k5
      rw [wb179_78 hc]
      simp +decide (disch := omega) only [↓wm1, wb179_84 hc, w0, w1, w2, w3, w4, w94, w96, rI_wI, rP_wI, rL_wI, rI_wR, rP_wR, is_wI, is_wR, ia_wI, ia_wR, ow_wI, ow_wR, wn_add, wn_mul, wn_cl, wn_le, wn_lt, wn_inj, wn_ne1, wn_1ne, wn_gt1, wn_le1, nb0, nb1, am_kt, am_rt, List.cons_append, List.nil_append, true_and, and_true, not_true_eq_false, not_false_eq_true, imp_f, imp_t, implies_true, Nat.zero_add, if_true, if_false, false_and, and_false, c1, fM s5, fR s5 h808, hj]
      refine nx _ _ ⟨fun j' z => ?_, k5.wI rfl _, rfl⟩
      rw [rI_wI]
      by_cases e : j' = j
      · rw [if_pos ⟨rfl, e⟩]
      · rw [if_neg (fun z => e z.2)]; exact h5 j' (by omega)
    · rintro _ G5 ⟨h5, k5, rfl⟩
      have s5 := s4.kp k5
      have b5 : am_gI G5 338 3 = wn (dW δ) := by rw [k5.i (by omega)]; exact E4.2.2.2.1
      rw [wb179_78 hc]
      simp +decide (disch := omega) only [↓wm1, wb179_97 hc, w0, w1, w2, w3, w4, w94, w96, rI_wI, rP_wI, rL_wI, rI_wR, rP_wR, is_wI, is_wR, ia_wI, ia_wR, ow_wI, ow_wR, wn_add, wn_mul, wn_cl, wn_le, wn_lt, wn_inj, wn_ne1, wn_1ne, wn_gt1, wn_le1, nb0, nb1, am_kt, am_rt, List.cons_append, List.nil_append, true_and, and_true, not_true_eq_false, not_false_eq_true, imp_f, imp_t, implies_true, Nat.zero_add, if_true, if_false, false_and, and_false, Nat.le_refl, fM s5, fR s5 h808, ia338 s5, b5]
      generalize hG6 : am_wI (am_wI (am_wI (am_wI (am_wI (am_wI G5 808 94 (wn (dW δ))) 334 19 (wn 0)) 334 33 (wn 0)) 334 34 (wn 0)) 334 35 (wn 0)) 334 36 (wn 0) = G6
      have k6 : Kp (fun a i => a = 808 ∨ (a = 334 ∧ (i = 19 ∨ (33 ≤ i ∧ i ≤ 36)))) G4 G6 := by
        rw [← hG6]
        exact ((((((k5.mono (fun a i z => Or.inl z)).wI (Or.inl rfl) _).wI (Or.inr ⟨rfl, by decide⟩) _).wI (Or.inr ⟨rfl, by decide⟩) _).wI (Or.inr ⟨rfl, by decide⟩) _).wI (Or.inr ⟨rfl, by decide⟩) _).wI (Or.inr ⟨rfl, by decide⟩) _
      refine k G6 (E4.eq hv (fun a i z1 z2 => k6.i (by omega))) (fun j hj => ?_) ?_ ?_ ?_ ?_ ?_ (kk.trans (k6.mono (fun a i z => by unfold NT; omega)))
      · rw [Nat.zero_add, ent_Z, ← hG6, rI_wI, if_neg (by omega), rI_wI, if_neg (by omega), rI_wI, if_neg (by omega), rI_wI, if_neg (by omega), rI_wI, if_neg (by omega), rI_wI]
        by_cases e : j = 94
        · rw [if_pos ⟨rfl, e⟩, if_pos e]
        · rw [if_neg (fun z => e z.2), if_neg e]; exact h5 j hj
      all_goals rw [← hG6]; simp [rI_wI]
end
theorem pcl_ok {t : Nat → Nat} {n p c q : Nat} {δ δ' : Dt} (hp : p ≤ n) (hv : vD δ) (e : pcl t n p c δ = .inr (q, δ')) : c ≠ 60 ∧ vD δ' := by
  unfold pcl at e
  split at e
  · cases e
  · rename_i k hk
    split at e
    · cases e
    · rename_i c1
      refine ⟨c1, ?_⟩
      rcases e1 : pbody t n (skb t n (lte t n p)) p δ k with x | x
      · rw [e1] at e; cases e
      · rw [e1] at e
        obtain ⟨q1, δ1⟩ := x
        have ok := pbody_ok (skb_le (lte_le hp)) hv e1
        simp only [pb] at e
        split at e
        · cases e
        · cases e; exact ok.2.2.2
/-- scratch of a text's reading -/
def SPR : Nat → Nat → Prop := fun a i => QSR a i ∨ (a = 334 ∧ (i = 1 ∨ i = 3))
section
variable {G G' : am_G} {d : Nat} {V : Vt}
theorem SPR_rs {a i : Nat} (h : SPR a i) : RS a i := by unfold SPR QSR at h; unfold RS; omega
theorem OR_bad {w cd : Nat} {v : Int32} (hR : RepR G V) (kp : Kp SPR G G') (e0 : am_gI G' 334 0 = wn 0) (e1 : am_gI G' 334 1 = wn 0) (e3 : am_gI G' 334 3 = wn w) : OR G (s_bad V w) cd (.inl v) (.inl (some (.int v))) G' := by
  obtain ⟨hsh, hv, tp, tm, di, im, bk, ct⟩ := hR.parts
  have hw := hv.2.2.2.2.2.2.1
  have hi3 := hv.2.2.2.2.2.2.2.2.1
  have hk7 := hv.2.2.2.2.2.2.2.2.2.2.1
  have e : ∀ a i, ¬ SPR a i → am_gI G' a i = am_gI G a i := fun a i z => kp.i z
  refine ⟨RepR.mk (hsh.kp kp) (vV_bad hv w) ⟨tp.1.kp kp (by intro i z; unfold SPR QSR at z; omega), e1, e3⟩ (tm.eq2 (fun a i z => e a i (by unfold SPR QSR; omega))) (DiR.eq di hw (fun a i z => e a i (by unfold SPR QSR; omega))) (ImR.eq im hi3 (fun a i z => e a i (by unfold SPR QSR; omega)))
    (LB.eq bk hk7 (fun a i z => e a i (by unfold SPR QSR; omega))) (CtR.eq ct (fun a i z => e a i (by unfold SPR QSR; omega))), kp.mono (fun a i z => SPR_rs z), rfl, e0⟩
theorem rf_dn_loop {n : Nat} {V0 : Vt} {G0 : am_G} {post : am_O → am_G → Prop} {t : Nat → Nat}
    (kok : ∀ (δ' : Dt) (G' : am_G), pds t n 61 (skb t n 0) 0 δ0 = .inr δ' → vD δ' → rQ G' t n n 0 → rEr G' δ' → Kp CS G0 G' → am_W (am_C am_T (d + 11)) am_176 post 71 [some (.ref 334), none] [] G')
    (kbad : ∀ (k w : Nat) (G' : am_G), pds t n 61 (skb t n 0) 0 δ0 = .inl (k, w) → fQ G' t n k w → Kp CS G0 G' → am_W (am_C am_T (d + 11)) am_176 post 71 [some (.ref 334), none] [] G') :
    ∀ (f p c : Nat) (δ : Dt) (G1 : am_G) (o1 : Option Value), f + c = 61 → c ≤ 60 → Sh G1 → rQ G1 t n p 0 → am_gI G1 334 4 = wn p → rEr G1 δ → vD δ → am_gI G1 334 7 = wn c → Kp CS G0 G1 →
      pds t n f p c δ = pds t n 61 (skb t n 0) 0 δ0 → am_W (am_C am_T (d + 11)) am_176 post 42 [some (.ref 334), o1] [] G1 := by
  have hc := am_C_one am_T (d + 11)
  intro f
  induction f with
  | zero => intro p c δ G1 o1 hf hc60; omega
  | succ f ih =>
    intro p c δ G1 o1 hf hc60 s1 h1 e4 r1 v1 h7 k1 he
    have hpn := h1.2.2.1
    have z2 := h1.2.2.2.2.2.2.1
    have z5 := h1.2.2.2.2.2.2.2.2.1
    have hn6 := h1.2.1
    simp only [pds] at he
    rw [wb176_42 hc]
    by_cases c1 : n ≤ p
    · rw [if_pos c1] at he
      have hpe : p = n := by omega
      subst hpe
      simp +decide (disch := omega) only [↓wm1, wb176_49 hc, w0, w1, rI_wI, rP_wI, rL_wI, rI_wR, rP_wR, is_wI, is_wR, ia_wI, ia_wR, ow_wI, ow_wR, wn_add, wn_mul, wn_cl, wn_le, wn_lt, wn_inj, wn_ne1, wn_1ne, wn_gt1, wn_le1, nb0, nb1, am_kt, am_rt, List.cons_append, List.nil_append, true_and, and_true, not_true_eq_false, not_false_eq_true, imp_f, imp_t, implies_true, Nat.zero_add, if_true, if_false, false_and, and_false, fM s1, z5, z2, e4, Nat.le_refl]
      exact kok δ G1 he.symm v1 h1 r1 k1
    · rw [if_neg c1] at he
      simp +decide (disch := omega) only [↓wm1, wb176_49 hc, wb176_60 hc, w0, w1, rI_wI, rP_wI, rL_wI, rI_wR, rP_wR, is_wI, is_wR, ia_wI, ia_wR, ow_wI, ow_wR, wn_add, wn_mul, wn_cl, wn_le, wn_lt, wn_inj, wn_ne1, wn_1ne, wn_gt1, wn_le1, nb0, nb1, am_kt, am_rt, List.cons_append, List.nil_append, true_and, and_true, not_true_eq_false, not_false_eq_true, imp_f, imp_t, implies_true, Nat.zero_add, if_true, if_false, false_and, and_false, fM s1, z5, z2, e4, c1]
      refine ct175 s1 h1 r1 v1 h7 hc60 (fun q δ' G2 e2 h2 r2 q7 k2 => ?_) (fun k w G2 e2 h2 k2 => ?_)
      · have s2 := s1.kp k2
        have ok := pcl_ok hpn v1 e2
        simp only [e2, pb] at he
        simp +decide (disch := omega) only [↓wm1, wb176_64 hc, w0, w1, rI_wI, rP_wI, rL_wI, rI_wR, rP_wR, is_wI, is_wR, ia_wI, ia_wR, ow_wI, ow_wR, wn_add, wn_mul, wn_cl, wn_le, wn_lt, wn_inj, wn_ne1, wn_1ne, wn_gt1, wn_le1, nb0, nb1, am_kt, am_rt, List.cons_append, List.nil_append, true_and, and_true, not_true_eq_false, not_false_eq_true, imp_f, imp_t, implies_true, Nat.zero_add, if_true, if_false, false_and, and_false, fM s2]
        refine ct159r s2 h2 (fun G3 h3 e3 k3 => ?_)
        have s3 := s2.kp k3
        simp +decide (disch := omega) only [↓wm1, wb176_68 hc, w0, w1, rI_wI, rP_wI, rL_wI, rI_wR, rP_wR, is_wI, is_wR, ia_wI, ia_wR, ow_wI, ow_wR, wn_add, wn_mul, wn_cl, wn_le, wn_lt, wn_inj, wn_ne1, wn_1ne, wn_gt1, wn_le1, nb0, nb1, am_kt, am_rt, List.cons_append, List.nil_append, true_and, and_true, not_true_eq_false, not_false_eq_true, imp_f, imp_t, implies_true, Nat.zero_add, if_true, if_false, false_and, and_false]
        refine ih q (c + 1) δ' G3 none (by omega) (by omega) s3 h3 e3 (r2.kp ok.2 k3 (by rintro a i z ⟨y, -⟩; omega)) ok.2 ?_ ((k1.trans k2).trans (k3.mono ?_)) he
        · rw [k3.i (by rintro ⟨-, z⟩; omega)]; exact q7
        · rintro a i ⟨rfl, rfl⟩; exact Or.inl ⟨rfl, by decide, by decide⟩
      · have s2 := s1.kp k2
        simp only [e2, pb] at he
        simp +decide (disch := omega) only [↓wm1, wb176_64 hc, w0, w1, rI_wI, rP_wI, rL_wI, rI_wR, rP_wR, is_wI, is_wR, ia_wI, ia_wR, ow_wI, ow_wR, wn_add, wn_mul, wn_cl, wn_le, wn_lt, wn_inj, wn_ne1, wn_1ne, wn_gt1, wn_le1, nb0, nb1, am_kt, am_rt, List.cons_append, List.nil_append, true_and, and_true, not_true_eq_false, not_false_eq_true, imp_f, imp_t, implies_true, Nat.zero_add, if_true, if_false, false_and, and_false, fM s2]
        refine ct159f s2 h2 (fun G3 h3 k3 => ?_)
        have s3 := s2.kp k3
        simp +decide (disch := omega) only [↓wm1, wb176_68 hc, w0, w1, rI_wI, rP_wI, rL_wI, rI_wR, rP_wR, is_wI, is_wR, ia_wI, ia_wR, ow_wI, ow_wR, wn_add, wn_mul, wn_cl, wn_le, wn_lt, wn_inj, wn_ne1, wn_1ne, wn_gt1, wn_le1, nb0, nb1, am_kt, am_rt, List.cons_append, List.nil_append, true_and, and_true, not_true_eq_false, not_false_eq_true, imp_f, imp_t, implies_true, Nat.zero_add, if_true, if_false, false_and, and_false]
        have y5 := h3.2.2.2.2.2.2.1
        have k0 : ¬ k = 0 := by have := h3.2.2.2.2.2.1; omega
        have k3' : k < 2147483648 := by have := h3.2.2.2.2.2.1; omega
        rw [wb176_42 hc]
        simp +decide (disch := omega) only [↓wm1, w0, w1, rI_wI, rP_wI, rL_wI, rI_wR, rP_wR, is_wI, is_wR, ia_wI, ia_wR, ow_wI, ow_wR, wn_add, wn_mul, wn_cl, wn_le, wn_lt, wn_inj, wn_ne1, wn_1ne, wn_gt1, wn_le1, nb0, nb1, am_kt, am_rt, List.cons_append, List.nil_append, true_and, and_true, not_true_eq_false, not_false_eq_true, imp_f, imp_t, implies_true, Nat.zero_add, if_true, if_false, false_and, and_false, fM s3, y5, k0]
        refine kbad k w G3 he.symm h3 ((k1.trans k2).trans (k3.mono ?_))
        rintro a i ⟨rfl, rfl⟩; exact Or.inl ⟨rfl, by decide, by decide⟩
end
section
variable {G G' : am_G} {d : Nat} {V : Vt}
theorem rf_dn {n : Nat} (hR : RepR G V) (hn : n ≤ vm V) : am_C am_T (d + 12) 176 [.ref 334, .int (wn n)] G (OR G (s_dn V n) 1 (.inl (q_dn V n))) := by
  have hc := am_C_one am_T (d + 11)
  obtain ⟨hsh, hv, tp, tm, di, im, bk, ct⟩ := hR.parts
  have hw := hv.2.2.2.2.2.2.1
  have hi3 := hv.2.2.2.2.2.2.2.2.1
  have hm6 := hv.2.1
  have n6 : n ≤ 600 := by omega
  have hvin := vin2_t (lo := 0) (Nat.zero_le n) (show n < vm V + 1 by omega) (by omega)
  have k0 := k0R G
  have s0 := hsh.kp k0
  have e0 := e0R G
  have t1 : am_gI (am_wI G 334 0 (wn 0)) 334 1 = wn (vm V) := by rw [rI_wI, if_neg (by decide)]; exact tp.2.1
  rw [we176]
  generalize hP : OR G _ _ _ = P
  rw [wb176_0 hc]
  generalize hG0 : am_wI G 334 0 (wn 0) = G0 at *
  have i0 : am_is G 334 12 := (fM hsh).1
  simp +decide (disch := omega) only [↓wm1, wb176_15 hc, wb176_22 hc, wb176_23 hc, wb176_28 hc, wb176_33 hc, w0, w1, rI_wI, rP_wI, rL_wI, rI_wR, rP_wR, is_wI, is_wR, ia_wI, ia_wR, ow_wI, ow_wR, wn_add, wn_mul, wn_cl, wn_le, wn_lt, wn_inj, wn_ne1, wn_1ne, wn_gt1, wn_le1, nb0, nb1, am_kt, am_rt, List.cons_append, List.nil_append, true_and, and_true, not_true_eq_false, not_false_eq_true, imp_f, imp_t, implies_true, Nat.zero_add, if_true, if_false, false_and, and_false, hG0, i0, fM s0, t1, ct153c, hvin, b01, ct152n s0 e0]
  refine ct171 s0 (t := vt V) (tp.1.kp k0 (by intro i z; unfold QSR at z; omega)) n6 (fun G1 r1 e41 e71 e61 k1 => ?_)
  have s1 := s0.kp k1
  simp +decide (disch := omega) only [↓wm1, wb176_38 hc, w0, w1, rI_wI, rP_wI, rL_wI, rI_wR, rP_wR, is_wI, is_wR, ia_wI, ia_wR, ow_wI, ow_wR, wn_add, wn_mul, wn_cl, wn_le, wn_lt, wn_inj, wn_ne1, wn_1ne, wn_gt1, wn_le1, nb0, nb1, am_kt, am_rt, List.cons_append, List.nil_append, true_and, and_true, not_true_eq_false, not_false_eq_true, imp_f, imp_t, implies_true, Nat.zero_add, if_true, if_false, false_and, and_false, fM s1]
  refine ct150 s1 (fun G2 r2 k2 => ?_)
  have s2 := s1.kp k2
  simp +decide (disch := omega) only [↓wm1, w0, w1, rI_wI, rP_wI, rL_wI, rI_wR, rP_wR, is_wI, is_wR, ia_wI, ia_wR, ow_wI, ow_wR, wn_add, wn_mul, wn_cl, wn_le, wn_lt, wn_inj, wn_ne1, wn_1ne, wn_gt1, wn_le1, nb0, nb1, am_kt, am_rt, List.cons_append, List.nil_append, true_and, and_true, not_true_eq_false, not_false_eq_true, imp_f, imp_t, implies_true, Nat.zero_add, if_true, if_false, false_and, and_false]
  have kk2 : Kp SPR G G2 := ((k0.mono (fun a i z => show SPR a i from Or.inl z)).trans (k1.mono (fun a i z => by unfold SPR QSR; omega))).trans (k2.mono (fun a i z => by unfold SPR QSR; omega))
  have z0 : am_gI G2 334 0 = wn 0 := by rw [k2.i (by omega), k1.i (by omega)]; exact e0
  refine rf_dn_loop (V0 := V) (G0 := G2) (t := vt V) (n := n) ?_ ?_ 61 (skb (vt V) n 0) 0 δ0 G2 _ rfl (by decide) s2 (r1.kp k2 (by intro a i z; omega)) (by rw [k2.i (by omega)]; exact e41) r2 vD0 (by rw [k2.i (by omega)]; exact e71) (Kp.refl G2) rfl
  · intro δ' G3 e3 v3 r3 d3 k3
    have s3 := s2.kp k3
    have z5 := r3.2.2.2.2.2.2.2.2.1
    have kk3 : Kp SPR G G3 := kk2.trans (k3.mono (fun a i z => by unfold CS at z; unfold SPR QSR; omega))
    simp +decide (disch := omega) only [↓wm1, wb176_71 hc, wb176_83 hc, w0, w1, rI_wI, rP_wI, rL_wI, rI_wR, rP_wR, is_wI, is_wR, ia_wI, ia_wR, ow_wI, ow_wR, wn_add, wn_mul, wn_cl, wn_le, wn_lt, wn_inj, wn_ne1, wn_1ne, wn_gt1, wn_le1, nb0, nb1, am_kt, am_rt, List.cons_append, List.nil_append, true_and, and_true, not_true_eq_false, not_false_eq_true, imp_f, imp_t, implies_true, Nat.zero_add, if_true, if_false, false_and, and_false, fM s3, z5]
    have k4 : Kp (fun a i => a = 334 ∧ i = 3) G3 (am_wI G3 334 3 mm) := (Kp.refl G3).wI ⟨rfl, rfl⟩ _
    refine ct179 (s3.kp k4) (d3.kp v3 k4 (by rintro a i z ⟨y, -⟩; omega)) v3 (fun G5 E5 w5 q19 q33 q34 q35 q36 k5 => ?_)
    have s5 := (s3.kp k4).kp k5
    have b5 := E5.1
    simp +decide (disch := omega) only [↓wm1, wb176_92 hc, w0, w1, rI_wI, rP_wI, rL_wI, rI_wR, rP_wR, is_wI, is_wR, ia_wI, ia_wR, ow_wI, ow_wR, wn_add, wn_mul, wn_cl, wn_le, wn_lt, wn_inj, wn_ne1, wn_1ne, wn_gt1, wn_le1, nb0, nb1, am_kt, am_rt, List.cons_append, List.nil_append, true_and, and_true, not_true_eq_false, not_false_eq_true, imp_f, imp_t, implies_true, Nat.zero_add, if_true, if_false, false_and, and_false, fM s5, ia338 s5, b5]
    rw [← hP]
    have hs : s_dn V n = s_dnew V δ' := by unfold s_dn; rw [e3]
    have hq2 : q_dn V n = wn (dB δ') := by unfold q_dn; rw [e3]
    rw [hs, hq2]
    have kk5 : Kp (fun a i => SPR a i ∨ NT a i) G G5 := ((kk3.mono (fun a i z => Or.inl z)).trans (k4.mono (fun a i z => Or.inl (by unfold SPR; omega)))).trans (k5.mono (fun a i z => Or.inr z))
    have e : ∀ a i, ¬ (SPR a i ∨ NT a i) → am_gI G5 a i = am_gI G a i := fun a i z => kk5.i z
    have l3 : ∀ i, i < 9 → i ≠ 3 → am_gI G5 334 i = am_gI G3 334 i := fun i h1 h2 => by rw [k5.i (by unfold NT; omega), k4.i (by omega)]
    refine ⟨RepR.mk s5 (vV_dnew hv v3) ⟨⟨hv.1, fun i hi => by rw [e _ _ (by unfold SPR QSR NT; omega)]; exact tp.1.2 i hi⟩, ?_, ?_⟩ ⟨E5, v3, ⟨q19, fun i t ht => by simp [s_dnew, vΛ, mkV] at ht⟩, Or.inl rfl⟩ ⟨w5, q34, fun i hi => absurd hi (Nat.not_lt_zero i)⟩ ⟨q36, fun i hi => absurd hi (Nat.not_lt_zero i)⟩ ⟨q33, fun i x hx => by simp [s_dnew, vk, mkV] at hx⟩ ⟨q35, ?_, ?_⟩, kk5.mono (fun a i z => ?_), rfl, ?_⟩
    · rw [l3 1 (by decide) (by decide)]; exact r3.2.2.2.2.2.1
    · rw [k5.i (by unfold NT; omega), rI_wI, if_pos ⟨rfl, rfl⟩]; rfl
    · rw [e _ _ (by unfold SPR QSR NT; omega)]; exact ct.2.1
    · rw [e _ _ (by unfold SPR QSR NT; omega)]; exact ct.2.2
    · unfold SPR QSR NT at z; unfold RS; omega
    · rw [l3 0 (by decide) (by decide), k3.i (by unfold CS; omega)]; exact z0
  · intro k w G3 e3 h3 k3
    have s3 := s2.kp k3
    have z5 := h3.2.2.2.2.2.2.1
    have c0 : ¬ k = 0 := by have := h3.2.2.2.2.2.1; omega
    have c3 : k < 2147483648 := by have := h3.2.2.2.2.2.1; omega
    have kk3 : Kp SPR G G3 := kk2.trans (k3.mono (fun a i z => by unfold CS at z; unfold SPR QSR; omega))
    simp +decide (disch := omega) only [↓wm1, wb176_71 hc, wb176_78 hc, wb176_82 hc, w0, w1, rI_wI, rP_wI, rL_wI, rI_wR, rP_wR, is_wI, is_wR, ia_wI, ia_wR, ow_wI, ow_wR, wn_add, wn_mul, wn_cl, wn_le, wn_lt, wn_inj, wn_ne1, wn_1ne, wn_gt1, wn_le1, nb0, nb1, am_kt, am_rt, List.cons_append, List.nil_append, true_and, and_true, not_true_eq_false, not_false_eq_true, imp_f, imp_t, implies_true, Nat.zero_add, if_true, if_false, false_and, and_false, fM s3, z5, c0, ct172 s3 h3]
    rw [← hP]
    have hs : s_dn V n = s_bad V w := by unfold s_dn; rw [e3]
    have hq2 : q_dn V n = wn k - wn 10 := by unfold q_dn; rw [e3]
    rw [hs, hq2]
    refine OR_bad hR (kk3.wI (Or.inr ⟨rfl, Or.inr rfl⟩) _) ?_ ?_ ?_
    · rw [rI_wI, if_neg (by decide), k3.i (by unfold CS; omega)]; exact z0
    · rw [rI_wI, if_neg (by decide)]; exact h3.2.2.1
    · rw [rI_wI, if_pos ⟨rfl, rfl⟩]
theorem rf_dist (hR : RepR G V) (x : Int32) : am_C am_T (d + 12) 176 [.ref 334, .int x] G (OR G (s_dist V x) 1 (q_dist V x)) := by
  have hm6 := hR.parts.2.1.2.1
  unfold s_dist q_dist
  rcases vin2_or x 0 (vm V + 1) (by decide) (by omega) with ⟨b, -, hb, rfl⟩ | hx
  · rw [vin2_t (lo := 0) (Nat.zero_le b) hb (by omega), if_pos rfl, if_pos rfl, wn_cl (by omega)]
    exact rf_dn hR (by omega)
  · have hv := vin2_f hx
    rw [hv, if_neg (by decide), if_neg (by decide)]
    have hc := am_C_one am_T (d + 11)
    have t1 : am_gI (am_wI G 334 0 (wn 0)) 334 1 = wn (vm V) := by rw [rI_wI, if_neg (by decide)]; exact hR.parts.2.2.1.2.1
    have s0 := hR.1.kp (k0R G)
    rw [we176]
    generalize hP : OR G _ _ _ = P
    simp +decide (disch := omega) only [↓wm1, wb176_0 hc, wb176_15 hc, wb176_18 hc, wb176_23 hc, wb176_28 hc, wb176_31 hc, w0, w1, rI_wI, rP_wI, rL_wI, rI_wR, rP_wR, is_wI, is_wR, ia_wI, ia_wR, ow_wI, ow_wR, wn_add, wn_mul, wn_cl, wn_le, wn_lt, wn_inj, wn_ne1, wn_1ne, wn_gt1, wn_le1, nb0, nb1, am_kt, am_rt, List.cons_append, List.nil_append, true_and, and_true, not_true_eq_false, not_false_eq_true, imp_f, imp_t, implies_true, Nat.zero_add, if_true, if_false, false_and, and_false, fM hR.1, t1, hR.parts.2.2.1.2.1, ct153c, hv, b01, Bool.false_eq_true, ct152y (c := 1) (r := 1) (by decide) (by decide) (by decide) s0 (e0R G)]
    rw [← hP]
    exact OR_8 hR (k0R G)
end
