/-! Images, the reference's side. -/
/-- a kept row: works, the state now, the states ahead -/
def kpr (w : Nat → Int32) (n : Nat → Int32) (b : Nat → Nat → Int32) (j : Nat) : Int32 := if j = 0 then w 0 else if j < 97 then n (j - 1) else b ((j - 97) / 96) ((j - 97) % 96)
theorem k3r : ∀ i, i < 3 → kk0[828 + i]? = some (100, 1633) ∧ (827, i, 828 + i) ∈ pp0 := by decide +kernel
theorem fr827 {G : am_G} (h : Sh G) : (∀ i, i < 3 → am_ra G 827 (wn i)) ∧ (∀ i, i < 3 → am_gP G 827 i = 828 + i) ∧ (∀ i, i < 3 → 828 + i < 90000) ∧ (∀ i j, i < 3 → j < 1633 → am_ia G (828 + i) (wn j)) ∧ ∀ i j, i < 3 → j < 1633 → am_ow G (828 + i) (wn j) 100 :=
  ⟨fun i hi => h.ra (n := 3) (by decide +kernel) hi (by decide), fun i hi => h.2 _ (k3r i hi).2, fun i hi => by omega, fun i j hi hj => h.ia (k3r i hi).1 hj (by decide), fun i j hi hj => h.ow (k3r i hi).1 hj (by decide)⟩
section
variable {G : am_G} {d : Nat} {V : Vt} {post : am_O → am_G → Prop}
theorem ct263p {m s : Nat} {v : Int32} (hsh : Sh G) (hm : m < 3) (hs : s < 1633) (e : am_gI G 334 37 = wn s) : am_C am_T (d + 1) 263 [.ref 334, .ref (828 + m), .int v, .int (wn 0)] G post ↔ post (.inl (some (.int v))) (am_wI (am_wI G (828 + m) s v) 334 37 (wn (s + 1))) := by
  have hc := am_C_one am_T d
  have e1 : wn (s + 1) - wn 1 = wn s := by rw [wn_sub (by omega)]; rfl
  have n1 : ¬ 334 = 828 + m := by omega
  have n2 : ¬ 828 + m = 334 := by omega
  rw [we263]
  simp +decide (disch := omega) only [↓wm1, wb263_0 hc, wb263_4 hc, wb263_11 hc, w0, w1, rI_wI, rP_wI, rL_wI, rI_wR, rP_wR, is_wI, is_wR, ia_wI, ia_wR, ow_wI, ow_wR, wn_add, wn_mul, wn_cl, wn_le, wn_lt, wn_inj, wn_ne1, wn_1ne, wn_gt1, wn_le1, nb0, nb1, am_kt, am_rt, List.cons_append, List.nil_append, true_and, and_true, not_true_eq_false, not_false_eq_true, imp_f, imp_t, implies_true, Nat.zero_add, if_true, if_false, false_and, and_false, fM hsh, e, fr827 hsh, e1, n1, n2]
theorem ct263b {m s : Nat} {v : Int32} (hsh : Sh G) (hm : m < 3) (hs : s < 1633) (e : am_gI G 334 37 = wn s) : am_C am_T (d + 1) 263 [.ref 334, .ref (828 + m), .int v, .int (wn 1)] G post ↔ post (.inl (some (.int (am_gI G (828 + m) s)))) (am_wI G 334 37 (wn (s + 1))) := by
  have hc := am_C_one am_T d
  have e1 : wn (s + 1) - wn 1 = wn s := by rw [wn_sub (by omega)]; rfl
  have n1 : ¬ 334 = 828 + m := by omega
  have n2 : ¬ 828 + m = 334 := by omega
  rw [we263]
  simp +decide (disch := omega) only [↓wm1, wb263_0 hc, wb263_4 hc, wb263_11 hc, w0, w1, rI_wI, rP_wI, rL_wI, rI_wR, rP_wR, is_wI, is_wR, ia_wI, ia_wR, ow_wI, ow_wR, wn_add, wn_mul, wn_cl, wn_le, wn_lt, wn_inj, wn_ne1, wn_1ne, wn_gt1, wn_le1, nb0, nb1, am_kt, am_rt, List.cons_append, List.nil_append, true_and, and_true, not_true_eq_false, not_false_eq_true, imp_f, imp_t, implies_true, Nat.zero_add, if_true, if_false, false_and, and_false, fM hsh, e, fr827 hsh, e1, n1, n2]
theorem Kp.wS {Sc : Nat → Nat → Prop} {G1 : am_G} (h : Kp Sc G G1) {a i : Nat} {v : Int32} (hv : v = am_gI G a i) : Kp Sc G (am_wI G1 a i v) := by
  refine ⟨h.1, h.2.1, h.2.2.1, h.2.2.2.1, fun b j hb => ?_, h.2.2.2.2.2⟩
  rw [rI_wI]
  by_cases e : b = a ∧ j = i
  · rw [if_pos e, hv, e.1, e.2]
  · rw [if_neg e]; exact h.2.2.2.2.1 b j hb
/-- what is kept -/
def KT (G : am_G) (t : Nat) : Int32 := if t = 0 then am_gI G 334 34 else if t < 97 then am_gI G 808 (t - 1) else am_gI G (811 + (t - 97) / 96) ((t - 97) % 96)
theorem KT_0 (G : am_G) : KT G 0 = am_gI G 334 34 := rfl
theorem KT_n (G : am_G) {j : Nat} (h : j < 96) : KT G (1 + j) = am_gI G 808 j := by
  unfold KT
  rw [if_neg (by omega), if_pos (by omega), Nat.add_sub_cancel_left]
theorem KT_b (G : am_G) {i j : Nat} (h : j < 96) : KT G (97 + 96 * i + j) = am_gI G (811 + i) j := by
  unfold KT
  rw [if_neg (by omega), if_neg (by omega), show 97 + 96 * i + j - 97 = 96 * i + j by omega, show (96 * i + j) / 96 = i by omega, show (96 * i + j) % 96 = j by omega]
def PT4 (m : Nat) : Nat → Nat → Prop := fun a i => a = 828 + m ∨ (a = 334 ∧ i = 37)
theorem ct264p {m : Nat} (hsh : Sh G) (hm : m < 3) (k : ∀ G', (∀ t, t < 1633 → am_gI G' (828 + m) t = KT G t) → Kp (PT4 m) G G' → post (.inl none) G') : am_C am_T (d + 2) 264 [.ref 334, .ref (828 + m), .int (wn 0)] G post := by
  have hc := am_C_one am_T (d + 1)
  -- one more is kept
  have put : ∀ (G1 : am_G) (s : Nat) (v : Int32), Kp (PT4 m) G G1 → (∀ t, t < s → am_gI G1 (828 + m) t = KT G t) → v = KT G s → Kp (PT4 m) G (am_wI (am_wI G1 (828 + m) s v) 334 37 (wn (s + 1))) ∧ (∀ t, t < s + 1 → am_gI (am_wI (am_wI G1 (828 + m) s v) 334 37 (wn (s + 1))) (828 + m) t = KT G t) ∧ am_gI (am_wI (am_wI G1 (828 + m) s v) 334 37 (wn (s + 1))) 334 37 = wn (s + 1) := by
    intro G1 s v k1 h1 hv
    refine ⟨(k1.wI (Or.inl rfl) _).wI (Or.inr ⟨rfl, rfl⟩) _, fun t ht => ?_, by rw [rI_wI, if_pos ⟨rfl, rfl⟩]⟩
    rw [rI_wI, if_neg (by omega), rI_wI]
    by_cases e : t = s
    · rw [if_pos ⟨rfl, e⟩, e, hv]
    · rw [if_neg (fun z => e z.2)]; exact h1 t (by omega)
  have wS : ∀ (G1 : am_G) (a i s : Nat) (v : Int32), Kp (PT4 m) G G1 → (∀ t, t < s → am_gI G1 (828 + m) t = KT G t) → am_gI G1 334 37 = wn s → v = am_gI G a i → ¬ PT4 m a i → a ≠ 828 + m → ¬ (a = 334 ∧ i = 37) → Kp (PT4 m) G (am_wI G1 a i v) ∧ (∀ t, t < s → am_gI (am_wI G1 a i v) (828 + m) t = KT G t) ∧ am_gI (am_wI G1 a i v) 334 37 = wn s := by
    intro G1 a i s v k1 h1 e1 hv hn ha hb
    exact ⟨k1.wS hv, fun t ht => by rw [rI_wI, if_neg (by omega)]; exact h1 t ht, by rw [rI_wI, if_neg (by omega)]; exact e1⟩
  have k0 : Kp (PT4 m) G (am_wI G 334 37 (wn 0)) := (Kp.refl G).wI (Or.inr ⟨rfl, rfl⟩) _
  have e0 : am_gI (am_wI G 334 37 (wn 0)) 334 37 = wn 0 := by rw [rI_wI, if_pos ⟨rfl, rfl⟩]
  have s0 := hsh.kp k0
  rw [we264]
  simp +decide (disch := omega) only [↓wm1, wb264_0 hc, w0, w1, w16, w96, rI_wI, rP_wI, rL_wI, rI_wR, rP_wR, is_wI, is_wR, ia_wI, ia_wR, ow_wI, ow_wR, wn_add, wn_mul, wn_cl, wn_le, wn_lt, wn_inj, wn_ne1, wn_1ne, wn_gt1, wn_le1, nb0, nb1, am_kt, am_rt, List.cons_append, List.nil_append, true_and, and_true, not_true_eq_false, not_false_eq_true, imp_f, imp_t, implies_true, Nat.zero_add, if_true, if_false, false_and, and_false, fM hsh]
  generalize hG0 : am_wI G 334 37 (wn 0) = G0 at k0 e0 s0 ⊢
  rw [ct263p s0 hm (show 0 < 1633 by decide) e0]
  obtain ⟨k1, h1, e1⟩ := put G0 0 (am_gI G 334 34) k0 (fun t ht => by omega) rfl
  generalize am_wI (am_wI G0 (828 + m) 0 (am_gI G 334 34)) 334 37 (wn (0 + 1)) = G1 at k1 h1 e1 ⊢
  have s1 := hsh.kp k1
  simp +decide (disch := omega) only [↓wm1, wb264_16 hc, w0, w1, w16, w96, rI_wI, rP_wI, rL_wI, rI_wR, rP_wR, is_wI, is_wR, ia_wI, ia_wR, ow_wI, ow_wR, wn_add, wn_mul, wn_cl, wn_le, wn_lt, wn_inj, wn_ne1, wn_1ne, wn_gt1, wn_le1, nb0, nb1, am_kt, am_rt, List.cons_append, List.nil_append, true_and, and_true, not_true_eq_false, not_false_eq_true, imp_f, imp_t, implies_true, Nat.zero_add, if_true, if_false, false_and, and_false, fM s1]
  obtain ⟨k2, h2, e2⟩ := wS G1 334 34 1 (am_gI G 334 34) k1 h1 e1 rfl (by unfold PT4; omega) (by omega) (by omega)
  refine am_for 96 (fun j ls G3 => Kp (PT4 m) G G3 ∧ (∀ t, t < 1 + j → am_gI G3 (828 + m) t = KT G t) ∧ am_gI G3 334 37 = wn (1 + j) ∧ ls = [some (.ref 334), some (.ref (828 + m)), some (.int (wn 0)), some (.int (wn j)), none]) ?_ ?_ 96 0 rfl _ _ ⟨k2, h2, e2, rfl⟩
  · rintro j hj _ G3 ⟨k3, h3, e3, rfl⟩ nx
    have c1 : ¬ 96 ≤ j := by omega
    have s3 := hsh.kp k3
    have ev : am_gI G3 808 j = am_gI G 808 j := k3.i (by unfold PT4; omega)
    rw [wb264_21 hc]
    simp +decide (disch := omega) only [↓wm1, wb264_27 hc, w0, w1, w16, w96, rI_wI, rP_wI, rL_wI, rI_wR, rP_wR, is_wI, is_wR, ia_wI, ia_wR, ow_wI, ow_wR, wn_add, wn_mul, wn_cl, wn_le, wn_lt, wn_inj, wn_ne1, wn_1ne, wn_gt1, wn_le1, nb0, nb1, am_kt, am_rt, List.cons_append, List.nil_append, true_and, and_true, not_true_eq_false, not_false_eq_true, imp_f, imp_t, implies_true, Nat.zero_add, if_true, if_false, false_and, and_false, fM s3, c1, fR s3 h808, ev]
    rw [ct263p s3 hm (show 1 + j < 1633 by omega) e3]
    obtain ⟨k4, h4, e4⟩ := put G3 (1 + j) (am_gI G 808 j) k3 h3 (KT_n G hj).symm
    generalize am_wI (am_wI G3 (828 + m) (1 + j) (am_gI G 808 j)) 334 37 (wn (1 + j + 1)) = G4 at k4 h4 e4 ⊢
    have s4 := hsh.kp k4
    simp +decide (disch := omega) only [↓wm1, wb264_44 hc, w0, w1, w16, w96, rI_wI, rP_wI, rL_wI, rI_wR, rP_wR, is_wI, is_wR, ia_wI, ia_wR, ow_wI, ow_wR, wn_add, wn_mul, wn_cl, wn_le, wn_lt, wn_inj, wn_ne1, wn_1ne, wn_gt1, wn_le1, nb0, nb1, am_kt, am_rt, List.cons_append, List.nil_append, true_and, and_true, not_true_eq_false, not_false_eq_true, imp_f, imp_t, implies_true, Nat.zero_add, if_true, if_false, false_and, and_false, fM s4, fR s4 h808]
    obtain ⟨k5, h5, e5⟩ := wS G4 808 j (1 + j + 1) (am_gI G 808 j) k4 h4 e4 rfl (by unfold PT4; omega) (by omega) (by omega)
    exact nx _ _ ⟨k5, h5, e5, rfl⟩
  · rintro _ G3 ⟨k3, h3, e3, rfl⟩
    rw [wb264_21 hc]
    simp +decide (disch := omega) only [↓wm1, wb264_51 hc, w0, w1, w16, w96, rI_wI, rP_wI, rL_wI, rI_wR, rP_wR, is_wI, is_wR, ia_wI, ia_wR, ow_wI, ow_wR, wn_add, wn_mul, wn_cl, wn_le, wn_lt, wn_inj, wn_ne1, wn_1ne, wn_gt1, wn_le1, nb0, nb1, am_kt, am_rt, List.cons_append, List.nil_append, true_and, and_true, not_true_eq_false, not_false_eq_true, imp_f, imp_t, implies_true, Nat.zero_add, if_true, if_false, false_and, and_false, Nat.le_refl]
    refine am_for 16 (fun i ls G4 => Kp (PT4 m) G G4 ∧ (∀ t, t < 97 + 96 * i → am_gI G4 (828 + m) t = KT G t) ∧ am_gI G4 334 37 = wn (97 + 96 * i) ∧ ls = [some (.ref 334), some (.ref (828 + m)), some (.int (wn 0)), some (.int (wn i)), none]) ?_ ?_ 16 0 rfl _ _ ⟨k3, h3, e3, rfl⟩
    · rintro i hi _ G4 ⟨k4, h4, e4, rfl⟩ nx
      have c1 : ¬ 16 ≤ i := by omega
      rw [wb264_53 hc]
      simp +decide (disch := omega) only [↓wm1, wb264_59 hc, w0, w1, w16, w96, rI_wI, rP_wI, rL_wI, rI_wR, rP_wR, is_wI, is_wR, ia_wI, ia_wR, ow_wI, ow_wR, wn_add, wn_mul, wn_cl, wn_le, wn_lt, wn_inj, wn_ne1, wn_1ne, wn_gt1, wn_le1, nb0, nb1, am_kt, am_rt, List.cons_append, List.nil_append, true_and, and_true, not_true_eq_false, not_false_eq_true, imp_f, imp_t, implies_true, Nat.zero_add, if_true, if_false, false_and, and_false, c1]
      refine am_for 96 (fun j ls G5 => Kp (PT4 m) G G5 ∧ (∀ t, t < 97 + 96 * i + j → am_gI G5 (828 + m) t = KT G t) ∧ am_gI G5 334 37 = wn (97 + 96 * i + j) ∧ ls = [some (.ref 334), some (.ref (828 + m)), some (.int (wn 0)), some (.int (wn i)), some (.int (wn j))]) ?_ ?_ 96 0 rfl _ _ ⟨k4, h4, e4, rfl⟩
      · rintro j hj _ G5 ⟨k5, h5, e5, rfl⟩ nx2
        have c2 : ¬ 96 ≤ j := by omega
        have s5 := hsh.kp k5
        have ev : am_gI G5 (811 + i) j = am_gI G (811 + i) j := k5.i (by unfold PT4; omega)
        rw [wb264_62 hc]
        simp +decide (disch := omega) only [↓wm1, wb264_69 hc, w0, w1, w16, w96, rI_wI, rP_wI, rL_wI, rI_wR, rP_wR, is_wI, is_wR, ia_wI, ia_wR, ow_wI, ow_wR, wn_add, wn_mul, wn_cl, wn_le, wn_lt, wn_inj, wn_ne1, wn_1ne, wn_gt1, wn_le1, nb0, nb1, am_kt, am_rt, List.cons_append, List.nil_append, true_and, and_true, not_true_eq_false, not_false_eq_true, imp_f, imp_t, implies_true, Nat.zero_add, if_true, if_false, false_and, and_false, fM s5, c2, fr810 s5, fR s5 (mrw hi), ev]
        rw [ct263p s5 hm (show 97 + 96 * i + j < 1633 by omega) e5]
        obtain ⟨k6, h6, e6⟩ := put G5 (97 + 96 * i + j) (am_gI G (811 + i) j) k5 h5 (KT_b G hj).symm
        generalize am_wI (am_wI G5 (828 + m) (97 + 96 * i + j) (am_gI G (811 + i) j)) 334 37 (wn (97 + 96 * i + j + 1)) = G6 at k6 h6 e6 ⊢
        have s6 := hsh.kp k6
        simp +decide (disch := omega) only [↓wm1, wb264_92 hc, w0, w1, w16, w96, rI_wI, rP_wI, rL_wI, rI_wR, rP_wR, is_wI, is_wR, ia_wI, ia_wR, ow_wI, ow_wR, wn_add, wn_mul, wn_cl, wn_le, wn_lt, wn_inj, wn_ne1, wn_1ne, wn_gt1, wn_le1, nb0, nb1, am_kt, am_rt, List.cons_append, List.nil_append, true_and, and_true, not_true_eq_false, not_false_eq_true, imp_f, imp_t, implies_true, Nat.zero_add, if_true, if_false, false_and, and_false, fM s6, fR s6 (mrw hi)]
        obtain ⟨k7, h7, e7⟩ := wS G6 (811 + i) j (97 + 96 * i + j + 1) (am_gI G (811 + i) j) k6 h6 e6 rfl (by unfold PT4; omega) (by omega) (by omega)
        exact nx2 _ _ ⟨k7, h7, e7, rfl⟩
      · rintro _ G5 ⟨k5, h5, e5, rfl⟩
        rw [wb264_62 hc]
        simp +decide (disch := omega) only [↓wm1, wb264_99 hc, w0, w1, w16, w96, rI_wI, rP_wI, rL_wI, rI_wR, rP_wR, is_wI, is_wR, ia_wI, ia_wR, ow_wI, ow_wR, wn_add, wn_mul, wn_cl, wn_le, wn_lt, wn_inj, wn_ne1, wn_1ne, wn_gt1, wn_le1, nb0, nb1, am_kt, am_rt, List.cons_append, List.nil_append, true_and, and_true, not_true_eq_false, not_false_eq_true, imp_f, imp_t, implies_true, Nat.zero_add, if_true, if_false, false_and, and_false, Nat.le_refl]
        have e : 97 + 96 * i + 96 = 97 + 96 * (i + 1) := by omega
        rw [e] at h5 e5
        exact nx _ _ ⟨k5, h5, e5, rfl⟩
    · rintro _ G4 ⟨k4, h4, e4, rfl⟩
      rw [wb264_53 hc]
      simp +decide (disch := omega) only [↓wm1, wb264_105 hc, w0, w1, w16, w96, rI_wI, rP_wI, rL_wI, rI_wR, rP_wR, is_wI, is_wR, ia_wI, ia_wR, ow_wI, ow_wR, wn_add, wn_mul, wn_cl, wn_le, wn_lt, wn_inj, wn_ne1, wn_1ne, wn_gt1, wn_le1, nb0, nb1, am_kt, am_rt, List.cons_append, List.nil_append, true_and, and_true, not_true_eq_false, not_false_eq_true, imp_f, imp_t, implies_true, Nat.zero_add, if_true, if_false, false_and, and_false, Nat.le_refl]
      exact k G4 h4 k4
def BT4 : Nat → Nat → Prop := fun a i => (a = 334 ∧ (i = 34 ∨ i = 37)) ∨ a = 808 ∨ (811 ≤ a ∧ a ≤ 826)
theorem ct264b {m : Nat} (hsh : Sh G) (hm : m < 3) (k : ∀ G', am_gI G' 334 34 = am_gI G (828 + m) 0 → (∀ j, j < 96 → am_gI G' 808 j = am_gI G (828 + m) (1 + j)) → (∀ i j, i < 16 → j < 96 → am_gI G' (811 + i) j = am_gI G (828 + m) (97 + 96 * i + j)) → Kp BT4 G G' → post (.inl none) G') : am_C am_T (d + 2) 264 [.ref 334, .ref (828 + m), .int (wn 1)] G post := by
  have hc := am_C_one am_T (d + 1)
  have k0 : Kp BT4 G (am_wI G 334 37 (wn 0)) := (Kp.refl G).wI (Or.inl ⟨rfl, Or.inr rfl⟩) _
  have e0 : am_gI (am_wI G 334 37 (wn 0)) 334 37 = wn 0 := by rw [rI_wI, if_pos ⟨rfl, rfl⟩]
  have s0 := hsh.kp k0
  have r : ∀ {G1 : am_G} (t : Nat), Kp BT4 G G1 → am_gI G1 (828 + m) t = am_gI G (828 + m) t := fun t z => z.i (by unfold BT4; omega)
  rw [we264]
  simp +decide (disch := omega) only [↓wm1, wb264_0 hc, w0, w1, w16, w96, rI_wI, rP_wI, rL_wI, rI_wR, rP_wR, is_wI, is_wR, ia_wI, ia_wR, ow_wI, ow_wR, wn_add, wn_mul, wn_cl, wn_le, wn_lt, wn_inj, wn_ne1, wn_1ne, wn_gt1, wn_le1, nb0, nb1, am_kt, am_rt, List.cons_append, List.nil_append, true_and, and_true, not_true_eq_false, not_false_eq_true, imp_f, imp_t, implies_true, Nat.zero_add, if_true, if_false, false_and, and_false, fM hsh]
  generalize hG0 : am_wI G 334 37 (wn 0) = G0 at k0 e0 s0 ⊢
  rw [ct263b s0 hm (show 0 < 1633 by decide) e0, r 0 k0]
  have k1 : Kp BT4 G (am_wI G0 334 37 (wn (0 + 1))) := k0.wI (Or.inl ⟨rfl, Or.inr rfl⟩) _
  have e1 : am_gI (am_wI G0 334 37 (wn (0 + 1))) 334 37 = wn 1 := by rw [rI_wI, if_pos ⟨rfl, rfl⟩]
  generalize am_wI G0 334 37 (wn (0 + 1)) = G1 at k1 e1 ⊢
  have s1 := hsh.kp k1
  simp +decide (disch := omega) only [↓wm1, wb264_16 hc, w0, w1, w16, w96, rI_wI, rP_wI, rL_wI, rI_wR, rP_wR, is_wI, is_wR, ia_wI, ia_wR, ow_wI, ow_wR, wn_add, wn_mul, wn_cl, wn_le, wn_lt, wn_inj, wn_ne1, wn_1ne, wn_gt1, wn_le1, nb0, nb1, am_kt, am_rt, List.cons_append, List.nil_append, true_and, and_true, not_true_eq_false, not_false_eq_true, imp_f, imp_t, implies_true, Nat.zero_add, if_true, if_false, false_and, and_false, fM s1]
  have k2 : Kp BT4 G (am_wI G1 334 34 (am_gI G (828 + m) 0)) := k1.wI (Or.inl ⟨rfl, Or.inl rfl⟩) _
  refine am_for 96 (fun j ls G3 => Kp BT4 G G3 ∧ am_gI G3 334 34 = am_gI G (828 + m) 0 ∧ (∀ t, t < j → am_gI G3 808 t = am_gI G (828 + m) (1 + t)) ∧ am_gI G3 334 37 = wn (1 + j) ∧ ls = [some (.ref 334), some (.ref (828 + m)), some (.int (wn 1)), some (.int (wn j)), none]) ?_ ?_ 96 0 rfl _ _ ⟨k2, by rw [rI_wI, if_pos ⟨rfl, rfl⟩], fun t ht => by omega, by rw [rI_wI, if_neg (by omega)]; exact e1, rfl⟩
  · rintro j hj _ G3 ⟨k3, f3, h3, e3, rfl⟩ nx
    have c1 : ¬ 96 ≤ j := by omega
    have s3 := hsh.kp k3
    rw [wb264_21 hc]
    simp +decide (disch := omega) only [↓wm1, wb264_27 hc, w0, w1, w16, w96, rI_wI, rP_wI, rL_wI, rI_wR, rP_wR, is_wI, is_wR, ia_wI, ia_wR, ow_wI, ow_wR, wn_add, wn_mul, wn_cl, wn_le, wn_lt, wn_inj, wn_ne1, wn_1ne, wn_gt1, wn_le1, nb0, nb1, am_kt, am_rt, List.cons_append, List.nil_append, true_and, and_true, not_true_eq_false, not_false_eq_true, imp_f, imp_t, implies_true, Nat.zero_add, if_true, if_false, false_and, and_false, fM s3, c1, fR s3 h808]
    rw [ct263b s3 hm (show 1 + j < 1633 by omega) e3, r (1 + j) k3]
    have k4 : Kp BT4 G (am_wI G3 334 37 (wn (1 + j + 1))) := k3.wI (Or.inl ⟨rfl, Or.inr rfl⟩) _
    have s4 : Sh (am_wI G3 334 37 (wn (1 + j + 1))) := s3
    simp +decide (disch := omega) only [↓wm1, wb264_44 hc, w0, w1, w16, w96, rI_wI, rP_wI, rL_wI, rI_wR, rP_wR, is_wI, is_wR, ia_wI, ia_wR, ow_wI, ow_wR, wn_add, wn_mul, wn_cl, wn_le, wn_lt, wn_inj, wn_ne1, wn_1ne, wn_gt1, wn_le1, nb0, nb1, am_kt, am_rt, List.cons_append, List.nil_append, true_and, and_true, not_true_eq_false, not_false_eq_true, imp_f, imp_t, implies_true, Nat.zero_add, if_true, if_false, false_and, and_false, fM s4, fR s4 h808]
    refine nx _ _ ⟨k4.wI (Or.inr (Or.inl rfl)) _, by rw [rI_wI, if_neg (by omega), rI_wI, if_neg (by omega)]; exact f3, fun t ht => ?_, by rw [rI_wI, if_neg (by omega), rI_wI, if_pos ⟨rfl, rfl⟩]; rfl, rfl⟩
    rw [rI_wI]
    by_cases e : t = j
    · rw [if_pos ⟨rfl, e⟩, e]
    · rw [if_neg (fun z => e z.2), rI_wI, if_neg (by omega)]; exact h3 t (by omega)
  · rintro _ G3 ⟨k3, f3, h3, e3, rfl⟩
    rw [wb264_21 hc]
    simp +decide (disch := omega) only [↓wm1, wb264_51 hc, w0, w1, w16, w96, rI_wI, rP_wI, rL_wI, rI_wR, rP_wR, is_wI, is_wR, ia_wI, ia_wR, ow_wI, ow_wR, wn_add, wn_mul, wn_cl, wn_le, wn_lt, wn_inj, wn_ne1, wn_1ne, wn_gt1, wn_le1, nb0, nb1, am_kt, am_rt, List.cons_append, List.nil_append, true_and, and_true, not_true_eq_false, not_false_eq_true, imp_f, imp_t, implies_true, Nat.zero_add, if_true, if_false, false_and, and_false, Nat.le_refl]
    refine am_for 16 (fun i ls G4 => Kp BT4 G G4 ∧ am_gI G4 334 34 = am_gI G (828 + m) 0 ∧ (∀ t, t < 96 → am_gI G4 808 t = am_gI G (828 + m) (1 + t)) ∧ (∀ i' t, i' < i → t < 96 → am_gI G4 (811 + i') t = am_gI G (828 + m) (97 + 96 * i' + t)) ∧ am_gI G4 334 37 = wn (97 + 96 * i) ∧ ls = [some (.ref 334), some (.ref (828 + m)), some (.int (wn 1)), some (.int (wn i)), none]) ?_ ?_ 16 0 rfl _ _ ⟨k3, f3, h3, fun i' t z => by omega, e3, rfl⟩
    · rintro i hi _ G4 ⟨k4, f4, h4, b4, e4, rfl⟩ nx
      have c1 : ¬ 16 ≤ i := by omega
      rw [wb264_53 hc]
      simp +decide (disch := omega) only [↓wm1, wb264_59 hc, w0, w1, w16, w96, rI_wI, rP_wI, rL_wI, rI_wR, rP_wR, is_wI, is_wR, ia_wI, ia_wR, ow_wI, ow_wR, wn_add, wn_mul, wn_cl, wn_le, wn_lt, wn_inj, wn_ne1, wn_1ne, wn_gt1, wn_le1, nb0, nb1, am_kt, am_rt, List.cons_append, List.nil_append, true_and, and_true, not_true_eq_false, not_false_eq_true, imp_f, imp_t, implies_true, Nat.zero_add, if_true, if_false, false_and, and_false, c1]
      refine am_for 96 (fun j ls G5 => Kp BT4 G G5 ∧ am_gI G5 334 34 = am_gI G (828 + m) 0 ∧ (∀ t, t < 96 → am_gI G5 808 t = am_gI G (828 + m) (1 + t)) ∧ (∀ i' t, i' < i → t < 96 → am_gI G5 (811 + i') t = am_gI G (828 + m) (97 + 96 * i' + t)) ∧ (∀ t, t < j → am_gI G5 (811 + i) t = am_gI G (828 + m) (97 + 96 * i + t)) ∧ am_gI G5 334 37 = wn (97 + 96 * i + j) ∧ ls = [some (.ref 334), some (.ref (828 + m)), some (.int (wn 1)), some (.int (wn i)), some (.int (wn j))]) ?_ ?_ 96 0 rfl _ _ ⟨k4, f4, h4, b4, fun t z => by omega, e4, rfl⟩
      · rintro j hj _ G5 ⟨k5, f5, h5, b5, c5, e5, rfl⟩ nx2
        have c2 : ¬ 96 ≤ j := by omega
        have s5 := hsh.kp k5
        rw [wb264_62 hc]
        simp +decide (disch := omega) only [↓wm1, wb264_69 hc, w0, w1, w16, w96, rI_wI, rP_wI, rL_wI, rI_wR, rP_wR, is_wI, is_wR, ia_wI, ia_wR, ow_wI, ow_wR, wn_add, wn_mul, wn_cl, wn_le, wn_lt, wn_inj, wn_ne1, wn_1ne, wn_gt1, wn_le1, nb0, nb1, am_kt, am_rt, List.cons_append, List.nil_append, true_and, and_true, not_true_eq_false, not_false_eq_true, imp_f, imp_t, implies_true, Nat.zero_add, if_true, if_false, false_and, and_false, fM s5, c2, fr810 s5, fR s5 (mrw hi)]
        rw [ct263b s5 hm (show 97 + 96 * i + j < 1633 by omega) e5, r (97 + 96 * i + j) k5]
        have k6 : Kp BT4 G (am_wI G5 334 37 (wn (97 + 96 * i + j + 1))) := k5.wI (Or.inl ⟨rfl, Or.inr rfl⟩) _
        have s6 : Sh (am_wI G5 334 37 (wn (97 + 96 * i + j + 1))) := s5
        simp +decide (disch := omega) only [↓wm1, wb264_92 hc, w0, w1, w16, w96, rI_wI, rP_wI, rL_wI, rI_wR, rP_wR, is_wI, is_wR, ia_wI, ia_wR, ow_wI, ow_wR, wn_add, wn_mul, wn_cl, wn_le, wn_lt, wn_inj, wn_ne1, wn_1ne, wn_gt1, wn_le1, nb0, nb1, am_kt, am_rt, List.cons_append, List.nil_append, true_and, and_true, not_true_eq_false, not_false_eq_true, imp_f, imp_t, implies_true, Nat.zero_add, if_true, if_false, false_and, and_false, fM s6, fR s6 (mrw hi)]
        refine nx2 _ _ ⟨k6.wI (Or.inr (Or.inr ⟨by omega, by omega⟩)) _, by rw [rI_wI, if_neg (by omega), rI_wI, if_neg (by omega)]; exact f5, fun t ht => by rw [rI_wI, if_neg (by omega), rI_wI, if_neg (by omega)]; exact h5 t ht, fun i' t hi' ht => by rw [rI_wI, if_neg (by omega), rI_wI, if_neg (by omega)]; exact b5 i' t hi' ht, fun t ht => ?_, by rw [rI_wI, if_neg (by omega), rI_wI, if_pos ⟨rfl, rfl⟩]; rfl, rfl⟩
        rw [rI_wI]
        by_cases e : t = j
        · rw [if_pos ⟨rfl, e⟩, e]
        · rw [if_neg (fun z => e z.2), rI_wI, if_neg (by omega)]; exact c5 t (by omega)
      · rintro _ G5 ⟨k5, f5, h5, b5, c5, e5, rfl⟩
        rw [wb264_62 hc]
        simp +decide (disch := omega) only [↓wm1, wb264_99 hc, w0, w1, w16, w96, rI_wI, rP_wI, rL_wI, rI_wR, rP_wR, is_wI, is_wR, ia_wI, ia_wR, ow_wI, ow_wR, wn_add, wn_mul, wn_cl, wn_le, wn_lt, wn_inj, wn_ne1, wn_1ne, wn_gt1, wn_le1, nb0, nb1, am_kt, am_rt, List.cons_append, List.nil_append, true_and, and_true, not_true_eq_false, not_false_eq_true, imp_f, imp_t, implies_true, Nat.zero_add, if_true, if_false, false_and, and_false, Nat.le_refl]
        have e : 97 + 96 * i + 96 = 97 + 96 * (i + 1) := by omega
        rw [e] at e5
        refine nx _ _ ⟨k5, f5, h5, fun i' t hi' ht => ?_, e5, rfl⟩
        by_cases e' : i' = i
        · subst e'; exact c5 t ht
        · exact b5 i' t (by omega) ht
    · rintro _ G4 ⟨k4, f4, h4, b4, e4, rfl⟩
      rw [wb264_53 hc]
      simp +decide (disch := omega) only [↓wm1, wb264_105 hc, w0, w1, w16, w96, rI_wI, rP_wI, rL_wI, rI_wR, rP_wR, is_wI, is_wR, ia_wI, ia_wR, ow_wI, ow_wR, wn_add, wn_mul, wn_cl, wn_le, wn_lt, wn_inj, wn_ne1, wn_1ne, wn_gt1, wn_le1, nb0, nb1, am_kt, am_rt, List.cons_append, List.nil_append, true_and, and_true, not_true_eq_false, not_false_eq_true, imp_f, imp_t, implies_true, Nat.zero_add, if_true, if_false, false_and, and_false, Nat.le_refl]
      exact k G4 f4 h4 (fun i j hi hj => b4 i j hi hj) k4
theorem rf_image (hR : RepR G V) : am_C am_T (d + 12) 265 [.ref 334] G (OR G (s_img V) 1 (.inl (q_img V))) := by
  have hc := am_C_one am_T (d + 11)
  obtain ⟨hsh, hv, tp, tm, di, im, lb, ct⟩ := hR.parts
  have hw := hv.2.2.2.2.2.2.1
  have vv := vV_img hv
  have hi3 := hv.2.2.2.2.2.2.2.2.1
  have hl7 := hv.2.2.2.2.2.2.2.2.2.2.1
  have i1 := im.1
  unfold s_img q_img at *
  rw [we265]
  by_cases c : vi V = 3
  · simp only [if_pos c] at vv ⊢
    rw [c] at i1
    generalize hP : OR G V 1 (.inl mm) = P
    simp +decide (disch := omega) only [↓wm1, wb265_0 hc, wb265_13 hc, w0, w1, w3, rI_wI, rP_wI, rL_wI, rI_wR, rP_wR, is_wI, is_wR, ia_wI, ia_wR, ow_wI, ow_wR, wn_add, wn_mul, wn_cl, wn_le, wn_lt, wn_inj, wn_ne1, wn_1ne, wn_gt1, wn_le1, nb0, nb1, am_kt, am_rt, List.cons_append, List.nil_append, true_and, and_true, not_true_eq_false, not_false_eq_true, imp_f, imp_t, implies_true, Nat.zero_add, if_true, if_false, false_and, and_false, fM hsh, i1]
    rw [← hP]; exact OR_ok hR (k0R G) (e0R G)
  · have cv : vi V < 3 := by omega
    simp only [if_neg c] at vv ⊢
    generalize hP : OR G _ _ _ = P
    simp +decide (disch := omega) only [↓wm1, wb265_0 hc, wb265_15 hc, w0, w1, w3, rI_wI, rP_wI, rL_wI, rI_wR, rP_wR, is_wI, is_wR, ia_wI, ia_wR, ow_wI, ow_wR, wn_add, wn_mul, wn_cl, wn_le, wn_lt, wn_inj, wn_ne1, wn_1ne, wn_gt1, wn_le1, nb0, nb1, am_kt, am_rt, List.cons_append, List.nil_append, true_and, and_true, not_true_eq_false, not_false_eq_true, imp_f, imp_t, implies_true, Nat.zero_add, if_true, if_false, false_and, and_false, fM hsh, i1, c, fr827 hsh, ra_wI]
    have k1 := k0R G
    have s1 := hsh.kp k1
    refine ct264p s1 cv (fun G2 h2 k2 => ?_)
    have s2 := s1.kp k2
    have f2 : am_gI G2 334 36 = wn (vi V) := by rw [k2.i (by unfold PT4; omega), rI_wI, if_neg (by omega)]; exact i1
    simp +decide (disch := omega) only [↓wm1, wb265_29 hc, w0, w1, w3, rI_wI, rP_wI, rL_wI, rI_wR, rP_wR, is_wI, is_wR, ia_wI, ia_wR, ow_wI, ow_wR, wn_add, wn_mul, wn_cl, wn_le, wn_lt, wn_inj, wn_ne1, wn_1ne, wn_gt1, wn_le1, nb0, nb1, am_kt, am_rt, List.cons_append, List.nil_append, true_and, and_true, not_true_eq_false, not_false_eq_true, imp_f, imp_t, implies_true, Nat.zero_add, if_true, if_false, false_and, and_false, fM s2, f2]
    rw [← hP]
    have kk : Kp (fun a i => (a = 334 ∧ (i = 0 ∨ i = 36 ∨ i = 37)) ∨ a = 828 + vi V) G (am_wI G2 334 36 (wn (vi V + 1))) := (((Kp.refl G).wI (Or.inl ⟨rfl, Or.inl rfl⟩) (wn 0)).trans (k2.mono (fun a i z => by unfold PT4 at z; omega))).wI (Or.inl ⟨rfl, by omega⟩) _
    have s3 : Sh (am_wI G2 334 36 (wn (vi V + 1))) := s2
    have g : ∀ t, t < 1633 → am_gI (am_wI G2 334 36 (wn (vi V + 1))) (828 + vi V) t = KT (am_wI G 334 0 (wn 0)) t := fun t ht => by rw [rI_wI, if_neg (by omega)]; exact h2 t ht
    refine ⟨RepR.mk s3 vv (tp.eq (fun a i z => kk.i (by omega))) (tm.eq2 (fun a i z => kk.i (by omega))) (di.eq hw (fun a i z => kk.i (by omega))) ⟨?_, fun j hj => ?_⟩ (lb.eq hl7 (fun a i z => kk.i (by omega))) (ct.eq (fun a i z => kk.i (by omega))), kk.mono (fun a i z => by unfold RS; omega), rfl, ?_⟩
    · show am_gI _ 334 36 = wn (vi V + 1)
      rw [rI_wI, if_pos ⟨rfl, rfl⟩]
    · change j < vi V + 1 at hj
      show am_gI _ (828 + j) 0 = wn (if j = vi V then vw V else viw V j) ∧ rW _ (828 + j) 1 (if j = vi V then vσ V else vis V j) ∧ ∀ i, i < (if j = vi V then vw V else viw V j) → rW _ (828 + j) (97 + 96 * i) ((if j = vi V then vb V else vib V j) i)
      by_cases e : j = vi V
      · simp only [if_pos e]
        rw [e]
        refine ⟨?_, fun t ht => ?_, fun i hi t ht => ?_⟩
        · rw [g 0 (by decide), KT_0, rI_wI, if_neg (by omega)]; exact di.2.1
        · rw [g (1 + t) (by omega), KT_n _ ht, rI_wI, if_neg (by omega)]
          have := di.1 t ht; rw [Nat.zero_add] at this; exact this
        · rw [g (97 + 96 * i + t) (by omega), KT_b _ ht, rI_wI, if_neg (by omega)]
          have := di.2.2 i hi t ht; rw [Nat.zero_add] at this; exact this
      · simp only [if_neg e]
        have hj' : j < vi V := by omega
        exact ⟨by rw [kk.i (by omega)]; exact (im.2 j hj').1, (im.2 j hj').2.1.eq (fun i => kk.i (by omega)), fun i hi => ((im.2 j hj').2.2 i hi).eq (fun m => kk.i (by omega))⟩
    · rw [rI_wI, if_neg (by omega), k2.i (by unfold PT4; omega), rI_wI, if_pos ⟨rfl, rfl⟩]
theorem rf_restore (hR : RepR G V) : am_C am_T (d + 12) 266 [.ref 334] G (OR G (s_res V) 1 (.inl (q_res V))) := by
  have hc := am_C_one am_T (d + 11)
  obtain ⟨hsh, hv, tp, tm, di, im, lb, ct⟩ := hR.parts
  have hw := hv.2.2.2.2.2.2.1
  have vv := vV_res hv
  have hi3 := hv.2.2.2.2.2.2.2.2.1
  have hl7 := hv.2.2.2.2.2.2.2.2.2.2.1
  have hiw : ∀ j, j < vi V → viw V j ≤ 16 := fun j hj => (hv.2.2.2.2.2.2.2.2.2.1 j hj).2.1
  have i1 := im.1
  unfold s_res q_res at *
  rw [we266]
  by_cases c : vi V = 0
  · simp only [if_pos c] at vv ⊢
    rw [c] at i1
    generalize hP : OR G V 1 (.inl mm) = P
    simp +decide (disch := omega) only [↓wm1, wb266_0 hc, wb266_12 hc, w0, w1, rI_wI, rP_wI, rL_wI, rI_wR, rP_wR, is_wI, is_wR, ia_wI, ia_wR, ow_wI, ow_wR, wn_add, wn_mul, wn_cl, wn_le, wn_lt, wn_inj, wn_ne1, wn_1ne, wn_gt1, wn_le1, nb0, nb1, am_kt, am_rt, List.cons_append, List.nil_append, true_and, and_true, not_true_eq_false, not_false_eq_true, imp_f, imp_t, implies_true, Nat.zero_add, if_true, if_false, false_and, and_false, fM hsh, i1]
    rw [← hP]; exact OR_ok hR (k0R G) (e0R G)
  · simp only [if_neg c] at vv ⊢
    obtain ⟨w, hw1⟩ : ∃ w, vi V = w + 1 := ⟨vi V - 1, by omega⟩
    have cw : ¬ w + 1 = 0 := by omega
    have w3 : w < 3 := by omega
    have e1 : wn (w + 1) - wn 1 = wn w := by rw [wn_sub (by omega)]; rfl
    have q0 := im.2 w (by omega)
    have w16 := hiw w (by omega)
    rw [hw1] at vv i1 ⊢
    rw [show w + 1 - 1 = w by omega] at vv ⊢
    generalize hP : OR G _ _ _ = P
    simp +decide (disch := omega) only [↓wm1, wb266_0 hc, wb266_14 hc, w0, w1, rI_wI, rP_wI, rL_wI, rI_wR, rP_wR, is_wI, is_wR, ia_wI, ia_wR, ow_wI, ow_wR, wn_add, wn_mul, wn_cl, wn_le, wn_lt, wn_inj, wn_ne1, wn_1ne, wn_gt1, wn_le1, nb0, nb1, am_kt, am_rt, List.cons_append, List.nil_append, true_and, and_true, not_true_eq_false, not_false_eq_true, imp_f, imp_t, implies_true, Nat.zero_add, if_true, if_false, false_and, and_false, fM hsh, i1, cw, e1, fr827 hsh, ra_wI]
    have k1 : Kp (fun a i => a = 334 ∧ (i = 0 ∨ i = 36)) G (am_wI (am_wI G 334 0 (wn 0)) 334 36 (wn w)) := ((Kp.refl G).wI ⟨rfl, Or.inl rfl⟩ _).wI ⟨rfl, Or.inr rfl⟩ _
    have s1 := hsh.kp k1
    have g0 : ∀ t, am_gI (am_wI (am_wI G 334 0 (wn 0)) 334 36 (wn w)) (828 + w) t = am_gI G (828 + w) t := fun t => k1.i (by omega)
    have z36 : am_gI (am_wI (am_wI G 334 0 (wn 0)) 334 36 (wn w)) 334 36 = wn w := by rw [rI_wI, if_pos ⟨rfl, rfl⟩]
    have z0 : am_gI (am_wI (am_wI G 334 0 (wn 0)) 334 36 (wn w)) 334 0 = wn 0 := by rw [rI_wI, if_neg (by omega), rI_wI, if_pos ⟨rfl, rfl⟩]
    generalize am_wI (am_wI G 334 0 (wn 0)) 334 36 (wn w) = G1 at k1 s1 g0 z36 z0 ⊢
    refine ct264b s1 w3 (fun G2 a2 b2 c2 k2 => ?_)
    have s2 := s1.kp k2
    have f2 : am_gI G2 334 36 = wn w := by rw [k2.i (by unfold BT4; omega)]; exact z36
    simp +decide (disch := omega) only [↓wm1, wb266_38 hc, w0, w1, rI_wI, rP_wI, rL_wI, rI_wR, rP_wR, is_wI, is_wR, ia_wI, ia_wR, ow_wI, ow_wR, wn_add, wn_mul, wn_cl, wn_le, wn_lt, wn_inj, wn_ne1, wn_1ne, wn_gt1, wn_le1, nb0, nb1, am_kt, am_rt, List.cons_append, List.nil_append, true_and, and_true, not_true_eq_false, not_false_eq_true, imp_f, imp_t, implies_true, Nat.zero_add, if_true, if_false, false_and, and_false, fM s2, f2]
    rw [← hP]
    have kk : Kp (fun a i => (a = 334 ∧ (i = 0 ∨ (34 ≤ i ∧ i ≤ 37))) ∨ a = 808 ∨ (811 ≤ a ∧ a ≤ 826)) G (am_wI G2 334 35 (wn 0)) := ((k1.mono (fun a i z => by omega)).trans (k2.mono (fun a i z => by unfold BT4 at z; omega))).wI (Or.inl ⟨rfl, by omega⟩) _
    have s3 : Sh (am_wI G2 334 35 (wn 0)) := s2
    refine ⟨RepR.mk s3 vv (tp.eq (fun a i z => kk.i (by omega))) (tm.eq2 (fun a i z => kk.i (by omega))) ⟨fun t ht => ?_, ?_, fun i hi t ht => ?_⟩ ⟨?_, fun j hj => ?_⟩ (lb.eq hl7 (fun a i z => kk.i (by omega))) ⟨?_, ?_, ?_⟩, kk.mono (fun a i z => by unfold RS; omega), rfl, ?_⟩
    · rw [Nat.zero_add, rI_wI, if_neg (by omega), b2 t ht, g0]
      exact q0.2.1 t ht
    · show am_gI _ 334 34 = wn (viw V w)
      rw [rI_wI, if_neg (by omega), a2, g0]; exact q0.1
    · change i < viw V w at hi
      rw [Nat.zero_add, rI_wI, if_neg (by omega), c2 i t (by omega) ht, g0]
      exact q0.2.2 i hi t ht
    · show am_gI _ 334 36 = wn w
      rw [rI_wI, if_neg (by omega)]; exact f2
    · change j < w at hj
      have qj := im.2 j (by omega)
      exact ⟨by rw [kk.i (by omega)]; exact qj.1, qj.2.1.eq (fun i => kk.i (by omega)), fun i hi => (qj.2.2 i hi).eq (fun m => kk.i (by omega))⟩
    · show am_gI _ 334 35 = wn 0
      rw [rI_wI, if_pos ⟨rfl, rfl⟩]
    · show am_gI _ 336 0 = wn (v7 V)
      rw [kk.i (by omega)]; exact ct.2.1
    · show am_gI _ 336 1 = wn (v8 V)
      rw [kk.i (by omega)]; exact ct.2.2
    · rw [rI_wI, if_neg (by omega), k2.i (by unfold BT4; omega)]; exact z0
end
