/-! The moves of a state: what is written, and the contracts of State. -/
def up1 (f : Nat → Nat) (k v : Nat) : Nat → Nat := fun j => if j = k then v else f j
theorem up1_s (f : Nat → Nat) (k v : Nat) : up1 f k v k = v := by simp [up1]
theorem up1_o (f : Nat → Nat) {k j : Nat} (v : Nat) (h : j ≠ k) : up1 f k v j = f j := by simp [up1, h]
def mkS (h dm g t : Nat) (c p m : Nat → Nat) : St := (h, dm, g, t, c, p, m)
/-- the cells of a state -/
def sc (s : Nat) : Nat → Nat → Prop := fun a _ => s ≤ a ∧ a < s + 4
section
variable {G : am_G} {s : Nat} {σ : St}
theorem rS.kp {Sc : Nat → Nat → Prop} {G' : am_G} (h : rS G s σ) (k : Kp Sc G G') (hn : ∀ a i, s ≤ a → a < s + 4 → ¬ Sc a i) : rS G' s σ := by
  obtain ⟨r0, r1, r2, r3, r4, r5, r6⟩ := h
  have e := k.2.2.2.2.1
  exact ⟨by rw [e _ _ (hn _ _ (by omega) (by omega))]; exact r0, by rw [e _ _ (hn _ _ (by omega) (by omega))]; exact r1, by rw [e _ _ (hn _ _ (by omega) (by omega))]; exact r2, by rw [e _ _ (hn _ _ (by omega) (by omega))]; exact r3,
    fun b hb => by rw [e _ _ (hn _ _ (by omega) (by omega))]; exact r4 b hb, fun b hb => by rw [e _ _ (hn _ _ (by omega) (by omega))]; exact r5 b hb, fun b hb => by rw [e _ _ (hn _ _ (by omega) (by omega))]; exact r6 b hb⟩
theorem rS.wH (h : rS G s σ) (v : Nat) : rS (am_wI G s 0 (wn v)) s (mkS v (sD σ) (sG σ) (sT σ) (sC σ) (sP σ) (sM σ)) := by
  obtain ⟨r0, r1, r2, r3, r4, r5, r6⟩ := h
  refine ⟨?_, ?_, ?_, ?_, fun b hb => ?_, fun b hb => ?_, fun b hb => ?_⟩ <;> rw [rI_wI] <;> simp [mkS, sH, sD, sG, sT, sC, sP, sM] at *
  · exact r1
  · exact r2
  · exact r3
  · exact r4 b hb
  · exact r5 b hb
  · exact r6 b hb
theorem rS.wD (h : rS G s σ) (v : Nat) : rS (am_wI G s 1 (wn v)) s (mkS (sH σ) v (sG σ) (sT σ) (sC σ) (sP σ) (sM σ)) := by
  obtain ⟨r0, r1, r2, r3, r4, r5, r6⟩ := h
  refine ⟨?_, ?_, ?_, ?_, fun b hb => ?_, fun b hb => ?_, fun b hb => ?_⟩ <;> rw [rI_wI] <;> simp [mkS, sH, sD, sG, sT, sC, sP, sM] at *
  · exact r0
  · exact r2
  · exact r3
  · exact r4 b hb
  · exact r5 b hb
  · exact r6 b hb
theorem rS.wG (h : rS G s σ) (v : Nat) : rS (am_wI G s 2 (wn v)) s (mkS (sH σ) (sD σ) v (sT σ) (sC σ) (sP σ) (sM σ)) := by
  obtain ⟨r0, r1, r2, r3, r4, r5, r6⟩ := h
  refine ⟨?_, ?_, ?_, ?_, fun b hb => ?_, fun b hb => ?_, fun b hb => ?_⟩ <;> rw [rI_wI] <;> simp [mkS, sH, sD, sG, sT, sC, sP, sM] at *
  · exact r0
  · exact r1
  · exact r3
  · exact r4 b hb
  · exact r5 b hb
  · exact r6 b hb
theorem rS.wT (h : rS G s σ) (v : Nat) : rS (am_wI G s 3 (wn v)) s (mkS (sH σ) (sD σ) (sG σ) v (sC σ) (sP σ) (sM σ)) := by
  obtain ⟨r0, r1, r2, r3, r4, r5, r6⟩ := h
  refine ⟨?_, ?_, ?_, ?_, fun b hb => ?_, fun b hb => ?_, fun b hb => ?_⟩ <;> rw [rI_wI] <;> simp [mkS, sH, sD, sG, sT, sC, sP, sM] at *
  · exact r0
  · exact r1
  · exact r2
  · exact r4 b hb
  · exact r5 b hb
  · exact r6 b hb
theorem rS.wC (h : rS G s σ) (b v : Nat) : rS (am_wI G (s + 1) b (wn v)) s (mkS (sH σ) (sD σ) (sG σ) (sT σ) (up1 (sC σ) b v) (sP σ) (sM σ)) := by
  obtain ⟨r0, r1, r2, r3, r4, r5, r6⟩ := h
  refine ⟨?_, ?_, ?_, ?_, fun c hb => ?_, fun c hb => ?_, fun c hb => ?_⟩ <;> rw [rI_wI]
  · rw [if_neg (by omega)]; exact r0
  · rw [if_neg (by omega)]; exact r1
  · rw [if_neg (by omega)]; exact r2
  · rw [if_neg (by omega)]; exact r3
  · by_cases e : c = b
    · subst e; simp [mkS, sC, up1]
    · rw [if_neg (fun q => e q.2), r4 c hb]; simp [mkS, sC, up1, e]
  · rw [if_neg (by omega)]; exact r5 c hb
  · rw [if_neg (by omega)]; exact r6 c hb
theorem rS.wP (h : rS G s σ) (b v : Nat) : rS (am_wI G (s + 2) b (wn v)) s (mkS (sH σ) (sD σ) (sG σ) (sT σ) (sC σ) (up1 (sP σ) b v) (sM σ)) := by
  obtain ⟨r0, r1, r2, r3, r4, r5, r6⟩ := h
  refine ⟨?_, ?_, ?_, ?_, fun c hb => ?_, fun c hb => ?_, fun c hb => ?_⟩ <;> rw [rI_wI]
  · rw [if_neg (by omega)]; exact r0
  · rw [if_neg (by omega)]; exact r1
  · rw [if_neg (by omega)]; exact r2
  · rw [if_neg (by omega)]; exact r3
  · rw [if_neg (by omega)]; exact r4 c hb
  · by_cases e : c = b
    · subst e; simp [mkS, sP, up1]
    · rw [if_neg (fun q => e q.2), r5 c hb]; simp [mkS, sP, up1, e]
  · rw [if_neg (by omega)]; exact r6 c hb
theorem rS.wM (h : rS G s σ) (b v : Nat) : rS (am_wI G (s + 3) b (wn v)) s (mkS (sH σ) (sD σ) (sG σ) (sT σ) (sC σ) (sP σ) (up1 (sM σ) b v)) := by
  obtain ⟨r0, r1, r2, r3, r4, r5, r6⟩ := h
  refine ⟨?_, ?_, ?_, ?_, fun c hb => ?_, fun c hb => ?_, fun c hb => ?_⟩ <;> rw [rI_wI]
  · rw [if_neg (by omega)]; exact r0
  · rw [if_neg (by omega)]; exact r1
  · rw [if_neg (by omega)]; exact r2
  · rw [if_neg (by omega)]; exact r3
  · rw [if_neg (by omega)]; exact r4 c hb
  · rw [if_neg (by omega)]; exact r5 c hb
  · by_cases e : c = b
    · subst e; simp [mkS, sM, up1]
    · rw [if_neg (fun q => e q.2), r6 c hb]; simp [mkS, sM, up1, e]
end
/-- what is always so of a state, with B bells and H houses -/
def vS (B H : Nat) (σ : St) : Prop := sH σ ≤ 2000 ∧ sD σ ≤ 9 ∧ sG σ < 2 ^ B ∧ sT σ < 2 ^ B ∧ (∀ b, sC σ b ≤ 3) ∧ (∀ j, sM σ j ≤ 999) ∧ (∀ b, B ≤ b → sP σ b = 0) ∧ ∀ j, 10 * H ≤ j → sM σ j = 0
theorem vS.g6 {B H : Nat} {σ : St} (h : vS B H σ) (hB : B ≤ 6) : sG σ < 64 := Nat.lt_of_lt_of_le h.2.2.1 (Nat.pow_le_pow_right (n := 2) (by decide) hB)
theorem vS.t6 {B H : Nat} {σ : St} (h : vS B H σ) (hB : B ≤ 6) : sT σ < 64 := Nat.lt_of_lt_of_le h.2.2.2.1 (Nat.pow_le_pow_right (n := 2) (by decide) hB)
/-- whether a bell can speak -/
def spk (σ : St) (b : Nat) : Bool := bt (sG σ) b == 0 && bt (sT σ) b == 0
def b01 (p : Bool) : Nat := if p then 1 else 0
theorem b01_eq0 {p : Bool} : b01 p = 0 ↔ p = false := by cases p <;> simp [b01]
theorem b01_lt (p : Bool) : b01 p < 2 := by cases p <;> simp [b01]
section
variable {G : am_G} {s d b : Nat} {σ : St} {post : am_O → am_G → Prop}
/-! 48, 49 -/
theorem ct49 (hsh : Sh G) (hs : s ∈ sts) (hr : rS G s σ) (ht : sT σ < 64) (hb : b < 6) (k : post (.inl (some (.int (wn (bt (sT σ) b))))) G) : am_C am_T (d + 1) 49 [.ref s, .int (wn b)] G post := by
  have hc := am_C_one am_T d
  have e := bsr (sT σ) (by omega) b (by omega)
  have e1 := bt_01 (sT σ) b
  rw [we49]
  by_cases c1 : bt (sT σ) b = 1
  · simp +decide (disch := omega) only [↓wm1, wb49_0 hc, wb49_12 hc, wb49_16 hc, wb49_17 hc, w0, w1, rI_wI, rP_wI, rL_wI, rI_wR, rP_wR, is_wI, is_wR, ia_wI, ia_wR, ow_wI, ow_wR, wn_add, wn_mul, wn_cl, wn_le, wn_lt, wn_inj, wn_ne1, wn_1ne, wn_gt1, wn_le1, nb0, nb1, am_kt, am_rt, List.cons_append, List.nil_append, true_and, and_true, not_true_eq_false, not_false_eq_true, imp_f, imp_t, implies_true, fS hsh hs, hr.2.2.2.1, e, c1]
    rw [c1] at k
    exact k
  · have c0 : bt (sT σ) b = 0 := by omega
    simp +decide (disch := omega) only [↓wm1, wb49_0 hc, wb49_12 hc, wb49_16 hc, wb49_17 hc, w0, w1, rI_wI, rP_wI, rL_wI, rI_wR, rP_wR, is_wI, is_wR, ia_wI, ia_wR, ow_wI, ow_wR, wn_add, wn_mul, wn_cl, wn_le, wn_lt, wn_inj, wn_ne1, wn_1ne, wn_gt1, wn_le1, nb0, nb1, am_kt, am_rt, List.cons_append, List.nil_append, true_and, and_true, not_true_eq_false, not_false_eq_true, imp_f, imp_t, implies_true, fS hsh hs, hr.2.2.2.1, e, c0]
    rw [c0] at k
    exact k
theorem ct48 (hsh : Sh G) (hs : s ∈ sts) (hr : rS G s σ) (hg : sG σ < 64) (ht : sT σ < 64) (hb : b < 6) (k : post (.inl (some (.int (wn (b01 (spk σ b)))))) G) : am_C am_T (d + 1) 48 [.ref s, .int (wn b)] G post := by
  have hc := am_C_one am_T d
  have e0 := bor2 (sG σ) hg (sT σ) ht
  have e := bsr (sG σ ||| sT σ) (by have := bor_lt hg ht; omega) b (by omega)
  have e1 := bt_or (sG σ) hg (sT σ) ht b hb
  rw [we48]
  by_cases c1 : bt (sG σ) b = 0 ∧ bt (sT σ) b = 0
  · rw [if_pos c1] at e1
    simp +decide (disch := omega) only [↓wm1, wb48_0 hc, wb48_16 hc, wb48_20 hc, wb48_21 hc, w0, w1, rI_wI, rP_wI, rL_wI, rI_wR, rP_wR, is_wI, is_wR, ia_wI, ia_wR, ow_wI, ow_wR, wn_add, wn_mul, wn_cl, wn_le, wn_lt, wn_inj, wn_ne1, wn_1ne, wn_gt1, wn_le1, nb0, nb1, am_kt, am_rt, List.cons_append, List.nil_append, true_and, and_true, not_true_eq_false, not_false_eq_true, imp_f, imp_t, implies_true, fS hsh hs, hr.2.2.1, hr.2.2.2.1, e0, e, e1]
    simp only [spk, c1.1, c1.2, b01] at k
    exact k
  · rw [if_neg c1] at e1
    simp +decide (disch := omega) only [↓wm1, wb48_0 hc, wb48_16 hc, wb48_20 hc, wb48_21 hc, w0, w1, rI_wI, rP_wI, rL_wI, rI_wR, rP_wR, is_wI, is_wR, ia_wI, ia_wR, ow_wI, ow_wR, wn_add, wn_mul, wn_cl, wn_le, wn_lt, wn_inj, wn_ne1, wn_1ne, wn_gt1, wn_le1, nb0, nb1, am_kt, am_rt, List.cons_append, List.nil_append, true_and, and_true, not_true_eq_false, not_false_eq_true, imp_f, imp_t, implies_true, fS hsh hs, hr.2.2.1, hr.2.2.2.1, e0, e, e1]
    have : spk σ b = false := by
      simp only [spk, Bool.and_eq_false_imp, beq_iff_eq, beq_eq_false_iff_ne]
      intro h1 h2
      exact c1 ⟨h1, h2⟩
    rw [this] at k
    exact k
/-! 50 to 54: the steps -/
def stCrack (σ : St) (b : Nat) : Nat × St := if bt (sT σ) b = 1 ∨ 3 ≤ sC σ b then (0, σ) else (1, mkS (sH σ) (sD σ) (sG σ) (sT σ) (up1 (sC σ) b (sC σ b + 1)) (sP σ) (sM σ))
def stGag (σ : St) (b : Nat) : Nat × St := if bt (sT σ) b = 1 then (0, σ) else (1, mkS (sH σ) (sD σ) (sG σ ^^^ 2 ^ b) (sT σ) (sC σ) (sP σ) (sM σ))
def stSteal (σ : St) (b : Nat) : Nat × St := if bt (sT σ) b = 1 then (0, σ) else (1, mkS (sH σ) (sD σ) (sG σ) (sT σ + 2 ^ b) (sC σ) (sP σ) (sM σ))
def stBring (σ : St) (b : Nat) : Nat × St := if bt (sT σ) b = 1 then (1, mkS (sH σ) (sD σ) (sG σ) (sT σ - 2 ^ b) (sC σ) (sP σ) (sM σ)) else (0, σ)
def stDamp (σ : St) (n : Nat) : Nat × St := if sD σ = n then (0, σ) else (1, mkS (sH σ) n (sG σ) (sT σ) (sC σ) (sP σ) (sM σ))
def sPass (σ : St) : St := mkS (sH σ + 1) (sD σ) (sG σ) (sT σ) (sC σ) (sP σ) (fun j => sM σ j - sM σ j / 4 - 1)
def stHour (σ : St) : Nat × St := if 900 ≤ sH σ then (0, σ) else (1, sPass σ)
theorem bxr : ∀ a, a < 64 → ∀ k, k < 6 → wn a ^^^ wn (2 ^ k) = wn (a ^^^ 2 ^ k) := by decide +kernel
theorem bst : ∀ a, a < 64 → ∀ k, k < 6 → bt a k = 0 → wn a ||| wn (2 ^ k) = wn (a + 2 ^ k) := by decide +kernel
theorem bbr : ∀ a, a < 64 → ∀ k, k < 6 → bt a k = 1 → wn a &&& (wn (2 ^ k) ^^^ mm) = wn (a - 2 ^ k) := by decide +kernel
theorem ct50 (hsh : Sh G) (hs : s ∈ sts) (hr : rS G s σ) (ht : sT σ < 64) (hb : b < 6) (hv : sC σ b ≤ 3) (k : ∀ G', rS G' s (stCrack σ b).2 → Kp (sc s) G G' → post (.inl (some (.int (wn (stCrack σ b).1)))) G') : am_C am_T (d + 2) 50 [.ref s, .int (wn b)] G post := by
  have hc := am_C_one am_T (d + 1)
  have e1 := bt_01 (sT σ) b
  refine (we50 _ _ _).mpr ((wb50_0 hc _ _ _).mpr ⟨iS hsh hs, ct49 hsh hs hr ht hb ?_⟩)
  unfold stCrack at k
  by_cases c1 : bt (sT σ) b = 1
  · rw [if_pos (Or.inl c1)] at k
    simp +decide (disch := omega) only [↓wm1, wb50_5 hc, wb50_8 hc, wb50_18 hc, wb50_20 hc, w0, w1, w3, rI_wI, rP_wI, rL_wI, rI_wR, rP_wR, is_wI, is_wR, ia_wI, ia_wR, ow_wI, ow_wR, wn_add, wn_mul, wn_cl, wn_le, wn_lt, wn_inj, wn_ne1, wn_1ne, wn_gt1, wn_le1, nb0, nb1, am_kt, am_rt, List.cons_append, List.nil_append, true_and, and_true, not_true_eq_false, not_false_eq_true, imp_f, imp_t, implies_true, fS hsh hs, c1]
    exact k G hr (Kp.refl G)
  · have c0 : bt (sT σ) b = 0 := by omega
    by_cases c2 : sC σ b < 3
    · rw [if_neg (by omega)] at k
      simp +decide (disch := omega) only [↓wm1, wb50_5 hc, wb50_8 hc, wb50_18 hc, wb50_20 hc, w0, w1, w3, rI_wI, rP_wI, rL_wI, rI_wR, rP_wR, is_wI, is_wR, ia_wI, ia_wR, ow_wI, ow_wR, wn_add, wn_mul, wn_cl, wn_le, wn_lt, wn_inj, wn_ne1, wn_1ne, wn_gt1, wn_le1, nb0, nb1, am_kt, am_rt, List.cons_append, List.nil_append, true_and, and_true, not_true_eq_false, not_false_eq_true, imp_f, imp_t, implies_true, fS hsh hs, c0, hr.2.2.2.2.1, c2]
      exact k _ (hr.wC b _) ((Kp.refl G).wI ⟨by omega, by omega⟩ _)
    · rw [if_pos (by omega)] at k
      simp +decide (disch := omega) only [↓wm1, wb50_5 hc, wb50_8 hc, wb50_18 hc, wb50_20 hc, w0, w1, w3, rI_wI, rP_wI, rL_wI, rI_wR, rP_wR, is_wI, is_wR, ia_wI, ia_wR, ow_wI, ow_wR, wn_add, wn_mul, wn_cl, wn_le, wn_lt, wn_inj, wn_ne1, wn_1ne, wn_gt1, wn_le1, nb0, nb1, am_kt, am_rt, List.cons_append, List.nil_append, true_and, and_true, not_true_eq_false, not_false_eq_true, imp_f, imp_t, implies_true, fS hsh hs, c0, hr.2.2.2.2.1, c2]
      exact k G hr (Kp.refl G)
theorem ct51 (hsh : Sh G) (hs : s ∈ sts) (hr : rS G s σ) (hg : sG σ < 64) (ht : sT σ < 64) (hb : b < 6) (k : ∀ G', rS G' s (stGag σ b).2 → Kp (sc s) G G' → post (.inl (some (.int (wn (stGag σ b).1)))) G') : am_C am_T (d + 2) 51 [.ref s, .int (wn b)] G post := by
  have hc := am_C_one am_T (d + 1)
  have e1 := bt_01 (sT σ) b
  refine (we51 _ _ _).mpr ((wb51_0 hc _ _ _).mpr ⟨iS hsh hs, ct49 hsh hs hr ht hb ?_⟩)
  unfold stGag at k
  by_cases c1 : bt (sT σ) b = 1
  · rw [if_pos c1] at k
    simp +decide (disch := omega) only [↓wm1, wb51_5 hc, wb51_8 hc, wb51_10 hc, w0, w1, rI_wI, rP_wI, rL_wI, rI_wR, rP_wR, is_wI, is_wR, ia_wI, ia_wR, ow_wI, ow_wR, wn_add, wn_mul, wn_cl, wn_le, wn_lt, wn_inj, wn_ne1, wn_1ne, wn_gt1, wn_le1, nb0, nb1, am_kt, am_rt, List.cons_append, List.nil_append, true_and, and_true, not_true_eq_false, not_false_eq_true, imp_f, imp_t, implies_true, fS hsh hs, c1]
    exact k G hr (Kp.refl G)
  · have c0 : bt (sT σ) b = 0 := by omega
    rw [if_neg c1] at k
    simp +decide (disch := omega) only [↓wm1, wb51_5 hc, wb51_8 hc, wb51_10 hc, w0, w1, rI_wI, rP_wI, rL_wI, rI_wR, rP_wR, is_wI, is_wR, ia_wI, ia_wR, ow_wI, ow_wR, wn_add, wn_mul, wn_cl, wn_le, wn_lt, wn_inj, wn_ne1, wn_1ne, wn_gt1, wn_le1, nb0, nb1, am_kt, am_rt, List.cons_append, List.nil_append, true_and, and_true, not_true_eq_false, not_false_eq_true, imp_f, imp_t, implies_true, fS hsh hs, c0, hr.2.2.1, bs1, bxr]
    exact k _ (hr.wG _) ((Kp.refl G).wI ⟨by omega, by omega⟩ _)
theorem ct52 (hsh : Sh G) (hs : s ∈ sts) (hr : rS G s σ) (ht : sT σ < 64) (hb : b < 6) (k : ∀ G', rS G' s (stSteal σ b).2 → Kp (sc s) G G' → post (.inl (some (.int (wn (stSteal σ b).1)))) G') : am_C am_T (d + 2) 52 [.ref s, .int (wn b)] G post := by
  have hc := am_C_one am_T (d + 1)
  have e1 := bt_01 (sT σ) b
  refine (we52 _ _ _).mpr ((wb52_0 hc _ _ _).mpr ⟨iS hsh hs, ct49 hsh hs hr ht hb ?_⟩)
  unfold stSteal at k
  by_cases c1 : bt (sT σ) b = 1
  · rw [if_pos c1] at k
    simp +decide (disch := omega) only [↓wm1, wb52_5 hc, wb52_8 hc, wb52_10 hc, w0, w1, rI_wI, rP_wI, rL_wI, rI_wR, rP_wR, is_wI, is_wR, ia_wI, ia_wR, ow_wI, ow_wR, wn_add, wn_mul, wn_cl, wn_le, wn_lt, wn_inj, wn_ne1, wn_1ne, wn_gt1, wn_le1, nb0, nb1, am_kt, am_rt, List.cons_append, List.nil_append, true_and, and_true, not_true_eq_false, not_false_eq_true, imp_f, imp_t, implies_true, fS hsh hs, c1]
    exact k G hr (Kp.refl G)
  · have c0 : bt (sT σ) b = 0 := by omega
    rw [if_neg c1] at k
    simp +decide (disch := omega) only [↓wm1, wb52_5 hc, wb52_8 hc, wb52_10 hc, w0, w1, rI_wI, rP_wI, rL_wI, rI_wR, rP_wR, is_wI, is_wR, ia_wI, ia_wR, ow_wI, ow_wR, wn_add, wn_mul, wn_cl, wn_le, wn_lt, wn_inj, wn_ne1, wn_1ne, wn_gt1, wn_le1, nb0, nb1, am_kt, am_rt, List.cons_append, List.nil_append, true_and, and_true, not_true_eq_false, not_false_eq_true, imp_f, imp_t, implies_true, fS hsh hs, c0, hr.2.2.2.1, bs1, bst]
    exact k _ (hr.wT _) ((Kp.refl G).wI ⟨by omega, by omega⟩ _)
theorem ct53 (hsh : Sh G) (hs : s ∈ sts) (hr : rS G s σ) (ht : sT σ < 64) (hb : b < 6) (k : ∀ G', rS G' s (stBring σ b).2 → Kp (sc s) G G' → post (.inl (some (.int (wn (stBring σ b).1)))) G') : am_C am_T (d + 2) 53 [.ref s, .int (wn b)] G post := by
  have hc := am_C_one am_T (d + 1)
  have e1 := bt_01 (sT σ) b
  refine (we53 _ _ _).mpr ((wb53_0 hc _ _ _).mpr ⟨iS hsh hs, ct49 hsh hs hr ht hb ?_⟩)
  unfold stBring at k
  by_cases c1 : bt (sT σ) b = 1
  · rw [if_pos c1] at k
    have e2 := bbr (sT σ) ht b hb c1
    have e3 := bs1 b (by omega)
    simp +decide (disch := omega) only [↓wm1, wb53_5 hc, wb53_8 hc, wb53_10 hc, w0, w1, rI_wI, rP_wI, rL_wI, rI_wR, rP_wR, is_wI, is_wR, ia_wI, ia_wR, ow_wI, ow_wR, wn_add, wn_mul, wn_cl, wn_le, wn_lt, wn_inj, wn_ne1, wn_1ne, wn_gt1, wn_le1, nb0, nb1, am_kt, am_rt, List.cons_append, List.nil_append, true_and, and_true, not_true_eq_false, not_false_eq_true, imp_f, imp_t, implies_true, fS hsh hs, c1, hr.2.2.2.1, e2, e3]
    exact k _ (hr.wT _) ((Kp.refl G).wI ⟨by omega, by omega⟩ _)
  · have c0 : bt (sT σ) b = 0 := by omega
    rw [if_neg c1] at k
    simp +decide (disch := omega) only [↓wm1, wb53_5 hc, wb53_8 hc, wb53_10 hc, w0, w1, rI_wI, rP_wI, rL_wI, rI_wR, rP_wR, is_wI, is_wR, ia_wI, ia_wR, ow_wI, ow_wR, wn_add, wn_mul, wn_cl, wn_le, wn_lt, wn_inj, wn_ne1, wn_1ne, wn_gt1, wn_le1, nb0, nb1, am_kt, am_rt, List.cons_append, List.nil_append, true_and, and_true, not_true_eq_false, not_false_eq_true, imp_f, imp_t, implies_true, fS hsh hs, c0]
    exact k G hr (Kp.refl G)
theorem ct54 {n : Nat} (hsh : Sh G) (hs : s ∈ sts) (hr : rS G s σ) (hd : sD σ ≤ 9) (hn : n ≤ 9) (k : ∀ G', rS G' s (stDamp σ n).2 → Kp (sc s) G G' → post (.inl (some (.int (wn (stDamp σ n).1)))) G') : am_C am_T (d + 1) 54 [.ref s, .int (wn n)] G post := by
  have hc := am_C_one am_T d
  rw [we54]
  unfold stDamp at k
  by_cases c1 : sD σ = n
  · rw [if_pos c1] at k
    simp +decide (disch := omega) only [↓wm1, wb54_0 hc, wb54_8 hc, wb54_10 hc, w0, w1, rI_wI, rP_wI, rL_wI, rI_wR, rP_wR, is_wI, is_wR, ia_wI, ia_wR, ow_wI, ow_wR, wn_add, wn_mul, wn_cl, wn_le, wn_lt, wn_inj, wn_ne1, wn_1ne, wn_gt1, wn_le1, nb0, nb1, am_kt, am_rt, List.cons_append, List.nil_append, true_and, and_true, not_true_eq_false, not_false_eq_true, imp_f, imp_t, implies_true, fS hsh hs, hr.2.1, c1]
    exact k G hr (Kp.refl G)
  · rw [if_neg c1] at k
    simp +decide (disch := omega) only [↓wm1, wb54_0 hc, wb54_8 hc, wb54_10 hc, w0, w1, rI_wI, rP_wI, rL_wI, rI_wR, rP_wR, is_wI, is_wR, ia_wI, ia_wR, ow_wI, ow_wR, wn_add, wn_mul, wn_cl, wn_le, wn_lt, wn_inj, wn_ne1, wn_1ne, wn_gt1, wn_le1, nb0, nb1, am_kt, am_rt, List.cons_append, List.nil_append, true_and, and_true, not_true_eq_false, not_false_eq_true, imp_f, imp_t, implies_true, fS hsh hs, hr.2.1, c1]
    exact k _ (hr.wD _) ((Kp.refl G).wI ⟨by omega, by omega⟩ _)
end
