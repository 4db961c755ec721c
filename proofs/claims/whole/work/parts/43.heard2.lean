/-! HEARD of a bell in a house, both sides. -/
theorem sts_gt : ∀ s ∈ sts, 31 < s := by decide +kernel
/-- the scope of hearing in the object, in the reference -/
def HS : Nat → Nat → Prop := fun a _ => a = 22 ∨ a = 25 ∨ a = 26
def HM : Nat → Nat → Prop := fun a _ => a = 725 ∨ a = 726
/-- the town: district and law -/
def Tw (G : am_G) (q l : Nat) (δ : Dt) (Λ : List Tok) : Prop := am_gP G 3 0 = q ∧ am_gP G 3 2 = l ∧ (q = 4 ∨ q = 12) ∧ (l = 20 ∨ l = 23) ∧ rD G q δ ∧ vD δ ∧ rL G l (eff Λ) ∧ okΛ Λ
theorem Tw.kp {Sc : Nat → Nat → Prop} {G G' : am_G} {q l : Nat} {δ : Dt} {Λ : List Tok} (h : Tw G q l δ Λ) (k : Kp Sc G G') (hn : ∀ a i, Sc a i → a < 4 ∨ a = 22 ∨ a = 25 ∨ 26 ≤ a) : Tw G' q l δ Λ := by
  obtain ⟨h1, h2, h3, h4, h5, h6, h7, h8⟩ := h
  refine ⟨by rw [k.p]; exact h1, by rw [k.p]; exact h2, h3, h4, h5.kp k (fun a i b c z => ?_), h6, ⟨?_, fun i t ht => ?_⟩, h8⟩
  · have := hn a i z; omega
  · rw [k.i (fun z => by have := hn _ _ z; omega)]; exact h7.1
  · rw [k.i (fun z => by have := hn _ _ z; omega)]; exact h7.2 i t ht
/-- the reference's town -/
def Tm (G : am_G) (δ : Dt) (Λ : List Tok) : Prop := rE G δ ∧ vD δ ∧ rLm G Λ ∧ okΛ Λ
theorem okΛ_len {Λ : List Tok} (h : okΛ Λ) : Λ.length ≤ 150 := by
  rcases h with rfl | h
  · exact Nat.zero_le _
  · exact h.1
theorem Tm.kp {Sc : Nat → Nat → Prop} {G G' : am_G} {δ : Dt} {Λ : List Tok} (h : Tm G δ Λ) (k : Kp Sc G G') (hn : ∀ a i, Sc a i → ¬ (338 ≤ a ∧ a < 548) ∧ (a = 334 → i ≠ 19)) : Tm G' δ Λ := by
  obtain ⟨h1, h2, h3, h4⟩ := h
  have hl := okΛ_len h4
  refine ⟨h1.kp h2 k (fun a i b c z => (hn a i z).1 ⟨b, by omega⟩), h2, ⟨?_, fun i t ht => ?_⟩, h4⟩
  · rw [k.i (fun z => (hn _ _ z).2 rfl rfl)]; exact h3.1
  · have hi : i < Λ.length := (List.getElem?_eq_some_iff.mp ht).1
    rw [k.i (fun z => (hn _ _ z).1 ⟨by omega, by omega⟩), k.i (fun z => (hn _ _ z).1 ⟨by omega, by omega⟩)]; exact h3.2 i t ht
section
variable {G : am_G} {d : Nat} {post : am_O → am_G → Prop}
theorem abs_ok : ∀ a, a < 10 → ∀ b, b < 10 → (if wn 0 ≤ wn a - wn b then wn a - wn b else -(wn a - wn b)) = wn (dst a b) := by decide +kernel
theorem ct270 {a b : Nat} (ha : a < 10) (hb : b < 10) : am_C am_T (d + 1) 270 [.int (wn a - wn b)] G post ↔ post (.inl (some (.int (wn (dst a b))))) G := by
  have hc := am_C_one am_T d
  rw [we270, ← abs_ok a ha b hb]
  by_cases h : wn 0 ≤ wn a - wn b
  · simp +decide (disch := omega) only [↓wm1, wb270_0 hc, wb270_4 hc, wb270_9 hc, wb270_10 hc, w0, w1, rI_wI, rP_wI, rL_wI, rI_wR, rP_wR, is_wI, is_wR, ia_wI, ia_wR, ow_wI, ow_wR, wn_add, wn_mul, wn_cl, wn_le, wn_lt, wn_inj, wn_ne1, wn_1ne, wn_gt1, wn_le1, nb0, nb1, am_kt, am_rt, List.cons_append, List.nil_append, true_and, and_true, not_true_eq_false, not_false_eq_true, imp_f, imp_t, implies_true, Nat.zero_add, if_true, if_false, h, if_true]
  · simp +decide (disch := omega) only [↓wm1, wb270_0 hc, wb270_4 hc, wb270_9 hc, wb270_10 hc, w0, w1, rI_wI, rP_wI, rL_wI, rI_wR, rP_wR, is_wI, is_wR, ia_wI, ia_wR, ow_wI, ow_wR, wn_add, wn_mul, wn_cl, wn_le, wn_lt, wn_inj, wn_ne1, wn_1ne, wn_gt1, wn_le1, nb0, nb1, am_kt, am_rt, List.cons_append, List.nil_append, true_and, and_true, not_true_eq_false, not_false_eq_true, imp_f, imp_t, implies_true, Nat.zero_add, if_true, if_false, h, if_false]
theorem more_ok : ∀ a, a < 10 → ∀ b, b < 10 → (if wn a - wn b ≤ wn b - wn a then wn b - wn a else wn a - wn b) = wn (dst a b) := by decide +kernel
variable {s q l b h m : Nat} {σ : St} {δ : Dt} {Λ : List Tok}
/-- what knowHouse leaves in the row of what is known -/
def kh (G : am_G) (δ : Dt) (σ : St) (m h : Nat) : Nat → Int32 := fun j => if j = 1 then wn (hF δ h) else if j = 2 then wn (dst m (hE δ h)) else if j = 4 then wn (sD σ) else if j = 6 then wn (sH σ % 24) else if j = 8 then wn h else am_gI G 26 j
theorem ct84 (hsh : Sh G) (hT : Tw G q l δ Λ) (hs : s ∈ sts) (hr : rS G s σ) (hm : m ≤ 9) (hh : h < dH δ) (hH : sH σ < 2147483648) (k : ∀ G', (∀ j, j < 9 → am_gI G' 26 j = kh G δ σ m h j) → Kp (fun a _ => a = 26) G G' → post (.inl none) G') : am_C am_T (d + 2) 84 [.ref 3, .ref s, .int (wn m), .int (wn h)] G post := by
  have hc := am_C_one am_T (d + 1)
  obtain ⟨h1, h2, h3, h4, h5, h6, h7, h8⟩ := hT
  have hv := h6.2.2.2.2.2.1 h hh
  have e1 := (h5.2.2.2.2.2.1 h hh).1
  have e2 := (h5.2.2.2.2.2.1 h hh).2
  have hh7 : h < 7 := by have := h6.2.1; omega
  have s1 := sts_gt s hs
  have n1 : ¬ q = 26 := by omega
  have n2 : ¬ q + 3 = 26 := by omega
  have n3 : ¬ q + 4 = 26 := by omega
  have n4 : ¬ s = 26 := by omega
  rw [we84]
  simp +decide (disch := omega) only [↓wm1, wb84_0 hc, w0, w1, w2, w4, w6, w8, w24, rI_wI, rP_wI, rL_wI, rI_wR, rP_wR, is_wI, is_wR, ia_wI, ia_wR, ow_wI, ow_wR, wn_add, wn_mul, wn_cl, wn_le, wn_lt, wn_inj, wn_ne1, wn_1ne, wn_gt1, wn_le1, nb0, nb1, am_kt, am_rt, List.cons_append, List.nil_append, true_and, and_true, not_true_eq_false, not_false_eq_true, imp_f, imp_t, implies_true, Nat.zero_add, if_true, if_false, i3 hsh, q3_4 hsh, h1, fD hsh h3, ow26 hsh, e1, e2, n1, n2, n3, false_and, if_false]
  rw [ct270 (by omega) (by omega)]
  simp +decide (disch := omega) only [↓wm1, wb84_34 hc, w0, w1, w2, w4, w6, w8, w24, rI_wI, rP_wI, rL_wI, rI_wR, rP_wR, is_wI, is_wR, ia_wI, ia_wR, ow_wI, ow_wR, wn_add, wn_mul, wn_cl, wn_le, wn_lt, wn_inj, wn_ne1, wn_1ne, wn_gt1, wn_le1, nb0, nb1, am_kt, am_rt, List.cons_append, List.nil_append, true_and, and_true, not_true_eq_false, not_false_eq_true, imp_f, imp_t, implies_true, Nat.zero_add, if_true, if_false, i3 hsh, q3_4 hsh, fS hsh hs, ow26 hsh, hr.1, hr.2.1, n4, false_and, if_false, wn_rem]
  refine k _ (fun j hj => ?_) ?_
  · have : j = 0 ∨ j = 1 ∨ j = 2 ∨ j = 3 ∨ j = 4 ∨ j = 5 ∨ j = 6 ∨ j = 7 ∨ j = 8 := by omega
    rcases this with rfl | rfl | rfl | rfl | rfl | rfl | rfl | rfl | rfl <;> simp [rI_wI, kh]
  · exact (((((Kp.refl G).wI (by exact rfl) _).wI (by exact rfl) _).wI (by exact rfl) _).wI (by exact rfl) _).wI (by exact rfl) _
theorem ct82 (hsh : Sh G) (hT : Tw G q l δ Λ) (hs : s ∈ sts) (hr : rS G s σ) (hb : b < dB δ) (hh : h < dH δ) (hH : sH σ < 2147483648) (k : ∀ G', Kp HS G G' → post (.inl (some (.int (wn (hear δ Λ σ b h))))) G') : am_C am_T (d + 4) 82 [.ref 3, .ref s, .int (wn b), .int (wn h)] G post := by
  have hc := am_C_one am_T (d + 3)
  have hT0 := hT
  obtain ⟨h1, h2, h3, h4, h5, h6, h7, h8⟩ := hT
  have hv := h6.2.2.2.2.1 b hb
  have e1 := (h5.2.2.2.2.1 b hb).1
  have e2 := (h5.2.2.2.2.1 b hb).2
  have hb6 : b < 6 := by have := h6.1; omega
  have s1 := sts_gt s hs
  have e3 := hr.2.2.2.2.1 b hb6
  have e4 := hr.2.2.2.2.2.1 b hb6
  have n0 : ¬ q = 26 := by omega
  have n1 : ¬ q + 1 = 26 := by omega
  have n2 : ¬ q + 2 = 26 := by omega
  have n4 : ¬ s = 26 := by omega
  have n5 : ¬ s + 1 = 26 := by omega
  have n6 : ¬ s + 2 = 26 := by omega
  rw [we82]
  simp +decide (disch := omega) only [↓wm1, wb82_0 hc, w0, w1, w3, w5, w7, rI_wI, rP_wI, rL_wI, rI_wR, rP_wR, is_wI, is_wR, ia_wI, ia_wR, ow_wI, ow_wR, wn_add, wn_mul, wn_cl, wn_le, wn_lt, wn_inj, wn_ne1, wn_1ne, wn_gt1, wn_le1, nb0, nb1, am_kt, am_rt, List.cons_append, List.nil_append, true_and, and_true, not_true_eq_false, not_false_eq_true, imp_f, imp_t, implies_true, Nat.zero_add, if_true, if_false, i3 hsh, q3_4 hsh, h1, fD hsh h3, fS hsh hs, ow26 hsh, e1, e2, e3, e4, n0, n1, n2, n4, n5, n6, false_and, if_false]
  have k1 : Kp (fun a _ => a = 26) G (am_wI (am_wI (am_wI (am_wI G 26 0 (wn (bL δ b))) 26 3 (wn (sC σ b))) 26 5 (wn (sP σ b))) 26 7 (wn b)) := ((((Kp.refl G).wI (by exact rfl) _).wI (by exact rfl) _).wI (by exact rfl) _).wI (by exact rfl) _
  have hT1 := hT0.kp k1 (by rintro a i rfl; omega)
  have hr1 := hr.kp k1 (by rintro a i h1 h2 rfl; omega)
  refine ct84 (hsh.kp k1) hT1 hs hr1 hv.1 hh hH (fun G2 f2 k2 => ?_)
  have hsh2 := (hsh.kp k1).kp k2
  have hT2 := hT1.kp k2 (by rintro a i rfl; omega)
  simp +decide (disch := omega) only [↓wm1, wb82_62 hc, w0, w1, w3, w5, w7, rI_wI, rP_wI, rL_wI, rI_wR, rP_wR, is_wI, is_wR, ia_wI, ia_wR, ow_wI, ow_wR, wn_add, wn_mul, wn_cl, wn_le, wn_lt, wn_inj, wn_ne1, wn_1ne, wn_gt1, wn_le1, nb0, nb1, am_kt, am_rt, List.cons_append, List.nil_append, true_and, and_true, not_true_eq_false, not_false_eq_true, imp_f, imp_t, implies_true, Nat.zero_add, if_true, if_false, i3 hsh2, q3_4 hsh2, hT2.2.1, fL hsh2 h4]
  refine ct29 hsh2 h4 hT2.2.2.2.2.2.2.1 (okΛ_eff h8) (kn := knv (bL δ b) (hF δ h) (dst (bM δ b) (hE δ h)) (sC σ b) (sD σ) (sP σ b) (sH σ % 24) b h) (fun j hj => ?_) (fun G3 k3 => ?_)
  · rw [f2 j hj]
    have : j = 0 ∨ j = 1 ∨ j = 2 ∨ j = 3 ∨ j = 4 ∨ j = 5 ∨ j = 6 ∨ j = 7 ∨ j = 8 := by omega
    rcases this with rfl | rfl | rfl | rfl | rfl | rfl | rfl | rfl | rfl <;> simp [rI_wI, kh, knv]
  · simp +decide (disch := omega) only [↓wm1, wb82_73 hc, w0, w1, w3, w5, w7, rI_wI, rP_wI, rL_wI, rI_wR, rP_wR, is_wI, is_wR, ia_wI, ia_wR, ow_wI, ow_wR, wn_add, wn_mul, wn_cl, wn_le, wn_lt, wn_inj, wn_ne1, wn_1ne, wn_gt1, wn_le1, nb0, nb1, am_kt, am_rt, List.cons_append, List.nil_append, true_and, and_true, not_true_eq_false, not_false_eq_true, imp_f, imp_t, implies_true, Nat.zero_add, if_true, if_false]
    refine k G3 (((k1.mono ?_).trans (k2.mono ?_)).trans (k3.mono ?_))
    · rintro a i rfl; exact Or.inr (Or.inr rfl)
    · rintro a i rfl; exact Or.inr (Or.inr rfl)
    · rintro a i rfl
      rcases h4 with rfl | rfl
      · exact Or.inl rfl
      · exact Or.inr (Or.inl rfl)
theorem ct83 {o : Nat} (hsh : Sh G) (hT : Tw G q l δ Λ) (hs : s ∈ sts) (hr : rS G s σ) (hm : m ≤ 9) (hh : h < dH δ) (hH : sH σ < 2147483648) (k : ∀ G', Kp HS G G' → post (.inl (some (.int (wn (hearU δ Λ σ m o h))))) G') : am_C am_T (d + 4) 83 [.ref 3, .ref s, .int (wn m), .int (wn o), .int (wn h)] G post := by
  have hc := am_C_one am_T (d + 3)
  have hT0 := hT
  obtain ⟨h1, h2, h3, h4, h5, h6, h7, h8⟩ := hT
  have s1 := sts_gt s hs
  rw [we83]
  simp +decide (disch := omega) only [↓wm1, wb83_0 hc, w0, w1, w3, w5, w6, w7, rI_wI, rP_wI, rL_wI, rI_wR, rP_wR, is_wI, is_wR, ia_wI, ia_wR, ow_wI, ow_wR, wn_add, wn_mul, wn_cl, wn_le, wn_lt, wn_inj, wn_ne1, wn_1ne, wn_gt1, wn_le1, nb0, nb1, am_kt, am_rt, List.cons_append, List.nil_append, true_and, and_true, not_true_eq_false, not_false_eq_true, imp_f, imp_t, implies_true, Nat.zero_add, if_true, if_false, i3 hsh, q3_4 hsh, h1, fS hsh hs, ow26 hsh]
  have k1 : Kp (fun a _ => a = 26) G (am_wI (am_wI (am_wI (am_wI G 26 0 (wn o)) 26 3 (wn 0)) 26 5 (wn 0)) 26 7 (wn 6)) := ((((Kp.refl G).wI (by exact rfl) _).wI (by exact rfl) _).wI (by exact rfl) _).wI (by exact rfl) _
  have hT1 := hT0.kp k1 (by rintro a i rfl; omega)
  have hr1 := hr.kp k1 (by rintro a i h1 h2 rfl; omega)
  refine ct84 (hsh.kp k1) hT1 hs hr1 hm hh hH (fun G2 f2 k2 => ?_)
  have hsh2 := (hsh.kp k1).kp k2
  have hT2 := hT1.kp k2 (by rintro a i rfl; omega)
  simp +decide (disch := omega) only [↓wm1, wb83_38 hc, w0, w1, w3, w5, w6, w7, rI_wI, rP_wI, rL_wI, rI_wR, rP_wR, is_wI, is_wR, ia_wI, ia_wR, ow_wI, ow_wR, wn_add, wn_mul, wn_cl, wn_le, wn_lt, wn_inj, wn_ne1, wn_1ne, wn_gt1, wn_le1, nb0, nb1, am_kt, am_rt, List.cons_append, List.nil_append, true_and, and_true, not_true_eq_false, not_false_eq_true, imp_f, imp_t, implies_true, Nat.zero_add, if_true, if_false, i3 hsh2, q3_4 hsh2, hT2.2.1, fL hsh2 h4]
  refine ct29 hsh2 h4 hT2.2.2.2.2.2.2.1 (okΛ_eff h8) (kn := knv o (hF δ h) (dst m (hE δ h)) 0 (sD σ) 0 (sH σ % 24) 6 h) (fun j hj => ?_) (fun G3 k3 => ?_)
  · rw [f2 j hj]
    have : j = 0 ∨ j = 1 ∨ j = 2 ∨ j = 3 ∨ j = 4 ∨ j = 5 ∨ j = 6 ∨ j = 7 ∨ j = 8 := by omega
    rcases this with rfl | rfl | rfl | rfl | rfl | rfl | rfl | rfl | rfl <;> simp [rI_wI, kh, knv]
  · simp +decide (disch := omega) only [↓wm1, wb83_49 hc, w0, w1, w3, w5, w6, w7, rI_wI, rP_wI, rL_wI, rI_wR, rP_wR, is_wI, is_wR, ia_wI, ia_wR, ow_wI, ow_wR, wn_add, wn_mul, wn_cl, wn_le, wn_lt, wn_inj, wn_ne1, wn_1ne, wn_gt1, wn_le1, nb0, nb1, am_kt, am_rt, List.cons_append, List.nil_append, true_and, and_true, not_true_eq_false, not_false_eq_true, imp_f, imp_t, implies_true, Nat.zero_add, if_true, if_false]
    refine k G3 (((k1.mono ?_).trans (k2.mono ?_)).trans (k3.mono ?_))
    · rintro a i rfl; exact Or.inr (Or.inr rfl)
    · rintro a i rfl; exact Or.inr (Or.inr rfl)
    · rintro a i rfl
      rcases h4 with rfl | rfl
      · exact Or.inl rfl
      · exact Or.inr (Or.inl rfl)
/-! the reference -/
theorem ct193 {x0 x1 x2 x3 x4 x5 x6 x7 x8 : Nat} (hsh : Sh G) (hT : Tm G δ Λ) (k : ∀ G', Kp HM G G' → post (.inl (some (.int (wn (hl Λ (knv x0 x1 x2 x3 x4 x5 x6 x7 x8)))))) G') : am_C am_T (d + 4) 193 [.ref 334, .int (wn x0), .int (wn x1), .int (wn x2), .int (wn x3), .int (wn x4), .int (wn x5), .int (wn x6), .int (wn x7), .int (wn x8)] G post := by
  have hc := am_C_one am_T (d + 3)
  rw [we193]
  simp +decide (disch := omega) only [↓wm1, wb193_0 hc, w0, w1, w2, w3, w4, w5, w6, w7, w8, rI_wI, rP_wI, rL_wI, rI_wR, rP_wR, is_wI, is_wR, ia_wI, ia_wR, ow_wI, ow_wR, wn_add, wn_mul, wn_cl, wn_le, wn_lt, wn_inj, wn_ne1, wn_1ne, wn_gt1, wn_le1, nb0, nb1, am_kt, am_rt, List.cons_append, List.nil_append, true_and, and_true, not_true_eq_false, not_false_eq_true, imp_f, imp_t, implies_true, Nat.zero_add, if_true, if_false, fM hsh, ow726 hsh]
  have k1 : Kp (fun a _ => a = 726) G (am_wI (am_wI (am_wI (am_wI (am_wI (am_wI (am_wI (am_wI (am_wI G 726 0 (wn x0)) 726 1 (wn x1)) 726 2 (wn x2)) 726 3 (wn x3)) 726 4 (wn x4)) 726 5 (wn x5)) 726 6 (wn x6)) 726 7 (wn x7)) 726 8 (wn x8)) := (((((((((Kp.refl G).wI (by exact rfl) _).wI (by exact rfl) _).wI (by exact rfl) _).wI (by exact rfl) _).wI (by exact rfl) _).wI (by exact rfl) _).wI (by exact rfl) _).wI (by exact rfl) _).wI (by exact rfl) _
  have hT1 := hT.kp k1 (by rintro a i rfl; exact ⟨by omega, by omega⟩)
  refine ct188 (hsh.kp k1) hT1.2.2.1 hT1.2.2.2 (kn := knv x0 x1 x2 x3 x4 x5 x6 x7 x8) (fun j hj => ?_) (fun G2 k2 => ?_)
  · have : j = 0 ∨ j = 1 ∨ j = 2 ∨ j = 3 ∨ j = 4 ∨ j = 5 ∨ j = 6 ∨ j = 7 ∨ j = 8 := by omega
    rcases this with rfl | rfl | rfl | rfl | rfl | rfl | rfl | rfl | rfl <;> simp [rI_wI, knv]
  · simp +decide (disch := omega) only [↓wm1, wb193_76 hc, w0, w1, w2, w3, w4, w5, w6, w7, w8, rI_wI, rP_wI, rL_wI, rI_wR, rP_wR, is_wI, is_wR, ia_wI, ia_wR, ow_wI, ow_wR, wn_add, wn_mul, wn_cl, wn_le, wn_lt, wn_inj, wn_ne1, wn_1ne, wn_gt1, wn_le1, nb0, nb1, am_kt, am_rt, List.cons_append, List.nil_append, true_and, and_true, not_true_eq_false, not_false_eq_true, imp_f, imp_t, implies_true, Nat.zero_add, if_true, if_false]
    refine k G2 ((k1.mono ?_).trans (k2.mono ?_))
    · rintro a i rfl; exact Or.inr rfl
    · rintro a i rfl; exact Or.inl rfl
theorem ct195 {r x2 x3 x4 x5 x6 : Nat} (hsh : Sh G) (hT : Tm G δ Λ) (hrr : r ∈ rws) (hr : rW G r 0 σ) (hh : h < dH δ) (hH : sH σ < 2147483648) (h2 : x2 ≤ 9) (k : ∀ G', Kp HM G G' → post (.inl (some (.int (wn (hl Λ (knv x3 (hF δ h) (dst x2 (hE δ h)) x4 (sD σ) x5 (sH σ % 24) x6 h)))))) G') : am_C am_T (d + 5) 195 [.ref 334, .ref r, .int (wn x2), .int (wn x3), .int (wn x4), .int (wn x5), .int (wn x6), .int (wn h)] G post := by
  have hc := am_C_one am_T (d + 4)
  have hT0 := hT
  obtain ⟨hE', hv, -, -⟩ := hT
  have e := hE'.2.2.2.2.2.1 h hh
  have b := hv.2.2.2.2.2.1 h hh
  have hh7 : h < 7 := by have := hv.2.1; omega
  have f := fW hr
  have mk := more_ok x2 (by omega) (hE δ h) (by omega)
  rw [we195]
  simp +decide (disch := omega) only [↓wm1, wb195_0 hc, wb195_33 hc, wb195_55 hc, w0, w1, w24, w94, w95, rI_wI, rP_wI, rL_wI, rI_wR, rP_wR, is_wI, is_wR, ia_wI, ia_wR, ow_wI, ow_wR, wn_add, wn_mul, wn_cl, wn_le, wn_lt, wn_inj, wn_ne1, wn_1ne, wn_gt1, wn_le1, nb0, nb1, am_kt, am_rt, List.cons_append, List.nil_append, true_and, and_true, not_true_eq_false, not_false_eq_true, imp_f, imp_t, implies_true, Nat.zero_add, if_true, if_false, fM hsh, fr361 hsh, fR hsh hrr, e.1, e.2, ct155, mk, f.2.2.2.2.2.1, f.2.2.2.2.2.2, wn_rem]
  refine ct193 hsh hT0 (fun G' k' => ?_)
  simp +decide (disch := omega) only [↓wm1, wb195_55 hc, w0, w1, w24, w94, w95, rI_wI, rP_wI, rL_wI, rI_wR, rP_wR, is_wI, is_wR, ia_wI, ia_wR, ow_wI, ow_wR, wn_add, wn_mul, wn_cl, wn_le, wn_lt, wn_inj, wn_ne1, wn_1ne, wn_gt1, wn_le1, nb0, nb1, am_kt, am_rt, List.cons_append, List.nil_append, true_and, and_true, not_true_eq_false, not_false_eq_true, imp_f, imp_t, implies_true, Nat.zero_add, if_true, if_false]
  exact k G' k'
theorem ct196 {r : Nat} (hsh : Sh G) (hT : Tm G δ Λ) (hrr : r ∈ rws) (hr : rW G r 0 σ) (hb : b < dB δ) (hh : h < dH δ) (hH : sH σ < 2147483648) (k : ∀ G', Kp HM G G' → post (.inl (some (.int (wn (hear δ Λ σ b h))))) G') : am_C am_T (d + 6) 196 [.ref 334, .ref r, .int (wn b), .int (wn h)] G post := by
  have hc := am_C_one am_T (d + 5)
  have hT0 := hT
  obtain ⟨hE', hv, -, -⟩ := hT
  have e := hE'.2.2.2.2.1 b hb
  have v := hv.2.2.2.2.1 b hb
  have hb6 : b < 6 := by have := hv.1; omega
  have f := fW hr
  rw [we196]
  simp +decide (disch := omega) only [↓wm1, wb196_0 hc, w0, w1, w18, rI_wI, rP_wI, rL_wI, rI_wR, rP_wR, is_wI, is_wR, ia_wI, ia_wR, ow_wI, ow_wR, wn_add, wn_mul, wn_cl, wn_le, wn_lt, wn_inj, wn_ne1, wn_1ne, wn_gt1, wn_le1, nb0, nb1, am_kt, am_rt, List.cons_append, List.nil_append, true_and, and_true, not_true_eq_false, not_false_eq_true, imp_f, imp_t, implies_true, Nat.zero_add, if_true, if_false, fM hsh, fr346 hsh, fR hsh hrr, e.1, e.2, f.1, f.2.2.2.1]
  refine ct195 hsh hT0 hrr hr hh hH v.1 (fun G' k' => ?_)
  simp +decide (disch := omega) only [↓wm1, wb196_34 hc, w0, w1, w18, rI_wI, rP_wI, rL_wI, rI_wR, rP_wR, is_wI, is_wR, ia_wI, ia_wR, ow_wI, ow_wR, wn_add, wn_mul, wn_cl, wn_le, wn_lt, wn_inj, wn_ne1, wn_1ne, wn_gt1, wn_le1, nb0, nb1, am_kt, am_rt, List.cons_append, List.nil_append, true_and, and_true, not_true_eq_false, not_false_eq_true, imp_f, imp_t, implies_true, Nat.zero_add, if_true, if_false]
  exact k G' k'
end
