/-! Arguments within bounds; what the reference does at a refusal. -/
def vin2 (x : Int32) (lo hi : Nat) : Bool := decide (¬ x < wn lo ∧ x < wn hi)
theorem vin2_or (x : Int32) (lo hi : Nat) (hl : lo < 2147483648) (hh : hi < 2147483648) : (∃ b, lo ≤ b ∧ b < hi ∧ x = wn b) ∨ (x < wn lo ∨ ¬ x < wn hi) := by
  by_cases h : x < wn lo
  · exact Or.inr (Or.inl h)
  · have h0 : ¬ x < 0 := by
      intro z
      apply h
      rw [Int32.lt_iff_toInt_lt] at z ⊢
      rw [wn_toInt hl]
      have : (0 : Int32).toInt = 0 := rfl
      omega
    have e := wn_nat h0
    have l := tN_lt x
    rw [← e, wn_lt l hl] at h
    by_cases h2 : x.toNatClampNeg < hi
    · exact Or.inl ⟨_, by omega, h2, e.symm⟩
    · right; right
      rw [← e, wn_lt l hh]
      exact h2
theorem vin2_t {b lo hi : Nat} (hl : lo ≤ b) (hb : b < hi) (hn : hi < 2147483648) : vin2 (wn b) lo hi = true := by
  unfold vin2
  rw [decide_eq_true_eq, wn_lt (by omega) (by omega), wn_lt (by omega) hn]
  omega
theorem vin2_f {x : Int32} {lo hi : Nat} (h : x < wn lo ∨ ¬ x < wn hi) : vin2 x lo hi = false := by
  unfold vin2
  rw [decide_eq_false_iff_not]
  rintro ⟨h1, h2⟩
  rcases h with h | h
  · exact h1 h
  · exact h h2
theorem vin2_nf {x : Int32} {lo hi : Nat} (h : x < wn lo ∨ ¬ x < wn hi) : ¬ (vin2 x lo hi = true) := by
  rw [vin2_f h]; decide
/-- outside: as the code asks -/
theorem out2 {x : Int32} {hi : Nat} (hh : hi < 2147483648) (h : ¬ x < wn hi) : wn hi ≤ x := Int32.not_lt.mp h
theorem out3 {x : Int32} {hi : Nat} (hh : hi + 1 < 2147483648) (h : ¬ x < wn (hi + 1)) : wn hi < x := by
  rw [Int32.lt_iff_toInt_lt, wn_toInt hh] at h
  rw [Int32.lt_iff_toInt_lt, wn_toInt (by omega)]
  omega
theorem lim_lt {x : Int32} {n : Nat} (hn : n < 2147483648) (h0 : ¬ x < wn 0) : (¬ lim n < x) ↔ x < wn n := by
  have e := wn_nat h0
  have l := tN_lt x
  rw [← e, Int32.not_lt, lim_le l hn, wn_lt l hn]
def u (x : Int32) : Nat := x.toNatClampNeg
theorem u_wn {n : Nat} (h : n < 2147483648) : u (wn n) = n := wn_cl h
section
variable {G : am_G} {d : Nat} {post : am_O → am_G → Prop}
theorem ct153v {x : Int32} {n : Nat} (hn : n < 2147483648) : am_C am_T (d + 1) 153 [.int x, .int (wn 0), .int (wn n - wn 1)] G post ↔ post (.inl (some (.int (wn (b01 (vin2 x 0 n)))))) G := by
  rw [ct153]
  have : decide (¬ x < wn 0 ∧ ¬ wn n - wn 1 < x) = vin2 x 0 n := by
    unfold vin2
    apply decide_eq_decide.mpr
    constructor
    · rintro ⟨a, b⟩; exact ⟨a, (lim_lt hn a).mp b⟩
    · rintro ⟨a, b⟩; exact ⟨a, (lim_lt hn a).mpr b⟩
  rw [this]
theorem ct153c {x : Int32} {lo n : Nat} (hn : n + 1 < 2147483648) : am_C am_T (d + 1) 153 [.int x, .int (wn lo), .int (wn n)] G post ↔ post (.inl (some (.int (wn (b01 (vin2 x lo (n + 1))))))) G := by
  rw [ct153]
  have : decide (¬ x < wn lo ∧ ¬ wn n < x) = vin2 x lo (n + 1) := by
    unfold vin2
    apply decide_eq_decide.mpr
    have : ¬ wn n < x ↔ x < wn (n + 1) := by
      rw [Int32.lt_iff_toInt_lt, Int32.lt_iff_toInt_lt, wn_toInt hn, wn_toInt (by omega)]
      omega
    rw [this]
  rw [this]
variable {V : Vt} {δ : Dt} {Λ : List Tok}
theorem ct214 {x : Int32} (hsh : Sh G) (hT : Tm G δ Λ) : am_C am_T (d + 2) 214 [.ref 334, .int x] G post ↔ post (.inl (some (.int (wn (b01 (vin2 x 0 (dB δ))))))) G := by
  have hc := am_C_one am_T (d + 1)
  have v := hT.2.1.1
  rw [we214]
  simp +decide (disch := omega) only [↓wm1, wb214_0 hc, wb214_13 hc, w0, w1, rI_wI, rP_wI, rL_wI, rI_wR, rP_wR, is_wI, is_wR, ia_wI, ia_wR, ow_wI, ow_wR, wn_add, wn_mul, wn_cl, wn_le, wn_lt, wn_inj, wn_ne1, wn_1ne, wn_gt1, wn_le1, nb0, nb1, am_kt, am_rt, List.cons_append, List.nil_append, true_and, and_true, not_true_eq_false, not_false_eq_true, imp_f, imp_t, implies_true, Nat.zero_add, if_true, if_false, false_and, and_false, fM hsh, fE2 hT, ia338 hsh, ct153v (show dB δ < 2147483648 by omega)]
  exact and_iff_right (nb01 (by cases vin2 x 0 (dB δ) <;> simp [b01]))
theorem ct215 {x : Int32} (hsh : Sh G) (hT : Tm G δ Λ) : am_C am_T (d + 2) 215 [.ref 334, .int x] G post ↔ post (.inl (some (.int (wn (b01 (vin2 x 0 (dH δ))))))) G := by
  have hc := am_C_one am_T (d + 1)
  have v := hT.2.1.2.1
  rw [we215]
  simp +decide (disch := omega) only [↓wm1, wb215_0 hc, wb215_13 hc, w0, w1, rI_wI, rP_wI, rL_wI, rI_wR, rP_wR, is_wI, is_wR, ia_wI, ia_wR, ow_wI, ow_wR, wn_add, wn_mul, wn_cl, wn_le, wn_lt, wn_inj, wn_ne1, wn_1ne, wn_gt1, wn_le1, nb0, nb1, am_kt, am_rt, List.cons_append, List.nil_append, true_and, and_true, not_true_eq_false, not_false_eq_true, imp_f, imp_t, implies_true, Nat.zero_add, if_true, if_false, false_and, and_false, fM hsh, fE2 hT, ia338 hsh, ct153v (show dH δ < 2147483648 by omega)]
  exact and_iff_right (nb01 (by cases vin2 x 0 (dH δ) <;> simp [b01]))
theorem ct220 {x : Int32} : am_C am_T (d + 2) 220 [.int x] G post ↔ post (.inl (some (.int (wn (b01 (vin2 x 0 10)))))) G := by
  have hc := am_C_one am_T (d + 1)
  rw [we220]
  simp +decide (disch := omega) only [↓wm1, wb220_0 hc, wb220_7 hc, w0, w1, w9, rI_wI, rP_wI, rL_wI, rI_wR, rP_wR, is_wI, is_wR, ia_wI, ia_wR, ow_wI, ow_wR, wn_add, wn_mul, wn_cl, wn_le, wn_lt, wn_inj, wn_ne1, wn_1ne, wn_gt1, wn_le1, nb0, nb1, am_kt, am_rt, List.cons_append, List.nil_append, true_and, and_true, not_true_eq_false, not_false_eq_true, imp_f, imp_t, implies_true, Nat.zero_add, if_true, if_false, false_and, and_false, ct153c (n := 9) (by decide)]
  exact and_iff_right (nb01 (by cases vin2 x 0 10 <;> simp [b01]))
def bdG (G : am_G) (c r : Nat) : am_G := am_wI (am_wI G 334 0 (wn c)) 336 r (am_gI G 336 r + wn 1)
theorem ct152n {x y : Int32} (hsh : Sh G) (e0 : am_gI G 334 0 = wn 0) : am_C am_T (d + 1) 152 [.ref 334, .int (wn 0), .int x, .int y] G post ↔ post (.inl (some (.int (wn 0)))) G := by
  have hc := am_C_one am_T d
  rw [we152]
  simp +decide (disch := omega) only [↓wm1, wb152_0 hc, wb152_4 hc, wb152_11 hc, wb152_26 hc, wb152_33 hc, wb152_37 hc, wb152_38 hc, w0, w1, rI_wI, rP_wI, rL_wI, rI_wR, rP_wR, is_wI, is_wR, ia_wI, ia_wR, ow_wI, ow_wR, wn_add, wn_mul, wn_cl, wn_le, wn_lt, wn_inj, wn_ne1, wn_1ne, wn_gt1, wn_le1, nb0, nb1, am_kt, am_rt, List.cons_append, List.nil_append, true_and, and_true, not_true_eq_false, not_false_eq_true, imp_f, imp_t, implies_true, Nat.zero_add, if_true, if_false, false_and, and_false, fM hsh, e0]
theorem ct152y {c r : Nat} (hc1 : 1 ≤ c) (hc2 : c ≤ 2) (hr : r < 2) (hsh : Sh G) (e0 : am_gI G 334 0 = wn 0) : am_C am_T (d + 1) 152 [.ref 334, .int (wn 1), .int (wn c), .int (wn r)] G post ↔ post (.inl (some (.int (wn 1)))) (bdG G c r) := by
  have hc := am_C_one am_T d
  have c0 : ¬ c = 0 := by omega
  have e1 : am_gI (am_wI (am_wI G 334 0 (wn c)) 336 r (am_gI G 336 r + wn 1)) 334 0 = wn c := by
    rw [rI_wI, if_neg (by omega), rI_wI, if_pos ⟨rfl, rfl⟩]
  rw [we152]
  simp +decide (disch := omega) only [↓wm1, wb152_0 hc, wb152_4 hc, wb152_11 hc, w0, w1, rI_wI, rP_wI, rL_wI, rI_wR, rP_wR, is_wI, is_wR, ia_wI, ia_wR, ow_wI, ow_wR, wn_add, wn_mul, wn_cl, wn_le, wn_lt, wn_inj, wn_ne1, wn_1ne, wn_gt1, wn_le1, nb0, nb1, am_kt, am_rt, List.cons_append, List.nil_append, true_and, and_true, not_true_eq_false, not_false_eq_true, imp_f, imp_t, implies_true, Nat.zero_add, if_true, if_false, false_and, and_false, fM hsh, e0, ia336 hsh, ow336 hsh]
  rw [wb152_26 hc, e1]
  simp +decide (disch := omega) only [↓wm1, wb152_33 hc, wb152_38 hc, w0, w1, rI_wI, rP_wI, rL_wI, rI_wR, rP_wR, is_wI, is_wR, ia_wI, ia_wR, ow_wI, ow_wR, wn_add, wn_mul, wn_cl, wn_le, wn_lt, wn_inj, wn_ne1, wn_1ne, wn_gt1, wn_le1, nb0, nb1, am_kt, am_rt, List.cons_append, List.nil_append, true_and, and_true, not_true_eq_false, not_false_eq_true, imp_f, imp_t, implies_true, Nat.zero_add, if_true, if_false, false_and, and_false, fM hsh, c0]
  exact Iff.rfl
theorem OR_7 {G0 : am_G} {cd : Nat} {x : Int32} (h : RepR G V) (k0 : Kp QSR G G0) : OR G (cnt7 V) cd (.inr 0) (.inl (some (.int x))) (bdG G0 1 0) := by
  have h0 := h.q k0
  have kk : Kp RS G0 (bdG G0 1 0) := ((Kp.refl G0).wI ⟨by decide, by decide⟩ _).wI ⟨by decide, by decide⟩ _
  refine ⟨h0.cn (h0.1.kp kk) (v7 V + 1) (v8 V) (fun a i z1 z2 z3 z4 => ?_) ?_ ?_, (k0.mono (fun _ _ z => QSR_rs z)).trans kk, ⟨x, rfl⟩, ?_⟩
  · show am_gI (am_wI _ _ _ _) a i = _
    rw [rI_wI, if_neg (by omega), rI_wI, if_neg (by rintro ⟨rfl, rfl⟩; exact z3 (Or.inl ⟨rfl, Or.inl rfl⟩))]
  · show am_gI (am_wI _ _ _ _) 336 0 = _
    rw [rI_wI, if_pos ⟨rfl, rfl⟩, h0.2.2.2.2.2.2.2.2.1, wn_add]
  · show am_gI (am_wI _ _ _ _) 336 1 = _
    rw [rI_wI, if_neg (by omega), rI_wI, if_neg (by omega)]
    exact h0.2.2.2.2.2.2.2.2.2
  · show am_gI (am_wI _ _ _ _) 334 0 = _
    rw [rI_wI, if_neg (by omega), rI_wI, if_pos ⟨rfl, rfl⟩]
theorem OR_8 {G0 : am_G} {cd : Nat} {x : Int32} (h : RepR G V) (k0 : Kp QSR G G0) : OR G (cnt8 V) cd (.inr 1) (.inl (some (.int x))) (bdG G0 cd 1) := by
  have h0 := h.q k0
  have kk : Kp RS G0 (bdG G0 cd 1) := ((Kp.refl G0).wI ⟨by decide, by decide⟩ _).wI ⟨by decide, by decide⟩ _
  refine ⟨h0.cn (h0.1.kp kk) (v7 V) (v8 V + 1) (fun a i z1 z2 z3 z4 => ?_) ?_ ?_, (k0.mono (fun _ _ z => QSR_rs z)).trans kk, ⟨x, rfl⟩, ?_⟩
  · show am_gI (am_wI _ _ _ _) a i = _
    rw [rI_wI, if_neg (by omega), rI_wI, if_neg (by rintro ⟨rfl, rfl⟩; exact z3 (Or.inl ⟨rfl, Or.inl rfl⟩))]
  · show am_gI (am_wI _ _ _ _) 336 0 = _
    rw [rI_wI, if_neg (by omega), rI_wI, if_neg (by omega)]
    exact h0.2.2.2.2.2.2.2.2.1
  · show am_gI (am_wI _ _ _ _) 336 1 = _
    rw [rI_wI, if_pos ⟨rfl, rfl⟩, h0.2.2.2.2.2.2.2.2.2, wn_add]
  · show am_gI (am_wI _ _ _ _) 334 0 = _
    rw [rI_wI, if_neg (by omega), rI_wI, if_pos ⟨rfl, rfl⟩]
theorem h808 : 808 ∈ rws := by decide
theorem h809 : 809 ∈ rws := by decide
end
