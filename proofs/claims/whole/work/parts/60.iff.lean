/-! One outcome alone, for two ends; functions that change nothing, as equivalences; refusals. -/
def am_uni (call : Nat → List Value → am_G → (am_O → am_G → Prop) → Prop) : Prop :=
  ∀ y as G (p q : am_O → am_G → Prop), call y as G p → call y as G q → ∃ o G', p o G' ∧ q o G' ∧ ∀ r : am_O → am_G → Prop, r o G' → call y as G r
theorem am_X_uni {call : Nat → List Value → am_G → (am_O → am_G → Prop) → Prop} (hc : am_uni call) (M : am_M) : ∀ (k k' pc : Nat) (ls : am_L) (st : List Value) (G : am_G) (p q : am_O → am_G → Prop), am_X call M p k pc ls st G → am_X call M q k' pc ls st G → ∃ o G', p o G' ∧ q o G' ∧ ∀ r : am_O → am_G → Prop, r o G' → am_X call M r k pc ls st G := by
  intro k
  induction k with
  | zero => intro k' pc ls st G p q h; exact h.elim
  | succ k ih =>
    intro k' pc ls st G p q h h'
    cases k' with
    | zero => exact h'.elim
    | succ k' =>
    simp only [am_X] at h h' ⊢
    cases ha : am_at M.2.1 pc with
    | none => rw [ha] at h; exact h.elim
    | some e =>
      rw [ha] at h h'
      simp only at h h' ⊢
      cases hs : am_step e pc ls st G with
      | none => rw [hs] at h; exact h.elim
      | some w =>
        obtain ⟨ps, S⟩ := w
        rw [hs] at h h'
        simp only at h h' ⊢
        rw [am_all_iff] at h h'
        obtain ⟨hp, h⟩ := h
        obtain ⟨-, h'⟩ := h'
        have fin : ∀ {C : Prop}, C → am_all ps C := fun c => (am_all_iff ps _).mpr ⟨hp, c⟩
        rcases S with ⟨pc', ls', st', G'⟩ | ⟨c, a, b, ls', st', G'⟩ | ⟨x, lo, ts, d, ls', st', G'⟩ | ⟨o, G'⟩ | ⟨y, as, pc', rest, t, ls', G', pc0⟩
        · obtain ⟨o, G2, h1, h2, h3⟩ := ih _ _ _ _ _ _ _ h h'
          exact ⟨o, G2, h1, h2, fun r z => fin (h3 r z)⟩
        · by_cases hcc : c
          · obtain ⟨o, G2, h1, h2, h3⟩ := ih _ _ _ _ _ _ _ (h.1 hcc) (h'.1 hcc)
            exact ⟨o, G2, h1, h2, fun r z => fin ⟨fun _ => h3 r z, fun n => absurd hcc n⟩⟩
          · obtain ⟨o, G2, h1, h2, h3⟩ := ih _ _ _ _ _ _ _ (h.2 hcc) (h'.2 hcc)
            exact ⟨o, G2, h1, h2, fun r z => fin ⟨fun n => absurd n hcc, fun _ => h3 r z⟩⟩
        · obtain ⟨o, G2, h1, h2, h3⟩ := ih _ _ _ _ _ _ _ h h'
          exact ⟨o, G2, h1, h2, fun r z => fin (h3 r z)⟩
        · exact ⟨o, G', h, h', fun r z => fin z⟩
        · obtain ⟨o, G2, h1, h1', h2⟩ := hc _ _ _ _ _ h h'
          cases o with
          | inl v =>
            simp only at h1 h1'
            cases hr : am_rt t v with
            | none => rw [hr] at h1; exact h1.elim
            | some vs =>
              rw [hr] at h1 h1'
              simp only at h1 h1'
              obtain ⟨o3, G3, h3, h3', h4⟩ := ih _ _ _ _ _ _ _ h1 h1'
              refine ⟨o3, G3, h3, h3', fun r z => fin (h2 _ ?_)⟩
              simp only [hr]
              exact h4 r z
          | inr w =>
            simp only at h1 h1'
            rcases hr : am_cat G2 w pc0 M.2.2 with _ | _ | hh
            · rw [hr] at h1
              exact h1.elim
            · rw [hr] at h1 h1'
              simp only at h1 h1'
              refine ⟨.inr w, G2, h1, h1', fun r z => fin (h2 _ ?_)⟩
              simp only [hr]
              exact z
            · rw [hr] at h1 h1'
              simp only at h1 h1'
              obtain ⟨o3, G3, h3, h3', h4⟩ := ih _ _ _ _ _ _ _ h1 h1'
              refine ⟨o3, G3, h3, h3', fun r z => fin (h2 _ ?_)⟩
              simp only [hr]
              exact h4 r z
theorem am_C_uni (T : Nat → Option am_M) : ∀ d, am_uni (am_C T d) := by
  intro d
  induction d with
  | zero => intro y as G p q h; exact h.elim
  | succ d ih =>
    intro y as G p q h h'
    simp only [am_C] at h h' ⊢
    cases hT : T y with
    | none => rw [hT] at h; exact h.elim
    | some M =>
      rw [hT] at h h'
      simp only at h h' ⊢
      cases hE : am_ent M.1 as with
      | none => rw [hE] at h; exact h.elim
      | some ls =>
        rw [hE] at h h'
        simp only at h h' ⊢
        obtain ⟨k, h⟩ := h
        obtain ⟨k', h'⟩ := h'
        obtain ⟨o, G2, h1, h2, h3⟩ := am_X_uni ih M _ _ _ _ _ _ _ _ h h'
        exact ⟨o, G2, h1, h2, fun r z => ⟨k, h3 r z⟩⟩
/-- a function that changes nothing -/
theorem am_iff {d y : Nat} {as : List Value} {G : am_G} {v : am_O} (h : ∀ post : am_O → am_G → Prop, post v G → am_C am_T d y as G post) (post : am_O → am_G → Prop) : am_C am_T d y as G post ↔ post v G := by
  constructor
  · intro q
    obtain ⟨o, G', h1, h2, -⟩ := am_C_uni am_T d y as G _ _ q (h (fun o G' => o = v ∧ G' = G) ⟨rfl, rfl⟩)
    obtain ⟨rfl, rfl⟩ := h2
    exact h1
  · exact h post
/-! refusals -/
def thr7 (G : am_G) : am_G := am_nw (am_wI G 0 7 (am_gI G 0 7 + wn 1)) 201 6
def thr8 (G : am_G) : am_G := am_nw (am_wI G 0 8 (am_gI G 0 8 + wn 1)) 200 6
theorem rm_wI (G : am_G) (a i : Nat) (v : Int32) (c s : Nat) : am_rm (am_wI G a i v) c s = am_rm G c s := rfl
theorem tN_lt (x : Int32) : x.toNatClampNeg < 2147483648 := by
  have h1 : x.toInt < 2147483648 := x.toInt_lt
  have h2 : x.toNatClampNeg = x.toInt.toNat := rfl
  omega
theorem vin_or (x : Int32) (n : Nat) (hn : n < 2147483648) : (∃ b, b < n ∧ x = wn b) ∨ (x < wn 0 ∨ ¬ x < wn n) := by
  by_cases h : x < wn 0
  · exact Or.inr (Or.inl h)
  · have e := wn_nat h
    have l := tN_lt x
    by_cases h2 : x.toNatClampNeg < n
    · exact Or.inl ⟨_, h2, e.symm⟩
    · right; right
      rw [← e, wn_lt l hn]
      exact h2
/-- outside, as the code asks: above the greatest -/
theorem out_gt {x : Int32} {n : Nat} (hn : n < 2147483647) (h : x < wn 0 ∨ ¬ x < wn (n + 1)) : x < wn 0 ∨ wn n < x := by
  rcases h with h | h
  · exact Or.inl h
  · right
    rw [Int32.lt_iff_toInt_lt, wn_toInt (by omega)] at h
    rw [Int32.lt_iff_toInt_lt, wn_toInt (by omega)]
    omega
theorem out_ge {x : Int32} {n : Nat} (h : x < wn 0 ∨ ¬ x < wn n) : x < wn 0 ∨ wn n ≤ x := by
  rcases h with h | h
  · exact Or.inl h
  · exact Or.inr (Int32.not_lt.mp h)
section
variable {G : am_G} {d : Nat} {post : am_O → am_G → Prop}
theorem ct139y {v : Nat} (hv : v < 2147483648) (h : v ≠ 0) : am_C am_T (d + 1) 139 [.ref 0, .int (wn v)] G post ↔ post (.inl none) G := by
  have hc := am_C_one am_T d
  rw [we139]
  simp +decide (disch := omega) only [↓wm1, wb139_0 hc, wb139_4 hc, wb139_25 hc, w0, w1, rI_wI, rP_wI, rL_wI, rI_wR, rP_wR, is_wI, is_wR, ia_wI, ia_wR, ow_wI, ow_wR, wn_add, wn_mul, wn_cl, wn_le, wn_lt, wn_inj, wn_ne1, wn_1ne, wn_gt1, wn_le1, nb0, nb1, am_kt, am_rt, List.cons_append, List.nil_append, true_and, and_true, not_true_eq_false, not_false_eq_true, imp_f, imp_t, implies_true, Nat.zero_add, if_true, if_false, h]
theorem ct139n (hsh : Sh G) (hB : am_rm G 1 6) : am_C am_T (d + 1) 139 [.ref 0, .int (wn 0)] G post ↔ post (.inr (am_K G).length) (thr8 G) := by
  have hc := am_C_one am_T d
  rw [we139]
  simp +decide (disch := omega) only [↓wm1, wb139_0 hc, wb139_4 hc, wb139_25 hc, w0, w1, rI_wI, rP_wI, rL_wI, rI_wR, rP_wR, is_wI, is_wR, ia_wI, ia_wR, ow_wI, ow_wR, wn_add, wn_mul, wn_cl, wn_le, wn_lt, wn_inj, wn_ne1, wn_1ne, wn_gt1, wn_le1, nb0, nb1, am_kt, am_rt, List.cons_append, List.nil_append, true_and, and_true, not_true_eq_false, not_false_eq_true, imp_f, imp_t, implies_true, Nat.zero_add, if_true, if_false, i0 hsh, rm_wI, hB, rK_wI]
  exact Iff.rfl
theorem ct140y {b n : Nat} (hb : b < n) (hn : n < 2147483648) : am_C am_T (d + 1) 140 [.ref 0, .int (wn b), .int (wn n)] G post ↔ post (.inl none) G := by
  have hc := am_C_one am_T d
  rw [we140]
  simp +decide (disch := omega) only [↓wm1, wb140_0 hc, wb140_4 hc, wb140_9 hc, wb140_30 hc, w0, w1, rI_wI, rP_wI, rL_wI, rI_wR, rP_wR, is_wI, is_wR, ia_wI, ia_wR, ow_wI, ow_wR, wn_add, wn_mul, wn_cl, wn_le, wn_lt, wn_inj, wn_ne1, wn_1ne, wn_gt1, wn_le1, nb0, nb1, am_kt, am_rt, List.cons_append, List.nil_append, true_and, and_true, not_true_eq_false, not_false_eq_true, imp_f, imp_t, implies_true, Nat.zero_add, if_true, if_false, hb, Nat.not_lt_zero]
theorem ct140n {x : Int32} {n : Nat} (h : x < wn 0 ∨ ¬ x < wn n) (hsh : Sh G) (hB : am_rm G 1 6) : am_C am_T (d + 1) 140 [.ref 0, .int x, .int (wn n)] G post ↔ post (.inr (am_K G).length) (thr7 G) := by
  have hc := am_C_one am_T d
  rw [we140]
  by_cases h1 : x < wn 0
  · simp +decide (disch := omega) only [↓wm1, wb140_0 hc, wb140_4 hc, wb140_9 hc, wb140_30 hc, w0, w1, rI_wI, rP_wI, rL_wI, rI_wR, rP_wR, is_wI, is_wR, ia_wI, ia_wR, ow_wI, ow_wR, wn_add, wn_mul, wn_cl, wn_le, wn_lt, wn_inj, wn_ne1, wn_1ne, wn_gt1, wn_le1, nb0, nb1, am_kt, am_rt, List.cons_append, List.nil_append, true_and, and_true, not_true_eq_false, not_false_eq_true, imp_f, imp_t, implies_true, Nat.zero_add, if_true, if_false, i0 hsh, rm_wI, hB, rK_wI, h1]
    exact Iff.rfl
  · have h2 : ¬ x < wn n := by
      rcases h with h | h
      · exact absurd h h1
      · exact h
    simp +decide (disch := omega) only [↓wm1, wb140_0 hc, wb140_4 hc, wb140_9 hc, wb140_30 hc, w0, w1, rI_wI, rP_wI, rL_wI, rI_wR, rP_wR, is_wI, is_wR, ia_wI, ia_wR, ow_wI, ow_wR, wn_add, wn_mul, wn_cl, wn_le, wn_lt, wn_inj, wn_ne1, wn_1ne, wn_gt1, wn_le1, nb0, nb1, am_kt, am_rt, List.cons_append, List.nil_append, true_and, and_true, not_true_eq_false, not_false_eq_true, imp_f, imp_t, implies_true, Nat.zero_add, if_true, if_false, i0 hsh, rm_wI, hB, rK_wI, h1, h2]
    exact Iff.rfl
theorem h32 : 32 ∈ sts := by decide
theorem h102 : 102 ∈ sts := by decide
theorem h120 : 120 ∈ sts := by decide
/-- what is always so of the object's cells -/
theorem fC (h : Sh G) : am_is G 0 11 ∧ am_gP G 0 0 = 1 ∧ am_gP G 0 1 = 3 ∧ am_gP G 0 2 = 27 ∧ am_gP G 0 3 = 31 ∧ am_gP G 0 4 = 101 ∧ am_gP G 0 9 = 102 ∧ am_gP G 0 10 = 106 ∧ am_gP G 0 11 = 110 ∧ am_gP G 0 12 = 115 ∧ am_gP G 0 13 = 119 ∧ am_is G 1 8 ∧ am_is G 3 9 ∧ am_is G 27 10 ∧ am_is G 31 1 ∧ am_gP G 31 0 = 32 ∧ am_gP G 31 1 = 36 ∧ am_is G 102 7 ∧ am_is G 106 3 ∧ am_is G 110 6 ∧ am_is G 115 5 ∧ am_is G 119 0 ∧ am_gP G 119 0 = 120 ∧ am_is G 32 7 ∧ am_is G 120 7 ∧ am_gP G 1 0 = 2 ∧ am_gP G 3 4 = 26 :=
  ⟨i0 h, q0_0 h, q0_1 h, q0_2 h, q0_3 h, q0_4 h, q0_9 h, q0_10 h, q0_11 h, q0_12 h, q0_13 h, i1 h, i3 h, i27 h, i31 h, h.2 (31, 0, 32) (by decide +kernel), h.2 (31, 1, 36) (by decide +kernel), iS h h102, i106 h, i110 h, i115 h, i119 h, q119_0 h, iS h h32, iS h h120, q1_0 h, q3_4 h⟩
variable {q l : Nat} {σ : St} {δ : Dt} {Λ : List Tok}
theorem fW2 (hsh : Sh G) (hT : Tw G q l δ Λ) : am_gP G 3 0 = q ∧ am_gP G 3 2 = l ∧ am_gI G q 0 = wn (dB δ) ∧ am_gI G q 3 = wn (dH δ) ∧ am_gI G q 6 = wn (dD δ) ∧ am_gI G q 10 = wn (dW δ) := ⟨hT.1, hT.2.1, hT.2.2.2.2.1.1, hT.2.2.2.2.1.2.1, hT.2.2.2.2.1.2.2.1, hT.2.2.2.2.1.2.2.2.1⟩
theorem ct141y {b : Nat} (hsh : Sh G) (hT : Tw G q l δ Λ) (hb : b < dB δ) : am_C am_T (d + 2) 141 [.ref 0, .int (wn b)] G post ↔ post (.inl none) G := by
  have hc := am_C_one am_T (d + 1)
  have v := hT.2.2.2.2.2.1.1
  rw [we141]
  simp +decide (disch := omega) only [↓wm1, wb141_0 hc, wb141_15 hc, w0, w1, rI_wI, rP_wI, rL_wI, rI_wR, rP_wR, is_wI, is_wR, ia_wI, ia_wR, ow_wI, ow_wR, wn_add, wn_mul, wn_cl, wn_le, wn_lt, wn_inj, wn_ne1, wn_1ne, wn_gt1, wn_le1, nb0, nb1, am_kt, am_rt, List.cons_append, List.nil_append, true_and, and_true, not_true_eq_false, not_false_eq_true, imp_f, imp_t, implies_true, Nat.zero_add, if_true, if_false, cn141, fC hsh, fW2 hsh hT, fD hsh hT.2.2.1, ct140y hb (show dB δ < 2147483648 by omega)]
theorem ct141n {x : Int32} (h : x < wn 0 ∨ ¬ x < wn (dB δ)) (hsh : Sh G) (hT : Tw G q l δ Λ) (hB : am_rm G 1 6) : am_C am_T (d + 2) 141 [.ref 0, .int x] G post ↔ post (.inr (am_K G).length) (thr7 G) := by
  have hc := am_C_one am_T (d + 1)
  rw [we141]
  simp +decide (disch := omega) only [↓wm1, wb141_0 hc, wb141_15 hc, w0, w1, rI_wI, rP_wI, rL_wI, rI_wR, rP_wR, is_wI, is_wR, ia_wI, ia_wR, ow_wI, ow_wR, wn_add, wn_mul, wn_cl, wn_le, wn_lt, wn_inj, wn_ne1, wn_1ne, wn_gt1, wn_le1, nb0, nb1, am_kt, am_rt, List.cons_append, List.nil_append, true_and, and_true, not_true_eq_false, not_false_eq_true, imp_f, imp_t, implies_true, Nat.zero_add, if_true, if_false, cn141, fC hsh, fW2 hsh hT, fD hsh hT.2.2.1, ct140n h hsh hB]
theorem ct142y {b : Nat} (hsh : Sh G) (hT : Tw G q l δ Λ) (hb : b < dH δ) : am_C am_T (d + 2) 142 [.ref 0, .int (wn b)] G post ↔ post (.inl none) G := by
  have hc := am_C_one am_T (d + 1)
  have v := hT.2.2.2.2.2.1.2.1
  rw [we142]
  simp +decide (disch := omega) only [↓wm1, wb142_0 hc, wb142_15 hc, w0, w1, rI_wI, rP_wI, rL_wI, rI_wR, rP_wR, is_wI, is_wR, ia_wI, ia_wR, ow_wI, ow_wR, wn_add, wn_mul, wn_cl, wn_le, wn_lt, wn_inj, wn_ne1, wn_1ne, wn_gt1, wn_le1, nb0, nb1, am_kt, am_rt, List.cons_append, List.nil_append, true_and, and_true, not_true_eq_false, not_false_eq_true, imp_f, imp_t, implies_true, Nat.zero_add, if_true, if_false, cn142, fC hsh, fW2 hsh hT, fD hsh hT.2.2.1, ct140y hb (show dH δ < 2147483648 by omega)]
theorem ct142n {x : Int32} (h : x < wn 0 ∨ ¬ x < wn (dH δ)) (hsh : Sh G) (hT : Tw G q l δ Λ) (hB : am_rm G 1 6) : am_C am_T (d + 2) 142 [.ref 0, .int x] G post ↔ post (.inr (am_K G).length) (thr7 G) := by
  have hc := am_C_one am_T (d + 1)
  rw [we142]
  simp +decide (disch := omega) only [↓wm1, wb142_0 hc, wb142_15 hc, w0, w1, rI_wI, rP_wI, rL_wI, rI_wR, rP_wR, is_wI, is_wR, ia_wI, ia_wR, ow_wI, ow_wR, wn_add, wn_mul, wn_cl, wn_le, wn_lt, wn_inj, wn_ne1, wn_1ne, wn_gt1, wn_le1, nb0, nb1, am_kt, am_rt, List.cons_append, List.nil_append, true_and, and_true, not_true_eq_false, not_false_eq_true, imp_f, imp_t, implies_true, Nat.zero_add, if_true, if_false, cn142, fC hsh, fW2 hsh hT, fD hsh hT.2.2.1, ct140n h hsh hB]
theorem ct143y {b : Nat} (hsh : Sh G) (hT : Tw G q l δ Λ) (hb : b < dD δ) : am_C am_T (d + 2) 143 [.ref 0, .int (wn b)] G post ↔ post (.inl none) G := by
  have hc := am_C_one am_T (d + 1)
  have v := hT.2.2.2.2.2.1.2.2.1
  rw [we143]
  simp +decide (disch := omega) only [↓wm1, wb143_0 hc, wb143_15 hc, w0, w1, rI_wI, rP_wI, rL_wI, rI_wR, rP_wR, is_wI, is_wR, ia_wI, ia_wR, ow_wI, ow_wR, wn_add, wn_mul, wn_cl, wn_le, wn_lt, wn_inj, wn_ne1, wn_1ne, wn_gt1, wn_le1, nb0, nb1, am_kt, am_rt, List.cons_append, List.nil_append, true_and, and_true, not_true_eq_false, not_false_eq_true, imp_f, imp_t, implies_true, Nat.zero_add, if_true, if_false, cn143, fC hsh, fW2 hsh hT, fD hsh hT.2.2.1, ct140y hb (show dD δ < 2147483648 by omega)]
theorem ct143n {x : Int32} (h : x < wn 0 ∨ ¬ x < wn (dD δ)) (hsh : Sh G) (hT : Tw G q l δ Λ) (hB : am_rm G 1 6) : am_C am_T (d + 2) 143 [.ref 0, .int x] G post ↔ post (.inr (am_K G).length) (thr7 G) := by
  have hc := am_C_one am_T (d + 1)
  rw [we143]
  simp +decide (disch := omega) only [↓wm1, wb143_0 hc, wb143_15 hc, w0, w1, rI_wI, rP_wI, rL_wI, rI_wR, rP_wR, is_wI, is_wR, ia_wI, ia_wR, ow_wI, ow_wR, wn_add, wn_mul, wn_cl, wn_le, wn_lt, wn_inj, wn_ne1, wn_1ne, wn_gt1, wn_le1, nb0, nb1, am_kt, am_rt, List.cons_append, List.nil_append, true_and, and_true, not_true_eq_false, not_false_eq_true, imp_f, imp_t, implies_true, Nat.zero_add, if_true, if_false, cn143, fC hsh, fW2 hsh hT, fD hsh hT.2.2.1, ct140n h hsh hB]
end
