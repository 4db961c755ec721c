/-! What follows from a state, as equivalences: the reference's side; both are the same. -/
theorem tsum_cut {f : Nat → Nat} {a : Nat} : ∀ n, (∀ j, a ≤ j → f j = 0) → tsum f (a + n) = tsum f a := by
  intro n
  induction n with
  | zero => intro _; rfl
  | succ n ih =>
    intro h
    rw [← Nat.add_assoc]
    simp only [tsum]
    rw [ih h, h (a + n) (by omega)]
    rfl
theorem tb_cut {p : Nat → Bool} {a : Nat} : ∀ n, (∀ j, a ≤ j → p j = false) → tb p (a + n) = tb p a := by
  intro n
  induction n with
  | zero => intro _; rfl
  | succ n ih =>
    intro h
    rw [← Nat.add_assoc]
    simp only [tb]
    rw [h (a + n) (by omega), ih h]
    simp
theorem tsum_0 {f : Nat → Nat} : ∀ n, (∀ j, j < n → f j = 0) → tsum f n = 0 := by
  intro n
  induction n with
  | zero => intro _; rfl
  | succ n ih =>
    intro h
    simp only [tsum]
    rw [ih (fun j hj => h j (by omega)), h n (by omega)]
theorem tsum_pos {f : Nat → Nat} : ∀ n, 0 < tsum f n → ∃ j, j < n ∧ 0 < f j := by
  intro n
  induction n with
  | zero => intro h; simp [tsum] at h
  | succ n ih =>
    intro h
    simp only [tsum] at h
    by_cases h1 : 0 < f n
    · exact ⟨n, by omega, h1⟩
    · obtain ⟨j, hj, h2⟩ := ih (by omega)
      exact ⟨j, by omega, h2⟩
theorem tsum_ge {f : Nat → Nat} : ∀ n j, j < n → f j ≤ tsum f n := by
  intro n
  induction n with
  | zero => intro j h; omega
  | succ n ih =>
    intro j h
    simp only [tsum]
    by_cases e : j = n
    · subst e; omega
    · have := ih j (by omega); omega
theorem mf_none (f : Nat → Nat) : ∀ n, n < 2147483648 → ((mf f n).1 = mm ↔ ∀ j, j < n → f j = 0) ∧ ((mf f n).1 = mm → (mf f n).2 = 0) := by
  intro n
  induction n with
  | zero => intro _; exact ⟨⟨fun _ j hj => by omega, fun _ => rfl⟩, fun _ => rfl⟩
  | succ n ih =>
    intro hn
    obtain ⟨i1, i2⟩ := ih (by omega)
    simp only [mf]
    by_cases c : (mf f n).2 < f n
    · rw [if_pos c]
      have hne : ¬ wn n = mm := wn_n1 n (by omega)
      refine ⟨⟨fun q => absurd q hne, fun q => ?_⟩, fun q => absurd q hne⟩
      have := q n (by omega)
      omega
    · rw [if_neg c]
      refine ⟨⟨fun q j hj => ?_, fun q => i1.mpr (fun j hj => q j (by omega))⟩, i2⟩
      by_cases e : j = n
      · subst e
        have := i2 q
        omega
      · exact i1.mp q j (by omega)
theorem hm1_iff {σ : St} (hv : ∀ j, sM σ j ≤ 999) (h : Nat) : hm1 σ h = decide (0 < tIn σ h) := by
  have key : (mf (fun m => sM σ (h * 10 + m)) 10).1 = mm ↔ ¬ 0 < tIn σ h := by
    rw [(mf_none _ 10 (by decide)).1]
    constructor
    · intro q z
      obtain ⟨j, hj, hp⟩ := tsum_pos 10 z
      have := q j hj
      omega
    · intro q j hj
      have := tsum_ge (f := fun m => sM σ (h * 10 + m)) 10 j hj
      have e : tsum (fun m => sM σ (h * 10 + m)) 10 = tIn σ h := rfl
      omega
  unfold hm1
  by_cases c : 0 < tIn σ h
  · have h1 : ¬ (mf (fun m => sM σ (h * 10 + m)) 10).1 = mm := fun z => (key.mp z) c
    rw [decide_eq_true c, decide_eq_true h1]
  · have h1 : ¬ ¬ (mf (fun m => sM σ (h * 10 + m)) 10).1 = mm := fun z => z (key.mpr c)
    rw [decide_eq_false c, decide_eq_false h1]
theorem tIn_0 {B H : Nat} {σ : St} (hv : vS B H σ) {h : Nat} (hh : H ≤ h) : tIn σ h = 0 := tsum_0 10 (fun j _ => hv.2.2.2.2.2.2.2 _ (by omega))
theorem tAll_eq {B H : Nat} {σ : St} (hv : vS B H σ) (hH : H ≤ 7) : tsum (tIn σ) 7 = tsum (tIn σ) H := by
  have := tsum_cut (f := tIn σ) (a := H) (7 - H) (fun j hj => tIn_0 hv hj)
  rw [show H + (7 - H) = 7 by omega] at this
  exact this
theorem pAll_eq {B H : Nat} {σ : St} (hv : vS B H σ) (hB : B ≤ 6) : tsum (sP σ) 6 = tsum (sP σ) B := by
  have := tsum_cut (f := sP σ) (a := B) (6 - B) (fun j hj => hv.2.2.2.2.2.2.1 j hj)
  rw [show B + (6 - B) = 6 by omega] at this
  exact this
/-- which houses have a mood -/
def hmd (σ : St) (h : Nat) : Bool := decide (0 < tIn σ h)
theorem mAll_eq {B H : Nat} {σ : St} (hv : vS B H σ) (hH : H ≤ 7) : tb (hm1 σ) 7 = tb (hmd σ) H := by
  have e : tb (hm1 σ) 7 = tb (hmd σ) 7 := tb_congr 7 (fun h _ => hm1_iff hv.2.2.2.2.2.1 h)
  have := tb_cut (p := hmd σ) (a := H) (7 - H) (fun j hj => by unfold hmd; rw [tIn_0 hv hj]; rfl)
  rw [show H + (7 - H) = 7 by omega] at this
  rw [e, this]
section
variable {G : am_G} {d r h : Nat} {σ : St} {δ : Dt} {Λ : List Tok} {post : am_O → am_G → Prop}
theorem fE2 (hT : Tm G δ Λ) : am_gI G 338 0 = wn (dB δ) ∧ am_gI G 338 1 = wn (dH δ) ∧ am_gI G 338 2 = wn (dD δ) ∧ am_gI G 338 3 = wn (dW δ) := ⟨hT.1.1, hT.1.2.1, hT.1.2.2.1, hT.1.2.2.2.1⟩
theorem ct207 (hsh : Sh G) (hrr : r ∈ rws) (hr : rW G r 0 σ) (hh : h < 7) : am_C am_T (d + 2) 207 [.ref 334, .ref r, .int (wn h)] G post ↔ post (.inl (some (.int (wn (tIn σ h))))) G := by
  have hc := am_C_one am_T (d + 1)
  refine am_iff (fun post k => ?_) post
  refine (we207 _ _ _ _).mpr ((wb207_0 hc _ _ _ _).mpr ?_)
  refine am_for 10 (fun j ls G' => G' = G ∧ ∃ o0, ls = [o0, some (.ref r), some (.int (wn h)), some (.int (wn (tsum (fun m => sM σ (h * 10 + m)) j))), some (.int (wn j))]) ?_ ?_ 10 0 rfl _ _ ⟨rfl, _, rfl⟩
  · rintro j hj _ _ ⟨rfl, o0, rfl⟩ nx
    have c1 : ¬ 10 ≤ j := by omega
    have e := (fW hr).2.2.2.2.1 (h * 10 + j) (by omega)
    have e3 : 24 + 10 * h + j = 24 + (h * 10 + j) := by omega
    rw [wb207_5 hc]
    simp +decide (disch := omega) only [↓wm1, wb207_12 hc, wb207_20 hc, w0, w1, w10, rI_wI, rP_wI, rL_wI, rI_wR, rP_wR, is_wI, is_wR, ia_wI, ia_wR, ow_wI, ow_wR, wn_add, wn_mul, wn_cl, wn_le, wn_lt, wn_inj, wn_ne1, wn_1ne, wn_gt1, wn_le1, nb0, nb1, am_kt, am_rt, List.cons_append, List.nil_append, true_and, and_true, not_true_eq_false, not_false_eq_true, imp_f, imp_t, implies_true, Nat.zero_add, if_true, if_false, c1, ct199, e3, fR hsh hrr, e]
    exact nx _ _ ⟨rfl, none, rfl⟩
  · rintro _ _ ⟨rfl, o0, rfl⟩
    rw [wb207_5 hc]
    simp +decide (disch := omega) only [↓wm1, wb207_29 hc, w0, w1, w10, rI_wI, rP_wI, rL_wI, rI_wR, rP_wR, is_wI, is_wR, ia_wI, ia_wR, ow_wI, ow_wR, wn_add, wn_mul, wn_cl, wn_le, wn_lt, wn_inj, wn_ne1, wn_1ne, wn_gt1, wn_le1, nb0, nb1, am_kt, am_rt, List.cons_append, List.nil_append, true_and, and_true, not_true_eq_false, not_false_eq_true, imp_f, imp_t, implies_true, Nat.zero_add, if_true, if_false, Nat.le_refl]
    exact k
theorem ct208 (hsh : Sh G) (hT : Tm G δ Λ) (hrr : r ∈ rws) (hr : rW G r 0 σ) : am_C am_T (d + 3) 208 [.ref 334, .ref r] G post ↔ post (.inl (some (.int (wn (tsum (tIn σ) (dH δ)))))) G := by
  have hc := am_C_one am_T (d + 2)
  have v7 := hT.2.1.2.1
  refine am_iff (fun post k => ?_) post
  refine (we208 _ _ _).mpr ((wb208_0 hc _ _ _).mpr ?_)
  refine am_for (dH δ) (fun j ls G' => G' = G ∧ ls = [some (.ref 334), some (.ref r), some (.int (wn (tsum (tIn σ) j))), some (.int (wn j))]) ?_ ?_ (dH δ) 0 (by omega) _ _ ⟨rfl, rfl⟩
  · rintro j hj _ _ ⟨rfl, rfl⟩ nx
    have c1 : ¬ dH δ ≤ j := by omega
    rw [wb208_4 hc]
    simp +decide (disch := omega) only [↓wm1, wb208_14 hc, wb208_21 hc, w0, w1, rI_wI, rP_wI, rL_wI, rI_wR, rP_wR, is_wI, is_wR, ia_wI, ia_wR, ow_wI, ow_wR, wn_add, wn_mul, wn_cl, wn_le, wn_lt, wn_inj, wn_ne1, wn_1ne, wn_gt1, wn_le1, nb0, nb1, am_kt, am_rt, List.cons_append, List.nil_append, true_and, and_true, not_true_eq_false, not_false_eq_true, imp_f, imp_t, implies_true, Nat.zero_add, if_true, if_false, fM hsh, fE2 hT, ia338 hsh, c1, ct207 hsh hrr hr (show j < 7 by omega)]
    exact nx _ _ ⟨rfl, rfl⟩
  · rintro _ _ ⟨rfl, rfl⟩
    rw [wb208_4 hc]
    simp +decide (disch := omega) only [↓wm1, wb208_29 hc, w0, w1, rI_wI, rP_wI, rL_wI, rI_wR, rP_wR, is_wI, is_wR, ia_wI, ia_wR, ow_wI, ow_wR, wn_add, wn_mul, wn_cl, wn_le, wn_lt, wn_inj, wn_ne1, wn_1ne, wn_gt1, wn_le1, nb0, nb1, am_kt, am_rt, List.cons_append, List.nil_append, true_and, and_true, not_true_eq_false, not_false_eq_true, imp_f, imp_t, implies_true, Nat.zero_add, if_true, if_false, fM hsh, fE2 hT, ia338 hsh, Nat.le_refl]
    exact k
theorem ct212 (hsh : Sh G) (hT : Tm G δ Λ) (hrr : r ∈ rws) (hr : rW G r 0 σ) : am_C am_T (d + 1) 212 [.ref 334, .ref r] G post ↔ post (.inl (some (.int (wn (tsum (sP σ) (dB δ)))))) G := by
  have hc := am_C_one am_T d
  have v6 := hT.2.1.1
  refine am_iff (fun post k => ?_) post
  refine (we212 _ _ _).mpr ((wb212_0 hc _ _ _).mpr ?_)
  refine am_for (dB δ) (fun j ls G' => G' = G ∧ ls = [some (.ref 334), some (.ref r), some (.int (wn (tsum (sP σ) j))), some (.int (wn j))]) ?_ ?_ (dB δ) 0 (by omega) _ _ ⟨rfl, rfl⟩
  · rintro j hj _ _ ⟨rfl, rfl⟩ nx
    have c1 : ¬ dB δ ≤ j := by omega
    have e := (fW hr).2.2.2.1 j (by omega)
    rw [wb212_4 hc]
    simp +decide (disch := omega) only [↓wm1, wb212_14 hc, w0, w1, w18, rI_wI, rP_wI, rL_wI, rI_wR, rP_wR, is_wI, is_wR, ia_wI, ia_wR, ow_wI, ow_wR, wn_add, wn_mul, wn_cl, wn_le, wn_lt, wn_inj, wn_ne1, wn_1ne, wn_gt1, wn_le1, nb0, nb1, am_kt, am_rt, List.cons_append, List.nil_append, true_and, and_true, not_true_eq_false, not_false_eq_true, imp_f, imp_t, implies_true, Nat.zero_add, if_true, if_false, fM hsh, fE2 hT, ia338 hsh, fR hsh hrr, c1, e]
    exact nx _ _ ⟨rfl, rfl⟩
  · rintro _ _ ⟨rfl, rfl⟩
    rw [wb212_4 hc]
    simp +decide (disch := omega) only [↓wm1, wb212_29 hc, w0, w1, w18, rI_wI, rP_wI, rL_wI, rI_wR, rP_wR, is_wI, is_wR, ia_wI, ia_wR, ow_wI, ow_wR, wn_add, wn_mul, wn_cl, wn_le, wn_lt, wn_inj, wn_ne1, wn_1ne, wn_gt1, wn_le1, nb0, nb1, am_kt, am_rt, List.cons_append, List.nil_append, true_and, and_true, not_true_eq_false, not_false_eq_true, imp_f, imp_t, implies_true, Nat.zero_add, if_true, if_false, fM hsh, fE2 hT, ia338 hsh, Nat.le_refl]
    exact k
theorem or0 : ∀ a, a < 256 → wn a ||| wn 0 = wn a := by decide +kernel
theorem ct198 (hsh : Sh G) (hT : Tm G δ Λ) (hrr : r ∈ rws) (hr : rW G r 0 σ) : am_C am_T (d + 2) 198 [.ref 334, .ref r] G post ↔ post (.inl (some (.int (wn (tb (spk σ) (dB δ)))))) G := by
  have hc := am_C_one am_T (d + 1)
  have v6 := hT.2.1.1
  refine am_iff (fun post k => ?_) post
  refine (we198 _ _ _).mpr ((wb198_0 hc _ _ _).mpr ?_)
  refine am_for (dB δ) (fun j ls G' => G' = G ∧ ls = [some (.ref 334), some (.ref r), some (.int (wn (tb (spk σ) j))), some (.int (wn j))]) ?_ ?_ (dB δ) 0 (by omega) _ _ ⟨rfl, rfl⟩
  · rintro j hj _ _ ⟨rfl, rfl⟩ nx
    have c1 : ¬ dB δ ≤ j := by omega
    have b1 := tb_lt (spk σ) j
    have b2 : 2 ^ j ≤ 2 ^ 6 := Nat.pow_le_pow_right (by decide) (by omega)
    have e1 := bs1 j (by omega)
    have e2 := bor (tb (spk σ) j) (by omega) j (by omega) b1
    have e3 := or0 (tb (spk σ) j) (by omega)
    rw [wb198_4 hc]
    cases c2 : spk σ j with
    | true =>
      simp +decide (disch := omega) only [↓wm1, wb198_14 hc, wb198_20 hc, wb198_23 hc, wb198_30 hc, w0, w1, rI_wI, rP_wI, rL_wI, rI_wR, rP_wR, is_wI, is_wR, ia_wI, ia_wR, ow_wI, ow_wR, wn_add, wn_mul, wn_cl, wn_le, wn_lt, wn_inj, wn_ne1, wn_1ne, wn_gt1, wn_le1, nb0, nb1, am_kt, am_rt, List.cons_append, List.nil_append, true_and, and_true, not_true_eq_false, not_false_eq_true, imp_f, imp_t, implies_true, Nat.zero_add, if_true, if_false, fM hsh, fE2 hT, ia338 hsh, c1, ct197 hsh hrr hr (show j < 6 by omega), c2, b01, e1, e2]
      refine nx _ _ ⟨rfl, ?_⟩
      simp [tb, c2]
    | false =>
      simp +decide (disch := omega) only [↓wm1, wb198_14 hc, wb198_20 hc, wb198_29 hc, wb198_30 hc, w0, w1, rI_wI, rP_wI, rL_wI, rI_wR, rP_wR, is_wI, is_wR, ia_wI, ia_wR, ow_wI, ow_wR, wn_add, wn_mul, wn_cl, wn_le, wn_lt, wn_inj, wn_ne1, wn_1ne, wn_gt1, wn_le1, nb0, nb1, am_kt, am_rt, List.cons_append, List.nil_append, true_and, and_true, not_true_eq_false, not_false_eq_true, imp_f, imp_t, implies_true, Nat.zero_add, if_true, if_false, fM hsh, fE2 hT, ia338 hsh, c1, ct197 hsh hrr hr (show j < 6 by omega), c2, b01, e3, Bool.false_eq_true]
      refine nx _ _ ⟨rfl, ?_⟩
      simp [tb, c2]
  · rintro _ _ ⟨rfl, rfl⟩
    rw [wb198_4 hc]
    simp +decide (disch := omega) only [↓wm1, wb198_38 hc, w0, w1, rI_wI, rP_wI, rL_wI, rI_wR, rP_wR, is_wI, is_wR, ia_wI, ia_wR, ow_wI, ow_wR, wn_add, wn_mul, wn_cl, wn_le, wn_lt, wn_inj, wn_ne1, wn_1ne, wn_gt1, wn_le1, nb0, nb1, am_kt, am_rt, List.cons_append, List.nil_append, true_and, and_true, not_true_eq_false, not_false_eq_true, imp_f, imp_t, implies_true, Nat.zero_add, if_true, if_false, fM hsh, fE2 hT, ia338 hsh, Nat.le_refl]
    exact k
theorem ct209 (hsh : Sh G) (hT : Tm G δ Λ) (hrr : r ∈ rws) (hr : rW G r 0 σ) (hm : ∀ j, sM σ j ≤ 999) : am_C am_T (d + 3) 209 [.ref 334, .ref r] G post ↔ post (.inl (some (.int (wn (tb (hmd σ) (dH δ)))))) G := by
  have hc := am_C_one am_T (d + 2)
  have v7 := hT.2.1.2.1
  refine am_iff (fun post k => ?_) post
  refine (we209 _ _ _).mpr ((wb209_0 hc _ _ _).mpr ?_)
  refine am_for (dH δ) (fun j ls G' => G' = G ∧ ls = [some (.ref 334), some (.ref r), some (.int (wn (tb (hmd σ) j))), some (.int (wn j))]) ?_ ?_ (dH δ) 0 (by omega) _ _ ⟨rfl, rfl⟩
  · rintro j hj _ _ ⟨rfl, rfl⟩ nx
    have c1 : ¬ dH δ ≤ j := by omega
    have b1 := tb_lt (hmd σ) j
    have b2 : 2 ^ j ≤ 2 ^ 6 := Nat.pow_le_pow_right (by decide) (by omega)
    have e1 := bs1 j (by omega)
    have e2 := bor (tb (hmd σ) j) (by omega) j (by omega) b1
    have e3 := or0 (tb (hmd σ) j) (by omega)
    have tl := tIn_le hm j
    rw [wb209_4 hc]
    by_cases c2 : tIn σ j ≤ 0
    · simp +decide (disch := omega) only [↓wm1, wb209_14 hc, wb209_21 hc, wb209_30 hc, wb209_31 hc, w0, w1, rI_wI, rP_wI, rL_wI, rI_wR, rP_wR, is_wI, is_wR, ia_wI, ia_wR, ow_wI, ow_wR, wn_add, wn_mul, wn_cl, wn_le, wn_lt, wn_inj, wn_ne1, wn_1ne, wn_gt1, wn_le1, nb0, nb1, am_kt, am_rt, List.cons_append, List.nil_append, true_and, and_true, not_true_eq_false, not_false_eq_true, imp_f, imp_t, implies_true, Nat.zero_add, if_true, if_false, fM hsh, fE2 hT, ia338 hsh, c1, ct207 hsh hrr hr (show j < 7 by omega), c2, e3]
      refine nx _ _ ⟨rfl, ?_⟩
      have : hmd σ j = false := by simp only [hmd, decide_eq_false_iff_not]; omega
      simp [tb, this]
    · simp +decide (disch := omega) only [↓wm1, wb209_14 hc, wb209_21 hc, wb209_24 hc, wb209_31 hc, w0, w1, rI_wI, rP_wI, rL_wI, rI_wR, rP_wR, is_wI, is_wR, ia_wI, ia_wR, ow_wI, ow_wR, wn_add, wn_mul, wn_cl, wn_le, wn_lt, wn_inj, wn_ne1, wn_1ne, wn_gt1, wn_le1, nb0, nb1, am_kt, am_rt, List.cons_append, List.nil_append, true_and, and_true, not_true_eq_false, not_false_eq_true, imp_f, imp_t, implies_true, Nat.zero_add, if_true, if_false, fM hsh, fE2 hT, ia338 hsh, c1, ct207 hsh hrr hr (show j < 7 by omega), c2, e1, e2]
      refine nx _ _ ⟨rfl, ?_⟩
      have : hmd σ j = true := by simp only [hmd, decide_eq_true_eq]; omega
      simp [tb, this]
  · rintro _ _ ⟨rfl, rfl⟩
    rw [wb209_4 hc]
    simp +decide (disch := omega) only [↓wm1, wb209_39 hc, w0, w1, rI_wI, rP_wI, rL_wI, rI_wR, rP_wR, is_wI, is_wR, ia_wI, ia_wR, ow_wI, ow_wR, wn_add, wn_mul, wn_cl, wn_le, wn_lt, wn_inj, wn_ne1, wn_1ne, wn_gt1, wn_le1, nb0, nb1, am_kt, am_rt, List.cons_append, List.nil_append, true_and, and_true, not_true_eq_false, not_false_eq_true, imp_f, imp_t, implies_true, Nat.zero_add, if_true, if_false, fM hsh, fE2 hT, ia338 hsh, Nat.le_refl]
    exact k
theorem ct210 {e : Nat} (hsh : Sh G) (hT : Tm G δ Λ) (hrr : r ∈ rws) (hr : rW G r 0 σ) (hm : ∀ j, sM σ j ≤ 999) (he : e < dD δ) : am_C am_T (d + 2) 210 [.ref 334, .ref r, .int (wn e)] G post ↔ post (.inl (some (.int (wn (b01 (dn δ σ e)))))) G := by
  have hc := am_C_one am_T (d + 1)
  have v := hT.2.1
  have vv := v.2.2.2.2.2.2 e he
  have v7 := v.2.1
  have v8 := v.2.2.1
  have ee := hT.1.2.2.2.2.2.2 e he
  have em := (fW hr).2.2.2.2.1 (eH δ e * 10 + eM δ e) (by omega)
  have e3 : 24 + 10 * eH δ e + eM δ e = 24 + (eH δ e * 10 + eM δ e) := by omega
  have hm2 := hm (eH δ e * 10 + eM δ e)
  rw [we210]
  by_cases c2 : sM σ (eH δ e * 10 + eM δ e) < eN δ e
  · have : dn δ σ e = false := by simp only [dn, decide_eq_false_iff_not]; omega
    simp +decide (disch := omega) only [↓wm1, wb210_0 hc, wb210_20 hc, wb210_32 hc, wb210_36 hc, wb210_37 hc, w0, w1, w2, rI_wI, rP_wI, rL_wI, rI_wR, rP_wR, is_wI, is_wR, ia_wI, ia_wR, ow_wI, ow_wR, wn_add, wn_mul, wn_cl, wn_le, wn_lt, wn_inj, wn_ne1, wn_1ne, wn_gt1, wn_le1, nb0, nb1, am_kt, am_rt, List.cons_append, List.nil_append, true_and, and_true, not_true_eq_false, not_false_eq_true, imp_f, imp_t, implies_true, Nat.zero_add, if_true, if_false, fM hsh, fr378 hsh, ee.1, ee.2.1, ee.2.2, ct199, e3, em, fR hsh hrr, c2, this, b01, Bool.false_eq_true]
  · have : dn δ σ e = true := by simp only [dn, decide_eq_true_eq]; omega
    simp +decide (disch := omega) only [↓wm1, wb210_0 hc, wb210_20 hc, wb210_32 hc, wb210_36 hc, wb210_37 hc, w0, w1, w2, rI_wI, rP_wI, rL_wI, rI_wR, rP_wR, is_wI, is_wR, ia_wI, ia_wR, ow_wI, ow_wR, wn_add, wn_mul, wn_cl, wn_le, wn_lt, wn_inj, wn_ne1, wn_1ne, wn_gt1, wn_le1, nb0, nb1, am_kt, am_rt, List.cons_append, List.nil_append, true_and, and_true, not_true_eq_false, not_false_eq_true, imp_f, imp_t, implies_true, Nat.zero_add, if_true, if_false, fM hsh, fr378 hsh, ee.1, ee.2.1, ee.2.2, ct199, e3, em, fR hsh hrr, c2, this, b01]
theorem ct211 (hsh : Sh G) (hT : Tm G δ Λ) (hrr : r ∈ rws) (hr : rW G r 0 σ) (hm : ∀ j, sM σ j ≤ 999) : am_C am_T (d + 3) 211 [.ref 334, .ref r] G post ↔ post (.inl (some (.int (wn (tb (dn δ σ) (dD δ)))))) G := by
  have hc := am_C_one am_T (d + 2)
  have v8 := hT.2.1.2.2.1
  refine am_iff (fun post k => ?_) post
  refine (we211 _ _ _).mpr ((wb211_0 hc _ _ _).mpr ?_)
  refine am_for (dD δ) (fun j ls G' => G' = G ∧ ls = [some (.ref 334), some (.ref r), some (.int (wn (tb (dn δ σ) j))), some (.int (wn j))]) ?_ ?_ (dD δ) 0 (by omega) _ _ ⟨rfl, rfl⟩
  · rintro j hj _ _ ⟨rfl, rfl⟩ nx
    have c1 : ¬ dD δ ≤ j := by omega
    have b1 := tb_lt (dn δ σ) j
    have b2 : 2 ^ j ≤ 2 ^ 7 := Nat.pow_le_pow_right (by decide) (by omega)
    have e1 := bs1 j (by omega)
    have e2 := bor (tb (dn δ σ) j) (by omega) j (by omega) b1
    have e3 := or0 (tb (dn δ σ) j) (by omega)
    rw [wb211_4 hc]
    cases c2 : dn δ σ j with
    | true =>
      simp +decide (disch := omega) only [↓wm1, wb211_14 hc, wb211_21 hc, wb211_24 hc, wb211_31 hc, w0, w1, w2, rI_wI, rP_wI, rL_wI, rI_wR, rP_wR, is_wI, is_wR, ia_wI, ia_wR, ow_wI, ow_wR, wn_add, wn_mul, wn_cl, wn_le, wn_lt, wn_inj, wn_ne1, wn_1ne, wn_gt1, wn_le1, nb0, nb1, am_kt, am_rt, List.cons_append, List.nil_append, true_and, and_true, not_true_eq_false, not_false_eq_true, imp_f, imp_t, implies_true, Nat.zero_add, if_true, if_false, fM hsh, fE2 hT, ia338 hsh, c1, ct210 hsh hT hrr hr hm hj, c2, b01, e1, e2]
      refine nx _ _ ⟨rfl, ?_⟩
      simp [tb, c2]
    | false =>
      simp +decide (disch := omega) only [↓wm1, wb211_14 hc, wb211_21 hc, wb211_30 hc, wb211_31 hc, w0, w1, w2, rI_wI, rP_wI, rL_wI, rI_wR, rP_wR, is_wI, is_wR, ia_wI, ia_wR, ow_wI, ow_wR, wn_add, wn_mul, wn_cl, wn_le, wn_lt, wn_inj, wn_ne1, wn_1ne, wn_gt1, wn_le1, nb0, nb1, am_kt, am_rt, List.cons_append, List.nil_append, true_and, and_true, not_true_eq_false, not_false_eq_true, imp_f, imp_t, implies_true, Nat.zero_add, if_true, if_false, fM hsh, fE2 hT, ia338 hsh, c1, ct210 hsh hT hrr hr hm hj, c2, b01, e3, Bool.false_eq_true]
      refine nx _ _ ⟨rfl, ?_⟩
      simp [tb, c2]
  · rintro _ _ ⟨rfl, rfl⟩
    rw [wb211_4 hc]
    simp +decide (disch := omega) only [↓wm1, wb211_39 hc, w0, w1, w2, rI_wI, rP_wI, rL_wI, rI_wR, rP_wR, is_wI, is_wR, ia_wI, ia_wR, ow_wI, ow_wR, wn_add, wn_mul, wn_cl, wn_le, wn_lt, wn_inj, wn_ne1, wn_1ne, wn_gt1, wn_le1, nb0, nb1, am_kt, am_rt, List.cons_append, List.nil_append, true_and, and_true, not_true_eq_false, not_false_eq_true, imp_f, imp_t, implies_true, Nat.zero_add, if_true, if_false, fM hsh, fE2 hT, ia338 hsh, Nat.le_refl]
    exact k
theorem ct217 (hsh : Sh G) (hr : rW G 808 0 σ) (hm : ∀ j, sM σ j ≤ 999) (hh : h < 7) : am_C am_T (d + 2) 217 [.ref 334, .int (wn h)] G post ↔ post (.inl (some (.int (mf (fun m => sM σ (h * 10 + m)) 10).1))) G := by
  have hc := am_C_one am_T (d + 1)
  have hrr : 808 ∈ rws := by decide
  refine am_iff (fun post k => ?_) post
  refine (we217 _ _ _).mpr ((wb217_0 hc _ _ _).mpr ?_)
  refine am_for 10 (fun j ls G' => G' = G ∧ ls = [some (.ref 334), some (.int (wn h)), some (.int (mf (fun m => sM σ (h * 10 + m)) j).1), some (.int (wn (mf (fun m => sM σ (h * 10 + m)) j).2)), some (.int (wn j))]) ?_ ?_ 10 0 rfl _ _ ⟨rfl, rfl⟩
  · rintro j hj _ _ ⟨rfl, rfl⟩ nx
    have c1 : ¬ 10 ≤ j := by omega
    have b1 := mf_le (f := fun m => sM σ (h * 10 + m)) (fun j => hm _) j
    have b2 := hm (h * 10 + j)
    have e := (fW hr).2.2.2.2.1 (h * 10 + j) (by omega)
    have e3 : 24 + 10 * h + j = 24 + (h * 10 + j) := by omega
    rw [wb217_7 hc]
    by_cases c2 : (mf (fun m => sM σ (h * 10 + m)) j).2 < sM σ (h * 10 + j)
    · simp +decide (disch := omega) only [↓wm1, wb217_14 hc, wb217_24 hc, wb217_32 hc, wb217_45 hc, wb217_47 hc, w0, w1, w10, rI_wI, rP_wI, rL_wI, rI_wR, rP_wR, is_wI, is_wR, ia_wI, ia_wR, ow_wI, ow_wR, wn_add, wn_mul, wn_cl, wn_le, wn_lt, wn_inj, wn_ne1, wn_1ne, wn_gt1, wn_le1, nb0, nb1, am_kt, am_rt, List.cons_append, List.nil_append, true_and, and_true, not_true_eq_false, not_false_eq_true, imp_f, imp_t, implies_true, Nat.zero_add, if_true, if_false, fM hsh, c1, ct199, e3, fR hsh hrr, e, c2]
      refine nx _ _ ⟨rfl, ?_⟩
      simp only [mf]
      rw [if_pos (by omega)]
    · simp +decide (disch := omega) only [↓wm1, wb217_14 hc, wb217_24 hc, wb217_29 hc, wb217_47 hc, w0, w1, w10, rI_wI, rP_wI, rL_wI, rI_wR, rP_wR, is_wI, is_wR, ia_wI, ia_wR, ow_wI, ow_wR, wn_add, wn_mul, wn_cl, wn_le, wn_lt, wn_inj, wn_ne1, wn_1ne, wn_gt1, wn_le1, nb0, nb1, am_kt, am_rt, List.cons_append, List.nil_append, true_and, and_true, not_true_eq_false, not_false_eq_true, imp_f, imp_t, implies_true, Nat.zero_add, if_true, if_false, fM hsh, c1, ct199, e3, fR hsh hrr, e, c2]
      refine nx _ _ ⟨rfl, ?_⟩
      simp only [mf]
      rw [if_neg (by omega)]
  · rintro _ _ ⟨rfl, rfl⟩
    rw [wb217_7 hc]
    simp +decide (disch := omega) only [↓wm1, wb217_53 hc, w0, w1, w10, rI_wI, rP_wI, rL_wI, rI_wR, rP_wR, is_wI, is_wR, ia_wI, ia_wR, ow_wI, ow_wR, wn_add, wn_mul, wn_cl, wn_le, wn_lt, wn_inj, wn_ne1, wn_1ne, wn_gt1, wn_le1, nb0, nb1, am_kt, am_rt, List.cons_append, List.nil_append, true_and, and_true, not_true_eq_false, not_false_eq_true, imp_f, imp_t, implies_true, Nat.zero_add, if_true, if_false, Nat.le_refl]
    exact k
end
