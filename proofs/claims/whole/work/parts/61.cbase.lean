/-! What follows from a state, as equivalences: the object's side. -/
theorem tb_congr {p r : Nat → Bool} : ∀ n, (∀ b, b < n → p b = r b) → tb p n = tb r n := by
  intro n
  induction n with
  | zero => intro _; rfl
  | succ n ih =>
    intro h
    simp only [tb, h n (by omega), ih (fun b hb => h b (by omega))]
theorem spk_ok : ∀ B, B < 7 → ∀ m, m < 64 → (wn (2 ^ B) - wn 1) &&& (wn m ^^^ mm) = wn (tb (fun b => bt m b == 0) B) := by decide +kernel
theorem spk_or {σ : St} (hg : sG σ < 64) (ht : sT σ < 64) {b : Nat} (hb : b < 6) : spk σ b = (bt (sG σ ||| sT σ) b == 0) := by
  rw [bt_or (sG σ) hg (sT σ) ht b hb]
  unfold spk
  by_cases h1 : bt (sG σ) b = 0
  · by_cases h2 : bt (sT σ) b = 0
    · simp [h1, h2]
    · simp [h1, h2]
  · simp [h1]
/-- a deed is done -/
def dn (δ : Dt) (σ : St) (e : Nat) : Bool := decide (eN δ e ≤ sM σ (eH δ e * 10 + eM δ e))
theorem bt_tb : ∀ (p : Nat → Bool) (n : Nat) (k : Nat), k < n → bt (tb p n) k = b01 (p k) := by
  intro p n
  induction n with
  | zero => intro k h; omega
  | succ n ih =>
    intro k hk
    have hlt := tb_lt p n
    simp only [tb]
    by_cases e : k = n
    · subst e
      unfold bt b01
      cases h : p k with
      | true =>
        simp only [if_true]
        rw [Nat.add_div_right _ (Nat.two_pow_pos k), Nat.div_eq_of_lt hlt]
      | false =>
        simp only [Bool.false_eq_true, if_false]
        rw [Nat.div_eq_of_lt hlt]
    · have := ih k (by omega)
      rw [← this]
      split
      · unfold bt
        obtain ⟨c, hc⟩ : ∃ c, n = k + 1 + c := ⟨n - k - 1, by omega⟩
        have e2 : tb p n + 2 ^ n = tb p n + 2 ^ k * (2 * 2 ^ c) := by
          rw [hc, Nat.pow_add, Nat.pow_succ, Nat.mul_assoc]
        rw [e2, Nat.add_mul_div_left _ _ (Nat.two_pow_pos k), Nat.add_mul_mod_self_left]
      · rfl
section
variable {G : am_G} {d s q l h : Nat} {σ : St} {δ : Dt} {Λ : List Tok} {post : am_O → am_G → Prop}
theorem ct57i (hsh : Sh G) (hs : s ∈ sts) (hr : rS G s σ) (hh : h < 7) : am_C am_T (d + 1) 57 [.ref s, .int (wn h)] G post ↔ post (.inl (some (.int (wn (tIn σ h))))) G := am_iff (fun _ k => ct57 hsh hs hr hh k) post
theorem ct60i (hsh : Sh G) (hs : s ∈ sts) (hr : rS G s σ) (hv : ∀ j, sM σ j ≤ 999) (hh : h < 7) : am_C am_T (d + 1) 60 [.ref s, .int (wn h)] G post ↔ post (.inl (some (.int (mf (fun m => sM σ (h * 10 + m)) 10).1))) G := am_iff (fun _ k => ct60 hsh hs hr hv hh k) post
theorem ct58i (hsh : Sh G) (hs : s ∈ sts) (hr : rS G s σ) : am_C am_T (d + 2) 58 [.ref s] G post ↔ post (.inl (some (.int (wn (tsum (tIn σ) 7))))) G := am_iff (fun _ k => ct58 hsh hs hr k) post
theorem ct59i (hsh : Sh G) (hs : s ∈ sts) (hr : rS G s σ) : am_C am_T (d + 1) 59 [.ref s] G post ↔ post (.inl (some (.int (wn (tsum (sP σ) 6))))) G := am_iff (fun _ k => ct59 hsh hs hr k) post
theorem ct61i (hsh : Sh G) (hs : s ∈ sts) (hr : rS G s σ) (hv : ∀ j, sM σ j ≤ 999) : am_C am_T (d + 2) 61 [.ref s] G post ↔ post (.inl (some (.int (wn (tb (hm1 σ) 7))))) G := am_iff (fun _ k => ct61 hsh hs hr hv k) post
theorem ct48i {b : Nat} (hsh : Sh G) (hs : s ∈ sts) (hr : rS G s σ) (hg : sG σ < 64) (ht : sT σ < 64) (hb : b < 6) : am_C am_T (d + 1) 48 [.ref s, .int (wn b)] G post ↔ post (.inl (some (.int (wn (b01 (spk σ b)))))) G := am_iff (fun _ k => ct48 hsh hs hr hg ht hb k) post
theorem ct87 (hsh : Sh G) (hT : Tw G q l δ Λ) (hs : s ∈ sts) (hr : rS G s σ) (hg : sG σ < 64) (ht : sT σ < 64) : am_C am_T (d + 1) 87 [.ref 3, .ref s] G post ↔ post (.inl (some (.int (wn (tb (spk σ) (dB δ)))))) G := by
  have hc := am_C_one am_T d
  have v := hT.2.2.2.2.2.1.1
  have e0 := bor2 (sG σ) hg (sT σ) ht
  have e1 := spk_ok (dB δ) (by omega) (sG σ ||| sT σ) (bor_lt hg ht)
  have e2 : tb (fun b => bt (sG σ ||| sT σ) b == 0) (dB δ) = tb (spk σ) (dB δ) := tb_congr _ (fun b hb => (spk_or hg ht (by omega)).symm)
  have e3 := bs1 (dB δ) (by omega)
  rw [e2] at e1
  rw [we87]
  simp +decide (disch := omega) only [↓wm1, wb87_0 hc, w0, w1, rI_wI, rP_wI, rL_wI, rI_wR, rP_wR, is_wI, is_wR, ia_wI, ia_wR, ow_wI, ow_wR, wn_add, wn_mul, wn_cl, wn_le, wn_lt, wn_inj, wn_ne1, wn_1ne, wn_gt1, wn_le1, nb0, nb1, am_kt, am_rt, List.cons_append, List.nil_append, true_and, and_true, not_true_eq_false, not_false_eq_true, imp_f, imp_t, implies_true, Nat.zero_add, if_true, if_false, fC hsh, fW2 hsh hT, fD hsh hT.2.2.1, fS hsh hs, hr.2.2.1, hr.2.2.2.1, e0, e1, e3]
theorem ct88 (hsh : Sh G) (hT : Tw G q l δ Λ) (hs : s ∈ sts) (hr : rS G s σ) (hm : ∀ j, sM σ j ≤ 999) : am_C am_T (d + 1) 88 [.ref 3, .ref s] G post ↔ post (.inl (some (.int (wn (tb (dn δ σ) (dD δ)))))) G := by
  have hc := am_C_one am_T d
  have v := hT.2.2.2.2.2.1
  have rd := hT.2.2.2.2.1
  have v8 := v.2.2.1
  refine am_iff (fun post k => ?_) post
  refine (we88 _ _ _).mpr ((wb88_0 hc _ _ _).mpr ?_)
  refine am_for (dD δ) (fun j ls G' => G' = G ∧ ls = [some (.ref 3), some (.ref s), some (.int (wn (tb (dn δ σ) j))), some (.int (wn j)), none]) ?_ ?_ (dD δ) 0 (by omega) _ _ ⟨rfl, rfl⟩
  · rintro j hj _ _ ⟨rfl, rfl⟩ nx
    have c1 : ¬ dD δ ≤ j := by omega
    have b1 := tb_lt (dn δ σ) j
    have b2 : 2 ^ j ≤ 2 ^ 7 := Nat.pow_le_pow_right (by decide) (by omega)
    have vv := v.2.2.2.2.2.2 j hj
    have vH := v.2.1
    have ee := rd.2.2.2.2.2.2 j hj
    have em := hr.2.2.2.2.2.2 (eH δ j * 10 + eM δ j) (by omega)
    have e1 := bs1 j (by omega)
    have e2 := bor (tb (dn δ σ) j) (by omega) j (by omega) b1
    have hm2 := hm (eH δ j * 10 + eM δ j)
    rw [wb88_4 hc]
    by_cases c2 : sM σ (eH δ j * 10 + eM δ j) < eN δ j
    · simp +decide (disch := omega) only [↓wm1, wb88_15 hc, wb88_64 hc, w0, w1, w10, rI_wI, rP_wI, rL_wI, rI_wR, rP_wR, is_wI, is_wR, ia_wI, ia_wR, ow_wI, ow_wR, wn_add, wn_mul, wn_cl, wn_le, wn_lt, wn_inj, wn_ne1, wn_1ne, wn_gt1, wn_le1, nb0, nb1, am_kt, am_rt, List.cons_append, List.nil_append, true_and, and_true, not_true_eq_false, not_false_eq_true, imp_f, imp_t, implies_true, Nat.zero_add, if_true, if_false, fC hsh, fW2 hsh hT, fD hsh hT.2.2.1, fS hsh hs, c1, ee.1, ee.2.1, ee.2.2, em, c2]
      refine nx _ _ ⟨rfl, ?_⟩
      have : dn δ σ j = false := by simp only [dn, decide_eq_false_iff_not]; omega
      simp [tb, this]
    · simp +decide (disch := omega) only [↓wm1, wb88_15 hc, wb88_58 hc, wb88_64 hc, w0, w1, w10, rI_wI, rP_wI, rL_wI, rI_wR, rP_wR, is_wI, is_wR, ia_wI, ia_wR, ow_wI, ow_wR, wn_add, wn_mul, wn_cl, wn_le, wn_lt, wn_inj, wn_ne1, wn_1ne, wn_gt1, wn_le1, nb0, nb1, am_kt, am_rt, List.cons_append, List.nil_append, true_and, and_true, not_true_eq_false, not_false_eq_true, imp_f, imp_t, implies_true, Nat.zero_add, if_true, if_false, fC hsh, fW2 hsh hT, fD hsh hT.2.2.1, fS hsh hs, c1, ee.1, ee.2.1, ee.2.2, em, c2, e1, e2]
      refine nx _ _ ⟨rfl, ?_⟩
      have : dn δ σ j = true := by simp only [dn, decide_eq_true_eq]; omega
      simp [tb, this]
  · rintro _ _ ⟨rfl, rfl⟩
    rw [wb88_4 hc]
    simp +decide (disch := omega) only [↓wm1, wb88_70 hc, w0, w1, w10, rI_wI, rP_wI, rL_wI, rI_wR, rP_wR, is_wI, is_wR, ia_wI, ia_wR, ow_wI, ow_wR, wn_add, wn_mul, wn_cl, wn_le, wn_lt, wn_inj, wn_ne1, wn_1ne, wn_gt1, wn_le1, nb0, nb1, am_kt, am_rt, List.cons_append, List.nil_append, true_and, and_true, not_true_eq_false, not_false_eq_true, imp_f, imp_t, implies_true, Nat.zero_add, if_true, if_false, fC hsh, fW2 hsh hT, fD hsh hT.2.2.1, Nat.le_refl]
    exact k
end
