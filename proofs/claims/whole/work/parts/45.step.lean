/-! One step, both sides; what stays so of a state. -/
theorem bxor_b : ∀ a, a < 64 → ∀ k, k < 6 → ∀ i, i < 6 → bt (a ^^^ 2 ^ k) i = if i = k then 1 - bt a k else bt a i := by decide +kernel
theorem badd_b : ∀ a, a < 64 → ∀ k, k < 6 → bt a k = 0 → ∀ i, i < 6 → bt (a + 2 ^ k) i = if i = k then 1 else bt a i := by decide +kernel
theorem bsub_b : ∀ a, a < 64 → ∀ k, k < 6 → bt a k = 1 → ∀ i, i < 6 → bt (a - 2 ^ k) i = if i = k then 0 else bt a i := by decide +kernel
theorem badd_lt : ∀ B, B < 7 → ∀ a, a < 2 ^ B → ∀ k, k < B → bt a k = 0 → a + 2 ^ k < 2 ^ B := by decide +kernel
theorem bxor_lt : ∀ B, B < 7 → ∀ a, a < 2 ^ B → ∀ k, k < B → a ^^^ 2 ^ k < 2 ^ B := by decide +kernel
theorem sPull_M_le (δ : Dt) (Λ : List Tok) (σ : St) (b j : Nat) (h : ∀ i, sM σ i ≤ 999) (i : Nat) : sM (sPl δ Λ σ b j) i ≤ 999 := by
  simp only [sPl, mkS, sM]
  split
  · exact Nat.min_le_left _ _
  · exact h i
theorem vS_pull {δ : Dt} {Λ : List Tok} {σ : St} {b : Nat} (hv : vS (dB δ) (dH δ) σ) (hb : b < dB δ) : vS (dB δ) (dH δ) (stPull δ Λ σ b).2 := by
  unfold stPull
  split
  · obtain ⟨v0, v1, v2, v3, v4, v5, v6, v7⟩ := hv
    refine ⟨v0, v1, v2, v3, v4, ?_, ?_, ?_⟩
    · exact sPull_M_le δ Λ σ b _ v5
    · intro c hc
      show up1 (sP σ) b (sP σ b + 1) c = 0
      rw [up1_o _ _ (by omega)]
      exact v6 c hc
    · intro j hj
      show sM (sPl δ Λ σ b (dH δ)) j = 0
      simp only [sPl, mkS, sM]
      rw [if_neg (by omega)]
      exact v7 j hj
  · exact hv
theorem vS_pass {B H : Nat} {σ : St} (hv : vS B H σ) (hh : sH σ < 2000) : vS B H (sPass σ) := by
  obtain ⟨v0, v1, v2, v3, v4, v5, v6, v7⟩ := hv
  refine ⟨?_, v1, v2, v3, v4, ?_, v6, ?_⟩
  · show sH σ + 1 ≤ 2000; omega
  · intro j
    show sM σ j - sM σ j / 4 - 1 ≤ 999
    have := v5 j
    omega
  · intro j hj
    show sM σ j - sM σ j / 4 - 1 = 0
    have := v7 j hj
    omega
/-- what a step's number must be -/
def okN (δ : Dt) (k n : Nat) : Prop := k ≤ 6 ∧ (k ≤ 4 → n < dB δ) ∧ (k = 5 → n ≤ 9)
theorem vS_doS {δ : Dt} {Λ : List Tok} {σ : St} {k n : Nat} (hB : dB δ ≤ 6) (hv : vS (dB δ) (dH δ) σ) (hn : okN δ k n) : vS (dB δ) (dH δ) (doS δ Λ σ k n).2 := by
  obtain ⟨n1, n2, n3⟩ := hn
  have hv0 := hv
  obtain ⟨v0, v1, v2, v3, v4, v5, v6, v7⟩ := hv
  have hk : k = 0 ∨ k = 1 ∨ k = 2 ∨ k = 3 ∨ k = 4 ∨ k = 5 ∨ k = 6 := by omega
  rcases hk with rfl | rfl | rfl | rfl | rfl | rfl | rfl
  · exact vS_pull hv0 (n2 (by decide))
  · show vS _ _ (stCrack σ n).2
    unfold stCrack
    split
    · exact hv0
    · rename_i h
      refine ⟨v0, v1, v2, v3, ?_, v5, v6, v7⟩
      intro b
      show up1 (sC σ) n (sC σ n + 1) b ≤ 3
      unfold up1
      split
      · omega
      · exact v4 b
  · show vS _ _ (stGag σ n).2
    unfold stGag
    split
    · exact hv0
    · exact ⟨v0, v1, bxor_lt _ (by omega) _ v2 n (n2 (by decide)), v3, v4, v5, v6, v7⟩
  · show vS _ _ (stSteal σ n).2
    unfold stSteal
    split
    · exact hv0
    · rename_i h
      have := bt_01 (sT σ) n
      exact ⟨v0, v1, v2, badd_lt _ (by omega) _ v3 n (n2 (by decide)) (by omega), v4, v5, v6, v7⟩
  · show vS _ _ (stBring σ n).2
    unfold stBring
    split
    · exact ⟨v0, v1, v2, Nat.lt_of_le_of_lt (Nat.sub_le _ _) v3, v4, v5, v6, v7⟩
    · exact hv0
  · show vS _ _ (stDamp σ n).2
    unfold stDamp
    split
    · exact hv0
    · exact ⟨v0, n3 rfl, v2, v3, v4, v5, v6, v7⟩
  · show vS _ _ (stHour σ).2
    unfold stHour
    split
    · exact hv0
    · exact vS_pass hv0 (by omega)
theorem sH_doS {δ : Dt} {Λ : List Tok} {σ : St} {k n : Nat} (h : sH σ ≤ 900) (hk : k ≤ 6) : sH (doS δ Λ σ k n).2 ≤ 900 := by
  have hk : k = 0 ∨ k = 1 ∨ k = 2 ∨ k = 3 ∨ k = 4 ∨ k = 5 ∨ k = 6 := by omega
  rcases hk with rfl | rfl | rfl | rfl | rfl | rfl | rfl
  · show sH (stPull δ Λ σ n).2 ≤ 900
    unfold stPull; split <;> exact h
  · show sH (stCrack σ n).2 ≤ 900
    unfold stCrack; split <;> exact h
  · show sH (stGag σ n).2 ≤ 900
    unfold stGag; split <;> exact h
  · show sH (stSteal σ n).2 ≤ 900
    unfold stSteal; split <;> exact h
  · show sH (stBring σ n).2 ≤ 900
    unfold stBring; split <;> exact h
  · show sH (stDamp σ n).2 ≤ 900
    unfold stDamp; split <;> exact h
  · show sH (stHour σ).2 ≤ 900
    unfold stHour
    split
    · exact h
    · show sH σ + 1 ≤ 900; omega
theorem doS_01 (δ : Dt) (Λ : List Tok) (σ : St) (k n : Nat) : (doS δ Λ σ k n).1 = 0 ∨ (doS δ Λ σ k n).1 = 1 := by
  unfold doS stPull stCrack stGag stSteal stBring stDamp stHour
  repeat' split
  all_goals first | exact Or.inl rfl | exact Or.inr rfl
theorem nb01 {n : Nat} (h : n = 0 ∨ n = 1) : am_nb 5 (wn n) := by
  rcases h with rfl | rfl
  · exact Or.inl rfl
  · exact Or.inr rfl
section
variable {G : am_G} {d : Nat} {post : am_O → am_G → Prop} {s q l b h m r : Nat} {σ : St} {δ : Dt} {Λ : List Tok}
theorem ct86 {k n : Nat} (hsh : Sh G) (hT : Tw G q l δ Λ) (hs : s ∈ sts) (hr : rS G s σ) (hv : vS (dB δ) (dH δ) σ) (hn : okN δ k n) (kk : ∀ G', rS G' s (doS δ Λ σ k n).2 → Kp (PS s) G G' → post (.inl (some (.int (wn (doS δ Λ σ k n).1)))) G') : am_C am_T (d + 6) 86 [.ref 3, .ref s, .int (wn k), .int (wn n)] G post := by
  have hc := am_C_one am_T (d + 5)
  have h01 := nb01 (doS_01 δ Λ σ k n)
  have hB := hT.2.2.2.2.2.1.1
  have hg := hv.g6 hB
  have ht := hv.t6 hB
  obtain ⟨n1, n2, n3⟩ := hn
  rw [we86, wb86_0 hc]
  simp only [am_swc_iff]
  have hk : k = 0 ∨ k = 1 ∨ k = 2 ∨ k = 3 ∨ k = 4 ∨ k = 5 ∨ k = 6 := by omega
  rcases hk with rfl | rfl | rfl | rfl | rfl | rfl | rfl
  · rw [show am_swt (wn 0) 0 [40, 47, 53, 59, 65, 71] 77 = 40 from by decide +kernel, wb86_40 hc]
    refine ⟨i3 hsh, ct85 hsh hT hs hr (n2 (by decide)) hv (fun G' h1 h2 => ?_)⟩
    simp +decide (disch := omega) only [↓wm1, wb86_46 hc, w0, w1, rI_wI, rP_wI, rL_wI, rI_wR, rP_wR, is_wI, is_wR, ia_wI, ia_wR, ow_wI, ow_wR, wn_add, wn_mul, wn_cl, wn_le, wn_lt, wn_inj, wn_ne1, wn_1ne, wn_gt1, wn_le1, nb0, nb1, am_kt, am_rt, List.cons_append, List.nil_append, true_and, and_true, not_true_eq_false, not_false_eq_true, imp_f, imp_t, implies_true, Nat.zero_add, if_true, if_false]
    exact ⟨h01, kk G' h1 h2⟩
  · have := n2 (by decide)
    rw [show am_swt (wn 1) 0 [40, 47, 53, 59, 65, 71] 77 = 47 from by decide +kernel, wb86_47 hc]
    refine ⟨iS hsh hs, ct50 hsh hs hr ht (by omega) (hv.2.2.2.2.1 n) (fun G' h1 h2 => ?_)⟩
    simp +decide (disch := omega) only [↓wm1, wb86_52 hc, w0, w1, rI_wI, rP_wI, rL_wI, rI_wR, rP_wR, is_wI, is_wR, ia_wI, ia_wR, ow_wI, ow_wR, wn_add, wn_mul, wn_cl, wn_le, wn_lt, wn_inj, wn_ne1, wn_1ne, wn_gt1, wn_le1, nb0, nb1, am_kt, am_rt, List.cons_append, List.nil_append, true_and, and_true, not_true_eq_false, not_false_eq_true, imp_f, imp_t, implies_true, Nat.zero_add, if_true, if_false]
    exact ⟨h01, kk G' h1 h2.scs⟩
  · have := n2 (by decide)
    rw [show am_swt (wn 2) 0 [40, 47, 53, 59, 65, 71] 77 = 53 from by decide +kernel, wb86_53 hc]
    refine ⟨iS hsh hs, ct51 hsh hs hr hg ht (by omega) (fun G' h1 h2 => ?_)⟩
    simp +decide (disch := omega) only [↓wm1, wb86_58 hc, w0, w1, rI_wI, rP_wI, rL_wI, rI_wR, rP_wR, is_wI, is_wR, ia_wI, ia_wR, ow_wI, ow_wR, wn_add, wn_mul, wn_cl, wn_le, wn_lt, wn_inj, wn_ne1, wn_1ne, wn_gt1, wn_le1, nb0, nb1, am_kt, am_rt, List.cons_append, List.nil_append, true_and, and_true, not_true_eq_false, not_false_eq_true, imp_f, imp_t, implies_true, Nat.zero_add, if_true, if_false]
    exact ⟨h01, kk G' h1 h2.scs⟩
  · have := n2 (by decide)
    rw [show am_swt (wn 3) 0 [40, 47, 53, 59, 65, 71] 77 = 59 from by decide +kernel, wb86_59 hc]
    refine ⟨iS hsh hs, ct52 hsh hs hr ht (by omega) (fun G' h1 h2 => ?_)⟩
    simp +decide (disch := omega) only [↓wm1, wb86_64 hc, w0, w1, rI_wI, rP_wI, rL_wI, rI_wR, rP_wR, is_wI, is_wR, ia_wI, ia_wR, ow_wI, ow_wR, wn_add, wn_mul, wn_cl, wn_le, wn_lt, wn_inj, wn_ne1, wn_1ne, wn_gt1, wn_le1, nb0, nb1, am_kt, am_rt, List.cons_append, List.nil_append, true_and, and_true, not_true_eq_false, not_false_eq_true, imp_f, imp_t, implies_true, Nat.zero_add, if_true, if_false]
    exact ⟨h01, kk G' h1 h2.scs⟩
  · have := n2 (by decide)
    rw [show am_swt (wn 4) 0 [40, 47, 53, 59, 65, 71] 77 = 65 from by decide +kernel, wb86_65 hc]
    refine ⟨iS hsh hs, ct53 hsh hs hr ht (by omega) (fun G' h1 h2 => ?_)⟩
    simp +decide (disch := omega) only [↓wm1, wb86_70 hc, w0, w1, rI_wI, rP_wI, rL_wI, rI_wR, rP_wR, is_wI, is_wR, ia_wI, ia_wR, ow_wI, ow_wR, wn_add, wn_mul, wn_cl, wn_le, wn_lt, wn_inj, wn_ne1, wn_1ne, wn_gt1, wn_le1, nb0, nb1, am_kt, am_rt, List.cons_append, List.nil_append, true_and, and_true, not_true_eq_false, not_false_eq_true, imp_f, imp_t, implies_true, Nat.zero_add, if_true, if_false]
    exact ⟨h01, kk G' h1 h2.scs⟩
  · rw [show am_swt (wn 5) 0 [40, 47, 53, 59, 65, 71] 77 = 71 from by decide +kernel, wb86_71 hc]
    refine ⟨iS hsh hs, ct54 hsh hs hr hv.2.1 (n3 rfl) (fun G' h1 h2 => ?_)⟩
    simp +decide (disch := omega) only [↓wm1, wb86_76 hc, w0, w1, rI_wI, rP_wI, rL_wI, rI_wR, rP_wR, is_wI, is_wR, ia_wI, ia_wR, ow_wI, ow_wR, wn_add, wn_mul, wn_cl, wn_le, wn_lt, wn_inj, wn_ne1, wn_1ne, wn_gt1, wn_le1, nb0, nb1, am_kt, am_rt, List.cons_append, List.nil_append, true_and, and_true, not_true_eq_false, not_false_eq_true, imp_f, imp_t, implies_true, Nat.zero_add, if_true, if_false]
    exact ⟨h01, kk G' h1 h2.scs⟩
  · rw [show am_swt (wn 6) 0 [40, 47, 53, 59, 65, 71] 77 = 77 from by decide +kernel, wb86_77 hc]
    refine ⟨iS hsh hs, ct56 hsh hs hr hv.2.2.2.2.2.1 hv.1 (fun G' h1 h2 => ?_)⟩
    simp +decide (disch := omega) only [↓wm1, wb86_81 hc, w0, w1, rI_wI, rP_wI, rL_wI, rI_wR, rP_wR, is_wI, is_wR, ia_wI, ia_wR, ow_wI, ow_wR, wn_add, wn_mul, wn_cl, wn_le, wn_lt, wn_inj, wn_ne1, wn_1ne, wn_gt1, wn_le1, nb0, nb1, am_kt, am_rt, List.cons_append, List.nil_append, true_and, and_true, not_true_eq_false, not_false_eq_true, imp_f, imp_t, implies_true, Nat.zero_add, if_true, if_false]
    exact ⟨h01, kk G' h1 h2.scs⟩
/-- one place of a row changed -/
theorem ent_C (σ : St) {b v : Nat} (hb : b < 6) : ∀ j, j < 96 → ent (mkS (sH σ) (sD σ) (sG σ) (sT σ) (up1 (sC σ) b v) (sP σ) (sM σ)) j = if j = b then v else ent σ j := by
  intro j hj
  unfold ent
  simp only [mkS, sH, sD, sG, sT, sC, sP, sM, up1]
  by_cases h : j < 6
  · simp only [h, if_true]
  · simp only [h, if_false, show ¬ j = b by omega]
theorem ent_G (σ : St) {b g : Nat} (v : Nat) (hb : b < 6) (he : ∀ i, i < 6 → bt g i = if i = b then v else bt (sG σ) i) : ∀ j, j < 96 → ent (mkS (sH σ) (sD σ) g (sT σ) (sC σ) (sP σ) (sM σ)) j = if j = 6 + b then v else ent σ j := by
  intro j hj
  unfold ent
  simp only [mkS, sH, sD, sG, sT, sC, sP, sM] at he ⊢
  by_cases h : j < 6
  · simp only [h, if_true, show ¬ j = 6 + b by omega, if_false]
  · by_cases h2 : j < 12
    · simp only [h, h2, if_true, if_false]
      rw [he (j - 6) (by omega)]
      by_cases e : j = 6 + b
      · rw [if_pos e, if_pos (by omega)]
      · rw [if_neg e, if_neg (by omega)]
    · simp only [h, h2, if_false, show ¬ j = 6 + b by omega]
theorem ent_T (σ : St) {b g : Nat} (v : Nat) (hb : b < 6) (he : ∀ i, i < 6 → bt g i = if i = b then v else bt (sT σ) i) : ∀ j, j < 96 → ent (mkS (sH σ) (sD σ) (sG σ) g (sC σ) (sP σ) (sM σ)) j = if j = 12 + b then v else ent σ j := by
  intro j hj
  unfold ent
  simp only [mkS, sH, sD, sG, sT, sC, sP, sM] at he ⊢
  by_cases h : j < 6
  · simp only [h, if_true, show ¬ j = 12 + b by omega, if_false]
  · by_cases h2 : j < 12
    · simp only [h, h2, if_true, if_false, show ¬ j = 12 + b by omega]
    · by_cases h3 : j < 18
      · simp only [h, h2, h3, if_true, if_false]
        rw [he (j - 12) (by omega)]
        by_cases e : j = 12 + b
        · rw [if_pos e, if_pos (by omega)]
        · rw [if_neg e, if_neg (by omega)]
      · simp only [h, h2, h3, if_false, show ¬ j = 12 + b by omega]
theorem ent_D (σ : St) (v : Nat) : ∀ j, j < 96 → ent (mkS (sH σ) v (sG σ) (sT σ) (sC σ) (sP σ) (sM σ)) j = if j = 94 then v else ent σ j := by
  intro j hj
  unfold ent
  simp only [mkS, sH, sD, sG, sT, sC, sP, sM]
  by_cases h : j < 94
  · simp only [h, if_true, show ¬ j = 94 by omega, if_false]
  · have : ¬ j < 6 := by omega
    have : ¬ j < 12 := by omega
    have : ¬ j < 18 := by omega
    have : ¬ j < 24 := by omega
    simp only [*, if_false]
    by_cases e : j = 94
    · simp only [e, if_true]
    · simp only [e, if_false]
theorem ct203 {k n w : Nat} (hsh : Sh G) (hT : Tm G δ Λ) (hrr : r ∈ rws) (hr : rW G r 0 σ) (hv : vS (dB δ) (dH δ) σ) (hn : okN δ k n) (hw : w < 80) (e0 : am_gI G (728 + w) 0 = wn k) (e1 : am_gI G (728 + w) 1 = wn n) (kk : ∀ G', rW G' r 0 (doS δ Λ σ k n).2 → Kp (PM r) G G' → post (.inl (some (.int (wn (doS δ Λ σ k n).1)))) G') : am_C am_T (d + 8) 203 [.ref 334, .ref r, .ref (728 + w)] G post := by
  have hc := am_C_one am_T (d + 7)
  have h01 := nb01 (doS_01 δ Λ σ k n)
  have hB := hT.2.1.1
  have hg := hv.g6 hB
  have ht := hv.t6 hB
  have f := fW hr
  have hk0 : Kp (PM r) G G := Kp.refl G
  obtain ⟨n1, n2, n3⟩ := hn
  rw [we203]
  simp +decide (disch := omega) only [↓wm1, wb203_0 hc, w0, w1, w3, w6, w12, w94, w95, w900, rI_wI, rP_wI, rL_wI, rI_wR, rP_wR, is_wI, is_wR, ia_wI, ia_wR, ow_wI, ow_wR, wn_add, wn_mul, wn_cl, wn_le, wn_lt, wn_inj, wn_ne1, wn_1ne, wn_gt1, wn_le1, nb0, nb1, am_kt, am_rt, List.cons_append, List.nil_append, true_and, and_true, not_true_eq_false, not_false_eq_true, imp_f, imp_t, implies_true, Nat.zero_add, if_true, if_false, fr727 hsh, e0, e1]
  simp only [am_swc_iff]
  have hk : k = 0 ∨ k = 1 ∨ k = 2 ∨ k = 3 ∨ k = 4 ∨ k = 5 ∨ k = 6 := by omega
  rcases hk with rfl | rfl | rfl | rfl | rfl | rfl | rfl
  · rw [show am_swt (wn 0) (wn 0) [44, 51, 87, 121, 131, 141] 149 = 44 from by decide +kernel, wb203_44 hc]
    refine ⟨i334 hsh, ct200 hsh hT hrr hr (n2 (by decide)) hv (fun G' h1 h2 => ?_)⟩
    simp +decide (disch := omega) only [↓wm1, wb203_50 hc, w0, w1, w3, w6, w12, w94, w95, w900, rI_wI, rP_wI, rL_wI, rI_wR, rP_wR, is_wI, is_wR, ia_wI, ia_wR, ow_wI, ow_wR, wn_add, wn_mul, wn_cl, wn_le, wn_lt, wn_inj, wn_ne1, wn_1ne, wn_gt1, wn_le1, nb0, nb1, am_kt, am_rt, List.cons_append, List.nil_append, true_and, and_true, not_true_eq_false, not_false_eq_true, imp_f, imp_t, implies_true, Nat.zero_add, if_true, if_false]
    exact ⟨h01, kk G' h1 h2⟩
  · have hn6 : n < 6 := by have := n2 (by decide); omega
    have b1 := bt_01 (sT σ) n
    have b2 := hv.2.2.2.2.1 n
    rw [show am_swt (wn 1) (wn 0) [44, 51, 87, 121, 131, 141] 149 = 51 from by decide +kernel]
    change ∀ G', rW G' r 0 (stCrack σ n).2 → Kp (PM r) G G' → post (.inl (some (.int (wn (stCrack σ n).1)))) G' at kk
    unfold stCrack at kk
    by_cases c1 : bt (sT σ) n = 1
    · rw [if_pos (Or.inl c1)] at kk
      simp +decide (disch := omega) only [↓wm1, wb203_0 hc, wb203_44 hc, wb203_50 hc, wb203_51 hc, wb203_60 hc, wb203_75 hc, wb203_78 hc, wb203_81 hc, wb203_85 hc, wb203_86 hc, wb203_87 hc, wb203_96 hc, wb203_112 hc, wb203_115 hc, wb203_119 hc, wb203_120 hc, wb203_121 hc, wb203_130 hc, wb203_131 hc, wb203_140 hc, wb203_141 hc, wb203_148 hc, wb203_149 hc, wb203_159 hc, wb203_161 hc, wb203_165 hc, w0, w1, w3, w6, w12, w94, w95, w900, rI_wI, rP_wI, rL_wI, rI_wR, rP_wR, is_wI, is_wR, ia_wI, ia_wR, ow_wI, ow_wR, wn_add, wn_mul, wn_cl, wn_le, wn_lt, wn_inj, wn_ne1, wn_1ne, wn_gt1, wn_le1, nb0, nb1, am_kt, am_rt, List.cons_append, List.nil_append, true_and, and_true, not_true_eq_false, not_false_eq_true, imp_f, imp_t, implies_true, Nat.zero_add, if_true, if_false, fR hsh hrr, f.2.2.1, c1]
      exact kk G hr hk0
    · have c0 : bt (sT σ) n = 0 := by omega
      by_cases c2 : 3 ≤ sC σ n
      · rw [if_pos (Or.inr c2)] at kk
        have c3 : sC σ n = 3 := by omega
        simp +decide (disch := omega) only [↓wm1, wb203_0 hc, wb203_44 hc, wb203_50 hc, wb203_51 hc, wb203_60 hc, wb203_75 hc, wb203_78 hc, wb203_81 hc, wb203_85 hc, wb203_86 hc, wb203_87 hc, wb203_96 hc, wb203_112 hc, wb203_115 hc, wb203_119 hc, wb203_120 hc, wb203_121 hc, wb203_130 hc, wb203_131 hc, wb203_140 hc, wb203_141 hc, wb203_148 hc, wb203_149 hc, wb203_159 hc, wb203_161 hc, wb203_165 hc, w0, w1, w3, w6, w12, w94, w95, w900, rI_wI, rP_wI, rL_wI, rI_wR, rP_wR, is_wI, is_wR, ia_wI, ia_wR, ow_wI, ow_wR, wn_add, wn_mul, wn_cl, wn_le, wn_lt, wn_inj, wn_ne1, wn_1ne, wn_gt1, wn_le1, nb0, nb1, am_kt, am_rt, List.cons_append, List.nil_append, true_and, and_true, not_true_eq_false, not_false_eq_true, imp_f, imp_t, implies_true, Nat.zero_add, if_true, if_false, fR hsh hrr, f.2.2.1, f.1, c0, c3, ct154n, ct202 hsh hrr, if_true, show min 3 (3 + 1) = 3 from rfl]
        exact kk G hr hk0
      · rw [if_neg (by omega)] at kk
        have c3 : min 3 (sC σ n + 1) = sC σ n + 1 := by omega
        have c4 : ¬ sC σ n = sC σ n + 1 := by omega
        simp +decide (disch := omega) only [↓wm1, wb203_0 hc, wb203_44 hc, wb203_50 hc, wb203_51 hc, wb203_60 hc, wb203_75 hc, wb203_78 hc, wb203_81 hc, wb203_85 hc, wb203_86 hc, wb203_87 hc, wb203_96 hc, wb203_112 hc, wb203_115 hc, wb203_119 hc, wb203_120 hc, wb203_121 hc, wb203_130 hc, wb203_131 hc, wb203_140 hc, wb203_141 hc, wb203_148 hc, wb203_149 hc, wb203_159 hc, wb203_161 hc, wb203_165 hc, w0, w1, w3, w6, w12, w94, w95, w900, rI_wI, rP_wI, rL_wI, rI_wR, rP_wR, is_wI, is_wR, ia_wI, ia_wR, ow_wI, ow_wR, wn_add, wn_mul, wn_cl, wn_le, wn_lt, wn_inj, wn_ne1, wn_1ne, wn_gt1, wn_le1, nb0, nb1, am_kt, am_rt, List.cons_append, List.nil_append, true_and, and_true, not_true_eq_false, not_false_eq_true, imp_f, imp_t, implies_true, Nat.zero_add, if_true, if_false, fR hsh hrr, f.2.2.1, f.1, c0, ct154n, c3, c4, ct202 hsh hrr, if_false]
        exact kk _ (hr.w (ent_C σ hn6)) (hk0.wI (by exact Or.inr rfl) _)
  · have hn6 : n < 6 := by have := n2 (by decide); omega
    have b1 := bt_01 (sT σ) n
    have b2 := bt_01 (sG σ) n
    rw [show am_swt (wn 2) (wn 0) [44, 51, 87, 121, 131, 141] 149 = 87 from by decide +kernel]
    change ∀ G', rW G' r 0 (stGag σ n).2 → Kp (PM r) G G' → post (.inl (some (.int (wn (stGag σ n).1)))) G' at kk
    unfold stGag at kk
    by_cases c1 : bt (sT σ) n = 1
    · rw [if_pos c1] at kk
      simp +decide (disch := omega) only [↓wm1, wb203_0 hc, wb203_44 hc, wb203_50 hc, wb203_51 hc, wb203_60 hc, wb203_75 hc, wb203_78 hc, wb203_81 hc, wb203_85 hc, wb203_86 hc, wb203_87 hc, wb203_96 hc, wb203_112 hc, wb203_115 hc, wb203_119 hc, wb203_120 hc, wb203_121 hc, wb203_130 hc, wb203_131 hc, wb203_140 hc, wb203_141 hc, wb203_148 hc, wb203_149 hc, wb203_159 hc, wb203_161 hc, wb203_165 hc, w0, w1, w3, w6, w12, w94, w95, w900, rI_wI, rP_wI, rL_wI, rI_wR, rP_wR, is_wI, is_wR, ia_wI, ia_wR, ow_wI, ow_wR, wn_add, wn_mul, wn_cl, wn_le, wn_lt, wn_inj, wn_ne1, wn_1ne, wn_gt1, wn_le1, nb0, nb1, am_kt, am_rt, List.cons_append, List.nil_append, true_and, and_true, not_true_eq_false, not_false_eq_true, imp_f, imp_t, implies_true, Nat.zero_add, if_true, if_false, fR hsh hrr, f.2.2.1, c1]
      exact kk G hr hk0
    · have c0 : bt (sT σ) n = 0 := by omega
      rw [if_neg c1] at kk
      have c4 : ¬ bt (sG σ) n = 1 - bt (sG σ) n := by omega
      simp +decide (disch := omega) only [↓wm1, wb203_0 hc, wb203_44 hc, wb203_50 hc, wb203_51 hc, wb203_60 hc, wb203_75 hc, wb203_78 hc, wb203_81 hc, wb203_85 hc, wb203_86 hc, wb203_87 hc, wb203_96 hc, wb203_112 hc, wb203_115 hc, wb203_119 hc, wb203_120 hc, wb203_121 hc, wb203_130 hc, wb203_131 hc, wb203_140 hc, wb203_141 hc, wb203_148 hc, wb203_149 hc, wb203_159 hc, wb203_161 hc, wb203_165 hc, w0, w1, w3, w6, w12, w94, w95, w900, rI_wI, rP_wI, rL_wI, rI_wR, rP_wR, is_wI, is_wR, ia_wI, ia_wR, ow_wI, ow_wR, wn_add, wn_mul, wn_cl, wn_le, wn_lt, wn_inj, wn_ne1, wn_1ne, wn_gt1, wn_le1, nb0, nb1, am_kt, am_rt, List.cons_append, List.nil_append, true_and, and_true, not_true_eq_false, not_false_eq_true, imp_f, imp_t, implies_true, Nat.zero_add, if_true, if_false, fR hsh hrr, f.2.2.1, f.2.1, c0, c4, wn_sub, ct202 hsh hrr, if_false]
      exact kk _ (hr.w (ent_G σ (1 - bt (sG σ) n) hn6 (bxor_b _ hg n hn6))) (hk0.wI (by exact Or.inr rfl) _)
  · have hn6 : n < 6 := by have := n2 (by decide); omega
    have b1 := bt_01 (sT σ) n
    rw [show am_swt (wn 3) (wn 0) [44, 51, 87, 121, 131, 141] 149 = 121 from by decide +kernel]
    change ∀ G', rW G' r 0 (stSteal σ n).2 → Kp (PM r) G G' → post (.inl (some (.int (wn (stSteal σ n).1)))) G' at kk
    unfold stSteal at kk
    by_cases c1 : bt (sT σ) n = 1
    · rw [if_pos c1] at kk
      simp +decide (disch := omega) only [↓wm1, wb203_0 hc, wb203_44 hc, wb203_50 hc, wb203_51 hc, wb203_60 hc, wb203_75 hc, wb203_78 hc, wb203_81 hc, wb203_85 hc, wb203_86 hc, wb203_87 hc, wb203_96 hc, wb203_112 hc, wb203_115 hc, wb203_119 hc, wb203_120 hc, wb203_121 hc, wb203_130 hc, wb203_131 hc, wb203_140 hc, wb203_141 hc, wb203_148 hc, wb203_149 hc, wb203_159 hc, wb203_161 hc, wb203_165 hc, w0, w1, w3, w6, w12, w94, w95, w900, rI_wI, rP_wI, rL_wI, rI_wR, rP_wR, is_wI, is_wR, ia_wI, ia_wR, ow_wI, ow_wR, wn_add, wn_mul, wn_cl, wn_le, wn_lt, wn_inj, wn_ne1, wn_1ne, wn_gt1, wn_le1, nb0, nb1, am_kt, am_rt, List.cons_append, List.nil_append, true_and, and_true, not_true_eq_false, not_false_eq_true, imp_f, imp_t, implies_true, Nat.zero_add, if_true, if_false, fR hsh hrr, f.2.2.1, c1, ct202 hsh hrr, if_true]
      exact kk G hr hk0
    · have c0 : bt (sT σ) n = 0 := by omega
      rw [if_neg c1] at kk
      simp +decide (disch := omega) only [↓wm1, wb203_0 hc, wb203_44 hc, wb203_50 hc, wb203_51 hc, wb203_60 hc, wb203_75 hc, wb203_78 hc, wb203_81 hc, wb203_85 hc, wb203_86 hc, wb203_87 hc, wb203_96 hc, wb203_112 hc, wb203_115 hc, wb203_119 hc, wb203_120 hc, wb203_121 hc, wb203_130 hc, wb203_131 hc, wb203_140 hc, wb203_141 hc, wb203_148 hc, wb203_149 hc, wb203_159 hc, wb203_161 hc, wb203_165 hc, w0, w1, w3, w6, w12, w94, w95, w900, rI_wI, rP_wI, rL_wI, rI_wR, rP_wR, is_wI, is_wR, ia_wI, ia_wR, ow_wI, ow_wR, wn_add, wn_mul, wn_cl, wn_le, wn_lt, wn_inj, wn_ne1, wn_1ne, wn_gt1, wn_le1, nb0, nb1, am_kt, am_rt, List.cons_append, List.nil_append, true_and, and_true, not_true_eq_false, not_false_eq_true, imp_f, imp_t, implies_true, Nat.zero_add, if_true, if_false, fR hsh hrr, f.2.2.1, c0, ct202 hsh hrr, if_false]
      exact kk _ (hr.w (ent_T σ 1 hn6 (badd_b _ ht n hn6 c0))) (hk0.wI (by exact Or.inr rfl) _)
  · have hn6 : n < 6 := by have := n2 (by decide); omega
    have b1 := bt_01 (sT σ) n
    rw [show am_swt (wn 4) (wn 0) [44, 51, 87, 121, 131, 141] 149 = 131 from by decide +kernel]
    change ∀ G', rW G' r 0 (stBring σ n).2 → Kp (PM r) G G' → post (.inl (some (.int (wn (stBring σ n).1)))) G' at kk
    unfold stBring at kk
    by_cases c1 : bt (sT σ) n = 1
    · rw [if_pos c1] at kk
      simp +decide (disch := omega) only [↓wm1, wb203_0 hc, wb203_44 hc, wb203_50 hc, wb203_51 hc, wb203_60 hc, wb203_75 hc, wb203_78 hc, wb203_81 hc, wb203_85 hc, wb203_86 hc, wb203_87 hc, wb203_96 hc, wb203_112 hc, wb203_115 hc, wb203_119 hc, wb203_120 hc, wb203_121 hc, wb203_130 hc, wb203_131 hc, wb203_140 hc, wb203_141 hc, wb203_148 hc, wb203_149 hc, wb203_159 hc, wb203_161 hc, wb203_165 hc, w0, w1, w3, w6, w12, w94, w95, w900, rI_wI, rP_wI, rL_wI, rI_wR, rP_wR, is_wI, is_wR, ia_wI, ia_wR, ow_wI, ow_wR, wn_add, wn_mul, wn_cl, wn_le, wn_lt, wn_inj, wn_ne1, wn_1ne, wn_gt1, wn_le1, nb0, nb1, am_kt, am_rt, List.cons_append, List.nil_append, true_and, and_true, not_true_eq_false, not_false_eq_true, imp_f, imp_t, implies_true, Nat.zero_add, if_true, if_false, fR hsh hrr, f.2.2.1, c1, ct202 hsh hrr, if_false]
      exact kk _ (hr.w (ent_T σ 0 hn6 (bsub_b _ ht n hn6 c1))) (hk0.wI (by exact Or.inr rfl) _)
    · have c0 : bt (sT σ) n = 0 := by omega
      rw [if_neg c1] at kk
      simp +decide (disch := omega) only [↓wm1, wb203_0 hc, wb203_44 hc, wb203_50 hc, wb203_51 hc, wb203_60 hc, wb203_75 hc, wb203_78 hc, wb203_81 hc, wb203_85 hc, wb203_86 hc, wb203_87 hc, wb203_96 hc, wb203_112 hc, wb203_115 hc, wb203_119 hc, wb203_120 hc, wb203_121 hc, wb203_130 hc, wb203_131 hc, wb203_140 hc, wb203_141 hc, wb203_148 hc, wb203_149 hc, wb203_159 hc, wb203_161 hc, wb203_165 hc, w0, w1, w3, w6, w12, w94, w95, w900, rI_wI, rP_wI, rL_wI, rI_wR, rP_wR, is_wI, is_wR, ia_wI, ia_wR, ow_wI, ow_wR, wn_add, wn_mul, wn_cl, wn_le, wn_lt, wn_inj, wn_ne1, wn_1ne, wn_gt1, wn_le1, nb0, nb1, am_kt, am_rt, List.cons_append, List.nil_append, true_and, and_true, not_true_eq_false, not_false_eq_true, imp_f, imp_t, implies_true, Nat.zero_add, if_true, if_false, fR hsh hrr, f.2.2.1, c0, ct202 hsh hrr, if_true]
      exact kk G hr hk0
  · have hn9 := n3 rfl
    have b2 := hv.2.1
    rw [show am_swt (wn 5) (wn 0) [44, 51, 87, 121, 131, 141] 149 = 141 from by decide +kernel]
    change ∀ G', rW G' r 0 (stDamp σ n).2 → Kp (PM r) G G' → post (.inl (some (.int (wn (stDamp σ n).1)))) G' at kk
    unfold stDamp at kk
    by_cases c1 : sD σ = n
    · rw [if_pos c1] at kk
      simp +decide (disch := omega) only [↓wm1, wb203_0 hc, wb203_44 hc, wb203_50 hc, wb203_51 hc, wb203_60 hc, wb203_75 hc, wb203_78 hc, wb203_81 hc, wb203_85 hc, wb203_86 hc, wb203_87 hc, wb203_96 hc, wb203_112 hc, wb203_115 hc, wb203_119 hc, wb203_120 hc, wb203_121 hc, wb203_130 hc, wb203_131 hc, wb203_140 hc, wb203_141 hc, wb203_148 hc, wb203_149 hc, wb203_159 hc, wb203_161 hc, wb203_165 hc, w0, w1, w3, w6, w12, w94, w95, w900, rI_wI, rP_wI, rL_wI, rI_wR, rP_wR, is_wI, is_wR, ia_wI, ia_wR, ow_wI, ow_wR, wn_add, wn_mul, wn_cl, wn_le, wn_lt, wn_inj, wn_ne1, wn_1ne, wn_gt1, wn_le1, nb0, nb1, am_kt, am_rt, List.cons_append, List.nil_append, true_and, and_true, not_true_eq_false, not_false_eq_true, imp_f, imp_t, implies_true, Nat.zero_add, if_true, if_false, fR hsh hrr, f.2.2.2.2.2.1, c1, ct202 hsh hrr, if_true]
      exact kk G hr hk0
    · rw [if_neg c1] at kk
      simp +decide (disch := omega) only [↓wm1, wb203_0 hc, wb203_44 hc, wb203_50 hc, wb203_51 hc, wb203_60 hc, wb203_75 hc, wb203_78 hc, wb203_81 hc, wb203_85 hc, wb203_86 hc, wb203_87 hc, wb203_96 hc, wb203_112 hc, wb203_115 hc, wb203_119 hc, wb203_120 hc, wb203_121 hc, wb203_130 hc, wb203_131 hc, wb203_140 hc, wb203_141 hc, wb203_148 hc, wb203_149 hc, wb203_159 hc, wb203_161 hc, wb203_165 hc, w0, w1, w3, w6, w12, w94, w95, w900, rI_wI, rP_wI, rL_wI, rI_wR, rP_wR, is_wI, is_wR, ia_wI, ia_wR, ow_wI, ow_wR, wn_add, wn_mul, wn_cl, wn_le, wn_lt, wn_inj, wn_ne1, wn_1ne, wn_gt1, wn_le1, nb0, nb1, am_kt, am_rt, List.cons_append, List.nil_append, true_and, and_true, not_true_eq_false, not_false_eq_true, imp_f, imp_t, implies_true, Nat.zero_add, if_true, if_false, fR hsh hrr, f.2.2.2.2.2.1, c1, ct202 hsh hrr, if_false]
      exact kk _ (hr.w (ent_D σ n)) (hk0.wI (by exact Or.inr rfl) _)
  · have b2 := hv.1
    rw [show am_swt (wn 6) (wn 0) [44, 51, 87, 121, 131, 141] 149 = 149 from by decide +kernel]
    change ∀ G', rW G' r 0 (stHour σ).2 → Kp (PM r) G G' → post (.inl (some (.int (wn (stHour σ).1)))) G' at kk
    unfold stHour at kk
    by_cases c1 : sH σ < 900
    · rw [if_neg (by omega)] at kk
      simp +decide (disch := omega) only [↓wm1, wb203_149 hc, wb203_161 hc, w0, w1, w3, w6, w12, w94, w95, w900, rI_wI, rP_wI, rL_wI, rI_wR, rP_wR, is_wI, is_wR, ia_wI, ia_wR, ow_wI, ow_wR, wn_add, wn_mul, wn_cl, wn_le, wn_lt, wn_inj, wn_ne1, wn_1ne, wn_gt1, wn_le1, nb0, nb1, am_kt, am_rt, List.cons_append, List.nil_append, true_and, and_true, not_true_eq_false, not_false_eq_true, imp_f, imp_t, implies_true, Nat.zero_add, if_true, if_false, fR hsh hrr, f.2.2.2.2.2.2, c1]
      refine ct201 hsh hrr hr hv.2.2.2.2.2.1 (fun G' h1 h2 => ?_)
      simp +decide (disch := omega) only [↓wm1, wb203_165 hc, w0, w1, w3, w6, w12, w94, w95, w900, rI_wI, rP_wI, rL_wI, rI_wR, rP_wR, is_wI, is_wR, ia_wI, ia_wR, ow_wI, ow_wR, wn_add, wn_mul, wn_cl, wn_le, wn_lt, wn_inj, wn_ne1, wn_1ne, wn_gt1, wn_le1, nb0, nb1, am_kt, am_rt, List.cons_append, List.nil_append, true_and, and_true, not_true_eq_false, not_false_eq_true, imp_f, imp_t, implies_true, Nat.zero_add, if_true, if_false]
      exact kk G' h1 h2.rw
    · rw [if_pos (by omega)] at kk
      simp +decide (disch := omega) only [↓wm1, wb203_149 hc, wb203_159 hc, w0, w1, w3, w6, w12, w94, w95, w900, rI_wI, rP_wI, rL_wI, rI_wR, rP_wR, is_wI, is_wR, ia_wI, ia_wR, ow_wI, ow_wR, wn_add, wn_mul, wn_cl, wn_le, wn_lt, wn_inj, wn_ne1, wn_1ne, wn_gt1, wn_le1, nb0, nb1, am_kt, am_rt, List.cons_append, List.nil_append, true_and, and_true, not_true_eq_false, not_false_eq_true, imp_f, imp_t, implies_true, Nat.zero_add, if_true, if_false, fR hsh hrr, f.2.2.2.2.2.2, c1]
      exact kk G hr hk0
end
