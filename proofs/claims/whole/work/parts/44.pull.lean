/-! Pulls and steps, both sides. -/
/-- a bell pulled, the first j houses -/
def sPl (δ : Dt) (Λ : List Tok) (σ : St) (b j : Nat) : St := mkS (sH σ) (sD σ) (sG σ) (sT σ) (sC σ) (sP σ) (fun i => if i % 10 = bM δ b ∧ i / 10 < j then min 999 (sM σ i + hear δ Λ σ b (i / 10)) else sM σ i)
def sPull (δ : Dt) (Λ : List Tok) (σ : St) (b : Nat) : St := mkS (sH σ) (sD σ) (sG σ) (sT σ) (sC σ) (up1 (sP σ) b (sP σ b + 1)) (sM (sPl δ Λ σ b (dH δ)))
def stPull (δ : Dt) (Λ : List Tok) (σ : St) (b : Nat) : Nat × St := if spk σ b then (1, sPull δ Λ σ b) else (0, σ)
def doS (δ : Dt) (Λ : List Tok) (σ : St) (k n : Nat) : Nat × St := if k = 0 then stPull δ Λ σ n else if k = 1 then stCrack σ n else if k = 2 then stGag σ n else if k = 3 then stSteal σ n else if k = 4 then stBring σ n else if k = 5 then stDamp σ n else stHour σ
theorem sPl_0 (δ : Dt) (Λ : List Tok) (σ : St) (b : Nat) : sPl δ Λ σ b 0 = σ := by simp [sPl, mkS, sH, sD, sG, sT, sC, sP, sM]
theorem sPl_M (δ : Dt) (Λ : List Tok) (σ : St) (b j : Nat) (hm : bM δ b ≤ 9) : sM (sPl δ Λ σ b j) (j * 10 + bM δ b) = sM σ (j * 10 + bM δ b) := by
  have e1 : (j * 10 + bM δ b) / 10 = j := by omega
  simp [sPl, mkS, sM, e1]
theorem sPl_f (δ : Dt) (Λ : List Tok) (σ : St) (b j : Nat) (hm : bM δ b ≤ 9) : up1 (sM (sPl δ Λ σ b j)) (j * 10 + bM δ b) (min 999 (sM σ (j * 10 + bM δ b) + hear δ Λ σ b j)) = sM (sPl δ Λ σ b (j + 1)) := by
  funext i
  simp only [up1, sPl, mkS, sM]
  by_cases h : i = j * 10 + bM δ b
  · have e1 : i / 10 = j := by omega
    have e2 : i % 10 = bM δ b := by omega
    rw [if_pos h, if_pos ⟨e2, by omega⟩, e1, h]
  · rw [if_neg h]
    by_cases h2 : i % 10 = bM δ b ∧ i / 10 < j
    · rw [if_pos h2, if_pos ⟨h2.1, by omega⟩]
    · rw [if_neg h2, if_neg (by omega)]
theorem sPl_up (δ : Dt) (Λ : List Tok) (σ : St) (b j : Nat) (hm : bM δ b ≤ 9) : mkS (sH (sPl δ Λ σ b j)) (sD (sPl δ Λ σ b j)) (sG (sPl δ Λ σ b j)) (sT (sPl δ Λ σ b j)) (sC (sPl δ Λ σ b j)) (sP (sPl δ Λ σ b j)) (up1 (sM (sPl δ Λ σ b j)) (j * 10 + bM δ b) (min 999 (sM σ (j * 10 + bM δ b) + hear δ Λ σ b j))) = sPl δ Λ σ b (j + 1) := by
  rw [sPl_f δ Λ σ b j hm]
  rfl
theorem sPl_hear (δ : Dt) (Λ : List Tok) (σ : St) (b j c h : Nat) : hear δ Λ (sPl δ Λ σ b j) c h = hear δ Λ σ c h := rfl
def PS (s : Nat) : Nat → Nat → Prop := fun a _ => (a = 22 ∨ a = 25 ∨ a = 26) ∨ (s ≤ a ∧ a < s + 4)
def PM (r : Nat) : Nat → Nat → Prop := fun a _ => (a = 725 ∨ a = 726) ∨ a = r
theorem Tw.ps {G G' : am_G} {q l s : Nat} {δ : Dt} {Λ : List Tok} (h : Tw G q l δ Λ) (hs : s ∈ sts) (k : Kp (PS s) G G') : Tw G' q l δ Λ := h.kp k (by
  intro a i z
  have := sts_gt s hs
  unfold PS at z
  omega)
theorem rws_gt : ∀ r ∈ rws, 727 < r := by decide +kernel
theorem Tm.pm {G G' : am_G} {r : Nat} {δ : Dt} {Λ : List Tok} (h : Tm G δ Λ) (hr : r ∈ rws) (k : Kp (PM r) G G') : Tm G' δ Λ := h.kp k (by
  intro a i z
  have := rws_gt r hr
  unfold PM at z
  exact ⟨by omega, by omega⟩)
theorem Kp.hs {G G' : am_G} {s : Nat} (k : Kp HS G G') : Kp (PS s) G G' := k.mono (fun _ _ z => Or.inl z)
theorem Kp.scs {G G' : am_G} {s : Nat} (k : Kp (sc s) G G') : Kp (PS s) G G' := k.mono (fun _ _ z => Or.inr z)
theorem Kp.hm {G G' : am_G} {r : Nat} (k : Kp HM G G') : Kp (PM r) G G' := k.mono (fun _ _ z => Or.inl z)
theorem Kp.rw {G G' : am_G} {r : Nat} (k : Kp (fun a _ => a = r) G G') : Kp (PM r) G G' := k.mono (fun _ _ z => Or.inr z)
section
variable {G : am_G} {d : Nat} {post : am_O → am_G → Prop} {s q l b h m r : Nat} {σ : St} {δ : Dt} {Λ : List Tok}
theorem ct85 (hsh : Sh G) (hT : Tw G q l δ Λ) (hs : s ∈ sts) (hr : rS G s σ) (hb : b < dB δ) (hv : vS (dB δ) (dH δ) σ) (k : ∀ G', rS G' s (stPull δ Λ σ b).2 → Kp (PS s) G G' → post (.inl (some (.int (wn (stPull δ Λ σ b).1)))) G') : am_C am_T (d + 5) 85 [.ref 3, .ref s, .int (wn b)] G post := by
  have hc := am_C_one am_T (d + 4)
  have hvd := hT.2.2.2.2.2.1
  have hb6 : b < 6 := by have := hvd.1; omega
  have hm9 := (hvd.2.2.2.2.1 b hb).1
  have s1 := sts_gt s hs
  rw [we85]
  simp +decide (disch := omega) only [↓wm1, wb85_0 hc, w0, w1, w10, w999, rI_wI, rP_wI, rL_wI, rI_wR, rP_wR, is_wI, is_wR, ia_wI, ia_wR, ow_wI, ow_wR, wn_add, wn_mul, wn_cl, wn_le, wn_lt, wn_inj, wn_ne1, wn_1ne, wn_gt1, wn_le1, nb0, nb1, am_kt, am_rt, List.cons_append, List.nil_append, true_and, and_true, not_true_eq_false, not_false_eq_true, imp_f, imp_t, implies_true, Nat.zero_add, if_true, if_false, fS hsh hs]
  refine ct48 hsh hs hr (hv.g6 hvd.1) (hv.t6 hvd.1) hb6 ?_
  unfold stPull at k
  by_cases c : spk σ b = true
  · rw [if_pos c] at k
    simp only [c, b01, if_true]
    simp +decide (disch := omega) only [↓wm1, wb85_5 hc, wb85_10 hc, w0, w1, w10, w999, rI_wI, rP_wI, rL_wI, rI_wR, rP_wR, is_wI, is_wR, ia_wI, ia_wR, ow_wI, ow_wR, wn_add, wn_mul, wn_cl, wn_le, wn_lt, wn_inj, wn_ne1, wn_1ne, wn_gt1, wn_le1, nb0, nb1, am_kt, am_rt, List.cons_append, List.nil_append, true_and, and_true, not_true_eq_false, not_false_eq_true, imp_f, imp_t, implies_true, Nat.zero_add, if_true, if_false]
    refine am_for (dH δ) (fun j ls G' => rS G' s (sPl δ Λ σ b j) ∧ Kp (PS s) G G' ∧ ls = [some (.ref 3), some (.ref s), some (.int (wn b)), some (.int (wn j)), none, none]) ?_ ?_ (dH δ) 0 (by omega) _ _ ⟨by rw [sPl_0]; exact hr, Kp.refl G, rfl⟩
    · rintro j hj _ G1 ⟨hr1, k1, rfl⟩ nx
      have h1 := hsh.kp k1
      have hT1 := hT.ps hs k1
      obtain ⟨p1, p2, p3, p4, p5, p6, p7, p8⟩ := hT1
      have hj7 : j < 7 := by have := hvd.2.1; omega
      have c1 : ¬ dH δ ≤ j := by omega
      have hH2 : dH δ < 2147483648 := by have := hvd.2.1; omega
      have e1 := (p5.2.2.2.2.1 b hb).1
      have e2 := hr1.2.2.2.2.2.2 (j * 10 + bM δ b) (by omega)
      rw [sPl_M δ Λ σ b j hm9] at e2
      rw [wb85_12 hc, p1, p5.2.1]
      simp +decide (disch := omega) only [↓wm1, wb85_23 hc, w0, w1, w10, w999, rI_wI, rP_wI, rL_wI, rI_wR, rP_wR, is_wI, is_wR, ia_wI, ia_wR, ow_wI, ow_wR, wn_add, wn_mul, wn_cl, wn_le, wn_lt, wn_inj, wn_ne1, wn_1ne, wn_gt1, wn_le1, nb0, nb1, am_kt, am_rt, List.cons_append, List.nil_append, true_and, and_true, not_true_eq_false, not_false_eq_true, imp_f, imp_t, implies_true, Nat.zero_add, if_true, if_false, i3 h1, p1, fD h1 p3, fS h1 hs, c1, e1, e2]
      refine ct82 h1 (hT.ps hs k1) hs hr1 hb hj (by have := hv.1; simp only [sPl, mkS, sH] at this ⊢; omega) (fun G2 k2 => ?_)
      rw [sPl_hear]
      have h2 := h1.kp k2
      have b1 := hear_le δ Λ σ b j
      have b2 := hv.2.2.2.2.2.1 (j * 10 + bM δ b)
      simp +decide (disch := omega) only [↓wm1, wb85_53 hc, wb85_70 hc, w0, w1, w10, w999, rI_wI, rP_wI, rL_wI, rI_wR, rP_wR, is_wI, is_wR, ia_wI, ia_wR, ow_wI, ow_wR, wn_add, wn_mul, wn_cl, wn_le, wn_lt, wn_inj, wn_ne1, wn_1ne, wn_gt1, wn_le1, nb0, nb1, am_kt, am_rt, List.cons_append, List.nil_append, true_and, and_true, not_true_eq_false, not_false_eq_true, imp_f, imp_t, implies_true, Nat.zero_add, if_true, if_false, fS h2 hs, ct272n]
      refine nx _ _ ⟨?_, (k1.trans k2.hs).wI (Or.inr ⟨by omega, by omega⟩) _, rfl⟩
      have hr2 := (hr1.kp k2 (by intro a i q1 q2 z; unfold HS at z; omega)).wM (j * 10 + bM δ b) (min 999 (sM σ (j * 10 + bM δ b) + hear δ Λ σ b j))
      rw [sPl_up δ Λ σ b j hm9] at hr2
      rw [Nat.min_comm]
      exact hr2
    · rintro _ G1 ⟨hr1, k1, rfl⟩
      have h1 := hsh.kp k1
      have hT1 := hT.ps hs k1
      obtain ⟨p1, p2, p3, p4, p5, p6, p7, p8⟩ := hT1
      have e2 := hr1.2.2.2.2.2.1 b hb6
      have hH2 : dH δ < 2147483648 := by have := hvd.2.1; omega
      rw [wb85_12 hc, p1, p5.2.1]
      simp +decide (disch := omega) only [↓wm1, wb85_77 hc, w0, w1, w10, w999, rI_wI, rP_wI, rL_wI, rI_wR, rP_wR, is_wI, is_wR, ia_wI, ia_wR, ow_wI, ow_wR, wn_add, wn_mul, wn_cl, wn_le, wn_lt, wn_inj, wn_ne1, wn_1ne, wn_gt1, wn_le1, nb0, nb1, am_kt, am_rt, List.cons_append, List.nil_append, true_and, and_true, not_true_eq_false, not_false_eq_true, imp_f, imp_t, implies_true, Nat.zero_add, if_true, if_false, i3 h1, p1, fD h1 p3, fS h1 hs, Nat.le_refl, e2]
      exact k _ (hr1.wP b _) (k1.wI (Or.inr ⟨by omega, by omega⟩) _)
  · rw [if_neg c] at k
    have c' : spk σ b = false := by simpa using c
    simp only [c', b01, Bool.false_eq_true, if_false]
    simp +decide (disch := omega) only [↓wm1, wb85_5 hc, wb85_8 hc, w0, w1, w10, w999, rI_wI, rP_wI, rL_wI, rI_wR, rP_wR, is_wI, is_wR, ia_wI, ia_wR, ow_wI, ow_wR, wn_add, wn_mul, wn_cl, wn_le, wn_lt, wn_inj, wn_ne1, wn_1ne, wn_gt1, wn_le1, nb0, nb1, am_kt, am_rt, List.cons_append, List.nil_append, true_and, and_true, not_true_eq_false, not_false_eq_true, imp_f, imp_t, implies_true, Nat.zero_add, if_true, if_false]
    exact k G hr (Kp.refl G)
theorem ent_pl (δ : Dt) (Λ : List Tok) (σ : St) (b j : Nat) (hm : bM δ b ≤ 9) (hj : j < 7) : ∀ i, i < 96 → ent (sPl δ Λ σ b (j + 1)) i = if i = 24 + 10 * j + bM δ b then min 999 (sM σ (j * 10 + bM δ b) + hear δ Λ σ b j) else ent (sPl δ Λ σ b j) i := by
  intro i hi
  have e := sPl_f δ Λ σ b j hm
  by_cases h : i = 24 + 10 * j + bM δ b
  · rw [if_pos h, show i = 24 + (j * 10 + bM δ b) by omega, ent_m _ (by omega), ← e, up1_s]
  · rw [if_neg h]
    unfold ent
    by_cases h2 : j = j ∧ 24 ≤ i ∧ i < 94
    · have : ¬ i < 6 := by omega
      have : ¬ i < 12 := by omega
      have : ¬ i < 18 := by omega
      have : ¬ i < 24 := by omega
      simp only [*, if_false, h2.2.2, if_true]
      rw [← e, up1_o _ _ (by omega)]
    · by_cases h3 : i < 24
      · by_cases a1 : i < 6
        · simp only [a1, if_true]; rfl
        · by_cases a2 : i < 12
          · simp only [a1, a2, if_false, if_true]; rfl
          · by_cases a3 : i < 18
            · simp only [a1, a2, a3, if_false, if_true]; rfl
            · simp only [a1, a2, a3, h3, if_false, if_true]; rfl
      · have : ¬ i < 6 := by omega
        have : ¬ i < 12 := by omega
        have : ¬ i < 18 := by omega
        have : ¬ i < 94 := by omega
        simp only [*, if_false]; rfl
theorem ct200 (hsh : Sh G) (hT : Tm G δ Λ) (hrr : r ∈ rws) (hr : rW G r 0 σ) (hb : b < dB δ) (hv : vS (dB δ) (dH δ) σ) (k : ∀ G', rW G' r 0 (stPull δ Λ σ b).2 → Kp (PM r) G G' → post (.inl (some (.int (wn (stPull δ Λ σ b).1)))) G') : am_C am_T (d + 7) 200 [.ref 334, .ref r, .int (wn b)] G post := by
  have hc := am_C_one am_T (d + 6)
  have hvd := hT.2.1
  have hb6 : b < 6 := by have := hvd.1; omega
  have hm9 := (hvd.2.2.2.2.1 b hb).1
  have r1 := rws_gt r hrr
  rw [we200]
  simp +decide (disch := omega) only [↓wm1, wb200_0 hc, w0, w1, w18, w999, rI_wI, rP_wI, rL_wI, rI_wR, rP_wR, is_wI, is_wR, ia_wI, ia_wR, ow_wI, ow_wR, wn_add, wn_mul, wn_cl, wn_le, wn_lt, wn_inj, wn_ne1, wn_1ne, wn_gt1, wn_le1, nb0, nb1, am_kt, am_rt, List.cons_append, List.nil_append, true_and, and_true, not_true_eq_false, not_false_eq_true, imp_f, imp_t, implies_true, Nat.zero_add, if_true, if_false, ct197 hsh hrr hr hb6]
  unfold stPull at k
  by_cases c : spk σ b = true
  · rw [if_pos c] at k
    simp only [c, b01, if_true]
    simp +decide (disch := omega) only [↓wm1, wb200_5 hc, wb200_10 hc, w0, w1, w18, w999, rI_wI, rP_wI, rL_wI, rI_wR, rP_wR, is_wI, is_wR, ia_wI, ia_wR, ow_wI, ow_wR, wn_add, wn_mul, wn_cl, wn_le, wn_lt, wn_inj, wn_ne1, wn_1ne, wn_gt1, wn_le1, nb0, nb1, am_kt, am_rt, List.cons_append, List.nil_append, true_and, and_true, not_true_eq_false, not_false_eq_true, imp_f, imp_t, implies_true, Nat.zero_add, if_true, if_false]
    refine am_for (dH δ) (fun j ls G' => rW G' r 0 (sPl δ Λ σ b j) ∧ Kp (PM r) G G' ∧ ls = [some (.ref 334), some (.ref r), some (.int (wn b)), some (.int (wn j)), none]) ?_ ?_ (dH δ) 0 (by omega) _ _ ⟨by rw [sPl_0]; exact hr, Kp.refl G, rfl⟩
    · rintro j hj _ G1 ⟨hr1, k1, rfl⟩ nx
      have h1 := hsh.kp k1
      have hT1 := hT.pm hrr k1
      obtain ⟨p1, p2, p3, p4⟩ := hT1
      have hj7 : j < 7 := by have := hvd.2.1; omega
      have c1 : ¬ dH δ ≤ j := by omega
      have hH2 : dH δ < 2147483648 := by have := hvd.2.1; omega
      have e1 := (p1.2.2.2.2.1 b hb).1
      have e2 := (fW hr1).2.2.2.2.1 (j * 10 + bM δ b) (by omega)
      rw [sPl_M δ Λ σ b j hm9, show 24 + (j * 10 + bM δ b) = 24 + 10 * j + bM δ b by omega] at e2
      have q1 := p1.2.1
      rw [wb200_12 hc]
      simp +decide (disch := omega) only [↓wm1, wb200_22 hc, wb200_34 hc, w0, w1, w18, w999, rI_wI, rP_wI, rL_wI, rI_wR, rP_wR, is_wI, is_wR, ia_wI, ia_wR, ow_wI, ow_wR, wn_add, wn_mul, wn_cl, wn_le, wn_lt, wn_inj, wn_ne1, wn_1ne, wn_gt1, wn_le1, nb0, nb1, am_kt, am_rt, List.cons_append, List.nil_append, true_and, and_true, not_true_eq_false, not_false_eq_true, imp_f, imp_t, implies_true, Nat.zero_add, if_true, if_false, fM h1, fr346 h1, fR h1 hrr, ia338 h1, q1, c1, e1, e2, ct199]
      refine ct196 h1 (hT.pm hrr k1) hrr hr1 hb hj (by have := hv.1; simp only [sPl, mkS, sH] at this ⊢; omega) (fun G2 k2 => ?_)
      rw [sPl_hear]
      have h2 := h1.kp k2
      have b1 := hear_le δ Λ σ b j
      have b2 := hv.2.2.2.2.2.1 (j * 10 + bM δ b)
      simp +decide (disch := omega) only [↓wm1, wb200_53 hc, wb200_57 hc, w0, w1, w18, w999, rI_wI, rP_wI, rL_wI, rI_wR, rP_wR, is_wI, is_wR, ia_wI, ia_wR, ow_wI, ow_wR, wn_add, wn_mul, wn_cl, wn_le, wn_lt, wn_inj, wn_ne1, wn_1ne, wn_gt1, wn_le1, nb0, nb1, am_kt, am_rt, List.cons_append, List.nil_append, true_and, and_true, not_true_eq_false, not_false_eq_true, imp_f, imp_t, implies_true, Nat.zero_add, if_true, if_false, fR h2 hrr, ct154n]
      refine nx _ _ ⟨?_, (k1.trans k2.hm).wI (by exact Or.inr rfl) _, rfl⟩
      exact (hr1.kp k2 (by intro i z; unfold HM at z; omega)).w (ent_pl δ Λ σ b j hm9 hj7)
    · rintro _ G1 ⟨hr1, k1, rfl⟩
      have h1 := hsh.kp k1
      have hT1 := hT.pm hrr k1
      have q1 := hT1.1.2.1
      have hH2 : dH δ < 2147483648 := by have := hvd.2.1; omega
      have e2 := (fW hr1).2.2.2.1 b hb6
      rw [wb200_12 hc]
      simp +decide (disch := omega) only [↓wm1, wb200_64 hc, w0, w1, w18, w999, rI_wI, rP_wI, rL_wI, rI_wR, rP_wR, is_wI, is_wR, ia_wI, ia_wR, ow_wI, ow_wR, wn_add, wn_mul, wn_cl, wn_le, wn_lt, wn_inj, wn_ne1, wn_1ne, wn_gt1, wn_le1, nb0, nb1, am_kt, am_rt, List.cons_append, List.nil_append, true_and, and_true, not_true_eq_false, not_false_eq_true, imp_f, imp_t, implies_true, Nat.zero_add, if_true, if_false, fM h1, fR h1 hrr, ia338 h1, q1, Nat.le_refl, e2]
      refine k _ (hr1.w (fun i hi => ?_)) (k1.wI (by exact Or.inr rfl) _)
      by_cases e : i = 18 + b
      · rw [if_pos e, e, ent_p _ hb6]
        show up1 (sP σ) b (sP σ b + 1) b = _
        rw [up1_s]; rfl
      · rw [if_neg e]
        unfold ent
        by_cases a1 : i < 6
        · simp only [a1, if_true]; rfl
        · by_cases a2 : i < 12
          · simp only [a1, a2, if_false, if_true]; rfl
          · by_cases a3 : i < 18
            · simp only [a1, a2, a3, if_false, if_true]; rfl
            · by_cases a4 : i < 24
              · simp only [a1, a2, a3, a4, if_false, if_true]
                show up1 (sP σ) b (sP σ b + 1) (i - 18) = sP σ (i - 18)
                rw [up1_o _ _ (by omega)]
              · simp only [a1, a2, a3, a4, if_false]; rfl
  · rw [if_neg c] at k
    have c' : spk σ b = false := by simpa using c
    simp only [c', b01, Bool.false_eq_true, if_false]
    simp +decide (disch := omega) only [↓wm1, wb200_5 hc, wb200_8 hc, w0, w1, w18, w999, rI_wI, rP_wI, rL_wI, rI_wR, rP_wR, is_wI, is_wR, ia_wI, ia_wR, ow_wI, ow_wR, wn_add, wn_mul, wn_cl, wn_le, wn_lt, wn_inj, wn_ne1, wn_1ne, wn_gt1, wn_le1, nb0, nb1, am_kt, am_rt, List.cons_append, List.nil_append, true_and, and_true, not_true_eq_false, not_false_eq_true, imp_f, imp_t, implies_true, Nat.zero_add, if_true, if_false]
    exact k G hr (Kp.refl G)
end
