/-! The rest of State; the reference's rows: copies, an hour, one step. -/
theorem Kp.i {Sc : Nat → Nat → Prop} {G G' : am_G} (k : Kp Sc G G') {a i : Nat} (h : ¬ Sc a i) : am_gI G' a i = am_gI G a i := k.2.2.2.2.1 a i h
theorem cp_ok {G : am_G} (h : Sh G) {a b n m c : Nat} (ha : kk0[a]? = some (100, n)) (hb : kk0[b]? = some (100, m)) (h1 : c ≤ n) (h2 : c ≤ m) (h3 : c < 2147483648) : am_cp G a (wn 0) b (wn 0) (wn c) := by
  refine ⟨n, m, h.k ha, h.k hb, wn_nn 0 (by decide), wn_nn 0 (by decide), wn_nn c h3, ?_, ?_⟩
  · rw [wn_cl h3, wn_cl (by decide)]; omega
  · rw [wn_cl h3, wn_cl (by decide)]; omega
theorem cp_wI (G : am_G) (a i : Nat) (v : Int32) (s : Nat) (x : Int32) (t : Nat) (y n : Int32) : am_cp (am_wI G a i v) s x t y n = am_cp G s x t y n := rfl
theorem cp_wR (G : am_G) (a : Nat) (f : Nat → Int32) (s : Nat) (x : Int32) (t : Nat) (y n : Int32) : am_cp (am_wR G a f) s x t y n = am_cp G s x t y n := rfl
theorem cpy0 {f g : Nat → Int32} {n j : Nat} (h : j < n) : va_cpy f g 0 0 n j = f j := by
  unfold va_cpy
  rw [if_pos ⟨Nat.zero_le _, by omega⟩]
  simp
def sZ (dm : Nat) : St := mkS 0 dm 0 0 (fun _ => 0) (fun _ => 0) (fun _ => 0)
section
variable {G : am_G} {s d b : Nat} {σ : St} {post : am_O → am_G → Prop}
theorem ct46 {dm : Nat} (hsh : Sh G) (hs : s ∈ sts) (k : ∀ G', rS G' s (sZ dm) → Kp (sc s) G G' → post (.inl none) G') : am_C am_T (d + 2) 46 [.ref s, .int (wn dm)] G post := by
  have hc := am_C_one am_T (d + 1)
  have hk := kS s hs
  rw [we46]
  simp +decide (disch := omega) only [↓wm1, wb46_0 hc, w0, w1, rI_wI, rP_wI, rL_wI, rI_wR, rP_wR, is_wI, is_wR, ia_wI, ia_wR, ow_wI, ow_wR, wn_add, wn_mul, wn_cl, wn_le, wn_lt, wn_inj, wn_ne1, wn_1ne, wn_gt1, wn_le1, nb0, nb1, am_kt, am_rt, List.cons_append, List.nil_append, true_and, and_true, not_true_eq_false, not_false_eq_true, imp_f, imp_t, implies_true, Nat.zero_add, if_true, if_false, fS hsh hs]
  refine ct279 (n := 6) (G := am_wI (am_wI (am_wI (am_wI G s 0 (wn 0)) s 1 (wn dm)) s 2 (wn 0)) s 3 (wn 0)) hsh hk.2.1 (by decide) _ (fun G1 f1 k1 => ?_)
  have h1 : Sh G1 := Sh.kp (G := am_wI (am_wI (am_wI (am_wI G s 0 (wn 0)) s 1 (wn dm)) s 2 (wn 0)) s 3 (wn 0)) hsh k1
  simp +decide (disch := omega) only [↓wm1, wb46_28 hc, w0, w1, rI_wI, rP_wI, rL_wI, rI_wR, rP_wR, is_wI, is_wR, ia_wI, ia_wR, ow_wI, ow_wR, wn_add, wn_mul, wn_cl, wn_le, wn_lt, wn_inj, wn_ne1, wn_1ne, wn_gt1, wn_le1, nb0, nb1, am_kt, am_rt, List.cons_append, List.nil_append, true_and, and_true, not_true_eq_false, not_false_eq_true, imp_f, imp_t, implies_true, Nat.zero_add, if_true, if_false, fS h1 hs]
  refine ct279 (n := 6) h1 hk.2.2.1 (by decide) _ (fun G2 f2 k2 => ?_)
  have h2 := h1.kp k2
  simp +decide (disch := omega) only [↓wm1, wb46_36 hc, w0, w1, rI_wI, rP_wI, rL_wI, rI_wR, rP_wR, is_wI, is_wR, ia_wI, ia_wR, ow_wI, ow_wR, wn_add, wn_mul, wn_cl, wn_le, wn_lt, wn_inj, wn_ne1, wn_1ne, wn_gt1, wn_le1, nb0, nb1, am_kt, am_rt, List.cons_append, List.nil_append, true_and, and_true, not_true_eq_false, not_false_eq_true, imp_f, imp_t, implies_true, Nat.zero_add, if_true, if_false, fS h2 hs]
  refine ct279 (n := 70) h2 hk.2.2.2.1 (by decide) _ (fun G3 f3 k3 => ?_)
  simp +decide (disch := omega) only [↓wm1, wb46_44 hc, w0, w1, rI_wI, rP_wI, rL_wI, rI_wR, rP_wR, is_wI, is_wR, ia_wI, ia_wR, ow_wI, ow_wR, wn_add, wn_mul, wn_cl, wn_le, wn_lt, wn_inj, wn_ne1, wn_1ne, wn_gt1, wn_le1, nb0, nb1, am_kt, am_rt, List.cons_append, List.nil_append, true_and, and_true, not_true_eq_false, not_false_eq_true, imp_f, imp_t, implies_true, Nat.zero_add, if_true, if_false]
  have e : ∀ i, am_gI G3 s i = am_gI (am_wI (am_wI (am_wI (am_wI G s 0 (wn 0)) s 1 (wn dm)) s 2 (wn 0)) s 3 (wn 0)) s i := fun i => by
    rw [k3.i (by omega), k2.i (by omega), k1.i (by omega)]
  refine k G3 ⟨?_, ?_, ?_, ?_, fun b hb => ?_, fun b hb => ?_, fun b hb => ?_⟩ ?_
  · rw [e]; simp [rI_wI, sZ, mkS, sH]
  · rw [e]; simp [rI_wI, sZ, mkS, sD]
  · rw [e]; simp [rI_wI, sZ, mkS, sG]
  · rw [e]; simp [rI_wI, sZ, mkS, sT]
  · rw [k3.i (by omega), k2.i (by omega), f1 b hb]; rfl
  · rw [k3.i (by omega), f2 b hb]; rfl
  · rw [f3 b hb]; rfl
  · refine Kp.trans (Kp.trans (Kp.trans (G1 := am_wI (am_wI (am_wI (am_wI G s 0 (wn 0)) s 1 (wn dm)) s 2 (wn 0)) s 3 (wn 0)) ?_ (k1.mono ?_)) (k2.mono ?_)) (k3.mono ?_)
    · exact ((((Kp.refl G).wI ⟨by omega, by omega⟩ _).wI ⟨by omega, by omega⟩ _).wI ⟨by omega, by omega⟩ _).wI ⟨by omega, by omega⟩ _
    · rintro a i rfl; exact ⟨by omega, by omega⟩
    · rintro a i rfl; exact ⟨by omega, by omega⟩
    · rintro a i rfl; exact ⟨by omega, by omega⟩
theorem ct47 {r : Nat} (hsh : Sh G) (hs : s ∈ sts) (hrs : r ∈ sts) (hd : s + 4 ≤ r ∨ r + 4 ≤ s) (hr : rS G r σ) (k : ∀ G', rS G' s σ → Kp (sc s) G G' → post (.inl none) G') : am_C am_T (d + 1) 47 [.ref s, .ref r] G post := by
  have hc := am_C_one am_T d
  have hk := kS s hs
  have hk2 := kS r hrs
  have c1 := cp_ok hsh (c := 6) hk2.2.1 hk.2.1 (by decide) (by decide) (by decide)
  have c2 := cp_ok hsh (c := 6) hk2.2.2.1 hk.2.2.1 (by decide) (by decide) (by decide)
  have c3 := cp_ok hsh (c := 70) hk2.2.2.2.1 hk.2.2.2.1 (by decide) (by decide) (by decide)
  have n1 : ¬ r = s := by omega
  have n2 : ¬ r + 1 = s := by omega
  have n3 : ¬ r + 2 = s := by omega
  have n4 : ¬ r + 3 = s := by omega
  have n5 : ¬ r + 1 = s + 1 := by omega
  have n6 : ¬ r + 1 = s + 2 := by omega
  have n7 : ¬ r + 1 = s + 3 := by omega
  have n8 : ¬ r + 2 = s + 1 := by omega
  have n9 : ¬ r + 2 = s + 2 := by omega
  have n10 : ¬ r + 2 = s + 3 := by omega
  have n11 : ¬ r + 3 = s + 1 := by omega
  have n12 : ¬ r + 3 = s + 2 := by omega
  have n13 : ¬ r + 3 = s + 3 := by omega
  rw [we47]
  simp +decide (disch := omega) only [↓wm1, wb47_0 hc, w0, w1, w6, w70, rI_wI, rP_wI, rL_wI, rI_wR, rP_wR, is_wI, is_wR, ia_wI, ia_wR, ow_wI, ow_wR, wn_add, wn_mul, wn_cl, wn_le, wn_lt, wn_inj, wn_ne1, wn_1ne, wn_gt1, wn_le1, nb0, nb1, am_kt, am_rt, List.cons_append, List.nil_append, true_and, and_true, not_true_eq_false, not_false_eq_true, imp_f, imp_t, implies_true, Nat.zero_add, if_true, if_false, fS hsh hs, fS hsh hrs, cp_wI, cp_wR, c1, c2, c3, n1, false_and, if_false]
  obtain ⟨r0, r1, r2, r3, r4, r5, r6⟩ := hr
  refine k _ ⟨?_, ?_, ?_, ?_, fun b hb => ?_, fun b hb => ?_, fun b hb => ?_⟩ ?_
  · simp [rI_wR, rI_wI, n1, r0]
  · simp [rI_wR, rI_wI, n1, r1]
  · simp [rI_wR, rI_wI, n1, r2]
  · simp [rI_wR, rI_wI, n1, r3]
  · simp [rI_wR, rI_wI, n1, n2, n5, n6, n7, cpy0 hb, r4 b hb]
  · simp [rI_wR, rI_wI, n1, n3, n8, n9, n10, cpy0 hb, r5 b hb]
  · simp [rI_wR, rI_wI, n1, n4, n11, n12, n13, cpy0 hb, r6 b hb]
  · exact (((((((Kp.refl G).wI ⟨by omega, by omega⟩ _).wI ⟨by omega, by omega⟩ _).wI ⟨by omega, by omega⟩ _).wI ⟨by omega, by omega⟩ _).wR (fun _ => ⟨by omega, by omega⟩) _).wR (fun _ => ⟨by omega, by omega⟩) _).wR (fun _ => ⟨by omega, by omega⟩) _
/-! an hour -/
def sMix (σ : St) (m : Nat) : St := mkS (sH σ) (sD σ) (sG σ) (sT σ) (sC σ) (sP σ) (fun j => if j < m then sM σ j - sM σ j / 4 - 1 else sM σ j)
theorem sMix_0 (σ : St) : sMix σ 0 = σ := by simp [sMix, mkS, sH, sD, sG, sT, sC, sP, sM]
theorem sMix_up (σ : St) (m : Nat) : mkS (sH (sMix σ m)) (sD (sMix σ m)) (sG (sMix σ m)) (sT (sMix σ m)) (sC (sMix σ m)) (sP (sMix σ m)) (up1 (sM (sMix σ m)) m (sM σ m - sM σ m / 4 - 1)) = sMix σ (m + 1) := by
  simp only [sMix, mkS, sH, sD, sG, sT, sC, sP, sM, up1, Prod.mk.injEq, true_and]
  funext j
  simp only [up1]
  by_cases h : j = m
  · subst h; simp
  · by_cases h2 : j < m
    · simp [h, h2, show j < m + 1 by omega]
    · simp [h, h2, show ¬ j < m + 1 by omega]
theorem ct55 (hsh : Sh G) (hs : s ∈ sts) (hr : rS G s σ) (hv : ∀ j, sM σ j ≤ 999) (k : ∀ G', rS G' s (sPass σ) → Kp (sc s) G G' → post (.inl none) G') : am_C am_T (d + 2) 55 [.ref s] G post := by
  have hc := am_C_one am_T (d + 1)
  refine (we55 _ _).mpr ((wb55_0 hc _ _).mpr ?_)
  refine am_for 70 (fun j ls G' => rS G' s (sMix σ j) ∧ Kp (sc s) G G' ∧ ls = [some (.ref s), some (.int (wn j))]) ?_ ?_ 70 0 rfl _ _ ⟨by rw [sMix_0]; exact hr, Kp.refl G, rfl⟩
  · rintro j hj _ G1 ⟨hr1, k1, rfl⟩ nx
    have c1 : ¬ 70 ≤ j := by omega
    have h1 := hsh.kp k1
    have e : am_gI G1 (s + 3) j = wn (sM σ j) := by rw [hr1.2.2.2.2.2.2 j hj]; simp [sMix, mkS, sM]
    have e2 := ps_ok (sM σ j) (by have := hv j; omega)
    rw [wb55_2 hc]
    simp +decide (disch := omega) only [↓wm1, wb55_8 hc, wb55_34 hc, w0, w1, w4, w70, rI_wI, rP_wI, rL_wI, rI_wR, rP_wR, is_wI, is_wR, ia_wI, ia_wR, ow_wI, ow_wR, wn_add, wn_mul, wn_cl, wn_le, wn_lt, wn_inj, wn_ne1, wn_1ne, wn_gt1, wn_le1, nb0, nb1, am_kt, am_rt, List.cons_append, List.nil_append, true_and, and_true, not_true_eq_false, not_false_eq_true, imp_f, imp_t, implies_true, Nat.zero_add, if_true, if_false, c1, fS h1 hs, e, ct271, e2]
    refine nx _ _ ⟨?_, k1.wI ⟨by omega, by omega⟩ _, rfl⟩
    have := hr1.wM j (sM σ j - sM σ j / 4 - 1)
    rw [sMix_up] at this
    exact this
  · rintro _ G1 ⟨hr1, k1, rfl⟩
    have h1 := hsh.kp k1
    rw [wb55_2 hc]
    simp +decide (disch := omega) only [↓wm1, wb55_41 hc, w0, w1, w4, w70, rI_wI, rP_wI, rL_wI, rI_wR, rP_wR, is_wI, is_wR, ia_wI, ia_wR, ow_wI, ow_wR, wn_add, wn_mul, wn_cl, wn_le, wn_lt, wn_inj, wn_ne1, wn_1ne, wn_gt1, wn_le1, nb0, nb1, am_kt, am_rt, List.cons_append, List.nil_append, true_and, and_true, not_true_eq_false, not_false_eq_true, imp_f, imp_t, implies_true, Nat.zero_add, if_true, if_false, Nat.le_refl, fS h1 hs, hr1.1]
    have := hr1.wH (sH (sMix σ 70) + 1)
    refine k _ ?_ (k1.wI ⟨by omega, by omega⟩ _)
    refine ⟨this.1, this.2.1, this.2.2.1, this.2.2.2.1, this.2.2.2.2.1, this.2.2.2.2.2.1, fun j hj => ?_⟩
    rw [this.2.2.2.2.2.2 j hj]
    simp [sMix, mkS, sM, sPass, hj]
theorem ct56 (hsh : Sh G) (hs : s ∈ sts) (hr : rS G s σ) (hv : ∀ j, sM σ j ≤ 999) (hh : sH σ ≤ 2000) (k : ∀ G', rS G' s (stHour σ).2 → Kp (sc s) G G' → post (.inl (some (.int (wn (stHour σ).1)))) G') : am_C am_T (d + 3) 56 [.ref s] G post := by
  have hc := am_C_one am_T (d + 2)
  rw [we56]
  unfold stHour at k
  by_cases c1 : sH σ < 900
  · rw [if_neg (by omega)] at k
    simp +decide (disch := omega) only [↓wm1, wb56_0 hc, wb56_12 hc, w0, w1, w900, rI_wI, rP_wI, rL_wI, rI_wR, rP_wR, is_wI, is_wR, ia_wI, ia_wR, ow_wI, ow_wR, wn_add, wn_mul, wn_cl, wn_le, wn_lt, wn_inj, wn_ne1, wn_1ne, wn_gt1, wn_le1, nb0, nb1, am_kt, am_rt, List.cons_append, List.nil_append, true_and, and_true, not_true_eq_false, not_false_eq_true, imp_f, imp_t, implies_true, Nat.zero_add, if_true, if_false, fS hsh hs, hr.1, c1]
    refine ct55 hsh hs hr hv (fun G' h1 h2 => ?_)
    simp +decide (disch := omega) only [↓wm1, wb56_16 hc, w0, w1, w900, rI_wI, rP_wI, rL_wI, rI_wR, rP_wR, is_wI, is_wR, ia_wI, ia_wR, ow_wI, ow_wR, wn_add, wn_mul, wn_cl, wn_le, wn_lt, wn_inj, wn_ne1, wn_1ne, wn_gt1, wn_le1, nb0, nb1, am_kt, am_rt, List.cons_append, List.nil_append, true_and, and_true, not_true_eq_false, not_false_eq_true, imp_f, imp_t, implies_true, Nat.zero_add, if_true, if_false]
    exact k G' h1 h2
  · rw [if_pos (by omega)] at k
    simp +decide (disch := omega) only [↓wm1, wb56_0 hc, wb56_10 hc, w0, w1, w900, rI_wI, rP_wI, rL_wI, rI_wR, rP_wR, is_wI, is_wR, ia_wI, ia_wR, ow_wI, ow_wR, wn_add, wn_mul, wn_cl, wn_le, wn_lt, wn_inj, wn_ne1, wn_1ne, wn_gt1, wn_le1, nb0, nb1, am_kt, am_rt, List.cons_append, List.nil_append, true_and, and_true, not_true_eq_false, not_false_eq_true, imp_f, imp_t, implies_true, Nat.zero_add, if_true, if_false, fS hsh hs, hr.1, c1]
    exact k G hr (Kp.refl G)
/-! the reference's rows -/
variable {r : Nat}
theorem ct178 {q : Nat} (hsh : Sh G) (hr : r ∈ rws) (hq : q ∈ rws) (hne : r ≠ q) (k : ∀ G', (∀ j, j < 96 → am_gI G' q j = am_gI G r j) → Kp (fun a _ => a = q) G G' → post (.inl none) G') : am_C am_T (d + 1) 178 [.ref r, .ref q] G post := by
  have hc := am_C_one am_T d
  refine (we178 _ _ _).mpr ((wb178_0 hc _ _ _).mpr ?_)
  refine am_for 96 (fun j ls G' => ls = [some (.ref r), some (.ref q), some (.int (wn j))] ∧ Kp (fun a _ => a = q) G G' ∧ ∀ i, i < j → am_gI G' q i = am_gI G r i) ?_ ?_ 96 0 rfl _ _ ⟨rfl, Kp.refl G, fun i hi => by omega⟩
  · rintro j hj _ G1 ⟨rfl, k1, hf⟩ nx
    have c1 : ¬ 96 ≤ j := by omega
    have h1 := hsh.kp k1
    rw [wb178_2 hc]
    simp +decide (disch := omega) only [↓wm1, wb178_8 hc, w0, w1, w96, rI_wI, rP_wI, rL_wI, rI_wR, rP_wR, is_wI, is_wR, ia_wI, ia_wR, ow_wI, ow_wR, wn_add, wn_mul, wn_cl, wn_le, wn_lt, wn_inj, wn_ne1, wn_1ne, wn_gt1, wn_le1, nb0, nb1, am_kt, am_rt, List.cons_append, List.nil_append, true_and, and_true, not_true_eq_false, not_false_eq_true, imp_f, imp_t, implies_true, Nat.zero_add, if_true, if_false, c1, fR h1 hr, fR h1 hq]
    refine nx _ _ ⟨rfl, k1.wI (by exact rfl) _, fun i hi => ?_⟩
    rw [rI_wI]
    by_cases e : i = j
    · rw [if_pos ⟨rfl, e⟩, e, k1.i hne]
    · rw [if_neg (fun z => e z.2)]
      exact hf i (by omega)
  · rintro _ G1 ⟨rfl, k1, hf⟩
    rw [wb178_2 hc]
    simp +decide (disch := omega) only [↓wm1, wb178_20 hc, w0, w1, w96, rI_wI, rP_wI, rL_wI, rI_wR, rP_wR, is_wI, is_wR, ia_wI, ia_wR, ow_wI, ow_wR, wn_add, wn_mul, wn_cl, wn_le, wn_lt, wn_inj, wn_ne1, wn_1ne, wn_gt1, wn_le1, nb0, nb1, am_kt, am_rt, List.cons_append, List.nil_append, true_and, and_true, not_true_eq_false, not_false_eq_true, imp_f, imp_t, implies_true, Nat.zero_add, if_true, if_false, Nat.le_refl]
    exact k G1 hf k1
theorem rW.cp {G' : am_G} {q : Nat} (h : rW G r 0 σ) (e : ∀ j, j < 96 → am_gI G' q j = am_gI G r j) : rW G' q 0 σ := by
  intro j hj
  rw [Nat.zero_add, e j hj]
  have := h j hj
  rw [Nat.zero_add] at this
  exact this
theorem ent_mix (σ : St) (m : Nat) (hm : m < 70) : ∀ j, j < 96 → ent (sMix σ (m + 1)) j = if j = 24 + m then sM σ m - sM σ m / 4 - 1 else ent (sMix σ m) j := by
  intro j hj
  by_cases e : j = 24 + m
  · subst e
    rw [if_pos rfl, ent_m _ hm]
    simp [sMix, mkS, sM]
  · rw [if_neg e]
    unfold ent
    simp only [sMix, mkS, sH, sD, sG, sT, sC, sP, sM]
    by_cases h1 : j < 24
    · simp only [show j < 94 by omega, h1, if_true]
    · by_cases h2 : j < 94
      · simp only [h1, if_false, h2, if_true]
        by_cases h3 : j - 24 < m
        · simp only [h3, show j - 24 < m + 1 by omega, if_true]
        · simp only [h3, show ¬ j - 24 < m + 1 by omega, if_false]
      · simp only [h2, if_false]
theorem ct201 (hsh : Sh G) (hrr : r ∈ rws) (hr : rW G r 0 σ) (hv : ∀ j, sM σ j ≤ 999) (k : ∀ G', rW G' r 0 (sPass σ) → Kp (fun a _ => a = r) G G' → post (.inl none) G') : am_C am_T (d + 2) 201 [.ref r] G post := by
  have hc := am_C_one am_T (d + 1)
  refine (we201 _ _).mpr ((wb201_0 hc _ _).mpr ?_)
  refine am_for 70 (fun j ls G' => rW G' r 0 (sMix σ j) ∧ Kp (fun a _ => a = r) G G' ∧ ls = [some (.ref r), some (.int (wn (24 + j)))]) ?_ ?_ 70 0 rfl _ _ ⟨by rw [sMix_0]; exact hr, Kp.refl G, rfl⟩
  · rintro j hj _ G1 ⟨hr1, k1, rfl⟩ nx
    have c1 : ¬ 94 ≤ 24 + j := by omega
    have h1 := hsh.kp k1
    have e : am_gI G1 r (24 + j) = wn (sM σ j) := by rw [(fW hr1).2.2.2.2.1 j hj]; simp [sMix, mkS, sM]
    have e2 := ps_ok2 (sM σ j) (by have := hv j; omega)
    rw [wb201_3 hc]
    simp +decide (disch := omega) only [↓wm1, wb201_9 hc, wb201_26 hc, w0, w1, w4, w24, w94, w95, rI_wI, rP_wI, rL_wI, rI_wR, rP_wR, is_wI, is_wR, ia_wI, ia_wR, ow_wI, ow_wR, wn_add, wn_mul, wn_cl, wn_le, wn_lt, wn_inj, wn_ne1, wn_1ne, wn_gt1, wn_le1, nb0, nb1, am_kt, am_rt, List.cons_append, List.nil_append, true_and, and_true, not_true_eq_false, not_false_eq_true, imp_f, imp_t, implies_true, Nat.zero_add, if_true, if_false, c1, fR h1 hrr, e, ct155, e2]
    refine nx _ _ ⟨hr1.w (ent_mix σ j hj), k1.wI (by exact rfl) _, ?_⟩
    rw [Nat.add_assoc]
  · rintro _ G1 ⟨hr1, k1, rfl⟩
    have h1 := hsh.kp k1
    have e := (fW hr1).2.2.2.2.2.2
    rw [wb201_3 hc]
    simp +decide (disch := omega) only [↓wm1, wb201_33 hc, w0, w1, w4, w24, w94, w95, rI_wI, rP_wI, rL_wI, rI_wR, rP_wR, is_wI, is_wR, ia_wI, ia_wR, ow_wI, ow_wR, wn_add, wn_mul, wn_cl, wn_le, wn_lt, wn_inj, wn_ne1, wn_1ne, wn_gt1, wn_le1, nb0, nb1, am_kt, am_rt, List.cons_append, List.nil_append, true_and, and_true, not_true_eq_false, not_false_eq_true, imp_f, imp_t, implies_true, Nat.zero_add, if_true, if_false, fR h1 hrr, e]
    refine k _ (hr1.w (fun j hj => ?_)) (k1.wI (by exact rfl) _)
    by_cases e : j = 95
    · subst e; rw [if_pos rfl, ent_h]; rfl
    · rw [if_neg e]
      unfold ent
      simp only [sMix, sPass, mkS, sH, sD, sG, sT, sC, sP, sM]
      by_cases h1 : j < 24
      · simp only [show j < 94 by omega, h1, if_true]
      · by_cases h2 : j < 94
        · simp only [h1, if_false, h2, if_true, show j - 24 < 70 by omega]
        · have e94 : j = 94 := by omega
          subst e94
          rfl
theorem ct202 {w : Nat} {v : Int32} (hsh : Sh G) (hrr : r ∈ rws) (hw : w < 96) : am_C am_T (d + 1) 202 [.ref r, .int (wn w), .int v] G post ↔ (if am_gI G r w = v then post (.inl (some (.int (wn 0)))) G else post (.inl (some (.int (wn 1)))) (am_wI G r w v)) := by
  have hc := am_C_one am_T d
  rw [we202]
  by_cases c : am_gI G r w = v
  · simp +decide (disch := omega) only [↓wm1, wb202_0 hc, wb202_7 hc, wb202_9 hc, w0, w1, rI_wI, rP_wI, rL_wI, rI_wR, rP_wR, is_wI, is_wR, ia_wI, ia_wR, ow_wI, ow_wR, wn_add, wn_mul, wn_cl, wn_le, wn_lt, wn_inj, wn_ne1, wn_1ne, wn_gt1, wn_le1, nb0, nb1, am_kt, am_rt, List.cons_append, List.nil_append, true_and, and_true, not_true_eq_false, not_false_eq_true, imp_f, imp_t, implies_true, Nat.zero_add, if_true, if_false, fR hsh hrr, c, if_true]
  · simp +decide (disch := omega) only [↓wm1, wb202_0 hc, wb202_7 hc, wb202_9 hc, w0, w1, rI_wI, rP_wI, rL_wI, rI_wR, rP_wR, is_wI, is_wR, ia_wI, ia_wR, ow_wI, ow_wR, wn_add, wn_mul, wn_cl, wn_le, wn_lt, wn_inj, wn_ne1, wn_1ne, wn_gt1, wn_le1, nb0, nb1, am_kt, am_rt, List.cons_append, List.nil_append, true_and, and_true, not_true_eq_false, not_false_eq_true, imp_f, imp_t, implies_true, Nat.zero_add, if_true, if_false, fR hsh hrr, c, if_false]
theorem ct197 (hsh : Sh G) (hrr : r ∈ rws) (hr : rW G r 0 σ) (hb : b < 6) : am_C am_T (d + 1) 197 [.ref r, .int (wn b)] G post ↔ post (.inl (some (.int (wn (b01 (spk σ b)))))) G := by
  have hc := am_C_one am_T d
  have e1 := bt_01 (sT σ) b
  have e2 := bt_01 (sG σ) b
  have f := fW hr
  rw [we197]
  by_cases c1 : bt (sG σ) b = 0
  · by_cases c2 : bt (sT σ) b = 0
    · simp +decide (disch := omega) only [↓wm1, wb197_0 hc, wb197_9 hc, wb197_18 hc, wb197_22 hc, wb197_23 hc, w0, w1, w6, w12, rI_wI, rP_wI, rL_wI, rI_wR, rP_wR, is_wI, is_wR, ia_wI, ia_wR, ow_wI, ow_wR, wn_add, wn_mul, wn_cl, wn_le, wn_lt, wn_inj, wn_ne1, wn_1ne, wn_gt1, wn_le1, nb0, nb1, am_kt, am_rt, List.cons_append, List.nil_append, true_and, and_true, not_true_eq_false, not_false_eq_true, imp_f, imp_t, implies_true, Nat.zero_add, if_true, if_false, fR hsh hrr, f.2.1, f.2.2.1, c1, c2, spk, b01, beq_self_eq_true, Bool.and_self, if_true]
    · have c3 : (bt (sT σ) b == 0) = false := by simp [c2]
      simp +decide (disch := omega) only [↓wm1, wb197_0 hc, wb197_9 hc, wb197_18 hc, wb197_22 hc, wb197_23 hc, w0, w1, w6, w12, rI_wI, rP_wI, rL_wI, rI_wR, rP_wR, is_wI, is_wR, ia_wI, ia_wR, ow_wI, ow_wR, wn_add, wn_mul, wn_cl, wn_le, wn_lt, wn_inj, wn_ne1, wn_1ne, wn_gt1, wn_le1, nb0, nb1, am_kt, am_rt, List.cons_append, List.nil_append, true_and, and_true, not_true_eq_false, not_false_eq_true, imp_f, imp_t, implies_true, Nat.zero_add, if_true, if_false, fR hsh hrr, f.2.1, f.2.2.1, c1, c2, spk, b01, c3, Bool.and_false, Bool.false_eq_true, if_false]
  · have c3 : (bt (sG σ) b == 0) = false := by simp [c1]
    simp +decide (disch := omega) only [↓wm1, wb197_0 hc, wb197_9 hc, wb197_18 hc, wb197_22 hc, wb197_23 hc, w0, w1, w6, w12, rI_wI, rP_wI, rL_wI, rI_wR, rP_wR, is_wI, is_wR, ia_wI, ia_wR, ow_wI, ow_wR, wn_add, wn_mul, wn_cl, wn_le, wn_lt, wn_inj, wn_ne1, wn_1ne, wn_gt1, wn_le1, nb0, nb1, am_kt, am_rt, List.cons_append, List.nil_append, true_and, and_true, not_true_eq_false, not_false_eq_true, imp_f, imp_t, implies_true, Nat.zero_add, if_true, if_false, fR hsh hrr, f.2.1, f.2.2.1, c1, spk, b01, c3, Bool.false_and, Bool.false_eq_true, if_false]
end
