/-! SUIT, the reference's side. -/
theorem xsu_le {p : Nat → Bool} {c : Nat → Nat} {S x N : Nat} (hx : x ≤ N) (hc : ∀ h, S + c h + 1 ≤ N) : ∀ n, (xsu p c S x n).1 ≤ N := by
  intro n
  induction n with
  | zero => exact hx
  | succ n ih =>
    simp only [xsu]
    split
    · exact hc n
    · exact ih
theorem xsu_no {p : Nat → Bool} {c : Nat → Nat} {S x : Nat} (h : ∀ h, p h = false) : ∀ n, xsu p c S x n = (x, none) := by
  intro n
  induction n with
  | zero => rfl
  | succ n ih =>
    simp only [xsu]
    rw [if_neg, ih]
    rw [h n]
    intro z
    cases z.1
def RSF (b : Nat) : Nat → Nat → Prop := fun a i => HM a i ∨ (a = 831 ∧ b ≤ i) ∨ a = 832 ∨ (a = 334 ∧ i = 42)
theorem lim_lt2 {S x : Nat} (hS : S < 2147483648) (hx : x < 2147483648) : (lim x < wn S) = (x ≤ S) := by
  apply propext
  rw [← Int32.not_le, lim_le hS hx]
  omega
section
variable {d : Nat} {δ : Dt} {Λ : List Tok} {σ : St}
theorem RI.rs {G G' : am_G} {b : Nat} (h : RI G δ Λ σ) (k : Kp (RSF b) G G') : RI G' δ Λ σ :=
  ⟨h.1.kp k, h.2.1.eq (fun a i z1 z2 => k.i (by unfold RSF HM; omega)) (k.i (by unfold RSF HM; omega)), h.2.2.kp k (fun i z => by unfold RSF HM at z; omega)⟩
theorem ct227 (v6 : dB δ ≤ 6) (v7 : dH δ ≤ 7) (hH9 : sH σ < 2147483648) : ∀ (k b U S x : Nat) (G : am_G) (post : am_O → am_G → Prop), b + k = dB δ → RI G δ Λ σ → U < 2 ^ dH δ → S ≤ 99 * b → x ≤ 595 → am_gI G 334 42 = lim x →
    (∀ G', (x ≤ S + mo (spk σ) (hear δ Λ σ) (dH δ) (dB δ) k U → am_gI G' 334 42 = lim (S + mo (spk σ) (hear δ Λ σ) (dH δ) (dB δ) k U + 1) ∧ ∀ i, i < dB δ → am_gI G' 832 i = if i < b then am_gI G 831 i else gvf (spk σ) (hear δ Λ σ) (dH δ) (dB δ) k U (i - b)) → (¬ x ≤ S + mo (spk σ) (hear δ Λ σ) (dH δ) (dB δ) k U → am_gI G' 334 42 = lim x ∧ ∀ i, am_gI G' 832 i = am_gI G 832 i) → Kp (RSF b) G G' → post (.inl none) G') →
    am_C am_T (k + d + 8) 227 [.ref 334, .int (wn b), .int (wn U), .int (wn S)] G post := by
  have hw : ∀ b h, hear δ Λ σ b h ≤ 99 := fun b h => hear_le δ Λ σ b h
  have p2 := p7 v7
  intro k
  induction k with
  | zero =>
    intro b U S x G post hbk hI hU hS hx e42 kk
    have hc := am_C_one am_T (d + 7)
    have hb : b = dB δ := by omega
    have b1 := fE2 hI.2.1
    simp only [mo, Nat.add_zero] at kk
    rw [show 0 + d + 8 = (d + 7) + 1 by omega, we227]
    have lx := lim_lt2 (S := S) (x := x) (by omega) (by omega)
    by_cases c : x ≤ S
    · simp +decide (disch := omega) only [↓wm1, wb227_0 hc, wb227_10 hc, wb227_19 hc, w0, w1, rI_wI, rP_wI, rL_wI, rI_wR, rP_wR, is_wI, is_wR, ia_wI, ia_wR, ow_wI, ow_wR, wn_add, wn_mul, wn_cl, wn_le, wn_lt, wn_inj, wn_ne1, wn_1ne, wn_gt1, wn_le1, nb0, nb1, am_kt, am_rt, List.cons_append, List.nil_append, true_and, and_true, not_true_eq_false, not_false_eq_true, imp_f, imp_t, implies_true, Nat.zero_add, if_true, if_false, false_and, and_false, fM hI.1, b1, ia338 hI.1, hb, e42, lx, c]
      refine am_for (dB δ) (fun j ls G' => (∀ i, i < j → am_gI G' 832 i = am_gI G 831 i) ∧ Kp (fun a i => a = 832 ∨ (a = 334 ∧ i = 42)) G G' ∧ am_gI G' 334 42 = wn S ∧ ∃ o3, ls = [some (.ref 334), some (.int (wn (dB δ))), none, o3, some (.int (wn j))]) ?_ ?_ (dB δ) 0 (by omega) _ _ ⟨fun i hi => by omega, (Kp.refl G).wI (Or.inr ⟨rfl, rfl⟩) _, by rw [rI_wI, if_pos ⟨rfl, rfl⟩], _, rfl⟩
      · rintro j hj _ G1 ⟨f1, k1, g1, o3, rfl⟩ nx
        have c1 : ¬ dB δ ≤ j := by omega
        have j6 : j < 6 := by omega
        have s1 := hI.1.kp k1
        have e1 : am_gI G1 831 j = am_gI G 831 j := k1.i (by omega)
        rw [wb227_27 hc]
        simp +decide (disch := omega) only [↓wm1, wb227_33 hc, w0, w1, rI_wI, rP_wI, rL_wI, rI_wR, rP_wR, is_wI, is_wR, ia_wI, ia_wR, ow_wI, ow_wR, wn_add, wn_mul, wn_cl, wn_le, wn_lt, wn_inj, wn_ne1, wn_1ne, wn_gt1, wn_le1, nb0, nb1, am_kt, am_rt, List.cons_append, List.nil_append, true_and, and_true, not_true_eq_false, not_false_eq_true, imp_f, imp_t, implies_true, Nat.zero_add, if_true, if_false, false_and, and_false, c1, fM s1, ia831 s1, ow832 s1, j6, e1]
        refine nx _ _ ⟨fun i hi => ?_, k1.wI (Or.inl rfl) _, by rw [rI_wI, if_neg (by omega)]; exact g1, _, rfl⟩
        rw [rI_wI]
        by_cases e : i = j
        · rw [if_pos ⟨rfl, e⟩, e]
        · rw [if_neg (by omega)]; exact f1 i (by omega)
      · rintro _ G1 ⟨f1, k1, g1, o3, rfl⟩
        rw [wb227_27 hc]
        simp +decide (disch := omega) only [↓wm1, wb227_53 hc, w0, w1, rI_wI, rP_wI, rL_wI, rI_wR, rP_wR, is_wI, is_wR, ia_wI, ia_wR, ow_wI, ow_wR, wn_add, wn_mul, wn_cl, wn_le, wn_lt, wn_inj, wn_ne1, wn_1ne, wn_gt1, wn_le1, nb0, nb1, am_kt, am_rt, List.cons_append, List.nil_append, true_and, and_true, not_true_eq_false, not_false_eq_true, imp_f, imp_t, implies_true, Nat.zero_add, if_true, if_false, false_and, and_false, Nat.le_refl]
        refine kk G1 (fun _ => ⟨by rw [lim_s]; exact g1, fun i hi => ?_⟩) (fun z => absurd c z) (k1.mono (fun a i z => by unfold RSF; omega))
        rw [if_pos (by omega)]; exact f1 i hi
    · simp +decide (disch := omega) only [↓wm1, wb227_0 hc, wb227_10 hc, wb227_18 hc, w0, w1, rI_wI, rP_wI, rL_wI, rI_wR, rP_wR, is_wI, is_wR, ia_wI, ia_wR, ow_wI, ow_wR, wn_add, wn_mul, wn_cl, wn_le, wn_lt, wn_inj, wn_ne1, wn_1ne, wn_gt1, wn_le1, nb0, nb1, am_kt, am_rt, List.cons_append, List.nil_append, true_and, and_true, not_true_eq_false, not_false_eq_true, imp_f, imp_t, implies_true, Nat.zero_add, if_true, if_false, false_and, and_false, fM hI.1, b1, ia338 hI.1, hb, e42, lx, c]
      exact kk G (fun z => absurd z c) (fun _ => ⟨e42, fun i => rfl⟩) (Kp.refl G)
  | succ k ih =>
    intro b U S x G post hbk hI hU hS hx e42 kk
    rw [show k + 1 + d + 8 = (k + d + 8) + 1 by omega]
    have hc := am_C_one am_T (k + d + 8)
    have hbB : b < dB δ := by omega
    have b6 : b < 6 := by omega
    have hbn : ¬ b = dB δ := by omega
    have hk3 : dB δ - (k + 1) = b := by omega
    have b1 := fE2 hI.2.1
    have me := xsu_end (spk σ) (hear δ Λ σ) (dH δ) (dB δ) k U S x v7
    rw [hk3] at me
    have cl9 : ∀ h, S + (hear δ Λ σ b h + mo (spk σ) (hear δ Λ σ) (dH δ) (dB δ) k (U ||| 2 ^ h)) + 1 ≤ 595 := fun h => by
      have := hw b h
      have := mo_le (s := spk σ) (H := dH δ) (B := dB δ) hw k (U ||| 2 ^ h)
      omega
    have mU := mo_le (s := spk σ) (H := dH δ) (B := dB δ) hw k U
    have gv0 : gvf (spk σ) (hear δ Λ σ) (dH δ) (dB δ) (k + 1) U 0 = fo (pkq (spk σ) (hear δ Λ σ) (dH δ) (dB δ) k U) 0 (dH δ) := by simp only [gvf, if_true]
    have gvs : ∀ i, gvf (spk σ) (hear δ Λ σ) (dH δ) (dB δ) (k + 1) U (i + 1) = gvf (spk σ) (hear δ Λ σ) (dH δ) (dB δ) k (nxU U (fo (pkq (spk σ) (hear δ Λ σ) (dH δ) (dB δ) k U) 0 (dH δ))) i := fun i => by
      simp only [gvf]
      rw [if_neg (by omega), Nat.add_sub_cancel]
    generalize hc0 : (fun h => hear δ Λ σ b h + mo (spk σ) (hear δ Λ σ) (dH δ) (dB δ) k (U ||| 2 ^ h)) = c at me
    have hcv : ∀ h, c h = hear δ Λ σ b h + mo (spk σ) (hear δ Λ σ) (dH δ) (dB δ) k (U ||| 2 ^ h) := fun h => by rw [← hc0]
    have cl8 : ∀ h, S + c h + 1 ≤ 595 := fun h => by rw [hcv]; exact cl9 h
    have fin : ∀ (G1 : am_G) (o4 : Option Value), RI G1 δ Λ σ → am_gI G1 334 42 = lim (xsu (alw (spk σ) b U) c S x (dH δ)).1 → ((xsu (alw (spk σ) b U) c S x (dH δ)).2 = none → ∀ i, am_gI G1 832 i = am_gI G 832 i) → (∀ h, (xsu (alw (spk σ) b U) c S x (dH δ)).2 = some h → ∀ i, i < dB δ → am_gI G1 832 i = if i < b then am_gI G 831 i else if i = b then wn h else gvf (spk σ) (hear δ Λ σ) (dH δ) (dB δ) k (U ||| 2 ^ h) (i - (b + 1))) → Kp (RSF b) G G1 → am_W (am_C am_T (k + d + 8)) am_227 post 131 [some (.ref 334), some (.int (wn b)), some (.int (wn U)), some (.int (wn S)), o4] [] G1 := by
      intro G1 o4 I1 e1 n1 s1 k1
      have xl := xsu_le (p := alw (spk σ) b U) (c := c) (S := S) hx cl8 (dH δ)
      generalize hX : xsu (alw (spk σ) b U) c S x (dH δ) = X at e1 n1 s1 xl me
      have k2 : Kp (RSF b) G1 (am_wI G1 831 b mm) := (Kp.refl G1).wI (Or.inr (Or.inl ⟨rfl, Nat.le_refl b⟩)) _
      have I2 := I1.rs k2
      simp +decide (disch := omega) only [↓wm1, wb227_131 hc, w0, w1, rI_wI, rP_wI, rL_wI, rI_wR, rP_wR, is_wI, is_wR, ia_wI, ia_wR, ow_wI, ow_wR, wn_add, wn_mul, wn_cl, wn_le, wn_lt, wn_inj, wn_ne1, wn_1ne, wn_gt1, wn_le1, nb0, nb1, am_kt, am_rt, List.cons_append, List.nil_append, true_and, and_true, not_true_eq_false, not_false_eq_true, imp_f, imp_t, implies_true, Nat.zero_add, if_true, if_false, false_and, and_false, fM I1.1, ow831 I1.1, b6]
      refine ih (b + 1) U S X.1 (am_wI G1 831 b mm) _ (by omega) I2 hU (by omega) xl (by rw [rI_wI, if_neg (by omega)]; exact e1) (fun G3 a3 u3 k3 => ?_)
      simp +decide (disch := omega) only [↓wm1, wb227_147 hc, w0, w1, rI_wI, rP_wI, rL_wI, rI_wR, rP_wR, is_wI, is_wR, ia_wI, ia_wR, ow_wI, ow_wR, wn_add, wn_mul, wn_cl, wn_le, wn_lt, wn_inj, wn_ne1, wn_1ne, wn_gt1, wn_le1, nb0, nb1, am_kt, am_rt, List.cons_append, List.nil_append, true_and, and_true, not_true_eq_false, not_false_eq_true, imp_f, imp_t, implies_true, Nat.zero_add, if_true, if_false, false_and, and_false]
      have k13 : Kp (RSF b) G G3 := (k1.trans k2).trans (k3.mono (fun a i z => by unfold RSF HM at z; unfold RSF HM; omega))
      refine kk G3 (fun hN => ?_) (fun hN => ?_) k13
      · obtain ⟨m1, m2⟩ := me.1 hN
        by_cases cz : X.1 ≤ S + mo (spk σ) (hear δ Λ σ) (dH δ) (dB δ) k U
        · obtain ⟨y1, y2⟩ := m1 cz
          obtain ⟨y3, y4⟩ := a3 cz
          refine ⟨by rw [y1]; exact y3, fun i hi => ?_⟩
          rw [y4 i hi]
          by_cases c1 : i < b
          · rw [if_pos (by omega), if_pos c1, rI_wI, if_neg (by omega)]
            exact k1.i (by unfold RSF HM; omega)
          · rw [if_neg c1]
            by_cases c2 : i = b
            · rw [if_pos (by omega), c2, rI_wI, if_pos ⟨rfl, rfl⟩, Nat.sub_self, gv0, y2]
            · rw [if_neg (by omega)]
              have := gvs (i - (b + 1))
              rw [show i - (b + 1) + 1 = i - b by omega, y2, nxU, if_pos rfl] at this
              rw [this]
        · obtain ⟨j, y1, y2, y3, y4⟩ := m2 cz
          obtain ⟨u1, u2⟩ := u3 cz
          refine ⟨by rw [u1, y4], fun i hi => ?_⟩
          rw [u2 i, rI_wI, if_neg (by omega), s1 j y1 i hi]
          by_cases c1 : i < b
          · rw [if_pos c1, if_pos c1]
          · rw [if_neg c1, if_neg c1]
            by_cases c2 : i = b
            · rw [if_pos c2, c2, Nat.sub_self, gv0, y3]
            · rw [if_neg c2]
              have := gvs (i - (b + 1))
              rw [show i - (b + 1) + 1 = i - b by omega, y3, nxU, if_neg (show ¬ wn j = mm from wn_n1 j (by omega)), wn_cl (by omega)] at this
              rw [this]
      · obtain ⟨y1, y2, y3⟩ := me.2 hN
        obtain ⟨u1, u2⟩ := u3 (by rw [y2]; exact y3)
        refine ⟨by rw [u1, y2], fun i => ?_⟩
        rw [u2 i, rI_wI, if_neg (by omega)]
        exact n1 y1 i
    rw [we227]
    simp +decide (disch := omega) only [↓wm1, wb227_0 hc, wb227_54 hc, w0, w1, rI_wI, rP_wI, rL_wI, rI_wR, rP_wR, is_wI, is_wR, ia_wI, ia_wR, ow_wI, ow_wR, wn_add, wn_mul, wn_cl, wn_le, wn_lt, wn_inj, wn_ne1, wn_1ne, wn_gt1, wn_le1, nb0, nb1, am_kt, am_rt, List.cons_append, List.nil_append, true_and, and_true, not_true_eq_false, not_false_eq_true, imp_f, imp_t, implies_true, Nat.zero_add, if_true, if_false, false_and, and_false, fM hI.1, b1, ia338 hI.1, hbn]
    cases hs : spk σ b with
    | false =>
      have hno := xsu_no (p := alw (spk σ) b U) (c := c) (S := S) (x := x) (fun h => by unfold alw; rw [hs]; rfl) (dH δ)
      have go : am_W (am_C am_T (k + d + 8)) am_227 post 131 [some (.ref 334), some (.int (wn b)), some (.int (wn U)), some (.int (wn S)), some (.int (wn 0))] [] G := fin G _ hI (by rw [hno]; exact e42) (fun _ i => rfl) (fun h z => by rw [hno] at z; cases z) (Kp.refl G)
      rw [wb227_57 hc]
      by_cases c0 : dH δ ≤ 0
      · simp +decide (disch := omega) only [↓wm1, w0, w1, rI_wI, rP_wI, rL_wI, rI_wR, rP_wR, is_wI, is_wR, ia_wI, ia_wR, ow_wI, ow_wR, wn_add, wn_mul, wn_cl, wn_le, wn_lt, wn_inj, wn_ne1, wn_1ne, wn_gt1, wn_le1, nb0, nb1, am_kt, am_rt, List.cons_append, List.nil_append, true_and, and_true, not_true_eq_false, not_false_eq_true, imp_f, imp_t, implies_true, Nat.zero_add, if_true, if_false, false_and, and_false, fM hI.1, b1, ia338 hI.1, c0, w0]
        exact go
      · simp +decide (disch := omega) only [↓wm1, wb227_68 hc, wb227_76 hc, w0, w1, rI_wI, rP_wI, rL_wI, rI_wR, rP_wR, is_wI, is_wR, ia_wI, ia_wR, ow_wI, ow_wR, wn_add, wn_mul, wn_cl, wn_le, wn_lt, wn_inj, wn_ne1, wn_1ne, wn_gt1, wn_le1, nb0, nb1, am_kt, am_rt, List.cons_append, List.nil_append, true_and, and_true, not_true_eq_false, not_false_eq_true, imp_f, imp_t, implies_true, Nat.zero_add, if_true, if_false, false_and, and_false, fM hI.1, b1, ia338 hI.1, c0, ct197 hI.1 h808 hI.2.2 b6, hs, b01, Bool.false_eq_true]
        exact go
    | true =>
      refine am_for (dH δ) (fun j ls G' => RI G' δ Λ σ ∧ am_gI G' 334 42 = lim (xsu (alw (spk σ) b U) c S x j).1 ∧ ((xsu (alw (spk σ) b U) c S x j).2 = none → ∀ i, am_gI G' 832 i = am_gI G 832 i) ∧ (∀ h, (xsu (alw (spk σ) b U) c S x j).2 = some h → ∀ i, i < dB δ → am_gI G' 832 i = if i < b then am_gI G 831 i else if i = b then wn h else gvf (spk σ) (hear δ Λ σ) (dH δ) (dB δ) k (U ||| 2 ^ h) (i - (b + 1))) ∧ Kp (RSF b) G G' ∧ ls = [some (.ref 334), some (.int (wn b)), some (.int (wn U)), some (.int (wn S)), some (.int (wn j))]) ?_ ?_ (dH δ) 0 (by omega) _ _ ⟨hI, e42, fun _ i => rfl, (fun h z => by cases z), Kp.refl G, rfl⟩
      · rintro j hj _ G1 ⟨I1, e1, n1, s1, k1, rfl⟩ nx
        have c1 : ¬ dH δ ≤ j := by omega
        have xl := xsu_le (p := alw (spk σ) b U) (c := c) (S := S) hx cl8 j
        have b2 := fE2 I1.2.1
        have t1 := bt_01 U j
        have hw9 := hw b j
        have cj := hcv j
        have nxs : xsu (alw (spk σ) b U) c S x (j + 1) = if alw (spk σ) b U j = true ∧ (xsu (alw (spk σ) b U) c S x j).1 ≤ S + c j then (S + c j + 1, some j) else xsu (alw (spk σ) b U) c S x j := rfl
        rw [nxs] at nx
        generalize hX : xsu (alw (spk σ) b U) c S x j = X at e1 n1 s1 xl nx
        rw [wb227_57 hc]
        by_cases cU : bt U j = 0
        · have ha : alw (spk σ) b U j = true := by unfold alw; rw [hs, cU]; rfl
          have e4 := bs1 j (by omega)
          have e5 := (bor7 U (by omega) j (by omega)).1
          have k2 : Kp (RSF b) G1 (am_wI G1 831 b (wn j)) := (Kp.refl G1).wI (Or.inr (Or.inl ⟨rfl, Nat.le_refl b⟩)) _
          have I2 := I1.rs k2
          simp +decide (disch := omega) only [↓wm1, wb227_68 hc, wb227_76 hc, wb227_79 hc, wb227_85 hc, wb227_91 hc, w0, w1, rI_wI, rP_wI, rL_wI, rI_wR, rP_wR, is_wI, is_wR, ia_wI, ia_wR, ow_wI, ow_wR, wn_add, wn_mul, wn_cl, wn_le, wn_lt, wn_inj, wn_ne1, wn_1ne, wn_gt1, wn_le1, nb0, nb1, am_kt, am_rt, List.cons_append, List.nil_append, true_and, and_true, not_true_eq_false, not_false_eq_true, imp_f, imp_t, implies_true, Nat.zero_add, if_true, if_false, false_and, and_false, fM I1.1, b2, ia338 I1.1, c1, ct197 I1.1 h808 I1.2.2 b6, hs, b01, ct156 (show U < 256 by omega) (show j < 8 by omega), cU, ow831 I1.1, b6, e4, e5]
          refine ct196 I2.1 I2.2.1 h808 I2.2.2 hbB hj hH9 (fun G3 k3 => ?_)
          have k13 : Kp (RSF b) G1 G3 := k2.trans (k3.mono (fun a i z => Or.inl z))
          have I3 := I1.rs k13
          simp +decide (disch := omega) only [↓wm1, wb227_121 hc, w0, w1, rI_wI, rP_wI, rL_wI, rI_wR, rP_wR, is_wI, is_wR, ia_wI, ia_wR, ow_wI, ow_wR, wn_add, wn_mul, wn_cl, wn_le, wn_lt, wn_inj, wn_ne1, wn_1ne, wn_gt1, wn_le1, nb0, nb1, am_kt, am_rt, List.cons_append, List.nil_append, true_and, and_true, not_true_eq_false, not_false_eq_true, imp_f, imp_t, implies_true, Nat.zero_add, if_true, if_false, false_and, and_false, fM I3.1]
          refine ih (b + 1) (U ||| 2 ^ j) (S + hear δ Λ σ b j) X.1 G3 _ (by omega) I3 (or_H hU hj) (by omega) xl (by rw [k3.i (by unfold HM; omega), rI_wI, if_neg (by omega)]; exact e1) (fun G4 a4 u4 k4 => ?_)
          simp +decide (disch := omega) only [↓wm1, wb227_125 hc, w0, w1, rI_wI, rP_wI, rL_wI, rI_wR, rP_wR, is_wI, is_wR, ia_wI, ia_wR, ow_wI, ow_wR, wn_add, wn_mul, wn_cl, wn_le, wn_lt, wn_inj, wn_ne1, wn_1ne, wn_gt1, wn_le1, nb0, nb1, am_kt, am_rt, List.cons_append, List.nil_append, true_and, and_true, not_true_eq_false, not_false_eq_true, imp_f, imp_t, implies_true, Nat.zero_add, if_true, if_false, false_and, and_false]
          have k14 : Kp (RSF b) G1 G4 := k13.trans (k4.mono (fun a i z => by unfold RSF HM at z; unfold RSF HM; omega))
          have I4 := I1.rs k14
          have eS : S + hear δ Λ σ b j + mo (spk σ) (hear δ Λ σ) (dH δ) (dB δ) k (U ||| 2 ^ j) = S + c j := by rw [cj]; omega
          rw [eS] at a4 u4
          by_cases cz : X.1 ≤ S + c j
          · obtain ⟨y1, y2⟩ := a4 cz
            rw [if_pos ⟨ha, cz⟩] at nx
            refine nx _ _ ⟨I4, y1, (fun z => by cases z), fun h hh i hi => ?_, k1.trans k14, rfl⟩
            have eh : j = h := by injection hh
            subst eh
            rw [y2 i hi]
            by_cases c2 : i < b
            · rw [if_pos (by omega), if_pos c2, k3.i (by unfold HM; omega), rI_wI, if_neg (by omega)]
              exact k1.i (by unfold RSF HM; omega)
            · rw [if_neg c2]
              by_cases c3 : i = b
              · rw [if_pos (by omega), if_pos c3, k3.i (by unfold HM; omega), rI_wI, if_pos ⟨rfl, c3⟩]
              · rw [if_neg (by omega), if_neg c3]
          · obtain ⟨y1, y2⟩ := u4 cz
            rw [if_neg (fun z => cz z.2)] at nx
            have e3 : ∀ i, am_gI G4 832 i = am_gI G1 832 i := fun i => by rw [y2 i, k3.i (by unfold HM; omega), rI_wI, if_neg (by omega)]
            exact nx _ _ ⟨I4, y1, fun z i => by rw [e3]; exact n1 z i, fun h hh i hi => by rw [e3]; exact s1 h hh i hi, k1.trans k14, rfl⟩
        · have cV : bt U j = 1 := by omega
          have ha : alw (spk σ) b U j = false := by unfold alw; rw [hs, cV]; rfl
          rw [if_neg (fun z => by rw [ha] at z; cases z.1)] at nx
          simp +decide (disch := omega) only [↓wm1, wb227_68 hc, wb227_76 hc, wb227_79 hc, wb227_85 hc, wb227_88 hc, wb227_125 hc, w0, w1, rI_wI, rP_wI, rL_wI, rI_wR, rP_wR, is_wI, is_wR, ia_wI, ia_wR, ow_wI, ow_wR, wn_add, wn_mul, wn_cl, wn_le, wn_lt, wn_inj, wn_ne1, wn_1ne, wn_gt1, wn_le1, nb0, nb1, am_kt, am_rt, List.cons_append, List.nil_append, true_and, and_true, not_true_eq_false, not_false_eq_true, imp_f, imp_t, implies_true, Nat.zero_add, if_true, if_false, false_and, and_false, fM I1.1, b2, ia338 I1.1, c1, ct197 I1.1 h808 I1.2.2 b6, hs, b01, ct156 (show U < 256 by omega) (show j < 8 by omega), cV]
          exact nx _ _ ⟨I1, e1, n1, s1, k1, rfl⟩
      · rintro _ G1 ⟨I1, e1, n1, s1, k1, rfl⟩
        have b2 := fE2 I1.2.1
        rw [wb227_57 hc]
        simp +decide (disch := omega) only [↓wm1, w0, w1, rI_wI, rP_wI, rL_wI, rI_wR, rP_wR, is_wI, is_wR, ia_wI, ia_wR, ow_wI, ow_wR, wn_add, wn_mul, wn_cl, wn_le, wn_lt, wn_inj, wn_ne1, wn_1ne, wn_gt1, wn_le1, nb0, nb1, am_kt, am_rt, List.cons_append, List.nil_append, true_and, and_true, not_true_eq_false, not_false_eq_true, imp_f, imp_t, implies_true, Nat.zero_add, if_true, if_false, false_and, and_false, fM I1.1, b2, ia338 I1.1, Nat.le_refl, w1]
        exact fin G1 _ I1 e1 n1 s1 k1
end
section
variable {G : am_G} {d : Nat} {V : Vt}
theorem rsq {G' : am_G} (k : Kp (RSF 0) G G') : Kp QSR G G' := k.mono (fun a i z => by unfold RSF HM at z; unfold QSR; omega)
theorem ct228 {δ : Dt} {Λ : List Tok} {σ : St} {post : am_O → am_G → Prop} (v6 : dB δ ≤ 6) (v7 : dH δ ≤ 7) (hH9 : sH σ < 2147483648) (hI : RI G δ Λ σ) (k : ∀ G', am_gI G' 334 42 = wn (mo (spk σ) (hear δ Λ σ) (dH δ) (dB δ) (dB δ) 0) → (∀ i, i < dB δ → am_gI G' 832 i = gvf (spk σ) (hear δ Λ σ) (dH δ) (dB δ) (dB δ) 0 i) → Kp (RSF 0) G G' → post (.inl none) G') : am_C am_T (dB δ + d + 9) 228 [.ref 334] G post := by
  have hc := am_C_one am_T (dB δ + d + 8)
  have k1 : Kp (RSF 0) G (am_wI G 334 42 mm) := (Kp.refl G).wI (Or.inr (Or.inr (Or.inr ⟨rfl, rfl⟩))) _
  rw [we228]
  simp +decide (disch := omega) only [↓wm1, wb228_0 hc, w0, w1, rI_wI, rP_wI, rL_wI, rI_wR, rP_wR, is_wI, is_wR, ia_wI, ia_wR, ow_wI, ow_wR, wn_add, wn_mul, wn_cl, wn_le, wn_lt, wn_inj, wn_ne1, wn_1ne, wn_gt1, wn_le1, nb0, nb1, am_kt, am_rt, List.cons_append, List.nil_append, true_and, and_true, not_true_eq_false, not_false_eq_true, imp_f, imp_t, implies_true, Nat.zero_add, if_true, if_false, false_and, and_false, fM hI.1]
  refine ct227 v6 v7 hH9 (dB δ) 0 0 0 0 (am_wI G 334 42 mm) _ (by omega) (hI.rs k1) (Nat.two_pow_pos _) (by omega) (by omega) (by rw [rI_wI, if_pos ⟨rfl, rfl⟩, lim_0]) (fun G2 a2 u2 k2 => ?_)
  simp +decide (disch := omega) only [↓wm1, wb228_12 hc, w0, w1, rI_wI, rP_wI, rL_wI, rI_wR, rP_wR, is_wI, is_wR, ia_wI, ia_wR, ow_wI, ow_wR, wn_add, wn_mul, wn_cl, wn_le, wn_lt, wn_inj, wn_ne1, wn_1ne, wn_gt1, wn_le1, nb0, nb1, am_kt, am_rt, List.cons_append, List.nil_append, true_and, and_true, not_true_eq_false, not_false_eq_true, imp_f, imp_t, implies_true, Nat.zero_add, if_true, if_false, false_and, and_false]
  obtain ⟨y1, y2⟩ := a2 (Nat.zero_le _)
  refine k G2 (by rw [y1, Nat.zero_add, lim_s]) (fun i hi => ?_) (k1.trans k2)
  rw [y2 i hi, if_neg (by omega), Nat.sub_zero]
theorem rf_suit (hR : RepR G V) : am_C am_T (d + 20) 229 [.ref 334] G (OR G V 1 (.inl (q_suit V))) := by
  have hc := am_C_one am_T (d + 19)
  have hsh := hR.1
  have hv := hR.2.1
  have v6 := hv.2.2.2.1.1
  have v7 := hv.2.2.2.1.2.1
  have h9 := hv.2.2.2.2.2.1.2
  have k0 := k0R G
  have s0 := hsh.kp k0
  have hR0 := hR.q k0
  have hI : RI (am_wI G 334 0 (wn 0)) (vδ V) (vΛ V) (vσ V) := ⟨hR0.1, hR0.2.2.2.1, hR0.2.2.2.2.1.1⟩
  rw [we229]
  generalize hP : OR G V 1 (.inl (q_suit V)) = P
  simp +decide (disch := omega) only [↓wm1, wb229_0 hc, w0, w1, rI_wI, rP_wI, rL_wI, rI_wR, rP_wR, is_wI, is_wR, ia_wI, ia_wR, ow_wI, ow_wR, wn_add, wn_mul, wn_cl, wn_le, wn_lt, wn_inj, wn_ne1, wn_1ne, wn_gt1, wn_le1, nb0, nb1, am_kt, am_rt, List.cons_append, List.nil_append, true_and, and_true, not_true_eq_false, not_false_eq_true, imp_f, imp_t, implies_true, Nat.zero_add, if_true, if_false, false_and, and_false, fM hsh]
  have hd : d + 19 = dB (vδ V) + (d + 10 - dB (vδ V)) + 9 := by omega
  rw [hd] at hc ⊢
  refine ct228 v6 v7 (by omega) hI (fun G2 e2 g2 k2 => ?_)
  have s2 := s0.kp k2
  simp +decide (disch := omega) only [↓wm1, wb229_9 hc, w0, w1, rI_wI, rP_wI, rL_wI, rI_wR, rP_wR, is_wI, is_wR, ia_wI, ia_wR, ow_wI, ow_wR, wn_add, wn_mul, wn_cl, wn_le, wn_lt, wn_inj, wn_ne1, wn_1ne, wn_gt1, wn_le1, nb0, nb1, am_kt, am_rt, List.cons_append, List.nil_append, true_and, and_true, not_true_eq_false, not_false_eq_true, imp_f, imp_t, implies_true, Nat.zero_add, if_true, if_false, false_and, and_false, fM s2, e2]
  rw [← hP]; exact OR_ok hR (k0.trans (rsq k2)) (k2.thr (by unfold RSF HM; omega) (e0R G))
theorem rf_suited (hR : RepR G V) (x1 : Int32) : am_C am_T (d + 20) 230 [.ref 334, .int x1] G (OR G (rfV V (sp_suited V x1)) 1 (sp_suited V x1)) := by
  have hc := am_C_one am_T (d + 19)
  have hsh := hR.1
  have hv := hR.2.1
  have v6 := hv.2.2.2.1.1
  have v7 := hv.2.2.2.1.2.1
  have h9 := hv.2.2.2.2.2.1.2
  have k0 := k0R G
  have s0 := hsh.kp k0
  have e0 := e0R G
  have hR0 := hR.q k0
  have hI : RI (am_wI G 334 0 (wn 0)) (vδ V) (vΛ V) (vσ V) := ⟨hR0.1, hR0.2.2.2.1, hR0.2.2.2.2.1.1⟩
  unfold sp_suited
  rw [we230]
  rcases vin2_or x1 0 (dB (vδ V)) (by omega) (by omega) with ⟨b1, hl1, hh1, rfl⟩ | hx1
  · have hv1 := vin2_t hl1 hh1 (by omega)
    rw [if_pos hv1, u_wn (by omega)]
    generalize hP : OR G (rfV V (.inl (q_suited V b1))) 1 (.inl (q_suited V b1)) = P
    simp +decide (disch := omega) only [↓wm1, wb230_0 hc, wb230_11 hc, wb230_18 hc, wb230_19 hc, wb230_24 hc, wb230_29 hc, w0, w1, rI_wI, rP_wI, rL_wI, rI_wR, rP_wR, is_wI, is_wR, ia_wI, ia_wR, ow_wI, ow_wR, wn_add, wn_mul, wn_cl, wn_le, wn_lt, wn_inj, wn_ne1, wn_1ne, wn_gt1, wn_le1, nb0, nb1, am_kt, am_rt, List.cons_append, List.nil_append, true_and, and_true, not_true_eq_false, not_false_eq_true, imp_f, imp_t, implies_true, Nat.zero_add, if_true, if_false, false_and, and_false, fM hsh, fM s0, ct214 s0 hI.2.1, hv1, b01, ct152n s0 e0]
    have hd : d + 19 = dB (vδ V) + (d + 10 - dB (vδ V)) + 9 := by omega
    rw [hd] at hc ⊢
    refine ct228 v6 v7 (by omega) hI (fun G2 e2 g2 k2 => ?_)
    have s2 := s0.kp k2
    have b6 : b1 < 6 := by omega
    have e3 := g2 b1 hh1
    simp +decide (disch := omega) only [↓wm1, wb230_33 hc, w0, w1, rI_wI, rP_wI, rL_wI, rI_wR, rP_wR, is_wI, is_wR, ia_wI, ia_wR, ow_wI, ow_wR, wn_add, wn_mul, wn_cl, wn_le, wn_lt, wn_inj, wn_ne1, wn_1ne, wn_gt1, wn_le1, nb0, nb1, am_kt, am_rt, List.cons_append, List.nil_append, true_and, and_true, not_true_eq_false, not_false_eq_true, imp_f, imp_t, implies_true, Nat.zero_add, if_true, if_false, false_and, and_false, fM s2, ia832 s2, b6, e3]
    rw [← hP]; exact OR_ok hR (k0.trans (rsq k2)) (k2.thr (by unfold RSF HM; omega) e0)
  · have hv1 := vin2_f hx1
    rw [if_neg (vin2_nf hx1)]
    generalize hP : OR G (rfV V (.inr 0)) 1 (.inr 0) = P
    simp +decide (disch := omega) only [↓wm1, wb230_0 hc, wb230_11 hc, wb230_14 hc, wb230_19 hc, wb230_24 hc, wb230_27 hc, w0, w1, rI_wI, rP_wI, rL_wI, rI_wR, rP_wR, is_wI, is_wR, ia_wI, ia_wR, ow_wI, ow_wR, wn_add, wn_mul, wn_cl, wn_le, wn_lt, wn_inj, wn_ne1, wn_1ne, wn_gt1, wn_le1, nb0, nb1, am_kt, am_rt, List.cons_append, List.nil_append, true_and, and_true, not_true_eq_false, not_false_eq_true, imp_f, imp_t, implies_true, Nat.zero_add, if_true, if_false, false_and, and_false, fM hsh, fM s0, ct214 s0 hI.2.1, hv1, b01, Bool.false_eq_true, ct152y (c := 1) (r := 0) (by decide) (by decide) (by decide) s0 e0]
    rw [← hP]; exact OR_7 hR k0
end
