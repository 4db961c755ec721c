/-! Questions, both sides: told, a bell, a house, a deed, temper, heard. -/
theorem btl : ∀ T, T < 64 → ∀ j, j < 6 → wn (T % 2 ^ j) ||| (wn (bt T j) <<< (wn j &&& 31)) = wn (T % 2 ^ (j + 1)) := by decide +kernel
def q_told (V : Vt) (w : Nat) : Int32 := match w with
  | 0 => wn (dB (vδ V))
  | 1 => wn (dH (vδ V))
  | 2 => wn (dD (vδ V))
  | 3 => wn (sH (vσ V))
  | 4 => wn (sD (vσ V))
  | 5 => wn (tb (spk (vσ V)) (dB (vδ V)))
  | 6 => wn (sT (vσ V))
  | 7 => wn (tb (dn (vδ V) (vσ V)) (dD (vδ V)))
  | 8 => wn (tsum (tIn (vσ V)) (dH (vδ V)))
  | 9 => wn (vk V).length
  | 10 => wn (vr V)
  | _ => wn (tsum (sP (vσ V)) (dB (vδ V)))
def q_bell (V : Vt) (b w : Nat) : Int32 := match w with
  | 0 => wn (bM (vδ V) b)
  | 1 => wn (bL (vδ V) b)
  | 2 => wn (sC (vσ V) b)
  | 3 => wn (bt (sG (vσ V)) b)
  | 4 => wn (bt (sT (vσ V)) b)
  | _ => wn (sP (vσ V) b)
def q_house (V : Vt) (h w : Nat) : Int32 := match w with
  | 0 => wn (hF (vδ V) h)
  | 1 => wn (hE (vδ V) h)
  | 2 => (mf (fun m => sM (vσ V) (h * 10 + m)) 10).1
  | _ => wn (tIn (vσ V) h)
def q_deed (V : Vt) (e w : Nat) : Int32 := match w with
  | 0 => wn (eH (vδ V) e)
  | 1 => wn (eM (vδ V) e)
  | 2 => wn (eN (vδ V) e)
  | _ => wn (b01 (dn (vδ V) (vσ V) e))
section
variable {G : am_G} {d : Nat} {V : Vt}
theorem ct213_l {δ : Dt} {Λ : List Tok} {σ : St} {x1 : Int32} {post : am_O → am_G → Prop} (hsh : Sh G) (hT : Tm G δ Λ) (hr : rW G 808 0 σ) (ht : sT σ < 2 ^ dB δ) (ht6 : sT σ < 64) (k : am_W (am_C am_T d) am_213 post 65 [some (.ref 334), some (.int x1), some (.int (wn (sT σ))), some (.int (wn (dB δ)))] [] G) :
    am_W (am_C am_T d) am_213 post 35 [some (.ref 334), some (.int x1), some (.int (wn 0)), some (.int (wn 0))] [] G := by
  have hc := am_C_one am_T d
  have v6 := hT.2.1.1
  refine am_for (dB δ) (fun j ls G' => G' = G ∧ ls = [some (.ref 334), some (.int x1), some (.int (wn (sT σ % 2 ^ j))), some (.int (wn j))]) ?_ ?_ (dB δ) 0 (by omega) _ _ ⟨rfl, by rw [Nat.pow_zero, Nat.mod_one]⟩
  · rintro j hj _ _ ⟨rfl, rfl⟩ nx
    have c1 : ¬ dB δ ≤ j := by omega
    have e := (fW hr).2.2.1 j (by omega)
    have e2 := btl (sT σ) ht6 j (by omega)
    rw [wb213_35 hc]
    simp +decide (disch := omega) only [↓wm1, wb213_45 hc, w0, w1, w11, w12, w94, w95, rI_wI, rP_wI, rL_wI, rI_wR, rP_wR, is_wI, is_wR, ia_wI, ia_wR, ow_wI, ow_wR, wn_add, wn_mul, wn_cl, wn_le, wn_lt, wn_inj, wn_ne1, wn_1ne, wn_gt1, wn_le1, nb0, nb1, am_kt, am_rt, List.cons_append, List.nil_append, true_and, and_true, not_true_eq_false, not_false_eq_true, imp_f, imp_t, implies_true, Nat.zero_add, if_true, if_false, false_and, and_false, fM hsh, fE2 hT, ia338 hsh, fR hsh h808, c1, e, e2]
    exact nx _ _ ⟨rfl, rfl⟩
  · rintro _ _ ⟨rfl, rfl⟩
    rw [Nat.mod_eq_of_lt ht]
    rw [wb213_35 hc]
    simp +decide (disch := omega) only [↓wm1, w0, w1, rI_wI, rP_wI, rL_wI, rI_wR, rP_wR, is_wI, is_wR, ia_wI, ia_wR, ow_wI, ow_wR, wn_add, wn_mul, wn_cl, wn_le, wn_lt, wn_inj, wn_ne1, wn_1ne, wn_gt1, wn_le1, nb0, nb1, am_kt, am_rt, List.cons_append, List.nil_append, true_and, and_true, not_true_eq_false, not_false_eq_true, imp_f, imp_t, implies_true, Nat.zero_add, if_true, if_false, false_and, and_false, fM hsh, fE2 hT, ia338 hsh, Nat.le_refl]
    exact k
def sp_told (V : Vt) (x1 : Int32) : Res := if vin2 x1 0 (12) = true then .inl (q_told V (u x1)) else .inr 1
theorem cl_told (hR : RepC G V) (hB : am_rm G 1 6) (x1 : Int32) : am_C am_T (d + 12) 108 [.ref 0, .int x1] G (OC G (rfV V (sp_told V x1)) (sp_told V x1)) := by
  have hc := am_C_one am_T (d + 11)
  have hsh := hR.1
  have hv := hR.2.1
  obtain ⟨q, l, hT, -, -⟩ := hR.2.2.2.1
  have hr := hR.2.2.2.2.1.1
  have vd := hv.2.2.2.1
  have bB := vd.1
  have bH := vd.2.1
  have bD := vd.2.2.1
  have hs9 := hv.2.2.2.2.2.1
  have hvs := hs9.1
  have hg := hvs.g6 bB
  have ht := hvs.t6 bB
  have hm := hvs.2.2.2.2.2.1
  have h9 := hs9.2
  have p6 : 2 ^ dB (vδ V) ≤ 64 := Nat.pow_le_pow_right (n := 2) (by decide) bB
  have e6 := bs1 (dB (vδ V)) (by omega)
  unfold sp_told
  rw [we108]
  rcases vin2_or x1 0 (12) (by omega) (by omega) with ⟨b1, hl1, hh1, rfl⟩ | hx1
  · rw [if_pos (vin2_t hl1 hh1 (by omega))]
    have na1 : ¬ b1 < 0 := by omega
    have nb1 : ¬ 12 ≤ b1 := by omega
    have nc1 : ¬ 11 < b1 := by omega
    simp only [u_wn (show b1 < 2147483648 by omega)]
    generalize hP : OC G (rfV V (.inl (q_told V b1))) (.inl (q_told V b1)) = P
    simp +decide (disch := omega) only [↓wm1, wb108_0 hc, wb108_5 hc, wb108_11 hc, wb108_15 hc, wb108_16 hc, wb108_19 hc, wb108_80 hc, wb108_91 hc, wb108_102 hc, wb108_113 hc, wb108_124 hc, wb108_135 hc, wb108_149 hc, wb108_150 hc, wb108_161 hc, wb108_175 hc, wb108_176 hc, wb108_186 hc, wb108_187 hc, wb108_195 hc, wb108_200 hc, wb108_210 hc, w0, w1, w11, rI_wI, rP_wI, rL_wI, rI_wR, rP_wR, is_wI, is_wR, ia_wI, ia_wR, ow_wI, ow_wR, wn_add, wn_mul, wn_cl, wn_le, wn_lt, wn_inj, wn_ne1, wn_1ne, wn_gt1, wn_le1, nb0, nb1, am_kt, am_rt, List.cons_append, List.nil_append, true_and, and_true, not_true_eq_false, not_false_eq_true, imp_f, imp_t, implies_true, Nat.zero_add, if_true, if_false, false_and, and_false, cn108, fC hsh, fW2 hsh hT, fD hsh hT.2.2.1, e6, na1, nb1, hh1, nc1, ct139y (v := 1) (by decide) (by decide)]
    simp only [am_swc_iff]
    have hcs : b1 = 0 ∨ b1 = 1 ∨ b1 = 2 ∨ b1 = 3 ∨ b1 = 4 ∨ b1 = 5 ∨ b1 = 6 ∨ b1 = 7 ∨ b1 = 8 ∨ b1 = 9 ∨ b1 = 10 ∨ b1 = 11 := by omega
    rcases hcs with rfl | rfl | rfl | rfl | rfl | rfl | rfl | rfl | rfl | rfl | rfl | rfl
    · rw [show am_swt (wn 0) (wn 0) [80, 91, 102, 113, 124, 135, 150, 161, 176, 187, 195] 200 = 80 from by decide +kernel]
      simp +decide (disch := omega) only [↓wm1, wb108_80 hc, w0, w1, w11, rI_wI, rP_wI, rL_wI, rI_wR, rP_wR, is_wI, is_wR, ia_wI, ia_wR, ow_wI, ow_wR, wn_add, wn_mul, wn_cl, wn_le, wn_lt, wn_inj, wn_ne1, wn_1ne, wn_gt1, wn_le1, nb0, nb1, am_kt, am_rt, List.cons_append, List.nil_append, true_and, and_true, not_true_eq_false, not_false_eq_true, imp_f, imp_t, implies_true, Nat.zero_add, if_true, if_false, false_and, and_false, cn108, fC hsh, fW2 hsh hT, fD hsh hT.2.2.1, fS hsh h32]
      rw [← hP]; exact OC_ok hR (Kp.refl G)
    · rw [show am_swt (wn 1) (wn 0) [80, 91, 102, 113, 124, 135, 150, 161, 176, 187, 195] 200 = 91 from by decide +kernel]
      simp +decide (disch := omega) only [↓wm1, wb108_91 hc, w0, w1, w11, rI_wI, rP_wI, rL_wI, rI_wR, rP_wR, is_wI, is_wR, ia_wI, ia_wR, ow_wI, ow_wR, wn_add, wn_mul, wn_cl, wn_le, wn_lt, wn_inj, wn_ne1, wn_1ne, wn_gt1, wn_le1, nb0, nb1, am_kt, am_rt, List.cons_append, List.nil_append, true_and, and_true, not_true_eq_false, not_false_eq_true, imp_f, imp_t, implies_true, Nat.zero_add, if_true, if_false, false_and, and_false, cn108, fC hsh, fW2 hsh hT, fD hsh hT.2.2.1, fS hsh h32]
      rw [← hP]; exact OC_ok hR (Kp.refl G)
    · rw [show am_swt (wn 2) (wn 0) [80, 91, 102, 113, 124, 135, 150, 161, 176, 187, 195] 200 = 102 from by decide +kernel]
      simp +decide (disch := omega) only [↓wm1, wb108_102 hc, w0, w1, w11, rI_wI, rP_wI, rL_wI, rI_wR, rP_wR, is_wI, is_wR, ia_wI, ia_wR, ow_wI, ow_wR, wn_add, wn_mul, wn_cl, wn_le, wn_lt, wn_inj, wn_ne1, wn_1ne, wn_gt1, wn_le1, nb0, nb1, am_kt, am_rt, List.cons_append, List.nil_append, true_and, and_true, not_true_eq_false, not_false_eq_true, imp_f, imp_t, implies_true, Nat.zero_add, if_true, if_false, false_and, and_false, cn108, fC hsh, fW2 hsh hT, fD hsh hT.2.2.1, fS hsh h32]
      rw [← hP]; exact OC_ok hR (Kp.refl G)
    · rw [show am_swt (wn 3) (wn 0) [80, 91, 102, 113, 124, 135, 150, 161, 176, 187, 195] 200 = 113 from by decide +kernel]
      simp +decide (disch := omega) only [↓wm1, wb108_113 hc, w0, w1, w11, rI_wI, rP_wI, rL_wI, rI_wR, rP_wR, is_wI, is_wR, ia_wI, ia_wR, ow_wI, ow_wR, wn_add, wn_mul, wn_cl, wn_le, wn_lt, wn_inj, wn_ne1, wn_1ne, wn_gt1, wn_le1, nb0, nb1, am_kt, am_rt, List.cons_append, List.nil_append, true_and, and_true, not_true_eq_false, not_false_eq_true, imp_f, imp_t, implies_true, Nat.zero_add, if_true, if_false, false_and, and_false, cn108, fC hsh, fW2 hsh hT, fD hsh hT.2.2.1, fS hsh h32, hr.1]
      rw [← hP]; exact OC_ok hR (Kp.refl G)
    · rw [show am_swt (wn 4) (wn 0) [80, 91, 102, 113, 124, 135, 150, 161, 176, 187, 195] 200 = 124 from by decide +kernel]
      simp +decide (disch := omega) only [↓wm1, wb108_124 hc, w0, w1, w11, rI_wI, rP_wI, rL_wI, rI_wR, rP_wR, is_wI, is_wR, ia_wI, ia_wR, ow_wI, ow_wR, wn_add, wn_mul, wn_cl, wn_le, wn_lt, wn_inj, wn_ne1, wn_1ne, wn_gt1, wn_le1, nb0, nb1, am_kt, am_rt, List.cons_append, List.nil_append, true_and, and_true, not_true_eq_false, not_false_eq_true, imp_f, imp_t, implies_true, Nat.zero_add, if_true, if_false, false_and, and_false, cn108, fC hsh, fW2 hsh hT, fD hsh hT.2.2.1, fS hsh h32, hr.2.1]
      rw [← hP]; exact OC_ok hR (Kp.refl G)
    · rw [show am_swt (wn 5) (wn 0) [80, 91, 102, 113, 124, 135, 150, 161, 176, 187, 195] 200 = 135 from by decide +kernel]
      simp +decide (disch := omega) only [↓wm1, wb108_135 hc, wb108_149 hc, w0, w1, w11, rI_wI, rP_wI, rL_wI, rI_wR, rP_wR, is_wI, is_wR, ia_wI, ia_wR, ow_wI, ow_wR, wn_add, wn_mul, wn_cl, wn_le, wn_lt, wn_inj, wn_ne1, wn_1ne, wn_gt1, wn_le1, nb0, nb1, am_kt, am_rt, List.cons_append, List.nil_append, true_and, and_true, not_true_eq_false, not_false_eq_true, imp_f, imp_t, implies_true, Nat.zero_add, if_true, if_false, false_and, and_false, cn108, fC hsh, fW2 hsh hT, fD hsh hT.2.2.1, fS hsh h32, ct87 hsh hT h32 hr hg ht]
      rw [← hP]; exact OC_ok hR (Kp.refl G)
    · rw [show am_swt (wn 6) (wn 0) [80, 91, 102, 113, 124, 135, 150, 161, 176, 187, 195] 200 = 150 from by decide +kernel]
      simp +decide (disch := omega) only [↓wm1, wb108_150 hc, w0, w1, w11, rI_wI, rP_wI, rL_wI, rI_wR, rP_wR, is_wI, is_wR, ia_wI, ia_wR, ow_wI, ow_wR, wn_add, wn_mul, wn_cl, wn_le, wn_lt, wn_inj, wn_ne1, wn_1ne, wn_gt1, wn_le1, nb0, nb1, am_kt, am_rt, List.cons_append, List.nil_append, true_and, and_true, not_true_eq_false, not_false_eq_true, imp_f, imp_t, implies_true, Nat.zero_add, if_true, if_false, false_and, and_false, cn108, fC hsh, fW2 hsh hT, fD hsh hT.2.2.1, fS hsh h32, hr.2.2.2.1]
      rw [← hP]; exact OC_ok hR (Kp.refl G)
    · rw [show am_swt (wn 7) (wn 0) [80, 91, 102, 113, 124, 135, 150, 161, 176, 187, 195] 200 = 161 from by decide +kernel]
      simp +decide (disch := omega) only [↓wm1, wb108_161 hc, wb108_175 hc, w0, w1, w11, rI_wI, rP_wI, rL_wI, rI_wR, rP_wR, is_wI, is_wR, ia_wI, ia_wR, ow_wI, ow_wR, wn_add, wn_mul, wn_cl, wn_le, wn_lt, wn_inj, wn_ne1, wn_1ne, wn_gt1, wn_le1, nb0, nb1, am_kt, am_rt, List.cons_append, List.nil_append, true_and, and_true, not_true_eq_false, not_false_eq_true, imp_f, imp_t, implies_true, Nat.zero_add, if_true, if_false, false_and, and_false, cn108, fC hsh, fW2 hsh hT, fD hsh hT.2.2.1, fS hsh h32, ct88 hsh hT h32 hr hm]
      rw [← hP]; exact OC_ok hR (Kp.refl G)
    · rw [show am_swt (wn 8) (wn 0) [80, 91, 102, 113, 124, 135, 150, 161, 176, 187, 195] 200 = 176 from by decide +kernel]
      simp +decide (disch := omega) only [↓wm1, wb108_176 hc, wb108_186 hc, w0, w1, w11, rI_wI, rP_wI, rL_wI, rI_wR, rP_wR, is_wI, is_wR, ia_wI, ia_wR, ow_wI, ow_wR, wn_add, wn_mul, wn_cl, wn_le, wn_lt, wn_inj, wn_ne1, wn_1ne, wn_gt1, wn_le1, nb0, nb1, am_kt, am_rt, List.cons_append, List.nil_append, true_and, and_true, not_true_eq_false, not_false_eq_true, imp_f, imp_t, implies_true, Nat.zero_add, if_true, if_false, false_and, and_false, cn108, fC hsh, fW2 hsh hT, fD hsh hT.2.2.1, fS hsh h32, ct58i hsh h32 hr, tAll_eq hvs bH]
      rw [← hP]; exact OC_ok hR (Kp.refl G)
    · rw [show am_swt (wn 9) (wn 0) [80, 91, 102, 113, 124, 135, 150, 161, 176, 187, 195] 200 = 187 from by decide +kernel]
      simp +decide (disch := omega) only [↓wm1, wb108_187 hc, w0, w1, w11, rI_wI, rP_wI, rL_wI, rI_wR, rP_wR, is_wI, is_wR, ia_wI, ia_wR, ow_wI, ow_wR, wn_add, wn_mul, wn_cl, wn_le, wn_lt, wn_inj, wn_ne1, wn_1ne, wn_gt1, wn_le1, nb0, nb1, am_kt, am_rt, List.cons_append, List.nil_append, true_and, and_true, not_true_eq_false, not_false_eq_true, imp_f, imp_t, implies_true, Nat.zero_add, if_true, if_false, false_and, and_false, cn108, fC hsh, fW2 hsh hT, fD hsh hT.2.2.1, fS hsh h32, hR.2.2.2.2.2.2.1.1]
      rw [← hP]; exact OC_ok hR (Kp.refl G)
    · rw [show am_swt (wn 10) (wn 0) [80, 91, 102, 113, 124, 135, 150, 161, 176, 187, 195] 200 = 195 from by decide +kernel]
      simp +decide (disch := omega) only [↓wm1, wb108_195 hc, w0, w1, w11, rI_wI, rP_wI, rL_wI, rI_wR, rP_wR, is_wI, is_wR, ia_wI, ia_wR, ow_wI, ow_wR, wn_add, wn_mul, wn_cl, wn_le, wn_lt, wn_inj, wn_ne1, wn_1ne, wn_gt1, wn_le1, nb0, nb1, am_kt, am_rt, List.cons_append, List.nil_append, true_and, and_true, not_true_eq_false, not_false_eq_true, imp_f, imp_t, implies_true, Nat.zero_add, if_true, if_false, false_and, and_false, cn108, fC hsh, fW2 hsh hT, fD hsh hT.2.2.1, fS hsh h32, hR.2.2.2.2.2.2.2.1.1]
      rw [← hP]; exact OC_ok hR (Kp.refl G)
    · rw [show am_swt (wn 11) (wn 0) [80, 91, 102, 113, 124, 135, 150, 161, 176, 187, 195] 200 = 200 from by decide +kernel]
      simp +decide (disch := omega) only [↓wm1, wb108_200 hc, wb108_210 hc, w0, w1, w11, rI_wI, rP_wI, rL_wI, rI_wR, rP_wR, is_wI, is_wR, ia_wI, ia_wR, ow_wI, ow_wR, wn_add, wn_mul, wn_cl, wn_le, wn_lt, wn_inj, wn_ne1, wn_1ne, wn_gt1, wn_le1, nb0, nb1, am_kt, am_rt, List.cons_append, List.nil_append, true_and, and_true, not_true_eq_false, not_false_eq_true, imp_f, imp_t, implies_true, Nat.zero_add, if_true, if_false, false_and, and_false, cn108, fC hsh, fW2 hsh hT, fD hsh hT.2.2.1, fS hsh h32, ct59i hsh h32 hr, pAll_eq hvs bB]
      rw [← hP]; exact OC_ok hR (Kp.refl G)
  · rw [if_neg (vin2_nf hx1)]
    generalize hP : OC G (rfV V (.inr 1)) (.inr 1) = P
    by_cases hxa : x1 < wn 0
    · simp +decide (disch := omega) only [↓wm1, wb108_0 hc, wb108_5 hc, wb108_11 hc, wb108_15 hc, wb108_16 hc, wb108_19 hc, wb108_80 hc, wb108_91 hc, wb108_102 hc, wb108_113 hc, wb108_124 hc, wb108_135 hc, wb108_149 hc, wb108_150 hc, wb108_161 hc, wb108_175 hc, wb108_176 hc, wb108_186 hc, wb108_187 hc, wb108_195 hc, wb108_200 hc, wb108_210 hc, w0, w1, w11, rI_wI, rP_wI, rL_wI, rI_wR, rP_wR, is_wI, is_wR, ia_wI, ia_wR, ow_wI, ow_wR, wn_add, wn_mul, wn_cl, wn_le, wn_lt, wn_inj, wn_ne1, wn_1ne, wn_gt1, wn_le1, nb0, nb1, am_kt, am_rt, List.cons_append, List.nil_append, true_and, and_true, not_true_eq_false, not_false_eq_true, imp_f, imp_t, implies_true, Nat.zero_add, if_true, if_false, false_and, and_false, cn108, fC hsh, fW2 hsh hT, fD hsh hT.2.2.1, e6, hxa, ct139n hsh hB]
      rw [← hP]; exact OC_8 hR hB
    · have hxb : ¬ x1 < wn (12) := by rcases hx1 with z | z; exact absurd z hxa; exact z
      have hxc : wn (12) ≤ x1 := Int32.not_lt.mp hxb
      have hxd : wn 11 < x1 := out3 (by decide) hxb
      simp +decide (disch := omega) only [↓wm1, wb108_0 hc, wb108_5 hc, wb108_11 hc, wb108_15 hc, wb108_16 hc, wb108_19 hc, wb108_80 hc, wb108_91 hc, wb108_102 hc, wb108_113 hc, wb108_124 hc, wb108_135 hc, wb108_149 hc, wb108_150 hc, wb108_161 hc, wb108_175 hc, wb108_176 hc, wb108_186 hc, wb108_187 hc, wb108_195 hc, wb108_200 hc, wb108_210 hc, w0, w1, w11, rI_wI, rP_wI, rL_wI, rI_wR, rP_wR, is_wI, is_wR, ia_wI, ia_wR, ow_wI, ow_wR, wn_add, wn_mul, wn_cl, wn_le, wn_lt, wn_inj, wn_ne1, wn_1ne, wn_gt1, wn_le1, nb0, nb1, am_kt, am_rt, List.cons_append, List.nil_append, true_and, and_true, not_true_eq_false, not_false_eq_true, imp_f, imp_t, implies_true, Nat.zero_add, if_true, if_false, false_and, and_false, cn108, fC hsh, fW2 hsh hT, fD hsh hT.2.2.1, e6, hxa, hxb, hxc, hxd, ct139n hsh hB]
      rw [← hP]; exact OC_8 hR hB
theorem rf_told (hR : RepR G V) (x1 : Int32) : am_C am_T (d + 12) 213 [.ref 334, .int x1] G (OR G (rfV V (sp_told V x1)) 1 (sp_told V x1)) := by
  have hc := am_C_one am_T (d + 11)
  have k0 : Kp QSR G (am_wI G 334 0 (wn 0)) := (Kp.refl G).wI (Or.inl ⟨rfl, Or.inl rfl⟩) _
  have e0 : am_gI (am_wI G 334 0 (wn 0)) 334 0 = wn 0 := by rw [rI_wI, if_pos ⟨rfl, rfl⟩]
  have hR0 := hR.q k0
  have hshG := hR.1
  unfold sp_told
  rw [we213]
  generalize hOR : OR G = OG
  simp +decide (disch := omega) only [↓wm1, wb213_0 hc, w0, w1, w11, w12, w94, w95, rI_wI, rP_wI, rL_wI, rI_wR, rP_wR, is_wI, is_wR, ia_wI, ia_wR, ow_wI, ow_wR, wn_add, wn_mul, wn_cl, wn_le, wn_lt, wn_inj, wn_ne1, wn_1ne, wn_gt1, wn_le1, nb0, nb1, am_kt, am_rt, List.cons_append, List.nil_append, true_and, and_true, not_true_eq_false, not_false_eq_true, imp_f, imp_t, implies_true, Nat.zero_add, if_true, if_false, false_and, and_false, fM hshG, fE2 hR.2.2.2.1, ia338 hshG]
  generalize am_wI G 334 0 (wn 0) = G0 at k0 e0 hR0 ⊢
  subst hOR
  have hsh := hR0.1
  have hv := hR0.2.1
  have hT := hR0.2.2.2.1
  have hr := hR0.2.2.2.2.1.1
  have vd := hv.2.2.2.1
  have bB := vd.1
  have bH := vd.2.1
  have bD := vd.2.2.1
  have hs9 := hv.2.2.2.2.2.1
  have hvs := hs9.1
  have hg := hvs.g6 bB
  have ht := hvs.t6 bB
  have hm := hvs.2.2.2.2.2.1
  have h9 := hs9.2
  have p6 : 2 ^ dB (vδ V) ≤ 64 := Nat.pow_le_pow_right (n := 2) (by decide) bB
  have e6 := bs1 (dB (vδ V)) (by omega)
  rcases vin2_or x1 0 (12) (by omega) (by omega) with ⟨b1, hl1, hh1, rfl⟩ | hx1
  · rw [if_pos (vin2_t hl1 hh1 (by omega))]
    simp only [u_wn (show b1 < 2147483648 by omega)]
    generalize hP : OR G (rfV V (.inl (q_told V b1))) 1 (.inl (q_told V b1)) = P
    simp +decide (disch := omega) only [↓wm1, wb213_0 hc, wb213_13 hc, wb213_16 hc, wb213_20 hc, wb213_21 hc, wb213_26 hc, wb213_29 hc, wb213_31 hc, wb213_45 hc, wb213_65 hc, wb213_124 hc, wb213_131 hc, wb213_139 hc, wb213_147 hc, wb213_155 hc, wb213_156 hc, wb213_158 hc, wb213_166 hc, wb213_167 hc, wb213_175 hc, wb213_176 hc, wb213_181 hc, wb213_186 hc, wb213_194 hc, w0, w1, w11, w12, w94, w95, rI_wI, rP_wI, rL_wI, rI_wR, rP_wR, is_wI, is_wR, ia_wI, ia_wR, ow_wI, ow_wR, wn_add, wn_mul, wn_cl, wn_le, wn_lt, wn_inj, wn_ne1, wn_1ne, wn_gt1, wn_le1, nb0, nb1, am_kt, am_rt, List.cons_append, List.nil_append, true_and, and_true, not_true_eq_false, not_false_eq_true, imp_f, imp_t, implies_true, Nat.zero_add, if_true, if_false, false_and, and_false, fM hsh, fE2 hT, ia338 hsh, e6, b01, if_true, Bool.false_eq_true, ct214 hsh hT, ct215 hsh hT, ct220, ct153c, ct153v, ct152n hsh e0, vin2_t hl1 hh1 (by omega)]
    refine ct213_l hsh hT hr hvs.2.2.2.1 ht ?_
    simp +decide (disch := omega) only [↓wm1, wb213_65 hc, w0, w1, w11, w12, w94, w95, rI_wI, rP_wI, rL_wI, rI_wR, rP_wR, is_wI, is_wR, ia_wI, ia_wR, ow_wI, ow_wR, wn_add, wn_mul, wn_cl, wn_le, wn_lt, wn_inj, wn_ne1, wn_1ne, wn_gt1, wn_le1, nb0, nb1, am_kt, am_rt, List.cons_append, List.nil_append, true_and, and_true, not_true_eq_false, not_false_eq_true, imp_f, imp_t, implies_true, Nat.zero_add, if_true, if_false, false_and, and_false]
    simp only [am_swc_iff]
    have hcs : b1 = 0 ∨ b1 = 1 ∨ b1 = 2 ∨ b1 = 3 ∨ b1 = 4 ∨ b1 = 5 ∨ b1 = 6 ∨ b1 = 7 ∨ b1 = 8 ∨ b1 = 9 ∨ b1 = 10 ∨ b1 = 11 := by omega
    rcases hcs with rfl | rfl | rfl | rfl | rfl | rfl | rfl | rfl | rfl | rfl | rfl | rfl
    · rw [show am_swt (wn 0) (wn 0) [124, 124, 124, 131, 139, 147, 156, 158, 167, 176, 181] 186 = 124 from by decide +kernel]
      simp +decide (disch := omega) only [↓wm1, wb213_124 hc, w0, w1, w11, w12, w94, w95, rI_wI, rP_wI, rL_wI, rI_wR, rP_wR, is_wI, is_wR, ia_wI, ia_wR, ow_wI, ow_wR, wn_add, wn_mul, wn_cl, wn_le, wn_lt, wn_inj, wn_ne1, wn_1ne, wn_gt1, wn_le1, nb0, nb1, am_kt, am_rt, List.cons_append, List.nil_append, true_and, and_true, not_true_eq_false, not_false_eq_true, imp_f, imp_t, implies_true, Nat.zero_add, if_true, if_false, false_and, and_false, fM hsh, fE2 hT, ia338 hsh]
      rw [← hP]; exact OR_ok hR k0 e0
    · rw [show am_swt (wn 1) (wn 0) [124, 124, 124, 131, 139, 147, 156, 158, 167, 176, 181] 186 = 124 from by decide +kernel]
      simp +decide (disch := omega) only [↓wm1, wb213_124 hc, w0, w1, w11, w12, w94, w95, rI_wI, rP_wI, rL_wI, rI_wR, rP_wR, is_wI, is_wR, ia_wI, ia_wR, ow_wI, ow_wR, wn_add, wn_mul, wn_cl, wn_le, wn_lt, wn_inj, wn_ne1, wn_1ne, wn_gt1, wn_le1, nb0, nb1, am_kt, am_rt, List.cons_append, List.nil_append, true_and, and_true, not_true_eq_false, not_false_eq_true, imp_f, imp_t, implies_true, Nat.zero_add, if_true, if_false, false_and, and_false, fM hsh, fE2 hT, ia338 hsh]
      rw [← hP]; exact OR_ok hR k0 e0
    · rw [show am_swt (wn 2) (wn 0) [124, 124, 124, 131, 139, 147, 156, 158, 167, 176, 181] 186 = 124 from by decide +kernel]
      simp +decide (disch := omega) only [↓wm1, wb213_124 hc, w0, w1, w11, w12, w94, w95, rI_wI, rP_wI, rL_wI, rI_wR, rP_wR, is_wI, is_wR, ia_wI, ia_wR, ow_wI, ow_wR, wn_add, wn_mul, wn_cl, wn_le, wn_lt, wn_inj, wn_ne1, wn_1ne, wn_gt1, wn_le1, nb0, nb1, am_kt, am_rt, List.cons_append, List.nil_append, true_and, and_true, not_true_eq_false, not_false_eq_true, imp_f, imp_t, implies_true, Nat.zero_add, if_true, if_false, false_and, and_false, fM hsh, fE2 hT, ia338 hsh]
      rw [← hP]; exact OR_ok hR k0 e0
    · rw [show am_swt (wn 3) (wn 0) [124, 124, 124, 131, 139, 147, 156, 158, 167, 176, 181] 186 = 131 from by decide +kernel]
      simp +decide (disch := omega) only [↓wm1, wb213_131 hc, w0, w1, w11, w12, w94, w95, rI_wI, rP_wI, rL_wI, rI_wR, rP_wR, is_wI, is_wR, ia_wI, ia_wR, ow_wI, ow_wR, wn_add, wn_mul, wn_cl, wn_le, wn_lt, wn_inj, wn_ne1, wn_1ne, wn_gt1, wn_le1, nb0, nb1, am_kt, am_rt, List.cons_append, List.nil_append, true_and, and_true, not_true_eq_false, not_false_eq_true, imp_f, imp_t, implies_true, Nat.zero_add, if_true, if_false, false_and, and_false, fM hsh, fE2 hT, ia338 hsh, fR hsh h808, (fW hr).2.2.2.2.2.2]
      rw [← hP]; exact OR_ok hR k0 e0
    · rw [show am_swt (wn 4) (wn 0) [124, 124, 124, 131, 139, 147, 156, 158, 167, 176, 181] 186 = 139 from by decide +kernel]
      simp +decide (disch := omega) only [↓wm1, wb213_139 hc, w0, w1, w11, w12, w94, w95, rI_wI, rP_wI, rL_wI, rI_wR, rP_wR, is_wI, is_wR, ia_wI, ia_wR, ow_wI, ow_wR, wn_add, wn_mul, wn_cl, wn_le, wn_lt, wn_inj, wn_ne1, wn_1ne, wn_gt1, wn_le1, nb0, nb1, am_kt, am_rt, List.cons_append, List.nil_append, true_and, and_true, not_true_eq_false, not_false_eq_true, imp_f, imp_t, implies_true, Nat.zero_add, if_true, if_false, false_and, and_false, fM hsh, fE2 hT, ia338 hsh, fR hsh h808, (fW hr).2.2.2.2.2.1]
      rw [← hP]; exact OR_ok hR k0 e0
    · rw [show am_swt (wn 5) (wn 0) [124, 124, 124, 131, 139, 147, 156, 158, 167, 176, 181] 186 = 147 from by decide +kernel]
      simp +decide (disch := omega) only [↓wm1, wb213_147 hc, wb213_155 hc, w0, w1, w11, w12, w94, w95, rI_wI, rP_wI, rL_wI, rI_wR, rP_wR, is_wI, is_wR, ia_wI, ia_wR, ow_wI, ow_wR, wn_add, wn_mul, wn_cl, wn_le, wn_lt, wn_inj, wn_ne1, wn_1ne, wn_gt1, wn_le1, nb0, nb1, am_kt, am_rt, List.cons_append, List.nil_append, true_and, and_true, not_true_eq_false, not_false_eq_true, imp_f, imp_t, implies_true, Nat.zero_add, if_true, if_false, false_and, and_false, fM hsh, fE2 hT, ia338 hsh, ct198 hsh hT h808 hr]
      rw [← hP]; exact OR_ok hR k0 e0
    · rw [show am_swt (wn 6) (wn 0) [124, 124, 124, 131, 139, 147, 156, 158, 167, 176, 181] 186 = 156 from by decide +kernel]
      simp +decide (disch := omega) only [↓wm1, wb213_156 hc, w0, w1, w11, w12, w94, w95, rI_wI, rP_wI, rL_wI, rI_wR, rP_wR, is_wI, is_wR, ia_wI, ia_wR, ow_wI, ow_wR, wn_add, wn_mul, wn_cl, wn_le, wn_lt, wn_inj, wn_ne1, wn_1ne, wn_gt1, wn_le1, nb0, nb1, am_kt, am_rt, List.cons_append, List.nil_append, true_and, and_true, not_true_eq_false, not_false_eq_true, imp_f, imp_t, implies_true, Nat.zero_add, if_true, if_false, false_and, and_false, fM hsh, fE2 hT, ia338 hsh]
      rw [← hP]; exact OR_ok hR k0 e0
    · rw [show am_swt (wn 7) (wn 0) [124, 124, 124, 131, 139, 147, 156, 158, 167, 176, 181] 186 = 158 from by decide +kernel]
      simp +decide (disch := omega) only [↓wm1, wb213_158 hc, wb213_166 hc, w0, w1, w11, w12, w94, w95, rI_wI, rP_wI, rL_wI, rI_wR, rP_wR, is_wI, is_wR, ia_wI, ia_wR, ow_wI, ow_wR, wn_add, wn_mul, wn_cl, wn_le, wn_lt, wn_inj, wn_ne1, wn_1ne, wn_gt1, wn_le1, nb0, nb1, am_kt, am_rt, List.cons_append, List.nil_append, true_and, and_true, not_true_eq_false, not_false_eq_true, imp_f, imp_t, implies_true, Nat.zero_add, if_true, if_false, false_and, and_false, fM hsh, fE2 hT, ia338 hsh, ct211 hsh hT h808 hr hm]
      rw [← hP]; exact OR_ok hR k0 e0
    · rw [show am_swt (wn 8) (wn 0) [124, 124, 124, 131, 139, 147, 156, 158, 167, 176, 181] 186 = 167 from by decide +kernel]
      simp +decide (disch := omega) only [↓wm1, wb213_167 hc, wb213_175 hc, w0, w1, w11, w12, w94, w95, rI_wI, rP_wI, rL_wI, rI_wR, rP_wR, is_wI, is_wR, ia_wI, ia_wR, ow_wI, ow_wR, wn_add, wn_mul, wn_cl, wn_le, wn_lt, wn_inj, wn_ne1, wn_1ne, wn_gt1, wn_le1, nb0, nb1, am_kt, am_rt, List.cons_append, List.nil_append, true_and, and_true, not_true_eq_false, not_false_eq_true, imp_f, imp_t, implies_true, Nat.zero_add, if_true, if_false, false_and, and_false, fM hsh, fE2 hT, ia338 hsh, ct208 hsh hT h808 hr]
      rw [← hP]; exact OR_ok hR k0 e0
    · rw [show am_swt (wn 9) (wn 0) [124, 124, 124, 131, 139, 147, 156, 158, 167, 176, 181] 186 = 176 from by decide +kernel]
      simp +decide (disch := omega) only [↓wm1, wb213_176 hc, w0, w1, w11, w12, w94, w95, rI_wI, rP_wI, rL_wI, rI_wR, rP_wR, is_wI, is_wR, ia_wI, ia_wR, ow_wI, ow_wR, wn_add, wn_mul, wn_cl, wn_le, wn_lt, wn_inj, wn_ne1, wn_1ne, wn_gt1, wn_le1, nb0, nb1, am_kt, am_rt, List.cons_append, List.nil_append, true_and, and_true, not_true_eq_false, not_false_eq_true, imp_f, imp_t, implies_true, Nat.zero_add, if_true, if_false, false_and, and_false, fM hsh, fE2 hT, ia338 hsh, hR0.2.2.2.2.2.2.1.1]
      rw [← hP]; exact OR_ok hR k0 e0
    · rw [show am_swt (wn 10) (wn 0) [124, 124, 124, 131, 139, 147, 156, 158, 167, 176, 181] 186 = 181 from by decide +kernel]
      simp +decide (disch := omega) only [↓wm1, wb213_181 hc, w0, w1, w11, w12, w94, w95, rI_wI, rP_wI, rL_wI, rI_wR, rP_wR, is_wI, is_wR, ia_wI, ia_wR, ow_wI, ow_wR, wn_add, wn_mul, wn_cl, wn_le, wn_lt, wn_inj, wn_ne1, wn_1ne, wn_gt1, wn_le1, nb0, nb1, am_kt, am_rt, List.cons_append, List.nil_append, true_and, and_true, not_true_eq_false, not_false_eq_true, imp_f, imp_t, implies_true, Nat.zero_add, if_true, if_false, false_and, and_false, fM hsh, fE2 hT, ia338 hsh, hR0.2.2.2.2.2.2.2.1]
      rw [← hP]; exact OR_ok hR k0 e0
    · rw [show am_swt (wn 11) (wn 0) [124, 124, 124, 131, 139, 147, 156, 158, 167, 176, 181] 186 = 186 from by decide +kernel]
      simp +decide (disch := omega) only [↓wm1, wb213_186 hc, wb213_194 hc, w0, w1, w11, w12, w94, w95, rI_wI, rP_wI, rL_wI, rI_wR, rP_wR, is_wI, is_wR, ia_wI, ia_wR, ow_wI, ow_wR, wn_add, wn_mul, wn_cl, wn_le, wn_lt, wn_inj, wn_ne1, wn_1ne, wn_gt1, wn_le1, nb0, nb1, am_kt, am_rt, List.cons_append, List.nil_append, true_and, and_true, not_true_eq_false, not_false_eq_true, imp_f, imp_t, implies_true, Nat.zero_add, if_true, if_false, false_and, and_false, fM hsh, fE2 hT, ia338 hsh, ct212 hsh hT h808 hr]
      rw [← hP]; exact OR_ok hR k0 e0
  · rw [if_neg (vin2_nf hx1)]
    generalize hP : OR G (rfV V (.inr 1)) 1 (.inr 1) = P
    simp +decide (disch := omega) only [↓wm1, wb213_0 hc, wb213_13 hc, wb213_16 hc, wb213_20 hc, wb213_21 hc, wb213_26 hc, wb213_29 hc, wb213_31 hc, wb213_45 hc, wb213_65 hc, wb213_124 hc, wb213_131 hc, wb213_139 hc, wb213_147 hc, wb213_155 hc, wb213_156 hc, wb213_158 hc, wb213_166 hc, wb213_167 hc, wb213_175 hc, wb213_176 hc, wb213_181 hc, wb213_186 hc, wb213_194 hc, w0, w1, w11, w12, w94, w95, rI_wI, rP_wI, rL_wI, rI_wR, rP_wR, is_wI, is_wR, ia_wI, ia_wR, ow_wI, ow_wR, wn_add, wn_mul, wn_cl, wn_le, wn_lt, wn_inj, wn_ne1, wn_1ne, wn_gt1, wn_le1, nb0, nb1, am_kt, am_rt, List.cons_append, List.nil_append, true_and, and_true, not_true_eq_false, not_false_eq_true, imp_f, imp_t, implies_true, Nat.zero_add, if_true, if_false, false_and, and_false, fM hsh, fE2 hT, ia338 hsh, e6, b01, if_true, Bool.false_eq_true, ct214 hsh hT, ct215 hsh hT, ct220, ct153c, ct153v, ct152n hsh e0, vin2_f hx1, ct152y (c := 1) (r := 1) (by decide) (by decide) (by decide) hsh e0]
    rw [← hP]; exact OR_8 hR k0
def sp_bell (V : Vt) (x1 x2 : Int32) : Res := if vin2 x1 0 (dB (vδ V)) = true then if vin2 x2 0 (6) = true then .inl (q_bell V (u x1) (u x2)) else .inr 1 else .inr 0
theorem cl_bell (hR : RepC G V) (hB : am_rm G 1 6) (x1 x2 : Int32) : am_C am_T (d + 12) 109 [.ref 0, .int x1, .int x2] G (OC G (rfV V (sp_bell V x1 x2)) (sp_bell V x1 x2)) := by
  have hc := am_C_one am_T (d + 11)
  have hsh := hR.1
  have hv := hR.2.1
  obtain ⟨q, l, hT, -, -⟩ := hR.2.2.2.1
  have hr := hR.2.2.2.2.1.1
  have vd := hv.2.2.2.1
  have bB := vd.1
  have bH := vd.2.1
  have bD := vd.2.2.1
  have hs9 := hv.2.2.2.2.2.1
  have hvs := hs9.1
  have hg := hvs.g6 bB
  have ht := hvs.t6 bB
  have hm := hvs.2.2.2.2.2.1
  have h9 := hs9.2
  have p6 : 2 ^ dB (vδ V) ≤ 64 := Nat.pow_le_pow_right (n := 2) (by decide) bB
  have e6 := bs1 (dB (vδ V)) (by omega)
  unfold sp_bell
  rw [we109]
  rcases vin2_or x1 0 (dB (vδ V)) (by omega) (by omega) with ⟨b1, hl1, hh1, rfl⟩ | hx1
  · rw [if_pos (vin2_t hl1 hh1 (by omega))]
    rcases vin2_or x2 0 (6) (by omega) (by omega) with ⟨b2, hl2, hh2, rfl⟩ | hx2
    · rw [if_pos (vin2_t hl2 hh2 (by omega))]
      have na2 : ¬ b2 < 0 := by omega
      have nb2 : ¬ 6 ≤ b2 := by omega
      have nc2 : ¬ 5 < b2 := by omega
      simp only [u_wn (show b1 < 2147483648 by omega), u_wn (show b2 < 2147483648 by omega)]
      generalize hP : OC G (rfV V (.inl (q_bell V b1 b2))) (.inl (q_bell V b1 b2)) = P
      simp +decide (disch := omega) only [↓wm1, wb109_0 hc, wb109_5 hc, wb109_10 hc, wb109_15 hc, wb109_19 hc, wb109_20 hc, wb109_23 hc, wb109_60 hc, wb109_73 hc, wb109_86 hc, wb109_99 hc, wb109_114 hc, wb109_129 hc, w0, w1, w5, rI_wI, rP_wI, rL_wI, rI_wR, rP_wR, is_wI, is_wR, ia_wI, ia_wR, ow_wI, ow_wR, wn_add, wn_mul, wn_cl, wn_le, wn_lt, wn_inj, wn_ne1, wn_1ne, wn_gt1, wn_le1, nb0, nb1, am_kt, am_rt, List.cons_append, List.nil_append, true_and, and_true, not_true_eq_false, not_false_eq_true, imp_f, imp_t, implies_true, Nat.zero_add, if_true, if_false, false_and, and_false, cn109, fC hsh, fW2 hsh hT, fD hsh hT.2.2.1, e6, ct141y hsh hT hh1, na2, nb2, hh2, nc2, ct139y (v := 1) (by decide) (by decide)]
      simp only [am_swc_iff]
      have rb := hT.2.2.2.2.1.2.2.2.2.1 b1 hh1
      have eg := bsr (sG (vσ V)) (by omega) b1 (by omega)
      have et := bsr (sT (vσ V)) (by omega) b1 (by omega)
      have hcs : b2 = 0 ∨ b2 = 1 ∨ b2 = 2 ∨ b2 = 3 ∨ b2 = 4 ∨ b2 = 5 := by omega
      rcases hcs with rfl | rfl | rfl | rfl | rfl | rfl
      · rw [show am_swt (wn 0) (wn 0) [60, 73, 86, 99, 114] 129 = 60 from by decide +kernel]
        simp +decide (disch := omega) only [↓wm1, wb109_60 hc, w0, w1, w5, rI_wI, rP_wI, rL_wI, rI_wR, rP_wR, is_wI, is_wR, ia_wI, ia_wR, ow_wI, ow_wR, wn_add, wn_mul, wn_cl, wn_le, wn_lt, wn_inj, wn_ne1, wn_1ne, wn_gt1, wn_le1, nb0, nb1, am_kt, am_rt, List.cons_append, List.nil_append, true_and, and_true, not_true_eq_false, not_false_eq_true, imp_f, imp_t, implies_true, Nat.zero_add, if_true, if_false, false_and, and_false, cn109, fC hsh, fW2 hsh hT, fD hsh hT.2.2.1, fS hsh h32, rb.1]
        rw [← hP]; exact OC_ok hR (Kp.refl G)
      · rw [show am_swt (wn 1) (wn 0) [60, 73, 86, 99, 114] 129 = 73 from by decide +kernel]
        simp +decide (disch := omega) only [↓wm1, wb109_73 hc, w0, w1, w5, rI_wI, rP_wI, rL_wI, rI_wR, rP_wR, is_wI, is_wR, ia_wI, ia_wR, ow_wI, ow_wR, wn_add, wn_mul, wn_cl, wn_le, wn_lt, wn_inj, wn_ne1, wn_1ne, wn_gt1, wn_le1, nb0, nb1, am_kt, am_rt, List.cons_append, List.nil_append, true_and, and_true, not_true_eq_false, not_false_eq_true, imp_f, imp_t, implies_true, Nat.zero_add, if_true, if_false, false_and, and_false, cn109, fC hsh, fW2 hsh hT, fD hsh hT.2.2.1, fS hsh h32, rb.2]
        rw [← hP]; exact OC_ok hR (Kp.refl G)
      · rw [show am_swt (wn 2) (wn 0) [60, 73, 86, 99, 114] 129 = 86 from by decide +kernel]
        simp +decide (disch := omega) only [↓wm1, wb109_86 hc, w0, w1, w5, rI_wI, rP_wI, rL_wI, rI_wR, rP_wR, is_wI, is_wR, ia_wI, ia_wR, ow_wI, ow_wR, wn_add, wn_mul, wn_cl, wn_le, wn_lt, wn_inj, wn_ne1, wn_1ne, wn_gt1, wn_le1, nb0, nb1, am_kt, am_rt, List.cons_append, List.nil_append, true_and, and_true, not_true_eq_false, not_false_eq_true, imp_f, imp_t, implies_true, Nat.zero_add, if_true, if_false, false_and, and_false, cn109, fC hsh, fW2 hsh hT, fD hsh hT.2.2.1, fS hsh h32, hr.2.2.2.2.1]
        rw [← hP]; exact OC_ok hR (Kp.refl G)
      · rw [show am_swt (wn 3) (wn 0) [60, 73, 86, 99, 114] 129 = 99 from by decide +kernel]
        simp +decide (disch := omega) only [↓wm1, wb109_99 hc, w0, w1, w5, rI_wI, rP_wI, rL_wI, rI_wR, rP_wR, is_wI, is_wR, ia_wI, ia_wR, ow_wI, ow_wR, wn_add, wn_mul, wn_cl, wn_le, wn_lt, wn_inj, wn_ne1, wn_1ne, wn_gt1, wn_le1, nb0, nb1, am_kt, am_rt, List.cons_append, List.nil_append, true_and, and_true, not_true_eq_false, not_false_eq_true, imp_f, imp_t, implies_true, Nat.zero_add, if_true, if_false, false_and, and_false, cn109, fC hsh, fW2 hsh hT, fD hsh hT.2.2.1, fS hsh h32, hr.2.2.1, eg]
        rw [← hP]; exact OC_ok hR (Kp.refl G)
      · rw [show am_swt (wn 4) (wn 0) [60, 73, 86, 99, 114] 129 = 114 from by decide +kernel]
        simp +decide (disch := omega) only [↓wm1, wb109_114 hc, w0, w1, w5, rI_wI, rP_wI, rL_wI, rI_wR, rP_wR, is_wI, is_wR, ia_wI, ia_wR, ow_wI, ow_wR, wn_add, wn_mul, wn_cl, wn_le, wn_lt, wn_inj, wn_ne1, wn_1ne, wn_gt1, wn_le1, nb0, nb1, am_kt, am_rt, List.cons_append, List.nil_append, true_and, and_true, not_true_eq_false, not_false_eq_true, imp_f, imp_t, implies_true, Nat.zero_add, if_true, if_false, false_and, and_false, cn109, fC hsh, fW2 hsh hT, fD hsh hT.2.2.1, fS hsh h32, hr.2.2.2.1, et]
        rw [← hP]; exact OC_ok hR (Kp.refl G)
      · rw [show am_swt (wn 5) (wn 0) [60, 73, 86, 99, 114] 129 = 129 from by decide +kernel]
        simp +decide (disch := omega) only [↓wm1, wb109_129 hc, w0, w1, w5, rI_wI, rP_wI, rL_wI, rI_wR, rP_wR, is_wI, is_wR, ia_wI, ia_wR, ow_wI, ow_wR, wn_add, wn_mul, wn_cl, wn_le, wn_lt, wn_inj, wn_ne1, wn_1ne, wn_gt1, wn_le1, nb0, nb1, am_kt, am_rt, List.cons_append, List.nil_append, true_and, and_true, not_true_eq_false, not_false_eq_true, imp_f, imp_t, implies_true, Nat.zero_add, if_true, if_false, false_and, and_false, cn109, fC hsh, fW2 hsh hT, fD hsh hT.2.2.1, fS hsh h32, hr.2.2.2.2.2.1]
        rw [← hP]; exact OC_ok hR (Kp.refl G)
    · rw [if_neg (vin2_nf hx2)]
      generalize hP : OC G (rfV V (.inr 1)) (.inr 1) = P
      by_cases hxa : x2 < wn 0
      · simp +decide (disch := omega) only [↓wm1, wb109_0 hc, wb109_5 hc, wb109_10 hc, wb109_15 hc, wb109_19 hc, wb109_20 hc, wb109_23 hc, wb109_60 hc, wb109_73 hc, wb109_86 hc, wb109_99 hc, wb109_114 hc, wb109_129 hc, w0, w1, w5, rI_wI, rP_wI, rL_wI, rI_wR, rP_wR, is_wI, is_wR, ia_wI, ia_wR, ow_wI, ow_wR, wn_add, wn_mul, wn_cl, wn_le, wn_lt, wn_inj, wn_ne1, wn_1ne, wn_gt1, wn_le1, nb0, nb1, am_kt, am_rt, List.cons_append, List.nil_append, true_and, and_true, not_true_eq_false, not_false_eq_true, imp_f, imp_t, implies_true, Nat.zero_add, if_true, if_false, false_and, and_false, cn109, fC hsh, fW2 hsh hT, fD hsh hT.2.2.1, e6, ct141y hsh hT hh1, hxa, ct139n hsh hB]
        rw [← hP]; exact OC_8 hR hB
      · have hxb : ¬ x2 < wn (6) := by rcases hx2 with z | z; exact absurd z hxa; exact z
        have hxc : wn (6) ≤ x2 := Int32.not_lt.mp hxb
        have hxd : wn 5 < x2 := out3 (by decide) hxb
        simp +decide (disch := omega) only [↓wm1, wb109_0 hc, wb109_5 hc, wb109_10 hc, wb109_15 hc, wb109_19 hc, wb109_20 hc, wb109_23 hc, wb109_60 hc, wb109_73 hc, wb109_86 hc, wb109_99 hc, wb109_114 hc, wb109_129 hc, w0, w1, w5, rI_wI, rP_wI, rL_wI, rI_wR, rP_wR, is_wI, is_wR, ia_wI, ia_wR, ow_wI, ow_wR, wn_add, wn_mul, wn_cl, wn_le, wn_lt, wn_inj, wn_ne1, wn_1ne, wn_gt1, wn_le1, nb0, nb1, am_kt, am_rt, List.cons_append, List.nil_append, true_and, and_true, not_true_eq_false, not_false_eq_true, imp_f, imp_t, implies_true, Nat.zero_add, if_true, if_false, false_and, and_false, cn109, fC hsh, fW2 hsh hT, fD hsh hT.2.2.1, e6, ct141y hsh hT hh1, hxa, hxb, hxc, hxd, ct139n hsh hB]
        rw [← hP]; exact OC_8 hR hB
  · rw [if_neg (vin2_nf hx1)]
    generalize hP : OC G (rfV V (.inr 0)) (.inr 0) = P
    simp +decide (disch := omega) only [↓wm1, wb109_0 hc, wb109_5 hc, wb109_10 hc, wb109_15 hc, wb109_19 hc, wb109_20 hc, wb109_23 hc, wb109_60 hc, wb109_73 hc, wb109_86 hc, wb109_99 hc, wb109_114 hc, wb109_129 hc, w0, w1, w5, rI_wI, rP_wI, rL_wI, rI_wR, rP_wR, is_wI, is_wR, ia_wI, ia_wR, ow_wI, ow_wR, wn_add, wn_mul, wn_cl, wn_le, wn_lt, wn_inj, wn_ne1, wn_1ne, wn_gt1, wn_le1, nb0, nb1, am_kt, am_rt, List.cons_append, List.nil_append, true_and, and_true, not_true_eq_false, not_false_eq_true, imp_f, imp_t, implies_true, Nat.zero_add, if_true, if_false, false_and, and_false, cn109, fC hsh, fW2 hsh hT, fD hsh hT.2.2.1, e6, ct141n hx1 hsh hT hB]
    rw [← hP]; exact OC_7 hR hB
theorem rf_bell (hR : RepR G V) (x1 x2 : Int32) : am_C am_T (d + 12) 216 [.ref 334, .int x1, .int x2] G (OR G (rfV V (sp_bell V x1 x2)) 2 (sp_bell V x1 x2)) := by
  have hc := am_C_one am_T (d + 11)
  have k0 : Kp QSR G (am_wI G 334 0 (wn 0)) := (Kp.refl G).wI (Or.inl ⟨rfl, Or.inl rfl⟩) _
  have e0 : am_gI (am_wI G 334 0 (wn 0)) 334 0 = wn 0 := by rw [rI_wI, if_pos ⟨rfl, rfl⟩]
  have hR0 := hR.q k0
  have hshG := hR.1
  unfold sp_bell
  rw [we216]
  generalize hOR : OR G = OG
  simp +decide (disch := omega) only [↓wm1, wb216_0 hc, w0, w1, w2, w5, w6, w12, w18, rI_wI, rP_wI, rL_wI, rI_wR, rP_wR, is_wI, is_wR, ia_wI, ia_wR, ow_wI, ow_wR, wn_add, wn_mul, wn_cl, wn_le, wn_lt, wn_inj, wn_ne1, wn_1ne, wn_gt1, wn_le1, nb0, nb1, am_kt, am_rt, List.cons_append, List.nil_append, true_and, and_true, not_true_eq_false, not_false_eq_true, imp_f, imp_t, implies_true, Nat.zero_add, if_true, if_false, false_and, and_false, fM hshG, fE2 hR.2.2.2.1, ia338 hshG]
  generalize am_wI G 334 0 (wn 0) = G0 at k0 e0 hR0 ⊢
  subst hOR
  have hsh := hR0.1
  have hv := hR0.2.1
  have hT := hR0.2.2.2.1
  have hr := hR0.2.2.2.2.1.1
  have vd := hv.2.2.2.1
  have bB := vd.1
  have bH := vd.2.1
  have bD := vd.2.2.1
  have hs9 := hv.2.2.2.2.2.1
  have hvs := hs9.1
  have hg := hvs.g6 bB
  have ht := hvs.t6 bB
  have hm := hvs.2.2.2.2.2.1
  have h9 := hs9.2
  have p6 : 2 ^ dB (vδ V) ≤ 64 := Nat.pow_le_pow_right (n := 2) (by decide) bB
  have e6 := bs1 (dB (vδ V)) (by omega)
  rcases vin2_or x1 0 (dB (vδ V)) (by omega) (by omega) with ⟨b1, hl1, hh1, rfl⟩ | hx1
  · rw [if_pos (vin2_t hl1 hh1 (by omega))]
    rcases vin2_or x2 0 (6) (by omega) (by omega) with ⟨b2, hl2, hh2, rfl⟩ | hx2
    · rw [if_pos (vin2_t hl2 hh2 (by omega))]
      simp only [u_wn (show b1 < 2147483648 by omega), u_wn (show b2 < 2147483648 by omega)]
      generalize hP : OR G (rfV V (.inl (q_bell V b1 b2))) 2 (.inl (q_bell V b1 b2)) = P
      simp +decide (disch := omega) only [↓wm1, wb216_0 hc, wb216_11 hc, wb216_14 hc, wb216_18 hc, wb216_19 hc, wb216_24 hc, wb216_27 hc, wb216_34 hc, wb216_37 hc, wb216_41 hc, wb216_42 hc, wb216_47 hc, wb216_50 hc, wb216_52 hc, wb216_88 hc, wb216_97 hc, wb216_106 hc, wb216_116 hc, wb216_126 hc, w0, w1, w2, w5, w6, w12, w18, rI_wI, rP_wI, rL_wI, rI_wR, rP_wR, is_wI, is_wR, ia_wI, ia_wR, ow_wI, ow_wR, wn_add, wn_mul, wn_cl, wn_le, wn_lt, wn_inj, wn_ne1, wn_1ne, wn_gt1, wn_le1, nb0, nb1, am_kt, am_rt, List.cons_append, List.nil_append, true_and, and_true, not_true_eq_false, not_false_eq_true, imp_f, imp_t, implies_true, Nat.zero_add, if_true, if_false, false_and, and_false, fM hsh, fE2 hT, ia338 hsh, e6, b01, if_true, Bool.false_eq_true, ct214 hsh hT, ct215 hsh hT, ct220, ct153c, ct153v, ct152n hsh e0, vin2_t hl1 hh1 (by omega), vin2_t hl2 hh2 (by omega)]
      simp only [am_swc_iff]
      have rb := hT.1.2.2.2.2.1 b1 hh1
      have hcs : b2 = 0 ∨ b2 = 1 ∨ b2 = 2 ∨ b2 = 3 ∨ b2 = 4 ∨ b2 = 5 := by omega
      rcases hcs with rfl | rfl | rfl | rfl | rfl | rfl
      · rw [show am_swt (wn 0) (wn 0) [88, 88, 97, 106, 116] 126 = 88 from by decide +kernel]
        simp +decide (disch := omega) only [↓wm1, wb216_88 hc, w0, w1, w2, w5, w6, w12, w18, rI_wI, rP_wI, rL_wI, rI_wR, rP_wR, is_wI, is_wR, ia_wI, ia_wR, ow_wI, ow_wR, wn_add, wn_mul, wn_cl, wn_le, wn_lt, wn_inj, wn_ne1, wn_1ne, wn_gt1, wn_le1, nb0, nb1, am_kt, am_rt, List.cons_append, List.nil_append, true_and, and_true, not_true_eq_false, not_false_eq_true, imp_f, imp_t, implies_true, Nat.zero_add, if_true, if_false, false_and, and_false, fM hsh, fr346 hsh, rb.1]
        rw [← hP]; exact OR_ok hR k0 e0
      · rw [show am_swt (wn 1) (wn 0) [88, 88, 97, 106, 116] 126 = 88 from by decide +kernel]
        simp +decide (disch := omega) only [↓wm1, wb216_88 hc, w0, w1, w2, w5, w6, w12, w18, rI_wI, rP_wI, rL_wI, rI_wR, rP_wR, is_wI, is_wR, ia_wI, ia_wR, ow_wI, ow_wR, wn_add, wn_mul, wn_cl, wn_le, wn_lt, wn_inj, wn_ne1, wn_1ne, wn_gt1, wn_le1, nb0, nb1, am_kt, am_rt, List.cons_append, List.nil_append, true_and, and_true, not_true_eq_false, not_false_eq_true, imp_f, imp_t, implies_true, Nat.zero_add, if_true, if_false, false_and, and_false, fM hsh, fr346 hsh, rb.2]
        rw [← hP]; exact OR_ok hR k0 e0
      · rw [show am_swt (wn 2) (wn 0) [88, 88, 97, 106, 116] 126 = 97 from by decide +kernel]
        simp +decide (disch := omega) only [↓wm1, wb216_97 hc, w0, w1, w2, w5, w6, w12, w18, rI_wI, rP_wI, rL_wI, rI_wR, rP_wR, is_wI, is_wR, ia_wI, ia_wR, ow_wI, ow_wR, wn_add, wn_mul, wn_cl, wn_le, wn_lt, wn_inj, wn_ne1, wn_1ne, wn_gt1, wn_le1, nb0, nb1, am_kt, am_rt, List.cons_append, List.nil_append, true_and, and_true, not_true_eq_false, not_false_eq_true, imp_f, imp_t, implies_true, Nat.zero_add, if_true, if_false, false_and, and_false, fM hsh, fR hsh h808, (fW hr).1]
        rw [← hP]; exact OR_ok hR k0 e0
      · rw [show am_swt (wn 3) (wn 0) [88, 88, 97, 106, 116] 126 = 106 from by decide +kernel]
        simp +decide (disch := omega) only [↓wm1, wb216_106 hc, w0, w1, w2, w5, w6, w12, w18, rI_wI, rP_wI, rL_wI, rI_wR, rP_wR, is_wI, is_wR, ia_wI, ia_wR, ow_wI, ow_wR, wn_add, wn_mul, wn_cl, wn_le, wn_lt, wn_inj, wn_ne1, wn_1ne, wn_gt1, wn_le1, nb0, nb1, am_kt, am_rt, List.cons_append, List.nil_append, true_and, and_true, not_true_eq_false, not_false_eq_true, imp_f, imp_t, implies_true, Nat.zero_add, if_true, if_false, false_and, and_false, fM hsh, fR hsh h808, (fW hr).2.1]
        rw [← hP]; exact OR_ok hR k0 e0
      · rw [show am_swt (wn 4) (wn 0) [88, 88, 97, 106, 116] 126 = 116 from by decide +kernel]
        simp +decide (disch := omega) only [↓wm1, wb216_116 hc, w0, w1, w2, w5, w6, w12, w18, rI_wI, rP_wI, rL_wI, rI_wR, rP_wR, is_wI, is_wR, ia_wI, ia_wR, ow_wI, ow_wR, wn_add, wn_mul, wn_cl, wn_le, wn_lt, wn_inj, wn_ne1, wn_1ne, wn_gt1, wn_le1, nb0, nb1, am_kt, am_rt, List.cons_append, List.nil_append, true_and, and_true, not_true_eq_false, not_false_eq_true, imp_f, imp_t, implies_true, Nat.zero_add, if_true, if_false, false_and, and_false, fM hsh, fR hsh h808, (fW hr).2.2.1]
        rw [← hP]; exact OR_ok hR k0 e0
      · rw [show am_swt (wn 5) (wn 0) [88, 88, 97, 106, 116] 126 = 126 from by decide +kernel]
        simp +decide (disch := omega) only [↓wm1, wb216_126 hc, w0, w1, w2, w5, w6, w12, w18, rI_wI, rP_wI, rL_wI, rI_wR, rP_wR, is_wI, is_wR, ia_wI, ia_wR, ow_wI, ow_wR, wn_add, wn_mul, wn_cl, wn_le, wn_lt, wn_inj, wn_ne1, wn_1ne, wn_gt1, wn_le1, nb0, nb1, am_kt, am_rt, List.cons_append, List.nil_append, true_and, and_true, not_true_eq_false, not_false_eq_true, imp_f, imp_t, implies_true, Nat.zero_add, if_true, if_false, false_and, and_false, fM hsh, fR hsh h808, (fW hr).2.2.2.1]
        rw [← hP]; exact OR_ok hR k0 e0
    · rw [if_neg (vin2_nf hx2)]
      generalize hP : OR G (rfV V (.inr 1)) 2 (.inr 1) = P
      simp +decide (disch := omega) only [↓wm1, wb216_0 hc, wb216_11 hc, wb216_14 hc, wb216_18 hc, wb216_19 hc, wb216_24 hc, wb216_27 hc, wb216_34 hc, wb216_37 hc, wb216_41 hc, wb216_42 hc, wb216_47 hc, wb216_50 hc, wb216_52 hc, wb216_88 hc, wb216_97 hc, wb216_106 hc, wb216_116 hc, wb216_126 hc, w0, w1, w2, w5, w6, w12, w18, rI_wI, rP_wI, rL_wI, rI_wR, rP_wR, is_wI, is_wR, ia_wI, ia_wR, ow_wI, ow_wR, wn_add, wn_mul, wn_cl, wn_le, wn_lt, wn_inj, wn_ne1, wn_1ne, wn_gt1, wn_le1, nb0, nb1, am_kt, am_rt, List.cons_append, List.nil_append, true_and, and_true, not_true_eq_false, not_false_eq_true, imp_f, imp_t, implies_true, Nat.zero_add, if_true, if_false, false_and, and_false, fM hsh, fE2 hT, ia338 hsh, e6, b01, if_true, Bool.false_eq_true, ct214 hsh hT, ct215 hsh hT, ct220, ct153c, ct153v, ct152n hsh e0, vin2_t hl1 hh1 (by omega), vin2_f hx2, ct152y (c := 2) (r := 1) (by decide) (by decide) (by decide) hsh e0]
      rw [← hP]; exact OR_8 hR k0
  · rw [if_neg (vin2_nf hx1)]
    generalize hP : OR G (rfV V (.inr 0)) 2 (.inr 0) = P
    simp +decide (disch := omega) only [↓wm1, wb216_0 hc, wb216_11 hc, wb216_14 hc, wb216_18 hc, wb216_19 hc, wb216_24 hc, wb216_27 hc, wb216_34 hc, wb216_37 hc, wb216_41 hc, wb216_42 hc, wb216_47 hc, wb216_50 hc, wb216_52 hc, wb216_88 hc, wb216_97 hc, wb216_106 hc, wb216_116 hc, wb216_126 hc, w0, w1, w2, w5, w6, w12, w18, rI_wI, rP_wI, rL_wI, rI_wR, rP_wR, is_wI, is_wR, ia_wI, ia_wR, ow_wI, ow_wR, wn_add, wn_mul, wn_cl, wn_le, wn_lt, wn_inj, wn_ne1, wn_1ne, wn_gt1, wn_le1, nb0, nb1, am_kt, am_rt, List.cons_append, List.nil_append, true_and, and_true, not_true_eq_false, not_false_eq_true, imp_f, imp_t, implies_true, Nat.zero_add, if_true, if_false, false_and, and_false, fM hsh, fE2 hT, ia338 hsh, e6, b01, if_true, Bool.false_eq_true, ct214 hsh hT, ct215 hsh hT, ct220, ct153c, ct153v, ct152n hsh e0, vin2_f hx1, ct152y (c := 1) (r := 0) (by decide) (by decide) (by decide) hsh e0]
    rw [← hP]; exact OR_7 hR k0
def sp_house (V : Vt) (x1 x2 : Int32) : Res := if vin2 x1 0 (dH (vδ V)) = true then if vin2 x2 0 (4) = true then .inl (q_house V (u x1) (u x2)) else .inr 1 else .inr 0
theorem cl_house (hR : RepC G V) (hB : am_rm G 1 6) (x1 x2 : Int32) : am_C am_T (d + 12) 110 [.ref 0, .int x1, .int x2] G (OC G (rfV V (sp_house V x1 x2)) (sp_house V x1 x2)) := by
  have hc := am_C_one am_T (d + 11)
  have hsh := hR.1
  have hv := hR.2.1
  obtain ⟨q, l, hT, -, -⟩ := hR.2.2.2.1
  have hr := hR.2.2.2.2.1.1
  have vd := hv.2.2.2.1
  have bB := vd.1
  have bH := vd.2.1
  have bD := vd.2.2.1
  have hs9 := hv.2.2.2.2.2.1
  have hvs := hs9.1
  have hg := hvs.g6 bB
  have ht := hvs.t6 bB
  have hm := hvs.2.2.2.2.2.1
  have h9 := hs9.2
  have p6 : 2 ^ dB (vδ V) ≤ 64 := Nat.pow_le_pow_right (n := 2) (by decide) bB
  have e6 := bs1 (dB (vδ V)) (by omega)
  unfold sp_house
  rw [we110]
  rcases vin2_or x1 0 (dH (vδ V)) (by omega) (by omega) with ⟨b1, hl1, hh1, rfl⟩ | hx1
  · rw [if_pos (vin2_t hl1 hh1 (by omega))]
    rcases vin2_or x2 0 (4) (by omega) (by omega) with ⟨b2, hl2, hh2, rfl⟩ | hx2
    · rw [if_pos (vin2_t hl2 hh2 (by omega))]
      have na2 : ¬ b2 < 0 := by omega
      have nb2 : ¬ 4 ≤ b2 := by omega
      have nc2 : ¬ 3 < b2 := by omega
      simp only [u_wn (show b1 < 2147483648 by omega), u_wn (show b2 < 2147483648 by omega)]
      generalize hP : OC G (rfV V (.inl (q_house V b1 b2))) (.inl (q_house V b1 b2)) = P
      simp +decide (disch := omega) only [↓wm1, wb110_0 hc, wb110_5 hc, wb110_10 hc, wb110_15 hc, wb110_19 hc, wb110_20 hc, wb110_23 hc, wb110_52 hc, wb110_65 hc, wb110_78 hc, wb110_89 hc, wb110_90 hc, wb110_101 hc, w0, w1, w3, rI_wI, rP_wI, rL_wI, rI_wR, rP_wR, is_wI, is_wR, ia_wI, ia_wR, ow_wI, ow_wR, wn_add, wn_mul, wn_cl, wn_le, wn_lt, wn_inj, wn_ne1, wn_1ne, wn_gt1, wn_le1, nb0, nb1, am_kt, am_rt, List.cons_append, List.nil_append, true_and, and_true, not_true_eq_false, not_false_eq_true, imp_f, imp_t, implies_true, Nat.zero_add, if_true, if_false, false_and, and_false, cn110, fC hsh, fW2 hsh hT, fD hsh hT.2.2.1, e6, ct142y hsh hT hh1, na2, nb2, hh2, nc2, ct139y (v := 1) (by decide) (by decide)]
      simp only [am_swc_iff]
      have rb := hT.2.2.2.2.1.2.2.2.2.2.1 b1 hh1
      have hcs : b2 = 0 ∨ b2 = 1 ∨ b2 = 2 ∨ b2 = 3 := by omega
      rcases hcs with rfl | rfl | rfl | rfl
      · rw [show am_swt (wn 0) (wn 0) [52, 65, 78] 90 = 52 from by decide +kernel]
        simp +decide (disch := omega) only [↓wm1, wb110_52 hc, w0, w1, w3, rI_wI, rP_wI, rL_wI, rI_wR, rP_wR, is_wI, is_wR, ia_wI, ia_wR, ow_wI, ow_wR, wn_add, wn_mul, wn_cl, wn_le, wn_lt, wn_inj, wn_ne1, wn_1ne, wn_gt1, wn_le1, nb0, nb1, am_kt, am_rt, List.cons_append, List.nil_append, true_and, and_true, not_true_eq_false, not_false_eq_true, imp_f, imp_t, implies_true, Nat.zero_add, if_true, if_false, false_and, and_false, cn110, fC hsh, fW2 hsh hT, fD hsh hT.2.2.1, fS hsh h32, rb.1]
        rw [← hP]; exact OC_ok hR (Kp.refl G)
      · rw [show am_swt (wn 1) (wn 0) [52, 65, 78] 90 = 65 from by decide +kernel]
        simp +decide (disch := omega) only [↓wm1, wb110_65 hc, w0, w1, w3, rI_wI, rP_wI, rL_wI, rI_wR, rP_wR, is_wI, is_wR, ia_wI, ia_wR, ow_wI, ow_wR, wn_add, wn_mul, wn_cl, wn_le, wn_lt, wn_inj, wn_ne1, wn_1ne, wn_gt1, wn_le1, nb0, nb1, am_kt, am_rt, List.cons_append, List.nil_append, true_and, and_true, not_true_eq_false, not_false_eq_true, imp_f, imp_t, implies_true, Nat.zero_add, if_true, if_false, false_and, and_false, cn110, fC hsh, fW2 hsh hT, fD hsh hT.2.2.1, fS hsh h32, rb.2]
        rw [← hP]; exact OC_ok hR (Kp.refl G)
      · rw [show am_swt (wn 2) (wn 0) [52, 65, 78] 90 = 78 from by decide +kernel]
        simp +decide (disch := omega) only [↓wm1, wb110_78 hc, wb110_89 hc, w0, w1, w3, rI_wI, rP_wI, rL_wI, rI_wR, rP_wR, is_wI, is_wR, ia_wI, ia_wR, ow_wI, ow_wR, wn_add, wn_mul, wn_cl, wn_le, wn_lt, wn_inj, wn_ne1, wn_1ne, wn_gt1, wn_le1, nb0, nb1, am_kt, am_rt, List.cons_append, List.nil_append, true_and, and_true, not_true_eq_false, not_false_eq_true, imp_f, imp_t, implies_true, Nat.zero_add, if_true, if_false, false_and, and_false, cn110, fC hsh, fW2 hsh hT, fD hsh hT.2.2.1, fS hsh h32, ct60i hsh h32 hr hm (show b1 < 7 by omega)]
        rw [← hP]; exact OC_ok hR (Kp.refl G)
      · rw [show am_swt (wn 3) (wn 0) [52, 65, 78] 90 = 90 from by decide +kernel]
        simp +decide (disch := omega) only [↓wm1, wb110_90 hc, wb110_101 hc, w0, w1, w3, rI_wI, rP_wI, rL_wI, rI_wR, rP_wR, is_wI, is_wR, ia_wI, ia_wR, ow_wI, ow_wR, wn_add, wn_mul, wn_cl, wn_le, wn_lt, wn_inj, wn_ne1, wn_1ne, wn_gt1, wn_le1, nb0, nb1, am_kt, am_rt, List.cons_append, List.nil_append, true_and, and_true, not_true_eq_false, not_false_eq_true, imp_f, imp_t, implies_true, Nat.zero_add, if_true, if_false, false_and, and_false, cn110, fC hsh, fW2 hsh hT, fD hsh hT.2.2.1, fS hsh h32, ct57i hsh h32 hr (show b1 < 7 by omega)]
        rw [← hP]; exact OC_ok hR (Kp.refl G)
    · rw [if_neg (vin2_nf hx2)]
      generalize hP : OC G (rfV V (.inr 1)) (.inr 1) = P
      by_cases hxa : x2 < wn 0
      · simp +decide (disch := omega) only [↓wm1, wb110_0 hc, wb110_5 hc, wb110_10 hc, wb110_15 hc, wb110_19 hc, wb110_20 hc, wb110_23 hc, wb110_52 hc, wb110_65 hc, wb110_78 hc, wb110_89 hc, wb110_90 hc, wb110_101 hc, w0, w1, w3, rI_wI, rP_wI, rL_wI, rI_wR, rP_wR, is_wI, is_wR, ia_wI, ia_wR, ow_wI, ow_wR, wn_add, wn_mul, wn_cl, wn_le, wn_lt, wn_inj, wn_ne1, wn_1ne, wn_gt1, wn_le1, nb0, nb1, am_kt, am_rt, List.cons_append, List.nil_append, true_and, and_true, not_true_eq_false, not_false_eq_true, imp_f, imp_t, implies_true, Nat.zero_add, if_true, if_false, false_and, and_false, cn110, fC hsh, fW2 hsh hT, fD hsh hT.2.2.1, e6, ct142y hsh hT hh1, hxa, ct139n hsh hB]
        rw [← hP]; exact OC_8 hR hB
      · have hxb : ¬ x2 < wn (4) := by rcases hx2 with z | z; exact absurd z hxa; exact z
        have hxc : wn (4) ≤ x2 := Int32.not_lt.mp hxb
        have hxd : wn 3 < x2 := out3 (by decide) hxb
        simp +decide (disch := omega) only [↓wm1, wb110_0 hc, wb110_5 hc, wb110_10 hc, wb110_15 hc, wb110_19 hc, wb110_20 hc, wb110_23 hc, wb110_52 hc, wb110_65 hc, wb110_78 hc, wb110_89 hc, wb110_90 hc, wb110_101 hc, w0, w1, w3, rI_wI, rP_wI, rL_wI, rI_wR, rP_wR, is_wI, is_wR, ia_wI, ia_wR, ow_wI, ow_wR, wn_add, wn_mul, wn_cl, wn_le, wn_lt, wn_inj, wn_ne1, wn_1ne, wn_gt1, wn_le1, nb0, nb1, am_kt, am_rt, List.cons_append, List.nil_append, true_and, and_true, not_true_eq_false, not_false_eq_true, imp_f, imp_t, implies_true, Nat.zero_add, if_true, if_false, false_and, and_false, cn110, fC hsh, fW2 hsh hT, fD hsh hT.2.2.1, e6, ct142y hsh hT hh1, hxa, hxb, hxc, hxd, ct139n hsh hB]
        rw [← hP]; exact OC_8 hR hB
  · rw [if_neg (vin2_nf hx1)]
    generalize hP : OC G (rfV V (.inr 0)) (.inr 0) = P
    simp +decide (disch := omega) only [↓wm1, wb110_0 hc, wb110_5 hc, wb110_10 hc, wb110_15 hc, wb110_19 hc, wb110_20 hc, wb110_23 hc, wb110_52 hc, wb110_65 hc, wb110_78 hc, wb110_89 hc, wb110_90 hc, wb110_101 hc, w0, w1, w3, rI_wI, rP_wI, rL_wI, rI_wR, rP_wR, is_wI, is_wR, ia_wI, ia_wR, ow_wI, ow_wR, wn_add, wn_mul, wn_cl, wn_le, wn_lt, wn_inj, wn_ne1, wn_1ne, wn_gt1, wn_le1, nb0, nb1, am_kt, am_rt, List.cons_append, List.nil_append, true_and, and_true, not_true_eq_false, not_false_eq_true, imp_f, imp_t, implies_true, Nat.zero_add, if_true, if_false, false_and, and_false, cn110, fC hsh, fW2 hsh hT, fD hsh hT.2.2.1, e6, ct142n hx1 hsh hT hB]
    rw [← hP]; exact OC_7 hR hB
theorem rf_house (hR : RepR G V) (x1 x2 : Int32) : am_C am_T (d + 12) 218 [.ref 334, .int x1, .int x2] G (OR G (rfV V (sp_house V x1 x2)) 2 (sp_house V x1 x2)) := by
  have hc := am_C_one am_T (d + 11)
  have k0 : Kp QSR G (am_wI G 334 0 (wn 0)) := (Kp.refl G).wI (Or.inl ⟨rfl, Or.inl rfl⟩) _
  have e0 : am_gI (am_wI G 334 0 (wn 0)) 334 0 = wn 0 := by rw [rI_wI, if_pos ⟨rfl, rfl⟩]
  have hR0 := hR.q k0
  have hshG := hR.1
  unfold sp_house
  rw [we218]
  generalize hOR : OR G = OG
  simp +decide (disch := omega) only [↓wm1, wb218_0 hc, w0, w1, w2, w3, rI_wI, rP_wI, rL_wI, rI_wR, rP_wR, is_wI, is_wR, ia_wI, ia_wR, ow_wI, ow_wR, wn_add, wn_mul, wn_cl, wn_le, wn_lt, wn_inj, wn_ne1, wn_1ne, wn_gt1, wn_le1, nb0, nb1, am_kt, am_rt, List.cons_append, List.nil_append, true_and, and_true, not_true_eq_false, not_false_eq_true, imp_f, imp_t, implies_true, Nat.zero_add, if_true, if_false, false_and, and_false, fM hshG, fE2 hR.2.2.2.1, ia338 hshG]
  generalize am_wI G 334 0 (wn 0) = G0 at k0 e0 hR0 ⊢
  subst hOR
  have hsh := hR0.1
  have hv := hR0.2.1
  have hT := hR0.2.2.2.1
  have hr := hR0.2.2.2.2.1.1
  have vd := hv.2.2.2.1
  have bB := vd.1
  have bH := vd.2.1
  have bD := vd.2.2.1
  have hs9 := hv.2.2.2.2.2.1
  have hvs := hs9.1
  have hg := hvs.g6 bB
  have ht := hvs.t6 bB
  have hm := hvs.2.2.2.2.2.1
  have h9 := hs9.2
  have p6 : 2 ^ dB (vδ V) ≤ 64 := Nat.pow_le_pow_right (n := 2) (by decide) bB
  have e6 := bs1 (dB (vδ V)) (by omega)
  rcases vin2_or x1 0 (dH (vδ V)) (by omega) (by omega) with ⟨b1, hl1, hh1, rfl⟩ | hx1
  · rw [if_pos (vin2_t hl1 hh1 (by omega))]
    rcases vin2_or x2 0 (4) (by omega) (by omega) with ⟨b2, hl2, hh2, rfl⟩ | hx2
    · rw [if_pos (vin2_t hl2 hh2 (by omega))]
      simp only [u_wn (show b1 < 2147483648 by omega), u_wn (show b2 < 2147483648 by omega)]
      generalize hP : OR G (rfV V (.inl (q_house V b1 b2))) 2 (.inl (q_house V b1 b2)) = P
      simp +decide (disch := omega) only [↓wm1, wb218_11 hc, wb218_14 hc, wb218_18 hc, wb218_19 hc, wb218_24 hc, wb218_27 hc, wb218_34 hc, wb218_37 hc, wb218_41 hc, wb218_42 hc, wb218_47 hc, wb218_50 hc, w0, w1, w2, w3, rI_wI, rP_wI, rL_wI, rI_wR, rP_wR, is_wI, is_wR, ia_wI, ia_wR, ow_wI, ow_wR, wn_add, wn_mul, wn_cl, wn_le, wn_lt, wn_inj, wn_ne1, wn_1ne, wn_gt1, wn_le1, nb0, nb1, am_kt, am_rt, List.cons_append, List.nil_append, true_and, and_true, not_true_eq_false, not_false_eq_true, imp_f, imp_t, implies_true, Nat.zero_add, if_true, if_false, false_and, and_false, fM hsh, fE2 hT, ia338 hsh, e6, b01, if_true, Bool.false_eq_true, ct214 hsh hT, ct215 hsh hT, ct220, ct153c, ct153v, ct152n hsh e0, vin2_t hl1 hh1 (by omega), vin2_t hl2 hh2 (by omega)]
      have rb := hT.1.2.2.2.2.2.1 b1 hh1
      have hcs : b2 = 0 ∨ b2 = 1 ∨ b2 = 2 ∨ b2 = 3 := by omega
      rcases hcs with rfl | rfl | rfl | rfl
      · simp +decide (disch := omega) only [↓wm1, wb218_52 hc, wb218_57 hc, wb218_90 hc, w0, w1, w2, w3, rI_wI, rP_wI, rL_wI, rI_wR, rP_wR, is_wI, is_wR, ia_wI, ia_wR, ow_wI, ow_wR, wn_add, wn_mul, wn_cl, wn_le, wn_lt, wn_inj, wn_ne1, wn_1ne, wn_gt1, wn_le1, nb0, nb1, am_kt, am_rt, List.cons_append, List.nil_append, true_and, and_true, not_true_eq_false, not_false_eq_true, imp_f, imp_t, implies_true, Nat.zero_add, if_true, if_false, false_and, and_false, fM hsh, fr361 hsh, rb.1]
        rw [← hP]; exact OR_ok hR k0 e0
      · simp +decide (disch := omega) only [↓wm1, wb218_52 hc, wb218_57 hc, wb218_90 hc, w0, w1, w2, w3, rI_wI, rP_wI, rL_wI, rI_wR, rP_wR, is_wI, is_wR, ia_wI, ia_wR, ow_wI, ow_wR, wn_add, wn_mul, wn_cl, wn_le, wn_lt, wn_inj, wn_ne1, wn_1ne, wn_gt1, wn_le1, nb0, nb1, am_kt, am_rt, List.cons_append, List.nil_append, true_and, and_true, not_true_eq_false, not_false_eq_true, imp_f, imp_t, implies_true, Nat.zero_add, if_true, if_false, false_and, and_false, fM hsh, fr361 hsh, rb.2]
        rw [← hP]; exact OR_ok hR k0 e0
      · simp +decide (disch := omega) only [↓wm1, wb218_52 hc, wb218_68 hc, wb218_73 hc, wb218_78 hc, wb218_90 hc, w0, w1, w2, w3, rI_wI, rP_wI, rL_wI, rI_wR, rP_wR, is_wI, is_wR, ia_wI, ia_wR, ow_wI, ow_wR, wn_add, wn_mul, wn_cl, wn_le, wn_lt, wn_inj, wn_ne1, wn_1ne, wn_gt1, wn_le1, nb0, nb1, am_kt, am_rt, List.cons_append, List.nil_append, true_and, and_true, not_true_eq_false, not_false_eq_true, imp_f, imp_t, implies_true, Nat.zero_add, if_true, if_false, false_and, and_false, fM hsh, fr361 hsh, ct217 hsh hr hm (show b1 < 7 by omega)]
        rw [← hP]; exact OR_ok hR k0 e0
      · simp +decide (disch := omega) only [↓wm1, wb218_52 hc, wb218_68 hc, wb218_81 hc, wb218_90 hc, w0, w1, w2, w3, rI_wI, rP_wI, rL_wI, rI_wR, rP_wR, is_wI, is_wR, ia_wI, ia_wR, ow_wI, ow_wR, wn_add, wn_mul, wn_cl, wn_le, wn_lt, wn_inj, wn_ne1, wn_1ne, wn_gt1, wn_le1, nb0, nb1, am_kt, am_rt, List.cons_append, List.nil_append, true_and, and_true, not_true_eq_false, not_false_eq_true, imp_f, imp_t, implies_true, Nat.zero_add, if_true, if_false, false_and, and_false, fM hsh, fr361 hsh, ct207 hsh h808 hr (show b1 < 7 by omega)]
        rw [← hP]; exact OR_ok hR k0 e0
    · rw [if_neg (vin2_nf hx2)]
      generalize hP : OR G (rfV V (.inr 1)) 2 (.inr 1) = P
      simp +decide (disch := omega) only [↓wm1, wb218_0 hc, wb218_11 hc, wb218_14 hc, wb218_18 hc, wb218_19 hc, wb218_24 hc, wb218_27 hc, wb218_34 hc, wb218_37 hc, wb218_41 hc, wb218_42 hc, wb218_47 hc, wb218_50 hc, wb218_52 hc, wb218_57 hc, wb218_68 hc, wb218_73 hc, wb218_78 hc, wb218_81 hc, wb218_90 hc, w0, w1, w2, w3, rI_wI, rP_wI, rL_wI, rI_wR, rP_wR, is_wI, is_wR, ia_wI, ia_wR, ow_wI, ow_wR, wn_add, wn_mul, wn_cl, wn_le, wn_lt, wn_inj, wn_ne1, wn_1ne, wn_gt1, wn_le1, nb0, nb1, am_kt, am_rt, List.cons_append, List.nil_append, true_and, and_true, not_true_eq_false, not_false_eq_true, imp_f, imp_t, implies_true, Nat.zero_add, if_true, if_false, false_and, and_false, fM hsh, fE2 hT, ia338 hsh, e6, b01, if_true, Bool.false_eq_true, ct214 hsh hT, ct215 hsh hT, ct220, ct153c, ct153v, ct152n hsh e0, vin2_t hl1 hh1 (by omega), vin2_f hx2, ct152y (c := 2) (r := 1) (by decide) (by decide) (by decide) hsh e0]
      rw [← hP]; exact OR_8 hR k0
  · rw [if_neg (vin2_nf hx1)]
    generalize hP : OR G (rfV V (.inr 0)) 2 (.inr 0) = P
    simp +decide (disch := omega) only [↓wm1, wb218_0 hc, wb218_11 hc, wb218_14 hc, wb218_18 hc, wb218_19 hc, wb218_24 hc, wb218_27 hc, wb218_34 hc, wb218_37 hc, wb218_41 hc, wb218_42 hc, wb218_47 hc, wb218_50 hc, wb218_52 hc, wb218_57 hc, wb218_68 hc, wb218_73 hc, wb218_78 hc, wb218_81 hc, wb218_90 hc, w0, w1, w2, w3, rI_wI, rP_wI, rL_wI, rI_wR, rP_wR, is_wI, is_wR, ia_wI, ia_wR, ow_wI, ow_wR, wn_add, wn_mul, wn_cl, wn_le, wn_lt, wn_inj, wn_ne1, wn_1ne, wn_gt1, wn_le1, nb0, nb1, am_kt, am_rt, List.cons_append, List.nil_append, true_and, and_true, not_true_eq_false, not_false_eq_true, imp_f, imp_t, implies_true, Nat.zero_add, if_true, if_false, false_and, and_false, fM hsh, fE2 hT, ia338 hsh, e6, b01, if_true, Bool.false_eq_true, ct214 hsh hT, ct215 hsh hT, ct220, ct153c, ct153v, ct152n hsh e0, vin2_f hx1, ct152y (c := 1) (r := 0) (by decide) (by decide) (by decide) hsh e0]
    rw [← hP]; exact OR_7 hR k0
def sp_deed (V : Vt) (x1 x2 : Int32) : Res := if vin2 x1 0 (dD (vδ V)) = true then if vin2 x2 0 (4) = true then .inl (q_deed V (u x1) (u x2)) else .inr 1 else .inr 0
theorem cl_deed (hR : RepC G V) (hB : am_rm G 1 6) (x1 x2 : Int32) : am_C am_T (d + 12) 111 [.ref 0, .int x1, .int x2] G (OC G (rfV V (sp_deed V x1 x2)) (sp_deed V x1 x2)) := by
  have hc := am_C_one am_T (d + 11)
  have hsh := hR.1
  have hv := hR.2.1
  obtain ⟨q, l, hT, -, -⟩ := hR.2.2.2.1
  have hr := hR.2.2.2.2.1.1
  have vd := hv.2.2.2.1
  have bB := vd.1
  have bH := vd.2.1
  have bD := vd.2.2.1
  have hs9 := hv.2.2.2.2.2.1
  have hvs := hs9.1
  have hg := hvs.g6 bB
  have ht := hvs.t6 bB
  have hm := hvs.2.2.2.2.2.1
  have h9 := hs9.2
  have p6 : 2 ^ dB (vδ V) ≤ 64 := Nat.pow_le_pow_right (n := 2) (by decide) bB
  have e6 := bs1 (dB (vδ V)) (by omega)
  unfold sp_deed
  rw [we111]
  rcases vin2_or x1 0 (dD (vδ V)) (by omega) (by omega) with ⟨b1, hl1, hh1, rfl⟩ | hx1
  · rw [if_pos (vin2_t hl1 hh1 (by omega))]
    rcases vin2_or x2 0 (4) (by omega) (by omega) with ⟨b2, hl2, hh2, rfl⟩ | hx2
    · rw [if_pos (vin2_t hl2 hh2 (by omega))]
      have na2 : ¬ b2 < 0 := by omega
      have nb2 : ¬ 4 ≤ b2 := by omega
      have nc2 : ¬ 3 < b2 := by omega
      simp only [u_wn (show b1 < 2147483648 by omega), u_wn (show b2 < 2147483648 by omega)]
      generalize hP : OC G (rfV V (.inl (q_deed V b1 b2))) (.inl (q_deed V b1 b2)) = P
      simp +decide (disch := omega) only [↓wm1, wb111_0 hc, wb111_5 hc, wb111_10 hc, wb111_15 hc, wb111_19 hc, wb111_20 hc, wb111_23 hc, wb111_52 hc, wb111_65 hc, wb111_78 hc, wb111_91 hc, wb111_105 hc, w0, w1, w3, rI_wI, rP_wI, rL_wI, rI_wR, rP_wR, is_wI, is_wR, ia_wI, ia_wR, ow_wI, ow_wR, wn_add, wn_mul, wn_cl, wn_le, wn_lt, wn_inj, wn_ne1, wn_1ne, wn_gt1, wn_le1, nb0, nb1, am_kt, am_rt, List.cons_append, List.nil_append, true_and, and_true, not_true_eq_false, not_false_eq_true, imp_f, imp_t, implies_true, Nat.zero_add, if_true, if_false, false_and, and_false, cn111, fC hsh, fW2 hsh hT, fD hsh hT.2.2.1, e6, ct143y hsh hT hh1, na2, nb2, hh2, nc2, ct139y (v := 1) (by decide) (by decide)]
      simp only [am_swc_iff]
      have rb := hT.2.2.2.2.1.2.2.2.2.2.2 b1 hh1
      have hlt := tb_lt (dn (vδ V) (vσ V)) (dD (vδ V))
      have hp8 : 2 ^ dD (vδ V) ≤ 2 ^ 8 := Nat.pow_le_pow_right (by decide) bD
      have eb := bsr (tb (dn (vδ V) (vσ V)) (dD (vδ V))) (by omega) b1 (by omega)
      rw [bt_tb _ _ _ hh1] at eb
      have hcs : b2 = 0 ∨ b2 = 1 ∨ b2 = 2 ∨ b2 = 3 := by omega
      rcases hcs with rfl | rfl | rfl | rfl
      · rw [show am_swt (wn 0) (wn 0) [52, 65, 78] 91 = 52 from by decide +kernel]
        simp +decide (disch := omega) only [↓wm1, wb111_52 hc, w0, w1, w3, rI_wI, rP_wI, rL_wI, rI_wR, rP_wR, is_wI, is_wR, ia_wI, ia_wR, ow_wI, ow_wR, wn_add, wn_mul, wn_cl, wn_le, wn_lt, wn_inj, wn_ne1, wn_1ne, wn_gt1, wn_le1, nb0, nb1, am_kt, am_rt, List.cons_append, List.nil_append, true_and, and_true, not_true_eq_false, not_false_eq_true, imp_f, imp_t, implies_true, Nat.zero_add, if_true, if_false, false_and, and_false, cn111, fC hsh, fW2 hsh hT, fD hsh hT.2.2.1, fS hsh h32, rb.1]
        rw [← hP]; exact OC_ok hR (Kp.refl G)
      · rw [show am_swt (wn 1) (wn 0) [52, 65, 78] 91 = 65 from by decide +kernel]
        simp +decide (disch := omega) only [↓wm1, wb111_65 hc, w0, w1, w3, rI_wI, rP_wI, rL_wI, rI_wR, rP_wR, is_wI, is_wR, ia_wI, ia_wR, ow_wI, ow_wR, wn_add, wn_mul, wn_cl, wn_le, wn_lt, wn_inj, wn_ne1, wn_1ne, wn_gt1, wn_le1, nb0, nb1, am_kt, am_rt, List.cons_append, List.nil_append, true_and, and_true, not_true_eq_false, not_false_eq_true, imp_f, imp_t, implies_true, Nat.zero_add, if_true, if_false, false_and, and_false, cn111, fC hsh, fW2 hsh hT, fD hsh hT.2.2.1, fS hsh h32, rb.2.1]
        rw [← hP]; exact OC_ok hR (Kp.refl G)
      · rw [show am_swt (wn 2) (wn 0) [52, 65, 78] 91 = 78 from by decide +kernel]
        simp +decide (disch := omega) only [↓wm1, wb111_78 hc, w0, w1, w3, rI_wI, rP_wI, rL_wI, rI_wR, rP_wR, is_wI, is_wR, ia_wI, ia_wR, ow_wI, ow_wR, wn_add, wn_mul, wn_cl, wn_le, wn_lt, wn_inj, wn_ne1, wn_1ne, wn_gt1, wn_le1, nb0, nb1, am_kt, am_rt, List.cons_append, List.nil_append, true_and, and_true, not_true_eq_false, not_false_eq_true, imp_f, imp_t, implies_true, Nat.zero_add, if_true, if_false, false_and, and_false, cn111, fC hsh, fW2 hsh hT, fD hsh hT.2.2.1, fS hsh h32, rb.2.2]
        rw [← hP]; exact OC_ok hR (Kp.refl G)
      · rw [show am_swt (wn 3) (wn 0) [52, 65, 78] 91 = 91 from by decide +kernel]
        simp +decide (disch := omega) only [↓wm1, wb111_91 hc, wb111_105 hc, w0, w1, w3, rI_wI, rP_wI, rL_wI, rI_wR, rP_wR, is_wI, is_wR, ia_wI, ia_wR, ow_wI, ow_wR, wn_add, wn_mul, wn_cl, wn_le, wn_lt, wn_inj, wn_ne1, wn_1ne, wn_gt1, wn_le1, nb0, nb1, am_kt, am_rt, List.cons_append, List.nil_append, true_and, and_true, not_true_eq_false, not_false_eq_true, imp_f, imp_t, implies_true, Nat.zero_add, if_true, if_false, false_and, and_false, cn111, fC hsh, fW2 hsh hT, fD hsh hT.2.2.1, fS hsh h32, ct88 hsh hT h32 hr hm, eb]
        rw [← hP]; exact OC_ok hR (Kp.refl G)
    · rw [if_neg (vin2_nf hx2)]
      generalize hP : OC G (rfV V (.inr 1)) (.inr 1) = P
      by_cases hxa : x2 < wn 0
      · simp +decide (disch := omega) only [↓wm1, wb111_0 hc, wb111_5 hc, wb111_10 hc, wb111_15 hc, wb111_19 hc, wb111_20 hc, wb111_23 hc, wb111_52 hc, wb111_65 hc, wb111_78 hc, wb111_91 hc, wb111_105 hc, w0, w1, w3, rI_wI, rP_wI, rL_wI, rI_wR, rP_wR, is_wI, is_wR, ia_wI, ia_wR, ow_wI, ow_wR, wn_add, wn_mul, wn_cl, wn_le, wn_lt, wn_inj, wn_ne1, wn_1ne, wn_gt1, wn_le1, nb0, nb1, am_kt, am_rt, List.cons_append, List.nil_append, true_and, and_true, not_true_eq_false, not_false_eq_true, imp_f, imp_t, implies_true, Nat.zero_add, if_true, if_false, false_and, and_false, cn111, fC hsh, fW2 hsh hT, fD hsh hT.2.2.1, e6, ct143y hsh hT hh1, hxa, ct139n hsh hB]
        rw [← hP]; exact OC_8 hR hB
      · have hxb : ¬ x2 < wn (4) := by rcases hx2 with z | z; exact absurd z hxa; exact z
        have hxc : wn (4) ≤ x2 := Int32.not_lt.mp hxb
        have hxd : wn 3 < x2 := out3 (by decide) hxb
        simp +decide (disch := omega) only [↓wm1, wb111_0 hc, wb111_5 hc, wb111_10 hc, wb111_15 hc, wb111_19 hc, wb111_20 hc, wb111_23 hc, wb111_52 hc, wb111_65 hc, wb111_78 hc, wb111_91 hc, wb111_105 hc, w0, w1, w3, rI_wI, rP_wI, rL_wI, rI_wR, rP_wR, is_wI, is_wR, ia_wI, ia_wR, ow_wI, ow_wR, wn_add, wn_mul, wn_cl, wn_le, wn_lt, wn_inj, wn_ne1, wn_1ne, wn_gt1, wn_le1, nb0, nb1, am_kt, am_rt, List.cons_append, List.nil_append, true_and, and_true, not_true_eq_false, not_false_eq_true, imp_f, imp_t, implies_true, Nat.zero_add, if_true, if_false, false_and, and_false, cn111, fC hsh, fW2 hsh hT, fD hsh hT.2.2.1, e6, ct143y hsh hT hh1, hxa, hxb, hxc, hxd, ct139n hsh hB]
        rw [← hP]; exact OC_8 hR hB
  · rw [if_neg (vin2_nf hx1)]
    generalize hP : OC G (rfV V (.inr 0)) (.inr 0) = P
    simp +decide (disch := omega) only [↓wm1, wb111_0 hc, wb111_5 hc, wb111_10 hc, wb111_15 hc, wb111_19 hc, wb111_20 hc, wb111_23 hc, wb111_52 hc, wb111_65 hc, wb111_78 hc, wb111_91 hc, wb111_105 hc, w0, w1, w3, rI_wI, rP_wI, rL_wI, rI_wR, rP_wR, is_wI, is_wR, ia_wI, ia_wR, ow_wI, ow_wR, wn_add, wn_mul, wn_cl, wn_le, wn_lt, wn_inj, wn_ne1, wn_1ne, wn_gt1, wn_le1, nb0, nb1, am_kt, am_rt, List.cons_append, List.nil_append, true_and, and_true, not_true_eq_false, not_false_eq_true, imp_f, imp_t, implies_true, Nat.zero_add, if_true, if_false, false_and, and_false, cn111, fC hsh, fW2 hsh hT, fD hsh hT.2.2.1, e6, ct143n hx1 hsh hT hB]
    rw [← hP]; exact OC_7 hR hB
theorem rf_deed (hR : RepR G V) (x1 x2 : Int32) : am_C am_T (d + 12) 219 [.ref 334, .int x1, .int x2] G (OR G (rfV V (sp_deed V x1 x2)) 2 (sp_deed V x1 x2)) := by
  have hc := am_C_one am_T (d + 11)
  have k0 : Kp QSR G (am_wI G 334 0 (wn 0)) := (Kp.refl G).wI (Or.inl ⟨rfl, Or.inl rfl⟩) _
  have e0 : am_gI (am_wI G 334 0 (wn 0)) 334 0 = wn 0 := by rw [rI_wI, if_pos ⟨rfl, rfl⟩]
  have hR0 := hR.q k0
  have hshG := hR.1
  unfold sp_deed
  rw [we219]
  generalize hOR : OR G = OG
  simp +decide (disch := omega) only [↓wm1, wb219_0 hc, w0, w1, w2, w3, rI_wI, rP_wI, rL_wI, rI_wR, rP_wR, is_wI, is_wR, ia_wI, ia_wR, ow_wI, ow_wR, wn_add, wn_mul, wn_cl, wn_le, wn_lt, wn_inj, wn_ne1, wn_1ne, wn_gt1, wn_le1, nb0, nb1, am_kt, am_rt, List.cons_append, List.nil_append, true_and, and_true, not_true_eq_false, not_false_eq_true, imp_f, imp_t, implies_true, Nat.zero_add, if_true, if_false, false_and, and_false, fM hshG, fE2 hR.2.2.2.1, ia338 hshG]
  generalize am_wI G 334 0 (wn 0) = G0 at k0 e0 hR0 ⊢
  subst hOR
  have hsh := hR0.1
  have hv := hR0.2.1
  have hT := hR0.2.2.2.1
  have hr := hR0.2.2.2.2.1.1
  have vd := hv.2.2.2.1
  have bB := vd.1
  have bH := vd.2.1
  have bD := vd.2.2.1
  have hs9 := hv.2.2.2.2.2.1
  have hvs := hs9.1
  have hg := hvs.g6 bB
  have ht := hvs.t6 bB
  have hm := hvs.2.2.2.2.2.1
  have h9 := hs9.2
  have p6 : 2 ^ dB (vδ V) ≤ 64 := Nat.pow_le_pow_right (n := 2) (by decide) bB
  have e6 := bs1 (dB (vδ V)) (by omega)
  rcases vin2_or x1 0 (dD (vδ V)) (by omega) (by omega) with ⟨b1, hl1, hh1, rfl⟩ | hx1
  · rw [if_pos (vin2_t hl1 hh1 (by omega))]
    rcases vin2_or x2 0 (4) (by omega) (by omega) with ⟨b2, hl2, hh2, rfl⟩ | hx2
    · rw [if_pos (vin2_t hl2 hh2 (by omega))]
      simp only [u_wn (show b1 < 2147483648 by omega), u_wn (show b2 < 2147483648 by omega)]
      generalize hP : OR G (rfV V (.inl (q_deed V b1 b2))) 2 (.inl (q_deed V b1 b2)) = P
      simp +decide (disch := omega) only [↓wm1, wb219_19 hc, wb219_22 hc, wb219_26 hc, wb219_27 hc, wb219_32 hc, wb219_35 hc, wb219_42 hc, wb219_45 hc, wb219_49 hc, wb219_50 hc, wb219_55 hc, wb219_58 hc, w0, w1, w2, w3, rI_wI, rP_wI, rL_wI, rI_wR, rP_wR, is_wI, is_wR, ia_wI, ia_wR, ow_wI, ow_wR, wn_add, wn_mul, wn_cl, wn_le, wn_lt, wn_inj, wn_ne1, wn_1ne, wn_gt1, wn_le1, nb0, nb1, am_kt, am_rt, List.cons_append, List.nil_append, true_and, and_true, not_true_eq_false, not_false_eq_true, imp_f, imp_t, implies_true, Nat.zero_add, if_true, if_false, false_and, and_false, fM hsh, fE2 hT, ia338 hsh, e6, b01, if_true, Bool.false_eq_true, ct214 hsh hT, ct215 hsh hT, ct220, ct153c, ct153v, ct152n hsh e0, vin2_t hl1 hh1 (by omega), vin2_t hl2 hh2 (by omega)]
      have rb := hT.1.2.2.2.2.2.2 b1 hh1
      have hcs : b2 = 0 ∨ b2 = 1 ∨ b2 = 2 ∨ b2 = 3 := by omega
      rcases hcs with rfl | rfl | rfl | rfl
      · simp +decide (disch := omega) only [↓wm1, wb219_60 hc, wb219_65 hc, wb219_93 hc, w0, w1, w2, w3, rI_wI, rP_wI, rL_wI, rI_wR, rP_wR, is_wI, is_wR, ia_wI, ia_wR, ow_wI, ow_wR, wn_add, wn_mul, wn_cl, wn_le, wn_lt, wn_inj, wn_ne1, wn_1ne, wn_gt1, wn_le1, nb0, nb1, am_kt, am_rt, List.cons_append, List.nil_append, true_and, and_true, not_true_eq_false, not_false_eq_true, imp_f, imp_t, implies_true, Nat.zero_add, if_true, if_false, false_and, and_false, fM hsh, fr378 hsh, rb.1]
        rw [← hP]; exact OR_ok hR k0 e0
      · simp +decide (disch := omega) only [↓wm1, wb219_60 hc, wb219_65 hc, wb219_93 hc, w0, w1, w2, w3, rI_wI, rP_wI, rL_wI, rI_wR, rP_wR, is_wI, is_wR, ia_wI, ia_wR, ow_wI, ow_wR, wn_add, wn_mul, wn_cl, wn_le, wn_lt, wn_inj, wn_ne1, wn_1ne, wn_gt1, wn_le1, nb0, nb1, am_kt, am_rt, List.cons_append, List.nil_append, true_and, and_true, not_true_eq_false, not_false_eq_true, imp_f, imp_t, implies_true, Nat.zero_add, if_true, if_false, false_and, and_false, fM hsh, fr378 hsh, rb.2.1]
        rw [← hP]; exact OR_ok hR k0 e0
      · simp +decide (disch := omega) only [↓wm1, wb219_60 hc, wb219_65 hc, wb219_93 hc, w0, w1, w2, w3, rI_wI, rP_wI, rL_wI, rI_wR, rP_wR, is_wI, is_wR, ia_wI, ia_wR, ow_wI, ow_wR, wn_add, wn_mul, wn_cl, wn_le, wn_lt, wn_inj, wn_ne1, wn_1ne, wn_gt1, wn_le1, nb0, nb1, am_kt, am_rt, List.cons_append, List.nil_append, true_and, and_true, not_true_eq_false, not_false_eq_true, imp_f, imp_t, implies_true, Nat.zero_add, if_true, if_false, false_and, and_false, fM hsh, fr378 hsh, rb.2.2]
        rw [← hP]; exact OR_ok hR k0 e0
      · cases hdn : dn (vδ V) (vσ V) b1 with
        | true =>
          simp +decide (disch := omega) only [↓wm1, wb219_60 hc, wb219_76 hc, wb219_85 hc, wb219_88 hc, wb219_93 hc, w0, w1, w2, w3, rI_wI, rP_wI, rL_wI, rI_wR, rP_wR, is_wI, is_wR, ia_wI, ia_wR, ow_wI, ow_wR, wn_add, wn_mul, wn_cl, wn_le, wn_lt, wn_inj, wn_ne1, wn_1ne, wn_gt1, wn_le1, nb0, nb1, am_kt, am_rt, List.cons_append, List.nil_append, true_and, and_true, not_true_eq_false, not_false_eq_true, imp_f, imp_t, implies_true, Nat.zero_add, if_true, if_false, false_and, and_false, fM hsh, ct210 hsh hT h808 hr hm hh1, hdn, b01]
          rw [← hP]; simp only [q_deed, hdn, b01, if_true]; exact OR_ok hR k0 e0
        | false =>
          simp +decide (disch := omega) only [↓wm1, wb219_60 hc, wb219_76 hc, wb219_85 hc, wb219_92 hc, wb219_93 hc, w0, w1, w2, w3, rI_wI, rP_wI, rL_wI, rI_wR, rP_wR, is_wI, is_wR, ia_wI, ia_wR, ow_wI, ow_wR, wn_add, wn_mul, wn_cl, wn_le, wn_lt, wn_inj, wn_ne1, wn_1ne, wn_gt1, wn_le1, nb0, nb1, am_kt, am_rt, List.cons_append, List.nil_append, true_and, and_true, not_true_eq_false, not_false_eq_true, imp_f, imp_t, implies_true, Nat.zero_add, if_true, if_false, false_and, and_false, fM hsh, ct210 hsh hT h808 hr hm hh1, hdn, b01, Bool.false_eq_true]
          rw [← hP]; simp only [q_deed, hdn, b01, Bool.false_eq_true, if_false]; exact OR_ok hR k0 e0
    · rw [if_neg (vin2_nf hx2)]
      generalize hP : OR G (rfV V (.inr 1)) 2 (.inr 1) = P
      simp +decide (disch := omega) only [↓wm1, wb219_0 hc, wb219_19 hc, wb219_22 hc, wb219_26 hc, wb219_27 hc, wb219_32 hc, wb219_35 hc, wb219_42 hc, wb219_45 hc, wb219_49 hc, wb219_50 hc, wb219_55 hc, wb219_58 hc, wb219_60 hc, wb219_65 hc, wb219_76 hc, wb219_85 hc, wb219_88 hc, wb219_92 hc, wb219_93 hc, w0, w1, w2, w3, rI_wI, rP_wI, rL_wI, rI_wR, rP_wR, is_wI, is_wR, ia_wI, ia_wR, ow_wI, ow_wR, wn_add, wn_mul, wn_cl, wn_le, wn_lt, wn_inj, wn_ne1, wn_1ne, wn_gt1, wn_le1, nb0, nb1, am_kt, am_rt, List.cons_append, List.nil_append, true_and, and_true, not_true_eq_false, not_false_eq_true, imp_f, imp_t, implies_true, Nat.zero_add, if_true, if_false, false_and, and_false, fM hsh, fE2 hT, ia338 hsh, e6, b01, if_true, Bool.false_eq_true, ct214 hsh hT, ct215 hsh hT, ct220, ct153c, ct153v, ct152n hsh e0, vin2_t hl1 hh1 (by omega), vin2_f hx2, ct152y (c := 2) (r := 1) (by decide) (by decide) (by decide) hsh e0]
      rw [← hP]; exact OR_8 hR k0
  · rw [if_neg (vin2_nf hx1)]
    generalize hP : OR G (rfV V (.inr 0)) 2 (.inr 0) = P
    simp +decide (disch := omega) only [↓wm1, wb219_0 hc, wb219_19 hc, wb219_22 hc, wb219_26 hc, wb219_27 hc, wb219_32 hc, wb219_35 hc, wb219_42 hc, wb219_45 hc, wb219_49 hc, wb219_50 hc, wb219_55 hc, wb219_58 hc, wb219_60 hc, wb219_65 hc, wb219_76 hc, wb219_85 hc, wb219_88 hc, wb219_92 hc, wb219_93 hc, w0, w1, w2, w3, rI_wI, rP_wI, rL_wI, rI_wR, rP_wR, is_wI, is_wR, ia_wI, ia_wR, ow_wI, ow_wR, wn_add, wn_mul, wn_cl, wn_le, wn_lt, wn_inj, wn_ne1, wn_1ne, wn_gt1, wn_le1, nb0, nb1, am_kt, am_rt, List.cons_append, List.nil_append, true_and, and_true, not_true_eq_false, not_false_eq_true, imp_f, imp_t, implies_true, Nat.zero_add, if_true, if_false, false_and, and_false, fM hsh, fE2 hT, ia338 hsh, e6, b01, if_true, Bool.false_eq_true, ct214 hsh hT, ct215 hsh hT, ct220, ct153c, ct153v, ct152n hsh e0, vin2_f hx1, ct152y (c := 1) (r := 0) (by decide) (by decide) (by decide) hsh e0]
    rw [← hP]; exact OR_7 hR k0
def sp_temper (V : Vt) (x1 x2 : Int32) : Res := if vin2 x1 0 (dH (vδ V)) = true then if vin2 x2 0 (10) = true then .inl (wn (sM (vσ V) ((u x1) * 10 + (u x2)))) else .inr 1 else .inr 0
theorem cl_temper (hR : RepC G V) (hB : am_rm G 1 6) (x1 x2 : Int32) : am_C am_T (d + 12) 112 [.ref 0, .int x1, .int x2] G (OC G (rfV V (sp_temper V x1 x2)) (sp_temper V x1 x2)) := by
  have hc := am_C_one am_T (d + 11)
  have hsh := hR.1
  have hv := hR.2.1
  obtain ⟨q, l, hT, -, -⟩ := hR.2.2.2.1
  have hr := hR.2.2.2.2.1.1
  have vd := hv.2.2.2.1
  have bB := vd.1
  have bH := vd.2.1
  have bD := vd.2.2.1
  have hs9 := hv.2.2.2.2.2.1
  have hvs := hs9.1
  have hg := hvs.g6 bB
  have ht := hvs.t6 bB
  have hm := hvs.2.2.2.2.2.1
  have h9 := hs9.2
  have p6 : 2 ^ dB (vδ V) ≤ 64 := Nat.pow_le_pow_right (n := 2) (by decide) bB
  have e6 := bs1 (dB (vδ V)) (by omega)
  unfold sp_temper
  rw [we112]
  rcases vin2_or x1 0 (dH (vδ V)) (by omega) (by omega) with ⟨b1, hl1, hh1, rfl⟩ | hx1
  · rw [if_pos (vin2_t hl1 hh1 (by omega))]
    rcases vin2_or x2 0 (10) (by omega) (by omega) with ⟨b2, hl2, hh2, rfl⟩ | hx2
    · rw [if_pos (vin2_t hl2 hh2 (by omega))]
      have na2 : ¬ b2 < 0 := by omega
      have nb2 : ¬ 10 ≤ b2 := by omega
      have nc2 : ¬ 9 < b2 := by omega
      have em := hr.2.2.2.2.2.2 (b1 * 10 + b2) (by omega)
      simp only [u_wn (show b1 < 2147483648 by omega), u_wn (show b2 < 2147483648 by omega)]
      generalize hP : OC G (rfV V (.inl (wn (sM (vσ V) (b1 * 10 + b2))))) (.inl (wn (sM (vσ V) (b1 * 10 + b2)))) = P
      simp +decide (disch := omega) only [↓wm1, wb112_0 hc, wb112_5 hc, wb112_10 hc, wb112_16 hc, wb112_20 hc, wb112_21 hc, wb112_24 hc, w0, w1, w10, rI_wI, rP_wI, rL_wI, rI_wR, rP_wR, is_wI, is_wR, ia_wI, ia_wR, ow_wI, ow_wR, wn_add, wn_mul, wn_cl, wn_le, wn_lt, wn_inj, wn_ne1, wn_1ne, wn_gt1, wn_le1, nb0, nb1, am_kt, am_rt, List.cons_append, List.nil_append, true_and, and_true, not_true_eq_false, not_false_eq_true, imp_f, imp_t, implies_true, Nat.zero_add, if_true, if_false, false_and, and_false, cn112, fC hsh, fW2 hsh hT, fD hsh hT.2.2.1, e6, ct142y hsh hT hh1, na2, nb2, hh2, nc2, ct139y (v := 1) (by decide) (by decide), em, fS hsh h32]
      rw [← hP]; exact OC_ok hR (Kp.refl G)
    · rw [if_neg (vin2_nf hx2)]
      generalize hP : OC G (rfV V (.inr 1)) (.inr 1) = P
      by_cases hxa : x2 < wn 0
      · simp +decide (disch := omega) only [↓wm1, wb112_0 hc, wb112_5 hc, wb112_10 hc, wb112_16 hc, wb112_20 hc, wb112_21 hc, wb112_24 hc, w0, w1, w10, rI_wI, rP_wI, rL_wI, rI_wR, rP_wR, is_wI, is_wR, ia_wI, ia_wR, ow_wI, ow_wR, wn_add, wn_mul, wn_cl, wn_le, wn_lt, wn_inj, wn_ne1, wn_1ne, wn_gt1, wn_le1, nb0, nb1, am_kt, am_rt, List.cons_append, List.nil_append, true_and, and_true, not_true_eq_false, not_false_eq_true, imp_f, imp_t, implies_true, Nat.zero_add, if_true, if_false, false_and, and_false, cn112, fC hsh, fW2 hsh hT, fD hsh hT.2.2.1, e6, ct142y hsh hT hh1, hxa, ct139n hsh hB]
        rw [← hP]; exact OC_8 hR hB
      · have hxb : ¬ x2 < wn (10) := by rcases hx2 with z | z; exact absurd z hxa; exact z
        have hxc : wn (10) ≤ x2 := Int32.not_lt.mp hxb
        have hxd : wn 9 < x2 := out3 (by decide) hxb
        simp +decide (disch := omega) only [↓wm1, wb112_0 hc, wb112_5 hc, wb112_10 hc, wb112_16 hc, wb112_20 hc, wb112_21 hc, wb112_24 hc, w0, w1, w10, rI_wI, rP_wI, rL_wI, rI_wR, rP_wR, is_wI, is_wR, ia_wI, ia_wR, ow_wI, ow_wR, wn_add, wn_mul, wn_cl, wn_le, wn_lt, wn_inj, wn_ne1, wn_1ne, wn_gt1, wn_le1, nb0, nb1, am_kt, am_rt, List.cons_append, List.nil_append, true_and, and_true, not_true_eq_false, not_false_eq_true, imp_f, imp_t, implies_true, Nat.zero_add, if_true, if_false, false_and, and_false, cn112, fC hsh, fW2 hsh hT, fD hsh hT.2.2.1, e6, ct142y hsh hT hh1, hxa, hxb, hxc, hxd, ct139n hsh hB]
        rw [← hP]; exact OC_8 hR hB
  · rw [if_neg (vin2_nf hx1)]
    generalize hP : OC G (rfV V (.inr 0)) (.inr 0) = P
    simp +decide (disch := omega) only [↓wm1, wb112_0 hc, wb112_5 hc, wb112_10 hc, wb112_16 hc, wb112_20 hc, wb112_21 hc, wb112_24 hc, w0, w1, w10, rI_wI, rP_wI, rL_wI, rI_wR, rP_wR, is_wI, is_wR, ia_wI, ia_wR, ow_wI, ow_wR, wn_add, wn_mul, wn_cl, wn_le, wn_lt, wn_inj, wn_ne1, wn_1ne, wn_gt1, wn_le1, nb0, nb1, am_kt, am_rt, List.cons_append, List.nil_append, true_and, and_true, not_true_eq_false, not_false_eq_true, imp_f, imp_t, implies_true, Nat.zero_add, if_true, if_false, false_and, and_false, cn112, fC hsh, fW2 hsh hT, fD hsh hT.2.2.1, e6, ct142n hx1 hsh hT hB]
    rw [← hP]; exact OC_7 hR hB
theorem rf_temper (hR : RepR G V) (x1 x2 : Int32) : am_C am_T (d + 12) 221 [.ref 334, .int x1, .int x2] G (OR G (rfV V (sp_temper V x1 x2)) 2 (sp_temper V x1 x2)) := by
  have hc := am_C_one am_T (d + 11)
  have k0 : Kp QSR G (am_wI G 334 0 (wn 0)) := (Kp.refl G).wI (Or.inl ⟨rfl, Or.inl rfl⟩) _
  have e0 : am_gI (am_wI G 334 0 (wn 0)) 334 0 = wn 0 := by rw [rI_wI, if_pos ⟨rfl, rfl⟩]
  have hR0 := hR.q k0
  have hshG := hR.1
  unfold sp_temper
  rw [we221]
  generalize hOR : OR G = OG
  simp +decide (disch := omega) only [↓wm1, wb221_0 hc, w0, w1, w2, rI_wI, rP_wI, rL_wI, rI_wR, rP_wR, is_wI, is_wR, ia_wI, ia_wR, ow_wI, ow_wR, wn_add, wn_mul, wn_cl, wn_le, wn_lt, wn_inj, wn_ne1, wn_1ne, wn_gt1, wn_le1, nb0, nb1, am_kt, am_rt, List.cons_append, List.nil_append, true_and, and_true, not_true_eq_false, not_false_eq_true, imp_f, imp_t, implies_true, Nat.zero_add, if_true, if_false, false_and, and_false, fM hshG, fE2 hR.2.2.2.1, ia338 hshG]
  generalize am_wI G 334 0 (wn 0) = G0 at k0 e0 hR0 ⊢
  subst hOR
  have hsh := hR0.1
  have hv := hR0.2.1
  have hT := hR0.2.2.2.1
  have hr := hR0.2.2.2.2.1.1
  have vd := hv.2.2.2.1
  have bB := vd.1
  have bH := vd.2.1
  have bD := vd.2.2.1
  have hs9 := hv.2.2.2.2.2.1
  have hvs := hs9.1
  have hg := hvs.g6 bB
  have ht := hvs.t6 bB
  have hm := hvs.2.2.2.2.2.1
  have h9 := hs9.2
  have p6 : 2 ^ dB (vδ V) ≤ 64 := Nat.pow_le_pow_right (n := 2) (by decide) bB
  have e6 := bs1 (dB (vδ V)) (by omega)
  rcases vin2_or x1 0 (dH (vδ V)) (by omega) (by omega) with ⟨b1, hl1, hh1, rfl⟩ | hx1
  · rw [if_pos (vin2_t hl1 hh1 (by omega))]
    rcases vin2_or x2 0 (10) (by omega) (by omega) with ⟨b2, hl2, hh2, rfl⟩ | hx2
    · rw [if_pos (vin2_t hl2 hh2 (by omega))]
      have em := (fW hr).2.2.2.2.1 (b1 * 10 + b2) (by omega)
      have e3 : 24 + 10 * b1 + b2 = 24 + (b1 * 10 + b2) := by omega
      simp only [u_wn (show b1 < 2147483648 by omega), u_wn (show b2 < 2147483648 by omega)]
      generalize hP : OR G (rfV V (.inl (wn (sM (vσ V) (b1 * 10 + b2))))) 2 (.inl (wn (sM (vσ V) (b1 * 10 + b2)))) = P
      simp +decide (disch := omega) only [↓wm1, wb221_0 hc, wb221_11 hc, wb221_14 hc, wb221_18 hc, wb221_19 hc, wb221_24 hc, wb221_27 hc, wb221_32 hc, wb221_35 hc, wb221_39 hc, wb221_40 hc, wb221_45 hc, wb221_48 hc, wb221_50 hc, wb221_59 hc, w0, w1, w2, rI_wI, rP_wI, rL_wI, rI_wR, rP_wR, is_wI, is_wR, ia_wI, ia_wR, ow_wI, ow_wR, wn_add, wn_mul, wn_cl, wn_le, wn_lt, wn_inj, wn_ne1, wn_1ne, wn_gt1, wn_le1, nb0, nb1, am_kt, am_rt, List.cons_append, List.nil_append, true_and, and_true, not_true_eq_false, not_false_eq_true, imp_f, imp_t, implies_true, Nat.zero_add, if_true, if_false, false_and, and_false, fM hsh, fE2 hT, ia338 hsh, e6, b01, if_true, Bool.false_eq_true, ct214 hsh hT, ct215 hsh hT, ct220, ct153c, ct153v, ct152n hsh e0, vin2_t hl1 hh1 (by omega), vin2_t hl2 hh2 (by omega), ct199, e3, em, fR hsh h808]
      rw [← hP]; exact OR_ok hR k0 e0
    · rw [if_neg (vin2_nf hx2)]
      generalize hP : OR G (rfV V (.inr 1)) 2 (.inr 1) = P
      simp +decide (disch := omega) only [↓wm1, wb221_0 hc, wb221_11 hc, wb221_14 hc, wb221_18 hc, wb221_19 hc, wb221_24 hc, wb221_27 hc, wb221_32 hc, wb221_35 hc, wb221_39 hc, wb221_40 hc, wb221_45 hc, wb221_48 hc, wb221_50 hc, wb221_59 hc, w0, w1, w2, rI_wI, rP_wI, rL_wI, rI_wR, rP_wR, is_wI, is_wR, ia_wI, ia_wR, ow_wI, ow_wR, wn_add, wn_mul, wn_cl, wn_le, wn_lt, wn_inj, wn_ne1, wn_1ne, wn_gt1, wn_le1, nb0, nb1, am_kt, am_rt, List.cons_append, List.nil_append, true_and, and_true, not_true_eq_false, not_false_eq_true, imp_f, imp_t, implies_true, Nat.zero_add, if_true, if_false, false_and, and_false, fM hsh, fE2 hT, ia338 hsh, e6, b01, if_true, Bool.false_eq_true, ct214 hsh hT, ct215 hsh hT, ct220, ct153c, ct153v, ct152n hsh e0, vin2_t hl1 hh1 (by omega), vin2_f hx2, ct152y (c := 2) (r := 1) (by decide) (by decide) (by decide) hsh e0]
      rw [← hP]; exact OR_8 hR k0
  · rw [if_neg (vin2_nf hx1)]
    generalize hP : OR G (rfV V (.inr 0)) 2 (.inr 0) = P
    simp +decide (disch := omega) only [↓wm1, wb221_0 hc, wb221_11 hc, wb221_14 hc, wb221_18 hc, wb221_19 hc, wb221_24 hc, wb221_27 hc, wb221_32 hc, wb221_35 hc, wb221_39 hc, wb221_40 hc, wb221_45 hc, wb221_48 hc, wb221_50 hc, wb221_59 hc, w0, w1, w2, rI_wI, rP_wI, rL_wI, rI_wR, rP_wR, is_wI, is_wR, ia_wI, ia_wR, ow_wI, ow_wR, wn_add, wn_mul, wn_cl, wn_le, wn_lt, wn_inj, wn_ne1, wn_1ne, wn_gt1, wn_le1, nb0, nb1, am_kt, am_rt, List.cons_append, List.nil_append, true_and, and_true, not_true_eq_false, not_false_eq_true, imp_f, imp_t, implies_true, Nat.zero_add, if_true, if_false, false_and, and_false, fM hsh, fE2 hT, ia338 hsh, e6, b01, if_true, Bool.false_eq_true, ct214 hsh hT, ct215 hsh hT, ct220, ct153c, ct153v, ct152n hsh e0, vin2_f hx1, ct152y (c := 1) (r := 0) (by decide) (by decide) (by decide) hsh e0]
    rw [← hP]; exact OR_7 hR k0
end
