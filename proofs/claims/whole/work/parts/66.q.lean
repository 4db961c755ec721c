/-! Questions, both sides: heard, would, ahead, sleeps. -/
def sPs : Nat → St → St
  | 0, σ => σ
  | n + 1, σ => sPass (sPs n σ)
theorem sH_sPs (σ : St) : ∀ n, sH (sPs n σ) = sH σ + n := by
  intro n
  induction n with
  | zero => rfl
  | succ n ih =>
    show sH (sPs n σ) + 1 = _
    rw [ih, Nat.add_assoc]
theorem vS_sPs {B H : Nat} {σ : St} (hv : vS9 B H σ) : ∀ n, n ≤ 1000 → vS B H (sPs n σ) := by
  intro n
  induction n with
  | zero => intro _; exact hv.1
  | succ n ih =>
    intro hn
    have := sH_sPs σ n
    have h9 := hv.2
    exact vS_pass (ih (by omega)) (by omega)
def q_would (V : Vt) (l f p c w t o b h : Nat) : Int32 := wn (hl (vΛ V) (knv l f p c w t o b h))
def q_ahead (V : Vt) (n w : Nat) : Int32 := match w with
  | 0 => wn (tsum (tIn (sPs n (vσ V))) (dH (vδ V)))
  | 1 => wn (tb (hmd (sPs n (vσ V))) (dH (vδ V)))
  | _ => wn (tb (dn (vδ V) (sPs n (vσ V))) (dD (vδ V)))
def slp (σ : St) (h : Nat) : Nat → Nat → Int32
  | 0, _ => mm
  | f + 1, k => if tIn (sPs k σ) h = 0 then wn k else slp σ h f (k + 1)
theorem HS_q {G G' : am_G} (k : Kp HS G G') : Kp QSC G G' := k.mono (fun a i z => by unfold HS at z; unfold QSC; omega)
theorem HM_q {G G' : am_G} (k : Kp HM G G') : Kp QSR G G' := k.mono (fun a i z => by unfold HM at z; unfold QSR; omega)
theorem sc102 {G G' : am_G} (k : Kp (sc 102) G G') : Kp QSC G G' := k.mono (fun a i z => by unfold sc at z; unfold QSC; omega)
theorem r809 {G G' : am_G} (k : Kp (fun a _ => a = 809) G G') : Kp QSR G G' := k.mono (fun a i z => by unfold QSR; omega)
theorem Kp.thr {G G' : am_G} {Sc : Nat → Nat → Prop} (k : Kp Sc G G') (hn : ¬ Sc 334 0) (e : am_gI G 334 0 = wn 0) : am_gI G' 334 0 = wn 0 := by rw [k.i hn]; exact e
section
variable {G : am_G} {d : Nat} {V : Vt}
def sp_heard (V : Vt) (x1 x2 : Int32) : Res := if vin2 x1 0 (dB (vδ V)) = true then if vin2 x2 0 (dH (vδ V)) = true then .inl (wn (hear (vδ V) (vΛ V) (vσ V) (u x1) (u x2))) else .inr 0 else .inr 0
theorem cl_heard (hR : RepC G V) (hB : am_rm G 1 6) (x1 x2 : Int32) : am_C am_T (d + 12) 113 [.ref 0, .int x1, .int x2] G (OC G (rfV V (sp_heard V x1 x2)) (sp_heard V x1 x2)) := by
  have hc := am_C_one am_T (d + 11)
  have hsh := hR.1
  have hv := hR.2.1
  obtain ⟨q, l, hT, -, -⟩ := hR.2.2.2.1
  have hr := hR.2.2.2.2.1.1
  have vd := hv.2.2.2.1
  have bB := vd.1
  have bH := vd.2.1
  have bD := vd.2.2.1
  have hs9 := hv.2.2.2.2.2.1
  have hvs := hs9.1
  have hg := hvs.g6 bB
  have ht := hvs.t6 bB
  have hm := hvs.2.2.2.2.2.1
  have h9 := hs9.2
  have p6 : 2 ^ dB (vδ V) ≤ 64 := Nat.pow_le_pow_right (n := 2) (by decide) bB
  have e6 := bs1 (dB (vδ V)) (by omega)
  unfold sp_heard
  rw [we113]
  rcases vin2_or x1 0 (dB (vδ V)) (by omega) (by omega) with ⟨b1, hl1, hh1, rfl⟩ | hx1
  · rw [if_pos (vin2_t hl1 hh1 (by omega))]
    rcases vin2_or x2 0 (dH (vδ V)) (by omega) (by omega) with ⟨b2, hl2, hh2, rfl⟩ | hx2
    · rw [if_pos (vin2_t hl2 hh2 (by omega))]
      simp only [u_wn (show b1 < 2147483648 by omega), u_wn (show b2 < 2147483648 by omega)]
      generalize hP : OC G (rfV V (.inl (wn (hear (vδ V) (vΛ V) (vσ V) b1 b2)))) (.inl (wn (hear (vδ V) (vΛ V) (vσ V) b1 b2))) = P
      simp +decide (disch := omega) only [↓wm1, wb113_0 hc, wb113_5 hc, wb113_10 hc, wb113_26 hc, w0, w1, rI_wI, rP_wI, rL_wI, rI_wR, rP_wR, is_wI, is_wR, ia_wI, ia_wR, ow_wI, ow_wR, wn_add, wn_mul, wn_cl, wn_le, wn_lt, wn_inj, wn_ne1, wn_1ne, wn_gt1, wn_le1, nb0, nb1, am_kt, am_rt, List.cons_append, List.nil_append, true_and, and_true, not_true_eq_false, not_false_eq_true, imp_f, imp_t, implies_true, Nat.zero_add, if_true, if_false, false_and, and_false, cn113, fC hsh, fW2 hsh hT, fD hsh hT.2.2.1, e6, ct141y hsh hT hh1, ct142y hsh hT hh2, fS hsh h32]
      refine ct82 hsh hT h32 hr hh1 hh2 (by have := hs9.2; omega) (fun G1 k1 => ?_)
      simp +decide (disch := omega) only [↓wm1, wb113_26 hc, w0, w1, rI_wI, rP_wI, rL_wI, rI_wR, rP_wR, is_wI, is_wR, ia_wI, ia_wR, ow_wI, ow_wR, wn_add, wn_mul, wn_cl, wn_le, wn_lt, wn_inj, wn_ne1, wn_1ne, wn_gt1, wn_le1, nb0, nb1, am_kt, am_rt, List.cons_append, List.nil_append, true_and, and_true, not_true_eq_false, not_false_eq_true, imp_f, imp_t, implies_true, Nat.zero_add, if_true, if_false, false_and, and_false, cn113]
      rw [← hP]; exact OC_ok hR (HS_q k1)
    · rw [if_neg (vin2_nf hx2)]
      generalize hP : OC G (rfV V (.inr 0)) (.inr 0) = P
      simp +decide (disch := omega) only [↓wm1, wb113_0 hc, wb113_5 hc, wb113_10 hc, wb113_26 hc, w0, w1, rI_wI, rP_wI, rL_wI, rI_wR, rP_wR, is_wI, is_wR, ia_wI, ia_wR, ow_wI, ow_wR, wn_add, wn_mul, wn_cl, wn_le, wn_lt, wn_inj, wn_ne1, wn_1ne, wn_gt1, wn_le1, nb0, nb1, am_kt, am_rt, List.cons_append, List.nil_append, true_and, and_true, not_true_eq_false, not_false_eq_true, imp_f, imp_t, implies_true, Nat.zero_add, if_true, if_false, false_and, and_false, cn113, fC hsh, fW2 hsh hT, fD hsh hT.2.2.1, e6, ct141y hsh hT hh1, ct142n hx2 hsh hT hB]
      rw [← hP]; exact OC_7 hR hB
  · rw [if_neg (vin2_nf hx1)]
    generalize hP : OC G (rfV V (.inr 0)) (.inr 0) = P
    simp +decide (disch := omega) only [↓wm1, wb113_0 hc, wb113_5 hc, wb113_10 hc, wb113_26 hc, w0, w1, rI_wI, rP_wI, rL_wI, rI_wR, rP_wR, is_wI, is_wR, ia_wI, ia_wR, ow_wI, ow_wR, wn_add, wn_mul, wn_cl, wn_le, wn_lt, wn_inj, wn_ne1, wn_1ne, wn_gt1, wn_le1, nb0, nb1, am_kt, am_rt, List.cons_append, List.nil_append, true_and, and_true, not_true_eq_false, not_false_eq_true, imp_f, imp_t, implies_true, Nat.zero_add, if_true, if_false, false_and, and_false, cn113, fC hsh, fW2 hsh hT, fD hsh hT.2.2.1, e6, ct141n hx1 hsh hT hB]
    rw [← hP]; exact OC_7 hR hB
theorem rf_heard (hR : RepR G V) (x1 x2 : Int32) : am_C am_T (d + 12) 222 [.ref 334, .int x1, .int x2] G (OR G (rfV V (sp_heard V x1 x2)) 1 (sp_heard V x1 x2)) := by
  have hc := am_C_one am_T (d + 11)
  have k0 : Kp QSR G (am_wI G 334 0 (wn 0)) := (Kp.refl G).wI (Or.inl ⟨rfl, Or.inl rfl⟩) _
  have e0 : am_gI (am_wI G 334 0 (wn 0)) 334 0 = wn 0 := by rw [rI_wI, if_pos ⟨rfl, rfl⟩]
  have hR0 := hR.q k0
  have hshG := hR.1
  unfold sp_heard
  rw [we222]
  generalize hOR : OR G = OG
  simp +decide (disch := omega) only [↓wm1, wb222_0 hc, w0, w1, rI_wI, rP_wI, rL_wI, rI_wR, rP_wR, is_wI, is_wR, ia_wI, ia_wR, ow_wI, ow_wR, wn_add, wn_mul, wn_cl, wn_le, wn_lt, wn_inj, wn_ne1, wn_1ne, wn_gt1, wn_le1, nb0, nb1, am_kt, am_rt, List.cons_append, List.nil_append, true_and, and_true, not_true_eq_false, not_false_eq_true, imp_f, imp_t, implies_true, Nat.zero_add, if_true, if_false, false_and, and_false, fM hshG, fE2 hR.2.2.2.1, ia338 hshG]
  generalize am_wI G 334 0 (wn 0) = G0 at k0 e0 hR0 ⊢
  subst hOR
  have hsh := hR0.1
  have hv := hR0.2.1
  have hT := hR0.2.2.2.1
  have hr := hR0.2.2.2.2.1.1
  have vd := hv.2.2.2.1
  have bB := vd.1
  have bH := vd.2.1
  have bD := vd.2.2.1
  have hs9 := hv.2.2.2.2.2.1
  have hvs := hs9.1
  have hg := hvs.g6 bB
  have ht := hvs.t6 bB
  have hm := hvs.2.2.2.2.2.1
  have h9 := hs9.2
  have p6 : 2 ^ dB (vδ V) ≤ 64 := Nat.pow_le_pow_right (n := 2) (by decide) bB
  have e6 := bs1 (dB (vδ V)) (by omega)
  rcases vin2_or x1 0 (dB (vδ V)) (by omega) (by omega) with ⟨b1, hl1, hh1, rfl⟩ | hx1
  · rw [if_pos (vin2_t hl1 hh1 (by omega))]
    rcases vin2_or x2 0 (dH (vδ V)) (by omega) (by omega) with ⟨b2, hl2, hh2, rfl⟩ | hx2
    · rw [if_pos (vin2_t hl2 hh2 (by omega))]
      simp only [u_wn (show b1 < 2147483648 by omega), u_wn (show b2 < 2147483648 by omega)]
      generalize hP : OR G (rfV V (.inl (wn (hear (vδ V) (vΛ V) (vσ V) b1 b2)))) 1 (.inl (wn (hear (vδ V) (vΛ V) (vσ V) b1 b2))) = P
      simp +decide (disch := omega) only [↓wm1, wb222_0 hc, wb222_11 hc, wb222_14 hc, wb222_19 hc, wb222_22 hc, wb222_26 hc, wb222_27 hc, wb222_32 hc, wb222_35 hc, wb222_37 hc, wb222_47 hc, w0, w1, rI_wI, rP_wI, rL_wI, rI_wR, rP_wR, is_wI, is_wR, ia_wI, ia_wR, ow_wI, ow_wR, wn_add, wn_mul, wn_cl, wn_le, wn_lt, wn_inj, wn_ne1, wn_1ne, wn_gt1, wn_le1, nb0, nb1, am_kt, am_rt, List.cons_append, List.nil_append, true_and, and_true, not_true_eq_false, not_false_eq_true, imp_f, imp_t, implies_true, Nat.zero_add, if_true, if_false, false_and, and_false, fM hsh, fE2 hT, ia338 hsh, e6, b01, if_true, Bool.false_eq_true, ct214 hsh hT, ct215 hsh hT, ct220, ct153c, ct153v, ct152n hsh e0, vin2_t hl1 hh1 (by omega), vin2_t hl2 hh2 (by omega)]
      refine ct196 hsh hT h808 hr hh1 hh2 (by have := hs9.2; omega) (fun G1 k1 => ?_)
      simp +decide (disch := omega) only [↓wm1, wb222_47 hc, w0, w1, rI_wI, rP_wI, rL_wI, rI_wR, rP_wR, is_wI, is_wR, ia_wI, ia_wR, ow_wI, ow_wR, wn_add, wn_mul, wn_cl, wn_le, wn_lt, wn_inj, wn_ne1, wn_1ne, wn_gt1, wn_le1, nb0, nb1, am_kt, am_rt, List.cons_append, List.nil_append, true_and, and_true, not_true_eq_false, not_false_eq_true, imp_f, imp_t, implies_true, Nat.zero_add, if_true, if_false, false_and, and_false]
      rw [← hP]; exact OR_ok hR (k0.trans (HM_q k1)) (k1.thr (by unfold HM; omega) e0)
    · rw [if_neg (vin2_nf hx2)]
      generalize hP : OR G (rfV V (.inr 0)) 1 (.inr 0) = P
      simp +decide (disch := omega) only [↓wm1, wb222_0 hc, wb222_11 hc, wb222_14 hc, wb222_19 hc, wb222_22 hc, wb222_26 hc, wb222_27 hc, wb222_32 hc, wb222_35 hc, wb222_37 hc, wb222_47 hc, w0, w1, rI_wI, rP_wI, rL_wI, rI_wR, rP_wR, is_wI, is_wR, ia_wI, ia_wR, ow_wI, ow_wR, wn_add, wn_mul, wn_cl, wn_le, wn_lt, wn_inj, wn_ne1, wn_1ne, wn_gt1, wn_le1, nb0, nb1, am_kt, am_rt, List.cons_append, List.nil_append, true_and, and_true, not_true_eq_false, not_false_eq_true, imp_f, imp_t, implies_true, Nat.zero_add, if_true, if_false, false_and, and_false, fM hsh, fE2 hT, ia338 hsh, e6, b01, if_true, Bool.false_eq_true, ct214 hsh hT, ct215 hsh hT, ct220, ct153c, ct153v, ct152n hsh e0, vin2_t hl1 hh1 (by omega), vin2_f hx2, ct152y (c := 1) (r := 0) (by decide) (by decide) (by decide) hsh e0]
      rw [← hP]; exact OR_7 hR k0
  · rw [if_neg (vin2_nf hx1)]
    generalize hP : OR G (rfV V (.inr 0)) 1 (.inr 0) = P
    simp +decide (disch := omega) only [↓wm1, wb222_0 hc, wb222_11 hc, wb222_14 hc, wb222_19 hc, wb222_22 hc, wb222_26 hc, wb222_27 hc, wb222_32 hc, wb222_35 hc, wb222_37 hc, wb222_47 hc, w0, w1, rI_wI, rP_wI, rL_wI, rI_wR, rP_wR, is_wI, is_wR, ia_wI, ia_wR, ow_wI, ow_wR, wn_add, wn_mul, wn_cl, wn_le, wn_lt, wn_inj, wn_ne1, wn_1ne, wn_gt1, wn_le1, nb0, nb1, am_kt, am_rt, List.cons_append, List.nil_append, true_and, and_true, not_true_eq_false, not_false_eq_true, imp_f, imp_t, implies_true, Nat.zero_add, if_true, if_false, false_and, and_false, fM hsh, fE2 hT, ia338 hsh, e6, b01, if_true, Bool.false_eq_true, ct214 hsh hT, ct215 hsh hT, ct220, ct153c, ct153v, ct152n hsh e0, vin2_f hx1, ct152y (c := 1) (r := 0) (by decide) (by decide) (by decide) hsh e0]
    rw [← hP]; exact OR_7 hR k0
def sp_would (V : Vt) (x1 x2 x3 x4 x5 x6 x7 x8 x9 : Int32) : Res := if vin2 x1 1 (61) = true then if vin2 x2 0 (31) = true then if vin2 x3 0 (10) = true then if vin2 x4 0 (4) = true then if vin2 x5 0 (10) = true then if vin2 x6 0 (1000) = true then if vin2 x7 0 (24) = true then if vin2 x8 0 (7) = true then if vin2 x9 0 (7) = true then .inl (q_would V (u x1) (u x2) (u x3) (u x4) (u x5) (u x6) (u x7) (u x8) (u x9)) else .inr 1 else .inr 1 else .inr 1 else .inr 1 else .inr 1 else .inr 1 else .inr 1 else .inr 1 else .inr 1
theorem cl_would (hR : RepC G V) (hB : am_rm G 1 6) (x1 x2 x3 x4 x5 x6 x7 x8 x9 : Int32) : am_C am_T (d + 12) 114 [.ref 0, .int x1, .int x2, .int x3, .int x4, .int x5, .int x6, .int x7, .int x8, .int x9] G (OC G (rfV V (sp_would V x1 x2 x3 x4 x5 x6 x7 x8 x9)) (sp_would V x1 x2 x3 x4 x5 x6 x7 x8 x9)) := by
  have hc := am_C_one am_T (d + 11)
  have hsh := hR.1
  have hv := hR.2.1
  obtain ⟨q, l, hT, -, -⟩ := hR.2.2.2.1
  have hr := hR.2.2.2.2.1.1
  have vd := hv.2.2.2.1
  have bB := vd.1
  have bH := vd.2.1
  have bD := vd.2.2.1
  have hs9 := hv.2.2.2.2.2.1
  have hvs := hs9.1
  have hg := hvs.g6 bB
  have ht := hvs.t6 bB
  have hm := hvs.2.2.2.2.2.1
  have h9 := hs9.2
  have p6 : 2 ^ dB (vδ V) ≤ 64 := Nat.pow_le_pow_right (n := 2) (by decide) bB
  have e6 := bs1 (dB (vδ V)) (by omega)
  unfold sp_would
  rw [we114]
  rcases vin2_or x1 1 (61) (by omega) (by omega) with ⟨b1, hl1, hh1, rfl⟩ | hx1
  · rw [if_pos (vin2_t hl1 hh1 (by omega))]
    have na1 : ¬ b1 < 1 := by omega
    have nb1 : ¬ 61 ≤ b1 := by omega
    have nc1 : ¬ 60 < b1 := by omega
    rcases vin2_or x2 0 (31) (by omega) (by omega) with ⟨b2, hl2, hh2, rfl⟩ | hx2
    · rw [if_pos (vin2_t hl2 hh2 (by omega))]
      have na2 : ¬ b2 < 0 := by omega
      have nb2 : ¬ 31 ≤ b2 := by omega
      have nc2 : ¬ 30 < b2 := by omega
      rcases vin2_or x3 0 (10) (by omega) (by omega) with ⟨b3, hl3, hh3, rfl⟩ | hx3
      · rw [if_pos (vin2_t hl3 hh3 (by omega))]
        have na3 : ¬ b3 < 0 := by omega
        have nb3 : ¬ 10 ≤ b3 := by omega
        have nc3 : ¬ 9 < b3 := by omega
        rcases vin2_or x4 0 (4) (by omega) (by omega) with ⟨b4, hl4, hh4, rfl⟩ | hx4
        · rw [if_pos (vin2_t hl4 hh4 (by omega))]
          have na4 : ¬ b4 < 0 := by omega
          have nb4 : ¬ 4 ≤ b4 := by omega
          have nc4 : ¬ 3 < b4 := by omega
          rcases vin2_or x5 0 (10) (by omega) (by omega) with ⟨b5, hl5, hh5, rfl⟩ | hx5
          · rw [if_pos (vin2_t hl5 hh5 (by omega))]
            have na5 : ¬ b5 < 0 := by omega
            have nb5 : ¬ 10 ≤ b5 := by omega
            have nc5 : ¬ 9 < b5 := by omega
            rcases vin2_or x6 0 (1000) (by omega) (by omega) with ⟨b6, hl6, hh6, rfl⟩ | hx6
            · rw [if_pos (vin2_t hl6 hh6 (by omega))]
              have na6 : ¬ b6 < 0 := by omega
              have nb6 : ¬ 1000 ≤ b6 := by omega
              have nc6 : ¬ 999 < b6 := by omega
              rcases vin2_or x7 0 (24) (by omega) (by omega) with ⟨b7, hl7, hh7, rfl⟩ | hx7
              · rw [if_pos (vin2_t hl7 hh7 (by omega))]
                have na7 : ¬ b7 < 0 := by omega
                have nb7 : ¬ 24 ≤ b7 := by omega
                have nc7 : ¬ 23 < b7 := by omega
                rcases vin2_or x8 0 (7) (by omega) (by omega) with ⟨b8, hl8, hh8, rfl⟩ | hx8
                · rw [if_pos (vin2_t hl8 hh8 (by omega))]
                  have na8 : ¬ b8 < 0 := by omega
                  have nb8 : ¬ 7 ≤ b8 := by omega
                  have nc8 : ¬ 6 < b8 := by omega
                  rcases vin2_or x9 0 (7) (by omega) (by omega) with ⟨b9, hl9, hh9, rfl⟩ | hx9
                  · rw [if_pos (vin2_t hl9 hh9 (by omega))]
                    have na9 : ¬ b9 < 0 := by omega
                    have nb9 : ¬ 7 ≤ b9 := by omega
                    have nc9 : ¬ 6 < b9 := by omega
                    simp only [u_wn (show b1 < 2147483648 by omega), u_wn (show b2 < 2147483648 by omega), u_wn (show b3 < 2147483648 by omega), u_wn (show b4 < 2147483648 by omega), u_wn (show b5 < 2147483648 by omega), u_wn (show b6 < 2147483648 by omega), u_wn (show b7 < 2147483648 by omega), u_wn (show b8 < 2147483648 by omega), u_wn (show b9 < 2147483648 by omega)]
                    generalize hP : OC G (rfV V (.inl (q_would V b1 b2 b3 b4 b5 b6 b7 b8 b9))) (.inl (q_would V b1 b2 b3 b4 b5 b6 b7 b8 b9)) = P
                    simp +decide (disch := omega) only [↓wm1, wb114_0 hc, wb114_6 hc, wb114_12 hc, wb114_16 hc, wb114_17 hc, wb114_20 hc, wb114_25 hc, wb114_31 hc, wb114_35 hc, wb114_36 hc, wb114_39 hc, wb114_44 hc, wb114_50 hc, wb114_54 hc, wb114_55 hc, wb114_58 hc, wb114_64 hc, wb114_70 hc, wb114_74 hc, wb114_75 hc, wb114_78 hc, wb114_84 hc, wb114_91 hc, wb114_95 hc, wb114_96 hc, wb114_99 hc, wb114_105 hc, wb114_113 hc, wb114_117 hc, wb114_118 hc, wb114_121 hc, wb114_127 hc, wb114_134 hc, wb114_138 hc, wb114_139 hc, wb114_142 hc, wb114_148 hc, wb114_155 hc, wb114_159 hc, wb114_160 hc, wb114_163 hc, wb114_169 hc, wb114_176 hc, wb114_180 hc, wb114_181 hc, wb114_184 hc, wb114_259 hc, w0, w1, w2, w3, w4, w5, w6, w7, w8, w9, w10, w24, w30, w60, w999, rI_wI, rP_wI, rL_wI, rI_wR, rP_wR, is_wI, is_wR, ia_wI, ia_wR, ow_wI, ow_wR, wn_add, wn_mul, wn_cl, wn_le, wn_lt, wn_inj, wn_ne1, wn_1ne, wn_gt1, wn_le1, nb0, nb1, am_kt, am_rt, List.cons_append, List.nil_append, true_and, and_true, not_true_eq_false, not_false_eq_true, imp_f, imp_t, implies_true, Nat.zero_add, if_true, if_false, false_and, and_false, cn114, fC hsh, fW2 hsh hT, fD hsh hT.2.2.1, e6, na1, nb1, hh1, nc1, ct139y (v := 1) (by decide) (by decide), na2, nb2, hh2, nc2, na3, nb3, hh3, nc3, na4, nb4, hh4, nc4, na5, nb5, hh5, nc5, na6, nb6, hh6, nc6, na7, nb7, hh7, nc7, na8, nb8, hh8, nc8, na9, nb9, hh9, nc9, ow26 hsh, fL hsh hT.2.2.2.1, is_wI]
                    have k1 : Kp (fun a _ => a = 26) G (am_wI (am_wI (am_wI (am_wI (am_wI (am_wI (am_wI (am_wI (am_wI G 26 0 (wn b1)) 26 1 (wn b2)) 26 2 (wn b3)) 26 3 (wn b4)) 26 4 (wn b5)) 26 5 (wn b6)) 26 6 (wn b7)) 26 7 (wn b8)) 26 8 (wn b9)) := (((((((((Kp.refl G).wI (by exact rfl) _).wI (by exact rfl) _).wI (by exact rfl) _).wI (by exact rfl) _).wI (by exact rfl) _).wI (by exact rfl) _).wI (by exact rfl) _).wI (by exact rfl) _).wI (by exact rfl) _
                    have hT1 := hT.kp k1 (by rintro a i rfl; omega)
                    refine ct29 (hsh.kp k1) hT.2.2.2.1 hT1.2.2.2.2.2.2.1 (okΛ_eff hT.2.2.2.2.2.2.2) (kn := knv b1 b2 b3 b4 b5 b6 b7 b8 b9) (fun j hj => ?_) (fun G2 k2 => ?_)
                    · have : j = 0 ∨ j = 1 ∨ j = 2 ∨ j = 3 ∨ j = 4 ∨ j = 5 ∨ j = 6 ∨ j = 7 ∨ j = 8 := by omega
                      rcases this with rfl | rfl | rfl | rfl | rfl | rfl | rfl | rfl | rfl <;> simp [rI_wI, knv]
                    · simp +decide (disch := omega) only [↓wm1, wb114_259 hc, w0, w1, w2, w3, w4, w5, w6, w7, w8, w9, w10, w24, w30, w60, w999, rI_wI, rP_wI, rL_wI, rI_wR, rP_wR, is_wI, is_wR, ia_wI, ia_wR, ow_wI, ow_wR, wn_add, wn_mul, wn_cl, wn_le, wn_lt, wn_inj, wn_ne1, wn_1ne, wn_gt1, wn_le1, nb0, nb1, am_kt, am_rt, List.cons_append, List.nil_append, true_and, and_true, not_true_eq_false, not_false_eq_true, imp_f, imp_t, implies_true, Nat.zero_add, if_true, if_false, false_and, and_false, cn114]
                      rw [← hP]; refine OC_ok hR ((k1.mono ?_).trans (k2.mono ?_))
                      · rintro a i rfl; unfold QSC; omega
                      · rintro a i rfl; have := hT.2.2.2.1; unfold QSC; omega
                  · rw [if_neg (vin2_nf hx9)]
                    generalize hP : OC G (rfV V (.inr 1)) (.inr 1) = P
                    by_cases hxa : x9 < wn 0
                    · simp +decide (disch := omega) only [↓wm1, wb114_0 hc, wb114_6 hc, wb114_12 hc, wb114_16 hc, wb114_17 hc, wb114_20 hc, wb114_25 hc, wb114_31 hc, wb114_35 hc, wb114_36 hc, wb114_39 hc, wb114_44 hc, wb114_50 hc, wb114_54 hc, wb114_55 hc, wb114_58 hc, wb114_64 hc, wb114_70 hc, wb114_74 hc, wb114_75 hc, wb114_78 hc, wb114_84 hc, wb114_91 hc, wb114_95 hc, wb114_96 hc, wb114_99 hc, wb114_105 hc, wb114_113 hc, wb114_117 hc, wb114_118 hc, wb114_121 hc, wb114_127 hc, wb114_134 hc, wb114_138 hc, wb114_139 hc, wb114_142 hc, wb114_148 hc, wb114_155 hc, wb114_159 hc, wb114_160 hc, wb114_163 hc, wb114_169 hc, wb114_176 hc, wb114_180 hc, wb114_181 hc, wb114_184 hc, wb114_259 hc, w0, w1, w2, w3, w4, w5, w6, w7, w8, w9, w10, w24, w30, w60, w999, rI_wI, rP_wI, rL_wI, rI_wR, rP_wR, is_wI, is_wR, ia_wI, ia_wR, ow_wI, ow_wR, wn_add, wn_mul, wn_cl, wn_le, wn_lt, wn_inj, wn_ne1, wn_1ne, wn_gt1, wn_le1, nb0, nb1, am_kt, am_rt, List.cons_append, List.nil_append, true_and, and_true, not_true_eq_false, not_false_eq_true, imp_f, imp_t, implies_true, Nat.zero_add, if_true, if_false, false_and, and_false, cn114, fC hsh, fW2 hsh hT, fD hsh hT.2.2.1, e6, na1, nb1, hh1, nc1, ct139y (v := 1) (by decide) (by decide), na2, nb2, hh2, nc2, na3, nb3, hh3, nc3, na4, nb4, hh4, nc4, na5, nb5, hh5, nc5, na6, nb6, hh6, nc6, na7, nb7, hh7, nc7, na8, nb8, hh8, nc8, hxa, ct139n hsh hB]
                      rw [← hP]; exact OC_8 hR hB
                    · have hxb : ¬ x9 < wn (7) := by rcases hx9 with z | z; exact absurd z hxa; exact z
                      have hxc : wn (7) ≤ x9 := Int32.not_lt.mp hxb
                      have hxd : wn 6 < x9 := out3 (by decide) hxb
                      simp +decide (disch := omega) only [↓wm1, wb114_0 hc, wb114_6 hc, wb114_12 hc, wb114_16 hc, wb114_17 hc, wb114_20 hc, wb114_25 hc, wb114_31 hc, wb114_35 hc, wb114_36 hc, wb114_39 hc, wb114_44 hc, wb114_50 hc, wb114_54 hc, wb114_55 hc, wb114_58 hc, wb114_64 hc, wb114_70 hc, wb114_74 hc, wb114_75 hc, wb114_78 hc, wb114_84 hc, wb114_91 hc, wb114_95 hc, wb114_96 hc, wb114_99 hc, wb114_105 hc, wb114_113 hc, wb114_117 hc, wb114_118 hc, wb114_121 hc, wb114_127 hc, wb114_134 hc, wb114_138 hc, wb114_139 hc, wb114_142 hc, wb114_148 hc, wb114_155 hc, wb114_159 hc, wb114_160 hc, wb114_163 hc, wb114_169 hc, wb114_176 hc, wb114_180 hc, wb114_181 hc, wb114_184 hc, wb114_259 hc, w0, w1, w2, w3, w4, w5, w6, w7, w8, w9, w10, w24, w30, w60, w999, rI_wI, rP_wI, rL_wI, rI_wR, rP_wR, is_wI, is_wR, ia_wI, ia_wR, ow_wI, ow_wR, wn_add, wn_mul, wn_cl, wn_le, wn_lt, wn_inj, wn_ne1, wn_1ne, wn_gt1, wn_le1, nb0, nb1, am_kt, am_rt, List.cons_append, List.nil_append, true_and, and_true, not_true_eq_false, not_false_eq_true, imp_f, imp_t, implies_true, Nat.zero_add, if_true, if_false, false_and, and_false, cn114, fC hsh, fW2 hsh hT, fD hsh hT.2.2.1, e6, na1, nb1, hh1, nc1, ct139y (v := 1) (by decide) (by decide), na2, nb2, hh2, nc2, na3, nb3, hh3, nc3, na4, nb4, hh4, nc4, na5, nb5, hh5, nc5, na6, nb6, hh6, nc6, na7, nb7, hh7, nc7, na8, nb8, hh8, nc8, hxa, hxb, hxc, hxd, ct139n hsh hB]
                      rw [← hP]; exact OC_8 hR hB
                · rw [if_neg (vin2_nf hx8)]
                  generalize hP : OC G (rfV V (.inr 1)) (.inr 1) = P
                  by_cases hxa : x8 < wn 0
                  · simp +decide (disch := omega) only [↓wm1, wb114_0 hc, wb114_6 hc, wb114_12 hc, wb114_16 hc, wb114_17 hc, wb114_20 hc, wb114_25 hc, wb114_31 hc, wb114_35 hc, wb114_36 hc, wb114_39 hc, wb114_44 hc, wb114_50 hc, wb114_54 hc, wb114_55 hc, wb114_58 hc, wb114_64 hc, wb114_70 hc, wb114_74 hc, wb114_75 hc, wb114_78 hc, wb114_84 hc, wb114_91 hc, wb114_95 hc, wb114_96 hc, wb114_99 hc, wb114_105 hc, wb114_113 hc, wb114_117 hc, wb114_118 hc, wb114_121 hc, wb114_127 hc, wb114_134 hc, wb114_138 hc, wb114_139 hc, wb114_142 hc, wb114_148 hc, wb114_155 hc, wb114_159 hc, wb114_160 hc, wb114_163 hc, wb114_169 hc, wb114_176 hc, wb114_180 hc, wb114_181 hc, wb114_184 hc, wb114_259 hc, w0, w1, w2, w3, w4, w5, w6, w7, w8, w9, w10, w24, w30, w60, w999, rI_wI, rP_wI, rL_wI, rI_wR, rP_wR, is_wI, is_wR, ia_wI, ia_wR, ow_wI, ow_wR, wn_add, wn_mul, wn_cl, wn_le, wn_lt, wn_inj, wn_ne1, wn_1ne, wn_gt1, wn_le1, nb0, nb1, am_kt, am_rt, List.cons_append, List.nil_append, true_and, and_true, not_true_eq_false, not_false_eq_true, imp_f, imp_t, implies_true, Nat.zero_add, if_true, if_false, false_and, and_false, cn114, fC hsh, fW2 hsh hT, fD hsh hT.2.2.1, e6, na1, nb1, hh1, nc1, ct139y (v := 1) (by decide) (by decide), na2, nb2, hh2, nc2, na3, nb3, hh3, nc3, na4, nb4, hh4, nc4, na5, nb5, hh5, nc5, na6, nb6, hh6, nc6, na7, nb7, hh7, nc7, hxa, ct139n hsh hB]
                    rw [← hP]; exact OC_8 hR hB
                  · have hxb : ¬ x8 < wn (7) := by rcases hx8 with z | z; exact absurd z hxa; exact z
                    have hxc : wn (7) ≤ x8 := Int32.not_lt.mp hxb
                    have hxd : wn 6 < x8 := out3 (by decide) hxb
                    simp +decide (disch := omega) only [↓wm1, wb114_0 hc, wb114_6 hc, wb114_12 hc, wb114_16 hc, wb114_17 hc, wb114_20 hc, wb114_25 hc, wb114_31 hc, wb114_35 hc, wb114_36 hc, wb114_39 hc, wb114_44 hc, wb114_50 hc, wb114_54 hc, wb114_55 hc, wb114_58 hc, wb114_64 hc, wb114_70 hc, wb114_74 hc, wb114_75 hc, wb114_78 hc, wb114_84 hc, wb114_91 hc, wb114_95 hc, wb114_96 hc, wb114_99 hc, wb114_105 hc, wb114_113 hc, wb114_117 hc, wb114_118 hc, wb114_121 hc, wb114_127 hc, wb114_134 hc, wb114_138 hc, wb114_139 hc, wb114_142 hc, wb114_148 hc, wb114_155 hc, wb114_159 hc, wb114_160 hc, wb114_163 hc, wb114_169 hc, wb114_176 hc, wb114_180 hc, wb114_181 hc, wb114_184 hc, wb114_259 hc, w0, w1, w2, w3, w4, w5, w6, w7, w8, w9, w10, w24, w30, w60, w999, rI_wI, rP_wI, rL_wI, rI_wR, rP_wR, is_wI, is_wR, ia_wI, ia_wR, ow_wI, ow_wR, wn_add, wn_mul, wn_cl, wn_le, wn_lt, wn_inj, wn_ne1, wn_1ne, wn_gt1, wn_le1, nb0, nb1, am_kt, am_rt, List.cons_append, List.nil_append, true_and, and_true, not_true_eq_false, not_false_eq_true, imp_f, imp_t, implies_true, Nat.zero_add, if_true, if_false, false_and, and_false, cn114, fC hsh, fW2 hsh hT, fD hsh hT.2.2.1, e6, na1, nb1, hh1, nc1, ct139y (v := 1) (by decide) (by decide), na2, nb2, hh2, nc2, na3, nb3, hh3, nc3, na4, nb4, hh4, nc4, na5, nb5, hh5, nc5, na6, nb6, hh6, nc6, na7, nb7, hh7, nc7, hxa, hxb, hxc, hxd, ct139n hsh hB]
                    rw [← hP]; exact OC_8 hR hB
              · rw [if_neg (vin2_nf hx7)]
                generalize hP : OC G (rfV V (.inr 1)) (.inr 1) = P
                by_cases hxa : x7 < wn 0
                · simp +decide (disch := omega) only [↓wm1, wb114_0 hc, wb114_6 hc, wb114_12 hc, wb114_16 hc, wb114_17 hc, wb114_20 hc, wb114_25 hc, wb114_31 hc, wb114_35 hc, wb114_36 hc, wb114_39 hc, wb114_44 hc, wb114_50 hc, wb114_54 hc, wb114_55 hc, wb114_58 hc, wb114_64 hc, wb114_70 hc, wb114_74 hc, wb114_75 hc, wb114_78 hc, wb114_84 hc, wb114_91 hc, wb114_95 hc, wb114_96 hc, wb114_99 hc, wb114_105 hc, wb114_113 hc, wb114_117 hc, wb114_118 hc, wb114_121 hc, wb114_127 hc, wb114_134 hc, wb114_138 hc, wb114_139 hc, wb114_142 hc, wb114_148 hc, wb114_155 hc, wb114_159 hc, wb114_160 hc, wb114_163 hc, wb114_169 hc, wb114_176 hc, wb114_180 hc, wb114_181 hc, wb114_184 hc, wb114_259 hc, w0, w1, w2, w3, w4, w5, w6, w7, w8, w9, w10, w24, w30, w60, w999, rI_wI, rP_wI, rL_wI, rI_wR, rP_wR, is_wI, is_wR, ia_wI, ia_wR, ow_wI, ow_wR, wn_add, wn_mul, wn_cl, wn_le, wn_lt, wn_inj, wn_ne1, wn_1ne, wn_gt1, wn_le1, nb0, nb1, am_kt, am_rt, List.cons_append, List.nil_append, true_and, and_true, not_true_eq_false, not_false_eq_true, imp_f, imp_t, implies_true, Nat.zero_add, if_true, if_false, false_and, and_false, cn114, fC hsh, fW2 hsh hT, fD hsh hT.2.2.1, e6, na1, nb1, hh1, nc1, ct139y (v := 1) (by decide) (by decide), na2, nb2, hh2, nc2, na3, nb3, hh3, nc3, na4, nb4, hh4, nc4, na5, nb5, hh5, nc5, na6, nb6, hh6, nc6, hxa, ct139n hsh hB]
                  rw [← hP]; exact OC_8 hR hB
                · have hxb : ¬ x7 < wn (24) := by rcases hx7 with z | z; exact absurd z hxa; exact z
                  have hxc : wn (24) ≤ x7 := Int32.not_lt.mp hxb
                  have hxd : wn 23 < x7 := out3 (by decide) hxb
                  simp +decide (disch := omega) only [↓wm1, wb114_0 hc, wb114_6 hc, wb114_12 hc, wb114_16 hc, wb114_17 hc, wb114_20 hc, wb114_25 hc, wb114_31 hc, wb114_35 hc, wb114_36 hc, wb114_39 hc, wb114_44 hc, wb114_50 hc, wb114_54 hc, wb114_55 hc, wb114_58 hc, wb114_64 hc, wb114_70 hc, wb114_74 hc, wb114_75 hc, wb114_78 hc, wb114_84 hc, wb114_91 hc, wb114_95 hc, wb114_96 hc, wb114_99 hc, wb114_105 hc, wb114_113 hc, wb114_117 hc, wb114_118 hc, wb114_121 hc, wb114_127 hc, wb114_134 hc, wb114_138 hc, wb114_139 hc, wb114_142 hc, wb114_148 hc, wb114_155 hc, wb114_159 hc, wb114_160 hc, wb114_163 hc, wb114_169 hc, wb114_176 hc, wb114_180 hc, wb114_181 hc, wb114_184 hc, wb114_259 hc, w0, w1, w2, w3, w4, w5, w6, w7, w8, w9, w10, w24, w30, w60, w999, rI_wI, rP_wI, rL_wI, rI_wR, rP_wR, is_wI, is_wR, ia_wI, ia_wR, ow_wI, ow_wR, wn_add, wn_mul, wn_cl, wn_le, wn_lt, wn_inj, wn_ne1, wn_1ne, wn_gt1, wn_le1, nb0, nb1, am_kt, am_rt, List.cons_append, List.nil_append, true_and, and_true, not_true_eq_false, not_false_eq_true, imp_f, imp_t, implies_true, Nat.zero_add, if_true, if_false, false_and, and_false, cn114, fC hsh, fW2 hsh hT, fD hsh hT.2.2.1, e6, na1, nb1, hh1, nc1, ct139y (v := 1) (by decide) (by decide), na2, nb2, hh2, nc2, na3, nb3, hh3, nc3, na4, nb4, hh4, nc4, na5, nb5, hh5, nc5, na6, nb6, hh6, nc6, hxa, hxb, hxc, hxd, ct139n hsh hB]
                  rw [← hP]; exact OC_8 hR hB
            · rw [if_neg (vin2_nf hx6)]
              generalize hP : OC G (rfV V (.inr 1)) (.inr 1) = P
              by_cases hxa : x6 < wn 0
              · simp +decide (disch := omega) only [↓wm1, wb114_0 hc, wb114_6 hc, wb114_12 hc, wb114_16 hc, wb114_17 hc, wb114_20 hc, wb114_25 hc, wb114_31 hc, wb114_35 hc, wb114_36 hc, wb114_39 hc, wb114_44 hc, wb114_50 hc, wb114_54 hc, wb114_55 hc, wb114_58 hc, wb114_64 hc, wb114_70 hc, wb114_74 hc, wb114_75 hc, wb114_78 hc, wb114_84 hc, wb114_91 hc, wb114_95 hc, wb114_96 hc, wb114_99 hc, wb114_105 hc, wb114_113 hc, wb114_117 hc, wb114_118 hc, wb114_121 hc, wb114_127 hc, wb114_134 hc, wb114_138 hc, wb114_139 hc, wb114_142 hc, wb114_148 hc, wb114_155 hc, wb114_159 hc, wb114_160 hc, wb114_163 hc, wb114_169 hc, wb114_176 hc, wb114_180 hc, wb114_181 hc, wb114_184 hc, wb114_259 hc, w0, w1, w2, w3, w4, w5, w6, w7, w8, w9, w10, w24, w30, w60, w999, rI_wI, rP_wI, rL_wI, rI_wR, rP_wR, is_wI, is_wR, ia_wI, ia_wR, ow_wI, ow_wR, wn_add, wn_mul, wn_cl, wn_le, wn_lt, wn_inj, wn_ne1, wn_1ne, wn_gt1, wn_le1, nb0, nb1, am_kt, am_rt, List.cons_append, List.nil_append, true_and, and_true, not_true_eq_false, not_false_eq_true, imp_f, imp_t, implies_true, Nat.zero_add, if_true, if_false, false_and, and_false, cn114, fC hsh, fW2 hsh hT, fD hsh hT.2.2.1, e6, na1, nb1, hh1, nc1, ct139y (v := 1) (by decide) (by decide), na2, nb2, hh2, nc2, na3, nb3, hh3, nc3, na4, nb4, hh4, nc4, na5, nb5, hh5, nc5, hxa, ct139n hsh hB]
                rw [← hP]; exact OC_8 hR hB
              · have hxb : ¬ x6 < wn (1000) := by rcases hx6 with z | z; exact absurd z hxa; exact z
                have hxc : wn (1000) ≤ x6 := Int32.not_lt.mp hxb
                have hxd : wn 999 < x6 := out3 (by decide) hxb
                simp +decide (disch := omega) only [↓wm1, wb114_0 hc, wb114_6 hc, wb114_12 hc, wb114_16 hc, wb114_17 hc, wb114_20 hc, wb114_25 hc, wb114_31 hc, wb114_35 hc, wb114_36 hc, wb114_39 hc, wb114_44 hc, wb114_50 hc, wb114_54 hc, wb114_55 hc, wb114_58 hc, wb114_64 hc, wb114_70 hc, wb114_74 hc, wb114_75 hc, wb114_78 hc, wb114_84 hc, wb114_91 hc, wb114_95 hc, wb114_96 hc, wb114_99 hc, wb114_105 hc, wb114_113 hc, wb114_117 hc, wb114_118 hc, wb114_121 hc, wb114_127 hc, wb114_134 hc, wb114_138 hc, wb114_139 hc, wb114_142 hc, wb114_148 hc, wb114_155 hc, wb114_159 hc, wb114_160 hc, wb114_163 hc, wb114_169 hc, wb114_176 hc, wb114_180 hc, wb114_181 hc, wb114_184 hc, wb114_259 hc, w0, w1, w2, w3, w4, w5, w6, w7, w8, w9, w10, w24, w30, w60, w999, rI_wI, rP_wI, rL_wI, rI_wR, rP_wR, is_wI, is_wR, ia_wI, ia_wR, ow_wI, ow_wR, wn_add, wn_mul, wn_cl, wn_le, wn_lt, wn_inj, wn_ne1, wn_1ne, wn_gt1, wn_le1, nb0, nb1, am_kt, am_rt, List.cons_append, List.nil_append, true_and, and_true, not_true_eq_false, not_false_eq_true, imp_f, imp_t, implies_true, Nat.zero_add, if_true, if_false, false_and, and_false, cn114, fC hsh, fW2 hsh hT, fD hsh hT.2.2.1, e6, na1, nb1, hh1, nc1, ct139y (v := 1) (by decide) (by decide), na2, nb2, hh2, nc2, na3, nb3, hh3, nc3, na4, nb4, hh4, nc4, na5, nb5, hh5, nc5, hxa, hxb, hxc, hxd, ct139n hsh hB]
                rw [← hP]; exact OC_8 hR hB
          · rw [if_neg (vin2_nf hx5)]
            generalize hP : OC G (rfV V (.inr 1)) (.inr 1) = P
            by_cases hxa : x5 < wn 0
            · simp +decide (disch := omega) only [↓wm1, wb114_0 hc, wb114_6 hc, wb114_12 hc, wb114_16 hc, wb114_17 hc, wb114_20 hc, wb114_25 hc, wb114_31 hc, wb114_35 hc, wb114_36 hc, wb114_39 hc, wb114_44 hc, wb114_50 hc, wb114_54 hc, wb114_55 hc, wb114_58 hc, wb114_64 hc, wb114_70 hc, wb114_74 hc, wb114_75 hc, wb114_78 hc, wb114_84 hc, wb114_91 hc, wb114_95 hc, wb114_96 hc, wb114_99 hc, wb114_105 hc, wb114_113 hc, wb114_117 hc, wb114_118 hc, wb114_121 hc, wb114_127 hc, wb114_134 hc, wb114_138 hc, wb114_139 hc, wb114_142 hc, wb114_148 hc, wb114_155 hc, wb114_159 hc, wb114_160 hc, wb114_163 hc, wb114_169 hc, wb114_176 hc, wb114_180 hc, wb114_181 hc, wb114_184 hc, wb114_259 hc, w0, w1, w2, w3, w4, w5, w6, w7, w8, w9, w10, w24, w30, w60, w999, rI_wI, rP_wI, rL_wI, rI_wR, rP_wR, is_wI, is_wR, ia_wI, ia_wR, ow_wI, ow_wR, wn_add, wn_mul, wn_cl, wn_le, wn_lt, wn_inj, wn_ne1, wn_1ne, wn_gt1, wn_le1, nb0, nb1, am_kt, am_rt, List.cons_append, List.nil_append, true_and, and_true, not_true_eq_false, not_false_eq_true, imp_f, imp_t, implies_true, Nat.zero_add, if_true, if_false, false_and, and_false, cn114, fC hsh, fW2 hsh hT, fD hsh hT.2.2.1, e6, na1, nb1, hh1, nc1, ct139y (v := 1) (by decide) (by decide), na2, nb2, hh2, nc2, na3, nb3, hh3, nc3, na4, nb4, hh4, nc4, hxa, ct139n hsh hB]
              rw [← hP]; exact OC_8 hR hB
            · have hxb : ¬ x5 < wn (10) := by rcases hx5 with z | z; exact absurd z hxa; exact z
              have hxc : wn (10) ≤ x5 := Int32.not_lt.mp hxb
              have hxd : wn 9 < x5 := out3 (by decide) hxb
              simp +decide (disch := omega) only [↓wm1, wb114_0 hc, wb114_6 hc, wb114_12 hc, wb114_16 hc, wb114_17 hc, wb114_20 hc, wb114_25 hc, wb114_31 hc, wb114_35 hc, wb114_36 hc, wb114_39 hc, wb114_44 hc, wb114_50 hc, wb114_54 hc, wb114_55 hc, wb114_58 hc, wb114_64 hc, wb114_70 hc, wb114_74 hc, wb114_75 hc, wb114_78 hc, wb114_84 hc, wb114_91 hc, wb114_95 hc, wb114_96 hc, wb114_99 hc, wb114_105 hc, wb114_113 hc, wb114_117 hc, wb114_118 hc, wb114_121 hc, wb114_127 hc, wb114_134 hc, wb114_138 hc, wb114_139 hc, wb114_142 hc, wb114_148 hc, wb114_155 hc, wb114_159 hc, wb114_160 hc, wb114_163 hc, wb114_169 hc, wb114_176 hc, wb114_180 hc, wb114_181 hc, wb114_184 hc, wb114_259 hc, w0, w1, w2, w3, w4, w5, w6, w7, w8, w9, w10, w24, w30, w60, w999, rI_wI, rP_wI, rL_wI, rI_wR, rP_wR, is_wI, is_wR, ia_wI, ia_wR, ow_wI, ow_wR, wn_add, wn_mul, wn_cl, wn_le, wn_lt, wn_inj, wn_ne1, wn_1ne, wn_gt1, wn_le1, nb0, nb1, am_kt, am_rt, List.cons_append, List.nil_append, true_and, and_true, not_true_eq_false, not_false_eq_true, imp_f, imp_t, implies_true, Nat.zero_add, if_true, if_false, false_and, and_false, cn114, fC hsh, fW2 hsh hT, fD hsh hT.2.2.1, e6, na1, nb1, hh1, nc1, ct139y (v := 1) (by decide) (by decide), na2, nb2, hh2, nc2, na3, nb3, hh3, nc3, na4, nb4, hh4, nc4, hxa, hxb, hxc, hxd, ct139n hsh hB]
              rw [← hP]; exact OC_8 hR hB
        · rw [if_neg (vin2_nf hx4)]
          generalize hP : OC G (rfV V (.inr 1)) (.inr 1) = P
          by_cases hxa : x4 < wn 0
          · simp +decide (disch := omega) only [↓wm1, wb114_0 hc, wb114_6 hc, wb114_12 hc, wb114_16 hc, wb114_17 hc, wb114_20 hc, wb114_25 hc, wb114_31 hc, wb114_35 hc, wb114_36 hc, wb114_39 hc, wb114_44 hc, wb114_50 hc, wb114_54 hc, wb114_55 hc, wb114_58 hc, wb114_64 hc, wb114_70 hc, wb114_74 hc, wb114_75 hc, wb114_78 hc, wb114_84 hc, wb114_91 hc, wb114_95 hc, wb114_96 hc, wb114_99 hc, wb114_105 hc, wb114_113 hc, wb114_117 hc, wb114_118 hc, wb114_121 hc, wb114_127 hc, wb114_134 hc, wb114_138 hc, wb114_139 hc, wb114_142 hc, wb114_148 hc, wb114_155 hc, wb114_159 hc, wb114_160 hc, wb114_163 hc, wb114_169 hc, wb114_176 hc, wb114_180 hc, wb114_181 hc, wb114_184 hc, wb114_259 hc, w0, w1, w2, w3, w4, w5, w6, w7, w8, w9, w10, w24, w30, w60, w999, rI_wI, rP_wI, rL_wI, rI_wR, rP_wR, is_wI, is_wR, ia_wI, ia_wR, ow_wI, ow_wR, wn_add, wn_mul, wn_cl, wn_le, wn_lt, wn_inj, wn_ne1, wn_1ne, wn_gt1, wn_le1, nb0, nb1, am_kt, am_rt, List.cons_append, List.nil_append, true_and, and_true, not_true_eq_false, not_false_eq_true, imp_f, imp_t, implies_true, Nat.zero_add, if_true, if_false, false_and, and_false, cn114, fC hsh, fW2 hsh hT, fD hsh hT.2.2.1, e6, na1, nb1, hh1, nc1, ct139y (v := 1) (by decide) (by decide), na2, nb2, hh2, nc2, na3, nb3, hh3, nc3, hxa, ct139n hsh hB]
            rw [← hP]; exact OC_8 hR hB
          · have hxb : ¬ x4 < wn (4) := by rcases hx4 with z | z; exact absurd z hxa; exact z
            have hxc : wn (4) ≤ x4 := Int32.not_lt.mp hxb
            have hxd : wn 3 < x4 := out3 (by decide) hxb
            simp +decide (disch := omega) only [↓wm1, wb114_0 hc, wb114_6 hc, wb114_12 hc, wb114_16 hc, wb114_17 hc, wb114_20 hc, wb114_25 hc, wb114_31 hc, wb114_35 hc, wb114_36 hc, wb114_39 hc, wb114_44 hc, wb114_50 hc, wb114_54 hc, wb114_55 hc, wb114_58 hc, wb114_64 hc, wb114_70 hc, wb114_74 hc, wb114_75 hc, wb114_78 hc, wb114_84 hc, wb114_91 hc, wb114_95 hc, wb114_96 hc, wb114_99 hc, wb114_105 hc, wb114_113 hc, wb114_117 hc, wb114_118 hc, wb114_121 hc, wb114_127 hc, wb114_134 hc, wb114_138 hc, wb114_139 hc, wb114_142 hc, wb114_148 hc, wb114_155 hc, wb114_159 hc, wb114_160 hc, wb114_163 hc, wb114_169 hc, wb114_176 hc, wb114_180 hc, wb114_181 hc, wb114_184 hc, wb114_259 hc, w0, w1, w2, w3, w4, w5, w6, w7, w8, w9, w10, w24, w30, w60, w999, rI_wI, rP_wI, rL_wI, rI_wR, rP_wR, is_wI, is_wR, ia_wI, ia_wR, ow_wI, ow_wR, wn_add, wn_mul, wn_cl, wn_le, wn_lt, wn_inj, wn_ne1, wn_1ne, wn_gt1, wn_le1, nb0, nb1, am_kt, am_rt, List.cons_append, List.nil_append, true_and, and_true, not_true_eq_false, not_false_eq_true, imp_f, imp_t, implies_true, Nat.zero_add, if_true, if_false, false_and, and_false, cn114, fC hsh, fW2 hsh hT, fD hsh hT.2.2.1, e6, na1, nb1, hh1, nc1, ct139y (v := 1) (by decide) (by decide), na2, nb2, hh2, nc2, na3, nb3, hh3, nc3, hxa, hxb, hxc, hxd, ct139n hsh hB]
            rw [← hP]; exact OC_8 hR hB
      · rw [if_neg (vin2_nf hx3)]
        generalize hP : OC G (rfV V (.inr 1)) (.inr 1) = P
        by_cases hxa : x3 < wn 0
        · simp +decide (disch := omega) only [↓wm1, wb114_0 hc, wb114_6 hc, wb114_12 hc, wb114_16 hc, wb114_17 hc, wb114_20 hc, wb114_25 hc, wb114_31 hc, wb114_35 hc, wb114_36 hc, wb114_39 hc, wb114_44 hc, wb114_50 hc, wb114_54 hc, wb114_55 hc, wb114_58 hc, wb114_64 hc, wb114_70 hc, wb114_74 hc, wb114_75 hc, wb114_78 hc, wb114_84 hc, wb114_91 hc, wb114_95 hc, wb114_96 hc, wb114_99 hc, wb114_105 hc, wb114_113 hc, wb114_117 hc, wb114_118 hc, wb114_121 hc, wb114_127 hc, wb114_134 hc, wb114_138 hc, wb114_139 hc, wb114_142 hc, wb114_148 hc, wb114_155 hc, wb114_159 hc, wb114_160 hc, wb114_163 hc, wb114_169 hc, wb114_176 hc, wb114_180 hc, wb114_181 hc, wb114_184 hc, wb114_259 hc, w0, w1, w2, w3, w4, w5, w6, w7, w8, w9, w10, w24, w30, w60, w999, rI_wI, rP_wI, rL_wI, rI_wR, rP_wR, is_wI, is_wR, ia_wI, ia_wR, ow_wI, ow_wR, wn_add, wn_mul, wn_cl, wn_le, wn_lt, wn_inj, wn_ne1, wn_1ne, wn_gt1, wn_le1, nb0, nb1, am_kt, am_rt, List.cons_append, List.nil_append, true_and, and_true, not_true_eq_false, not_false_eq_true, imp_f, imp_t, implies_true, Nat.zero_add, if_true, if_false, false_and, and_false, cn114, fC hsh, fW2 hsh hT, fD hsh hT.2.2.1, e6, na1, nb1, hh1, nc1, ct139y (v := 1) (by decide) (by decide), na2, nb2, hh2, nc2, hxa, ct139n hsh hB]
          rw [← hP]; exact OC_8 hR hB
        · have hxb : ¬ x3 < wn (10) := by rcases hx3 with z | z; exact absurd z hxa; exact z
          have hxc : wn (10) ≤ x3 := Int32.not_lt.mp hxb
          have hxd : wn 9 < x3 := out3 (by decide) hxb
          simp +decide (disch := omega) only [↓wm1, wb114_0 hc, wb114_6 hc, wb114_12 hc, wb114_16 hc, wb114_17 hc, wb114_20 hc, wb114_25 hc, wb114_31 hc, wb114_35 hc, wb114_36 hc, wb114_39 hc, wb114_44 hc, wb114_50 hc, wb114_54 hc, wb114_55 hc, wb114_58 hc, wb114_64 hc, wb114_70 hc, wb114_74 hc, wb114_75 hc, wb114_78 hc, wb114_84 hc, wb114_91 hc, wb114_95 hc, wb114_96 hc, wb114_99 hc, wb114_105 hc, wb114_113 hc, wb114_117 hc, wb114_118 hc, wb114_121 hc, wb114_127 hc, wb114_134 hc, wb114_138 hc, wb114_139 hc, wb114_142 hc, wb114_148 hc, wb114_155 hc, wb114_159 hc, wb114_160 hc, wb114_163 hc, wb114_169 hc, wb114_176 hc, wb114_180 hc, wb114_181 hc, wb114_184 hc, wb114_259 hc, w0, w1, w2, w3, w4, w5, w6, w7, w8, w9, w10, w24, w30, w60, w999, rI_wI, rP_wI, rL_wI, rI_wR, rP_wR, is_wI, is_wR, ia_wI, ia_wR, ow_wI, ow_wR, wn_add, wn_mul, wn_cl, wn_le, wn_lt, wn_inj, wn_ne1, wn_1ne, wn_gt1, wn_le1, nb0, nb1, am_kt, am_rt, List.cons_append, List.nil_append, true_and, and_true, not_true_eq_false, not_false_eq_true, imp_f, imp_t, implies_true, Nat.zero_add, if_true, if_false, false_and, and_false, cn114, fC hsh, fW2 hsh hT, fD hsh hT.2.2.1, e6, na1, nb1, hh1, nc1, ct139y (v := 1) (by decide) (by decide), na2, nb2, hh2, nc2, hxa, hxb, hxc, hxd, ct139n hsh hB]
          rw [← hP]; exact OC_8 hR hB
    · rw [if_neg (vin2_nf hx2)]
      generalize hP : OC G (rfV V (.inr 1)) (.inr 1) = P
      by_cases hxa : x2 < wn 0
      · simp +decide (disch := omega) only [↓wm1, wb114_0 hc, wb114_6 hc, wb114_12 hc, wb114_16 hc, wb114_17 hc, wb114_20 hc, wb114_25 hc, wb114_31 hc, wb114_35 hc, wb114_36 hc, wb114_39 hc, wb114_44 hc, wb114_50 hc, wb114_54 hc, wb114_55 hc, wb114_58 hc, wb114_64 hc, wb114_70 hc, wb114_74 hc, wb114_75 hc, wb114_78 hc, wb114_84 hc, wb114_91 hc, wb114_95 hc, wb114_96 hc, wb114_99 hc, wb114_105 hc, wb114_113 hc, wb114_117 hc, wb114_118 hc, wb114_121 hc, wb114_127 hc, wb114_134 hc, wb114_138 hc, wb114_139 hc, wb114_142 hc, wb114_148 hc, wb114_155 hc, wb114_159 hc, wb114_160 hc, wb114_163 hc, wb114_169 hc, wb114_176 hc, wb114_180 hc, wb114_181 hc, wb114_184 hc, wb114_259 hc, w0, w1, w2, w3, w4, w5, w6, w7, w8, w9, w10, w24, w30, w60, w999, rI_wI, rP_wI, rL_wI, rI_wR, rP_wR, is_wI, is_wR, ia_wI, ia_wR, ow_wI, ow_wR, wn_add, wn_mul, wn_cl, wn_le, wn_lt, wn_inj, wn_ne1, wn_1ne, wn_gt1, wn_le1, nb0, nb1, am_kt, am_rt, List.cons_append, List.nil_append, true_and, and_true, not_true_eq_false, not_false_eq_true, imp_f, imp_t, implies_true, Nat.zero_add, if_true, if_false, false_and, and_false, cn114, fC hsh, fW2 hsh hT, fD hsh hT.2.2.1, e6, na1, nb1, hh1, nc1, ct139y (v := 1) (by decide) (by decide), hxa, ct139n hsh hB]
        rw [← hP]; exact OC_8 hR hB
      · have hxb : ¬ x2 < wn (31) := by rcases hx2 with z | z; exact absurd z hxa; exact z
        have hxc : wn (31) ≤ x2 := Int32.not_lt.mp hxb
        have hxd : wn 30 < x2 := out3 (by decide) hxb
        simp +decide (disch := omega) only [↓wm1, wb114_0 hc, wb114_6 hc, wb114_12 hc, wb114_16 hc, wb114_17 hc, wb114_20 hc, wb114_25 hc, wb114_31 hc, wb114_35 hc, wb114_36 hc, wb114_39 hc, wb114_44 hc, wb114_50 hc, wb114_54 hc, wb114_55 hc, wb114_58 hc, wb114_64 hc, wb114_70 hc, wb114_74 hc, wb114_75 hc, wb114_78 hc, wb114_84 hc, wb114_91 hc, wb114_95 hc, wb114_96 hc, wb114_99 hc, wb114_105 hc, wb114_113 hc, wb114_117 hc, wb114_118 hc, wb114_121 hc, wb114_127 hc, wb114_134 hc, wb114_138 hc, wb114_139 hc, wb114_142 hc, wb114_148 hc, wb114_155 hc, wb114_159 hc, wb114_160 hc, wb114_163 hc, wb114_169 hc, wb114_176 hc, wb114_180 hc, wb114_181 hc, wb114_184 hc, wb114_259 hc, w0, w1, w2, w3, w4, w5, w6, w7, w8, w9, w10, w24, w30, w60, w999, rI_wI, rP_wI, rL_wI, rI_wR, rP_wR, is_wI, is_wR, ia_wI, ia_wR, ow_wI, ow_wR, wn_add, wn_mul, wn_cl, wn_le, wn_lt, wn_inj, wn_ne1, wn_1ne, wn_gt1, wn_le1, nb0, nb1, am_kt, am_rt, List.cons_append, List.nil_append, true_and, and_true, not_true_eq_false, not_false_eq_true, imp_f, imp_t, implies_true, Nat.zero_add, if_true, if_false, false_and, and_false, cn114, fC hsh, fW2 hsh hT, fD hsh hT.2.2.1, e6, na1, nb1, hh1, nc1, ct139y (v := 1) (by decide) (by decide), hxa, hxb, hxc, hxd, ct139n hsh hB]
        rw [← hP]; exact OC_8 hR hB
  · rw [if_neg (vin2_nf hx1)]
    generalize hP : OC G (rfV V (.inr 1)) (.inr 1) = P
    by_cases hxa : x1 < wn 1
    · simp +decide (disch := omega) only [↓wm1, wb114_0 hc, wb114_6 hc, wb114_12 hc, wb114_16 hc, wb114_17 hc, wb114_20 hc, wb114_25 hc, wb114_31 hc, wb114_35 hc, wb114_36 hc, wb114_39 hc, wb114_44 hc, wb114_50 hc, wb114_54 hc, wb114_55 hc, wb114_58 hc, wb114_64 hc, wb114_70 hc, wb114_74 hc, wb114_75 hc, wb114_78 hc, wb114_84 hc, wb114_91 hc, wb114_95 hc, wb114_96 hc, wb114_99 hc, wb114_105 hc, wb114_113 hc, wb114_117 hc, wb114_118 hc, wb114_121 hc, wb114_127 hc, wb114_134 hc, wb114_138 hc, wb114_139 hc, wb114_142 hc, wb114_148 hc, wb114_155 hc, wb114_159 hc, wb114_160 hc, wb114_163 hc, wb114_169 hc, wb114_176 hc, wb114_180 hc, wb114_181 hc, wb114_184 hc, wb114_259 hc, w0, w1, w2, w3, w4, w5, w6, w7, w8, w9, w10, w24, w30, w60, w999, rI_wI, rP_wI, rL_wI, rI_wR, rP_wR, is_wI, is_wR, ia_wI, ia_wR, ow_wI, ow_wR, wn_add, wn_mul, wn_cl, wn_le, wn_lt, wn_inj, wn_ne1, wn_1ne, wn_gt1, wn_le1, nb0, nb1, am_kt, am_rt, List.cons_append, List.nil_append, true_and, and_true, not_true_eq_false, not_false_eq_true, imp_f, imp_t, implies_true, Nat.zero_add, if_true, if_false, false_and, and_false, cn114, fC hsh, fW2 hsh hT, fD hsh hT.2.2.1, e6, hxa, ct139n hsh hB]
      rw [← hP]; exact OC_8 hR hB
    · have hxb : ¬ x1 < wn (61) := by rcases hx1 with z | z; exact absurd z hxa; exact z
      have hxc : wn (61) ≤ x1 := Int32.not_lt.mp hxb
      have hxd : wn 60 < x1 := out3 (by decide) hxb
      simp +decide (disch := omega) only [↓wm1, wb114_0 hc, wb114_6 hc, wb114_12 hc, wb114_16 hc, wb114_17 hc, wb114_20 hc, wb114_25 hc, wb114_31 hc, wb114_35 hc, wb114_36 hc, wb114_39 hc, wb114_44 hc, wb114_50 hc, wb114_54 hc, wb114_55 hc, wb114_58 hc, wb114_64 hc, wb114_70 hc, wb114_74 hc, wb114_75 hc, wb114_78 hc, wb114_84 hc, wb114_91 hc, wb114_95 hc, wb114_96 hc, wb114_99 hc, wb114_105 hc, wb114_113 hc, wb114_117 hc, wb114_118 hc, wb114_121 hc, wb114_127 hc, wb114_134 hc, wb114_138 hc, wb114_139 hc, wb114_142 hc, wb114_148 hc, wb114_155 hc, wb114_159 hc, wb114_160 hc, wb114_163 hc, wb114_169 hc, wb114_176 hc, wb114_180 hc, wb114_181 hc, wb114_184 hc, wb114_259 hc, w0, w1, w2, w3, w4, w5, w6, w7, w8, w9, w10, w24, w30, w60, w999, rI_wI, rP_wI, rL_wI, rI_wR, rP_wR, is_wI, is_wR, ia_wI, ia_wR, ow_wI, ow_wR, wn_add, wn_mul, wn_cl, wn_le, wn_lt, wn_inj, wn_ne1, wn_1ne, wn_gt1, wn_le1, nb0, nb1, am_kt, am_rt, List.cons_append, List.nil_append, true_and, and_true, not_true_eq_false, not_false_eq_true, imp_f, imp_t, implies_true, Nat.zero_add, if_true, if_false, false_and, and_false, cn114, fC hsh, fW2 hsh hT, fD hsh hT.2.2.1, e6, hxa, hxb, hxc, hxd, ct139n hsh hB]
      rw [← hP]; exact OC_8 hR hB
theorem rf_would (hR : RepR G V) (x1 x2 x3 x4 x5 x6 x7 x8 x9 : Int32) : am_C am_T (d + 12) 223 [.ref 334, .int x1, .int x2, .int x3, .int x4, .int x5, .int x6, .int x7, .int x8, .int x9] G (OR G (rfV V (sp_would V x1 x2 x3 x4 x5 x6 x7 x8 x9)) 1 (sp_would V x1 x2 x3 x4 x5 x6 x7 x8 x9)) := by
  have hc := am_C_one am_T (d + 11)
  have k0 : Kp QSR G (am_wI G 334 0 (wn 0)) := (Kp.refl G).wI (Or.inl ⟨rfl, Or.inl rfl⟩) _
  have e0 : am_gI (am_wI G 334 0 (wn 0)) 334 0 = wn 0 := by rw [rI_wI, if_pos ⟨rfl, rfl⟩]
  have hR0 := hR.q k0
  have hshG := hR.1
  unfold sp_would
  rw [we223]
  generalize hOR : OR G = OG
  simp +decide (disch := omega) only [↓wm1, wb223_0 hc, w0, w1, w3, w6, w9, w23, w30, w60, w999, rI_wI, rP_wI, rL_wI, rI_wR, rP_wR, is_wI, is_wR, ia_wI, ia_wR, ow_wI, ow_wR, wn_add, wn_mul, wn_cl, wn_le, wn_lt, wn_inj, wn_ne1, wn_1ne, wn_gt1, wn_le1, nb0, nb1, am_kt, am_rt, List.cons_append, List.nil_append, true_and, and_true, not_true_eq_false, not_false_eq_true, imp_f, imp_t, implies_true, Nat.zero_add, if_true, if_false, false_and, and_false, fM hshG, fE2 hR.2.2.2.1, ia338 hshG]
  generalize am_wI G 334 0 (wn 0) = G0 at k0 e0 hR0 ⊢
  subst hOR
  have hsh := hR0.1
  have hv := hR0.2.1
  have hT := hR0.2.2.2.1
  have hr := hR0.2.2.2.2.1.1
  have vd := hv.2.2.2.1
  have bB := vd.1
  have bH := vd.2.1
  have bD := vd.2.2.1
  have hs9 := hv.2.2.2.2.2.1
  have hvs := hs9.1
  have hg := hvs.g6 bB
  have ht := hvs.t6 bB
  have hm := hvs.2.2.2.2.2.1
  have h9 := hs9.2
  have p6 : 2 ^ dB (vδ V) ≤ 64 := Nat.pow_le_pow_right (n := 2) (by decide) bB
  have e6 := bs1 (dB (vδ V)) (by omega)
  rcases vin2_or x1 1 (61) (by omega) (by omega) with ⟨b1, hl1, hh1, rfl⟩ | hx1
  · rw [if_pos (vin2_t hl1 hh1 (by omega))]
    rcases vin2_or x2 0 (31) (by omega) (by omega) with ⟨b2, hl2, hh2, rfl⟩ | hx2
    · rw [if_pos (vin2_t hl2 hh2 (by omega))]
      rcases vin2_or x3 0 (10) (by omega) (by omega) with ⟨b3, hl3, hh3, rfl⟩ | hx3
      · rw [if_pos (vin2_t hl3 hh3 (by omega))]
        rcases vin2_or x4 0 (4) (by omega) (by omega) with ⟨b4, hl4, hh4, rfl⟩ | hx4
        · rw [if_pos (vin2_t hl4 hh4 (by omega))]
          rcases vin2_or x5 0 (10) (by omega) (by omega) with ⟨b5, hl5, hh5, rfl⟩ | hx5
          · rw [if_pos (vin2_t hl5 hh5 (by omega))]
            rcases vin2_or x6 0 (1000) (by omega) (by omega) with ⟨b6, hl6, hh6, rfl⟩ | hx6
            · rw [if_pos (vin2_t hl6 hh6 (by omega))]
              rcases vin2_or x7 0 (24) (by omega) (by omega) with ⟨b7, hl7, hh7, rfl⟩ | hx7
              · rw [if_pos (vin2_t hl7 hh7 (by omega))]
                rcases vin2_or x8 0 (7) (by omega) (by omega) with ⟨b8, hl8, hh8, rfl⟩ | hx8
                · rw [if_pos (vin2_t hl8 hh8 (by omega))]
                  rcases vin2_or x9 0 (7) (by omega) (by omega) with ⟨b9, hl9, hh9, rfl⟩ | hx9
                  · rw [if_pos (vin2_t hl9 hh9 (by omega))]
                    simp only [u_wn (show b1 < 2147483648 by omega), u_wn (show b2 < 2147483648 by omega), u_wn (show b3 < 2147483648 by omega), u_wn (show b4 < 2147483648 by omega), u_wn (show b5 < 2147483648 by omega), u_wn (show b6 < 2147483648 by omega), u_wn (show b7 < 2147483648 by omega), u_wn (show b8 < 2147483648 by omega), u_wn (show b9 < 2147483648 by omega)]
                    generalize hP : OR G (rfV V (.inl (q_would V b1 b2 b3 b4 b5 b6 b7 b8 b9))) 1 (.inl (q_would V b1 b2 b3 b4 b5 b6 b7 b8 b9)) = P
                    simp +decide (disch := omega) only [↓wm1, wb223_0 hc, wb223_13 hc, wb223_16 hc, wb223_23 hc, wb223_26 hc, wb223_33 hc, wb223_36 hc, wb223_43 hc, wb223_46 hc, wb223_54 hc, wb223_57 hc, wb223_66 hc, wb223_69 hc, wb223_77 hc, wb223_80 hc, wb223_88 hc, wb223_91 hc, wb223_99 hc, wb223_102 hc, wb223_106 hc, wb223_107 hc, wb223_112 hc, wb223_115 hc, wb223_117 hc, wb223_136 hc, w0, w1, w3, w6, w9, w23, w30, w60, w999, rI_wI, rP_wI, rL_wI, rI_wR, rP_wR, is_wI, is_wR, ia_wI, ia_wR, ow_wI, ow_wR, wn_add, wn_mul, wn_cl, wn_le, wn_lt, wn_inj, wn_ne1, wn_1ne, wn_gt1, wn_le1, nb0, nb1, am_kt, am_rt, List.cons_append, List.nil_append, true_and, and_true, not_true_eq_false, not_false_eq_true, imp_f, imp_t, implies_true, Nat.zero_add, if_true, if_false, false_and, and_false, fM hsh, fE2 hT, ia338 hsh, e6, b01, if_true, Bool.false_eq_true, ct214 hsh hT, ct215 hsh hT, ct220, ct153c, ct153v, ct152n hsh e0, vin2_t hl1 hh1 (by omega), vin2_t hl2 hh2 (by omega), vin2_t hl3 hh3 (by omega), vin2_t hl4 hh4 (by omega), vin2_t hl5 hh5 (by omega), vin2_t hl6 hh6 (by omega), vin2_t hl7 hh7 (by omega), vin2_t hl8 hh8 (by omega), vin2_t hl9 hh9 (by omega)]
                    refine ct193 hsh hT (fun G1 k1 => ?_)
                    simp +decide (disch := omega) only [↓wm1, wb223_136 hc, w0, w1, w3, w6, w9, w23, w30, w60, w999, rI_wI, rP_wI, rL_wI, rI_wR, rP_wR, is_wI, is_wR, ia_wI, ia_wR, ow_wI, ow_wR, wn_add, wn_mul, wn_cl, wn_le, wn_lt, wn_inj, wn_ne1, wn_1ne, wn_gt1, wn_le1, nb0, nb1, am_kt, am_rt, List.cons_append, List.nil_append, true_and, and_true, not_true_eq_false, not_false_eq_true, imp_f, imp_t, implies_true, Nat.zero_add, if_true, if_false, false_and, and_false]
                    rw [← hP]; exact OR_ok hR (k0.trans (HM_q k1)) (k1.thr (by unfold HM; omega) e0)
                  · rw [if_neg (vin2_nf hx9)]
                    generalize hP : OR G (rfV V (.inr 1)) 1 (.inr 1) = P
                    simp +decide (disch := omega) only [↓wm1, wb223_0 hc, wb223_13 hc, wb223_16 hc, wb223_23 hc, wb223_26 hc, wb223_33 hc, wb223_36 hc, wb223_43 hc, wb223_46 hc, wb223_54 hc, wb223_57 hc, wb223_66 hc, wb223_69 hc, wb223_77 hc, wb223_80 hc, wb223_88 hc, wb223_91 hc, wb223_99 hc, wb223_102 hc, wb223_106 hc, wb223_107 hc, wb223_112 hc, wb223_115 hc, wb223_117 hc, wb223_136 hc, w0, w1, w3, w6, w9, w23, w30, w60, w999, rI_wI, rP_wI, rL_wI, rI_wR, rP_wR, is_wI, is_wR, ia_wI, ia_wR, ow_wI, ow_wR, wn_add, wn_mul, wn_cl, wn_le, wn_lt, wn_inj, wn_ne1, wn_1ne, wn_gt1, wn_le1, nb0, nb1, am_kt, am_rt, List.cons_append, List.nil_append, true_and, and_true, not_true_eq_false, not_false_eq_true, imp_f, imp_t, implies_true, Nat.zero_add, if_true, if_false, false_and, and_false, fM hsh, fE2 hT, ia338 hsh, e6, b01, if_true, Bool.false_eq_true, ct214 hsh hT, ct215 hsh hT, ct220, ct153c, ct153v, ct152n hsh e0, vin2_t hl1 hh1 (by omega), vin2_t hl2 hh2 (by omega), vin2_t hl3 hh3 (by omega), vin2_t hl4 hh4 (by omega), vin2_t hl5 hh5 (by omega), vin2_t hl6 hh6 (by omega), vin2_t hl7 hh7 (by omega), vin2_t hl8 hh8 (by omega), vin2_f hx9, ct152y (c := 1) (r := 1) (by decide) (by decide) (by decide) hsh e0]
                    rw [← hP]; exact OR_8 hR k0
                · rw [if_neg (vin2_nf hx8)]
                  generalize hP : OR G (rfV V (.inr 1)) 1 (.inr 1) = P
                  simp +decide (disch := omega) only [↓wm1, wb223_0 hc, wb223_13 hc, wb223_16 hc, wb223_23 hc, wb223_26 hc, wb223_33 hc, wb223_36 hc, wb223_43 hc, wb223_46 hc, wb223_54 hc, wb223_57 hc, wb223_66 hc, wb223_69 hc, wb223_77 hc, wb223_80 hc, wb223_88 hc, wb223_91 hc, wb223_99 hc, wb223_102 hc, wb223_106 hc, wb223_107 hc, wb223_112 hc, wb223_115 hc, wb223_117 hc, wb223_136 hc, w0, w1, w3, w6, w9, w23, w30, w60, w999, rI_wI, rP_wI, rL_wI, rI_wR, rP_wR, is_wI, is_wR, ia_wI, ia_wR, ow_wI, ow_wR, wn_add, wn_mul, wn_cl, wn_le, wn_lt, wn_inj, wn_ne1, wn_1ne, wn_gt1, wn_le1, nb0, nb1, am_kt, am_rt, List.cons_append, List.nil_append, true_and, and_true, not_true_eq_false, not_false_eq_true, imp_f, imp_t, implies_true, Nat.zero_add, if_true, if_false, false_and, and_false, fM hsh, fE2 hT, ia338 hsh, e6, b01, if_true, Bool.false_eq_true, ct214 hsh hT, ct215 hsh hT, ct220, ct153c, ct153v, ct152n hsh e0, vin2_t hl1 hh1 (by omega), vin2_t hl2 hh2 (by omega), vin2_t hl3 hh3 (by omega), vin2_t hl4 hh4 (by omega), vin2_t hl5 hh5 (by omega), vin2_t hl6 hh6 (by omega), vin2_t hl7 hh7 (by omega), vin2_f hx8, ct152y (c := 1) (r := 1) (by decide) (by decide) (by decide) hsh e0]
                  rw [← hP]; exact OR_8 hR k0
              · rw [if_neg (vin2_nf hx7)]
                generalize hP : OR G (rfV V (.inr 1)) 1 (.inr 1) = P
                simp +decide (disch := omega) only [↓wm1, wb223_0 hc, wb223_13 hc, wb223_16 hc, wb223_23 hc, wb223_26 hc, wb223_33 hc, wb223_36 hc, wb223_43 hc, wb223_46 hc, wb223_54 hc, wb223_57 hc, wb223_66 hc, wb223_69 hc, wb223_77 hc, wb223_80 hc, wb223_88 hc, wb223_91 hc, wb223_99 hc, wb223_102 hc, wb223_106 hc, wb223_107 hc, wb223_112 hc, wb223_115 hc, wb223_117 hc, wb223_136 hc, w0, w1, w3, w6, w9, w23, w30, w60, w999, rI_wI, rP_wI, rL_wI, rI_wR, rP_wR, is_wI, is_wR, ia_wI, ia_wR, ow_wI, ow_wR, wn_add, wn_mul, wn_cl, wn_le, wn_lt, wn_inj, wn_ne1, wn_1ne, wn_gt1, wn_le1, nb0, nb1, am_kt, am_rt, List.cons_append, List.nil_append, true_and, and_true, not_true_eq_false, not_false_eq_true, imp_f, imp_t, implies_true, Nat.zero_add, if_true, if_false, false_and, and_false, fM hsh, fE2 hT, ia338 hsh, e6, b01, if_true, Bool.false_eq_true, ct214 hsh hT, ct215 hsh hT, ct220, ct153c, ct153v, ct152n hsh e0, vin2_t hl1 hh1 (by omega), vin2_t hl2 hh2 (by omega), vin2_t hl3 hh3 (by omega), vin2_t hl4 hh4 (by omega), vin2_t hl5 hh5 (by omega), vin2_t hl6 hh6 (by omega), vin2_f hx7, ct152y (c := 1) (r := 1) (by decide) (by decide) (by decide) hsh e0]
                rw [← hP]; exact OR_8 hR k0
            · rw [if_neg (vin2_nf hx6)]
              generalize hP : OR G (rfV V (.inr 1)) 1 (.inr 1) = P
              simp +decide (disch := omega) only [↓wm1, wb223_0 hc, wb223_13 hc, wb223_16 hc, wb223_23 hc, wb223_26 hc, wb223_33 hc, wb223_36 hc, wb223_43 hc, wb223_46 hc, wb223_54 hc, wb223_57 hc, wb223_66 hc, wb223_69 hc, wb223_77 hc, wb223_80 hc, wb223_88 hc, wb223_91 hc, wb223_99 hc, wb223_102 hc, wb223_106 hc, wb223_107 hc, wb223_112 hc, wb223_115 hc, wb223_117 hc, wb223_136 hc, w0, w1, w3, w6, w9, w23, w30, w60, w999, rI_wI, rP_wI, rL_wI, rI_wR, rP_wR, is_wI, is_wR, ia_wI, ia_wR, ow_wI, ow_wR, wn_add, wn_mul, wn_cl, wn_le, wn_lt, wn_inj, wn_ne1, wn_1ne, wn_gt1, wn_le1, nb0, nb1, am_kt, am_rt, List.cons_append, List.nil_append, true_and, and_true, not_true_eq_false, not_false_eq_true, imp_f, imp_t, implies_true, Nat.zero_add, if_true, if_false, false_and, and_false, fM hsh, fE2 hT, ia338 hsh, e6, b01, if_true, Bool.false_eq_true, ct214 hsh hT, ct215 hsh hT, ct220, ct153c, ct153v, ct152n hsh e0, vin2_t hl1 hh1 (by omega), vin2_t hl2 hh2 (by omega), vin2_t hl3 hh3 (by omega), vin2_t hl4 hh4 (by omega), vin2_t hl5 hh5 (by omega), vin2_f hx6, ct152y (c := 1) (r := 1) (by decide) (by decide) (by decide) hsh e0]
              rw [← hP]; exact OR_8 hR k0
          · rw [if_neg (vin2_nf hx5)]
            generalize hP : OR G (rfV V (.inr 1)) 1 (.inr 1) = P
            simp +decide (disch := omega) only [↓wm1, wb223_0 hc, wb223_13 hc, wb223_16 hc, wb223_23 hc, wb223_26 hc, wb223_33 hc, wb223_36 hc, wb223_43 hc, wb223_46 hc, wb223_54 hc, wb223_57 hc, wb223_66 hc, wb223_69 hc, wb223_77 hc, wb223_80 hc, wb223_88 hc, wb223_91 hc, wb223_99 hc, wb223_102 hc, wb223_106 hc, wb223_107 hc, wb223_112 hc, wb223_115 hc, wb223_117 hc, wb223_136 hc, w0, w1, w3, w6, w9, w23, w30, w60, w999, rI_wI, rP_wI, rL_wI, rI_wR, rP_wR, is_wI, is_wR, ia_wI, ia_wR, ow_wI, ow_wR, wn_add, wn_mul, wn_cl, wn_le, wn_lt, wn_inj, wn_ne1, wn_1ne, wn_gt1, wn_le1, nb0, nb1, am_kt, am_rt, List.cons_append, List.nil_append, true_and, and_true, not_true_eq_false, not_false_eq_true, imp_f, imp_t, implies_true, Nat.zero_add, if_true, if_false, false_and, and_false, fM hsh, fE2 hT, ia338 hsh, e6, b01, if_true, Bool.false_eq_true, ct214 hsh hT, ct215 hsh hT, ct220, ct153c, ct153v, ct152n hsh e0, vin2_t hl1 hh1 (by omega), vin2_t hl2 hh2 (by omega), vin2_t hl3 hh3 (by omega), vin2_t hl4 hh4 (by omega), vin2_f hx5, ct152y (c := 1) (r := 1) (by decide) (by decide) (by decide) hsh e0]
            rw [← hP]; exact OR_8 hR k0
        · rw [if_neg (vin2_nf hx4)]
          generalize hP : OR G (rfV V (.inr 1)) 1 (.inr 1) = P
          simp +decide (disch := omega) only [↓wm1, wb223_0 hc, wb223_13 hc, wb223_16 hc, wb223_23 hc, wb223_26 hc, wb223_33 hc, wb223_36 hc, wb223_43 hc, wb223_46 hc, wb223_54 hc, wb223_57 hc, wb223_66 hc, wb223_69 hc, wb223_77 hc, wb223_80 hc, wb223_88 hc, wb223_91 hc, wb223_99 hc, wb223_102 hc, wb223_106 hc, wb223_107 hc, wb223_112 hc, wb223_115 hc, wb223_117 hc, wb223_136 hc, w0, w1, w3, w6, w9, w23, w30, w60, w999, rI_wI, rP_wI, rL_wI, rI_wR, rP_wR, is_wI, is_wR, ia_wI, ia_wR, ow_wI, ow_wR, wn_add, wn_mul, wn_cl, wn_le, wn_lt, wn_inj, wn_ne1, wn_1ne, wn_gt1, wn_le1, nb0, nb1, am_kt, am_rt, List.cons_append, List.nil_append, true_and, and_true, not_true_eq_false, not_false_eq_true, imp_f, imp_t, implies_true, Nat.zero_add, if_true, if_false, false_and, and_false, fM hsh, fE2 hT, ia338 hsh, e6, b01, if_true, Bool.false_eq_true, ct214 hsh hT, ct215 hsh hT, ct220, ct153c, ct153v, ct152n hsh e0, vin2_t hl1 hh1 (by omega), vin2_t hl2 hh2 (by omega), vin2_t hl3 hh3 (by omega), vin2_f hx4, ct152y (c := 1) (r := 1) (by decide) (by decide) (by decide) hsh e0]
          rw [← hP]; exact OR_8 hR k0
      · rw [if_neg (vin2_nf hx3)]
        generalize hP : OR G (rfV V (.inr 1)) 1 (.inr 1) = P
        simp +decide (disch := omega) only [↓wm1, wb223_0 hc, wb223_13 hc, wb223_16 hc, wb223_23 hc, wb223_26 hc, wb223_33 hc, wb223_36 hc, wb223_43 hc, wb223_46 hc, wb223_54 hc, wb223_57 hc, wb223_66 hc, wb223_69 hc, wb223_77 hc, wb223_80 hc, wb223_88 hc, wb223_91 hc, wb223_99 hc, wb223_102 hc, wb223_106 hc, wb223_107 hc, wb223_112 hc, wb223_115 hc, wb223_117 hc, wb223_136 hc, w0, w1, w3, w6, w9, w23, w30, w60, w999, rI_wI, rP_wI, rL_wI, rI_wR, rP_wR, is_wI, is_wR, ia_wI, ia_wR, ow_wI, ow_wR, wn_add, wn_mul, wn_cl, wn_le, wn_lt, wn_inj, wn_ne1, wn_1ne, wn_gt1, wn_le1, nb0, nb1, am_kt, am_rt, List.cons_append, List.nil_append, true_and, and_true, not_true_eq_false, not_false_eq_true, imp_f, imp_t, implies_true, Nat.zero_add, if_true, if_false, false_and, and_false, fM hsh, fE2 hT, ia338 hsh, e6, b01, if_true, Bool.false_eq_true, ct214 hsh hT, ct215 hsh hT, ct220, ct153c, ct153v, ct152n hsh e0, vin2_t hl1 hh1 (by omega), vin2_t hl2 hh2 (by omega), vin2_f hx3, ct152y (c := 1) (r := 1) (by decide) (by decide) (by decide) hsh e0]
        rw [← hP]; exact OR_8 hR k0
    · rw [if_neg (vin2_nf hx2)]
      generalize hP : OR G (rfV V (.inr 1)) 1 (.inr 1) = P
      simp +decide (disch := omega) only [↓wm1, wb223_0 hc, wb223_13 hc, wb223_16 hc, wb223_23 hc, wb223_26 hc, wb223_33 hc, wb223_36 hc, wb223_43 hc, wb223_46 hc, wb223_54 hc, wb223_57 hc, wb223_66 hc, wb223_69 hc, wb223_77 hc, wb223_80 hc, wb223_88 hc, wb223_91 hc, wb223_99 hc, wb223_102 hc, wb223_106 hc, wb223_107 hc, wb223_112 hc, wb223_115 hc, wb223_117 hc, wb223_136 hc, w0, w1, w3, w6, w9, w23, w30, w60, w999, rI_wI, rP_wI, rL_wI, rI_wR, rP_wR, is_wI, is_wR, ia_wI, ia_wR, ow_wI, ow_wR, wn_add, wn_mul, wn_cl, wn_le, wn_lt, wn_inj, wn_ne1, wn_1ne, wn_gt1, wn_le1, nb0, nb1, am_kt, am_rt, List.cons_append, List.nil_append, true_and, and_true, not_true_eq_false, not_false_eq_true, imp_f, imp_t, implies_true, Nat.zero_add, if_true, if_false, false_and, and_false, fM hsh, fE2 hT, ia338 hsh, e6, b01, if_true, Bool.false_eq_true, ct214 hsh hT, ct215 hsh hT, ct220, ct153c, ct153v, ct152n hsh e0, vin2_t hl1 hh1 (by omega), vin2_f hx2, ct152y (c := 1) (r := 1) (by decide) (by decide) (by decide) hsh e0]
      rw [← hP]; exact OR_8 hR k0
  · rw [if_neg (vin2_nf hx1)]
    generalize hP : OR G (rfV V (.inr 1)) 1 (.inr 1) = P
    simp +decide (disch := omega) only [↓wm1, wb223_0 hc, wb223_13 hc, wb223_16 hc, wb223_23 hc, wb223_26 hc, wb223_33 hc, wb223_36 hc, wb223_43 hc, wb223_46 hc, wb223_54 hc, wb223_57 hc, wb223_66 hc, wb223_69 hc, wb223_77 hc, wb223_80 hc, wb223_88 hc, wb223_91 hc, wb223_99 hc, wb223_102 hc, wb223_106 hc, wb223_107 hc, wb223_112 hc, wb223_115 hc, wb223_117 hc, wb223_136 hc, w0, w1, w3, w6, w9, w23, w30, w60, w999, rI_wI, rP_wI, rL_wI, rI_wR, rP_wR, is_wI, is_wR, ia_wI, ia_wR, ow_wI, ow_wR, wn_add, wn_mul, wn_cl, wn_le, wn_lt, wn_inj, wn_ne1, wn_1ne, wn_gt1, wn_le1, nb0, nb1, am_kt, am_rt, List.cons_append, List.nil_append, true_and, and_true, not_true_eq_false, not_false_eq_true, imp_f, imp_t, implies_true, Nat.zero_add, if_true, if_false, false_and, and_false, fM hsh, fE2 hT, ia338 hsh, e6, b01, if_true, Bool.false_eq_true, ct214 hsh hT, ct215 hsh hT, ct220, ct153c, ct153v, ct152n hsh e0, vin2_f hx1, ct152y (c := 1) (r := 1) (by decide) (by decide) (by decide) hsh e0]
    rw [← hP]; exact OR_8 hR k0
theorem ct115_l {q l b1 b2 : Nat} {post : am_O → am_G → Prop} (hv : vS9 (dB (vδ V)) (dH (vδ V)) (vσ V)) (hb : b1 < 100)
    (k : ∀ G', Sh G' → Tw G' q l (vδ V) (vΛ V) → rS G' 102 (sPs b1 (vσ V)) → Kp (sc 102) G G' → am_W (am_C am_T (d + 11)) am_115 post 71 [some (.ref 0), some (.int (wn b1)), some (.int (wn b2)), some (.int (wn b1))] [] G') {G1 : am_G} (hsh : Sh G1) (hT : Tw G1 q l (vδ V) (vΛ V)) (hr : rS G1 102 (vσ V)) (kG : Kp (sc 102) G G1) :
    am_W (am_C am_T (d + 11)) am_115 post 53 [some (.ref 0), some (.int (wn b1)), some (.int (wn b2)), some (.int (wn 0))] [] G1 := by
  have hc := am_C_one am_T (d + 11)
  refine am_for b1 (fun j ls G' => ls = [some (.ref 0), some (.int (wn b1)), some (.int (wn b2)), some (.int (wn j))] ∧ Sh G' ∧ Tw G' q l (vδ V) (vΛ V) ∧ rS G' 102 (sPs j (vσ V)) ∧ Kp (sc 102) G G') ?_ ?_ b1 0 (by omega) _ _ ⟨rfl, hsh, hT, hr, kG⟩
  · rintro j hj _ G2 ⟨rfl, h2, t2, r2, k2⟩ nx
    have c1 : ¬ b1 ≤ j := by omega
    have vs := vS_sPs hv j (by omega)
    rw [wb115_53 hc]
    simp +decide (disch := omega) only [↓wm1, wb115_58 hc, w0, w1, w2, w99, rI_wI, rP_wI, rL_wI, rI_wR, rP_wR, is_wI, is_wR, ia_wI, ia_wR, ow_wI, ow_wR, wn_add, wn_mul, wn_cl, wn_le, wn_lt, wn_inj, wn_ne1, wn_1ne, wn_gt1, wn_le1, nb0, nb1, am_kt, am_rt, List.cons_append, List.nil_append, true_and, and_true, not_true_eq_false, not_false_eq_true, imp_f, imp_t, implies_true, Nat.zero_add, if_true, if_false, false_and, and_false, cn115, fC h2, c1]
    refine ct55 h2 h102 r2 vs.2.2.2.2.2.1 (fun G3 r3 k3 => ?_)
    simp +decide (disch := omega) only [↓wm1, wb115_65 hc, w0, w1, w2, w99, rI_wI, rP_wI, rL_wI, rI_wR, rP_wR, is_wI, is_wR, ia_wI, ia_wR, ow_wI, ow_wR, wn_add, wn_mul, wn_cl, wn_le, wn_lt, wn_inj, wn_ne1, wn_1ne, wn_gt1, wn_le1, nb0, nb1, am_kt, am_rt, List.cons_append, List.nil_append, true_and, and_true, not_true_eq_false, not_false_eq_true, imp_f, imp_t, implies_true, Nat.zero_add, if_true, if_false, false_and, and_false, cn115]
    exact nx _ _ ⟨rfl, h2.kp k3, t2.kp k3 (by intro a i z; unfold sc at z; omega), r3, k2.trans k3⟩
  · rintro _ G2 ⟨rfl, h2, t2, r2, k2⟩
    rw [wb115_53 hc]
    simp +decide (disch := omega) only [↓wm1, w0, w1, rI_wI, rP_wI, rL_wI, rI_wR, rP_wR, is_wI, is_wR, ia_wI, ia_wR, ow_wI, ow_wR, wn_add, wn_mul, wn_cl, wn_le, wn_lt, wn_inj, wn_ne1, wn_1ne, wn_gt1, wn_le1, nb0, nb1, am_kt, am_rt, List.cons_append, List.nil_append, true_and, and_true, not_true_eq_false, not_false_eq_true, imp_f, imp_t, implies_true, Nat.zero_add, if_true, if_false, false_and, and_false, Nat.le_refl]
    exact k G2 h2 t2 r2 k2
theorem ct224_l {b1 b2 : Nat} {post : am_O → am_G → Prop} (hv : vS9 (dB (vδ V)) (dH (vδ V)) (vσ V)) (hb : b1 < 100)
    (k : ∀ G', Sh G' → Tm G' (vδ V) (vΛ V) → rW G' 809 0 (sPs b1 (vσ V)) → Kp (fun a _ => a = 809) G G' → am_W (am_C am_T (d + 11)) am_224 post 71 [some (.ref 334), some (.int (wn b1)), some (.int (wn b2)), some (.int (wn b1))] [] G') {G1 : am_G} (hsh : Sh G1) (hT : Tm G1 (vδ V) (vΛ V)) (hr : rW G1 809 0 (vσ V)) (kG : Kp (fun a _ => a = 809) G G1) :
    am_W (am_C am_T (d + 11)) am_224 post 53 [some (.ref 334), some (.int (wn b1)), some (.int (wn b2)), some (.int (wn 0))] [] G1 := by
  have hc := am_C_one am_T (d + 11)
  refine am_for b1 (fun j ls G' => ls = [some (.ref 334), some (.int (wn b1)), some (.int (wn b2)), some (.int (wn j))] ∧ Sh G' ∧ Tm G' (vδ V) (vΛ V) ∧ rW G' 809 0 (sPs j (vσ V)) ∧ Kp (fun a _ => a = 809) G G') ?_ ?_ b1 0 (by omega) _ _ ⟨rfl, hsh, hT, hr, kG⟩
  · rintro j hj _ G2 ⟨rfl, h2, t2, r2, k2⟩ nx
    have c1 : ¬ b1 ≤ j := by omega
    have vs := vS_sPs hv j (by omega)
    rw [wb224_53 hc]
    simp +decide (disch := omega) only [↓wm1, wb224_58 hc, w0, w1, w2, w99, rI_wI, rP_wI, rL_wI, rI_wR, rP_wR, is_wI, is_wR, ia_wI, ia_wR, ow_wI, ow_wR, wn_add, wn_mul, wn_cl, wn_le, wn_lt, wn_inj, wn_ne1, wn_1ne, wn_gt1, wn_le1, nb0, nb1, am_kt, am_rt, List.cons_append, List.nil_append, true_and, and_true, not_true_eq_false, not_false_eq_true, imp_f, imp_t, implies_true, Nat.zero_add, if_true, if_false, false_and, and_false, fM h2, c1]
    refine ct201 h2 h809 r2 vs.2.2.2.2.2.1 (fun G3 r3 k3 => ?_)
    simp +decide (disch := omega) only [↓wm1, wb224_65 hc, w0, w1, w2, w99, rI_wI, rP_wI, rL_wI, rI_wR, rP_wR, is_wI, is_wR, ia_wI, ia_wR, ow_wI, ow_wR, wn_add, wn_mul, wn_cl, wn_le, wn_lt, wn_inj, wn_ne1, wn_1ne, wn_gt1, wn_le1, nb0, nb1, am_kt, am_rt, List.cons_append, List.nil_append, true_and, and_true, not_true_eq_false, not_false_eq_true, imp_f, imp_t, implies_true, Nat.zero_add, if_true, if_false, false_and, and_false]
    exact nx _ _ ⟨rfl, h2.kp k3, t2.kp k3 (by rintro a i rfl; exact ⟨by omega, by omega⟩), r3, k2.trans k3⟩
  · rintro _ G2 ⟨rfl, h2, t2, r2, k2⟩
    rw [wb224_53 hc]
    simp +decide (disch := omega) only [↓wm1, w0, w1, rI_wI, rP_wI, rL_wI, rI_wR, rP_wR, is_wI, is_wR, ia_wI, ia_wR, ow_wI, ow_wR, wn_add, wn_mul, wn_cl, wn_le, wn_lt, wn_inj, wn_ne1, wn_1ne, wn_gt1, wn_le1, nb0, nb1, am_kt, am_rt, List.cons_append, List.nil_append, true_and, and_true, not_true_eq_false, not_false_eq_true, imp_f, imp_t, implies_true, Nat.zero_add, if_true, if_false, false_and, and_false, Nat.le_refl]
    exact k G2 h2 t2 r2 k2
def sp_ahead (V : Vt) (x1 x2 : Int32) : Res := if vin2 x1 0 (100) = true then if vin2 x2 0 (3) = true then .inl (q_ahead V (u x1) (u x2)) else .inr 1 else .inr 1
theorem cl_ahead (hR : RepC G V) (hB : am_rm G 1 6) (x1 x2 : Int32) : am_C am_T (d + 12) 115 [.ref 0, .int x1, .int x2] G (OC G (rfV V (sp_ahead V x1 x2)) (sp_ahead V x1 x2)) := by
  have hc := am_C_one am_T (d + 11)
  have hsh := hR.1
  have hv := hR.2.1
  obtain ⟨q, l, hT, -, -⟩ := hR.2.2.2.1
  have hr := hR.2.2.2.2.1.1
  have vd := hv.2.2.2.1
  have bB := vd.1
  have bH := vd.2.1
  have bD := vd.2.2.1
  have hs9 := hv.2.2.2.2.2.1
  have hvs := hs9.1
  have hg := hvs.g6 bB
  have ht := hvs.t6 bB
  have hm := hvs.2.2.2.2.2.1
  have h9 := hs9.2
  have p6 : 2 ^ dB (vδ V) ≤ 64 := Nat.pow_le_pow_right (n := 2) (by decide) bB
  have e6 := bs1 (dB (vδ V)) (by omega)
  unfold sp_ahead
  rw [we115]
  rcases vin2_or x1 0 (100) (by omega) (by omega) with ⟨b1, hl1, hh1, rfl⟩ | hx1
  · rw [if_pos (vin2_t hl1 hh1 (by omega))]
    have na1 : ¬ b1 < 0 := by omega
    have nb1 : ¬ 100 ≤ b1 := by omega
    have nc1 : ¬ 99 < b1 := by omega
    rcases vin2_or x2 0 (3) (by omega) (by omega) with ⟨b2, hl2, hh2, rfl⟩ | hx2
    · rw [if_pos (vin2_t hl2 hh2 (by omega))]
      have na2 : ¬ b2 < 0 := by omega
      have nb2 : ¬ 3 ≤ b2 := by omega
      have nc2 : ¬ 2 < b2 := by omega
      simp only [u_wn (show b1 < 2147483648 by omega), u_wn (show b2 < 2147483648 by omega)]
      generalize hP : OC G (rfV V (.inl (q_ahead V b1 b2))) (.inl (q_ahead V b1 b2)) = P
      simp +decide (disch := omega) only [↓wm1, wb115_0 hc, wb115_5 hc, wb115_11 hc, wb115_15 hc, wb115_16 hc, wb115_19 hc, wb115_24 hc, wb115_29 hc, wb115_33 hc, wb115_34 hc, wb115_37 hc, wb115_51 hc, wb115_58 hc, wb115_65 hc, wb115_71 hc, wb115_100 hc, wb115_107 hc, wb115_108 hc, wb115_115 hc, wb115_116 hc, wb115_127 hc, w0, w1, w2, w99, rI_wI, rP_wI, rL_wI, rI_wR, rP_wR, is_wI, is_wR, ia_wI, ia_wR, ow_wI, ow_wR, wn_add, wn_mul, wn_cl, wn_le, wn_lt, wn_inj, wn_ne1, wn_1ne, wn_gt1, wn_le1, nb0, nb1, am_kt, am_rt, List.cons_append, List.nil_append, true_and, and_true, not_true_eq_false, not_false_eq_true, imp_f, imp_t, implies_true, Nat.zero_add, if_true, if_false, false_and, and_false, cn115, fC hsh, fW2 hsh hT, fD hsh hT.2.2.1, e6, na1, nb1, hh1, nc1, ct139y (v := 1) (by decide) (by decide), na2, nb2, hh2, nc2, fS hsh h32]
      refine ct47 hsh h102 h32 (by omega) hr (fun G1 r1 k1 => ?_)
      simp +decide (disch := omega) only [↓wm1, wb115_51 hc, w0, w1, w2, w99, rI_wI, rP_wI, rL_wI, rI_wR, rP_wR, is_wI, is_wR, ia_wI, ia_wR, ow_wI, ow_wR, wn_add, wn_mul, wn_cl, wn_le, wn_lt, wn_inj, wn_ne1, wn_1ne, wn_gt1, wn_le1, nb0, nb1, am_kt, am_rt, List.cons_append, List.nil_append, true_and, and_true, not_true_eq_false, not_false_eq_true, imp_f, imp_t, implies_true, Nat.zero_add, if_true, if_false, false_and, and_false, cn115]
      refine ct115_l (G := G) (V := V) (q := q) (l := l) hs9 hh1 (fun G2 h2 t2 r2 k2 => ?_) (hsh.kp k1) (hT.kp k1 (by intro a i z; unfold sc at z; omega)) r1 k1
      have vs := vS_sPs hs9 b1 (by omega)
      have vm := vs.2.2.2.2.2.1
      simp +decide (disch := omega) only [↓wm1, wb115_71 hc, w0, w1, w2, w99, rI_wI, rP_wI, rL_wI, rI_wR, rP_wR, is_wI, is_wR, ia_wI, ia_wR, ow_wI, ow_wR, wn_add, wn_mul, wn_cl, wn_le, wn_lt, wn_inj, wn_ne1, wn_1ne, wn_gt1, wn_le1, nb0, nb1, am_kt, am_rt, List.cons_append, List.nil_append, true_and, and_true, not_true_eq_false, not_false_eq_true, imp_f, imp_t, implies_true, Nat.zero_add, if_true, if_false, false_and, and_false, cn115]
      simp only [am_swc_iff]
      have hcs : b2 = 0 ∨ b2 = 1 ∨ b2 = 2 := by omega
      rcases hcs with rfl | rfl | rfl
      · rw [show am_swt (wn 0) (wn 0) [100, 108] 116 = 100 from by decide +kernel]
        simp +decide (disch := omega) only [↓wm1, wb115_100 hc, wb115_107 hc, w0, w1, w2, w99, rI_wI, rP_wI, rL_wI, rI_wR, rP_wR, is_wI, is_wR, ia_wI, ia_wR, ow_wI, ow_wR, wn_add, wn_mul, wn_cl, wn_le, wn_lt, wn_inj, wn_ne1, wn_1ne, wn_gt1, wn_le1, nb0, nb1, am_kt, am_rt, List.cons_append, List.nil_append, true_and, and_true, not_true_eq_false, not_false_eq_true, imp_f, imp_t, implies_true, Nat.zero_add, if_true, if_false, false_and, and_false, cn115, fC h2, ct58i h2 h102 r2, tAll_eq vs bH]
        rw [← hP]; exact OC_ok hR (sc102 k2)
      · rw [show am_swt (wn 1) (wn 0) [100, 108] 116 = 108 from by decide +kernel]
        simp +decide (disch := omega) only [↓wm1, wb115_108 hc, wb115_115 hc, w0, w1, w2, w99, rI_wI, rP_wI, rL_wI, rI_wR, rP_wR, is_wI, is_wR, ia_wI, ia_wR, ow_wI, ow_wR, wn_add, wn_mul, wn_cl, wn_le, wn_lt, wn_inj, wn_ne1, wn_1ne, wn_gt1, wn_le1, nb0, nb1, am_kt, am_rt, List.cons_append, List.nil_append, true_and, and_true, not_true_eq_false, not_false_eq_true, imp_f, imp_t, implies_true, Nat.zero_add, if_true, if_false, false_and, and_false, cn115, fC h2, ct61i h2 h102 r2 vm, mAll_eq vs bH]
        rw [← hP]; exact OC_ok hR (sc102 k2)
      · rw [show am_swt (wn 2) (wn 0) [100, 108] 116 = 116 from by decide +kernel]
        simp +decide (disch := omega) only [↓wm1, wb115_116 hc, wb115_127 hc, w0, w1, w2, w99, rI_wI, rP_wI, rL_wI, rI_wR, rP_wR, is_wI, is_wR, ia_wI, ia_wR, ow_wI, ow_wR, wn_add, wn_mul, wn_cl, wn_le, wn_lt, wn_inj, wn_ne1, wn_1ne, wn_gt1, wn_le1, nb0, nb1, am_kt, am_rt, List.cons_append, List.nil_append, true_and, and_true, not_true_eq_false, not_false_eq_true, imp_f, imp_t, implies_true, Nat.zero_add, if_true, if_false, false_and, and_false, cn115, fC h2, ct88 h2 t2 h102 r2 vm]
        rw [← hP]; exact OC_ok hR (sc102 k2)
    · rw [if_neg (vin2_nf hx2)]
      generalize hP : OC G (rfV V (.inr 1)) (.inr 1) = P
      by_cases hxa : x2 < wn 0
      · simp +decide (disch := omega) only [↓wm1, wb115_0 hc, wb115_5 hc, wb115_11 hc, wb115_15 hc, wb115_16 hc, wb115_19 hc, wb115_24 hc, wb115_29 hc, wb115_33 hc, wb115_34 hc, wb115_37 hc, wb115_51 hc, wb115_58 hc, wb115_65 hc, wb115_71 hc, wb115_100 hc, wb115_107 hc, wb115_108 hc, wb115_115 hc, wb115_116 hc, wb115_127 hc, w0, w1, w2, w99, rI_wI, rP_wI, rL_wI, rI_wR, rP_wR, is_wI, is_wR, ia_wI, ia_wR, ow_wI, ow_wR, wn_add, wn_mul, wn_cl, wn_le, wn_lt, wn_inj, wn_ne1, wn_1ne, wn_gt1, wn_le1, nb0, nb1, am_kt, am_rt, List.cons_append, List.nil_append, true_and, and_true, not_true_eq_false, not_false_eq_true, imp_f, imp_t, implies_true, Nat.zero_add, if_true, if_false, false_and, and_false, cn115, fC hsh, fW2 hsh hT, fD hsh hT.2.2.1, e6, na1, nb1, hh1, nc1, ct139y (v := 1) (by decide) (by decide), hxa, ct139n hsh hB]
        rw [← hP]; exact OC_8 hR hB
      · have hxb : ¬ x2 < wn (3) := by rcases hx2 with z | z; exact absurd z hxa; exact z
        have hxc : wn (3) ≤ x2 := Int32.not_lt.mp hxb
        have hxd : wn 2 < x2 := out3 (by decide) hxb
        simp +decide (disch := omega) only [↓wm1, wb115_0 hc, wb115_5 hc, wb115_11 hc, wb115_15 hc, wb115_16 hc, wb115_19 hc, wb115_24 hc, wb115_29 hc, wb115_33 hc, wb115_34 hc, wb115_37 hc, wb115_51 hc, wb115_58 hc, wb115_65 hc, wb115_71 hc, wb115_100 hc, wb115_107 hc, wb115_108 hc, wb115_115 hc, wb115_116 hc, wb115_127 hc, w0, w1, w2, w99, rI_wI, rP_wI, rL_wI, rI_wR, rP_wR, is_wI, is_wR, ia_wI, ia_wR, ow_wI, ow_wR, wn_add, wn_mul, wn_cl, wn_le, wn_lt, wn_inj, wn_ne1, wn_1ne, wn_gt1, wn_le1, nb0, nb1, am_kt, am_rt, List.cons_append, List.nil_append, true_and, and_true, not_true_eq_false, not_false_eq_true, imp_f, imp_t, implies_true, Nat.zero_add, if_true, if_false, false_and, and_false, cn115, fC hsh, fW2 hsh hT, fD hsh hT.2.2.1, e6, na1, nb1, hh1, nc1, ct139y (v := 1) (by decide) (by decide), hxa, hxb, hxc, hxd, ct139n hsh hB]
        rw [← hP]; exact OC_8 hR hB
  · rw [if_neg (vin2_nf hx1)]
    generalize hP : OC G (rfV V (.inr 1)) (.inr 1) = P
    by_cases hxa : x1 < wn 0
    · simp +decide (disch := omega) only [↓wm1, wb115_0 hc, wb115_5 hc, wb115_11 hc, wb115_15 hc, wb115_16 hc, wb115_19 hc, wb115_24 hc, wb115_29 hc, wb115_33 hc, wb115_34 hc, wb115_37 hc, wb115_51 hc, wb115_58 hc, wb115_65 hc, wb115_71 hc, wb115_100 hc, wb115_107 hc, wb115_108 hc, wb115_115 hc, wb115_116 hc, wb115_127 hc, w0, w1, w2, w99, rI_wI, rP_wI, rL_wI, rI_wR, rP_wR, is_wI, is_wR, ia_wI, ia_wR, ow_wI, ow_wR, wn_add, wn_mul, wn_cl, wn_le, wn_lt, wn_inj, wn_ne1, wn_1ne, wn_gt1, wn_le1, nb0, nb1, am_kt, am_rt, List.cons_append, List.nil_append, true_and, and_true, not_true_eq_false, not_false_eq_true, imp_f, imp_t, implies_true, Nat.zero_add, if_true, if_false, false_and, and_false, cn115, fC hsh, fW2 hsh hT, fD hsh hT.2.2.1, e6, hxa, ct139n hsh hB]
      rw [← hP]; exact OC_8 hR hB
    · have hxb : ¬ x1 < wn (100) := by rcases hx1 with z | z; exact absurd z hxa; exact z
      have hxc : wn (100) ≤ x1 := Int32.not_lt.mp hxb
      have hxd : wn 99 < x1 := out3 (by decide) hxb
      simp +decide (disch := omega) only [↓wm1, wb115_0 hc, wb115_5 hc, wb115_11 hc, wb115_15 hc, wb115_16 hc, wb115_19 hc, wb115_24 hc, wb115_29 hc, wb115_33 hc, wb115_34 hc, wb115_37 hc, wb115_51 hc, wb115_58 hc, wb115_65 hc, wb115_71 hc, wb115_100 hc, wb115_107 hc, wb115_108 hc, wb115_115 hc, wb115_116 hc, wb115_127 hc, w0, w1, w2, w99, rI_wI, rP_wI, rL_wI, rI_wR, rP_wR, is_wI, is_wR, ia_wI, ia_wR, ow_wI, ow_wR, wn_add, wn_mul, wn_cl, wn_le, wn_lt, wn_inj, wn_ne1, wn_1ne, wn_gt1, wn_le1, nb0, nb1, am_kt, am_rt, List.cons_append, List.nil_append, true_and, and_true, not_true_eq_false, not_false_eq_true, imp_f, imp_t, implies_true, Nat.zero_add, if_true, if_false, false_and, and_false, cn115, fC hsh, fW2 hsh hT, fD hsh hT.2.2.1, e6, hxa, hxb, hxc, hxd, ct139n hsh hB]
      rw [← hP]; exact OC_8 hR hB
theorem rf_ahead (hR : RepR G V) (x1 x2 : Int32) : am_C am_T (d + 12) 224 [.ref 334, .int x1, .int x2] G (OR G (rfV V (sp_ahead V x1 x2)) 1 (sp_ahead V x1 x2)) := by
  have hc := am_C_one am_T (d + 11)
  have k0 : Kp QSR G (am_wI G 334 0 (wn 0)) := (Kp.refl G).wI (Or.inl ⟨rfl, Or.inl rfl⟩) _
  have e0 : am_gI (am_wI G 334 0 (wn 0)) 334 0 = wn 0 := by rw [rI_wI, if_pos ⟨rfl, rfl⟩]
  have hR0 := hR.q k0
  have hshG := hR.1
  unfold sp_ahead
  rw [we224]
  generalize hOR : OR G = OG
  simp +decide (disch := omega) only [↓wm1, wb224_0 hc, w0, w1, w2, w99, rI_wI, rP_wI, rL_wI, rI_wR, rP_wR, is_wI, is_wR, ia_wI, ia_wR, ow_wI, ow_wR, wn_add, wn_mul, wn_cl, wn_le, wn_lt, wn_inj, wn_ne1, wn_1ne, wn_gt1, wn_le1, nb0, nb1, am_kt, am_rt, List.cons_append, List.nil_append, true_and, and_true, not_true_eq_false, not_false_eq_true, imp_f, imp_t, implies_true, Nat.zero_add, if_true, if_false, false_and, and_false, fM hshG, fE2 hR.2.2.2.1, ia338 hshG]
  generalize am_wI G 334 0 (wn 0) = G0 at k0 e0 hR0 ⊢
  subst hOR
  have hsh := hR0.1
  have hv := hR0.2.1
  have hT := hR0.2.2.2.1
  have hr := hR0.2.2.2.2.1.1
  have vd := hv.2.2.2.1
  have bB := vd.1
  have bH := vd.2.1
  have bD := vd.2.2.1
  have hs9 := hv.2.2.2.2.2.1
  have hvs := hs9.1
  have hg := hvs.g6 bB
  have ht := hvs.t6 bB
  have hm := hvs.2.2.2.2.2.1
  have h9 := hs9.2
  have p6 : 2 ^ dB (vδ V) ≤ 64 := Nat.pow_le_pow_right (n := 2) (by decide) bB
  have e6 := bs1 (dB (vδ V)) (by omega)
  rcases vin2_or x1 0 (100) (by omega) (by omega) with ⟨b1, hl1, hh1, rfl⟩ | hx1
  · rw [if_pos (vin2_t hl1 hh1 (by omega))]
    rcases vin2_or x2 0 (3) (by omega) (by omega) with ⟨b2, hl2, hh2, rfl⟩ | hx2
    · rw [if_pos (vin2_t hl2 hh2 (by omega))]
      simp only [u_wn (show b1 < 2147483648 by omega), u_wn (show b2 < 2147483648 by omega)]
      generalize hP : OR G (rfV V (.inl (q_ahead V b1 b2))) 1 (.inl (q_ahead V b1 b2)) = P
      simp +decide (disch := omega) only [↓wm1, wb224_0 hc, wb224_13 hc, wb224_16 hc, wb224_22 hc, wb224_25 hc, wb224_29 hc, wb224_30 hc, wb224_35 hc, wb224_38 hc, wb224_40 hc, wb224_51 hc, wb224_58 hc, wb224_65 hc, wb224_71 hc, wb224_75 hc, wb224_83 hc, wb224_86 hc, wb224_91 hc, wb224_99 hc, wb224_102 hc, wb224_110 hc, w0, w1, w2, w99, rI_wI, rP_wI, rL_wI, rI_wR, rP_wR, is_wI, is_wR, ia_wI, ia_wR, ow_wI, ow_wR, wn_add, wn_mul, wn_cl, wn_le, wn_lt, wn_inj, wn_ne1, wn_1ne, wn_gt1, wn_le1, nb0, nb1, am_kt, am_rt, List.cons_append, List.nil_append, true_and, and_true, not_true_eq_false, not_false_eq_true, imp_f, imp_t, implies_true, Nat.zero_add, if_true, if_false, false_and, and_false, fM hsh, fE2 hT, ia338 hsh, e6, b01, if_true, Bool.false_eq_true, ct214 hsh hT, ct215 hsh hT, ct220, ct153c, ct153v, ct152n hsh e0, vin2_t hl1 hh1 (by omega), vin2_t hl2 hh2 (by omega)]
      refine ct178 hsh h808 h809 (by decide) (fun G1 r1 k1 => ?_)
      simp +decide (disch := omega) only [↓wm1, wb224_51 hc, w0, w1, w2, w99, rI_wI, rP_wI, rL_wI, rI_wR, rP_wR, is_wI, is_wR, ia_wI, ia_wR, ow_wI, ow_wR, wn_add, wn_mul, wn_cl, wn_le, wn_lt, wn_inj, wn_ne1, wn_1ne, wn_gt1, wn_le1, nb0, nb1, am_kt, am_rt, List.cons_append, List.nil_append, true_and, and_true, not_true_eq_false, not_false_eq_true, imp_f, imp_t, implies_true, Nat.zero_add, if_true, if_false, false_and, and_false]
      refine ct224_l (G := G0) (V := V) hs9 hh1 (fun G2 h2 t2 r2 k2 => ?_) (hsh.kp k1) (hT.kp k1 (by rintro a i rfl; exact ⟨by omega, by omega⟩)) (hr.cp r1) k1
      have vs := vS_sPs hs9 b1 (by omega)
      have vm := vs.2.2.2.2.2.1
      have hcs : b2 = 0 ∨ b2 = 1 ∨ b2 = 2 := by omega
      rcases hcs with rfl | rfl | rfl
      · simp +decide (disch := omega) only [↓wm1, wb224_71 hc, wb224_75 hc, wb224_83 hc, wb224_110 hc, w0, w1, w2, w99, rI_wI, rP_wI, rL_wI, rI_wR, rP_wR, is_wI, is_wR, ia_wI, ia_wR, ow_wI, ow_wR, wn_add, wn_mul, wn_cl, wn_le, wn_lt, wn_inj, wn_ne1, wn_1ne, wn_gt1, wn_le1, nb0, nb1, am_kt, am_rt, List.cons_append, List.nil_append, true_and, and_true, not_true_eq_false, not_false_eq_true, imp_f, imp_t, implies_true, Nat.zero_add, if_true, if_false, false_and, and_false, fM h2, ct208 h2 t2 h809 r2]
        rw [← hP]; exact OR_ok hR (k0.trans (r809 k2)) (k2.thr (by decide) e0)
      · simp +decide (disch := omega) only [↓wm1, wb224_71 hc, wb224_86 hc, wb224_91 hc, wb224_99 hc, wb224_110 hc, w0, w1, w2, w99, rI_wI, rP_wI, rL_wI, rI_wR, rP_wR, is_wI, is_wR, ia_wI, ia_wR, ow_wI, ow_wR, wn_add, wn_mul, wn_cl, wn_le, wn_lt, wn_inj, wn_ne1, wn_1ne, wn_gt1, wn_le1, nb0, nb1, am_kt, am_rt, List.cons_append, List.nil_append, true_and, and_true, not_true_eq_false, not_false_eq_true, imp_f, imp_t, implies_true, Nat.zero_add, if_true, if_false, false_and, and_false, fM h2, ct209 h2 t2 h809 r2 vm]
        rw [← hP]; exact OR_ok hR (k0.trans (r809 k2)) (k2.thr (by decide) e0)
      · simp +decide (disch := omega) only [↓wm1, wb224_71 hc, wb224_86 hc, wb224_102 hc, wb224_110 hc, w0, w1, w2, w99, rI_wI, rP_wI, rL_wI, rI_wR, rP_wR, is_wI, is_wR, ia_wI, ia_wR, ow_wI, ow_wR, wn_add, wn_mul, wn_cl, wn_le, wn_lt, wn_inj, wn_ne1, wn_1ne, wn_gt1, wn_le1, nb0, nb1, am_kt, am_rt, List.cons_append, List.nil_append, true_and, and_true, not_true_eq_false, not_false_eq_true, imp_f, imp_t, implies_true, Nat.zero_add, if_true, if_false, false_and, and_false, fM h2, ct211 h2 t2 h809 r2 vm]
        rw [← hP]; exact OR_ok hR (k0.trans (r809 k2)) (k2.thr (by decide) e0)
    · rw [if_neg (vin2_nf hx2)]
      generalize hP : OR G (rfV V (.inr 1)) 1 (.inr 1) = P
      simp +decide (disch := omega) only [↓wm1, wb224_0 hc, wb224_13 hc, wb224_16 hc, wb224_22 hc, wb224_25 hc, wb224_29 hc, wb224_30 hc, wb224_35 hc, wb224_38 hc, wb224_40 hc, wb224_51 hc, wb224_58 hc, wb224_65 hc, wb224_71 hc, wb224_75 hc, wb224_83 hc, wb224_86 hc, wb224_91 hc, wb224_99 hc, wb224_102 hc, wb224_110 hc, w0, w1, w2, w99, rI_wI, rP_wI, rL_wI, rI_wR, rP_wR, is_wI, is_wR, ia_wI, ia_wR, ow_wI, ow_wR, wn_add, wn_mul, wn_cl, wn_le, wn_lt, wn_inj, wn_ne1, wn_1ne, wn_gt1, wn_le1, nb0, nb1, am_kt, am_rt, List.cons_append, List.nil_append, true_and, and_true, not_true_eq_false, not_false_eq_true, imp_f, imp_t, implies_true, Nat.zero_add, if_true, if_false, false_and, and_false, fM hsh, fE2 hT, ia338 hsh, e6, b01, if_true, Bool.false_eq_true, ct214 hsh hT, ct215 hsh hT, ct220, ct153c, ct153v, ct152n hsh e0, vin2_t hl1 hh1 (by omega), vin2_f hx2, ct152y (c := 1) (r := 1) (by decide) (by decide) (by decide) hsh e0]
      rw [← hP]; exact OR_8 hR k0
  · rw [if_neg (vin2_nf hx1)]
    generalize hP : OR G (rfV V (.inr 1)) 1 (.inr 1) = P
    simp +decide (disch := omega) only [↓wm1, wb224_0 hc, wb224_13 hc, wb224_16 hc, wb224_22 hc, wb224_25 hc, wb224_29 hc, wb224_30 hc, wb224_35 hc, wb224_38 hc, wb224_40 hc, wb224_51 hc, wb224_58 hc, wb224_65 hc, wb224_71 hc, wb224_75 hc, wb224_83 hc, wb224_86 hc, wb224_91 hc, wb224_99 hc, wb224_102 hc, wb224_110 hc, w0, w1, w2, w99, rI_wI, rP_wI, rL_wI, rI_wR, rP_wR, is_wI, is_wR, ia_wI, ia_wR, ow_wI, ow_wR, wn_add, wn_mul, wn_cl, wn_le, wn_lt, wn_inj, wn_ne1, wn_1ne, wn_gt1, wn_le1, nb0, nb1, am_kt, am_rt, List.cons_append, List.nil_append, true_and, and_true, not_true_eq_false, not_false_eq_true, imp_f, imp_t, implies_true, Nat.zero_add, if_true, if_false, false_and, and_false, fM hsh, fE2 hT, ia338 hsh, e6, b01, if_true, Bool.false_eq_true, ct214 hsh hT, ct215 hsh hT, ct220, ct153c, ct153v, ct152n hsh e0, vin2_f hx1, ct152y (c := 1) (r := 1) (by decide) (by decide) (by decide) hsh e0]
    rw [← hP]; exact OR_8 hR k0
theorem ct116_l {b1 : Nat} {R : Int32} {post : am_O → am_G → Prop} (hv : vS9 (dB (vδ V)) (dH (vδ V)) (vσ V)) (hb : b1 < 7)
    (k : ∀ G', Kp (sc 102) G G' → post (.inl (some (.int R))) G') : ∀ (f j : Nat) (G1 : am_G), f + j = 100 → slp (vσ V) b1 f j = R → Sh G1 → rS G1 102 (sPs j (vσ V)) → Kp (sc 102) G G1 →
    am_W (am_C am_T (d + 11)) am_116 post 21 [some (.ref 0), some (.int (wn b1)), some (.int (wn j))] [] G1 := by
  have hc := am_C_one am_T (d + 11)
  intro f
  induction f with
  | zero =>
    intro j G1 hf e h1 r1 k1
    have c1 : 99 < j := by omega
    rw [← e] at k
    rw [wb116_21 hc]
    simp +decide (disch := omega) only [↓wm1, wb116_53 hc, w0, w1, w99, rI_wI, rP_wI, rL_wI, rI_wR, rP_wR, is_wI, is_wR, ia_wI, ia_wR, ow_wI, ow_wR, wn_add, wn_mul, wn_cl, wn_le, wn_lt, wn_inj, wn_ne1, wn_1ne, wn_gt1, wn_le1, nb0, nb1, am_kt, am_rt, List.cons_append, List.nil_append, true_and, and_true, not_true_eq_false, not_false_eq_true, imp_f, imp_t, implies_true, Nat.zero_add, if_true, if_false, false_and, and_false, cn116, c1]
    exact k G1 k1
  | succ f ih =>
    intro j G1 hf e h1 r1 k1
    have c1 : ¬ 99 < j := by omega
    have vs := vS_sPs hv j (by omega)
    have tl := tIn_le vs.2.2.2.2.2.1 b1
    rw [wb116_21 hc]
    by_cases c2 : tIn (sPs j (vσ V)) b1 = 0
    · simp only [slp, c2, if_true] at e
      simp +decide (disch := omega) only [↓wm1, wb116_27 hc, wb116_35 hc, wb116_38 hc, w0, w1, w99, rI_wI, rP_wI, rL_wI, rI_wR, rP_wR, is_wI, is_wR, ia_wI, ia_wR, ow_wI, ow_wR, wn_add, wn_mul, wn_cl, wn_le, wn_lt, wn_inj, wn_ne1, wn_1ne, wn_gt1, wn_le1, nb0, nb1, am_kt, am_rt, List.cons_append, List.nil_append, true_and, and_true, not_true_eq_false, not_false_eq_true, imp_f, imp_t, implies_true, Nat.zero_add, if_true, if_false, false_and, and_false, cn116, fC h1, c1, ct57i h1 h102 r1 hb, c2]
      rw [← e] at k
      exact k G1 k1
    · simp only [slp, c2, if_false] at e
      simp +decide (disch := omega) only [↓wm1, wb116_27 hc, wb116_35 hc, wb116_40 hc, w0, w1, w99, rI_wI, rP_wI, rL_wI, rI_wR, rP_wR, is_wI, is_wR, ia_wI, ia_wR, ow_wI, ow_wR, wn_add, wn_mul, wn_cl, wn_le, wn_lt, wn_inj, wn_ne1, wn_1ne, wn_gt1, wn_le1, nb0, nb1, am_kt, am_rt, List.cons_append, List.nil_append, true_and, and_true, not_true_eq_false, not_false_eq_true, imp_f, imp_t, implies_true, Nat.zero_add, if_true, if_false, false_and, and_false, cn116, fC h1, c1, ct57i h1 h102 r1 hb, c2]
      refine ct55 h1 h102 r1 vs.2.2.2.2.2.1 (fun G3 r3 k3 => ?_)
      simp +decide (disch := omega) only [↓wm1, wb116_47 hc, w0, w1, w99, rI_wI, rP_wI, rL_wI, rI_wR, rP_wR, is_wI, is_wR, ia_wI, ia_wR, ow_wI, ow_wR, wn_add, wn_mul, wn_cl, wn_le, wn_lt, wn_inj, wn_ne1, wn_1ne, wn_gt1, wn_le1, nb0, nb1, am_kt, am_rt, List.cons_append, List.nil_append, true_and, and_true, not_true_eq_false, not_false_eq_true, imp_f, imp_t, implies_true, Nat.zero_add, if_true, if_false, false_and, and_false, cn116]
      exact ih (j + 1) G3 (by omega) e (h1.kp k3) r3 (k1.trans k3)
theorem ct225_l {b1 : Nat} {R : Int32} {post : am_O → am_G → Prop} (hv : vS9 (dB (vδ V)) (dH (vδ V)) (vσ V)) (hb : b1 < 7)
    (k : ∀ G', Kp (fun a _ => a = 809) G G' → post (.inl (some (.int R))) G') : ∀ (f j : Nat) (G1 : am_G), f + j = 100 → slp (vσ V) b1 f j = R → Sh G1 → rW G1 809 0 (sPs j (vσ V)) → Kp (fun a _ => a = 809) G G1 →
    am_W (am_C am_T (d + 11)) am_225 post 42 [some (.ref 334), some (.int (wn b1)), some (.int (wn j))] [] G1 := by
  have hc := am_C_one am_T (d + 11)
  intro f
  induction f with
  | zero =>
    intro j G1 hf e h1 r1 k1
    have c1 : 99 < j := by omega
    rw [← e] at k
    rw [wb225_42 hc]
    simp +decide (disch := omega) only [↓wm1, wb225_75 hc, w0, w1, w99, rI_wI, rP_wI, rL_wI, rI_wR, rP_wR, is_wI, is_wR, ia_wI, ia_wR, ow_wI, ow_wR, wn_add, wn_mul, wn_cl, wn_le, wn_lt, wn_inj, wn_ne1, wn_1ne, wn_gt1, wn_le1, nb0, nb1, am_kt, am_rt, List.cons_append, List.nil_append, true_and, and_true, not_true_eq_false, not_false_eq_true, imp_f, imp_t, implies_true, Nat.zero_add, if_true, if_false, false_and, and_false, c1]
    exact k G1 k1
  | succ f ih =>
    intro j G1 hf e h1 r1 k1
    have c1 : ¬ 99 < j := by omega
    have vs := vS_sPs hv j (by omega)
    have tl := tIn_le vs.2.2.2.2.2.1 b1
    rw [wb225_42 hc]
    by_cases c2 : tIn (sPs j (vσ V)) b1 = 0
    · simp only [slp, c2, if_true] at e
      simp +decide (disch := omega) only [↓wm1, wb225_48 hc, wb225_57 hc, wb225_60 hc, w0, w1, w99, rI_wI, rP_wI, rL_wI, rI_wR, rP_wR, is_wI, is_wR, ia_wI, ia_wR, ow_wI, ow_wR, wn_add, wn_mul, wn_cl, wn_le, wn_lt, wn_inj, wn_ne1, wn_1ne, wn_gt1, wn_le1, nb0, nb1, am_kt, am_rt, List.cons_append, List.nil_append, true_and, and_true, not_true_eq_false, not_false_eq_true, imp_f, imp_t, implies_true, Nat.zero_add, if_true, if_false, false_and, and_false, fM h1, c1, ct207 h1 h809 r1 hb, c2]
      rw [← e] at k
      exact k G1 k1
    · simp only [slp, c2, if_false] at e
      simp +decide (disch := omega) only [↓wm1, wb225_48 hc, wb225_57 hc, wb225_62 hc, w0, w1, w99, rI_wI, rP_wI, rL_wI, rI_wR, rP_wR, is_wI, is_wR, ia_wI, ia_wR, ow_wI, ow_wR, wn_add, wn_mul, wn_cl, wn_le, wn_lt, wn_inj, wn_ne1, wn_1ne, wn_gt1, wn_le1, nb0, nb1, am_kt, am_rt, List.cons_append, List.nil_append, true_and, and_true, not_true_eq_false, not_false_eq_true, imp_f, imp_t, implies_true, Nat.zero_add, if_true, if_false, false_and, and_false, fM h1, c1, ct207 h1 h809 r1 hb, c2]
      refine ct201 h1 h809 r1 vs.2.2.2.2.2.1 (fun G3 r3 k3 => ?_)
      simp +decide (disch := omega) only [↓wm1, wb225_69 hc, w0, w1, w99, rI_wI, rP_wI, rL_wI, rI_wR, rP_wR, is_wI, is_wR, ia_wI, ia_wR, ow_wI, ow_wR, wn_add, wn_mul, wn_cl, wn_le, wn_lt, wn_inj, wn_ne1, wn_1ne, wn_gt1, wn_le1, nb0, nb1, am_kt, am_rt, List.cons_append, List.nil_append, true_and, and_true, not_true_eq_false, not_false_eq_true, imp_f, imp_t, implies_true, Nat.zero_add, if_true, if_false, false_and, and_false]
      exact ih (j + 1) G3 (by omega) e (h1.kp k3) r3 (k1.trans k3)
def sp_sleeps (V : Vt) (x1 : Int32) : Res := if vin2 x1 0 (dH (vδ V)) = true then .inl (slp (vσ V) (u x1) 100 0) else .inr 0
theorem cl_sleeps (hR : RepC G V) (hB : am_rm G 1 6) (x1 : Int32) : am_C am_T (d + 12) 116 [.ref 0, .int x1] G (OC G (rfV V (sp_sleeps V x1)) (sp_sleeps V x1)) := by
  have hc := am_C_one am_T (d + 11)
  have hsh := hR.1
  have hv := hR.2.1
  obtain ⟨q, l, hT, -, -⟩ := hR.2.2.2.1
  have hr := hR.2.2.2.2.1.1
  have vd := hv.2.2.2.1
  have bB := vd.1
  have bH := vd.2.1
  have bD := vd.2.2.1
  have hs9 := hv.2.2.2.2.2.1
  have hvs := hs9.1
  have hg := hvs.g6 bB
  have ht := hvs.t6 bB
  have hm := hvs.2.2.2.2.2.1
  have h9 := hs9.2
  have p6 : 2 ^ dB (vδ V) ≤ 64 := Nat.pow_le_pow_right (n := 2) (by decide) bB
  have e6 := bs1 (dB (vδ V)) (by omega)
  unfold sp_sleeps
  rw [we116]
  rcases vin2_or x1 0 (dH (vδ V)) (by omega) (by omega) with ⟨b1, hl1, hh1, rfl⟩ | hx1
  · rw [if_pos (vin2_t hl1 hh1 (by omega))]
    simp only [u_wn (show b1 < 2147483648 by omega)]
    generalize hP : OC G (rfV V (.inl (slp (vσ V) b1 100 0))) (.inl (slp (vσ V) b1 100 0)) = P
    simp +decide (disch := omega) only [↓wm1, wb116_0 hc, wb116_5 hc, wb116_19 hc, wb116_27 hc, wb116_35 hc, wb116_38 hc, wb116_40 hc, wb116_47 hc, wb116_53 hc, w0, w1, w99, rI_wI, rP_wI, rL_wI, rI_wR, rP_wR, is_wI, is_wR, ia_wI, ia_wR, ow_wI, ow_wR, wn_add, wn_mul, wn_cl, wn_le, wn_lt, wn_inj, wn_ne1, wn_1ne, wn_gt1, wn_le1, nb0, nb1, am_kt, am_rt, List.cons_append, List.nil_append, true_and, and_true, not_true_eq_false, not_false_eq_true, imp_f, imp_t, implies_true, Nat.zero_add, if_true, if_false, false_and, and_false, cn116, fC hsh, fW2 hsh hT, fD hsh hT.2.2.1, e6, ct142y hsh hT hh1, fS hsh h32]
    refine ct47 hsh h102 h32 (by omega) hr (fun G1 r1 k1 => ?_)
    simp +decide (disch := omega) only [↓wm1, wb116_19 hc, w0, w1, w99, rI_wI, rP_wI, rL_wI, rI_wR, rP_wR, is_wI, is_wR, ia_wI, ia_wR, ow_wI, ow_wR, wn_add, wn_mul, wn_cl, wn_le, wn_lt, wn_inj, wn_ne1, wn_1ne, wn_gt1, wn_le1, nb0, nb1, am_kt, am_rt, List.cons_append, List.nil_append, true_and, and_true, not_true_eq_false, not_false_eq_true, imp_f, imp_t, implies_true, Nat.zero_add, if_true, if_false, false_and, and_false, cn116]
    refine ct116_l (G := G) (V := V) (R := slp (vσ V) b1 100 0) hs9 (by omega) (fun G2 k2 => ?_) 100 0 G1 rfl rfl (hsh.kp k1) r1 k1
    rw [← hP]; exact OC_ok hR (sc102 k2)
  · rw [if_neg (vin2_nf hx1)]
    generalize hP : OC G (rfV V (.inr 0)) (.inr 0) = P
    simp +decide (disch := omega) only [↓wm1, wb116_0 hc, wb116_5 hc, wb116_19 hc, wb116_27 hc, wb116_35 hc, wb116_38 hc, wb116_40 hc, wb116_47 hc, wb116_53 hc, w0, w1, w99, rI_wI, rP_wI, rL_wI, rI_wR, rP_wR, is_wI, is_wR, ia_wI, ia_wR, ow_wI, ow_wR, wn_add, wn_mul, wn_cl, wn_le, wn_lt, wn_inj, wn_ne1, wn_1ne, wn_gt1, wn_le1, nb0, nb1, am_kt, am_rt, List.cons_append, List.nil_append, true_and, and_true, not_true_eq_false, not_false_eq_true, imp_f, imp_t, implies_true, Nat.zero_add, if_true, if_false, false_and, and_false, cn116, fC hsh, fW2 hsh hT, fD hsh hT.2.2.1, e6, ct142n hx1 hsh hT hB]
    rw [← hP]; exact OC_7 hR hB
theorem rf_sleeps (hR : RepR G V) (x1 : Int32) : am_C am_T (d + 12) 225 [.ref 334, .int x1] G (OR G (rfV V (sp_sleeps V x1)) 1 (sp_sleeps V x1)) := by
  have hc := am_C_one am_T (d + 11)
  have k0 : Kp QSR G (am_wI G 334 0 (wn 0)) := (Kp.refl G).wI (Or.inl ⟨rfl, Or.inl rfl⟩) _
  have e0 : am_gI (am_wI G 334 0 (wn 0)) 334 0 = wn 0 := by rw [rI_wI, if_pos ⟨rfl, rfl⟩]
  have hR0 := hR.q k0
  have hshG := hR.1
  unfold sp_sleeps
  rw [we225]
  generalize hOR : OR G = OG
  simp +decide (disch := omega) only [↓wm1, wb225_0 hc, w0, w1, w99, rI_wI, rP_wI, rL_wI, rI_wR, rP_wR, is_wI, is_wR, ia_wI, ia_wR, ow_wI, ow_wR, wn_add, wn_mul, wn_cl, wn_le, wn_lt, wn_inj, wn_ne1, wn_1ne, wn_gt1, wn_le1, nb0, nb1, am_kt, am_rt, List.cons_append, List.nil_append, true_and, and_true, not_true_eq_false, not_false_eq_true, imp_f, imp_t, implies_true, Nat.zero_add, if_true, if_false, false_and, and_false, fM hshG, fE2 hR.2.2.2.1, ia338 hshG]
  generalize am_wI G 334 0 (wn 0) = G0 at k0 e0 hR0 ⊢
  subst hOR
  have hsh := hR0.1
  have hv := hR0.2.1
  have hT := hR0.2.2.2.1
  have hr := hR0.2.2.2.2.1.1
  have vd := hv.2.2.2.1
  have bB := vd.1
  have bH := vd.2.1
  have bD := vd.2.2.1
  have hs9 := hv.2.2.2.2.2.1
  have hvs := hs9.1
  have hg := hvs.g6 bB
  have ht := hvs.t6 bB
  have hm := hvs.2.2.2.2.2.1
  have h9 := hs9.2
  have p6 : 2 ^ dB (vδ V) ≤ 64 := Nat.pow_le_pow_right (n := 2) (by decide) bB
  have e6 := bs1 (dB (vδ V)) (by omega)
  rcases vin2_or x1 0 (dH (vδ V)) (by omega) (by omega) with ⟨b1, hl1, hh1, rfl⟩ | hx1
  · rw [if_pos (vin2_t hl1 hh1 (by omega))]
    simp only [u_wn (show b1 < 2147483648 by omega)]
    generalize hP : OR G (rfV V (.inl (slp (vσ V) b1 100 0))) 1 (.inl (slp (vσ V) b1 100 0)) = P
    simp +decide (disch := omega) only [↓wm1, wb225_0 hc, wb225_11 hc, wb225_14 hc, wb225_18 hc, wb225_19 hc, wb225_24 hc, wb225_27 hc, wb225_29 hc, wb225_40 hc, wb225_48 hc, wb225_57 hc, wb225_60 hc, wb225_62 hc, wb225_69 hc, wb225_75 hc, w0, w1, w99, rI_wI, rP_wI, rL_wI, rI_wR, rP_wR, is_wI, is_wR, ia_wI, ia_wR, ow_wI, ow_wR, wn_add, wn_mul, wn_cl, wn_le, wn_lt, wn_inj, wn_ne1, wn_1ne, wn_gt1, wn_le1, nb0, nb1, am_kt, am_rt, List.cons_append, List.nil_append, true_and, and_true, not_true_eq_false, not_false_eq_true, imp_f, imp_t, implies_true, Nat.zero_add, if_true, if_false, false_and, and_false, fM hsh, fE2 hT, ia338 hsh, e6, b01, if_true, Bool.false_eq_true, ct214 hsh hT, ct215 hsh hT, ct220, ct153c, ct153v, ct152n hsh e0, vin2_t hl1 hh1 (by omega)]
    refine ct178 hsh h808 h809 (by decide) (fun G1 r1 k1 => ?_)
    simp +decide (disch := omega) only [↓wm1, wb225_40 hc, w0, w1, w99, rI_wI, rP_wI, rL_wI, rI_wR, rP_wR, is_wI, is_wR, ia_wI, ia_wR, ow_wI, ow_wR, wn_add, wn_mul, wn_cl, wn_le, wn_lt, wn_inj, wn_ne1, wn_1ne, wn_gt1, wn_le1, nb0, nb1, am_kt, am_rt, List.cons_append, List.nil_append, true_and, and_true, not_true_eq_false, not_false_eq_true, imp_f, imp_t, implies_true, Nat.zero_add, if_true, if_false, false_and, and_false]
    refine ct225_l (G := G0) (V := V) (R := slp (vσ V) b1 100 0) hs9 (by omega) (fun G2 k2 => ?_) 100 0 G1 rfl rfl (hsh.kp k1) (hr.cp r1) k1
    rw [← hP]; exact OR_ok hR (k0.trans (r809 k2)) (k2.thr (by decide) e0)
  · rw [if_neg (vin2_nf hx1)]
    generalize hP : OR G (rfV V (.inr 0)) 1 (.inr 0) = P
    simp +decide (disch := omega) only [↓wm1, wb225_0 hc, wb225_11 hc, wb225_14 hc, wb225_18 hc, wb225_19 hc, wb225_24 hc, wb225_27 hc, wb225_29 hc, wb225_40 hc, wb225_48 hc, wb225_57 hc, wb225_60 hc, wb225_62 hc, wb225_69 hc, wb225_75 hc, w0, w1, w99, rI_wI, rP_wI, rL_wI, rI_wR, rP_wR, is_wI, is_wR, ia_wI, ia_wR, ow_wI, ow_wR, wn_add, wn_mul, wn_cl, wn_le, wn_lt, wn_inj, wn_ne1, wn_1ne, wn_gt1, wn_le1, nb0, nb1, am_kt, am_rt, List.cons_append, List.nil_append, true_and, and_true, not_true_eq_false, not_false_eq_true, imp_f, imp_t, implies_true, Nat.zero_add, if_true, if_false, false_and, and_false, fM hsh, fE2 hT, ia338 hsh, e6, b01, if_true, Bool.false_eq_true, ct214 hsh hT, ct215 hsh hT, ct220, ct153c, ct153v, ct152n hsh e0, vin2_f hx1, ct152y (c := 1) (r := 0) (by decide) (by decide) (by decide) hsh e0]
    rw [← hP]; exact OR_7 hR k0
end
