/-! Centuries: both sides' drawing. -/
def CN : Nat → Nat → Prop := fun a _ => (a = 22 ∨ a = 25 ∨ a = 26) ∨ (119 ≤ a ∧ a < 124)
theorem CI.cn {G G' : am_G} {q l : Nat} {δ : Dt} {Λ : List Tok} {σ : St} (h : CI G q l δ Λ σ) (k : Kp CN G G') : CI G' q l δ Λ σ :=
  ⟨h.1.kp k, h.2.1.kp k (by intro a i z; unfold CN at z; omega), h.2.2.kp k (by intro a i z1 z2 z; unfold CN at z; omega)⟩
theorem CN_q {G G' : am_G} (k : Kp CN G G') : Kp QSC G G' := k.mono (fun a i z => by unfold CN at z; unfold QSC; omega)
def MC : Nat → Nat → Prop := fun a i => (a = 725 ∨ a = 726) ∨ a = 809 ∨ (a = 334 ∧ i = 48)
theorem RI.mc {G G' : am_G} {δ : Dt} {Λ : List Tok} {σ : St} (h : RI G δ Λ σ) (k : Kp MC G G') : RI G' δ Λ σ :=
  ⟨h.1.kp k, h.2.1.kp k (by intro a i z; unfold MC at z; exact ⟨by omega, by omega⟩), h.2.2.kp k (by intro i z; unfold MC at z; omega)⟩
theorem MC_q {G G' : am_G} (k : Kp MC G G') : Kp QSR G G' := k.mono (fun a i z => by unfold MC at z; unfold QSR; omega)
/-- a century under way, by the object, by the reference -/
def CC (G : am_G) (x : Ct) : Prop := rS G 120 x.1 ∧ am_gI G 119 1 = x.2.1 ∧ am_gI G 119 2 = wn x.2.2
def CM (G : am_G) (x : Ct) : Prop := rW G 809 0 x.1 ∧ am_gI G 334 48 = x.2.1
section
variable {G : am_G} {d q l : Nat} {δ : Dt} {Λ : List Tok} {σ : St} {post : am_O → am_G → Prop}
theorem ct3 {n r : Nat} {s s1 : Int32} (hsh : Sh G) (hs : am_gI G 119 1 = s) (e1 : nxt s = s1) (er : dv s1 % n = r) (h1 : 1 ≤ n) (hn : n < 100) : am_C am_T (d + 1) 3 [.ref 119, .int (wn n)] G post ↔ post (.inl (some (.int (wn r)))) (am_wI G 119 1 s1) := by
  have hc := am_C_one am_T d
  rw [nxt_eq] at e1
  subst e1 er
  have e := dr_c (s * 1103515245 + wn 12345)
  have hl := dv_lt (s * 1103515245 + wn 12345)
  have c0 : ¬ n = 0 := by omega
  rw [we3]
  simp +decide (disch := omega) only [↓wm1, wb3_0 hc, wb3_20 hc, wb3_24 hc, wb3_37 hc, w0, w1, w16, w12345, w32767, rI_wI, rP_wI, rL_wI, rI_wR, rP_wR, is_wI, is_wR, ia_wI, ia_wR, ow_wI, ow_wR, wn_add, wn_mul, wn_cl, wn_le, wn_lt, wn_inj, wn_ne1, wn_1ne, wn_gt1, wn_le1, nb0, nb1, am_kt, am_rt, List.cons_append, List.nil_append, true_and, and_true, not_true_eq_false, not_false_eq_true, imp_f, imp_t, implies_true, Nat.zero_add, if_true, if_false, false_and, and_false, fC hsh, hs, h1, c0, e, wn_rem]
theorem ct258 {n r : Nat} {s s1 : Int32} (hsh : Sh G) (hs : am_gI G 334 48 = s) (e1 : nxt s = s1) (er : dv s1 % n = r) (h1 : 1 ≤ n) (hn : n < 100) : am_C am_T (d + 1) 258 [.ref 334, .int (wn n)] G post ↔ post (.inl (some (.int (wn r)))) (am_wI G 334 48 s1) := by
  have hc := am_C_one am_T d
  rw [nxt_eq] at e1
  subst e1 er
  have e := dr_m (s * 1103515245 + wn 12345)
  have hl := dv_lt (s * 1103515245 + wn 12345)
  have c0 : ¬ n = 0 := by omega
  rw [we258]
  simp +decide (disch := omega) only [↓wm1, wb258_0 hc, w0, w1, w16, w12345, w32767, rI_wI, rP_wI, rL_wI, rI_wR, rP_wR, is_wI, is_wR, ia_wI, ia_wR, ow_wI, ow_wR, wn_add, wn_mul, wn_cl, wn_le, wn_lt, wn_inj, wn_ne1, wn_1ne, wn_gt1, wn_le1, nb0, nb1, am_kt, am_rt, List.cons_append, List.nil_append, true_and, and_true, not_true_eq_false, not_false_eq_true, imp_f, imp_t, implies_true, Nat.zero_add, if_true, if_false, false_and, and_false, fM hsh, hs, c0, e, wn_rem]
theorem CC.seed {G : am_G} {x : Ct} (h : rS G 120 x.1) (e2 : am_gI G 119 2 = wn x.2.2) (s : Int32) : CC (am_wI G 119 1 s) (x.1, s, x.2.2) := by
  refine ⟨h.kp (Sc := fun a _ => a = 119) ((Kp.refl G).wI (by exact rfl) _) (by intro a i z1 z2 z; omega), ?_, ?_⟩
  · rw [rI_wI, if_pos ⟨rfl, rfl⟩]
  · rw [rI_wI, if_neg (by omega)]; exact e2
theorem ct2 {x : Ct} {Q : Nat} (hI : CI G q l δ Λ σ) (hx : CC G x) (hv : vS (dB δ) (dH δ) x.1) (h0 : dB δ ≠ 0) (hQ : Q ≤ 16) (k : ∀ G', CI G' q l δ Λ σ → CC G' (cdr δ Λ Q x) → Kp CN G G' → post (.inl none) G') : am_C am_T (d + 7) 2 [.ref 119, .ref 3, .int (wn Q)] G post := by
  have hc := am_C_one am_T (d + 6)
  have b6 := hI.2.1.2.2.2.2.2.1.1
  obtain ⟨s1, e1⟩ : ∃ s, nxt x.2.1 = s := ⟨_, rfl⟩
  obtain ⟨s2, e2⟩ : ∃ s, nxt s1 = s := ⟨_, rfl⟩
  obtain ⟨s3, e3⟩ : ∃ s, nxt s2 = s := ⟨_, rfl⟩
  obtain ⟨s4, e4⟩ : ∃ s, nxt s3 = s := ⟨_, rfl⟩
  obtain ⟨b, eb⟩ : ∃ b, dv s1 % dB δ = b := ⟨_, rfl⟩
  obtain ⟨r2, er2⟩ : ∃ b, dv s2 % 16 = b := ⟨_, rfl⟩
  obtain ⟨r3, er3⟩ : ∃ b, dv s3 % 16 = b := ⟨_, rfl⟩
  obtain ⟨r4, er4⟩ : ∃ b, dv s4 % 10 = b := ⟨_, rfl⟩
  have hb : b < dB δ := by rw [← eb]; exact Nat.mod_lt _ (by omega)
  have hr4 : r4 ≤ 9 := by rw [← er4]; have := Nat.mod_lt (dv s4) (show 0 < 10 by decide); omega
  have hr2 : r2 < 16 := by rw [← er2]; exact Nat.mod_lt _ (by decide)
  have hr3 : r3 < 16 := by rw [← er3]; exact Nat.mod_lt _ (by decide)
  rw [cdr_eq e1 e2 e3 e4 eb er2 er3 er4] at k
  have v2 := vS_pull (Λ := Λ) hv hb
  have t2 := v2.t6 b6
  have st01 := stP_01 δ Λ x.1 b
  rw [we2]
  simp +decide (disch := omega) only [↓wm1, wb2_0 hc, w0, w1, w10, w16, rI_wI, rP_wI, rL_wI, rI_wR, rP_wR, is_wI, is_wR, ia_wI, ia_wR, ow_wI, ow_wR, wn_add, wn_mul, wn_cl, wn_le, wn_lt, wn_inj, wn_ne1, wn_1ne, wn_gt1, wn_le1, nb0, nb1, am_kt, am_rt, List.cons_append, List.nil_append, true_and, and_true, not_true_eq_false, not_false_eq_true, imp_f, imp_t, implies_true, Nat.zero_add, if_true, if_false, false_and, and_false, fC hI.1, fW2 hI.1 hI.2.1, fD hI.1 hI.2.1.2.2.1, ct3 hI.1 hx.2.1 e1 eb (show 1 ≤ dB δ by omega) (show dB δ < 100 by omega)]
  have k1 : Kp CN G (am_wI G 119 1 s1) := (Kp.refl G).wI (Or.inr ⟨by omega, by omega⟩) _
  have i1 := hI.cn k1
  have x1 := CC.seed hx.1 hx.2.2 s1
  generalize am_wI G 119 1 s1 = G1 at k1 i1 x1 ⊢
  simp +decide (disch := omega) only [↓wm1, wb2_11 hc, w0, w1, w10, w16, rI_wI, rP_wI, rL_wI, rI_wR, rP_wR, is_wI, is_wR, ia_wI, ia_wR, ow_wI, ow_wR, wn_add, wn_mul, wn_cl, wn_le, wn_lt, wn_inj, wn_ne1, wn_1ne, wn_gt1, wn_le1, nb0, nb1, am_kt, am_rt, List.cons_append, List.nil_append, true_and, and_true, not_true_eq_false, not_false_eq_true, imp_f, imp_t, implies_true, Nat.zero_add, if_true, if_false, false_and, and_false, fC i1.1]
  refine ct85 i1.1 i1.2.1 h120 x1.1 hb hv (fun G2 y2 k2 => ?_)
  have k2' : Kp CN G1 G2 := k2.mono (fun a i z => by unfold PS at z; unfold CN; omega)
  have i2 := i1.cn k2'
  have f1 : am_gI G2 119 1 = s1 := by rw [k2.i (by unfold PS; omega)]; exact x1.2.1
  have f2 : am_gI G2 119 2 = wn x.2.2 := by rw [k2.i (by unfold PS; omega)]; exact x1.2.2
  have kk2 := k1.trans k2'
  clear x1 k2
  generalize stPull δ Λ x.1 b = y at *
  -- behind the pull
  have tail : ∀ G3, CI G3 q l δ Λ σ → CC G3 (y.2, s1, x.2.2 + y.1) → Kp CN G G3 → am_W (am_C am_T (d + 6)) am_2 post 34 [some (.ref 119), none, some (.int (wn Q)), some (.int (wn b))] [] G3 := by
    intro G3 i3 x3 k3
    -- behind the stealing
    have tail2 : ∀ G4 (o3 : Option Value), CI G4 q l δ Λ σ → CC G4 (cd2 Q y.2 b r2, s2, x.2.2 + y.1) → Kp CN G G4 → am_W (am_C am_T (d + 6)) am_2 post 64 [some (.ref 119), none, some (.int (wn Q)), o3] [] G4 := by
      intro G4 o3 i4 x4 k4
      have vs2 := (cd2_ok (q := Q) (r := r2) b6 v2 hb).1
      generalize cd2 Q y.2 b r2 = σ2 at *
      have k5 : Kp CN G4 (am_wI G4 119 1 s3) := (Kp.refl G4).wI (Or.inr ⟨by omega, by omega⟩) _
      have i5 := i4.cn k5
      have x5 := CC.seed (x := (σ2, s2, x.2.2 + y.1)) x4.1 x4.2.2 s3
      unfold cd3 at k
      by_cases c2 : r3 < Q
      · have c3 : ¬ Q ≤ r3 := by omega
        simp only [if_pos c2] at k
        simp +decide (disch := omega) only [↓wm1, wb2_64 hc, wb2_70 hc, w0, w1, w10, w16, rI_wI, rP_wI, rL_wI, rI_wR, rP_wR, is_wI, is_wR, ia_wI, ia_wR, ow_wI, ow_wR, wn_add, wn_mul, wn_cl, wn_le, wn_lt, wn_inj, wn_ne1, wn_1ne, wn_gt1, wn_le1, nb0, nb1, am_kt, am_rt, List.cons_append, List.nil_append, true_and, and_true, not_true_eq_false, not_false_eq_true, imp_f, imp_t, implies_true, Nat.zero_add, if_true, if_false, false_and, and_false, fC i4.1, ct3 i4.1 x4.2.1 e3 er3 (show 1 ≤ 16 by decide) (show 16 < 100 by decide), c3]
        generalize am_wI G4 119 1 s3 = G5 at k5 i5 x5 ⊢
        simp +decide (disch := omega) only [↓wm1, wb2_74 hc, w0, w1, w10, w16, rI_wI, rP_wI, rL_wI, rI_wR, rP_wR, is_wI, is_wR, ia_wI, ia_wR, ow_wI, ow_wR, wn_add, wn_mul, wn_cl, wn_le, wn_lt, wn_inj, wn_ne1, wn_1ne, wn_gt1, wn_le1, nb0, nb1, am_kt, am_rt, List.cons_append, List.nil_append, true_and, and_true, not_true_eq_false, not_false_eq_true, imp_f, imp_t, implies_true, Nat.zero_add, if_true, if_false, false_and, and_false, fC i5.1, ct3 i5.1 x5.2.1 e4 er4 (show 1 ≤ 10 by decide) (show 10 < 100 by decide)]
        have k6 : Kp CN G5 (am_wI G5 119 1 s4) := (Kp.refl _).wI (Or.inr ⟨by omega, by omega⟩) _
        have i6 := i5.cn k6
        have x6 := CC.seed (x := (σ2, s3, x.2.2 + y.1)) x5.1 x5.2.2 s4
        generalize am_wI G5 119 1 s4 = G6 at k6 i6 x6 ⊢
        simp +decide (disch := omega) only [↓wm1, wb2_84 hc, w0, w1, w10, w16, rI_wI, rP_wI, rL_wI, rI_wR, rP_wR, is_wI, is_wR, ia_wI, ia_wR, ow_wI, ow_wR, wn_add, wn_mul, wn_cl, wn_le, wn_lt, wn_inj, wn_ne1, wn_1ne, wn_gt1, wn_le1, nb0, nb1, am_kt, am_rt, List.cons_append, List.nil_append, true_and, and_true, not_true_eq_false, not_false_eq_true, imp_f, imp_t, implies_true, Nat.zero_add, if_true, if_false, false_and, and_false, fC i6.1]
        refine ct54 i6.1 h120 x6.1 vs2.2.1 hr4 (fun G7 r7 k7 => ?_)
        simp +decide (disch := omega) only [↓wm1, wb2_87 hc, wb2_88 hc, w0, w1, w10, w16, rI_wI, rP_wI, rL_wI, rI_wR, rP_wR, is_wI, is_wR, ia_wI, ia_wR, ow_wI, ow_wR, wn_add, wn_mul, wn_cl, wn_le, wn_lt, wn_inj, wn_ne1, wn_1ne, wn_gt1, wn_le1, nb0, nb1, am_kt, am_rt, List.cons_append, List.nil_append, true_and, and_true, not_true_eq_false, not_false_eq_true, imp_f, imp_t, implies_true, Nat.zero_add, if_true, if_false, false_and, and_false]
        have k7' : Kp CN G6 G7 := k7.mono (fun a i z => by unfold sc at z; unfold CN; omega)
        rw [stDamp_eq] at r7
        refine k G7 (i6.cn k7') ⟨r7, ?_, ?_⟩ (((k4.trans k5).trans k6).trans k7')
        · rw [k7.i (by unfold sc; omega)]; exact x6.2.1
        · rw [k7.i (by unfold sc; omega)]; exact x6.2.2
      · have c3 : Q ≤ r3 := by omega
        simp only [if_neg c2] at k
        simp +decide (disch := omega) only [↓wm1, wb2_64 hc, wb2_70 hc, wb2_88 hc, w0, w1, w10, w16, rI_wI, rP_wI, rL_wI, rI_wR, rP_wR, is_wI, is_wR, ia_wI, ia_wR, ow_wI, ow_wR, wn_add, wn_mul, wn_cl, wn_le, wn_lt, wn_inj, wn_ne1, wn_1ne, wn_gt1, wn_le1, nb0, nb1, am_kt, am_rt, List.cons_append, List.nil_append, true_and, and_true, not_true_eq_false, not_false_eq_true, imp_f, imp_t, implies_true, Nat.zero_add, if_true, if_false, false_and, and_false, fC i4.1, ct3 i4.1 x4.2.1 e3 er3 (show 1 ≤ 16 by decide) (show 16 < 100 by decide), c3]
        exact k _ i5 x5 (k4.trans k5)
    have k4 : Kp CN G3 (am_wI G3 119 1 s2) := (Kp.refl G3).wI (Or.inr ⟨by omega, by omega⟩) _
    have i4 := i3.cn k4
    have x4 := CC.seed (x := (y.2, s1, x.2.2 + y.1)) x3.1 x3.2.2 s2
    unfold cd2 at tail2
    by_cases c2 : r2 < Q
    · have c3 : ¬ Q ≤ r2 := by omega
      simp only [if_pos c2] at tail2
      simp +decide (disch := omega) only [↓wm1, wb2_34 hc, wb2_40 hc, w0, w1, w10, w16, rI_wI, rP_wI, rL_wI, rI_wR, rP_wR, is_wI, is_wR, ia_wI, ia_wR, ow_wI, ow_wR, wn_add, wn_mul, wn_cl, wn_le, wn_lt, wn_inj, wn_ne1, wn_1ne, wn_gt1, wn_le1, nb0, nb1, am_kt, am_rt, List.cons_append, List.nil_append, true_and, and_true, not_true_eq_false, not_false_eq_true, imp_f, imp_t, implies_true, Nat.zero_add, if_true, if_false, false_and, and_false, fC i3.1, ct3 i3.1 x3.2.1 e2 er2 (show 1 ≤ 16 by decide) (show 16 < 100 by decide), c3]
      generalize am_wI G3 119 1 s2 = G4 at k4 i4 x4 ⊢
      simp +decide (disch := omega) only [↓wm1, wb2_44 hc, w0, w1, w10, w16, rI_wI, rP_wI, rL_wI, rI_wR, rP_wR, is_wI, is_wR, ia_wI, ia_wR, ow_wI, ow_wR, wn_add, wn_mul, wn_cl, wn_le, wn_lt, wn_inj, wn_ne1, wn_1ne, wn_gt1, wn_le1, nb0, nb1, am_kt, am_rt, List.cons_append, List.nil_append, true_and, and_true, not_true_eq_false, not_false_eq_true, imp_f, imp_t, implies_true, Nat.zero_add, if_true, if_false, false_and, and_false, fC i4.1]
      refine ct52 i4.1 h120 x4.1 t2 (by omega) (fun G5 r5 k5 => ?_)
      have k5' : Kp CN G4 G5 := k5.mono (fun a i z => by unfold sc at z; unfold CN; omega)
      have i5 := i4.cn k5'
      have b01' := bt_01 (sT y.2) b
      have g1 : am_gI G5 119 1 = s2 := by rw [k5.i (by unfold sc; omega)]; exact x4.2.1
      have g2 : am_gI G5 119 2 = wn (x.2.2 + y.1) := by rw [k5.i (by unfold sc; omega)]; exact x4.2.2
      by_cases c4 : bt (sT y.2) b = 1
      · have es : stSteal y.2 b = (0, y.2) := by unfold stSteal; rw [if_pos c4]
        rw [es] at r5 ⊢
        simp +decide (disch := omega) only [↓wm1, wb2_52 hc, wb2_55 hc, w0, w1, w10, w16, rI_wI, rP_wI, rL_wI, rI_wR, rP_wR, is_wI, is_wR, ia_wI, ia_wR, ow_wI, ow_wR, wn_add, wn_mul, wn_cl, wn_le, wn_lt, wn_inj, wn_ne1, wn_1ne, wn_gt1, wn_le1, nb0, nb1, am_kt, am_rt, List.cons_append, List.nil_append, true_and, and_true, not_true_eq_false, not_false_eq_true, imp_f, imp_t, implies_true, Nat.zero_add, if_true, if_false, false_and, and_false, fC i5.1]
        refine ct53 i5.1 h120 r5 t2 (by omega) (fun G6 r6 k6 => ?_)
        have k6' : Kp CN G5 G6 := k6.mono (fun a i z => by unfold sc at z; unfold CN; omega)
        simp +decide (disch := omega) only [↓wm1, wb2_63 hc, w0, w1, w10, w16, rI_wI, rP_wI, rL_wI, rI_wR, rP_wR, is_wI, is_wR, ia_wI, ia_wR, ow_wI, ow_wR, wn_add, wn_mul, wn_cl, wn_le, wn_lt, wn_inj, wn_ne1, wn_1ne, wn_gt1, wn_le1, nb0, nb1, am_kt, am_rt, List.cons_append, List.nil_append, true_and, and_true, not_true_eq_false, not_false_eq_true, imp_f, imp_t, implies_true, Nat.zero_add, if_true, if_false, false_and, and_false]
        refine tail2 G6 none (i5.cn k6') ⟨?_, ?_, ?_⟩ (((k3.trans k4).trans k5').trans k6')
        · unfold tgl; rw [if_pos c4]; exact r6
        · rw [k6.i (by unfold sc; omega)]; exact g1
        · rw [k6.i (by unfold sc; omega)]; exact g2
      · have es : (stSteal y.2 b).1 = 1 := by unfold stSteal; rw [if_neg c4]
        rw [es]
        simp +decide (disch := omega) only [↓wm1, wb2_52 hc, w0, w1, w10, w16, rI_wI, rP_wI, rL_wI, rI_wR, rP_wR, is_wI, is_wR, ia_wI, ia_wR, ow_wI, ow_wR, wn_add, wn_mul, wn_cl, wn_le, wn_lt, wn_inj, wn_ne1, wn_1ne, wn_gt1, wn_le1, nb0, nb1, am_kt, am_rt, List.cons_append, List.nil_append, true_and, and_true, not_true_eq_false, not_false_eq_true, imp_f, imp_t, implies_true, Nat.zero_add, if_true, if_false, false_and, and_false]
        refine tail2 G5 _ i5 ⟨?_, g1, g2⟩ ((k3.trans k4).trans k5')
        unfold tgl; rw [if_neg c4]; exact r5
    · have c3 : Q ≤ r2 := by omega
      simp only [if_neg c2] at tail2
      simp +decide (disch := omega) only [↓wm1, wb2_34 hc, wb2_40 hc, w0, w1, w10, w16, rI_wI, rP_wI, rL_wI, rI_wR, rP_wR, is_wI, is_wR, ia_wI, ia_wR, ow_wI, ow_wR, wn_add, wn_mul, wn_cl, wn_le, wn_lt, wn_inj, wn_ne1, wn_1ne, wn_gt1, wn_le1, nb0, nb1, am_kt, am_rt, List.cons_append, List.nil_append, true_and, and_true, not_true_eq_false, not_false_eq_true, imp_f, imp_t, implies_true, Nat.zero_add, if_true, if_false, false_and, and_false, fC i3.1, ct3 i3.1 x3.2.1 e2 er2 (show 1 ≤ 16 by decide) (show 16 < 100 by decide), c3]
      exact tail2 _ _ i4 x4 (k3.trans k4)
  by_cases c1 : y.1 = 1
  · rw [c1] at tail ⊢
    simp +decide (disch := omega) only [↓wm1, wb2_21 hc, wb2_24 hc, w0, w1, w10, w16, rI_wI, rP_wI, rL_wI, rI_wR, rP_wR, is_wI, is_wR, ia_wI, ia_wR, ow_wI, ow_wR, wn_add, wn_mul, wn_cl, wn_le, wn_lt, wn_inj, wn_ne1, wn_1ne, wn_gt1, wn_le1, nb0, nb1, am_kt, am_rt, List.cons_append, List.nil_append, true_and, and_true, not_true_eq_false, not_false_eq_true, imp_f, imp_t, implies_true, Nat.zero_add, if_true, if_false, false_and, and_false, fC i2.1, f2]
    have k3 : Kp CN G2 (am_wI G2 119 2 (wn (x.2.2 + 1))) := (Kp.refl G2).wI (Or.inr ⟨by omega, by omega⟩) _
    refine tail _ (i2.cn k3) ⟨y2.kp (Sc := fun a _ => a = 119) ((Kp.refl G2).wI (by exact rfl) _) (by intro a i z1 z2 z; omega), ?_, ?_⟩ (kk2.trans k3)
    · rw [rI_wI, if_neg (by omega)]; exact f1
    · rw [rI_wI, if_pos ⟨rfl, rfl⟩]
  · have c0 : y.1 = 0 := by omega
    rw [c0] at tail ⊢
    simp +decide (disch := omega) only [↓wm1, wb2_21 hc, w0, w1, w10, w16, rI_wI, rP_wI, rL_wI, rI_wR, rP_wR, is_wI, is_wR, ia_wI, ia_wR, ow_wI, ow_wR, wn_add, wn_mul, wn_cl, wn_le, wn_lt, wn_inj, wn_ne1, wn_1ne, wn_gt1, wn_le1, nb0, nb1, am_kt, am_rt, List.cons_append, List.nil_append, true_and, and_true, not_true_eq_false, not_false_eq_true, imp_f, imp_t, implies_true, Nat.zero_add, if_true, if_false, false_and, and_false]
    exact tail G2 i2 ⟨y2, f1, f2⟩ kk2
theorem ct1 {s : Int32} {n Q : Nat} (hI : CI G q l δ Λ σ) (hv : vS9 (dB δ) (dH δ) σ) (hn : n ≤ 96) (hQ : Q ≤ 16) (k : ∀ G', CI G' q l δ Λ σ → CC G' (cen δ Λ Q n (σ, s, 0)) → Kp CN G G' → post (.inl none) G') : am_C am_T (d + 8) 1 [.ref 119, .ref 3, .ref 32, .int s, .int (wn n), .int (wn Q)] G post := by
  have hc := am_C_one am_T (d + 7)
  have b6 := hI.2.1.2.2.2.2.2.1.1
  rw [we1]
  simp +decide (disch := omega) only [↓wm1, wb1_0 hc, w0, w1, rI_wI, rP_wI, rL_wI, rI_wR, rP_wR, is_wI, is_wR, ia_wI, ia_wR, ow_wI, ow_wR, wn_add, wn_mul, wn_cl, wn_le, wn_lt, wn_inj, wn_ne1, wn_1ne, wn_gt1, wn_le1, nb0, nb1, am_kt, am_rt, List.cons_append, List.nil_append, true_and, and_true, not_true_eq_false, not_false_eq_true, imp_f, imp_t, implies_true, Nat.zero_add, if_true, if_false, false_and, and_false, fC hI.1]
  refine ct47 hI.1 h120 h32 (by omega) hI.2.2 (fun G1 r1 k1 => ?_)
  have k1' : Kp CN G G1 := k1.mono (fun a i z => by unfold sc at z; unfold CN; omega)
  have i1 := hI.cn k1'
  simp +decide (disch := omega) only [↓wm1, wb1_8 hc, w0, w1, rI_wI, rP_wI, rL_wI, rI_wR, rP_wR, is_wI, is_wR, ia_wI, ia_wR, ow_wI, ow_wR, wn_add, wn_mul, wn_cl, wn_le, wn_lt, wn_inj, wn_ne1, wn_1ne, wn_gt1, wn_le1, nb0, nb1, am_kt, am_rt, List.cons_append, List.nil_append, true_and, and_true, not_true_eq_false, not_false_eq_true, imp_f, imp_t, implies_true, Nat.zero_add, if_true, if_false, false_and, and_false, fC i1.1]
  have k2 : Kp CN G1 (am_wI (am_wI G1 119 1 s) 119 2 (wn 0)) := ((Kp.refl G1).wI (Or.inr ⟨by omega, by omega⟩) _).wI (Or.inr ⟨by omega, by omega⟩) _
  have k2' : Kp (fun a _ => a = 119) G1 (am_wI (am_wI G1 119 1 s) 119 2 (wn 0)) := ((Kp.refl G1).wI (by exact rfl) _).wI (by exact rfl) _
  refine am_for n (fun j ls G2 => CI G2 q l δ Λ σ ∧ CC G2 (cen δ Λ Q j (σ, s, 0)) ∧ Kp CN G G2 ∧ ∃ o3, ls = [some (.ref 119), some (.ref 3), none, o3, some (.int (wn n)), some (.int (wn Q)), some (.int (wn j))]) ?_ ?_ n 0 (by omega) _ _ ⟨i1.cn k2, ⟨r1.kp k2' (by intro a i z1 z2 z; omega), ?_, ?_⟩, k1'.trans k2, _, rfl⟩
  · rintro j hj _ G2 ⟨i2, x2, kk2, o3, rfl⟩ nx
    have c1 : ¬ n ≤ j := by omega
    have ok := cen_ok (Λ := Λ) (q := Q) (s := s) b6 hv j (by omega)
    rw [wb1_21 hc]
    by_cases c2 : dB δ = 0
    · have c3 : dB δ ≤ 0 := by omega
      simp +decide (disch := omega) only [↓wm1, wb1_28 hc, wb1_45 hc, w0, w1, rI_wI, rP_wI, rL_wI, rI_wR, rP_wR, is_wI, is_wR, ia_wI, ia_wR, ow_wI, ow_wR, wn_add, wn_mul, wn_cl, wn_le, wn_lt, wn_inj, wn_ne1, wn_1ne, wn_gt1, wn_le1, nb0, nb1, am_kt, am_rt, List.cons_append, List.nil_append, true_and, and_true, not_true_eq_false, not_false_eq_true, imp_f, imp_t, implies_true, Nat.zero_add, if_true, if_false, false_and, and_false, c1, fC i2.1, fW2 i2.1 i2.2.1, fD i2.1 i2.2.1.2.2.1, c3]
      refine ct55 i2.1 h120 x2.1 ok.1.2.2.2.2.2.1 (fun G3 r3 k3 => ?_)
      have k3' : Kp CN G2 G3 := k3.mono (fun a i z => by unfold sc at z; unfold CN; omega)
      simp +decide (disch := omega) only [↓wm1, wb1_52 hc, w0, w1, rI_wI, rP_wI, rL_wI, rI_wR, rP_wR, is_wI, is_wR, ia_wI, ia_wR, ow_wI, ow_wR, wn_add, wn_mul, wn_cl, wn_le, wn_lt, wn_inj, wn_ne1, wn_1ne, wn_gt1, wn_le1, nb0, nb1, am_kt, am_rt, List.cons_append, List.nil_append, true_and, and_true, not_true_eq_false, not_false_eq_true, imp_f, imp_t, implies_true, Nat.zero_add, if_true, if_false, false_and, and_false]
      refine nx _ _ ⟨i2.cn k3', ?_, kk2.trans k3', none, rfl⟩
      rw [cen_s]
      generalize cen δ Λ Q j (σ, s, 0) = y at x2 r3 ⊢
      obtain ⟨z1, z2, z3⟩ := chr_0 (Λ := Λ) (q := Q) (x := y) c2
      exact ⟨by rw [z1]; exact r3, by rw [k3.i (by unfold sc; omega), z2]; exact x2.2.1, by rw [k3.i (by unfold sc; omega), z3]; exact x2.2.2⟩
    · have c3 : ¬ dB δ ≤ 0 := by omega
      simp +decide (disch := omega) only [↓wm1, wb1_28 hc, wb1_38 hc, w0, w1, rI_wI, rP_wI, rL_wI, rI_wR, rP_wR, is_wI, is_wR, ia_wI, ia_wR, ow_wI, ow_wR, wn_add, wn_mul, wn_cl, wn_le, wn_lt, wn_inj, wn_ne1, wn_1ne, wn_gt1, wn_le1, nb0, nb1, am_kt, am_rt, List.cons_append, List.nil_append, true_and, and_true, not_true_eq_false, not_false_eq_true, imp_f, imp_t, implies_true, Nat.zero_add, if_true, if_false, false_and, and_false, c1, fC i2.1, fW2 i2.1 i2.2.1, fD i2.1 i2.2.1.2.2.1, c3]
      refine ct2 i2 x2 ok.1 c2 hQ (fun G3 i3 x3 k3 => ?_)
      have okd := cdr_ok (Λ := Λ) (q := Q) b6 c2 ok.1
      simp +decide (disch := omega) only [↓wm1, wb1_45 hc, w0, w1, rI_wI, rP_wI, rL_wI, rI_wR, rP_wR, is_wI, is_wR, ia_wI, ia_wR, ow_wI, ow_wR, wn_add, wn_mul, wn_cl, wn_le, wn_lt, wn_inj, wn_ne1, wn_1ne, wn_gt1, wn_le1, nb0, nb1, am_kt, am_rt, List.cons_append, List.nil_append, true_and, and_true, not_true_eq_false, not_false_eq_true, imp_f, imp_t, implies_true, Nat.zero_add, if_true, if_false, false_and, and_false, fC i3.1]
      refine ct55 i3.1 h120 x3.1 okd.1.2.2.2.2.2.1 (fun G4 r4 k4 => ?_)
      have k4' : Kp CN G3 G4 := k4.mono (fun a i z => by unfold sc at z; unfold CN; omega)
      simp +decide (disch := omega) only [↓wm1, wb1_52 hc, w0, w1, rI_wI, rP_wI, rL_wI, rI_wR, rP_wR, is_wI, is_wR, ia_wI, ia_wR, ow_wI, ow_wR, wn_add, wn_mul, wn_cl, wn_le, wn_lt, wn_inj, wn_ne1, wn_1ne, wn_gt1, wn_le1, nb0, nb1, am_kt, am_rt, List.cons_append, List.nil_append, true_and, and_true, not_true_eq_false, not_false_eq_true, imp_f, imp_t, implies_true, Nat.zero_add, if_true, if_false, false_and, and_false]
      refine nx _ _ ⟨i3.cn k4', ?_, (kk2.trans k3).trans k4', none, rfl⟩
      rw [cen_s]
      generalize cen δ Λ Q j (σ, s, 0) = y at x3 r4 ⊢
      obtain ⟨z1, z2, z3⟩ := chr_1 (Λ := Λ) (q := Q) (x := y) c2
      exact ⟨by rw [z1]; exact r4, by rw [k4.i (by unfold sc; omega), z2]; exact x3.2.1, by rw [k4.i (by unfold sc; omega), z3]; exact x3.2.2⟩
  · rintro _ G2 ⟨i2, x2, kk2, o3, rfl⟩
    rw [wb1_21 hc]
    simp +decide (disch := omega) only [↓wm1, wb1_58 hc, w0, w1, rI_wI, rP_wI, rL_wI, rI_wR, rP_wR, is_wI, is_wR, ia_wI, ia_wR, ow_wI, ow_wR, wn_add, wn_mul, wn_cl, wn_le, wn_lt, wn_inj, wn_ne1, wn_1ne, wn_gt1, wn_le1, nb0, nb1, am_kt, am_rt, List.cons_append, List.nil_append, true_and, and_true, not_true_eq_false, not_false_eq_true, imp_f, imp_t, implies_true, Nat.zero_add, if_true, if_false, false_and, and_false, Nat.le_refl]
    exact k G2 i2 x2 kk2
  · rw [rI_wI, if_neg (by omega), rI_wI, if_pos ⟨rfl, rfl⟩]; rfl
  · rw [rI_wI, if_pos ⟨rfl, rfl⟩]; rfl
/-! the reference -/
theorem CM.seed {G : am_G} {x : Ct} (h : rW G 809 0 x.1) (s : Int32) (n : Nat) : CM (am_wI G 334 48 s) (x.1, s, n) := by
  refine ⟨h.kp (Sc := fun a _ => a = 334) ((Kp.refl G).wI (by exact rfl) _) (by intro i z; omega), ?_⟩
  rw [rI_wI, if_pos ⟨rfl, rfl⟩]
theorem rW_tgl {b : Nat} {σ : St} (h : rW G 809 0 σ) (ht : sT σ < 64) (hb : b < 6) : rW (am_wI G 809 (12 + b) (wn (1 - bt (sT σ) b))) 809 0 (tgl σ b) := by
  have b1 := bt_01 (sT σ) b
  unfold tgl
  by_cases c : bt (sT σ) b = 1
  · rw [if_pos c]
    unfold stBring
    rw [if_pos c, c]
    exact h.w (ent_T σ 0 hb (bsub_b _ ht b hb c))
  · have c0 : bt (sT σ) b = 0 := by omega
    rw [if_neg c]
    unfold stSteal
    rw [if_neg c, c0]
    exact h.w (ent_T σ 1 hb (badd_b _ ht b hb c0))
theorem ct259_d {x : Ct} {Q : Nat} {x2 x4 : Int32} (hI : RI G δ Λ σ) (hx : CM G x) (hv : vS (dB δ) (dH δ) x.1) (h0 : dB δ ≠ 0) (hQ : Q ≤ 16) (k : ∀ G', RI G' δ Λ σ → CM G' (cdr δ Λ Q x) → Kp MC G G' → ∀ o5, am_W (am_C am_T (d + 9)) am_259 post 112 [some (.ref 334), none, some (.int x2), some (.int (wn Q)), some (.int x4), o5] [] G') :
    am_W (am_C am_T (d + 9)) am_259 post 34 [some (.ref 334), none, some (.int x2), some (.int (wn Q)), some (.int x4), none] [] G := by
  have hc := am_C_one am_T (d + 9)
  have b6 := hI.2.1.2.1.1
  obtain ⟨s1, e1⟩ : ∃ s, nxt x.2.1 = s := ⟨_, rfl⟩
  obtain ⟨s2, e2⟩ : ∃ s, nxt s1 = s := ⟨_, rfl⟩
  obtain ⟨s3, e3⟩ : ∃ s, nxt s2 = s := ⟨_, rfl⟩
  obtain ⟨s4, e4⟩ : ∃ s, nxt s3 = s := ⟨_, rfl⟩
  obtain ⟨b, eb⟩ : ∃ b, dv s1 % dB δ = b := ⟨_, rfl⟩
  obtain ⟨r2, er2⟩ : ∃ b, dv s2 % 16 = b := ⟨_, rfl⟩
  obtain ⟨r3, er3⟩ : ∃ b, dv s3 % 16 = b := ⟨_, rfl⟩
  obtain ⟨r4, er4⟩ : ∃ b, dv s4 % 10 = b := ⟨_, rfl⟩
  have hb : b < dB δ := by rw [← eb]; exact Nat.mod_lt _ (by omega)
  have hr4 : r4 ≤ 9 := by rw [← er4]; have := Nat.mod_lt (dv s4) (show 0 < 10 by decide); omega
  have hr2 : r2 < 16 := by rw [← er2]; exact Nat.mod_lt _ (by decide)
  have hr3 : r3 < 16 := by rw [← er3]; exact Nat.mod_lt _ (by decide)
  rw [cdr_eq e1 e2 e3 e4 eb er2 er3 er4] at k
  have v2 := vS_pull (Λ := Λ) hv hb
  have t2 := v2.t6 b6
  have st01 := stP_01 δ Λ x.1 b
  simp +decide (disch := omega) only [↓wm1, wb259_34 hc, w0, w1, w10, w12, w16, w94, rI_wI, rP_wI, rL_wI, rI_wR, rP_wR, is_wI, is_wR, ia_wI, ia_wR, ow_wI, ow_wR, wn_add, wn_mul, wn_cl, wn_le, wn_lt, wn_inj, wn_ne1, wn_1ne, wn_gt1, wn_le1, nb0, nb1, am_kt, am_rt, List.cons_append, List.nil_append, true_and, and_true, not_true_eq_false, not_false_eq_true, imp_f, imp_t, implies_true, Nat.zero_add, if_true, if_false, false_and, and_false, fM hI.1, fE2 hI.2.1, ia338 hI.1, ct258 hI.1 hx.2 e1 eb (show 1 ≤ dB δ by omega) (show dB δ < 100 by omega)]
  have k1 : Kp MC G (am_wI G 334 48 s1) := (Kp.refl G).wI (Or.inr (Or.inr ⟨rfl, rfl⟩)) _
  have i1 := hI.mc k1
  have x1 := CM.seed hx.1 s1 0
  generalize am_wI G 334 48 s1 = G1 at k1 i1 x1 ⊢
  simp +decide (disch := omega) only [↓wm1, wb259_44 hc, w0, w1, w10, w12, w16, w94, rI_wI, rP_wI, rL_wI, rI_wR, rP_wR, is_wI, is_wR, ia_wI, ia_wR, ow_wI, ow_wR, wn_add, wn_mul, wn_cl, wn_le, wn_lt, wn_inj, wn_ne1, wn_1ne, wn_gt1, wn_le1, nb0, nb1, am_kt, am_rt, List.cons_append, List.nil_append, true_and, and_true, not_true_eq_false, not_false_eq_true, imp_f, imp_t, implies_true, Nat.zero_add, if_true, if_false, false_and, and_false, fM i1.1]
  refine ct200 i1.1 i1.2.1 h809 x1.1 hb hv (fun G2 y2 k2 => ?_)
  have k2' : Kp MC G1 G2 := k2.mono (fun a i z => by unfold PM at z; unfold MC; omega)
  have i2 := i1.mc k2'
  have f1 : am_gI G2 334 48 = s1 := by rw [k2.i (by unfold PM; omega)]; exact x1.2
  have kk2 := k1.trans k2'
  clear x1 k2
  generalize stPull δ Λ x.1 b = y at *
  have tail2 : ∀ G4 (o5 : Option Value), RI G4 δ Λ σ → CM G4 (cd2 Q y.2 b r2, s2, 0) → Kp MC G G4 → am_W (am_C am_T (d + 9)) am_259 post 89 [some (.ref 334), none, some (.int x2), some (.int (wn Q)), some (.int x4), o5] [] G4 := by
    intro G4 o5 i4 x4' k4
    generalize cd2 Q y.2 b r2 = σ2 at *
    have k5 : Kp MC G4 (am_wI G4 334 48 s3) := (Kp.refl G4).wI (Or.inr (Or.inr ⟨rfl, rfl⟩)) _
    have i5 := i4.mc k5
    have x5 := CM.seed (x := (σ2, s2, 0)) x4'.1 s3 0
    unfold cd3 at k
    by_cases c2 : r3 < Q
    · have c3 : ¬ Q ≤ r3 := by omega
      simp only [if_pos c2] at k
      simp +decide (disch := omega) only [↓wm1, wb259_89 hc, wb259_95 hc, w0, w1, w10, w12, w16, w94, rI_wI, rP_wI, rL_wI, rI_wR, rP_wR, is_wI, is_wR, ia_wI, ia_wR, ow_wI, ow_wR, wn_add, wn_mul, wn_cl, wn_le, wn_lt, wn_inj, wn_ne1, wn_1ne, wn_gt1, wn_le1, nb0, nb1, am_kt, am_rt, List.cons_append, List.nil_append, true_and, and_true, not_true_eq_false, not_false_eq_true, imp_f, imp_t, implies_true, Nat.zero_add, if_true, if_false, false_and, and_false, fM i4.1, ct258 i4.1 x4'.2 e3 er3 (show 1 ≤ 16 by decide) (show 16 < 100 by decide), c3]
      generalize am_wI G4 334 48 s3 = G5 at k5 i5 x5 ⊢
      have k6 : Kp MC G5 (am_wI G5 334 48 s4) := (Kp.refl _).wI (Or.inr (Or.inr ⟨rfl, rfl⟩)) _
      have i6 := i5.mc k6
      have x6 := CM.seed (x := (σ2, s3, 0)) x5.1 s4 0
      simp +decide (disch := omega) only [↓wm1, wb259_99 hc, w0, w1, w10, w12, w16, w94, rI_wI, rP_wI, rL_wI, rI_wR, rP_wR, is_wI, is_wR, ia_wI, ia_wR, ow_wI, ow_wR, wn_add, wn_mul, wn_cl, wn_le, wn_lt, wn_inj, wn_ne1, wn_1ne, wn_gt1, wn_le1, nb0, nb1, am_kt, am_rt, List.cons_append, List.nil_append, true_and, and_true, not_true_eq_false, not_false_eq_true, imp_f, imp_t, implies_true, Nat.zero_add, if_true, if_false, false_and, and_false, fM i5.1, ct258 i5.1 x5.2 e4 er4 (show 1 ≤ 10 by decide) (show 10 < 100 by decide)]
      generalize am_wI G5 334 48 s4 = G6 at k6 i6 x6 ⊢
      simp +decide (disch := omega) only [↓wm1, wb259_111 hc, w0, w1, w10, w12, w16, w94, rI_wI, rP_wI, rL_wI, rI_wR, rP_wR, is_wI, is_wR, ia_wI, ia_wR, ow_wI, ow_wR, wn_add, wn_mul, wn_cl, wn_le, wn_lt, wn_inj, wn_ne1, wn_1ne, wn_gt1, wn_le1, nb0, nb1, am_kt, am_rt, List.cons_append, List.nil_append, true_and, and_true, not_true_eq_false, not_false_eq_true, imp_f, imp_t, implies_true, Nat.zero_add, if_true, if_false, false_and, and_false, fR i6.1 h809]
      have k7 : Kp MC G6 (am_wI G6 809 94 (wn r4)) := (Kp.refl _).wI (Or.inr (Or.inl rfl)) _
      refine k _ (i6.mc k7) ⟨x6.1.w (ent_D σ2 _), ?_⟩ (((k4.trans k5).trans k6).trans k7) _
      rw [rI_wI, if_neg (by omega)]; exact x6.2
    · have c3 : Q ≤ r3 := by omega
      simp only [if_neg c2] at k
      simp +decide (disch := omega) only [↓wm1, wb259_89 hc, wb259_95 hc, w0, w1, w10, w12, w16, w94, rI_wI, rP_wI, rL_wI, rI_wR, rP_wR, is_wI, is_wR, ia_wI, ia_wR, ow_wI, ow_wR, wn_add, wn_mul, wn_cl, wn_le, wn_lt, wn_inj, wn_ne1, wn_1ne, wn_gt1, wn_le1, nb0, nb1, am_kt, am_rt, List.cons_append, List.nil_append, true_and, and_true, not_true_eq_false, not_false_eq_true, imp_f, imp_t, implies_true, Nat.zero_add, if_true, if_false, false_and, and_false, fM i4.1, ct258 i4.1 x4'.2 e3 er3 (show 1 ≤ 16 by decide) (show 16 < 100 by decide), c3]
      exact k _ i5 x5 (k4.trans k5) _
  have k4 : Kp MC G2 (am_wI G2 334 48 s2) := (Kp.refl G2).wI (Or.inr (Or.inr ⟨rfl, rfl⟩)) _
  have i4 := i2.mc k4
  have x4' := CM.seed (x := (y.2, s1, 0)) y2 s2 0
  unfold cd2 at tail2
  by_cases c2 : r2 < Q
  · have c3 : ¬ Q ≤ r2 := by omega
    simp only [if_pos c2] at tail2
    simp +decide (disch := omega) only [↓wm1, wb259_56 hc, wb259_63 hc, w0, w1, w10, w12, w16, w94, rI_wI, rP_wI, rL_wI, rI_wR, rP_wR, is_wI, is_wR, ia_wI, ia_wR, ow_wI, ow_wR, wn_add, wn_mul, wn_cl, wn_le, wn_lt, wn_inj, wn_ne1, wn_1ne, wn_gt1, wn_le1, nb0, nb1, am_kt, am_rt, List.cons_append, List.nil_append, true_and, and_true, not_true_eq_false, not_false_eq_true, imp_f, imp_t, implies_true, Nat.zero_add, if_true, if_false, false_and, and_false, fM i2.1, ct258 i2.1 f1 e2 er2 (show 1 ≤ 16 by decide) (show 16 < 100 by decide), c3]
    generalize am_wI G2 334 48 s2 = G4 at k4 i4 x4' ⊢
    have bb := bt_01 (sT y.2) b
    have eT : am_gI G4 809 (12 + b) = wn (bt (sT y.2) b) := (fW x4'.1).2.2.1 b (by omega)
    have e1b : wn 1 - wn (bt (sT y.2) b) = wn (1 - bt (sT y.2) b) := wn_sub (by omega)
    simp +decide (disch := omega) only [↓wm1, wb259_67 hc, w0, w1, w10, w12, w16, w94, rI_wI, rP_wI, rL_wI, rI_wR, rP_wR, is_wI, is_wR, ia_wI, ia_wR, ow_wI, ow_wR, wn_add, wn_mul, wn_cl, wn_le, wn_lt, wn_inj, wn_ne1, wn_1ne, wn_gt1, wn_le1, nb0, nb1, am_kt, am_rt, List.cons_append, List.nil_append, true_and, and_true, not_true_eq_false, not_false_eq_true, imp_f, imp_t, implies_true, Nat.zero_add, if_true, if_false, false_and, and_false, fM i4.1, fR i4.1 h809, eT, e1b]
    have k5 : Kp MC G4 (am_wI G4 809 (12 + b) (wn (1 - bt (sT y.2) b))) := (Kp.refl _).wI (Or.inr (Or.inl rfl)) _
    refine tail2 _ _ (i4.mc k5) ⟨rW_tgl x4'.1 t2 (by omega), ?_⟩ ((kk2.trans k4).trans k5)
    rw [rI_wI, if_neg (by omega)]; exact x4'.2
  · have c3 : Q ≤ r2 := by omega
    simp only [if_neg c2] at tail2
    simp +decide (disch := omega) only [↓wm1, wb259_56 hc, wb259_63 hc, w0, w1, w10, w12, w16, w94, rI_wI, rP_wI, rL_wI, rI_wR, rP_wR, is_wI, is_wR, ia_wI, ia_wR, ow_wI, ow_wR, wn_add, wn_mul, wn_cl, wn_le, wn_lt, wn_inj, wn_ne1, wn_1ne, wn_gt1, wn_le1, nb0, nb1, am_kt, am_rt, List.cons_append, List.nil_append, true_and, and_true, not_true_eq_false, not_false_eq_true, imp_f, imp_t, implies_true, Nat.zero_add, if_true, if_false, false_and, and_false, fM i2.1, ct258 i2.1 f1 e2 er2 (show 1 ≤ 16 by decide) (show 16 < 100 by decide), c3]
    exact tail2 _ _ i4 x4' (kk2.trans k4)
theorem ct259 {s : Int32} {n Q : Nat} (hI : RI G δ Λ σ) (hv : vS9 (dB δ) (dH δ) σ) (hn : n ≤ 96) (hQ : Q ≤ 16) (k : ∀ G', RI G' δ Λ σ → CM G' (cen δ Λ Q n (σ, s, 0)) → Kp MC G G' → post (.inl none) G') : am_C am_T (d + 10) 259 [.ref 334, .int s, .int (wn n), .int (wn Q)] G post := by
  have hc := am_C_one am_T (d + 9)
  have b6 := hI.2.1.2.1.1
  rw [we259]
  simp +decide (disch := omega) only [↓wm1, wb259_0 hc, w0, w1, w10, w12, w16, w94, rI_wI, rP_wI, rL_wI, rI_wR, rP_wR, is_wI, is_wR, ia_wI, ia_wR, ow_wI, ow_wR, wn_add, wn_mul, wn_cl, wn_le, wn_lt, wn_inj, wn_ne1, wn_1ne, wn_gt1, wn_le1, nb0, nb1, am_kt, am_rt, List.cons_append, List.nil_append, true_and, and_true, not_true_eq_false, not_false_eq_true, imp_f, imp_t, implies_true, Nat.zero_add, if_true, if_false, false_and, and_false, fM hI.1]
  refine ct178 hI.1 h808 h809 (by decide) (fun G1 r1 k1 => ?_)
  have k1' : Kp MC G G1 := k1.mono (fun a i z => Or.inr (Or.inl z))
  have i1 := hI.mc k1'
  have w1' : rW G1 809 0 σ := hI.2.2.cp r1
  simp +decide (disch := omega) only [↓wm1, wb259_11 hc, w0, w1, w10, w12, w16, w94, rI_wI, rP_wI, rL_wI, rI_wR, rP_wR, is_wI, is_wR, ia_wI, ia_wR, ow_wI, ow_wR, wn_add, wn_mul, wn_cl, wn_le, wn_lt, wn_inj, wn_ne1, wn_1ne, wn_gt1, wn_le1, nb0, nb1, am_kt, am_rt, List.cons_append, List.nil_append, true_and, and_true, not_true_eq_false, not_false_eq_true, imp_f, imp_t, implies_true, Nat.zero_add, if_true, if_false, false_and, and_false, fM i1.1]
  have k2 : Kp MC G1 (am_wI G1 334 48 s) := (Kp.refl G1).wI (Or.inr (Or.inr ⟨rfl, rfl⟩)) _
  refine am_for n (fun j ls G2 => RI G2 δ Λ σ ∧ CM G2 (cen δ Λ Q j (σ, s, 0)) ∧ Kp MC G G2 ∧ ∃ o1, ls = [some (.ref 334), o1, some (.int (wn n)), some (.int (wn Q)), some (.int (wn j)), none]) ?_ ?_ n 0 (by omega) _ _ ⟨i1.mc k2, CM.seed (x := (σ, s, 0)) w1' s 0, k1'.trans k2, _, rfl⟩
  · rintro j hj _ G2 ⟨i2, x2, kk2, o1', rfl⟩ nx
    have c1 : ¬ n ≤ j := by omega
    have ok := cen_ok (Λ := Λ) (q := Q) (s := s) b6 hv j (by omega)
    have fin : ∀ G3 (x : Ct), vS (dB δ) (dH δ) x.1 → RI G3 δ Λ σ → CM G3 x → Kp MC G G3 → ((cen δ Λ Q (j + 1) (σ, s, 0)).1 = sPass x.1 ∧ (cen δ Λ Q (j + 1) (σ, s, 0)).2.1 = x.2.1) → ∀ o5 : Option Value, am_W (am_C am_T (d + 9)) am_259 post 112 [some (.ref 334), none, some (.int (wn n)), some (.int (wn Q)), some (.int (wn j)), o5] [] G3 := by
      intro G3 x vx i3 x3 k3 ex o5
      simp +decide (disch := omega) only [↓wm1, wb259_112 hc, w0, w1, w10, w12, w16, w94, rI_wI, rP_wI, rL_wI, rI_wR, rP_wR, is_wI, is_wR, ia_wI, ia_wR, ow_wI, ow_wR, wn_add, wn_mul, wn_cl, wn_le, wn_lt, wn_inj, wn_ne1, wn_1ne, wn_gt1, wn_le1, nb0, nb1, am_kt, am_rt, List.cons_append, List.nil_append, true_and, and_true, not_true_eq_false, not_false_eq_true, imp_f, imp_t, implies_true, Nat.zero_add, if_true, if_false, false_and, and_false, fM i3.1]
      refine ct201 i3.1 h809 x3.1 vx.2.2.2.2.2.1 (fun G4 r4 k4 => ?_)
      have k4' : Kp MC G3 G4 := k4.mono (fun a i z => Or.inr (Or.inl z))
      simp +decide (disch := omega) only [↓wm1, wb259_119 hc, w0, w1, w10, w12, w16, w94, rI_wI, rP_wI, rL_wI, rI_wR, rP_wR, is_wI, is_wR, ia_wI, ia_wR, ow_wI, ow_wR, wn_add, wn_mul, wn_cl, wn_le, wn_lt, wn_inj, wn_ne1, wn_1ne, wn_gt1, wn_le1, nb0, nb1, am_kt, am_rt, List.cons_append, List.nil_append, true_and, and_true, not_true_eq_false, not_false_eq_true, imp_f, imp_t, implies_true, Nat.zero_add, if_true, if_false, false_and, and_false]
      refine nx _ _ ⟨i3.mc k4', ⟨by rw [ex.1]; exact r4, ?_⟩, k3.trans k4', none, rfl⟩
      rw [ex.2, k4.i (by omega)]
      exact x3.2
    rw [wb259_19 hc]
    by_cases c2 : dB δ = 0
    · have c3 : dB δ ≤ 0 := by omega
      simp +decide (disch := omega) only [↓wm1, wb259_25 hc, w0, w1, w10, w12, w16, w94, rI_wI, rP_wI, rL_wI, rI_wR, rP_wR, is_wI, is_wR, ia_wI, ia_wR, ow_wI, ow_wR, wn_add, wn_mul, wn_cl, wn_le, wn_lt, wn_inj, wn_ne1, wn_1ne, wn_gt1, wn_le1, nb0, nb1, am_kt, am_rt, List.cons_append, List.nil_append, true_and, and_true, not_true_eq_false, not_false_eq_true, imp_f, imp_t, implies_true, Nat.zero_add, if_true, if_false, false_and, and_false, c1, fM i2.1, fE2 i2.2.1, ia338 i2.1, c3]
      exact fin G2 _ ok.1 i2 x2 kk2 (by rw [cen_s]; exact ⟨(chr_0 c2).1, (chr_0 c2).2.1⟩) _
    · have c3 : ¬ dB δ ≤ 0 := by omega
      simp +decide (disch := omega) only [↓wm1, wb259_25 hc, w0, w1, w10, w12, w16, w94, rI_wI, rP_wI, rL_wI, rI_wR, rP_wR, is_wI, is_wR, ia_wI, ia_wR, ow_wI, ow_wR, wn_add, wn_mul, wn_cl, wn_le, wn_lt, wn_inj, wn_ne1, wn_1ne, wn_gt1, wn_le1, nb0, nb1, am_kt, am_rt, List.cons_append, List.nil_append, true_and, and_true, not_true_eq_false, not_false_eq_true, imp_f, imp_t, implies_true, Nat.zero_add, if_true, if_false, false_and, and_false, c1, fM i2.1, fE2 i2.2.1, ia338 i2.1, c3]
      have okd := cdr_ok (Λ := Λ) (q := Q) b6 c2 ok.1
      exact ct259_d i2 x2 ok.1 c2 hQ (fun G3 i3 x3 k3 o5 => fin G3 _ okd.1 i3 x3 (kk2.trans k3) (by rw [cen_s]; exact ⟨(chr_1 c2).1, (chr_1 c2).2.1⟩) o5)
  · rintro _ G2 ⟨i2, x2, kk2, o1', rfl⟩
    rw [wb259_19 hc]
    simp +decide (disch := omega) only [↓wm1, wb259_125 hc, w0, w1, w10, w12, w16, w94, rI_wI, rP_wI, rL_wI, rI_wR, rP_wR, is_wI, is_wR, ia_wI, ia_wR, ow_wI, ow_wR, wn_add, wn_mul, wn_cl, wn_le, wn_lt, wn_inj, wn_ne1, wn_1ne, wn_gt1, wn_le1, nb0, nb1, am_kt, am_rt, List.cons_append, List.nil_append, true_and, and_true, not_true_eq_false, not_false_eq_true, imp_f, imp_t, implies_true, Nat.zero_add, if_true, if_false, false_and, and_false, Nat.le_refl]
    exact k G2 i2 x2 kk2
theorem ct260 {x y : Int32} : am_C am_T (d + 2) 260 [.int x, .int y] G post ↔ post (.inl (some (.int (wn (b01 (vin2 x 1 97 && vin2 y 0 17)))))) G := by
  have hc := am_C_one am_T (d + 1)
  rw [we260]
  cases h1 : vin2 x 1 97 with
  | true =>
    cases h2 : vin2 y 0 17 with
    | true => simp +decide (disch := omega) only [↓wm1, wb260_0 hc, wb260_7 hc, wb260_10 hc, wb260_17 hc, wb260_20 hc, wb260_24 hc, wb260_25 hc, w0, w1, w16, w96, rI_wI, rP_wI, rL_wI, rI_wR, rP_wR, is_wI, is_wR, ia_wI, ia_wR, ow_wI, ow_wR, wn_add, wn_mul, wn_cl, wn_le, wn_lt, wn_inj, wn_ne1, wn_1ne, wn_gt1, wn_le1, nb0, nb1, am_kt, am_rt, List.cons_append, List.nil_append, true_and, and_true, not_true_eq_false, not_false_eq_true, imp_f, imp_t, implies_true, Nat.zero_add, if_true, if_false, false_and, and_false, ct153c, h1, h2, b01, Bool.and_self]
    | false => simp +decide (disch := omega) only [↓wm1, wb260_0 hc, wb260_7 hc, wb260_10 hc, wb260_17 hc, wb260_20 hc, wb260_24 hc, wb260_25 hc, w0, w1, w16, w96, rI_wI, rP_wI, rL_wI, rI_wR, rP_wR, is_wI, is_wR, ia_wI, ia_wR, ow_wI, ow_wR, wn_add, wn_mul, wn_cl, wn_le, wn_lt, wn_inj, wn_ne1, wn_1ne, wn_gt1, wn_le1, nb0, nb1, am_kt, am_rt, List.cons_append, List.nil_append, true_and, and_true, not_true_eq_false, not_false_eq_true, imp_f, imp_t, implies_true, Nat.zero_add, if_true, if_false, false_and, and_false, ct153c, h1, h2, b01, Bool.and_false, Bool.false_eq_true]
  | false => simp +decide (disch := omega) only [↓wm1, wb260_0 hc, wb260_7 hc, wb260_10 hc, wb260_17 hc, wb260_20 hc, wb260_24 hc, wb260_25 hc, w0, w1, w16, w96, rI_wI, rP_wI, rL_wI, rI_wR, rP_wR, is_wI, is_wR, ia_wI, ia_wR, ow_wI, ow_wR, wn_add, wn_mul, wn_cl, wn_le, wn_lt, wn_inj, wn_ne1, wn_1ne, wn_gt1, wn_le1, nb0, nb1, am_kt, am_rt, List.cons_append, List.nil_append, true_and, and_true, not_true_eq_false, not_false_eq_true, imp_f, imp_t, implies_true, Nat.zero_add, if_true, if_false, false_and, and_false, ct153c, h1, b01, Bool.false_and, Bool.false_eq_true]
end
