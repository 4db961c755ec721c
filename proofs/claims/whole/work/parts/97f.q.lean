/-! SUIT, the object's side. -/
theorem lim_s (k : Nat) : lim (k + 1) = wn k := by unfold lim; rw [wn_sub (by omega)]; rfl
theorem lim_0 : lim 0 = mm := by decide
theorem lim_m (k : Nat) : wn k + mm = lim k := by
  unfold lim
  rw [Int32.sub_eq_add_neg]
  rfl
def Mtc (G : am_G) (s : Nat → Bool) (w : Nat → Nat → Nat) (H B b : Nat) : Prop := ∀ U, U < 2 ^ H → am_gI G 116 (b * 128 + U) = wn (mo s w H B (B - b) U)
def Rtc (G : am_G) (s : Nat → Bool) (w : Nat → Nat → Nat) (H b : Nat) : Prop := ∀ h, h < H → am_gI G 117 (b * 7 + h) = if s b = true then wn (w b h) else mm
theorem or_H {U h H : Nat} (hU : U < 2 ^ H) (hh : h < H) : U ||| 2 ^ h < 2 ^ H := Nat.or_lt_two_pow hU (Nat.pow_lt_pow_right (by decide) hh)
theorem p7 {H : Nat} (hH : H ≤ 7) : 2 ^ H ≤ 128 := Nat.pow_le_pow_right (n := 2) (by decide) hH
theorem q115 {G : am_G} (h : Sh G) : am_gP G 115 0 = 116 ∧ am_gP G 115 1 = 117 ∧ am_gP G 115 2 = 118 := ⟨q115_0 h, q115_1 h, q115_2 h⟩
section
variable {G : am_G} {d : Nat} {post : am_O → am_G → Prop} {s : Nat → Bool} {w : Nat → Nat → Nat} {H B b h U : Nat}
theorem ct34 (hsh : Sh G) (hw : ∀ b h, w b h ≤ 99) (hB : B ≤ 6) (hb : b < B) (hh : h < H) (hH : H ≤ 7) (hU : U < 2 ^ H) (hM : Mtc G s w H B (b + 1)) (hR : Rtc G s w H b) : am_C am_T (d + 1) 34 [.ref 115, .int (wn b), .int (wn h), .int (wn U)] G post ↔ post (.inl (some (.int (if alw s b U h = true then wn (w b h + mo s w H B (B - (b + 1)) (U ||| 2 ^ h)) else mm)))) G := by
  have hc := am_C_one am_T d
  have p2 := p7 hH
  have o1 := or_H hU hh
  have e1 := hR h hh
  have e2 := hM _ o1
  have e3 := bsr U (by omega) h (by omega)
  have e4 := bs1 h (by omega)
  have e5 := (bor7 U (by omega) h (by omega)).1
  have hw9 := hw b h
  have m9 := mo_le (s := s) (H := H) (B := B) hw (B - (b + 1)) (U ||| 2 ^ h)
  have b1 := bt_01 U h
  have x1 : b * 7 + h < 42 := by omega
  have x2 : (b + 1) * 128 + (U ||| 2 ^ h) < 896 := by omega
  rw [we34]
  unfold alw
  cases hs : s b with
  | false =>
    rw [hs, if_neg (by decide)] at e1
    simp +decide (disch := omega) only [↓wm1, wb34_0 hc, wb34_28 hc, w0, w1, w7, w128, rI_wI, rP_wI, rL_wI, rI_wR, rP_wR, is_wI, is_wR, ia_wI, ia_wR, ow_wI, ow_wR, wn_add, wn_mul, wn_cl, wn_le, wn_lt, wn_inj, wn_ne1, wn_1ne, wn_gt1, wn_le1, nb0, nb1, am_kt, am_rt, List.cons_append, List.nil_append, true_and, and_true, not_true_eq_false, not_false_eq_true, imp_f, imp_t, implies_true, Nat.zero_add, if_true, if_false, false_and, and_false, fC hsh, q115 hsh, ia117 hsh, x1, e1, Bool.false_and, Bool.false_eq_true]
  | true =>
    rw [hs, if_pos rfl] at e1
    by_cases cU : bt U h = 0
    · rw [cU] at e3
      simp +decide (disch := omega) only [↓wm1, wb34_0 hc, wb34_19 hc, wb34_30 hc, w0, w1, w7, w128, rI_wI, rP_wI, rL_wI, rI_wR, rP_wR, is_wI, is_wR, ia_wI, ia_wR, ow_wI, ow_wR, wn_add, wn_mul, wn_cl, wn_le, wn_lt, wn_inj, wn_ne1, wn_1ne, wn_gt1, wn_le1, nb0, nb1, am_kt, am_rt, List.cons_append, List.nil_append, true_and, and_true, not_true_eq_false, not_false_eq_true, imp_f, imp_t, implies_true, Nat.zero_add, if_true, if_false, false_and, and_false, fC hsh, q115 hsh, ia117 hsh, ia116 hsh, x1, x2, e1, e2, e3, e4, e5, cU, Bool.true_and, beq_self_eq_true]
    · have cV : bt U h = 1 := by omega
      rw [cV] at e3
      simp +decide (disch := omega) only [↓wm1, wb34_0 hc, wb34_19 hc, wb34_28 hc, w0, w1, w7, w128, rI_wI, rP_wI, rL_wI, rI_wR, rP_wR, is_wI, is_wR, ia_wI, ia_wR, ow_wI, ow_wR, wn_add, wn_mul, wn_cl, wn_le, wn_lt, wn_inj, wn_ne1, wn_1ne, wn_gt1, wn_le1, nb0, nb1, am_kt, am_rt, List.cons_append, List.nil_append, true_and, and_true, not_true_eq_false, not_false_eq_true, imp_f, imp_t, implies_true, Nat.zero_add, if_true, if_false, false_and, and_false, fC hsh, q115 hsh, ia117 hsh, x1, e1, e3, cV, Bool.true_and]
theorem ct33 (hsh : Sh G) (hw : ∀ b h, w b h ≤ 99) (hB : B ≤ 6) (hb : b < B) (hH : H ≤ 7) (hU : U < 2 ^ H) (hM : Mtc G s w H B (b + 1)) (hR : Rtc G s w H b) : am_C am_T (d + 2) 33 [.ref 115, .int (wn b), .int (wn H), .int (wn U)] G post ↔ post (.inl (some (.int (wn (mo s w H B (B - b) U))))) G := by
  have hc := am_C_one am_T (d + 1)
  obtain ⟨k, hk⟩ : ∃ k, B - b = k + 1 := ⟨B - b - 1, by omega⟩
  have hk2 : B - (b + 1) = k := by omega
  have hk3 : B - (k + 1) = b := by omega
  have p2 := p7 hH
  have e2 := hM U hU
  rw [hk2] at e2
  have x2 : (b + 1) * 128 + U < 896 := by omega
  have m0 := mo_le (s := s) (H := H) (B := B) hw k U
  have m1 : ∀ h, w b h + mo s w H B k (U ||| 2 ^ h) ≤ 99 * (k + 1) := fun h => by
    have := hw b h
    have := mo_le (s := s) (H := H) (B := B) hw k (U ||| 2 ^ h)
    omega
  refine am_iff (fun post kk => ?_) post
  rw [hk] at kk
  simp only [mo, hk3] at kk
  rw [we33]
  simp +decide (disch := omega) only [↓wm1, wb33_0 hc, w0, w1, w128, rI_wI, rP_wI, rL_wI, rI_wR, rP_wR, is_wI, is_wR, ia_wI, ia_wR, ow_wI, ow_wR, wn_add, wn_mul, wn_cl, wn_le, wn_lt, wn_inj, wn_ne1, wn_1ne, wn_gt1, wn_le1, nb0, nb1, am_kt, am_rt, List.cons_append, List.nil_append, true_and, and_true, not_true_eq_false, not_false_eq_true, imp_f, imp_t, implies_true, Nat.zero_add, if_true, if_false, false_and, and_false, fC hsh, q115 hsh, ia116 hsh, x2, e2]
  refine am_for H (fun j ls G' => G' = G ∧ ls = [some (.ref 115), some (.int (wn b)), some (.int (wn H)), some (.int (wn U)), some (.int (wn (mxl (alw s b U) (fun h => w b h + mo s w H B k (U ||| 2 ^ h)) (mo s w H B k U) j))), some (.int (wn j))]) ?_ ?_ H 0 (by omega) _ _ ⟨rfl, rfl⟩
  · rintro j hj _ _ ⟨rfl, rfl⟩ nx
    have c1 : ¬ H ≤ j := by omega
    have mj := mxl_le (p := alw s b U) (c := fun h => w b h + mo s w H B k (U ||| 2 ^ h)) (z := mo s w H B k U) (N := 99 * (k + 1)) (by omega) m1 j
    have mc := m1 j
    rw [wb33_19 hc]
    cases ha : alw s b U j with
    | true =>
      simp +decide (disch := omega) only [↓wm1, wb33_25 hc, wb33_35 hc, wb33_38 hc, w0, w1, w128, rI_wI, rP_wI, rL_wI, rI_wR, rP_wR, is_wI, is_wR, ia_wI, ia_wR, ow_wI, ow_wR, wn_add, wn_mul, wn_cl, wn_le, wn_lt, wn_inj, wn_ne1, wn_1ne, wn_gt1, wn_le1, nb0, nb1, am_kt, am_rt, List.cons_append, List.nil_append, true_and, and_true, not_true_eq_false, not_false_eq_true, imp_f, imp_t, implies_true, Nat.zero_add, if_true, if_false, false_and, and_false, fC hsh, c1, ct34 hsh hw hB hb hj hH hU hM hR, ha, hk2, ct271n]
      refine nx _ _ ⟨rfl, ?_⟩
      simp only [mxl, ha, if_true]
    | false =>
      have c3 : ¬ wn (mxl (alw s b U) (fun h => w b h + mo s w H B k (U ||| 2 ^ h)) (mo s w H B k U) j) < mm := by
        rw [Int32.lt_iff_toInt_lt, wn_toInt (by omega)]
        have : mm.toInt = -1 := by decide
        omega
      simp +decide (disch := omega) only [↓wm1, wb33_25 hc, wb33_35 hc, wb33_38 hc, w0, w1, w128, rI_wI, rP_wI, rL_wI, rI_wR, rP_wR, is_wI, is_wR, ia_wI, ia_wR, ow_wI, ow_wR, wn_add, wn_mul, wn_cl, wn_le, wn_lt, wn_inj, wn_ne1, wn_1ne, wn_gt1, wn_le1, nb0, nb1, am_kt, am_rt, List.cons_append, List.nil_append, true_and, and_true, not_true_eq_false, not_false_eq_true, imp_f, imp_t, implies_true, Nat.zero_add, if_true, if_false, false_and, and_false, fC hsh, c1, ct34 hsh hw hB hb hj hH hU hM hR, ha, Bool.false_eq_true, ct271, c3]
      refine nx _ _ ⟨rfl, ?_⟩
      simp only [mxl, ha, Bool.false_eq_true, if_false]
  · rintro _ _ ⟨rfl, rfl⟩
    rw [wb33_19 hc]
    simp +decide (disch := omega) only [↓wm1, wb33_46 hc, w0, w1, w128, rI_wI, rP_wI, rL_wI, rI_wR, rP_wR, is_wI, is_wR, ia_wI, ia_wR, ow_wI, ow_wR, wn_add, wn_mul, wn_cl, wn_le, wn_lt, wn_inj, wn_ne1, wn_1ne, wn_gt1, wn_le1, nb0, nb1, am_kt, am_rt, List.cons_append, List.nil_append, true_and, and_true, not_true_eq_false, not_false_eq_true, imp_f, imp_t, implies_true, Nat.zero_add, if_true, if_false, false_and, and_false, Nat.le_refl]
    exact kk
theorem ct35 (hsh : Sh G) (hw : ∀ b h, w b h ≤ 99) (hB : B ≤ 6) (hH : H ≤ 7) (hM : ∀ b, b ≤ B → Mtc G s w H B b) (hR : ∀ b, b < B → Rtc G s w H b) (k : ∀ G', (∀ i, i < B → am_gI G' 118 i = gvf s w H B B 0 i) → Kp (fun a _ => a = 118) G G' → post (.inl none) G') : am_C am_T (d + 2) 35 [.ref 115, .int (wn B), .int (wn H)] G post := by
  have hc := am_C_one am_T (d + 1)
  have p2 := p7 hH
  rw [we35]
  simp +decide (disch := omega) only [↓wm1, wb35_0 hc, w0, w1, w128, rI_wI, rP_wI, rL_wI, rI_wR, rP_wR, is_wI, is_wR, ia_wI, ia_wR, ow_wI, ow_wR, wn_add, wn_mul, wn_cl, wn_le, wn_lt, wn_inj, wn_ne1, wn_1ne, wn_gt1, wn_le1, nb0, nb1, am_kt, am_rt, List.cons_append, List.nil_append, true_and, and_true, not_true_eq_false, not_false_eq_true, imp_f, imp_t, implies_true, Nat.zero_add, if_true, if_false, false_and, and_false]
  refine am_for B (fun b ls G' => ∃ U, U < 2 ^ H ∧ (∀ i, i < b → am_gI G' 118 i = gvf s w H B B 0 i) ∧ (∀ i, gvf s w H B (B - b) U i = gvf s w H B B 0 (b + i)) ∧ Kp (fun a _ => a = 118) G G' ∧ ls = [some (.ref 115), some (.int (wn B)), some (.int (wn H)), some (.int (wn U)), some (.int (wn b)), none]) ?_ ?_ B 0 (by omega) _ _ ⟨0, Nat.two_pow_pos H, fun i hi => by omega, fun i => by rw [Nat.zero_add]; rfl, Kp.refl G, rfl⟩
  · rintro b hb _ G1 ⟨U, hU, g1, g2, k1, rfl⟩ nx
    have c1 : ¬ B ≤ b := by omega
    have b6 : b < 6 := by omega
    have s1 := hsh.kp k1
    obtain ⟨kk, hk⟩ : ∃ k, B - b = k + 1 := ⟨B - b - 1, by omega⟩
    have hk2 : B - (b + 1) = kk := by omega
    have hk3 : B - (kk + 1) = b := by omega
    have x1 : b * 128 + U < 896 := by omega
    have mU := mo_le (s := s) (H := H) (B := B) hw (kk + 1) U
    rw [wb35_5 hc]
    simp +decide (disch := omega) only [↓wm1, wb35_11 hc, w0, w1, w128, rI_wI, rP_wI, rL_wI, rI_wR, rP_wR, is_wI, is_wR, ia_wI, ia_wR, ow_wI, ow_wR, wn_add, wn_mul, wn_cl, wn_le, wn_lt, wn_inj, wn_ne1, wn_1ne, wn_gt1, wn_le1, nb0, nb1, am_kt, am_rt, List.cons_append, List.nil_append, true_and, and_true, not_true_eq_false, not_false_eq_true, imp_f, imp_t, implies_true, Nat.zero_add, if_true, if_false, false_and, and_false, c1, fC s1, q115 s1, ow118 s1, b6]
    refine am_for H (fun j ls G' => am_gI G' 118 b = fo (pkq s w H B kk U) (H - j) j ∧ Kp (fun a i => a = 118 ∧ i = b) G1 G' ∧ ls = [some (.ref 115), some (.int (wn B)), some (.int (wn H)), some (.int (wn U)), some (.int (wn b)), some (.int (lim (H - j)))]) ?_ ?_ H 0 (by omega) _ _ ⟨by rw [rI_wI, if_pos ⟨rfl, rfl⟩]; rfl, (Kp.refl G1).wI ⟨rfl, rfl⟩ _, rfl⟩
    · rintro j hj _ G2 ⟨f2, k2, rfl⟩ nx2
      obtain ⟨h, hh⟩ : ∃ h, H - j = h + 1 := ⟨H - j - 1, by omega⟩
      have hh2 : H - (j + 1) = h := by omega
      have hhH : h < H := by omega
      rw [hh] at f2 ⊢
      rw [hh2] at nx2
      rw [lim_s]
      have s2 := s1.kp k2
      have ka : Kp (fun a _ => a = 118) G G2 := k1.trans (k2.mono (fun a i z => z.1))
      have M1 : Mtc G2 s w H B (b + 1) := fun U hU => by rw [ka.i (by omega)]; exact hM (b + 1) (by omega) U hU
      have R1 : Rtc G2 s w H b := fun h hh => by rw [ka.i (by omega)]; exact hR b hb h hh
      have e1 : am_gI G2 116 (b * 128 + U) = wn (mo s w H B (kk + 1) U) := by rw [ka.i (by omega), ← hk]; exact hM b (by omega) U hU
      have wh := hw b h
      have mh := mo_le (s := s) (H := H) (B := B) hw kk (U ||| 2 ^ h)
      have hq : pkq s w H B kk U h = (alw s b U h && (w b h + mo s w H B kk (U ||| 2 ^ h) == mo s w H B (kk + 1) U)) := by unfold pkq; rw [hk3]
      rw [wb35_24 hc]
      cases ha : alw s b U h with
      | false =>
        rw [ha, Bool.false_and] at hq
        simp +decide (disch := omega) only [↓wm1, wb35_29 hc, wb35_38 hc, wb35_63 hc, w0, w1, w128, rI_wI, rP_wI, rL_wI, rI_wR, rP_wR, is_wI, is_wR, ia_wI, ia_wR, ow_wI, ow_wR, wn_add, wn_mul, wn_cl, wn_le, wn_lt, wn_inj, wn_ne1, wn_1ne, wn_gt1, wn_le1, nb0, nb1, am_kt, am_rt, List.cons_append, List.nil_append, true_and, and_true, not_true_eq_false, not_false_eq_true, imp_f, imp_t, implies_true, Nat.zero_add, if_true, if_false, false_and, and_false, Nat.not_lt_zero, fC s2, q115 s2, ct34 s2 hw hB hb hhH hH hU M1 R1, ha, Bool.false_eq_true, ia116 s2, x1, e1, lim_m]
        refine nx2 _ _ ⟨?_, k2, rfl⟩
        simp only [fo, hq, Bool.false_eq_true, if_false]
        exact f2
      | true =>
        rw [ha, Bool.true_and] at hq
        by_cases c2 : w b h + mo s w H B kk (U ||| 2 ^ h) = mo s w H B (kk + 1) U
        · rw [c2, beq_self_eq_true] at hq
          simp +decide (disch := omega) only [↓wm1, wb35_29 hc, wb35_38 hc, wb35_54 hc, wb35_63 hc, w0, w1, w128, rI_wI, rP_wI, rL_wI, rI_wR, rP_wR, is_wI, is_wR, ia_wI, ia_wR, ow_wI, ow_wR, wn_add, wn_mul, wn_cl, wn_le, wn_lt, wn_inj, wn_ne1, wn_1ne, wn_gt1, wn_le1, nb0, nb1, am_kt, am_rt, List.cons_append, List.nil_append, true_and, and_true, not_true_eq_false, not_false_eq_true, imp_f, imp_t, implies_true, Nat.zero_add, if_true, if_false, false_and, and_false, Nat.not_lt_zero, fC s2, q115 s2, ct34 s2 hw hB hb hhH hH hU M1 R1, ha, ia116 s2, x1, e1, hk2, c2, ow118 s2, b6, lim_m]
          refine nx2 _ _ ⟨?_, k2.wI ⟨rfl, rfl⟩ _, rfl⟩
          rw [rI_wI, if_pos ⟨rfl, rfl⟩]
          simp only [fo, hq, if_true]
        · rw [beq_eq_false_iff_ne.mpr c2] at hq
          simp +decide (disch := omega) only [↓wm1, wb35_29 hc, wb35_38 hc, wb35_63 hc, w0, w1, w128, rI_wI, rP_wI, rL_wI, rI_wR, rP_wR, is_wI, is_wR, ia_wI, ia_wR, ow_wI, ow_wR, wn_add, wn_mul, wn_cl, wn_le, wn_lt, wn_inj, wn_ne1, wn_1ne, wn_gt1, wn_le1, nb0, nb1, am_kt, am_rt, List.cons_append, List.nil_append, true_and, and_true, not_true_eq_false, not_false_eq_true, imp_f, imp_t, implies_true, Nat.zero_add, if_true, if_false, false_and, and_false, Nat.not_lt_zero, fC s2, q115 s2, ct34 s2 hw hB hb hhH hH hU M1 R1, ha, ia116 s2, x1, e1, hk2, c2, lim_m]
          refine nx2 _ _ ⟨?_, k2, rfl⟩
          simp only [fo, hq, Bool.false_eq_true, if_false]
          exact f2
    · rintro _ G2 ⟨f2, k2, rfl⟩
      rw [Nat.sub_self] at f2 ⊢
      have s2 := s1.kp k2
      rw [lim_0, wb35_24 hc]
      have q0 : mm < wn 0 := by decide
      have gk : ∀ i, gvf s w H B kk (nxU U (fo (pkq s w H B kk U) 0 H)) i = gvf s w H B B 0 (b + 1 + i) := fun i => by
        have := g2 (i + 1)
        rw [hk] at this
        simp only [gvf] at this
        rw [if_neg (by omega), Nat.add_sub_cancel] at this
        rw [this]
        congr 1
        omega
      have g0 : fo (pkq s w H B kk U) 0 H = gvf s w H B B 0 b := by
        have := g2 0
        rw [hk] at this
        simp only [gvf, if_true, Nat.add_zero] at this
        exact this
      have done : ∀ i, i < b + 1 → am_gI G2 118 i = gvf s w H B B 0 i := fun i hi => by
        by_cases e : i = b
        · rw [e, f2, g0]
        · rw [k2.i (by omega)]; exact g1 i (by omega)
      rcases fo_facts (pkq s w H B kk U) H 0 with ⟨a, -⟩ | ⟨x, x1, x2, x3, -, -⟩
      · rw [a] at f2 gk
        simp +decide (disch := omega) only [↓wm1, wb35_69 hc, wb35_92 hc, w0, w1, w128, rI_wI, rP_wI, rL_wI, rI_wR, rP_wR, is_wI, is_wR, ia_wI, ia_wR, ow_wI, ow_wR, wn_add, wn_mul, wn_cl, wn_le, wn_lt, wn_inj, wn_ne1, wn_1ne, wn_gt1, wn_le1, nb0, nb1, am_kt, am_rt, List.cons_append, List.nil_append, true_and, and_true, not_true_eq_false, not_false_eq_true, imp_f, imp_t, implies_true, Nat.zero_add, if_true, if_false, false_and, and_false, q0, fC s2, q115 s2, ia118 s2, b6, f2]
        refine nx _ _ ⟨U, hU, done, fun i => ?_, k1.trans (k2.mono (fun a i z => z.1)), rfl⟩
        rw [hk2, ← gk i, nxU, if_pos rfl]
      · rw [x3] at f2 gk
        have xx : ¬ wn x = mm := wn_n1 x (by omega)
        have e4 := bs1 x (by omega)
        have e5 := (bor7 U (by omega) x (by omega)).1
        simp +decide (disch := omega) only [↓wm1, wb35_69 hc, wb35_80 hc, wb35_92 hc, w0, w1, w128, rI_wI, rP_wI, rL_wI, rI_wR, rP_wR, is_wI, is_wR, ia_wI, ia_wR, ow_wI, ow_wR, wn_add, wn_mul, wn_cl, wn_le, wn_lt, wn_inj, wn_ne1, wn_1ne, wn_gt1, wn_le1, nb0, nb1, am_kt, am_rt, List.cons_append, List.nil_append, true_and, and_true, not_true_eq_false, not_false_eq_true, imp_f, imp_t, implies_true, Nat.zero_add, if_true, if_false, false_and, and_false, q0, fC s2, q115 s2, ia118 s2, b6, f2, xx, e4, e5]
        refine nx _ _ ⟨U ||| 2 ^ x, or_H hU (by omega), done, fun i => ?_, k1.trans (k2.mono (fun a i z => z.1)), rfl⟩
        rw [hk2, ← gk i, nxU, if_neg xx, wn_cl (by omega)]
  · rintro _ G1 ⟨U, hU, g1, g2, k1, rfl⟩
    rw [wb35_5 hc]
    simp +decide (disch := omega) only [↓wm1, wb35_98 hc, w0, w1, w128, rI_wI, rP_wI, rL_wI, rI_wR, rP_wR, is_wI, is_wR, ia_wI, ia_wR, ow_wI, ow_wR, wn_add, wn_mul, wn_cl, wn_le, wn_lt, wn_inj, wn_ne1, wn_1ne, wn_gt1, wn_le1, nb0, nb1, am_kt, am_rt, List.cons_append, List.nil_append, true_and, and_true, not_true_eq_false, not_false_eq_true, imp_f, imp_t, implies_true, Nat.zero_add, if_true, if_false, false_and, and_false, Nat.le_refl]
    exact k G1 g1 k1
end
def MS5 : Nat → Nat → Prop := fun a i => HS a i ∨ (116 ≤ a ∧ a ≤ 118)
section
variable {G : am_G} {d q l : Nat} {post : am_O → am_G → Prop} {δ : Dt} {Λ : List Tok} {σ : St} {V : Vt}
theorem CI.m5 {G' : am_G} (h : CI G q l δ Λ σ) (k : Kp MS5 G G') : CI G' q l δ Λ σ :=
  ⟨h.1.kp k, h.2.1.kp k (fun a i z => by unfold MS5 HS at z; omega), h.2.2.kp k (fun a i z1 z2 z => by unfold MS5 HS at z; omega)⟩
theorem ct32 (hI : CI G q l δ Λ σ) (hg : sG σ < 64) (ht : sT σ < 64) (hH9 : sH σ < 2147483648) (k : ∀ G', (∀ i, i < dB δ → am_gI G' 118 i = gvf (spk σ) (hear δ Λ σ) (dH δ) (dB δ) (dB δ) 0 i) → Kp MS5 G G' → post (.inl (some (.int (wn (mo (spk σ) (hear δ Λ σ) (dH δ) (dB δ) (dB δ) 0))))) G') : am_C am_T (d + 6) 32 [.ref 115, .ref 3, .ref 32] G post := by
  have hc := am_C_one am_T (d + 5)
  have v6 := hI.2.1.2.2.2.2.2.1.1
  have v7 := hI.2.1.2.2.2.2.2.1.2.1
  have hw : ∀ b h, hear δ Λ σ b h ≤ 99 := fun b h => hear_le δ Λ σ b h
  have p2 := p7 v7
  have e7 := bs1 (dH δ) (by omega)
  rw [we32]
  simp +decide (disch := omega) only [↓wm1, wb32_0 hc, w0, w1, w7, w128, rI_wI, rP_wI, rL_wI, rI_wR, rP_wR, is_wI, is_wR, ia_wI, ia_wR, ow_wI, ow_wR, wn_add, wn_mul, wn_cl, wn_le, wn_lt, wn_inj, wn_ne1, wn_1ne, wn_gt1, wn_le1, nb0, nb1, am_kt, am_rt, List.cons_append, List.nil_append, true_and, and_true, not_true_eq_false, not_false_eq_true, imp_f, imp_t, implies_true, Nat.zero_add, if_true, if_false, false_and, and_false, fC hI.1, fW2 hI.1 hI.2.1, fD hI.1 hI.2.1.2.2.1]
  refine am_for (2 ^ dH δ) (fun j ls G' => (∀ U, U < j → am_gI G' 116 (dB δ * 128 + U) = wn 0) ∧ Kp MS5 G G' ∧ ls = [some (.ref 115), some (.ref 3), some (.ref 32), some (.int (wn (dB δ))), some (.int (wn (dH δ))), some (.int (wn j)), none]) ?_ ?_ (2 ^ dH δ) 0 (by omega) _ _ ⟨fun U hU => by omega, Kp.refl G, rfl⟩
  · rintro j hj _ G1 ⟨f1, k1, rfl⟩ nx
    have c1 : ¬ 2 ^ dH δ ≤ j := by omega
    have s1 := hI.1.kp k1
    have x1 : dB δ * 128 + j < 896 := by omega
    rw [wb32_20 hc]
    simp +decide (disch := omega) only [↓wm1, wb32_29 hc, w0, w1, w7, w128, rI_wI, rP_wI, rL_wI, rI_wR, rP_wR, is_wI, is_wR, ia_wI, ia_wR, ow_wI, ow_wR, wn_add, wn_mul, wn_cl, wn_le, wn_lt, wn_inj, wn_ne1, wn_1ne, wn_gt1, wn_le1, nb0, nb1, am_kt, am_rt, List.cons_append, List.nil_append, true_and, and_true, not_true_eq_false, not_false_eq_true, imp_f, imp_t, implies_true, Nat.zero_add, if_true, if_false, false_and, and_false, e7, c1, fC s1, q115 s1, ow116 s1, x1]
    refine nx _ _ ⟨fun U hU => ?_, k1.wI (Or.inr (by omega)) _, rfl⟩
    rw [rI_wI]
    by_cases e : U = j
    · rw [if_pos ⟨rfl, by rw [e]⟩]
    · rw [if_neg (by omega)]; exact f1 U (by omega)
  · rintro _ G1 ⟨f1, k1, rfl⟩
    rw [wb32_20 hc]
    simp +decide (disch := omega) only [↓wm1, wb32_49 hc, w0, w1, w7, w128, rI_wI, rP_wI, rL_wI, rI_wR, rP_wR, is_wI, is_wR, ia_wI, ia_wR, ow_wI, ow_wR, wn_add, wn_mul, wn_cl, wn_le, wn_lt, wn_inj, wn_ne1, wn_1ne, wn_gt1, wn_le1, nb0, nb1, am_kt, am_rt, List.cons_append, List.nil_append, true_and, and_true, not_true_eq_false, not_false_eq_true, imp_f, imp_t, implies_true, Nat.zero_add, if_true, if_false, false_and, and_false, e7, Nat.le_refl]
    have l0 : wn (dB δ) - wn 1 = lim (dB δ - 0) := rfl
    rw [l0]
    refine am_for (dB δ) (fun j ls G' => (∀ b, dB δ - j ≤ b → b ≤ dB δ → Mtc G' (spk σ) (hear δ Λ σ) (dH δ) (dB δ) b) ∧ (∀ b, dB δ - j ≤ b → b < dB δ → Rtc G' (spk σ) (hear δ Λ σ) (dH δ) b) ∧ Kp MS5 G G' ∧ ls = [some (.ref 115), some (.ref 3), some (.ref 32), some (.int (wn (dB δ))), some (.int (wn (dH δ))), some (.int (lim (dB δ - j))), none]) ?_ ?_ (dB δ) 0 (by omega) _ _ ⟨fun b hb1 hb2 U hU => ?_, fun b hb1 hb2 => by omega, k1, rfl⟩
    · rintro j hj _ G2 ⟨M2, R2, k2, rfl⟩ nx
      obtain ⟨b, hb⟩ : ∃ b, dB δ - j = b + 1 := ⟨dB δ - j - 1, by omega⟩
      have hb2 : dB δ - (j + 1) = b := by omega
      have hbB : b < dB δ := by omega
      rw [hb] at M2 R2 ⊢
      rw [hb2] at nx
      rw [lim_s, wb32_54 hc]
      have I2 := hI.m5 k2
      simp +decide (disch := omega) only [↓wm1, wb32_59 hc, w0, w1, w7, w128, rI_wI, rP_wI, rL_wI, rI_wR, rP_wR, is_wI, is_wR, ia_wI, ia_wR, ow_wI, ow_wR, wn_add, wn_mul, wn_cl, wn_le, wn_lt, wn_inj, wn_ne1, wn_1ne, wn_gt1, wn_le1, nb0, nb1, am_kt, am_rt, List.cons_append, List.nil_append, true_and, and_true, not_true_eq_false, not_false_eq_true, imp_f, imp_t, implies_true, Nat.zero_add, if_true, if_false, false_and, and_false, Nat.not_lt_zero]
      refine am_for (dH δ) (fun j ls G' => (∀ h, h < j → am_gI G' 117 (b * 7 + h) = if spk σ b = true then wn (hear δ Λ σ b h) else mm) ∧ Kp (fun a i => HS a i ∨ (a = 117 ∧ b * 7 ≤ i ∧ i < b * 7 + 7)) G2 G' ∧ ls = [some (.ref 115), some (.ref 3), some (.ref 32), some (.int (wn (dB δ))), some (.int (wn (dH δ))), some (.int (wn b)), some (.int (wn j))]) ?_ ?_ (dH δ) 0 (by omega) _ _ ⟨fun U hU => by omega, Kp.refl G2, rfl⟩
      · rintro h hh _ G3 ⟨f3, k3, rfl⟩ nx3
        have c1 : ¬ dH δ ≤ h := by omega
        have I3 : CI G3 q l δ Λ σ := I2.m5 (k3.mono (fun a i z => by rcases z with z | z; exact Or.inl z; exact Or.inr (by omega)))
        have x1 : b * 7 + h < 42 := by omega
        rw [wb32_62 hc]
        cases hs : spk σ b with
        | true =>
          rw [hs] at f3 nx3
          simp +decide (disch := omega) only [↓wm1, wb32_69 hc, wb32_87 hc, wb32_90 hc, w0, w1, w7, w128, rI_wI, rP_wI, rL_wI, rI_wR, rP_wR, is_wI, is_wR, ia_wI, ia_wR, ow_wI, ow_wR, wn_add, wn_mul, wn_cl, wn_le, wn_lt, wn_inj, wn_ne1, wn_1ne, wn_gt1, wn_le1, nb0, nb1, am_kt, am_rt, List.cons_append, List.nil_append, true_and, and_true, not_true_eq_false, not_false_eq_true, imp_f, imp_t, implies_true, Nat.zero_add, if_true, if_false, false_and, and_false, c1, fC I3.1, q115 I3.1, ct48i I3.1 h32 I3.2.2 hg ht (show b < 6 by omega), hs, b01]
          refine ct82 I3.1 I3.2.1 h32 I3.2.2 hbB hh hH9 (fun G4 k4 => ?_)
          have s4 := I3.1.kp k4
          simp +decide (disch := omega) only [↓wm1, wb32_99 hc, wb32_103 hc, w0, w1, w7, w128, rI_wI, rP_wI, rL_wI, rI_wR, rP_wR, is_wI, is_wR, ia_wI, ia_wR, ow_wI, ow_wR, wn_add, wn_mul, wn_cl, wn_le, wn_lt, wn_inj, wn_ne1, wn_1ne, wn_gt1, wn_le1, nb0, nb1, am_kt, am_rt, List.cons_append, List.nil_append, true_and, and_true, not_true_eq_false, not_false_eq_true, imp_f, imp_t, implies_true, Nat.zero_add, if_true, if_false, false_and, and_false, ow117 s4, x1]
          refine nx3 _ _ ⟨fun h' hh' => ?_, (k3.trans (k4.mono (fun a i z => Or.inl z))).wI (Or.inr ⟨rfl, by omega, by omega⟩) _, rfl⟩
          rw [if_pos (show true = true from rfl), rI_wI]
          by_cases e : h' = h
          · rw [if_pos ⟨rfl, by rw [e]⟩, e]
          · rw [if_neg (by omega), k4.i (by unfold HS; omega), f3 h' (by omega), if_pos rfl]
        | false =>
          rw [hs] at f3 nx3
          simp +decide (disch := omega) only [↓wm1, wb32_69 hc, wb32_87 hc, wb32_102 hc, wb32_103 hc, w0, w1, w7, w128, rI_wI, rP_wI, rL_wI, rI_wR, rP_wR, is_wI, is_wR, ia_wI, ia_wR, ow_wI, ow_wR, wn_add, wn_mul, wn_cl, wn_le, wn_lt, wn_inj, wn_ne1, wn_1ne, wn_gt1, wn_le1, nb0, nb1, am_kt, am_rt, List.cons_append, List.nil_append, true_and, and_true, not_true_eq_false, not_false_eq_true, imp_f, imp_t, implies_true, Nat.zero_add, if_true, if_false, false_and, and_false, c1, fC I3.1, q115 I3.1, ct48i I3.1 h32 I3.2.2 hg ht (show b < 6 by omega), hs, b01, Bool.false_eq_true, ow117 I3.1, x1]
          refine nx3 _ _ ⟨fun h' hh' => ?_, k3.wI (Or.inr ⟨rfl, by omega, by omega⟩) _, rfl⟩
          rw [if_neg (show ¬ false = true by decide), rI_wI]
          by_cases e : h' = h
          · rw [if_pos ⟨rfl, by rw [e]⟩]
          · rw [if_neg (by omega), f3 h' (by omega), if_neg (by decide)]
      · rintro _ G3 ⟨f3, k3, rfl⟩
        have I3 : CI G3 q l δ Λ σ := I2.m5 (k3.mono (fun a i z => by rcases z with z | z; exact Or.inl z; exact Or.inr (by omega)))
        have M3 : ∀ b', b + 1 ≤ b' → b' ≤ dB δ → Mtc G3 (spk σ) (hear δ Λ σ) (dH δ) (dB δ) b' := fun b' y1 y2 U hU => by rw [k3.i (by unfold HS; omega)]; exact M2 b' y1 y2 U hU
        have R3 : ∀ b', b ≤ b' → b' < dB δ → Rtc G3 (spk σ) (hear δ Λ σ) (dH δ) b' := fun b' y1 y2 h hh => by
          by_cases e : b' = b
          · rw [e]; exact f3 h hh
          · rw [k3.i (by unfold HS; omega)]; exact R2 b' (by omega) y2 h hh
        rw [wb32_62 hc]
        simp +decide (disch := omega) only [↓wm1, wb32_110 hc, w0, w1, w7, w128, rI_wI, rP_wI, rL_wI, rI_wR, rP_wR, is_wI, is_wR, ia_wI, ia_wR, ow_wI, ow_wR, wn_add, wn_mul, wn_cl, wn_le, wn_lt, wn_inj, wn_ne1, wn_1ne, wn_gt1, wn_le1, nb0, nb1, am_kt, am_rt, List.cons_append, List.nil_append, true_and, and_true, not_true_eq_false, not_false_eq_true, imp_f, imp_t, implies_true, Nat.zero_add, if_true, if_false, false_and, and_false, Nat.le_refl]
        refine am_for (2 ^ dH δ) (fun j ls G' => (∀ U, U < j → am_gI G' 116 (b * 128 + U) = wn (mo (spk σ) (hear δ Λ σ) (dH δ) (dB δ) (dB δ - b) U)) ∧ Kp (fun a i => a = 116 ∧ b * 128 ≤ i ∧ i < b * 128 + 128) G3 G' ∧ ls = [some (.ref 115), some (.ref 3), some (.ref 32), some (.int (wn (dB δ))), some (.int (wn (dH δ))), some (.int (wn b)), some (.int (wn j))]) ?_ ?_ (2 ^ dH δ) 0 (by omega) _ _ ⟨fun U hU => by omega, Kp.refl G3, rfl⟩
        · rintro U hU _ G4 ⟨f4, k4, rfl⟩ nx4
          have c1 : ¬ 2 ^ dH δ ≤ U := by omega
          have s4 := I3.1.kp k4
          have x1 : b * 128 + U < 896 := by omega
          have M4 : Mtc G4 (spk σ) (hear δ Λ σ) (dH δ) (dB δ) (b + 1) := fun U hU => by rw [k4.i (by omega)]; exact M3 (b + 1) (by omega) (by omega) U hU
          have R4 : Rtc G4 (spk σ) (hear δ Λ σ) (dH δ) b := fun h hh => by rw [k4.i (by omega)]; exact R3 b (by omega) hbB h hh
          rw [wb32_113 hc]
          simp +decide (disch := omega) only [↓wm1, wb32_122 hc, wb32_145 hc, w0, w1, w7, w128, rI_wI, rP_wI, rL_wI, rI_wR, rP_wR, is_wI, is_wR, ia_wI, ia_wR, ow_wI, ow_wR, wn_add, wn_mul, wn_cl, wn_le, wn_lt, wn_inj, wn_ne1, wn_1ne, wn_gt1, wn_le1, nb0, nb1, am_kt, am_rt, List.cons_append, List.nil_append, true_and, and_true, not_true_eq_false, not_false_eq_true, imp_f, imp_t, implies_true, Nat.zero_add, if_true, if_false, false_and, and_false, e7, c1, fC s4, q115 s4, ct33 s4 hw v6 hbB v7 hU M4 R4, ow116 s4, x1]
          refine nx4 _ _ ⟨fun U' hU' => ?_, k4.wI ⟨rfl, by omega, by omega⟩ _, rfl⟩
          rw [rI_wI]
          by_cases e : U' = U
          · rw [if_pos ⟨rfl, by rw [e]⟩, e]
          · rw [if_neg (by omega)]; exact f4 U' (by omega)
        · rintro _ G4 ⟨f4, k4, rfl⟩
          rw [wb32_113 hc]
          simp +decide (disch := omega) only [↓wm1, wb32_152 hc, w0, w1, w7, w128, rI_wI, rP_wI, rL_wI, rI_wR, rP_wR, is_wI, is_wR, ia_wI, ia_wR, ow_wI, ow_wR, wn_add, wn_mul, wn_cl, wn_le, wn_lt, wn_inj, wn_ne1, wn_1ne, wn_gt1, wn_le1, nb0, nb1, am_kt, am_rt, List.cons_append, List.nil_append, true_and, and_true, not_true_eq_false, not_false_eq_true, imp_f, imp_t, implies_true, Nat.zero_add, if_true, if_false, false_and, and_false, e7, Nat.le_refl, lim_m]
          refine nx _ _ ⟨fun b' y1 y2 U hU => ?_, fun b' y1 y2 h hh => ?_, (k2.trans (k3.mono (fun a i z => by rcases z with z | z; exact Or.inl z; exact Or.inr (by omega)))).trans (k4.mono (fun a i z => by unfold MS5; omega)), rfl⟩
          · by_cases e : b' = b
            · rw [e]; exact f4 U hU
            · rw [k4.i (by omega)]; exact M3 b' (by omega) y2 U hU
          · rw [k4.i (by omega)]; exact R3 b' y1 y2 h hh
    · rintro _ G2 ⟨M2, R2, k2, rfl⟩
      rw [Nat.sub_self] at M2 R2 ⊢
      have s2 := hI.1.kp k2
      have q0 : mm < wn 0 := by decide
      rw [lim_0, wb32_54 hc]
      simp +decide (disch := omega) only [↓wm1, wb32_158 hc, w0, w1, w7, w128, rI_wI, rP_wI, rL_wI, rI_wR, rP_wR, is_wI, is_wR, ia_wI, ia_wR, ow_wI, ow_wR, wn_add, wn_mul, wn_cl, wn_le, wn_lt, wn_inj, wn_ne1, wn_1ne, wn_gt1, wn_le1, nb0, nb1, am_kt, am_rt, List.cons_append, List.nil_append, true_and, and_true, not_true_eq_false, not_false_eq_true, imp_f, imp_t, implies_true, Nat.zero_add, if_true, if_false, false_and, and_false, q0, fC s2]
      refine ct35 s2 hw v6 v7 (fun b hb => M2 b (Nat.zero_le b) hb) (fun b hb => R2 b (Nat.zero_le b) hb) (fun G3 g3 k3 => ?_)
      have s3 := s2.kp k3
      have e0 : am_gI G3 116 0 = wn (mo (spk σ) (hear δ Λ σ) (dH δ) (dB δ) (dB δ) 0) := by
        rw [k3.i (by omega)]
        have := M2 0 (Nat.zero_le _) (Nat.zero_le _) 0 (Nat.two_pow_pos _)
        rw [Nat.sub_zero] at this
        exact this
      simp +decide (disch := omega) only [↓wm1, wb32_165 hc, w0, w1, w7, w128, rI_wI, rP_wI, rL_wI, rI_wR, rP_wR, is_wI, is_wR, ia_wI, ia_wR, ow_wI, ow_wR, wn_add, wn_mul, wn_cl, wn_le, wn_lt, wn_inj, wn_ne1, wn_1ne, wn_gt1, wn_le1, nb0, nb1, am_kt, am_rt, List.cons_append, List.nil_append, true_and, and_true, not_true_eq_false, not_false_eq_true, imp_f, imp_t, implies_true, Nat.zero_add, if_true, if_false, false_and, and_false, fC s3, q115 s3, ia116 s3, e0]
      exact k G3 g3 (k2.trans (k3.mono (fun a i z => by unfold MS5; omega)))
    · have e : b = dB δ := by omega
      rw [e, Nat.sub_self]
      exact f1 U hU
def q_suit (V : Vt) : Int32 := wn (mo (spk (vσ V)) (hear (vδ V) (vΛ V) (vσ V)) (dH (vδ V)) (dB (vδ V)) (dB (vδ V)) 0)
def q_suited (V : Vt) (b : Nat) : Int32 := gvf (spk (vσ V)) (hear (vδ V) (vΛ V) (vσ V)) (dH (vδ V)) (dB (vδ V)) (dB (vδ V)) 0 b
def sp_suited (V : Vt) (x1 : Int32) : Res := if vin2 x1 0 (dB (vδ V)) = true then .inl (q_suited V (u x1)) else .inr 0
theorem m5q {G' : am_G} (k : Kp MS5 G G') : Kp QSC G G' := k.mono (fun a i z => by unfold MS5 HS at z; unfold QSC; omega)
theorem cl_suit (hR : RepC G V) : am_C am_T (d + 12) 118 [.ref 0] G (OC G V (.inl (q_suit V))) := by
  have hc := am_C_one am_T (d + 11)
  have hsh := hR.1
  have hv := hR.2.1
  obtain ⟨q, l, hT, -, -⟩ := hR.2.2.2.1
  have hr := hR.2.2.2.2.1.1
  have bB := hv.2.2.2.1.1
  have hs9 := hv.2.2.2.2.2.1
  have hg := hs9.1.g6 bB
  have ht := hs9.1.t6 bB
  have h9 := hs9.2
  rw [we118]
  generalize hP : OC G V (.inl (q_suit V)) = P
  simp +decide (disch := omega) only [↓wm1, wb118_0 hc, w0, w1, rI_wI, rP_wI, rL_wI, rI_wR, rP_wR, is_wI, is_wR, ia_wI, ia_wR, ow_wI, ow_wR, wn_add, wn_mul, wn_cl, wn_le, wn_lt, wn_inj, wn_ne1, wn_1ne, wn_gt1, wn_le1, nb0, nb1, am_kt, am_rt, List.cons_append, List.nil_append, true_and, and_true, not_true_eq_false, not_false_eq_true, imp_f, imp_t, implies_true, Nat.zero_add, if_true, if_false, false_and, and_false, cn118, fC hsh]
  refine ct32 ⟨hsh, hT, hr⟩ hg ht (by omega) (fun G1 g1 k1 => ?_)
  simp +decide (disch := omega) only [↓wm1, wb118_18 hc, w0, w1, rI_wI, rP_wI, rL_wI, rI_wR, rP_wR, is_wI, is_wR, ia_wI, ia_wR, ow_wI, ow_wR, wn_add, wn_mul, wn_cl, wn_le, wn_lt, wn_inj, wn_ne1, wn_1ne, wn_gt1, wn_le1, nb0, nb1, am_kt, am_rt, List.cons_append, List.nil_append, true_and, and_true, not_true_eq_false, not_false_eq_true, imp_f, imp_t, implies_true, Nat.zero_add, if_true, if_false, false_and, and_false, cn118]
  rw [← hP]; exact OC_ok hR (m5q k1)
theorem cl_suited (hR : RepC G V) (hB : am_rm G 1 6) (x1 : Int32) : am_C am_T (d + 12) 119 [.ref 0, .int x1] G (OC G (rfV V (sp_suited V x1)) (sp_suited V x1)) := by
  have hc := am_C_one am_T (d + 11)
  have hsh := hR.1
  have hv := hR.2.1
  obtain ⟨q, l, hT, -, -⟩ := hR.2.2.2.1
  have hr := hR.2.2.2.2.1.1
  have bB := hv.2.2.2.1.1
  have hs9 := hv.2.2.2.2.2.1
  have hg := hs9.1.g6 bB
  have ht := hs9.1.t6 bB
  have h9 := hs9.2
  unfold sp_suited
  rw [we119]
  rcases vin2_or x1 0 (dB (vδ V)) (by omega) (by omega) with ⟨b1, hl1, hh1, rfl⟩ | hx1
  · rw [if_pos (vin2_t hl1 hh1 (by omega)), u_wn (by omega)]
    generalize hP : OC G (rfV V (.inl (q_suited V b1))) (.inl (q_suited V b1)) = P
    simp +decide (disch := omega) only [↓wm1, wb119_0 hc, w0, w1, rI_wI, rP_wI, rL_wI, rI_wR, rP_wR, is_wI, is_wR, ia_wI, ia_wR, ow_wI, ow_wR, wn_add, wn_mul, wn_cl, wn_le, wn_lt, wn_inj, wn_ne1, wn_1ne, wn_gt1, wn_le1, nb0, nb1, am_kt, am_rt, List.cons_append, List.nil_append, true_and, and_true, not_true_eq_false, not_false_eq_true, imp_f, imp_t, implies_true, Nat.zero_add, if_true, if_false, false_and, and_false, cn119, fC hsh, ct141y hsh hT hh1]
    simp +decide (disch := omega) only [↓wm1, wb119_5 hc, w0, w1, rI_wI, rP_wI, rL_wI, rI_wR, rP_wR, is_wI, is_wR, ia_wI, ia_wR, ow_wI, ow_wR, wn_add, wn_mul, wn_cl, wn_le, wn_lt, wn_inj, wn_ne1, wn_1ne, wn_gt1, wn_le1, nb0, nb1, am_kt, am_rt, List.cons_append, List.nil_append, true_and, and_true, not_true_eq_false, not_false_eq_true, imp_f, imp_t, implies_true, Nat.zero_add, if_true, if_false, false_and, and_false, cn119, fC hsh]
    refine ct32 ⟨hsh, hT, hr⟩ hg ht (by omega) (fun G1 g1 k1 => ?_)
    have s1 := hsh.kp k1
    have e1 := g1 b1 hh1
    have b6 : b1 < 6 := by omega
    simp +decide (disch := omega) only [↓wm1, wb119_23 hc, w0, w1, rI_wI, rP_wI, rL_wI, rI_wR, rP_wR, is_wI, is_wR, ia_wI, ia_wR, ow_wI, ow_wR, wn_add, wn_mul, wn_cl, wn_le, wn_lt, wn_inj, wn_ne1, wn_1ne, wn_gt1, wn_le1, nb0, nb1, am_kt, am_rt, List.cons_append, List.nil_append, true_and, and_true, not_true_eq_false, not_false_eq_true, imp_f, imp_t, implies_true, Nat.zero_add, if_true, if_false, false_and, and_false, cn119, fC s1, q115 s1, ia118 s1, b6, e1]
    rw [← hP]; exact OC_ok hR (m5q k1)
  · rw [if_neg (vin2_nf hx1)]
    generalize hP : OC G (rfV V (.inr 0)) (.inr 0) = P
    simp +decide (disch := omega) only [↓wm1, wb119_0 hc, w0, w1, rI_wI, rP_wI, rL_wI, rI_wR, rP_wR, is_wI, is_wR, ia_wI, ia_wR, ow_wI, ow_wR, wn_add, wn_mul, wn_cl, wn_le, wn_lt, wn_inj, wn_ne1, wn_1ne, wn_gt1, wn_le1, nb0, nb1, am_kt, am_rt, List.cons_append, List.nil_append, true_and, and_true, not_true_eq_false, not_false_eq_true, imp_f, imp_t, implies_true, Nat.zero_add, if_true, if_false, false_and, and_false, cn119, fC hsh, ct141n hx1 hsh hT hB]
    rw [← hP]; exact OC_7 hR hB
end
