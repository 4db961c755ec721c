/-! Rows, the object's side. -/
def Mn (G : am_G) : Prop := (∀ i, i < 7 → am_gI G 100001 i = wn (mny i)) ∧ ∀ i, i < 7 → am_gI G 100002 i = wn (fir i)
theorem Mn.kp {Sc : Nat → Nat → Prop} {G G' : am_G} (h : Mn G) (k : Kp Sc G G') (hn : ∀ a i, Sc a i → a < 100000) : Mn G' :=
  ⟨fun i hi => by rw [k.i (fun z => by have := hn _ _ z; omega)]; exact h.1 i hi, fun i hi => by rw [k.i (fun z => by have := hn _ _ z; omega)]; exact h.2 i hi⟩
theorem ia1 {G : am_G} : (∀ j, j < 7 → am_ia G 100001 (wn j)) ∧ ∀ j, j < 7 → am_ia G 100002 (wn j) :=
  ⟨fun j hj => Or.inr ⟨Or.inr (Or.inl rfl), wn_in (n := 7) hj (by decide)⟩, fun j hj => Or.inr ⟨Or.inr (Or.inr rfl), wn_in (n := 7) hj (by decide)⟩⟩
theorem q110 {G : am_G} (h : Sh G) : am_gP G 110 0 = 111 ∧ am_gP G 110 1 = 112 ∧ am_gP G 110 2 = 113 ∧ am_gP G 110 3 = 114 := ⟨q110_0 h, q110_1 h, q110_2 h, q110_3 h⟩
section
variable {G : am_G} {d : Nat} {post : am_O → am_G → Prop} {n row t : Nat}
theorem ct43 {U s : Nat} (hU : U < 64) (hs : s < 6) : am_C am_T (d + 1) 43 [.int (wn U), .int (wn s)] G post ↔ post (.inl (some (.int (wn (un U 6 0 s))))) G := by
  have hc := am_C_one am_T d
  refine am_iff (fun post k => ?_) post
  rw [we43]
  simp +decide (disch := omega) only [↓wm1, wb43_0 hc, w0, w1, w6, rI_wI, rP_wI, rL_wI, rI_wR, rP_wR, is_wI, is_wR, ia_wI, ia_wR, ow_wI, ow_wR, wn_add, wn_mul, wn_cl, wn_le, wn_lt, wn_inj, wn_ne1, wn_1ne, wn_gt1, wn_le1, nb0, nb1, am_kt, am_rt, List.cons_append, List.nil_append, true_and, and_true, not_true_eq_false, not_false_eq_true, imp_f, imp_t, implies_true, Nat.zero_add, if_true, if_false, false_and, and_false]
  refine am_for 6 (fun j ls G' => G' = G ∧ ∃ c, c ≤ s ∧ un U (6 - j) j (s - c) = un U 6 0 s ∧ ls = [some (.int (wn U)), some (.int (wn s)), some (.int (wn c)), some (.int (wn j))]) ?_ ?_ 6 0 rfl _ _ ⟨rfl, 0, by omega, rfl, rfl⟩
  · rintro j hj _ _ ⟨rfl, c, hcs, hu, rfl⟩ nx
    have c1 : ¬ 6 ≤ j := by omega
    have e := bsr U (by omega) j (by omega)
    have b1 := bt_01 U j
    obtain ⟨f, hf⟩ : ∃ f, 6 - j = f + 1 := ⟨5 - j, by omega⟩
    have hf2 : 6 - (j + 1) = f := by omega
    rw [hf] at hu
    simp only [un] at hu
    rw [wb43_4 hc]
    by_cases c2 : bt U j = 0
    · rw [if_pos c2] at hu
      rw [c2] at e
      by_cases c3 : c = s
      · rw [if_pos (by omega)] at hu
        simp +decide (disch := omega) only [↓wm1, wb43_10 hc, wb43_18 hc, wb43_23 hc, w0, w1, w6, rI_wI, rP_wI, rL_wI, rI_wR, rP_wR, is_wI, is_wR, ia_wI, ia_wR, ow_wI, ow_wR, wn_add, wn_mul, wn_cl, wn_le, wn_lt, wn_inj, wn_ne1, wn_1ne, wn_gt1, wn_le1, nb0, nb1, am_kt, am_rt, List.cons_append, List.nil_append, true_and, and_true, not_true_eq_false, not_false_eq_true, imp_f, imp_t, implies_true, Nat.zero_add, if_true, if_false, false_and, and_false, c1, e, c3]
        rw [hu]; exact k
      · rw [if_neg (by omega)] at hu
        simp +decide (disch := omega) only [↓wm1, wb43_10 hc, wb43_18 hc, wb43_25 hc, wb43_28 hc, w0, w1, w6, rI_wI, rP_wI, rL_wI, rI_wR, rP_wR, is_wI, is_wR, ia_wI, ia_wR, ow_wI, ow_wR, wn_add, wn_mul, wn_cl, wn_le, wn_lt, wn_inj, wn_ne1, wn_1ne, wn_gt1, wn_le1, nb0, nb1, am_kt, am_rt, List.cons_append, List.nil_append, true_and, and_true, not_true_eq_false, not_false_eq_true, imp_f, imp_t, implies_true, Nat.zero_add, if_true, if_false, false_and, and_false, c1, e, c3]
        exact nx _ _ ⟨rfl, c + 1, by omega, by rw [hf2, show s - (c + 1) = s - c - 1 by omega]; exact hu, rfl⟩
    · rw [if_neg c2] at hu
      have c4 : bt U j = 1 := by omega
      rw [c4] at e
      simp +decide (disch := omega) only [↓wm1, wb43_10 hc, wb43_28 hc, w0, w1, w6, rI_wI, rP_wI, rL_wI, rI_wR, rP_wR, is_wI, is_wR, ia_wI, ia_wR, ow_wI, ow_wR, wn_add, wn_mul, wn_cl, wn_le, wn_lt, wn_inj, wn_ne1, wn_1ne, wn_gt1, wn_le1, nb0, nb1, am_kt, am_rt, List.cons_append, List.nil_append, true_and, and_true, not_true_eq_false, not_false_eq_true, imp_f, imp_t, implies_true, Nat.zero_add, if_true, if_false, false_and, and_false, c1, e]
      exact nx _ _ ⟨rfl, c, hcs, by rw [hf2]; exact hu, rfl⟩
  · rintro _ _ ⟨rfl, c, hcs, hu, rfl⟩
    rw [wb43_4 hc]
    simp +decide (disch := omega) only [↓wm1, wb43_34 hc, w0, w1, w6, rI_wI, rP_wI, rL_wI, rI_wR, rP_wR, is_wI, is_wR, ia_wI, ia_wR, ow_wI, ow_wR, wn_add, wn_mul, wn_cl, wn_le, wn_lt, wn_inj, wn_ne1, wn_1ne, wn_gt1, wn_le1, nb0, nb1, am_kt, am_rt, List.cons_append, List.nil_append, true_and, and_true, not_true_eq_false, not_false_eq_true, imp_f, imp_t, implies_true, Nat.zero_add, if_true, if_false, false_and, and_false, Nat.le_refl]
    rw [← hu] at k
    exact k
theorem ct42 (hsh : Sh G) (hm : Mn G) (h1 : 1 ≤ n) (h6 : n ≤ 6) (hr : row < mny n) (k : ∀ G', (∀ i, i < n → am_gI G' 113 i = wn (orv n row i)) → Kp (fun a _ => a = 113) G G' → post (.inl none) G') : am_C am_T (d + 2) 42 [.ref 110, .int (wn n), .int (wn row)] G post := by
  have hc := am_C_one am_T (d + 1)
  have hn7 := mny_le n (by omega)
  have ho : ∀ i, i < n → orv n row i < 6 := fun i hi => by have := (lyc_f h1 h6 hr hi).1; omega
  rw [we42]
  simp +decide (disch := omega) only [↓wm1, wb42_0 hc, w0, w1, rI_wI, rP_wI, rL_wI, rI_wR, rP_wR, is_wI, is_wR, ia_wI, ia_wR, ow_wI, ow_wR, wn_add, wn_mul, wn_cl, wn_le, wn_lt, wn_inj, wn_ne1, wn_1ne, wn_gt1, wn_le1, nb0, nb1, am_kt, am_rt, List.cons_append, List.nil_append, true_and, and_true, not_true_eq_false, not_false_eq_true, imp_f, imp_t, implies_true, Nat.zero_add, if_true, if_false, false_and, and_false]
  refine am_for n (fun j ls G' => (∀ i, i < j → am_gI G' 113 i = wn (orv n row i)) ∧ Kp (fun a _ => a = 113) G G' ∧ ∃ o2 o6, ls = [some (.ref 110), some (.int (wn n)), o2, some (.int (wn (um (orv n row) j))), some (.int (wn (row % mny (n - j)))), some (.int (wn j)), o6]) ?_ ?_ n 0 (by omega) _ _ ⟨fun i hi => by omega, Kp.refl G, _, _, by rw [Nat.sub_zero, Nat.mod_eq_of_lt hr]; rfl⟩
  · rintro j hj _ G1 ⟨f1, k1, o2, o6, rfl⟩ nx
    have s1 := hsh.kp k1
    have m1 := hm.kp k1 (fun a i z => by omega)
    have c1 : ¬ n ≤ j := by omega
    obtain ⟨y1, y2, y3, -, -, -, y7⟩ := lyc_f h1 h6 hr hj
    have e1 : wn n - wn 1 - wn j = wn (n - 1 - j) := by rw [wn_sub h1, wn_sub (by omega)]
    have mp := mny_pos (n - 1 - j) (by omega)
    have ml := mny_le (n - 1 - j) (by omega)
    have c2 : ¬ mny (n - 1 - j) = 0 := by omega
    have rl : row % mny (n - j) ≤ row := Nat.mod_le _ _
    have e2 : wn (row % mny (n - j)) / wn (mny (n - 1 - j)) = wn (row % mny (n - j) / mny (n - 1 - j)) := wn_div (by omega) (by omega)
    have e3 : am_rem (wn (row % mny (n - j))) (wn (mny (n - 1 - j))) = wn (row % mny (n - 1 - j)) := by rw [wn_rem (by omega) (by omega), y7]
    have u6 := um_lt ho j (by omega)
    have j6 : j < 6 := by omega
    have e4 := bs1 (orv n row j) (by omega)
    have e5 := bor6 (um (orv n row) j) u6 (orv n row j) (by omega)
    have e6 : n - (j + 1) = n - 1 - j := by omega
    rw [wb42_8 hc]
    simp +decide (disch := omega) only [↓wm1, wb42_14 hc, wb42_41 hc, w0, w1, rI_wI, rP_wI, rL_wI, rI_wR, rP_wR, is_wI, is_wR, ia_wI, ia_wR, ow_wI, ow_wR, wn_add, wn_mul, wn_cl, wn_le, wn_lt, wn_inj, wn_ne1, wn_1ne, wn_gt1, wn_le1, nb0, nb1, am_kt, am_rt, List.cons_append, List.nil_append, true_and, and_true, not_true_eq_false, not_false_eq_true, imp_f, imp_t, implies_true, Nat.zero_add, if_true, if_false, false_and, and_false, c1, e1, ia1, m1.1, c2, fC s1, q110 s1, e2, ct43 u6 y2, y3, ow113 s1, ia113 s1, j6, e3, e4, e5]
    refine nx _ _ ⟨fun i hi => ?_, k1.wI rfl _, _, _, by rw [e6]; rfl⟩
    rw [rI_wI]
    by_cases e : i = j
    · rw [if_pos ⟨rfl, e⟩, e]
    · rw [if_neg (by omega)]; exact f1 i (by omega)
  · rintro _ G1 ⟨f1, k1, o2, o6, rfl⟩
    rw [wb42_8 hc]
    simp +decide (disch := omega) only [↓wm1, wb42_67 hc, w0, w1, rI_wI, rP_wI, rL_wI, rI_wR, rP_wR, is_wI, is_wR, ia_wI, ia_wR, ow_wI, ow_wR, wn_add, wn_mul, wn_cl, wn_le, wn_lt, wn_inj, wn_ne1, wn_1ne, wn_gt1, wn_le1, nb0, nb1, am_kt, am_rt, List.cons_append, List.nil_append, true_and, and_true, not_true_eq_false, not_false_eq_true, imp_f, imp_t, implies_true, Nat.zero_add, if_true, if_false, false_and, and_false, Nat.le_refl]
    exact k G1 f1 k1
theorem ct41 (ht : t < 32) : am_C am_T (d + 1) 41 [.int (wn t)] G post ↔ post (.inl (some (.int (wn (b01 (isc t)))))) G := by
  have hc := am_C_one am_T d
  have e := isc_ok t ht
  rw [we41]
  cases hi : isc t with
  | true =>
    have c := e.mpr hi
    simp +decide (disch := omega) only [↓wm1, wb41_0 hc, wb41_8 hc, wb41_12 hc, wb41_13 hc, w0, w1, rI_wI, rP_wI, rL_wI, rI_wR, rP_wR, is_wI, is_wR, ia_wI, ia_wR, ow_wI, ow_wR, wn_add, wn_mul, wn_cl, wn_le, wn_lt, wn_inj, wn_ne1, wn_1ne, wn_gt1, wn_le1, nb0, nb1, am_kt, am_rt, List.cons_append, List.nil_append, true_and, and_true, not_true_eq_false, not_false_eq_true, imp_f, imp_t, implies_true, Nat.zero_add, if_true, if_false, false_and, and_false, c, b01]
  | false =>
    have c : ¬ (wn t &&& (wn t <<< (wn 1 &&& 31)) = wn 0) := fun z => by rw [e.mp z] at hi; cases hi
    simp +decide (disch := omega) only [↓wm1, wb41_0 hc, wb41_8 hc, wb41_12 hc, wb41_13 hc, w0, w1, rI_wI, rP_wI, rL_wI, rI_wR, rP_wR, is_wI, is_wR, ia_wI, ia_wR, ow_wI, ow_wR, wn_add, wn_mul, wn_cl, wn_le, wn_lt, wn_inj, wn_ne1, wn_1ne, wn_gt1, wn_le1, nb0, nb1, am_kt, am_rt, List.cons_append, List.nil_append, true_and, and_true, not_true_eq_false, not_false_eq_true, imp_f, imp_t, implies_true, Nat.zero_add, if_true, if_false, false_and, and_false, c, b01, Bool.false_eq_true]
theorem ct44 {o : Nat → Nat} (hsh : Sh G) (hm : Mn G) (h1 : 1 ≤ n) (h6 : n ≤ 6) (ht : t < 32) (ho : ∀ i, i < n → o i < 6) (hf : ∀ i, i < n → am_gI G 113 i = wn (o i)) (k : ∀ G', Kp (fun a _ => a = 114) G G' → post (.inl (some (.int (wn (rkO n (swq o t (n - 1))))))) G') : am_C am_T (d + 2) 44 [.ref 110, .int (wn n), .int (wn t)] G post := by
  have hc := am_C_one am_T (d + 1)
  have cp := cp_ok hsh (a := 113) (b := 114) (n := 6) (m := 6) (c := 6) (by decide +kernel) (by decide +kernel) (by decide) (by decide) (by decide)
  rw [we44]
  simp +decide (disch := omega) only [↓wm1, wb44_0 hc, w0, w1, w6, rI_wI, rP_wI, rL_wI, rI_wR, rP_wR, is_wI, is_wR, ia_wI, ia_wR, ow_wI, ow_wR, wn_add, wn_mul, wn_cl, wn_le, wn_lt, wn_inj, wn_ne1, wn_1ne, wn_gt1, wn_le1, nb0, nb1, am_kt, am_rt, List.cons_append, List.nil_append, true_and, and_true, not_true_eq_false, not_false_eq_true, imp_f, imp_t, implies_true, Nat.zero_add, if_true, if_false, false_and, and_false, fC hsh, q110 hsh, cp]
  refine am_for (n - 1) (fun j ls G' => (∀ i, i < n → am_gI G' 114 i = wn (swq o t j i)) ∧ Kp (fun a _ => a = 114) G G' ∧ ls = [some (.ref 110), some (.int (wn n)), some (.int (wn t)), some (.int (wn j)), none, none, none]) ?_ ?_ (n - 1) 0 (by omega) _ _ ⟨fun i hi => ?_, (Kp.refl G).wR (fun i => rfl) _, rfl⟩
  · rintro j hj _ G1 ⟨f1, k1, rfl⟩ nx
    have s1 := hsh.kp k1
    have c1 : ¬ n ≤ j + 1 := by omega
    have e := bsr t (by omega) j (by omega)
    have b1 := bt_01 t j
    have j6 : j < 6 := by omega
    have j7 : j + 1 < 6 := by omega
    have g0 : am_gI G1 113 j = wn (o j) := by rw [k1.i (by omega)]; exact hf j (by omega)
    have g1 : am_gI G1 113 (j + 1) = wn (o (j + 1)) := by rw [k1.i (by omega)]; exact hf (j + 1) (by omega)
    rw [wb44_17 hc]
    by_cases c2 : bt t j = 1
    · rw [c2] at e
      simp +decide (disch := omega) only [↓wm1, wb44_24 hc, wb44_33 hc, wb44_61 hc, w0, w1, w6, rI_wI, rP_wI, rL_wI, rI_wR, rP_wR, is_wI, is_wR, ia_wI, ia_wR, ow_wI, ow_wR, wn_add, wn_mul, wn_cl, wn_le, wn_lt, wn_inj, wn_ne1, wn_1ne, wn_gt1, wn_le1, nb0, nb1, am_kt, am_rt, List.cons_append, List.nil_append, true_and, and_true, not_true_eq_false, not_false_eq_true, imp_f, imp_t, implies_true, Nat.zero_add, if_true, if_false, false_and, and_false, c1, e, fC s1, q110 s1, ia113 s1, ow114 s1, j6, j7, g0, g1]
      refine nx _ _ ⟨fun i hi => ?_, (k1.wI rfl _).wI rfl _, rfl⟩
      rw [swq_1 c2, rI_wI]
      by_cases z1 : i = j + 1
      · rw [if_pos ⟨rfl, z1⟩, if_pos z1]
      · rw [if_neg (fun z => z1 z.2), if_neg z1, rI_wI]
        by_cases z2 : i = j
        · rw [if_pos ⟨rfl, z2⟩, if_pos z2]
        · rw [if_neg (fun z => z2 z.2), if_neg z2]; exact f1 i hi
    · have c3 : bt t j = 0 := by omega
      rw [c3] at e
      simp +decide (disch := omega) only [↓wm1, wb44_24 hc, wb44_61 hc, w0, w1, w6, rI_wI, rP_wI, rL_wI, rI_wR, rP_wR, is_wI, is_wR, ia_wI, ia_wR, ow_wI, ow_wR, wn_add, wn_mul, wn_cl, wn_le, wn_lt, wn_inj, wn_ne1, wn_1ne, wn_gt1, wn_le1, nb0, nb1, am_kt, am_rt, List.cons_append, List.nil_append, true_and, and_true, not_true_eq_false, not_false_eq_true, imp_f, imp_t, implies_true, Nat.zero_add, if_true, if_false, false_and, and_false, c1, e]
      exact nx _ _ ⟨fun i hi => by rw [swq_0 c2]; exact f1 i hi, k1, rfl⟩
  · rintro _ G1 ⟨f1, k1, rfl⟩
    have s1 := hsh.kp k1
    have m1 := hm.kp k1 (fun a i z => by omega)
    have c1 : n ≤ n - 1 + 1 := by omega
    have hcl : ∀ i, i < n → swq o t (n - 1) i < 6 := fun i hi => swq_lt ho hi
    rw [wb44_17 hc]
    simp +decide (disch := omega) only [↓wm1, wb44_67 hc, w0, w1, w6, rI_wI, rP_wI, rL_wI, rI_wR, rP_wR, is_wI, is_wR, ia_wI, ia_wR, ow_wI, ow_wR, wn_add, wn_mul, wn_cl, wn_le, wn_lt, wn_inj, wn_ne1, wn_1ne, wn_gt1, wn_le1, nb0, nb1, am_kt, am_rt, List.cons_append, List.nil_append, true_and, and_true, not_true_eq_false, not_false_eq_true, imp_f, imp_t, implies_true, Nat.zero_add, if_true, if_false, false_and, and_false, c1]
    refine am_for n (fun j ls G' => G' = G1 ∧ ∃ o6, ls = [some (.ref 110), some (.int (wn n)), none, some (.int (wn (tsum (fun p => (swq o t (n - 1) p - ones (um (swq o t (n - 1)) p &&& (2 ^ swq o t (n - 1) p - 1))) * mny (n - 1 - p)) j))), some (.int (wn (um (swq o t (n - 1)) j))), some (.int (wn j)), o6]) ?_ ?_ n 0 (by omega) _ _ ⟨rfl, _, rfl⟩
    · rintro j hj _ _ ⟨rfl, o6, rfl⟩ nx
      have c2 : ¬ n ≤ j := by omega
      have j6 : j < 6 := by omega
      have g := f1 j hj
      have cl := hcl j hj
      have u6 := um_lt hcl j (by omega)
      obtain ⟨a1, a2, a3, a4⟩ := and6 (um (swq o t (n - 1)) j) u6 (swq o t (n - 1) j) cl
      have e1 := bs1 (swq o t (n - 1) j) (by omega)
      have e2 : wn (2 ^ swq o t (n - 1) j) - wn 1 = wn (2 ^ swq o t (n - 1) j - 1) := wn_sub a4
      have e3 := band6 _ u6 _ a3
      have e4 : wn (swq o t (n - 1) j) - wn (ones (um (swq o t (n - 1)) j &&& (2 ^ swq o t (n - 1) j - 1))) = wn (swq o t (n - 1) j - ones (um (swq o t (n - 1)) j &&& (2 ^ swq o t (n - 1) j - 1))) := wn_sub a2
      have e5 := bor6 (um (swq o t (n - 1)) j) u6 (swq o t (n - 1) j) cl
      have e6 : wn n - wn 1 - wn j = wn (n - 1 - j) := by rw [wn_sub h1, wn_sub (by omega)]
      rw [wb44_75 hc]
      simp +decide (disch := omega) only [↓wm1, wb44_81 hc, wb44_98 hc, w0, w1, w6, rI_wI, rP_wI, rL_wI, rI_wR, rP_wR, is_wI, is_wR, ia_wI, ia_wR, ow_wI, ow_wR, wn_add, wn_mul, wn_cl, wn_le, wn_lt, wn_inj, wn_ne1, wn_1ne, wn_gt1, wn_le1, nb0, nb1, am_kt, am_rt, List.cons_append, List.nil_append, true_and, and_true, not_true_eq_false, not_false_eq_true, imp_f, imp_t, implies_true, Nat.zero_add, if_true, if_false, false_and, and_false, c2, fC s1, q110 s1, ia114 s1, j6, g, e1, e2, e3, ct269 a1, ia1, m1.1, e4, e5, e6]
      exact nx _ _ ⟨rfl, _, rfl⟩
    · rintro _ _ ⟨rfl, o6, rfl⟩
      rw [wb44_75 hc]
      simp +decide (disch := omega) only [↓wm1, wb44_144 hc, w0, w1, w6, rI_wI, rP_wI, rL_wI, rI_wR, rP_wR, is_wI, is_wR, ia_wI, ia_wR, ow_wI, ow_wR, wn_add, wn_mul, wn_cl, wn_le, wn_lt, wn_inj, wn_ne1, wn_1ne, wn_gt1, wn_le1, nb0, nb1, am_kt, am_rt, List.cons_append, List.nil_append, true_and, and_true, not_true_eq_false, not_false_eq_true, imp_f, imp_t, implies_true, Nat.zero_add, if_true, if_false, false_and, and_false, Nat.le_refl]
      exact k _ k1
  · rw [swq_00, rI_wR, if_pos rfl, cpy0 (by omega)]; exact hf i hi
def LSC : Nat → Nat → Prop := fun a _ => 111 ≤ a ∧ a ≤ 114
/-- the rows of n bells are found -/
def Kn (G : am_G) (n : Nat) : Prop := ∀ row, row < mny n → am_gI G 111 (fir n + row) = wn (dlv n row)
theorem ct38 (hsh : Sh G) (hm : Mn G) (h1 : 1 ≤ n) (h6 : n ≤ 6) (hf : ∀ row, row < mny n → am_gI G 111 (fir n + row) = mm) (k : ∀ G', Kn G' n → Kp (fun a i => (a = 111 ∧ fir n ≤ i ∧ i < fir n + mny n) ∨ (112 ≤ a ∧ a ≤ 114)) G G' → post (.inl none) G') : am_C am_T (d + 3) 38 [.ref 110, .int (wn n)] G post := by
  have hc := am_C_one am_T (d + 2)
  have fl := fir_le n (by omega)
  have mp := mny_pos n (by omega)
  have ml := mny_le n (by omega)
  have n7 : n < 7 := by omega
  have f8 : fir n < 873 := by omega
  have en : wn n - wn 1 = wn (n - 1) := wn_sub h1
  have ep := bs1 (n - 1) (by omega)
  have p5 : 2 ^ (n - 1) ≤ 32 := Nat.pow_le_pow_right (n := 2) (show 0 < 2 by decide) (show n - 1 ≤ 5 by omega)
  have p1 : 1 ≤ 2 ^ (n - 1) := Nat.two_pow_pos _
  rw [we38]
  simp +decide (disch := omega) only [↓wm1, wb38_0 hc, w0, w1, rI_wI, rP_wI, rL_wI, rI_wR, rP_wR, is_wI, is_wR, ia_wI, ia_wR, ow_wI, ow_wR, wn_add, wn_mul, wn_cl, wn_le, wn_lt, wn_inj, wn_ne1, wn_1ne, wn_gt1, wn_le1, nb0, nb1, am_kt, am_rt, List.cons_append, List.nil_append, true_and, and_true, not_true_eq_false, not_false_eq_true, imp_f, imp_t, implies_true, Nat.zero_add, if_true, if_false, false_and, and_false, fC hsh, q110 hsh, ia1, hm.2, n7, ow111 hsh, ow112 hsh, f8]
  have k0 : Kp (fun a i => (a = 111 ∧ fir n ≤ i ∧ i < fir n + mny n) ∨ (112 ≤ a ∧ a ≤ 114)) G (am_wI (am_wI G 111 (fir n) (wn 0)) 112 0 (wn 0)) := ((Kp.refl G).wI (Or.inl ⟨rfl, by omega, by omega⟩) _).wI (Or.inr ⟨by decide, by decide⟩) _
  refine am_for (mny n) (fun i ls G' => ∃ Q, bfI n i Q ∧ i ≤ Q.length ∧ (∀ j x, Q[j]? = some x → am_gI G' 112 j = wn x) ∧ (∀ r, r < mny n → (r ∈ Q → am_gI G' 111 (fir n + r) = wn (dlv n r)) ∧ (r ∉ Q → am_gI G' 111 (fir n + r) = mm)) ∧ Kp (fun a i => (a = 111 ∧ fir n ≤ i ∧ i < fir n + mny n) ∨ (112 ≤ a ∧ a ≤ 114)) G G' ∧ ls = [some (.ref 110), some (.int (wn n)), some (.int (wn Q.length)), some (.int (wn i)), none, none, none]) ?_ ?_ (mny n) 0 (by omega) _ _ ⟨[0], bfI.ini h1 h6, by decide, fun j x hx => ?_, fun r hr => ⟨fun hx => ?_, fun hx => ?_⟩, k0, rfl⟩
  · rintro i hi _ G1 ⟨Q, bI, hil, q1, l1, k1, rfl⟩ nx
    have s1 := hsh.kp k1
    have m1 := hm.kp k1 (fun a i z => by omega)
    have ql := bI.len
    have c2 : ¬ mny n ≤ i := by omega
    rw [wb38_22 hc]
    by_cases c1 : Q.length ≤ i
    · simp +decide (disch := omega) only [↓wm1, wb38_161 hc, w0, w1, rI_wI, rP_wI, rL_wI, rI_wR, rP_wR, is_wI, is_wR, ia_wI, ia_wR, ow_wI, ow_wR, wn_add, wn_mul, wn_cl, wn_le, wn_lt, wn_inj, wn_ne1, wn_1ne, wn_gt1, wn_le1, nb0, nb1, am_kt, am_rt, List.cons_append, List.nil_append, true_and, and_true, not_true_eq_false, not_false_eq_true, imp_f, imp_t, implies_true, Nat.zero_add, if_true, if_false, false_and, and_false, c1]
      refine k G1 (fun r hr => (l1 r hr).1 (bI.all h1 h6 c1 _ r hr rfl)) k1
    · obtain ⟨y, hy⟩ : ∃ y, Q[i]? = some y := ⟨Q[i]'(by omega), List.getElem?_eq_getElem (by omega)⟩
      have yQ : y ∈ Q := List.mem_of_getElem? hy
      have yl := bI.2.1 y yQ
      have e1 := q1 i y hy
      have i7 : i < 720 := by omega
      simp +decide (disch := omega) only [↓wm1, wb38_27 hc, wb38_36 hc, w0, w1, rI_wI, rP_wI, rL_wI, rI_wR, rP_wR, is_wI, is_wR, ia_wI, ia_wR, ow_wI, ow_wR, wn_add, wn_mul, wn_cl, wn_le, wn_lt, wn_inj, wn_ne1, wn_1ne, wn_gt1, wn_le1, nb0, nb1, am_kt, am_rt, List.cons_append, List.nil_append, true_and, and_true, not_true_eq_false, not_false_eq_true, imp_f, imp_t, implies_true, Nat.zero_add, if_true, if_false, false_and, and_false, c1, c2, ia1, m1.1, n7, fC s1, q110 s1, ia112 s1, i7, e1]
      refine ct42 s1 m1 h1 h6 yl (fun G2 f2 k2 => ?_)
      have ho : ∀ i, i < n → orv n y i < 6 := fun i hi => by have := (lyc_f h1 h6 yl hi).1; omega
      simp +decide (disch := omega) only [↓wm1, wb38_51 hc, w0, w1, rI_wI, rP_wI, rL_wI, rI_wR, rP_wR, is_wI, is_wR, ia_wI, ia_wR, ow_wI, ow_wR, wn_add, wn_mul, wn_cl, wn_le, wn_lt, wn_inj, wn_ne1, wn_1ne, wn_gt1, wn_le1, nb0, nb1, am_kt, am_rt, List.cons_append, List.nil_append, true_and, and_true, not_true_eq_false, not_false_eq_true, imp_f, imp_t, implies_true, Nat.zero_add, if_true, if_false, false_and, and_false]
      refine am_for (2 ^ (n - 1) - 1) (fun j ls G' => ∃ Q', bfI n i Q' ∧ Q'[i]? = some y ∧ (∀ j x, Q'[j]? = some x → am_gI G' 112 j = wn x) ∧ (∀ r, r < mny n → (r ∈ Q' → am_gI G' 111 (fir n + r) = wn (dlv n r)) ∧ (r ∉ Q' → am_gI G' 111 (fir n + r) = mm)) ∧ (∀ t, 1 ≤ t → t < j + 1 → isc t = true → nbv n y t ∈ Q') ∧ (∀ i, i < n → am_gI G' 113 i = wn (orv n y i)) ∧ Kp (fun a i => (a = 111 ∧ fir n ≤ i ∧ i < fir n + mny n) ∨ (112 ≤ a ∧ a ≤ 114)) G G' ∧ ls = [some (.ref 110), some (.int (wn n)), some (.int (wn Q'.length)), some (.int (wn i)), some (.int (wn y)), some (.int (wn (j + 1))), none]) ?_ ?_ (2 ^ (n - 1) - 1) 0 (by omega) _ _ ⟨Q, bI, hy, fun j x hx => by rw [k2.i (by omega)]; exact q1 j x hx, fun r hr => by rw [k2.i (by omega)]; exact l1 r hr, fun t a b => by omega, f2, k1.trans (k2.mono (fun a i z => by omega)), rfl⟩
      · rintro j hj _ G3 ⟨Q', bI', hy', q3, l3, d3, f3, k3, rfl⟩ nx3
        have s3 := hsh.kp k3
        have m3 := hm.kp k3 (fun a i z => by omega)
        have ql' := bI'.len
        have c3 : ¬ 2 ^ (n - 1) ≤ j + 1 := by omega
        have tl : j + 1 < 32 := by omega
        rw [wb38_54 hc]
        cases hi2 : isc (j + 1) with
        | false =>
          simp +decide (disch := omega) only [↓wm1, wb38_64 hc, wb38_69 hc, wb38_72 hc, wb38_149 hc, w0, w1, rI_wI, rP_wI, rL_wI, rI_wR, rP_wR, is_wI, is_wR, ia_wI, ia_wR, ow_wI, ow_wR, wn_add, wn_mul, wn_cl, wn_le, wn_lt, wn_inj, wn_ne1, wn_1ne, wn_gt1, wn_le1, nb0, nb1, am_kt, am_rt, List.cons_append, List.nil_append, true_and, and_true, not_true_eq_false, not_false_eq_true, imp_f, imp_t, implies_true, Nat.zero_add, if_true, if_false, false_and, and_false, en, ep, c3, ct41 tl, hi2, b01, Bool.false_eq_true]
          refine nx3 _ _ ⟨Q', bI', hy', q3, l3, fun t a b cc => ?_, f3, k3, rfl⟩
          by_cases e : t = j + 1
          · rw [e, hi2] at cc; cases cc
          · exact d3 t a (by omega) cc
        | true =>
          have nf := nbc_f h1 h6 yl (show j + 1 < 2 ^ (n - 1) by omega) hi2
          simp +decide (disch := omega) only [↓wm1, wb38_64 hc, wb38_69 hc, wb38_75 hc, w0, w1, rI_wI, rP_wI, rL_wI, rI_wR, rP_wR, is_wI, is_wR, ia_wI, ia_wR, ow_wI, ow_wR, wn_add, wn_mul, wn_cl, wn_le, wn_lt, wn_inj, wn_ne1, wn_1ne, wn_gt1, wn_le1, nb0, nb1, am_kt, am_rt, List.cons_append, List.nil_append, true_and, and_true, not_true_eq_false, not_false_eq_true, imp_f, imp_t, implies_true, Nat.zero_add, if_true, if_false, false_and, and_false, en, ep, c3, ct41 tl, hi2, b01, fC s3]
          refine ct44 s3 m3 h1 h6 tl ho f3 (fun G4 k4 => ?_)
          rw [nf.1]
          have s4 := s3.kp k4
          have m4 := m3.kp k4 (fun a i z => by omega)
          have q4 : ∀ j x, Q'[j]? = some x → am_gI G4 112 j = wn x := fun j x hx => by rw [k4.i (by omega)]; exact q3 j x hx
          have l4 : ∀ r, r < mny n → (r ∈ Q' → am_gI G4 111 (fir n + r) = wn (dlv n r)) ∧ (r ∉ Q' → am_gI G4 111 (fir n + r) = mm) := fun r hr => by rw [k4.i (by omega)]; exact l3 r hr
          have f4 : ∀ i, i < n → am_gI G4 113 i = wn (orv n y i) := fun i hi => by rw [k4.i (by omega)]; exact f3 i hi
          have k4' := k3.trans (k4.mono (fun a i z => show (a = 111 ∧ fir n ≤ i ∧ i < fir n + mny n) ∨ (112 ≤ a ∧ a ≤ 114) by omega))
          generalize hx : nbv n y (j + 1) = x at nf
          have x8 : fir n + x < 873 := by omega
          have y8 : fir n + y < 873 := by omega
          have dl := dlv_lt n x
          have dy := dlv_lt n y
          by_cases cx : x ∈ Q'
          · have e4 := (l4 x nf.2.1).1 cx
            simp +decide (disch := omega) only [↓wm1, wb38_82 hc, wb38_149 hc, w0, w1, rI_wI, rP_wI, rL_wI, rI_wR, rP_wR, is_wI, is_wR, ia_wI, ia_wR, ow_wI, ow_wR, wn_add, wn_mul, wn_cl, wn_le, wn_lt, wn_inj, wn_ne1, wn_1ne, wn_gt1, wn_le1, nb0, nb1, am_kt, am_rt, List.cons_append, List.nil_append, true_and, and_true, not_true_eq_false, not_false_eq_true, imp_f, imp_t, implies_true, Nat.zero_add, if_true, if_false, false_and, and_false, fC s4, q110 s4, ia1, m4.2, n7, ia111 s4, x8, e4]
            refine nx3 _ _ ⟨Q', bI', hy', q4, l4, fun t a b cc => ?_, f4, k4', rfl⟩
            by_cases e : t = j + 1
            · rw [e, hx]; exact cx
            · exact d3 t a (by omega) cc
          · have e4 := (l4 x nf.2.1).2 cx
            have e5 := (l4 y yl).1 (List.mem_of_getElem? hy')
            obtain ⟨u1, u2, u3, u4⟩ := bI'.new h1 h6 hy' (t := j + 1) (by omega) (by omega) hi2 (by rw [hx]; exact cx)
            rw [hx] at u1 u2 u4
            have c5 : ¬ mny n ≤ Q'.length := by omega
            have q7 : Q'.length < 720 := by omega
            simp +decide (disch := omega) only [↓wm1, wb38_82 hc, wb38_101 hc, wb38_110 hc, wb38_149 hc, w0, w1, rI_wI, rP_wI, rL_wI, rI_wR, rP_wR, is_wI, is_wR, ia_wI, ia_wR, ow_wI, ow_wR, wn_add, wn_mul, wn_cl, wn_le, wn_lt, wn_inj, wn_ne1, wn_1ne, wn_gt1, wn_le1, nb0, nb1, am_kt, am_rt, List.cons_append, List.nil_append, true_and, and_true, not_true_eq_false, not_false_eq_true, imp_f, imp_t, implies_true, Nat.zero_add, if_true, if_false, false_and, and_false, fC s4, q110 s4, ia1, m4.1, m4.2, n7, ia111 s4, ow111 s4, ow112 s4, x8, y8, e4, e5, c5, q7]
            rw [← u1]
            refine nx3 _ _ ⟨Q' ++ [x], u2, u4, fun j' x' hx' => ?_, fun r hr => ⟨fun hrq => ?_, fun hrq => ?_⟩, fun t a b cc => ?_, fun i hi => ?_, (k4'.wI (Or.inl ⟨rfl, by omega, by omega⟩) _).wI (Or.inr ⟨by decide, by decide⟩) _, by rw [List.length_append, List.length_singleton]⟩
            · rw [rI_wI]
              rw [List.getElem?_append] at hx'
              by_cases c6 : j' < Q'.length
              · rw [if_pos c6] at hx'
                rw [if_neg (by omega), rI_wI, if_neg (by omega)]
                exact q4 j' x' hx'
              · rw [if_neg c6] at hx'
                have c7 : j' - Q'.length < 1 := by
                  have := (List.getElem?_eq_some_iff.mp hx').1
                  simpa using this
                have c8 : j' = Q'.length := by omega
                rw [c8, Nat.sub_self] at hx'
                simp at hx'
                rw [if_pos ⟨rfl, c8⟩, hx']
            · rw [rI_wI, if_neg (by omega), rI_wI]
              by_cases e : r = x
              · rw [if_pos ⟨rfl, by rw [e]⟩, e]
              · rw [if_neg (by omega)]
                rw [List.mem_append, List.mem_singleton] at hrq
                exact (l4 r hr).1 (hrq.resolve_right e)
            · rw [List.mem_append, List.mem_singleton] at hrq
              rw [rI_wI, if_neg (by omega), rI_wI, if_neg (fun z => hrq (Or.inr (by omega)))]
              exact (l4 r hr).2 (fun z => hrq (Or.inl z))
            · by_cases e : t = j + 1
              · rw [e, hx]; simp
              · exact List.mem_append_left _ (d3 t a (by omega) cc)
            · rw [rI_wI, if_neg (by omega), rI_wI, if_neg (by omega)]
              exact f4 i hi
      · rintro _ G3 ⟨Q', bI', hy', q3, l3, d3, f3, k3, rfl⟩
        have c3 : 2 ^ (n - 1) ≤ 2 ^ (n - 1) - 1 + 1 := by omega
        have il := (List.getElem?_eq_some_iff.mp hy').1
        rw [wb38_54 hc]
        simp +decide (disch := omega) only [↓wm1, wb38_155 hc, w0, w1, rI_wI, rP_wI, rL_wI, rI_wR, rP_wR, is_wI, is_wR, ia_wI, ia_wR, ow_wI, ow_wR, wn_add, wn_mul, wn_cl, wn_le, wn_lt, wn_inj, wn_ne1, wn_1ne, wn_gt1, wn_le1, nb0, nb1, am_kt, am_rt, List.cons_append, List.nil_append, true_and, and_true, not_true_eq_false, not_false_eq_true, imp_f, imp_t, implies_true, Nat.zero_add, if_true, if_false, false_and, and_false, en, ep, c3]
        exact nx _ _ ⟨Q', bI'.next hy' (fun t a b cc => d3 t a (by omega) cc), by omega, q3, l3, k3, rfl⟩
  · rintro _ G1 ⟨Q, bI, hil, q1, l1, k1, rfl⟩
    have ql := bI.len
    rw [wb38_22 hc]
    simp +decide (disch := omega) only [↓wm1, wb38_161 hc, w0, w1, rI_wI, rP_wI, rL_wI, rI_wR, rP_wR, is_wI, is_wR, ia_wI, ia_wR, ow_wI, ow_wR, wn_add, wn_mul, wn_cl, wn_le, wn_lt, wn_inj, wn_ne1, wn_1ne, wn_gt1, wn_le1, nb0, nb1, am_kt, am_rt, List.cons_append, List.nil_append, true_and, and_true, not_true_eq_false, not_false_eq_true, imp_f, imp_t, implies_true, Nat.zero_add, if_true, if_false, false_and, and_false, ql]
    exact k G1 (fun r hr => (l1 r hr).1 (bI.all h1 h6 ql _ r hr rfl)) k1
  · have b1 : j < 1 := (List.getElem?_eq_some_iff.mp hx).1
    have e1 : j = 0 := by omega
    rw [e1] at hx ⊢
    simp at hx
    rw [← hx, rI_wI, if_pos ⟨rfl, rfl⟩]
  · simp at hx
    rw [hx, dlv_0 n h1 (by omega), rI_wI, if_neg (by omega), rI_wI, if_pos ⟨rfl, rfl⟩]
  · simp at hx
    rw [rI_wI, if_neg (by omega), rI_wI, if_neg (by omega)]
    exact hf r hr
theorem ct37k (hsh : Sh G) (hm : Mn G) (h1 : 1 ≤ n) (h6 : n ≤ 6) (hr : row < mny n) (hk : Kn G n) : am_C am_T (d + 1) 37 [.ref 110, .int (wn n), .int (wn row)] G post ↔ post (.inl (some (.int (wn (dlv n row))))) G := by
  have hc := am_C_one am_T d
  have fl := fir_le n (by omega)
  have mp := mny_pos n (by omega)
  have n7 : n < 7 := by omega
  have f8 : fir n < 873 := by omega
  have r8 : fir n + row < 873 := by omega
  have e0 := hk 0 (by omega)
  rw [Nat.add_zero, dlv_0 n h1 (by omega)] at e0
  have e1 := hk row hr
  rw [we37]
  simp +decide (disch := omega) only [↓wm1, wb37_0 hc, wb37_19 hc, w0, w1, rI_wI, rP_wI, rL_wI, rI_wR, rP_wR, is_wI, is_wR, ia_wI, ia_wR, ow_wI, ow_wR, wn_add, wn_mul, wn_cl, wn_le, wn_lt, wn_inj, wn_ne1, wn_1ne, wn_gt1, wn_le1, nb0, nb1, am_kt, am_rt, List.cons_append, List.nil_append, true_and, and_true, not_true_eq_false, not_false_eq_true, imp_f, imp_t, implies_true, Nat.zero_add, if_true, if_false, false_and, and_false, fC hsh, q110 hsh, ia1, hm.2, n7, ia111 hsh, f8, r8, e0, e1]
theorem ct37 (hsh : Sh G) (hm : Mn G) (hR : rR G) (h1 : 1 ≤ n) (h6 : n ≤ 6) (hr : row < mny n) (k : ∀ G', Kn G' n → rR G' → Kp LSC G G' → post (.inl (some (.int (wn (dlv n row))))) G') : am_C am_T (d + 4) 37 [.ref 110, .int (wn n), .int (wn row)] G post := by
  have hc := am_C_one am_T (d + 3)
  have fl := fir_le n (by omega)
  have mp := mny_pos n (by omega)
  have n7 : n < 7 := by omega
  have f8 : fir n < 873 := by omega
  have r8 : fir n + row < 873 := by omega
  rcases hR n h1 h6 with z | z
  · have e0 := z 0 (by omega)
    rw [Nat.add_zero] at e0
    rw [we37]
    simp +decide (disch := omega) only [↓wm1, wb37_0 hc, wb37_14 hc, w0, w1, rI_wI, rP_wI, rL_wI, rI_wR, rP_wR, is_wI, is_wR, ia_wI, ia_wR, ow_wI, ow_wR, wn_add, wn_mul, wn_cl, wn_le, wn_lt, wn_inj, wn_ne1, wn_1ne, wn_gt1, wn_le1, nb0, nb1, am_kt, am_rt, List.cons_append, List.nil_append, true_and, and_true, not_true_eq_false, not_false_eq_true, imp_f, imp_t, implies_true, Nat.zero_add, if_true, if_false, false_and, and_false, fC hsh, q110 hsh, ia1, hm.2, n7, ia111 hsh, f8, e0]
    refine ct38 hsh hm h1 h6 z (fun G1 g1 k1 => ?_)
    have s1 := hsh.kp k1
    have m1 := hm.kp k1 (fun a i z => by omega)
    have e1 := g1 row hr
    simp +decide (disch := omega) only [↓wm1, wb37_19 hc, w0, w1, rI_wI, rP_wI, rL_wI, rI_wR, rP_wR, is_wI, is_wR, ia_wI, ia_wR, ow_wI, ow_wR, wn_add, wn_mul, wn_cl, wn_le, wn_lt, wn_inj, wn_ne1, wn_1ne, wn_gt1, wn_le1, nb0, nb1, am_kt, am_rt, List.cons_append, List.nil_append, true_and, and_true, not_true_eq_false, not_false_eq_true, imp_f, imp_t, implies_true, Nat.zero_add, if_true, if_false, false_and, and_false, fC s1, q110 s1, ia1, m1.2, n7, ia111 s1, r8, e1]
    refine k G1 g1 (fun m a b => ?_) (k1.mono (fun a i z => by unfold LSC; omega))
    by_cases e : m = n
    · right
      intro r hrr
      rw [e] at hrr ⊢
      rw [g1 r hrr, dlv_ok h1 h6 hrr]
    · have dj := fir_dj n (by omega) m (by omega) h1 a (fun z => e z.symm)
      rcases hR m a b with y | y
      · left; intro r hrr; rw [k1.i (by omega)]; exact y r hrr
      · right; intro r hrr; rw [k1.i (by omega)]; exact y r hrr
  · have hk : Kn G n := fun r hrr => by rw [z r hrr, dlv_ok h1 h6 hrr]
    rw [ct37k (d := d + 3) hsh hm h1 h6 hr hk]
    exact k G hk hR (Kp.refl G)
theorem ct39 (hsh : Sh G) (hm : Mn G) (hR : rR G) (h1 : 1 ≤ n) (h6 : n ≤ 6) (hr : row < mny n) (k : ∀ G', rR G' → Kp LSC G G' → post (.inl (some (.int (wn (nxp n row (2 ^ (n - 1) - 1)).1)))) G') : am_C am_T (d + 5) 39 [.ref 110, .int (wn n), .int (wn row)] G post := by
  have hc := am_C_one am_T (d + 4)
  have ml := mny_le n (by omega)
  have en : wn n - wn 1 = wn (n - 1) := wn_sub h1
  have ep := bs1 (n - 1) (by omega)
  have p5 : 2 ^ (n - 1) ≤ 32 := Nat.pow_le_pow_right (n := 2) (show 0 < 2 by decide) (show n - 1 ≤ 5 by omega)
  have p1 : 1 ≤ 2 ^ (n - 1) := Nat.two_pow_pos _
  have ho : ∀ i, i < n → orv n row i < 6 := fun i hi => by have := (lyc_f h1 h6 hr hi).1; omega
  have dr := dlv_lt n row
  rw [we39]
  simp +decide (disch := omega) only [↓wm1, wb39_0 hc, w0, w1, rI_wI, rP_wI, rL_wI, rI_wR, rP_wR, is_wI, is_wR, ia_wI, ia_wR, ow_wI, ow_wR, wn_add, wn_mul, wn_cl, wn_le, wn_lt, wn_inj, wn_ne1, wn_1ne, wn_gt1, wn_le1, nb0, nb1, am_kt, am_rt, List.cons_append, List.nil_append, true_and, and_true, not_true_eq_false, not_false_eq_true, imp_f, imp_t, implies_true, Nat.zero_add, if_true, if_false, false_and, and_false, fC hsh]
  refine ct37 hsh hm hR h1 h6 hr (fun G1 g1 R1 k1 => ?_)
  have s1 := hsh.kp k1
  have m1 := hm.kp k1 (fun a i z => by unfold LSC at z; omega)
  simp +decide (disch := omega) only [↓wm1, wb39_6 hc, w0, w1, rI_wI, rP_wI, rL_wI, rI_wR, rP_wR, is_wI, is_wR, ia_wI, ia_wR, ow_wI, ow_wR, wn_add, wn_mul, wn_cl, wn_le, wn_lt, wn_inj, wn_ne1, wn_1ne, wn_gt1, wn_le1, nb0, nb1, am_kt, am_rt, List.cons_append, List.nil_append, true_and, and_true, not_true_eq_false, not_false_eq_true, imp_f, imp_t, implies_true, Nat.zero_add, if_true, if_false, false_and, and_false, fC s1]
  refine ct42 s1 m1 h1 h6 hr (fun G2 f2 k2 => ?_)
  have lg : wn (dlv n row) - wn 1 = lim (dlv n row) := rfl
  rw [lg]
  simp +decide (disch := omega) only [↓wm1, wb39_21 hc, w0, w1, rI_wI, rP_wI, rL_wI, rI_wR, rP_wR, is_wI, is_wR, ia_wI, ia_wR, ow_wI, ow_wR, wn_add, wn_mul, wn_cl, wn_le, wn_lt, wn_inj, wn_ne1, wn_1ne, wn_gt1, wn_le1, nb0, nb1, am_kt, am_rt, List.cons_append, List.nil_append, true_and, and_true, not_true_eq_false, not_false_eq_true, imp_f, imp_t, implies_true, Nat.zero_add, if_true, if_false, false_and, and_false]
  refine am_for (2 ^ (n - 1) - 1) (fun j ls G' => (∀ i, i < n → am_gI G' 113 i = wn (orv n row i)) ∧ Kp (fun a _ => a = 113 ∨ a = 114) G1 G' ∧ ls = [some (.ref 110), some (.int (wn n)), none, some (.int (lim (dlv n row))), some (.int (wn (nxp n row j).1)), some (.int (wn (b01 (nxp n row j).2))), some (.int (wn (j + 1))), none]) ?_ ?_ (2 ^ (n - 1) - 1) 0 (by omega) _ _ ⟨f2, k2.mono (fun a i z => Or.inl z), rfl⟩
  · rintro j hj _ G3 ⟨f3, k3, rfl⟩ nx
    have s3 := s1.kp k3
    have m3 := m1.kp k3 (fun a i z => by omega)
    have c3 : ¬ 2 ^ (n - 1) ≤ j + 1 := by omega
    have tl : j + 1 < 32 := by omega
    have xl := nxp_lt h1 h6 hr j (by omega)
    rw [wb39_24 hc]
    have nxe : nxp n row (j + 1) = if isc (j + 1) = true ∧ dlv n (nbv n row (j + 1)) + 1 = dlv n row ∧ ((nxp n row j).2 = false ∨ nbv n row (j + 1) < (nxp n row j).1) then (nbv n row (j + 1), true) else nxp n row j := rfl
    rw [nxe] at nx
    cases hi2 : isc (j + 1) with
    | false =>
      rw [if_neg (fun z => by rw [hi2] at z; cases z.1)] at nx
      simp +decide (disch := omega) only [↓wm1, wb39_34 hc, wb39_39 hc, wb39_42 hc, wb39_84 hc, w0, w1, rI_wI, rP_wI, rL_wI, rI_wR, rP_wR, is_wI, is_wR, ia_wI, ia_wR, ow_wI, ow_wR, wn_add, wn_mul, wn_cl, wn_le, wn_lt, wn_inj, wn_ne1, wn_1ne, wn_gt1, wn_le1, nb0, nb1, am_kt, am_rt, List.cons_append, List.nil_append, true_and, and_true, not_true_eq_false, not_false_eq_true, imp_f, imp_t, implies_true, Nat.zero_add, if_true, if_false, false_and, and_false, en, ep, c3, ct41 tl, hi2, b01, Bool.false_eq_true]
      exact nx _ _ ⟨f3, k3, rfl⟩
    | true =>
      have nf := nbc_f h1 h6 hr (show j + 1 < 2 ^ (n - 1) by omega) hi2
      simp +decide (disch := omega) only [↓wm1, wb39_34 hc, wb39_39 hc, wb39_45 hc, w0, w1, rI_wI, rP_wI, rL_wI, rI_wR, rP_wR, is_wI, is_wR, ia_wI, ia_wR, ow_wI, ow_wR, wn_add, wn_mul, wn_cl, wn_le, wn_lt, wn_inj, wn_ne1, wn_1ne, wn_gt1, wn_le1, nb0, nb1, am_kt, am_rt, List.cons_append, List.nil_append, true_and, and_true, not_true_eq_false, not_false_eq_true, imp_f, imp_t, implies_true, Nat.zero_add, if_true, if_false, false_and, and_false, en, ep, c3, ct41 tl, hi2, b01, fC s3]
      refine ct44 s3 m3 h1 h6 tl ho f3 (fun G4 k4 => ?_)
      rw [nf.1]
      have s4 := s3.kp k4
      have m4 := m3.kp k4 (fun a i z => by omega)
      have k14 : Kp (fun a _ => a = 113 ∨ a = 114) G1 G4 := k3.trans (k4.mono (fun a i z => Or.inr z))
      have g4 : Kn G4 n := fun r hrr => by rw [k14.i (by omega)]; exact g1 r hrr
      have f4 : ∀ i, i < n → am_gI G4 113 i = wn (orv n row i) := fun i hi => by rw [k4.i (by omega)]; exact f3 i hi
      generalize hx : nbv n row (j + 1) = x at nf nx
      have dx := dlv_lt n x
      have le := lim_eq (a := dlv n x) (b := dlv n row) (by omega) (by omega)
      generalize hX : nxp n row j = X at xl nx
      by_cases c4 : dlv n x + 1 = dlv n row
      · cases h2 : X.2 with
        | false =>
          rw [if_pos ⟨hi2, c4, Or.inl h2⟩] at nx
          simp +decide (disch := omega) only [↓wm1, wb39_52 hc, wb39_61 hc, wb39_65 hc, wb39_77 hc, wb39_84 hc, w0, w1, rI_wI, rP_wI, rL_wI, rI_wR, rP_wR, is_wI, is_wR, ia_wI, ia_wR, ow_wI, ow_wR, wn_add, wn_mul, wn_cl, wn_le, wn_lt, wn_inj, wn_ne1, wn_1ne, wn_gt1, wn_le1, nb0, nb1, am_kt, am_rt, List.cons_append, List.nil_append, true_and, and_true, not_true_eq_false, not_false_eq_true, imp_f, imp_t, implies_true, Nat.zero_add, if_true, if_false, false_and, and_false, fC s4, ct37k s4 m4 h1 h6 nf.2.1 g4, le, c4, h2, b01, Bool.false_eq_true]
          exact nx _ _ ⟨f4, k14, rfl⟩
        | true =>
          by_cases c5 : X.1 ≤ x
          · rw [if_neg (fun z => by rcases z.2.2 with y | y; rw [h2] at y; cases y; omega)] at nx
            simp +decide (disch := omega) only [↓wm1, wb39_52 hc, wb39_61 hc, wb39_65 hc, wb39_70 hc, wb39_84 hc, w0, w1, rI_wI, rP_wI, rL_wI, rI_wR, rP_wR, is_wI, is_wR, ia_wI, ia_wR, ow_wI, ow_wR, wn_add, wn_mul, wn_cl, wn_le, wn_lt, wn_inj, wn_ne1, wn_1ne, wn_gt1, wn_le1, nb0, nb1, am_kt, am_rt, List.cons_append, List.nil_append, true_and, and_true, not_true_eq_false, not_false_eq_true, imp_f, imp_t, implies_true, Nat.zero_add, if_true, if_false, false_and, and_false, fC s4, ct37k s4 m4 h1 h6 nf.2.1 g4, le, c4, h2, b01, c5]
            exact nx _ _ ⟨f4, k14, by rw [h2]; rfl⟩
          · rw [if_pos ⟨hi2, c4, Or.inr (by omega)⟩] at nx
            simp +decide (disch := omega) only [↓wm1, wb39_52 hc, wb39_61 hc, wb39_65 hc, wb39_70 hc, wb39_77 hc, wb39_84 hc, w0, w1, rI_wI, rP_wI, rL_wI, rI_wR, rP_wR, is_wI, is_wR, ia_wI, ia_wR, ow_wI, ow_wR, wn_add, wn_mul, wn_cl, wn_le, wn_lt, wn_inj, wn_ne1, wn_1ne, wn_gt1, wn_le1, nb0, nb1, am_kt, am_rt, List.cons_append, List.nil_append, true_and, and_true, not_true_eq_false, not_false_eq_true, imp_f, imp_t, implies_true, Nat.zero_add, if_true, if_false, false_and, and_false, fC s4, ct37k s4 m4 h1 h6 nf.2.1 g4, le, c4, h2, b01, c5]
            exact nx _ _ ⟨f4, k14, rfl⟩
      · rw [if_neg (fun z => c4 z.2.1)] at nx
        simp +decide (disch := omega) only [↓wm1, wb39_52 hc, wb39_61 hc, wb39_84 hc, w0, w1, rI_wI, rP_wI, rL_wI, rI_wR, rP_wR, is_wI, is_wR, ia_wI, ia_wR, ow_wI, ow_wR, wn_add, wn_mul, wn_cl, wn_le, wn_lt, wn_inj, wn_ne1, wn_1ne, wn_gt1, wn_le1, nb0, nb1, am_kt, am_rt, List.cons_append, List.nil_append, true_and, and_true, not_true_eq_false, not_false_eq_true, imp_f, imp_t, implies_true, Nat.zero_add, if_true, if_false, false_and, and_false, fC s4, ct37k s4 m4 h1 h6 nf.2.1 g4, le, c4]
        exact nx _ _ ⟨f4, k14, rfl⟩
  · rintro _ G3 ⟨f3, k3, rfl⟩
    have c3 : 2 ^ (n - 1) ≤ 2 ^ (n - 1) - 1 + 1 := by omega
    rw [wb39_24 hc]
    simp +decide (disch := omega) only [↓wm1, wb39_90 hc, w0, w1, rI_wI, rP_wI, rL_wI, rI_wR, rP_wR, is_wI, is_wR, ia_wI, ia_wR, ow_wI, ow_wR, wn_add, wn_mul, wn_cl, wn_le, wn_lt, wn_inj, wn_ne1, wn_1ne, wn_gt1, wn_le1, nb0, nb1, am_kt, am_rt, List.cons_append, List.nil_append, true_and, and_true, not_true_eq_false, not_false_eq_true, imp_f, imp_t, implies_true, Nat.zero_add, if_true, if_false, false_and, and_false, en, ep, c3]
    exact k G3 (R1.eq (fun i => k3.i (by omega))) (k1.trans (k3.mono (fun a i z => by unfold LSC; omega)))
end
