/-! Rows, the reference's side. -/
section
variable {G : am_G} {d : Nat} {post : am_O → am_G → Prop} {n row t : Nat}
theorem mny_s : ∀ k, k < 6 → mny k * (k + 1) = mny (k + 1) := by decide
theorem ct239 (h6 : n ≤ 6) : am_C am_T (d + 1) 239 [.int (wn n)] G post ↔ post (.inl (some (.int (wn (mny n))))) G := by
  have hc := am_C_one am_T d
  refine am_iff (fun post k => ?_) post
  rw [we239]
  simp +decide (disch := omega) only [↓wm1, wb239_0 hc, w0, w1, w2, rI_wI, rP_wI, rL_wI, rI_wR, rP_wR, is_wI, is_wR, ia_wI, ia_wR, ow_wI, ow_wR, wn_add, wn_mul, wn_cl, wn_le, wn_lt, wn_inj, wn_ne1, wn_1ne, wn_gt1, wn_le1, nb0, nb1, am_kt, am_rt, List.cons_append, List.nil_append, true_and, and_true, not_true_eq_false, not_false_eq_true, imp_f, imp_t, implies_true, Nat.zero_add, if_true, if_false, false_and, and_false]
  by_cases c0 : n = 0
  · subst c0
    rw [wb239_4 hc]
    have c1 : (0 : Nat) < 2 := by decide
    simp +decide (disch := omega) only [↓wm1, wb239_19 hc, w0, w1, w2, rI_wI, rP_wI, rL_wI, rI_wR, rP_wR, is_wI, is_wR, ia_wI, ia_wR, ow_wI, ow_wR, wn_add, wn_mul, wn_cl, wn_le, wn_lt, wn_inj, wn_ne1, wn_1ne, wn_gt1, wn_le1, nb0, nb1, am_kt, am_rt, List.cons_append, List.nil_append, true_and, and_true, not_true_eq_false, not_false_eq_true, imp_f, imp_t, implies_true, Nat.zero_add, if_true, if_false, false_and, and_false, c1]
    exact k
  · refine am_for (n - 1) (fun j ls G' => G' = G ∧ ls = [some (.int (wn n)), some (.int (wn (mny (1 + j)))), some (.int (wn (2 + j)))]) ?_ ?_ (n - 1) 0 (by omega) _ _ ⟨rfl, rfl⟩
    · rintro j hj _ _ ⟨rfl, rfl⟩ nx
      have c1 : ¬ n < 2 + j := by omega
      have e := mny_s (1 + j) (by omega)
      have e2 : mny (1 + j) * (2 + j) = mny (1 + (j + 1)) := by rw [show 2 + j = 1 + j + 1 by omega, e]; congr 1
      rw [wb239_4 hc]
      simp +decide (disch := omega) only [↓wm1, wb239_9 hc, w0, w1, w2, rI_wI, rP_wI, rL_wI, rI_wR, rP_wR, is_wI, is_wR, ia_wI, ia_wR, ow_wI, ow_wR, wn_add, wn_mul, wn_cl, wn_le, wn_lt, wn_inj, wn_ne1, wn_1ne, wn_gt1, wn_le1, nb0, nb1, am_kt, am_rt, List.cons_append, List.nil_append, true_and, and_true, not_true_eq_false, not_false_eq_true, imp_f, imp_t, implies_true, Nat.zero_add, if_true, if_false, false_and, and_false, c1, e2]
      exact nx _ _ ⟨rfl, by rw [show 2 + j + 1 = 2 + (j + 1) by omega]⟩
    · rintro _ _ ⟨rfl, rfl⟩
      have c1 : n < 2 + (n - 1) := by omega
      rw [wb239_4 hc]
      simp +decide (disch := omega) only [↓wm1, wb239_19 hc, w0, w1, w2, rI_wI, rP_wI, rL_wI, rI_wR, rP_wR, is_wI, is_wR, ia_wI, ia_wR, ow_wI, ow_wR, wn_add, wn_mul, wn_cl, wn_le, wn_lt, wn_inj, wn_ne1, wn_1ne, wn_gt1, wn_le1, nb0, nb1, am_kt, am_rt, List.cons_append, List.nil_append, true_and, and_true, not_true_eq_false, not_false_eq_true, imp_f, imp_t, implies_true, Nat.zero_add, if_true, if_false, false_and, and_false, c1]
      rw [show 1 + (n - 1) = n by omega]
      exact k
/-- the walk to the bell behind s of those that are left -/
theorem ct240_w {m : Nat} {x1 x4 x5 : Int32} (hm : m < 64) (hx : ∀ b, b < 8 → ∀ o6 o7, am_W (am_C am_T (d + 1)) am_240 post 85 [some (.ref 334), some (.int x1), none, some (.int (wn m)), some (.int x4), some (.int x5), o6, o7, some (.int (wn b))] [] G → am_W (am_C am_T (d + 1)) am_240 post 85 [some (.ref 334), some (.int x1), none, some (.int (wn m)), some (.int x4), some (.int x5), o6, o7, some (.int (wn b))] [] G) : ∀ (f b s r : Nat) (o6 : Option Value), f + b ≤ 7 → s < 8 → wk m f b s = some r → (∀ o6 o7, am_W (am_C am_T (d + 1)) am_240 post 85 [some (.ref 334), some (.int x1), none, some (.int (wn m)), some (.int x4), some (.int x5), o6, o7, some (.int (wn r))] [] G) →
    am_W (am_C am_T (d + 1)) am_240 post 46 [some (.ref 334), some (.int x1), none, some (.int (wn m)), some (.int x4), some (.int x5), o6, some (.int (wn s)), some (.int (wn b))] [] G := by
  have hc := am_C_one am_T (d + 1)
  intro f
  induction f with
  | zero => intro b s r o6 _ _ h; cases h
  | succ f ih =>
    intro b s r o6 hf hs h k
    simp only [wk] at h
    have b1 := bt_01 m b
    rw [wb240_46 hc]
    by_cases c1 : bt m b = 1
    · by_cases c2 : s = 0
      · rw [if_pos ⟨c1, c2⟩] at h
        have e : b = r := by injection h
        subst e
        simp +decide (disch := omega) only [↓wm1, wb240_52 hc, wb240_55 hc, w0, w1, rI_wI, rP_wI, rL_wI, rI_wR, rP_wR, is_wI, is_wR, ia_wI, ia_wR, ow_wI, ow_wR, wn_add, wn_mul, wn_cl, wn_le, wn_lt, wn_inj, wn_ne1, wn_1ne, wn_gt1, wn_le1, nb0, nb1, am_kt, am_rt, List.cons_append, List.nil_append, true_and, and_true, not_true_eq_false, not_false_eq_true, imp_f, imp_t, implies_true, Nat.zero_add, if_true, if_false, false_and, and_false, ct156 (show m < 256 by omega) (show b < 8 by omega), c1, c2, Nat.le_refl]
        exact k _ _
      · rw [if_neg (fun z => c2 z.2)] at h
        have c3 : ¬ s ≤ 0 := by omega
        have e1 : wn s - wn 1 = wn (s - 1) := wn_sub (by omega)
        rw [c1] at h
        have := ih (b + 1) (s - 1) r none (by omega) (by omega) h k
        simp +decide (disch := omega) only [↓wm1, wb240_52 hc, wb240_55 hc, wb240_60 hc, wb240_68 hc, wb240_71 hc, wb240_76 hc, w0, w1, rI_wI, rP_wI, rL_wI, rI_wR, rP_wR, is_wI, is_wR, ia_wI, ia_wR, ow_wI, ow_wR, wn_add, wn_mul, wn_cl, wn_le, wn_lt, wn_inj, wn_ne1, wn_1ne, wn_gt1, wn_le1, nb0, nb1, am_kt, am_rt, List.cons_append, List.nil_append, true_and, and_true, not_true_eq_false, not_false_eq_true, imp_f, imp_t, implies_true, Nat.zero_add, if_true, if_false, false_and, and_false, ct156 (show m < 256 by omega) (show b < 8 by omega), c1, c3, e1]
        exact this
    · have c4 : bt m b = 0 := by omega
      rw [if_neg (fun z => c1 z.1), c4] at h
      have e1 : wn s - wn 0 = wn s := wn_sub (Nat.zero_le _)
      have := ih (b + 1) s r none (by omega) hs h k
      simp +decide (disch := omega) only [↓wm1, wb240_52 hc, wb240_60 hc, wb240_68 hc, wb240_75 hc, wb240_76 hc, w0, w1, rI_wI, rP_wI, rL_wI, rI_wR, rP_wR, is_wI, is_wR, ia_wI, ia_wR, ow_wI, ow_wR, wn_add, wn_mul, wn_cl, wn_le, wn_lt, wn_inj, wn_ne1, wn_1ne, wn_gt1, wn_le1, nb0, nb1, am_kt, am_rt, List.cons_append, List.nil_append, true_and, and_true, not_true_eq_false, not_false_eq_true, imp_f, imp_t, implies_true, Nat.zero_add, if_true, if_false, false_and, and_false, ct156 (show m < 256 by omega) (show b < 8 by omega), c4, e1]
      exact this
theorem ct240 (hsh : Sh G) (h1 : 1 ≤ n) (h6 : n ≤ 6) (hr : row < mny n) (k : ∀ G', (∀ i, i < n → am_gI G' 834 i = wn (orv n row i)) → Kp (fun a _ => a = 834) G G' → post (.inl none) G') : am_C am_T (d + 2) 240 [.ref 334, .int (wn n), .int (wn row)] G post := by
  have hc := am_C_one am_T (d + 1)
  have hn7 := mny_le n (by omega)
  have ep := bs1 n (by omega)
  have eq : wn (2 ^ n) - wn 1 = wn (2 ^ n - 1) := wn_sub (Nat.two_pow_pos n)
  rw [we240]
  simp +decide (disch := omega) only [↓wm1, wb240_0 hc, w0, w1, rI_wI, rP_wI, rL_wI, rI_wR, rP_wR, is_wI, is_wR, ia_wI, ia_wR, ow_wI, ow_wR, wn_add, wn_mul, wn_cl, wn_le, wn_lt, wn_inj, wn_ne1, wn_1ne, wn_gt1, wn_le1, nb0, nb1, am_kt, am_rt, List.cons_append, List.nil_append, true_and, and_true, not_true_eq_false, not_false_eq_true, imp_f, imp_t, implies_true, Nat.zero_add, if_true, if_false, false_and, and_false, ep, eq]
  refine am_for n (fun j ls G' => (∀ i, i < j → am_gI G' 834 i = wn (orv n row i)) ∧ Kp (fun a _ => a = 834) G G' ∧ ∃ o2 o6 o7 o8, ls = [some (.ref 334), some (.int (wn n)), o2, some (.int (wn (lfm n (orv n row) j))), some (.int (wn (row % mny (n - j)))), some (.int (wn j)), o6, o7, o8]) ?_ ?_ n 0 (by omega) _ _ ⟨fun i hi => by omega, Kp.refl G, _, _, _, _, by rw [Nat.sub_zero, Nat.mod_eq_of_lt hr]; rfl⟩
  · rintro j hj _ G1 ⟨f1, k1, o2, o6, o7, o8, rfl⟩ nx
    have s1 := hsh.kp k1
    have c1 : ¬ n ≤ j := by omega
    obtain ⟨y1, y2, -, y4, y5, y6, y7⟩ := lyc_f h1 h6 hr hj
    have e1 : wn n - wn 1 - wn j = wn (n - 1 - j) := by rw [wn_sub h1, wn_sub (by omega)]
    have mp := mny_pos (n - 1 - j) (by omega)
    have ml := mny_le (n - 1 - j) (by omega)
    have c2 : ¬ mny (n - 1 - j) = 0 := by omega
    have rl : row % mny (n - j) ≤ row := Nat.mod_le _ _
    have e2 : wn (row % mny (n - j)) / wn (mny (n - 1 - j)) = wn (row % mny (n - j) / mny (n - 1 - j)) := wn_div (by omega) (by omega)
    have e3 : am_rem (wn (row % mny (n - j))) (wn (mny (n - 1 - j))) = wn (row % mny (n - 1 - j)) := by rw [wn_rem (by omega) (by omega), y7]
    have j6 : j < 6 := by omega
    have e4 := bs1 (orv n row j) (by omega)
    have e5 := bclr6 _ y6 (orv n row j) (by omega) y5
    have e6 : n - (j + 1) = n - 1 - j := by omega
    rw [wb240_12 hc]
    simp +decide (disch := omega) only [↓wm1, wb240_18 hc, wb240_27 hc, w0, w1, rI_wI, rP_wI, rL_wI, rI_wR, rP_wR, is_wI, is_wR, ia_wI, ia_wR, ow_wI, ow_wR, wn_add, wn_mul, wn_cl, wn_le, wn_lt, wn_inj, wn_ne1, wn_1ne, wn_gt1, wn_le1, nb0, nb1, am_kt, am_rt, List.cons_append, List.nil_append, true_and, and_true, not_true_eq_false, not_false_eq_true, imp_f, imp_t, implies_true, Nat.zero_add, if_true, if_false, false_and, and_false, c1, e1, ct239 (n := n - 1 - j) (by omega), c2, e2, e3]
    refine ct240_w y6 (fun _ _ _ _ z => z) 7 0 _ (orv n row j) _ (by decide) (by omega) y4 (fun o6 o7 => ?_)
    simp +decide (disch := omega) only [↓wm1, wb240_85 hc, w0, w1, rI_wI, rP_wI, rL_wI, rI_wR, rP_wR, is_wI, is_wR, ia_wI, ia_wR, ow_wI, ow_wR, wn_add, wn_mul, wn_cl, wn_le, wn_lt, wn_inj, wn_ne1, wn_1ne, wn_gt1, wn_le1, nb0, nb1, am_kt, am_rt, List.cons_append, List.nil_append, true_and, and_true, not_true_eq_false, not_false_eq_true, imp_f, imp_t, implies_true, Nat.zero_add, if_true, if_false, false_and, and_false, fM s1, ow834 s1, j6, e4, e5]
    refine nx _ _ ⟨fun i hi => ?_, k1.wI (by exact rfl) _, _, _, _, _, by rw [e6]; rfl⟩
    rw [rI_wI]
    by_cases e : i = j
    · rw [if_pos ⟨rfl, e⟩, e]
    · rw [if_neg (by omega)]; exact f1 i (by omega)
  · rintro _ G1 ⟨f1, k1, o2, o6, o7, o8, rfl⟩
    rw [wb240_12 hc]
    simp +decide (disch := omega) only [↓wm1, wb240_109 hc, w0, w1, rI_wI, rP_wI, rL_wI, rI_wR, rP_wR, is_wI, is_wR, ia_wI, ia_wR, ow_wI, ow_wR, wn_add, wn_mul, wn_cl, wn_le, wn_lt, wn_inj, wn_ne1, wn_1ne, wn_gt1, wn_le1, nb0, nb1, am_kt, am_rt, List.cons_append, List.nil_append, true_and, and_true, not_true_eq_false, not_false_eq_true, imp_f, imp_t, implies_true, Nat.zero_add, if_true, if_false, false_and, and_false, Nat.le_refl]
    exact k G1 f1 k1
theorem ct242 (ht : t < 32) : am_C am_T (d + 1) 242 [.int (wn t)] G post ↔ post (.inl (some (.int (wn (b01 (isc t)))))) G := by
  have hc := am_C_one am_T d
  have e := isc_ok t ht
  rw [we242]
  cases hi : isc t with
  | true =>
    have c := e.mpr hi
    simp +decide (disch := omega) only [↓wm1, wb242_0 hc, wb242_8 hc, wb242_12 hc, wb242_13 hc, w0, w1, rI_wI, rP_wI, rL_wI, rI_wR, rP_wR, is_wI, is_wR, ia_wI, ia_wR, ow_wI, ow_wR, wn_add, wn_mul, wn_cl, wn_le, wn_lt, wn_inj, wn_ne1, wn_1ne, wn_gt1, wn_le1, nb0, nb1, am_kt, am_rt, List.cons_append, List.nil_append, true_and, and_true, not_true_eq_false, not_false_eq_true, imp_f, imp_t, implies_true, Nat.zero_add, if_true, if_false, false_and, and_false, c, b01]
  | false =>
    have c : ¬ (wn t &&& (wn t <<< (wn 1 &&& 31)) = wn 0) := fun z => by rw [e.mp z] at hi; cases hi
    simp +decide (disch := omega) only [↓wm1, wb242_0 hc, wb242_8 hc, wb242_12 hc, wb242_13 hc, w0, w1, rI_wI, rP_wI, rL_wI, rI_wR, rP_wR, is_wI, is_wR, ia_wI, ia_wR, ow_wI, ow_wR, wn_add, wn_mul, wn_cl, wn_le, wn_lt, wn_inj, wn_ne1, wn_1ne, wn_gt1, wn_le1, nb0, nb1, am_kt, am_rt, List.cons_append, List.nil_append, true_and, and_true, not_true_eq_false, not_false_eq_true, imp_f, imp_t, implies_true, Nat.zero_add, if_true, if_false, false_and, and_false, c, b01, Bool.false_eq_true]
theorem ct241 {o : Nat → Nat} (hsh : Sh G) (h1 : 1 ≤ n) (h6 : n ≤ 6) (ht : t < 32) (ho : ∀ i, i < n → o i < 6) (hf : ∀ i, i < n → am_gI G 834 i = wn (o i)) (k : ∀ G', Kp (fun a _ => a = 835) G G' → post (.inl (some (.int (wn (rkR n (swq o t (n - 1))))))) G') : am_C am_T (d + 2) 241 [.ref 334, .int (wn n), .int (wn t)] G post := by
  have hc := am_C_one am_T (d + 1)
  rw [we241]
  simp +decide (disch := omega) only [↓wm1, wb241_0 hc, w0, w1, rI_wI, rP_wI, rL_wI, rI_wR, rP_wR, is_wI, is_wR, ia_wI, ia_wR, ow_wI, ow_wR, wn_add, wn_mul, wn_cl, wn_le, wn_lt, wn_inj, wn_ne1, wn_1ne, wn_gt1, wn_le1, nb0, nb1, am_kt, am_rt, List.cons_append, List.nil_append, true_and, and_true, not_true_eq_false, not_false_eq_true, imp_f, imp_t, implies_true, Nat.zero_add, if_true, if_false, false_and, and_false]
  refine am_for n (fun j ls G' => (∀ i, i < j → am_gI G' 835 i = wn (o i)) ∧ Kp (fun a _ => a = 835) G G' ∧ ls = [some (.ref 334), some (.int (wn n)), some (.int (wn t)), some (.int (wn j)), none, none, none]) ?_ ?_ n 0 (by omega) _ _ ⟨fun i hi => by omega, Kp.refl G, rfl⟩
  · rintro j hj _ G1 ⟨f1, k1, rfl⟩ nx
    have s1 := hsh.kp k1
    have c1 : ¬ n ≤ j := by omega
    have j6 : j < 6 := by omega
    have g0 : am_gI G1 834 j = wn (o j) := by rw [k1.i (by omega)]; exact hf j hj
    rw [wb241_2 hc]
    simp +decide (disch := omega) only [↓wm1, wb241_7 hc, w0, w1, rI_wI, rP_wI, rL_wI, rI_wR, rP_wR, is_wI, is_wR, ia_wI, ia_wR, ow_wI, ow_wR, wn_add, wn_mul, wn_cl, wn_le, wn_lt, wn_inj, wn_ne1, wn_1ne, wn_gt1, wn_le1, nb0, nb1, am_kt, am_rt, List.cons_append, List.nil_append, true_and, and_true, not_true_eq_false, not_false_eq_true, imp_f, imp_t, implies_true, Nat.zero_add, if_true, if_false, false_and, and_false, c1, fM s1, ia834 s1, ow835 s1, j6, g0]
    refine nx _ _ ⟨fun i hi => ?_, k1.wI (by exact rfl) _, rfl⟩
    rw [rI_wI]
    by_cases e : i = j
    · rw [if_pos ⟨rfl, e⟩, e]
    · rw [if_neg (by omega)]; exact f1 i (by omega)
  · rintro _ G0 ⟨f0, k0, rfl⟩
    rw [wb241_2 hc]
    simp +decide (disch := omega) only [↓wm1, wb241_25 hc, w0, w1, rI_wI, rP_wI, rL_wI, rI_wR, rP_wR, is_wI, is_wR, ia_wI, ia_wR, ow_wI, ow_wR, wn_add, wn_mul, wn_cl, wn_le, wn_lt, wn_inj, wn_ne1, wn_1ne, wn_gt1, wn_le1, nb0, nb1, am_kt, am_rt, List.cons_append, List.nil_append, true_and, and_true, not_true_eq_false, not_false_eq_true, imp_f, imp_t, implies_true, Nat.zero_add, if_true, if_false, false_and, and_false, Nat.le_refl]
    refine am_for (n - 1) (fun j ls G' => (∀ i, i < n → am_gI G' 835 i = wn (swq o t j i)) ∧ Kp (fun a _ => a = 835) G G' ∧ ls = [some (.ref 334), some (.int (wn n)), some (.int (wn t)), some (.int (wn j)), none, none, none]) ?_ ?_ (n - 1) 0 (by omega) _ _ ⟨fun i hi => by rw [swq_00]; exact f0 i hi, k0, rfl⟩
    · rintro j hj _ G1 ⟨f1, k1, rfl⟩ nx
      have s1 := hsh.kp k1
      have c1 : ¬ n ≤ j + 1 := by omega
      have b1 := bt_01 t j
      have j6 : j < 6 := by omega
      have j7 : j + 1 < 6 := by omega
      have g0 : am_gI G1 834 j = wn (o j) := by rw [k1.i (by omega)]; exact hf j (by omega)
      have g1 : am_gI G1 834 (j + 1) = wn (o (j + 1)) := by rw [k1.i (by omega)]; exact hf (j + 1) (by omega)
      rw [wb241_27 hc]
      by_cases c2 : bt t j = 1
      · simp +decide (disch := omega) only [↓wm1, wb241_34 hc, wb241_39 hc, wb241_45 hc, wb241_73 hc, w0, w1, rI_wI, rP_wI, rL_wI, rI_wR, rP_wR, is_wI, is_wR, ia_wI, ia_wR, ow_wI, ow_wR, wn_add, wn_mul, wn_cl, wn_le, wn_lt, wn_inj, wn_ne1, wn_1ne, wn_gt1, wn_le1, nb0, nb1, am_kt, am_rt, List.cons_append, List.nil_append, true_and, and_true, not_true_eq_false, not_false_eq_true, imp_f, imp_t, implies_true, Nat.zero_add, if_true, if_false, false_and, and_false, c1, ct156 (show t < 256 by omega) (show j < 8 by omega), c2, fM s1, ia834 s1, ow835 s1, j6, j7, g0, g1]
        refine nx _ _ ⟨fun i hi => ?_, (k1.wI (by exact rfl) _).wI (by exact rfl) _, rfl⟩
        rw [swq_1 c2, rI_wI]
        by_cases z1 : i = j + 1
        · rw [if_pos ⟨rfl, z1⟩, if_pos z1]
        · rw [if_neg (fun z => z1 z.2), if_neg z1, rI_wI]
          by_cases z2 : i = j
          · rw [if_pos ⟨rfl, z2⟩, if_pos z2]
          · rw [if_neg (fun z => z2 z.2), if_neg z2]; exact f1 i hi
      · have c3 : bt t j = 0 := by omega
        simp +decide (disch := omega) only [↓wm1, wb241_34 hc, wb241_39 hc, wb241_42 hc, wb241_73 hc, w0, w1, rI_wI, rP_wI, rL_wI, rI_wR, rP_wR, is_wI, is_wR, ia_wI, ia_wR, ow_wI, ow_wR, wn_add, wn_mul, wn_cl, wn_le, wn_lt, wn_inj, wn_ne1, wn_1ne, wn_gt1, wn_le1, nb0, nb1, am_kt, am_rt, List.cons_append, List.nil_append, true_and, and_true, not_true_eq_false, not_false_eq_true, imp_f, imp_t, implies_true, Nat.zero_add, if_true, if_false, false_and, and_false, c1, ct156 (show t < 256 by omega) (show j < 8 by omega), c3]
        exact nx _ _ ⟨fun i hi => by rw [swq_0 c2]; exact f1 i hi, k1, rfl⟩
    · rintro _ G1 ⟨f1, k1, rfl⟩
      have s1 := hsh.kp k1
      have c1 : n ≤ n - 1 + 1 := by omega
      have hcl : ∀ i, i < n → swq o t (n - 1) i < 6 := fun i hi => swq_lt ho hi
      rw [wb241_27 hc]
      simp +decide (disch := omega) only [↓wm1, wb241_79 hc, w0, w1, rI_wI, rP_wI, rL_wI, rI_wR, rP_wR, is_wI, is_wR, ia_wI, ia_wR, ow_wI, ow_wR, wn_add, wn_mul, wn_cl, wn_le, wn_lt, wn_inj, wn_ne1, wn_1ne, wn_gt1, wn_le1, nb0, nb1, am_kt, am_rt, List.cons_append, List.nil_append, true_and, and_true, not_true_eq_false, not_false_eq_true, imp_f, imp_t, implies_true, Nat.zero_add, if_true, if_false, false_and, and_false, c1]
      generalize hcc : swq o t (n - 1) = c at f1 hcl k
      refine am_for n (fun j ls G' => G1 = G' ∧ ls = [some (.ref 334), some (.int (wn n)), none, some (.int (wn (tsum (fun k => tsum (fun j => b01 (decide (c (k + 1 + j) < c k))) (n - 1 - k) * mny (n - 1 - k)) j))), some (.int (wn j)), none, none]) ?_ ?_ n 0 (by omega) _ _ ⟨rfl, rfl⟩
      · rintro j hj _ _ ⟨rfl, rfl⟩ nx
        have c2 : ¬ n ≤ j := by omega
        have j6 : j < 6 := by omega
        have gj := f1 j hj
        have lj := hcl j hj
        rw [wb241_84 hc]
        simp +decide (disch := omega) only [↓wm1, wb241_90 hc, w0, w1, rI_wI, rP_wI, rL_wI, rI_wR, rP_wR, is_wI, is_wR, ia_wI, ia_wR, ow_wI, ow_wR, wn_add, wn_mul, wn_cl, wn_le, wn_lt, wn_inj, wn_ne1, wn_1ne, wn_gt1, wn_le1, nb0, nb1, am_kt, am_rt, List.cons_append, List.nil_append, true_and, and_true, not_true_eq_false, not_false_eq_true, imp_f, imp_t, implies_true, Nat.zero_add, if_true, if_false, false_and, and_false, c2]
        refine am_for (n - 1 - j) (fun i ls G' => G1 = G' ∧ ls = [some (.ref 334), some (.int (wn n)), none, some (.int (wn (tsum (fun k => tsum (fun j => b01 (decide (c (k + 1 + j) < c k))) (n - 1 - k) * mny (n - 1 - k)) j))), some (.int (wn j)), some (.int (wn (tsum (fun i => b01 (decide (c (j + 1 + i) < c j))) i))), some (.int (wn (j + 1 + i)))]) ?_ ?_ (n - 1 - j) 0 (by omega) _ _ ⟨rfl, rfl⟩
        · rintro i hi _ _ ⟨rfl, rfl⟩ nx2
          have c3 : ¬ n ≤ j + 1 + i := by omega
          have i6 : j + 1 + i < 6 := by omega
          have gi := f1 (j + 1 + i) (by omega)
          have li := hcl (j + 1 + i) (by omega)
          rw [wb241_99 hc]
          by_cases c4 : c j ≤ c (j + 1 + i)
          · simp +decide (disch := omega) only [↓wm1, wb241_105 hc, wb241_128 hc, wb241_129 hc, w0, w1, rI_wI, rP_wI, rL_wI, rI_wR, rP_wR, is_wI, is_wR, ia_wI, ia_wR, ow_wI, ow_wR, wn_add, wn_mul, wn_cl, wn_le, wn_lt, wn_inj, wn_ne1, wn_1ne, wn_gt1, wn_le1, nb0, nb1, am_kt, am_rt, List.cons_append, List.nil_append, true_and, and_true, not_true_eq_false, not_false_eq_true, imp_f, imp_t, implies_true, Nat.zero_add, if_true, if_false, false_and, and_false, c3, fM s1, ia835 s1, j6, i6, gj, gi, c4]
            refine nx2 _ _ ⟨rfl, ?_⟩
            have c5 : ¬ c (j + 1 + i) < c j := by omega
            simp only [tsum, decide_eq_false c5, b01, Bool.false_eq_true, if_false]
            rfl
          · simp +decide (disch := omega) only [↓wm1, wb241_105 hc, wb241_124 hc, wb241_129 hc, w0, w1, rI_wI, rP_wI, rL_wI, rI_wR, rP_wR, is_wI, is_wR, ia_wI, ia_wR, ow_wI, ow_wR, wn_add, wn_mul, wn_cl, wn_le, wn_lt, wn_inj, wn_ne1, wn_1ne, wn_gt1, wn_le1, nb0, nb1, am_kt, am_rt, List.cons_append, List.nil_append, true_and, and_true, not_true_eq_false, not_false_eq_true, imp_f, imp_t, implies_true, Nat.zero_add, if_true, if_false, false_and, and_false, c3, fM s1, ia835 s1, j6, i6, gj, gi, c4]
            refine nx2 _ _ ⟨rfl, ?_⟩
            have c5 : c (j + 1 + i) < c j := by omega
            simp only [tsum, decide_eq_true c5, b01, if_true]
            rfl
        · rintro _ _ ⟨rfl, rfl⟩
          have c3 : n ≤ j + 1 + (n - 1 - j) := by omega
          have e6 : wn n - wn 1 - wn j = wn (n - 1 - j) := by rw [wn_sub h1, wn_sub (by omega)]
          rw [wb241_99 hc]
          simp +decide (disch := omega) only [↓wm1, wb241_138 hc, wb241_150 hc, w0, w1, rI_wI, rP_wI, rL_wI, rI_wR, rP_wR, is_wI, is_wR, ia_wI, ia_wR, ow_wI, ow_wR, wn_add, wn_mul, wn_cl, wn_le, wn_lt, wn_inj, wn_ne1, wn_1ne, wn_gt1, wn_le1, nb0, nb1, am_kt, am_rt, List.cons_append, List.nil_append, true_and, and_true, not_true_eq_false, not_false_eq_true, imp_f, imp_t, implies_true, Nat.zero_add, if_true, if_false, false_and, and_false, c3, e6, ct239 (n := n - 1 - j) (by omega)]
          exact nx _ _ ⟨rfl, rfl⟩
      · rintro _ _ ⟨rfl, rfl⟩
        rw [wb241_84 hc]
        simp +decide (disch := omega) only [↓wm1, wb241_159 hc, w0, w1, rI_wI, rP_wI, rL_wI, rI_wR, rP_wR, is_wI, is_wR, ia_wI, ia_wR, ow_wI, ow_wR, wn_add, wn_mul, wn_cl, wn_le, wn_lt, wn_inj, wn_ne1, wn_1ne, wn_gt1, wn_le1, nb0, nb1, am_kt, am_rt, List.cons_append, List.nil_append, true_and, and_true, not_true_eq_false, not_false_eq_true, imp_f, imp_t, implies_true, Nat.zero_add, if_true, if_false, false_and, and_false, Nat.le_refl]
        exact k _ k1
end
