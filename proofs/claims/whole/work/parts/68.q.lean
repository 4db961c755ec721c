/-! Questions, both sides: metal, pulls. -/
def la (g : Nat → Nat) (n : Nat) : Nat → Nat → Nat
  | 0, k => k
  | f + 1, k => if g (k + 1) ≤ n then la g n f (k + 1) else k
def ld (g : Nat → Nat) (n : Nat) : Nat → Nat
  | 0 => 0
  | k + 1 => if g (k + 1) ≤ n then k + 1 else ld g n k
theorem la_spec (g : Nat → Nat) (n : Nat) : ∀ f k, k ≤ la g n f k ∧ la g n f k ≤ k + f ∧ (∀ j, k < j → j ≤ la g n f k → g j ≤ n) ∧ (la g n f k < k + f → ¬ g (la g n f k + 1) ≤ n) := by
  intro f
  induction f with
  | zero => intro k; simp only [la]; exact ⟨Nat.le_refl _, Nat.le_refl _, fun j h1 h2 => by omega, fun h => by omega⟩
  | succ f ih =>
    intro k
    simp only [la]
    by_cases c : g (k + 1) ≤ n
    · rw [if_pos c]
      obtain ⟨i1, i2, i3, i4⟩ := ih (k + 1)
      refine ⟨by omega, by omega, fun j h1 h2 => ?_, fun h => i4 (by omega)⟩
      by_cases e : j = k + 1
      · rw [e]; exact c
      · exact i3 j (by omega) h2
    · rw [if_neg c]
      exact ⟨Nat.le_refl _, by omega, fun j h1 h2 => by omega, fun _ => c⟩
theorem ld_spec (g : Nat → Nat) (n : Nat) : ∀ k, ld g n k ≤ k ∧ (ld g n k = 0 ∨ g (ld g n k) ≤ n) ∧ ∀ j, ld g n k < j → j ≤ k → ¬ g j ≤ n := by
  intro k
  induction k with
  | zero => exact ⟨Nat.le_refl _, Or.inl rfl, fun j h1 h2 => by omega⟩
  | succ k ih =>
    simp only [ld]
    by_cases c : g (k + 1) ≤ n
    · rw [if_pos c]; exact ⟨Nat.le_refl _, Or.inr c, fun j h1 h2 => by omega⟩
    · rw [if_neg c]
      obtain ⟨i1, i2, i3⟩ := ih
      refine ⟨by omega, i2, fun j h1 h2 => ?_⟩
      by_cases e : j = k + 1
      · rw [e]; exact c
      · exact i3 j h1 (by omega)
theorem la_ld (g : Nat → Nat) (n K : Nat) (hm : ∀ i j, i ≤ j → g i ≤ g j) : ld g n K = la g n K 0 := by
  obtain ⟨a1, a2, a3, a4⟩ := la_spec g n K 0
  obtain ⟨b1, b2, b3⟩ := ld_spec g n K
  by_cases h1 : la g n K 0 < ld g n K
  · exfalso
    have q1 := a4 (by omega)
    have q2 := hm (la g n K 0 + 1) (ld g n K) (by omega)
    rcases b2 with z | z
    · omega
    · exact q1 (by omega)
  · by_cases h2 : ld g n K < la g n K 0
    · exact absurd (a3 (la g n K 0) (by omega) (Nat.le_refl _)) (b3 (la g n K 0) h2 (by omega))
    · omega
def gvn (δ : Dt) (m bound : Nat) : Nat → Nat := tsum (fun b => if bt m b = 1 then min (bL δ b) bound else 0)
theorem tsum_mono {f g : Nat → Nat} (h : ∀ j, f j ≤ g j) : ∀ n, tsum f n ≤ tsum g n := by
  intro n
  induction n with
  | zero => exact Nat.le_refl _
  | succ n ih => simp only [tsum]; have := h n; omega
theorem gvn_mono (δ : Dt) (m B : Nat) : ∀ i j, i ≤ j → gvn δ m i B ≤ gvn δ m j B := fun i j h => tsum_mono (fun b => by split <;> omega) B
theorem gvn_le (δ : Dt) (m i B : Nat) : gvn δ m i B ≤ B * i := tsum_le (fun b => by split <;> omega) B
def q_metal (V : Vt) (b m n : Nat) : Int32 := if bt m b = 1 then wn (min (bL (vδ V) b) (la (fun k => gvn (vδ V) m k (dB (vδ V))) n 60 0)) else wn 0
section
variable {G : am_G} {d : Nat} {V : Vt} {post : am_O → am_G → Prop}
theorem ct92 {q l m n : Nat} {δ : Dt} {Λ : List Tok} (hsh : Sh G) (hT : Tw G q l δ Λ) (hm : m < 64) (hn : n < 1000) : am_C am_T (d + 2) 92 [.ref 3, .int (wn m), .int (wn n)] G post ↔ post (.inl (some (.int (wn (ld (fun k => gvn δ m k (dB δ)) n 60))))) G := by
  have hc := am_C_one am_T (d + 1)
  have v := hT.2.2.2.2.2.1
  have v6 := v.1
  refine am_iff (fun post k => ?_) post
  have inner : ∀ c, c ≤ 60 → am_W (am_C am_T (d + 1)) am_92 post 60 [some (.ref 3), some (.int (wn m)), some (.int (wn n)), some (.int (wn c)), some (.int (wn (gvn δ m c (dB δ)))), some (.int (wn (dB δ)))] [] G → am_W (am_C am_T (d + 1)) am_92 post 13 [some (.ref 3), some (.int (wn m)), some (.int (wn n)), some (.int (wn c)), some (.int (wn 0)), some (.int (wn 0))] [] G := by
    intro c hc60 kk
    refine am_for (dB δ) (fun j ls G' => G' = G ∧ ls = [some (.ref 3), some (.int (wn m)), some (.int (wn n)), some (.int (wn c)), some (.int (wn (gvn δ m c j))), some (.int (wn j))]) ?_ ?_ (dB δ) 0 (by omega) _ _ ⟨rfl, rfl⟩
    · rintro j hj _ _ ⟨rfl, rfl⟩ nx
      have c1 : ¬ dB δ ≤ j := by omega
      have e := bsr m (by omega) j (by omega)
      have b1 := bt_01 m j
      have rb := hT.2.2.2.2.1.2.2.2.2.1 j hj
      have vb := v.2.2.2.2.1 j hj
      rw [wb92_13 hc]
      by_cases c2 : bt m j = 1
      · simp +decide (disch := omega) only [↓wm1, wb92_25 hc, wb92_35 hc, wb92_51 hc, wb92_54 hc, w0, w1, w60, rI_wI, rP_wI, rL_wI, rI_wR, rP_wR, is_wI, is_wR, ia_wI, ia_wR, ow_wI, ow_wR, wn_add, wn_mul, wn_cl, wn_le, wn_lt, wn_inj, wn_ne1, wn_1ne, wn_gt1, wn_le1, nb0, nb1, am_kt, am_rt, List.cons_append, List.nil_append, true_and, and_true, not_true_eq_false, not_false_eq_true, imp_f, imp_t, implies_true, Nat.zero_add, if_true, if_false, false_and, and_false, fC hsh, fW2 hsh hT, fD hsh hT.2.2.1, c1, e, c2, rb.2, ct272n]
        refine nx _ _ ⟨rfl, ?_⟩
        simp only [gvn, tsum, c2, if_true]
      · have c3 : bt m j = 0 := by omega
        simp +decide (disch := omega) only [↓wm1, wb92_25 hc, wb92_54 hc, w0, w1, w60, rI_wI, rP_wI, rL_wI, rI_wR, rP_wR, is_wI, is_wR, ia_wI, ia_wR, ow_wI, ow_wR, wn_add, wn_mul, wn_cl, wn_le, wn_lt, wn_inj, wn_ne1, wn_1ne, wn_gt1, wn_le1, nb0, nb1, am_kt, am_rt, List.cons_append, List.nil_append, true_and, and_true, not_true_eq_false, not_false_eq_true, imp_f, imp_t, implies_true, Nat.zero_add, if_true, if_false, false_and, and_false, fC hsh, fW2 hsh hT, fD hsh hT.2.2.1, c1, e, c3]
        refine nx _ _ ⟨rfl, ?_⟩
        simp [gvn, tsum, c3]
    · rintro _ _ ⟨rfl, rfl⟩
      rw [wb92_13 hc]
      simp +decide (disch := omega) only [↓wm1, w0, w1, rI_wI, rP_wI, rL_wI, rI_wR, rP_wR, is_wI, is_wR, ia_wI, ia_wR, ow_wI, ow_wR, wn_add, wn_mul, wn_cl, wn_le, wn_lt, wn_inj, wn_ne1, wn_1ne, wn_gt1, wn_le1, nb0, nb1, am_kt, am_rt, List.cons_append, List.nil_append, true_and, and_true, not_true_eq_false, not_false_eq_true, imp_f, imp_t, implies_true, Nat.zero_add, if_true, if_false, false_and, and_false, fC hsh, fW2 hsh hT, fD hsh hT.2.2.1, Nat.le_refl]
      exact kk
  have outer : ∀ c, c ≤ 60 → (post (.inl (some (.int (wn (ld (fun k => gvn δ m k (dB δ)) n c))))) G) → am_W (am_C am_T (d + 1)) am_92 post 3 [some (.ref 3), some (.int (wn m)), some (.int (wn n)), some (.int (wn c)), none, none] [] G := by
    intro c
    induction c with
    | zero =>
      intro _ kk
      rw [wb92_3 hc]
      simp +decide (disch := omega) only [↓wm1, wb92_74 hc, w0, w1, w60, rI_wI, rP_wI, rL_wI, rI_wR, rP_wR, is_wI, is_wR, ia_wI, ia_wR, ow_wI, ow_wR, wn_add, wn_mul, wn_cl, wn_le, wn_lt, wn_inj, wn_ne1, wn_1ne, wn_gt1, wn_le1, nb0, nb1, am_kt, am_rt, List.cons_append, List.nil_append, true_and, and_true, not_true_eq_false, not_false_eq_true, imp_f, imp_t, implies_true, Nat.zero_add, if_true, if_false, false_and, and_false, Nat.le_refl]
      exact kk
    | succ c ih =>
      intro hc60 kk
      have c0 : ¬ c + 1 ≤ 0 := by omega
      have gl := gvn_le δ m (c + 1) (dB δ)
      have gl2 : dB δ * (c + 1) ≤ 6 * 60 := Nat.mul_le_mul v6 hc60
      simp only [ld] at kk
      rw [wb92_3 hc]
      simp +decide (disch := omega) only [↓wm1, wb92_7 hc, w0, w1, w60, rI_wI, rP_wI, rL_wI, rI_wR, rP_wR, is_wI, is_wR, ia_wI, ia_wR, ow_wI, ow_wR, wn_add, wn_mul, wn_cl, wn_le, wn_lt, wn_inj, wn_ne1, wn_1ne, wn_gt1, wn_le1, nb0, nb1, am_kt, am_rt, List.cons_append, List.nil_append, true_and, and_true, not_true_eq_false, not_false_eq_true, imp_f, imp_t, implies_true, Nat.zero_add, if_true, if_false, false_and, and_false, c0]
      refine inner (c + 1) hc60 ?_
      by_cases c1 : gvn δ m (c + 1) (dB δ) ≤ n
      · have c2 : ¬ n < gvn δ m (c + 1) (dB δ) := by omega
        rw [if_pos c1] at kk
        simp +decide (disch := omega) only [↓wm1, wb92_60 hc, wb92_66 hc, w0, w1, w60, rI_wI, rP_wI, rL_wI, rI_wR, rP_wR, is_wI, is_wR, ia_wI, ia_wR, ow_wI, ow_wR, wn_add, wn_mul, wn_cl, wn_le, wn_lt, wn_inj, wn_ne1, wn_1ne, wn_gt1, wn_le1, nb0, nb1, am_kt, am_rt, List.cons_append, List.nil_append, true_and, and_true, not_true_eq_false, not_false_eq_true, imp_f, imp_t, implies_true, Nat.zero_add, if_true, if_false, false_and, and_false, c2]
        exact kk
      · have c2 : n < gvn δ m (c + 1) (dB δ) := by omega
        rw [if_neg c1] at kk
        simp +decide (disch := omega) only [↓wm1, wb92_60 hc, wb92_68 hc, w0, w1, w60, rI_wI, rP_wI, rL_wI, rI_wR, rP_wR, is_wI, is_wR, ia_wI, ia_wR, ow_wI, ow_wR, wn_add, wn_mul, wn_cl, wn_le, wn_lt, wn_inj, wn_ne1, wn_1ne, wn_gt1, wn_le1, nb0, nb1, am_kt, am_rt, List.cons_append, List.nil_append, true_and, and_true, not_true_eq_false, not_false_eq_true, imp_f, imp_t, implies_true, Nat.zero_add, if_true, if_false, false_and, and_false, c2, lv_s]
        exact ih (by omega) kk
  rw [we92]
  simp +decide (disch := omega) only [↓wm1, wb92_0 hc, w0, w1, w60, rI_wI, rP_wI, rL_wI, rI_wR, rP_wR, is_wI, is_wR, ia_wI, ia_wR, ow_wI, ow_wR, wn_add, wn_mul, wn_cl, wn_le, wn_lt, wn_inj, wn_ne1, wn_1ne, wn_gt1, wn_le1, nb0, nb1, am_kt, am_rt, List.cons_append, List.nil_append, true_and, and_true, not_true_eq_false, not_false_eq_true, imp_f, imp_t, implies_true, Nat.zero_add, if_true, if_false, false_and, and_false]
  exact outer 60 (Nat.le_refl _) k
theorem ct253 {m c : Nat} {δ : Dt} {Λ : List Tok} (hsh : Sh G) (hT : Tm G δ Λ) (hm : m < 64) (hc60 : c ≤ 60) : am_C am_T (d + 2) 253 [.ref 334, .int (wn m), .int (wn c)] G post ↔ post (.inl (some (.int (wn (gvn δ m c (dB δ)))))) G := by
  have hc := am_C_one am_T (d + 1)
  have v := hT.2.1
  have v6 := v.1
  refine am_iff (fun post k => ?_) post
  refine (we253 _ _ _ _).mpr ((wb253_0 hc _ _ _ _).mpr ?_)
  refine am_for (dB δ) (fun j ls G' => G' = G ∧ ls = [some (.ref 334), some (.int (wn m)), some (.int (wn c)), some (.int (wn (gvn δ m c j))), some (.int (wn j))]) ?_ ?_ (dB δ) 0 (by omega) _ _ ⟨rfl, rfl⟩
  · rintro j hj _ _ ⟨rfl, rfl⟩ nx
    have c1 : ¬ dB δ ≤ j := by omega
    have b1 := bt_01 m j
    have rb := hT.1.2.2.2.2.1 j hj
    have vb := v.2.2.2.2.1 j hj
    rw [wb253_5 hc]
    by_cases c2 : bt m j = 1
    · simp +decide (disch := omega) only [↓wm1, wb253_16 hc, wb253_23 hc, wb253_26 hc, wb253_39 hc, wb253_43 hc, w0, w1, rI_wI, rP_wI, rL_wI, rI_wR, rP_wR, is_wI, is_wR, ia_wI, ia_wR, ow_wI, ow_wR, wn_add, wn_mul, wn_cl, wn_le, wn_lt, wn_inj, wn_ne1, wn_1ne, wn_gt1, wn_le1, nb0, nb1, am_kt, am_rt, List.cons_append, List.nil_append, true_and, and_true, not_true_eq_false, not_false_eq_true, imp_f, imp_t, implies_true, Nat.zero_add, if_true, if_false, false_and, and_false, fM hsh, fE2 hT, ia338 hsh, fr346 hsh, c1, ct156 (show m < 256 by omega) (show j < 8 by omega), c2, rb.2, ct154n]
      refine nx _ _ ⟨rfl, ?_⟩
      simp only [gvn, tsum, c2, if_true]
      rw [Nat.min_comm]
    · have c3 : bt m j = 0 := by omega
      simp +decide (disch := omega) only [↓wm1, wb253_16 hc, wb253_23 hc, wb253_42 hc, wb253_43 hc, w0, w1, rI_wI, rP_wI, rL_wI, rI_wR, rP_wR, is_wI, is_wR, ia_wI, ia_wR, ow_wI, ow_wR, wn_add, wn_mul, wn_cl, wn_le, wn_lt, wn_inj, wn_ne1, wn_1ne, wn_gt1, wn_le1, nb0, nb1, am_kt, am_rt, List.cons_append, List.nil_append, true_and, and_true, not_true_eq_false, not_false_eq_true, imp_f, imp_t, implies_true, Nat.zero_add, if_true, if_false, false_and, and_false, fM hsh, fE2 hT, ia338 hsh, fr346 hsh, c1, ct156 (show m < 256 by omega) (show j < 8 by omega), c3]
      refine nx _ _ ⟨rfl, ?_⟩
      simp [gvn, tsum, c3]
  · rintro _ _ ⟨rfl, rfl⟩
    rw [wb253_5 hc]
    simp +decide (disch := omega) only [↓wm1, wb253_51 hc, w0, w1, rI_wI, rP_wI, rL_wI, rI_wR, rP_wR, is_wI, is_wR, ia_wI, ia_wR, ow_wI, ow_wR, wn_add, wn_mul, wn_cl, wn_le, wn_lt, wn_inj, wn_ne1, wn_1ne, wn_gt1, wn_le1, nb0, nb1, am_kt, am_rt, List.cons_append, List.nil_append, true_and, and_true, not_true_eq_false, not_false_eq_true, imp_f, imp_t, implies_true, Nat.zero_add, if_true, if_false, false_and, and_false, fM hsh, fE2 hT, ia338 hsh, Nat.le_refl]
    exact k
theorem ct254_l {m n b R : Nat} {δ : Dt} {Λ : List Tok} (hsh : Sh G) (hT : Tm G δ Λ) (hm : m < 64) (hn : n < 1000) (k : am_W (am_C am_T (d + 11)) am_254 post 101 [some (.ref 334), some (.int (wn b)), some (.int (wn m)), some (.int (wn n)), some (.int (wn R))] [] G) : ∀ f c, f + c = 60 → la (fun k => gvn δ m k (dB δ)) n f c = R →
    am_W (am_C am_T (d + 11)) am_254 post 75 [some (.ref 334), some (.int (wn b)), some (.int (wn m)), some (.int (wn n)), some (.int (wn c))] [] G := by
  have hc := am_C_one am_T (d + 11)
  have v6 := hT.2.1.1
  intro f
  induction f with
  | zero =>
    intro c hf e
    simp only [la] at e
    subst e
    have c1 : 60 ≤ c := by omega
    rw [wb254_75 hc]
    simp +decide (disch := omega) only [↓wm1, w0, w1, w2, w60, w999, rI_wI, rP_wI, rL_wI, rI_wR, rP_wR, is_wI, is_wR, ia_wI, ia_wR, ow_wI, ow_wR, wn_add, wn_mul, wn_cl, wn_le, wn_lt, wn_inj, wn_ne1, wn_1ne, wn_gt1, wn_le1, nb0, nb1, am_kt, am_rt, List.cons_append, List.nil_append, true_and, and_true, not_true_eq_false, not_false_eq_true, imp_f, imp_t, implies_true, Nat.zero_add, if_true, if_false, false_and, and_false, c1]
    exact k
  | succ f ih =>
    intro c hf e
    have c1 : ¬ 60 ≤ c := by omega
    have gl := gvn_le δ m (c + 1) (dB δ)
    have gl2 : dB δ * (c + 1) ≤ 6 * 60 := Nat.mul_le_mul v6 (by omega)
    simp only [la] at e
    rw [wb254_75 hc]
    by_cases c2 : gvn δ m (c + 1) (dB δ) ≤ n
    · have c3 : ¬ n < gvn δ m (c + 1) (dB δ) := by omega
      rw [if_pos c2] at e
      simp +decide (disch := omega) only [↓wm1, wb254_82 hc, wb254_91 hc, wb254_95 hc, w0, w1, w2, w60, w999, rI_wI, rP_wI, rL_wI, rI_wR, rP_wR, is_wI, is_wR, ia_wI, ia_wR, ow_wI, ow_wR, wn_add, wn_mul, wn_cl, wn_le, wn_lt, wn_inj, wn_ne1, wn_1ne, wn_gt1, wn_le1, nb0, nb1, am_kt, am_rt, List.cons_append, List.nil_append, true_and, and_true, not_true_eq_false, not_false_eq_true, imp_f, imp_t, implies_true, Nat.zero_add, if_true, if_false, false_and, and_false, c1, fM hsh, ct253 hsh hT hm (show c + 1 ≤ 60 by omega), c3]
      exact ih (c + 1) (by omega) e
    · have c3 : n < gvn δ m (c + 1) (dB δ) := by omega
      rw [if_neg c2] at e
      subst e
      simp +decide (disch := omega) only [↓wm1, wb254_82 hc, wb254_91 hc, w0, w1, w2, w60, w999, rI_wI, rP_wI, rL_wI, rI_wR, rP_wR, is_wI, is_wR, ia_wI, ia_wR, ow_wI, ow_wR, wn_add, wn_mul, wn_cl, wn_le, wn_lt, wn_inj, wn_ne1, wn_1ne, wn_gt1, wn_le1, nb0, nb1, am_kt, am_rt, List.cons_append, List.nil_append, true_and, and_true, not_true_eq_false, not_false_eq_true, imp_f, imp_t, implies_true, Nat.zero_add, if_true, if_false, false_and, and_false, c1, fM hsh, ct253 hsh hT hm (show c + 1 ≤ 60 by omega), c3]
      exact k
def sp_metal (V : Vt) (x1 x2 x3 : Int32) : Res := if vin2 x1 0 (dB (vδ V)) = true then if vin2 x2 0 (2 ^ dB (vδ V)) = true then if vin2 x3 0 (1000) = true then .inl (q_metal V (u x1) (u x2) (u x3)) else .inr 1 else .inr 1 else .inr 0
theorem cl_metal (hR : RepC G V) (hB : am_rm G 1 6) (x1 x2 x3 : Int32) : am_C am_T (d + 12) 129 [.ref 0, .int x1, .int x2, .int x3] G (OC G (rfV V (sp_metal V x1 x2 x3)) (sp_metal V x1 x2 x3)) := by
  have hc := am_C_one am_T (d + 11)
  have hsh := hR.1
  have hv := hR.2.1
  obtain ⟨q, l, hT, -, -⟩ := hR.2.2.2.1
  have hr := hR.2.2.2.2.1.1
  have vd := hv.2.2.2.1
  have bB := vd.1
  have bH := vd.2.1
  have bD := vd.2.2.1
  have hs9 := hv.2.2.2.2.2.1
  have hvs := hs9.1
  have hg := hvs.g6 bB
  have ht := hvs.t6 bB
  have hm := hvs.2.2.2.2.2.1
  have h9 := hs9.2
  have p6 : 2 ^ dB (vδ V) ≤ 64 := Nat.pow_le_pow_right (n := 2) (by decide) bB
  have e6 := bs1 (dB (vδ V)) (by omega)
  unfold sp_metal
  rw [we129]
  rcases vin2_or x1 0 (dB (vδ V)) (by omega) (by omega) with ⟨b1, hl1, hh1, rfl⟩ | hx1
  · rw [if_pos (vin2_t hl1 hh1 (by omega))]
    rcases vin2_or x2 0 (2 ^ dB (vδ V)) (by omega) (by omega) with ⟨b2, hl2, hh2, rfl⟩ | hx2
    · rw [if_pos (vin2_t hl2 hh2 (by omega))]
      have na2 : ¬ b2 < 0 := by omega
      have nb2 : ¬ 2 ^ dB (vδ V) ≤ b2 := by omega
      rcases vin2_or x3 0 (1000) (by omega) (by omega) with ⟨b3, hl3, hh3, rfl⟩ | hx3
      · rw [if_pos (vin2_t hl3 hh3 (by omega))]
        have na3 : ¬ b3 < 0 := by omega
        have nb3 : ¬ 1000 ≤ b3 := by omega
        have nc3 : ¬ 999 < b3 := by omega
        simp only [u_wn (show b1 < 2147483648 by omega), u_wn (show b2 < 2147483648 by omega), u_wn (show b3 < 2147483648 by omega)]
        generalize hP : OC G (rfV V (.inl (q_metal V b1 b2 b3))) (.inl (q_metal V b1 b2 b3)) = P
        simp +decide (disch := omega) only [↓wm1, wb129_0 hc, wb129_5 hc, wb129_10 hc, wb129_26 hc, wb129_30 hc, wb129_31 hc, wb129_34 hc, wb129_39 hc, wb129_46 hc, wb129_50 hc, wb129_51 hc, w0, w1, w999, rI_wI, rP_wI, rL_wI, rI_wR, rP_wR, is_wI, is_wR, ia_wI, ia_wR, ow_wI, ow_wR, wn_add, wn_mul, wn_cl, wn_le, wn_lt, wn_inj, wn_ne1, wn_1ne, wn_gt1, wn_le1, nb0, nb1, am_kt, am_rt, List.cons_append, List.nil_append, true_and, and_true, not_true_eq_false, not_false_eq_true, imp_f, imp_t, implies_true, Nat.zero_add, if_true, if_false, false_and, and_false, cn129, fC hsh, fW2 hsh hT, fD hsh hT.2.2.1, e6, ct141y hsh hT hh1, na2, nb2, hh2, ct139y (v := 1) (by decide) (by decide), na3, nb3, hh3, nc3]
        have rb := hT.2.2.2.2.1.2.2.2.2.1 b1 hh1
        have vb := vd.2.2.2.2.1 b1 hh1
        have eb := bsr b2 (by omega) b1 (by omega)
        have bb := bt_01 b2 b1
        have ll := (ld_spec (fun k => gvn (vδ V) b2 k (dB (vδ V))) b3 60).1
        unfold q_metal at hP
        rw [← la_ld _ _ _ (gvn_mono (vδ V) b2 (dB (vδ V)))] at hP
        by_cases c2 : bt b2 b1 = 1
        · rw [if_pos c2] at hP
          simp +decide (disch := omega) only [↓wm1, wb129_54 hc, wb129_64 hc, wb129_85 hc, wb129_88 hc, w0, w1, w999, rI_wI, rP_wI, rL_wI, rI_wR, rP_wR, is_wI, is_wR, ia_wI, ia_wR, ow_wI, ow_wR, wn_add, wn_mul, wn_cl, wn_le, wn_lt, wn_inj, wn_ne1, wn_1ne, wn_gt1, wn_le1, nb0, nb1, am_kt, am_rt, List.cons_append, List.nil_append, true_and, and_true, not_true_eq_false, not_false_eq_true, imp_f, imp_t, implies_true, Nat.zero_add, if_true, if_false, false_and, and_false, cn129, fC hsh, fW2 hsh hT, fD hsh hT.2.2.1, fS hsh h32, eb, c2, rb.2, ct92 hsh hT (show b2 < 64 by omega) hh3, ct272n]
          rw [← hP]; exact OC_ok hR (Kp.refl _)
        · have c3 : bt b2 b1 = 0 := by omega
          rw [if_neg c2] at hP
          simp +decide (disch := omega) only [↓wm1, wb129_54 hc, wb129_62 hc, w0, w1, w999, rI_wI, rP_wI, rL_wI, rI_wR, rP_wR, is_wI, is_wR, ia_wI, ia_wR, ow_wI, ow_wR, wn_add, wn_mul, wn_cl, wn_le, wn_lt, wn_inj, wn_ne1, wn_1ne, wn_gt1, wn_le1, nb0, nb1, am_kt, am_rt, List.cons_append, List.nil_append, true_and, and_true, not_true_eq_false, not_false_eq_true, imp_f, imp_t, implies_true, Nat.zero_add, if_true, if_false, false_and, and_false, cn129, fC hsh, fW2 hsh hT, fD hsh hT.2.2.1, fS hsh h32, eb, c3]
          rw [← hP]; exact OC_ok hR (Kp.refl _)
      · rw [if_neg (vin2_nf hx3)]
        generalize hP : OC G (rfV V (.inr 1)) (.inr 1) = P
        by_cases hxa : x3 < wn 0
        · simp +decide (disch := omega) only [↓wm1, wb129_0 hc, wb129_5 hc, wb129_10 hc, wb129_26 hc, wb129_30 hc, wb129_31 hc, wb129_34 hc, wb129_39 hc, wb129_46 hc, wb129_50 hc, wb129_51 hc, wb129_54 hc, wb129_62 hc, wb129_64 hc, wb129_85 hc, wb129_88 hc, w0, w1, w999, rI_wI, rP_wI, rL_wI, rI_wR, rP_wR, is_wI, is_wR, ia_wI, ia_wR, ow_wI, ow_wR, wn_add, wn_mul, wn_cl, wn_le, wn_lt, wn_inj, wn_ne1, wn_1ne, wn_gt1, wn_le1, nb0, nb1, am_kt, am_rt, List.cons_append, List.nil_append, true_and, and_true, not_true_eq_false, not_false_eq_true, imp_f, imp_t, implies_true, Nat.zero_add, if_true, if_false, false_and, and_false, cn129, fC hsh, fW2 hsh hT, fD hsh hT.2.2.1, e6, ct141y hsh hT hh1, na2, nb2, hh2, ct139y (v := 1) (by decide) (by decide), hxa, ct139n hsh hB]
          rw [← hP]; exact OC_8 hR hB
        · have hxb : ¬ x3 < wn (1000) := by rcases hx3 with z | z; exact absurd z hxa; exact z
          have hxc : wn (1000) ≤ x3 := Int32.not_lt.mp hxb
          have hxd : wn 999 < x3 := out3 (by decide) hxb
          simp +decide (disch := omega) only [↓wm1, wb129_0 hc, wb129_5 hc, wb129_10 hc, wb129_26 hc, wb129_30 hc, wb129_31 hc, wb129_34 hc, wb129_39 hc, wb129_46 hc, wb129_50 hc, wb129_51 hc, wb129_54 hc, wb129_62 hc, wb129_64 hc, wb129_85 hc, wb129_88 hc, w0, w1, w999, rI_wI, rP_wI, rL_wI, rI_wR, rP_wR, is_wI, is_wR, ia_wI, ia_wR, ow_wI, ow_wR, wn_add, wn_mul, wn_cl, wn_le, wn_lt, wn_inj, wn_ne1, wn_1ne, wn_gt1, wn_le1, nb0, nb1, am_kt, am_rt, List.cons_append, List.nil_append, true_and, and_true, not_true_eq_false, not_false_eq_true, imp_f, imp_t, implies_true, Nat.zero_add, if_true, if_false, false_and, and_false, cn129, fC hsh, fW2 hsh hT, fD hsh hT.2.2.1, e6, ct141y hsh hT hh1, na2, nb2, hh2, ct139y (v := 1) (by decide) (by decide), hxa, hxb, hxc, hxd, ct139n hsh hB]
          rw [← hP]; exact OC_8 hR hB
    · rw [if_neg (vin2_nf hx2)]
      generalize hP : OC G (rfV V (.inr 1)) (.inr 1) = P
      by_cases hxa : x2 < wn 0
      · simp +decide (disch := omega) only [↓wm1, wb129_0 hc, wb129_5 hc, wb129_10 hc, wb129_26 hc, wb129_30 hc, wb129_31 hc, wb129_34 hc, wb129_39 hc, wb129_46 hc, wb129_50 hc, wb129_51 hc, wb129_54 hc, wb129_62 hc, wb129_64 hc, wb129_85 hc, wb129_88 hc, w0, w1, w999, rI_wI, rP_wI, rL_wI, rI_wR, rP_wR, is_wI, is_wR, ia_wI, ia_wR, ow_wI, ow_wR, wn_add, wn_mul, wn_cl, wn_le, wn_lt, wn_inj, wn_ne1, wn_1ne, wn_gt1, wn_le1, nb0, nb1, am_kt, am_rt, List.cons_append, List.nil_append, true_and, and_true, not_true_eq_false, not_false_eq_true, imp_f, imp_t, implies_true, Nat.zero_add, if_true, if_false, false_and, and_false, cn129, fC hsh, fW2 hsh hT, fD hsh hT.2.2.1, e6, ct141y hsh hT hh1, hxa, ct139n hsh hB]
        rw [← hP]; exact OC_8 hR hB
      · have hxb : ¬ x2 < wn (2 ^ dB (vδ V)) := by rcases hx2 with z | z; exact absurd z hxa; exact z
        have hxc : wn (2 ^ dB (vδ V)) ≤ x2 := Int32.not_lt.mp hxb
        simp +decide (disch := omega) only [↓wm1, wb129_0 hc, wb129_5 hc, wb129_10 hc, wb129_26 hc, wb129_30 hc, wb129_31 hc, wb129_34 hc, wb129_39 hc, wb129_46 hc, wb129_50 hc, wb129_51 hc, wb129_54 hc, wb129_62 hc, wb129_64 hc, wb129_85 hc, wb129_88 hc, w0, w1, w999, rI_wI, rP_wI, rL_wI, rI_wR, rP_wR, is_wI, is_wR, ia_wI, ia_wR, ow_wI, ow_wR, wn_add, wn_mul, wn_cl, wn_le, wn_lt, wn_inj, wn_ne1, wn_1ne, wn_gt1, wn_le1, nb0, nb1, am_kt, am_rt, List.cons_append, List.nil_append, true_and, and_true, not_true_eq_false, not_false_eq_true, imp_f, imp_t, implies_true, Nat.zero_add, if_true, if_false, false_and, and_false, cn129, fC hsh, fW2 hsh hT, fD hsh hT.2.2.1, e6, ct141y hsh hT hh1, hxa, hxb, hxc, ct139n hsh hB]
        rw [← hP]; exact OC_8 hR hB
  · rw [if_neg (vin2_nf hx1)]
    generalize hP : OC G (rfV V (.inr 0)) (.inr 0) = P
    simp +decide (disch := omega) only [↓wm1, wb129_0 hc, wb129_5 hc, wb129_10 hc, wb129_26 hc, wb129_30 hc, wb129_31 hc, wb129_34 hc, wb129_39 hc, wb129_46 hc, wb129_50 hc, wb129_51 hc, wb129_54 hc, wb129_62 hc, wb129_64 hc, wb129_85 hc, wb129_88 hc, w0, w1, w999, rI_wI, rP_wI, rL_wI, rI_wR, rP_wR, is_wI, is_wR, ia_wI, ia_wR, ow_wI, ow_wR, wn_add, wn_mul, wn_cl, wn_le, wn_lt, wn_inj, wn_ne1, wn_1ne, wn_gt1, wn_le1, nb0, nb1, am_kt, am_rt, List.cons_append, List.nil_append, true_and, and_true, not_true_eq_false, not_false_eq_true, imp_f, imp_t, implies_true, Nat.zero_add, if_true, if_false, false_and, and_false, cn129, fC hsh, fW2 hsh hT, fD hsh hT.2.2.1, e6, ct141n hx1 hsh hT hB]
    rw [← hP]; exact OC_7 hR hB
theorem rf_metal (hR : RepR G V) (x1 x2 x3 : Int32) : am_C am_T (d + 12) 254 [.ref 334, .int x1, .int x2, .int x3] G (OR G (rfV V (sp_metal V x1 x2 x3)) 2 (sp_metal V x1 x2 x3)) := by
  have hc := am_C_one am_T (d + 11)
  have k0 : Kp QSR G (am_wI G 334 0 (wn 0)) := (Kp.refl G).wI (Or.inl ⟨rfl, Or.inl rfl⟩) _
  have e0 : am_gI (am_wI G 334 0 (wn 0)) 334 0 = wn 0 := by rw [rI_wI, if_pos ⟨rfl, rfl⟩]
  have hR0 := hR.q k0
  have hshG := hR.1
  unfold sp_metal
  rw [we254]
  generalize hOR : OR G = OG
  simp +decide (disch := omega) only [↓wm1, wb254_0 hc, w0, w1, w2, w60, w999, rI_wI, rP_wI, rL_wI, rI_wR, rP_wR, is_wI, is_wR, ia_wI, ia_wR, ow_wI, ow_wR, wn_add, wn_mul, wn_cl, wn_le, wn_lt, wn_inj, wn_ne1, wn_1ne, wn_gt1, wn_le1, nb0, nb1, am_kt, am_rt, List.cons_append, List.nil_append, true_and, and_true, not_true_eq_false, not_false_eq_true, imp_f, imp_t, implies_true, Nat.zero_add, if_true, if_false, false_and, and_false, fM hshG, fE2 hR.2.2.2.1, ia338 hshG]
  generalize am_wI G 334 0 (wn 0) = G0 at k0 e0 hR0 ⊢
  subst hOR
  have hsh := hR0.1
  have hv := hR0.2.1
  have hT := hR0.2.2.2.1
  have hr := hR0.2.2.2.2.1.1
  have vd := hv.2.2.2.1
  have bB := vd.1
  have bH := vd.2.1
  have bD := vd.2.2.1
  have hs9 := hv.2.2.2.2.2.1
  have hvs := hs9.1
  have hg := hvs.g6 bB
  have ht := hvs.t6 bB
  have hm := hvs.2.2.2.2.2.1
  have h9 := hs9.2
  have p6 : 2 ^ dB (vδ V) ≤ 64 := Nat.pow_le_pow_right (n := 2) (by decide) bB
  have e6 := bs1 (dB (vδ V)) (by omega)
  rcases vin2_or x1 0 (dB (vδ V)) (by omega) (by omega) with ⟨b1, hl1, hh1, rfl⟩ | hx1
  · rw [if_pos (vin2_t hl1 hh1 (by omega))]
    rcases vin2_or x2 0 (2 ^ dB (vδ V)) (by omega) (by omega) with ⟨b2, hl2, hh2, rfl⟩ | hx2
    · rw [if_pos (vin2_t hl2 hh2 (by omega))]
      rcases vin2_or x3 0 (1000) (by omega) (by omega) with ⟨b3, hl3, hh3, rfl⟩ | hx3
      · rw [if_pos (vin2_t hl3 hh3 (by omega))]
        simp only [u_wn (show b1 < 2147483648 by omega), u_wn (show b2 < 2147483648 by omega), u_wn (show b3 < 2147483648 by omega)]
        generalize hP : OR G (rfV V (.inl (q_metal V b1 b2 b3))) 2 (.inl (q_metal V b1 b2 b3)) = P
        simp +decide (disch := omega) only [↓wm1, wb254_0 hc, wb254_11 hc, wb254_14 hc, wb254_18 hc, wb254_19 hc, wb254_24 hc, wb254_27 hc, wb254_43 hc, wb254_46 hc, wb254_54 hc, wb254_57 hc, wb254_61 hc, wb254_62 hc, wb254_67 hc, wb254_70 hc, wb254_72 hc, wb254_82 hc, wb254_91 hc, wb254_95 hc, wb254_101 hc, wb254_106 hc, wb254_109 hc, wb254_122 hc, wb254_125 hc, wb254_126 hc, w0, w1, w2, w60, w999, rI_wI, rP_wI, rL_wI, rI_wR, rP_wR, is_wI, is_wR, ia_wI, ia_wR, ow_wI, ow_wR, wn_add, wn_mul, wn_cl, wn_le, wn_lt, wn_inj, wn_ne1, wn_1ne, wn_gt1, wn_le1, nb0, nb1, am_kt, am_rt, List.cons_append, List.nil_append, true_and, and_true, not_true_eq_false, not_false_eq_true, imp_f, imp_t, implies_true, Nat.zero_add, if_true, if_false, false_and, and_false, fM hsh, fE2 hT, ia338 hsh, e6, b01, if_true, Bool.false_eq_true, ct214 hsh hT, ct215 hsh hT, ct220, ct153c, ct153v, ct152n hsh e0, vin2_t hl1 hh1 (by omega), vin2_t hl2 hh2 (by omega), vin2_t hl3 hh3 (by omega)]
        have rb := hT.1.2.2.2.2.1 b1 hh1
        have vb := vd.2.2.2.2.1 b1 hh1
        have bb := bt_01 b2 b1
        have ll := (la_spec (fun k => gvn (vδ V) b2 k (dB (vδ V))) b3 60 0).2.1
        unfold q_metal at hP
        refine ct254_l (R := la (fun k => gvn (vδ V) b2 k (dB (vδ V))) b3 60 0) hsh hT (show b2 < 64 by omega) hh3 ?_ 60 0 rfl rfl
        by_cases c2 : bt b2 b1 = 1
        · rw [if_pos c2, Nat.min_comm] at hP
          simp +decide (disch := omega) only [↓wm1, wb254_101 hc, wb254_106 hc, wb254_109 hc, wb254_122 hc, wb254_126 hc, w0, w1, w2, w60, w999, rI_wI, rP_wI, rL_wI, rI_wR, rP_wR, is_wI, is_wR, ia_wI, ia_wR, ow_wI, ow_wR, wn_add, wn_mul, wn_cl, wn_le, wn_lt, wn_inj, wn_ne1, wn_1ne, wn_gt1, wn_le1, nb0, nb1, am_kt, am_rt, List.cons_append, List.nil_append, true_and, and_true, not_true_eq_false, not_false_eq_true, imp_f, imp_t, implies_true, Nat.zero_add, if_true, if_false, false_and, and_false, fM hsh, fr346 hsh, ct156 (show b2 < 256 by omega) (show b1 < 8 by omega), c2, rb.2, ct154n]
          rw [← hP]; exact OR_ok hR k0 e0
        · have c3 : bt b2 b1 = 0 := by omega
          rw [if_neg c2] at hP
          simp +decide (disch := omega) only [↓wm1, wb254_101 hc, wb254_106 hc, wb254_125 hc, wb254_126 hc, w0, w1, w2, w60, w999, rI_wI, rP_wI, rL_wI, rI_wR, rP_wR, is_wI, is_wR, ia_wI, ia_wR, ow_wI, ow_wR, wn_add, wn_mul, wn_cl, wn_le, wn_lt, wn_inj, wn_ne1, wn_1ne, wn_gt1, wn_le1, nb0, nb1, am_kt, am_rt, List.cons_append, List.nil_append, true_and, and_true, not_true_eq_false, not_false_eq_true, imp_f, imp_t, implies_true, Nat.zero_add, if_true, if_false, false_and, and_false, fM hsh, ct156 (show b2 < 256 by omega) (show b1 < 8 by omega), c3]
          rw [← hP]; exact OR_ok hR k0 e0
      · rw [if_neg (vin2_nf hx3)]
        generalize hP : OR G (rfV V (.inr 1)) 2 (.inr 1) = P
        simp +decide (disch := omega) only [↓wm1, wb254_0 hc, wb254_11 hc, wb254_14 hc, wb254_18 hc, wb254_19 hc, wb254_24 hc, wb254_27 hc, wb254_43 hc, wb254_46 hc, wb254_54 hc, wb254_57 hc, wb254_61 hc, wb254_62 hc, wb254_67 hc, wb254_70 hc, wb254_72 hc, wb254_82 hc, wb254_91 hc, wb254_95 hc, wb254_101 hc, wb254_106 hc, wb254_109 hc, wb254_122 hc, wb254_125 hc, wb254_126 hc, w0, w1, w2, w60, w999, rI_wI, rP_wI, rL_wI, rI_wR, rP_wR, is_wI, is_wR, ia_wI, ia_wR, ow_wI, ow_wR, wn_add, wn_mul, wn_cl, wn_le, wn_lt, wn_inj, wn_ne1, wn_1ne, wn_gt1, wn_le1, nb0, nb1, am_kt, am_rt, List.cons_append, List.nil_append, true_and, and_true, not_true_eq_false, not_false_eq_true, imp_f, imp_t, implies_true, Nat.zero_add, if_true, if_false, false_and, and_false, fM hsh, fE2 hT, ia338 hsh, e6, b01, if_true, Bool.false_eq_true, ct214 hsh hT, ct215 hsh hT, ct220, ct153c, ct153v, ct152n hsh e0, vin2_t hl1 hh1 (by omega), vin2_t hl2 hh2 (by omega), vin2_f hx3, ct152y (c := 2) (r := 1) (by decide) (by decide) (by decide) hsh e0]
        rw [← hP]; exact OR_8 hR k0
    · rw [if_neg (vin2_nf hx2)]
      generalize hP : OR G (rfV V (.inr 1)) 2 (.inr 1) = P
      simp +decide (disch := omega) only [↓wm1, wb254_0 hc, wb254_11 hc, wb254_14 hc, wb254_18 hc, wb254_19 hc, wb254_24 hc, wb254_27 hc, wb254_43 hc, wb254_46 hc, wb254_54 hc, wb254_57 hc, wb254_61 hc, wb254_62 hc, wb254_67 hc, wb254_70 hc, wb254_72 hc, wb254_82 hc, wb254_91 hc, wb254_95 hc, wb254_101 hc, wb254_106 hc, wb254_109 hc, wb254_122 hc, wb254_125 hc, wb254_126 hc, w0, w1, w2, w60, w999, rI_wI, rP_wI, rL_wI, rI_wR, rP_wR, is_wI, is_wR, ia_wI, ia_wR, ow_wI, ow_wR, wn_add, wn_mul, wn_cl, wn_le, wn_lt, wn_inj, wn_ne1, wn_1ne, wn_gt1, wn_le1, nb0, nb1, am_kt, am_rt, List.cons_append, List.nil_append, true_and, and_true, not_true_eq_false, not_false_eq_true, imp_f, imp_t, implies_true, Nat.zero_add, if_true, if_false, false_and, and_false, fM hsh, fE2 hT, ia338 hsh, e6, b01, if_true, Bool.false_eq_true, ct214 hsh hT, ct215 hsh hT, ct220, ct153c, ct153v, ct152n hsh e0, vin2_t hl1 hh1 (by omega), vin2_f hx2, ct152y (c := 2) (r := 1) (by decide) (by decide) (by decide) hsh e0]
      rw [← hP]; exact OR_8 hR k0
  · rw [if_neg (vin2_nf hx1)]
    generalize hP : OR G (rfV V (.inr 0)) 2 (.inr 0) = P
    simp +decide (disch := omega) only [↓wm1, wb254_0 hc, wb254_11 hc, wb254_14 hc, wb254_18 hc, wb254_19 hc, wb254_24 hc, wb254_27 hc, wb254_43 hc, wb254_46 hc, wb254_54 hc, wb254_57 hc, wb254_61 hc, wb254_62 hc, wb254_67 hc, wb254_70 hc, wb254_72 hc, wb254_82 hc, wb254_91 hc, wb254_95 hc, wb254_101 hc, wb254_106 hc, wb254_109 hc, wb254_122 hc, wb254_125 hc, wb254_126 hc, w0, w1, w2, w60, w999, rI_wI, rP_wI, rL_wI, rI_wR, rP_wR, is_wI, is_wR, ia_wI, ia_wR, ow_wI, ow_wR, wn_add, wn_mul, wn_cl, wn_le, wn_lt, wn_inj, wn_ne1, wn_1ne, wn_gt1, wn_le1, nb0, nb1, am_kt, am_rt, List.cons_append, List.nil_append, true_and, and_true, not_true_eq_false, not_false_eq_true, imp_f, imp_t, implies_true, Nat.zero_add, if_true, if_false, false_and, and_false, fM hsh, fE2 hT, ia338 hsh, e6, b01, if_true, Bool.false_eq_true, ct214 hsh hT, ct215 hsh hT, ct220, ct153c, ct153v, ct152n hsh e0, vin2_f hx1, ct152y (c := 1) (r := 0) (by decide) (by decide) (by decide) hsh e0]
    rw [← hP]; exact OR_7 hR k0
end
/-! pulls -/
def pl (δ : Dt) (Λ : List Tok) (b : Nat) : Nat → St → St
  | 0, σ => σ
  | n + 1, σ => sPull δ Λ (pl δ Λ b n σ) b
theorem pl_st {δ : Dt} {Λ : List Tok} {σ : St} {b : Nat} : ∀ n, sG (pl δ Λ b n σ) = sG σ ∧ sT (pl δ Λ b n σ) = sT σ ∧ sH (pl δ Λ b n σ) = sH σ := by
  intro n
  induction n with
  | zero => exact ⟨rfl, rfl, rfl⟩
  | succ n ih => exact ih
theorem pl_spk {δ : Dt} {Λ : List Tok} {σ : St} {b : Nat} (n : Nat) : spk (pl δ Λ b n σ) b = spk σ b := by
  unfold spk
  rw [(pl_st n).1, (pl_st n).2.1]
theorem pl_vS {δ : Dt} {Λ : List Tok} {σ : St} {b : Nat} (hv : vS (dB δ) (dH δ) σ) (hb : b < dB δ) (hs : spk σ b = true) : ∀ n, vS (dB δ) (dH δ) (pl δ Λ b n σ) := by
  intro n
  induction n with
  | zero => exact hv
  | succ n ih =>
    have := vS_pull (Λ := Λ) ih hb
    unfold stPull at this
    rw [pl_spk, if_pos hs] at this
    exact this
theorem pl_stP {δ : Dt} {Λ : List Tok} {σ : St} {b : Nat} (hs : spk σ b = true) (n : Nat) : stPull δ Λ (pl δ Λ b n σ) b = (1, pl δ Λ b (n + 1) σ) := by
  unfold stPull
  rw [pl_spk, if_pos hs]
  rfl
/-- a bell of another mood does nothing for a deed -/
theorem pl_oth {δ : Dt} {Λ : List Tok} {σ : St} {b e : Nat} (hm : eM δ e ≤ 9) (hne : bM δ b ≠ eM δ e) : ∀ n, dn δ (pl δ Λ b n σ) e = dn δ σ e := by
  intro n
  induction n with
  | zero => rfl
  | succ n ih =>
    rw [← ih]
    unfold dn
    have : sM (pl δ Λ b (n + 1) σ) (eH δ e * 10 + eM δ e) = sM (pl δ Λ b n σ) (eH δ e * 10 + eM δ e) := by
      show sM (sPl δ Λ (pl δ Λ b n σ) b (dH δ)) _ = _
      simp only [sPl, mkS, sM]
      rw [if_neg (by omega)]
    rw [this]
def ofr (δ : Dt) (Λ : List Tok) (σ : St) (e b : Nat) : Nat → Nat → Option Nat
  | 0, _ => none
  | f + 1, k => if dn δ (pl δ Λ b k σ) e then some k else ofr δ Λ σ e b f (k + 1)
theorem ofr_le {δ : Dt} {Λ : List Tok} {σ : St} {e b : Nat} : ∀ f k x, ofr δ Λ σ e b f k = some x → x < k + f := by
  intro f
  induction f with
  | zero => intro k x h; cases h
  | succ f ih =>
    intro k x h
    simp only [ofr] at h
    split at h
    · cases h; omega
    · have := ih _ _ h; omega
theorem ofr_oth {δ : Dt} {Λ : List Tok} {σ : St} {b e : Nat} (hm : eM δ e ≤ 9) (hne : bM δ b ≠ eM δ e) (hd : dn δ σ e = false) : ∀ f k, ofr δ Λ σ e b f k = none := by
  intro f
  induction f with
  | zero => intro k; rfl
  | succ f ih =>
    intro k
    simp only [ofr, pl_oth hm hne, hd, ih]
    simp
theorem ofr_s {δ : Dt} {Λ : List Tok} {σ : St} {b e f : Nat} (hd : dn δ σ e = false) : ofr δ Λ σ e b (f + 1) 0 = ofr δ Λ σ e b f 1 := by
  simp only [ofr, pl, hd]
  simp
def oft (δ : Dt) (Λ : List Tok) (σ : St) (e b : Nat) : Option Nat := if spk σ b then ofr δ Λ σ e b 30 1 else none
theorem oft_lt {δ : Dt} {Λ : List Tok} {σ : St} {e b x : Nat} (h : oft δ Λ σ e b = some x) : x ≤ 30 := by
  unfold oft at h
  split at h
  · have := ofr_le _ _ _ h; omega
  · cases h
/-- the fewest of all bells, and by which -/
def pf (δ : Dt) (Λ : List Tok) (σ : St) (e : Nat) : Nat → Option (Nat × Nat)
  | 0 => none
  | b + 1 => match oft δ Λ σ e b with
    | none => pf δ Λ σ e b
    | some n => match pf δ Λ σ e b with
      | none => some (n, b)
      | some w => if n < w.1 then some (n, b) else some w
theorem pf_lt {δ : Dt} {Λ : List Tok} {σ : St} {e : Nat} : ∀ b w, pf δ Λ σ e b = some w → w.1 ≤ 30 ∧ w.2 < b := by
  intro b
  induction b with
  | zero => intro w h; cases h
  | succ b ih =>
    intro w h
    simp only [pf] at h
    cases ho : oft δ Λ σ e b with
    | none =>
      rw [ho] at h
      have := ih w h
      exact ⟨this.1, by omega⟩
    | some n =>
      have hn := oft_lt ho
      rw [ho] at h
      simp only at h
      cases hp : pf δ Λ σ e b with
      | none => rw [hp] at h; cases h; exact ⟨hn, by omega⟩
      | some v =>
        have := ih v hp
        rw [hp] at h
        simp only at h
        split at h
        · cases h; exact ⟨hn, by omega⟩
        · cases h; exact ⟨this.1, by omega⟩
def o1 (x : Option (Nat × Nat)) : Int32 := match x with
  | some w => wn w.1
  | none => mm
def o2 (x : Option (Nat × Nat)) : Int32 := match x with
  | some w => wn w.2
  | none => mm
def q_pulls (V : Vt) (e w : Nat) : Int32 := if dn (vδ V) (vσ V) e = true then (if w = 0 then wn 0 else mm) else if w = 0 then o1 (pf (vδ V) (vΛ V) (vσ V) e (dB (vδ V))) else o2 (pf (vδ V) (vΛ V) (vσ V) e (dB (vδ V)))
def PT : Nat → Nat → Prop := fun a _ => (a = 22 ∨ a = 25 ∨ a = 26) ∨ (102 ≤ a ∧ a < 106)
theorem CI.pt {G G' : am_G} {q l : Nat} {δ : Dt} {Λ : List Tok} {σ : St} (h : CI G q l δ Λ σ) (k : Kp PT G G') : CI G' q l δ Λ σ :=
  ⟨h.1.kp k, h.2.1.kp k (by intro a i z; unfold PT at z; omega), h.2.2.kp k (by intro a i z1 z2 z; unfold PT at z; omega)⟩
def MT : Nat → Nat → Prop := fun a _ => (a = 725 ∨ a = 726) ∨ a = 809
theorem RI.mt {G G' : am_G} {δ : Dt} {Λ : List Tok} {σ : St} (h : RI G δ Λ σ) (k : Kp MT G G') : RI G' δ Λ σ :=
  ⟨h.1.kp k, h.2.1.kp k (by intro a i z; unfold MT at z; exact ⟨by omega, by omega⟩), h.2.2.kp k (by intro i z; unfold MT at z; omega)⟩
theorem PT_q {G G' : am_G} (k : Kp PT G G') : Kp QSC G G' := k.mono (fun a i z => by unfold PT at z; unfold QSC; omega)
theorem MT_q {G G' : am_G} (k : Kp MT G G') : Kp QSR G G' := k.mono (fun a i z => by unfold MT at z; unfold QSR; omega)
section
variable {G : am_G} {d : Nat} {V : Vt} {post : am_O → am_G → Prop}
theorem ct91_l {q l e b : Nat} {δ : Dt} {Λ : List Tok} {σ : St} {R : Option Nat} (hv : vS (dB δ) (dH δ) σ) (hb : b < dB δ) (he : e < dD δ) (hsp : spk σ b = true) (hd8 : dD δ ≤ 8)
    (k : ∀ G', Kp PT G G' → post (.inl (some (.int (oI R)))) G') : ∀ (f c : Nat) (G1 : am_G), f + c = 31 → 1 ≤ c → ofr δ Λ σ e b f c = R → Sh G1 → Tw G1 q l δ Λ → rS G1 102 (pl δ Λ b (c - 1) σ) → Kp PT G G1 →
    am_W (am_C am_T (d + 6)) am_91 post 41 [some (.ref 3), none, some (.ref 102), some (.int (wn e)), some (.int (wn b)), some (.int (wn c))] [] G1 := by
  have hc := am_C_one am_T (d + 6)
  intro f
  induction f with
  | zero =>
    intro c G1 hf h1 hR s1 t1 r1 k1
    have c1 : 30 < c := by omega
    simp only [ofr] at hR
    subst hR
    rw [wb91_41 hc]
    simp +decide (disch := omega) only [↓wm1, wb91_78 hc, w0, w1, w30, rI_wI, rP_wI, rL_wI, rI_wR, rP_wR, is_wI, is_wR, ia_wI, ia_wR, ow_wI, ow_wR, wn_add, wn_mul, wn_cl, wn_le, wn_lt, wn_inj, wn_ne1, wn_1ne, wn_gt1, wn_le1, nb0, nb1, am_kt, am_rt, List.cons_append, List.nil_append, true_and, and_true, not_true_eq_false, not_false_eq_true, imp_f, imp_t, implies_true, Nat.zero_add, if_true, if_false, false_and, and_false, c1]
    exact k G1 k1
  | succ f ih =>
    intro c G1 hf h1 hR s1 t1 r1 k1
    have c1 : ¬ 30 < c := by omega
    simp only [ofr] at hR
    have vs := pl_vS (Λ := Λ) hv hb hsp (c - 1)
    have vs2 := pl_vS (Λ := Λ) hv hb hsp c
    have est := pl_stP (Λ := Λ) (δ := δ) hsp (c - 1)
    rw [show c - 1 + 1 = c by omega] at est
    rw [wb91_41 hc]
    simp +decide (disch := omega) only [↓wm1, wb91_48 hc, w0, w1, w30, rI_wI, rP_wI, rL_wI, rI_wR, rP_wR, is_wI, is_wR, ia_wI, ia_wR, ow_wI, ow_wR, wn_add, wn_mul, wn_cl, wn_le, wn_lt, wn_inj, wn_ne1, wn_1ne, wn_gt1, wn_le1, nb0, nb1, am_kt, am_rt, List.cons_append, List.nil_append, true_and, and_true, not_true_eq_false, not_false_eq_true, imp_f, imp_t, implies_true, Nat.zero_add, if_true, if_false, false_and, and_false, c1, fC s1]
    refine ct85 s1 t1 h102 r1 hb vs (fun G2 r2 k2 => ?_)
    rw [est] at r2
    rw [est]
    have s2 := s1.kp k2
    have t2 := t1.ps h102 k2
    have kk2 : Kp PT G G2 := k1.trans (k2.mono (fun a i z => by unfold PS at z; unfold PT; omega))
    have hlt := tb_lt (dn δ (pl δ Λ b c σ)) (dD δ)
    have hp8 : 2 ^ dD δ ≤ 2 ^ 8 := Nat.pow_le_pow_right (by decide) hd8
    have eb := bsr (tb (dn δ (pl δ Λ b c σ)) (dD δ)) (by omega) e (by omega)
    rw [bt_tb _ _ _ he] at eb
    cases hdn : dn δ (pl δ Λ b c σ) e with
    | true =>
      rw [hdn] at eb
      rw [hdn, if_pos rfl] at hR
      subst hR
      simp +decide (disch := omega) only [↓wm1, wb91_55 hc, wb91_61 hc, wb91_69 hc, w0, w1, w30, rI_wI, rP_wI, rL_wI, rI_wR, rP_wR, is_wI, is_wR, ia_wI, ia_wR, ow_wI, ow_wR, wn_add, wn_mul, wn_cl, wn_le, wn_lt, wn_inj, wn_ne1, wn_1ne, wn_gt1, wn_le1, nb0, nb1, am_kt, am_rt, List.cons_append, List.nil_append, true_and, and_true, not_true_eq_false, not_false_eq_true, imp_f, imp_t, implies_true, Nat.zero_add, if_true, if_false, false_and, and_false, fC s2, ct88 s2 t2 h102 r2 vs2.2.2.2.2.2.1, eb, b01]
      exact k G2 kk2
    | false =>
      rw [hdn] at eb
      rw [hdn] at hR
      simp only [Bool.false_eq_true, if_false] at hR
      simp +decide (disch := omega) only [↓wm1, wb91_55 hc, wb91_61 hc, wb91_72 hc, w0, w1, w30, rI_wI, rP_wI, rL_wI, rI_wR, rP_wR, is_wI, is_wR, ia_wI, ia_wR, ow_wI, ow_wR, wn_add, wn_mul, wn_cl, wn_le, wn_lt, wn_inj, wn_ne1, wn_1ne, wn_gt1, wn_le1, nb0, nb1, am_kt, am_rt, List.cons_append, List.nil_append, true_and, and_true, not_true_eq_false, not_false_eq_true, imp_f, imp_t, implies_true, Nat.zero_add, if_true, if_false, false_and, and_false, fC s2, ct88 s2 t2 h102 r2 vs2.2.2.2.2.2.1, eb, b01, Bool.false_eq_true]
      exact ih (c + 1) G2 (by omega) (by omega) hR s2 t2 (by rw [Nat.add_sub_cancel]; exact r2) kk2
theorem ct91 {q l e b : Nat} {δ : Dt} {Λ : List Tok} {σ : St} (hI : CI G q l δ Λ σ) (hv : vS (dB δ) (dH δ) σ) (hb : b < dB δ) (he : e < dD δ) (hnd : dn δ σ e = false)
    (k : ∀ G', Kp PT G G' → post (.inl (some (.int (oI (oft δ Λ σ e b))))) G') : am_C am_T (d + 7) 91 [.ref 3, .ref 32, .ref 102, .int (wn e), .int (wn b)] G post := by
  have hc := am_C_one am_T (d + 6)
  obtain ⟨s1, t1, r1⟩ := hI
  have vd := t1.2.2.2.2.2.1
  have rd1 := t1.2.2.2.2.1
  have rb := rd1.2.2.2.2.1 b hb
  have re := rd1.2.2.2.2.2.2 e he
  have vb := vd.2.2.2.2.1 b hb
  have ve := vd.2.2.2.2.2.2 e he
  have b6 := vd.1
  have d8 := vd.2.2.1
  unfold oft at k
  rw [we91]
  by_cases c1 : bM δ b = eM δ e
  · cases hsp : spk σ b with
    | false =>
      rw [hsp] at k
      simp only [Bool.false_eq_true, if_false] at k
      simp +decide (disch := omega) only [↓wm1, wb91_0 hc, wb91_22 hc, wb91_28 hc, wb91_31 hc, w0, w1, w30, rI_wI, rP_wI, rL_wI, rI_wR, rP_wR, is_wI, is_wR, ia_wI, ia_wR, ow_wI, ow_wR, wn_add, wn_mul, wn_cl, wn_le, wn_lt, wn_inj, wn_ne1, wn_1ne, wn_gt1, wn_le1, nb0, nb1, am_kt, am_rt, List.cons_append, List.nil_append, true_and, and_true, not_true_eq_false, not_false_eq_true, imp_f, imp_t, implies_true, Nat.zero_add, if_true, if_false, false_and, and_false, fC s1, fW2 s1 t1, fD s1 t1.2.2.1, rb.1, re.2.1, c1, ct48i s1 h32 r1 (hv.g6 b6) (hv.t6 b6) (show b < 6 by omega), hsp, b01, Bool.false_eq_true]
      exact k G (Kp.refl G)
    | true =>
      rw [hsp, if_pos rfl] at k
      simp +decide (disch := omega) only [↓wm1, wb91_0 hc, wb91_22 hc, wb91_28 hc, wb91_33 hc, w0, w1, w30, rI_wI, rP_wI, rL_wI, rI_wR, rP_wR, is_wI, is_wR, ia_wI, ia_wR, ow_wI, ow_wR, wn_add, wn_mul, wn_cl, wn_le, wn_lt, wn_inj, wn_ne1, wn_1ne, wn_gt1, wn_le1, nb0, nb1, am_kt, am_rt, List.cons_append, List.nil_append, true_and, and_true, not_true_eq_false, not_false_eq_true, imp_f, imp_t, implies_true, Nat.zero_add, if_true, if_false, false_and, and_false, fC s1, fW2 s1 t1, fD s1 t1.2.2.1, rb.1, re.2.1, c1, ct48i s1 h32 r1 (hv.g6 b6) (hv.t6 b6) (show b < 6 by omega), hsp, b01]
      refine ct47 s1 h102 h32 (by omega) r1 (fun G2 r2 k2 => ?_)
      simp +decide (disch := omega) only [↓wm1, wb91_38 hc, w0, w1, w30, rI_wI, rP_wI, rL_wI, rI_wR, rP_wR, is_wI, is_wR, ia_wI, ia_wR, ow_wI, ow_wR, wn_add, wn_mul, wn_cl, wn_le, wn_lt, wn_inj, wn_ne1, wn_1ne, wn_gt1, wn_le1, nb0, nb1, am_kt, am_rt, List.cons_append, List.nil_append, true_and, and_true, not_true_eq_false, not_false_eq_true, imp_f, imp_t, implies_true, Nat.zero_add, if_true, if_false, false_and, and_false]
      exact ct91_l (G := G) (q := q) (l := l) (Λ := Λ) hv hb he hsp d8 k 30 1 G2 rfl (Nat.le_refl _) rfl (s1.kp k2) (t1.kp k2 (by intro a i z; unfold sc at z; omega)) r2 (k2.mono (fun a i z => by unfold sc at z; unfold PT; omega))
  · have e0 : ofr δ Λ σ e b 30 1 = none := ofr_oth (by omega) c1 hnd 30 1
    rw [e0] at k
    have k2 : ∀ G', Kp PT G G' → post (.inl (some (.int mm))) G' := by
      intro G' kk
      have := k G' kk
      split at this <;> exact this
    simp +decide (disch := omega) only [↓wm1, wb91_0 hc, wb91_31 hc, w0, w1, w30, rI_wI, rP_wI, rL_wI, rI_wR, rP_wR, is_wI, is_wR, ia_wI, ia_wR, ow_wI, ow_wR, wn_add, wn_mul, wn_cl, wn_le, wn_lt, wn_inj, wn_ne1, wn_1ne, wn_gt1, wn_le1, nb0, nb1, am_kt, am_rt, List.cons_append, List.nil_append, true_and, and_true, not_true_eq_false, not_false_eq_true, imp_f, imp_t, implies_true, Nat.zero_add, if_true, if_false, false_and, and_false, fC s1, fW2 s1 t1, fD s1 t1.2.2.1, rb.1, re.2.1, c1]
    exact k2 G (Kp.refl G)
theorem ct231_l {e b : Nat} {δ : Dt} {Λ : List Tok} {σ : St} {R : Option Nat} (hv : vS (dB δ) (dH δ) σ) (hb : b < dB δ) (he : e < dD δ) (hsp : spk σ b = true)
    (k : ∀ G', Kp MT G G' → post (.inl (some (.int (oI R)))) G') : ∀ (f c : Nat) (G1 : am_G), f + c = 31 → ofr δ Λ σ e b f c = R → Sh G1 → Tm G1 δ Λ → rW G1 809 0 (pl δ Λ b c σ) → Kp MT G G1 →
    am_W (am_C am_T (d + 8)) am_231 post 13 [some (.ref 334), some (.int (wn e)), some (.int (wn b)), some (.int (wn c))] [] G1 := by
  have hc := am_C_one am_T (d + 8)
  intro f
  induction f with
  | zero =>
    intro c G1 hf hR s1 t1 r1 k1
    have c1 : 30 < c := by omega
    simp only [ofr] at hR
    subst hR
    rw [wb231_13 hc]
    simp +decide (disch := omega) only [↓wm1, wb231_53 hc, w0, w1, w30, rI_wI, rP_wI, rL_wI, rI_wR, rP_wR, is_wI, is_wR, ia_wI, ia_wR, ow_wI, ow_wR, wn_add, wn_mul, wn_cl, wn_le, wn_lt, wn_inj, wn_ne1, wn_1ne, wn_gt1, wn_le1, nb0, nb1, am_kt, am_rt, List.cons_append, List.nil_append, true_and, and_true, not_true_eq_false, not_false_eq_true, imp_f, imp_t, implies_true, Nat.zero_add, if_true, if_false, false_and, and_false, c1]
    exact k G1 k1
  | succ f ih =>
    intro c G1 hf hR s1 t1 r1 k1
    have c1 : ¬ 30 < c := by omega
    simp only [ofr] at hR
    have vs := pl_vS (Λ := Λ) hv hb hsp c
    have est := pl_stP (Λ := Λ) (δ := δ) hsp c
    rw [wb231_13 hc]
    cases hdn : dn δ (pl δ Λ b c σ) e with
    | true =>
      rw [hdn, if_pos rfl] at hR
      subst hR
      simp +decide (disch := omega) only [↓wm1, wb231_19 hc, wb231_28 hc, wb231_31 hc, w0, w1, w30, rI_wI, rP_wI, rL_wI, rI_wR, rP_wR, is_wI, is_wR, ia_wI, ia_wR, ow_wI, ow_wR, wn_add, wn_mul, wn_cl, wn_le, wn_lt, wn_inj, wn_ne1, wn_1ne, wn_gt1, wn_le1, nb0, nb1, am_kt, am_rt, List.cons_append, List.nil_append, true_and, and_true, not_true_eq_false, not_false_eq_true, imp_f, imp_t, implies_true, Nat.zero_add, if_true, if_false, false_and, and_false, c1, fM s1, ct210 s1 t1 h809 r1 vs.2.2.2.2.2.1 he, hdn, b01]
      exact k G1 k1
    | false =>
      rw [hdn] at hR
      simp only [Bool.false_eq_true, if_false] at hR
      simp +decide (disch := omega) only [↓wm1, wb231_19 hc, wb231_28 hc, wb231_33 hc, w0, w1, w30, rI_wI, rP_wI, rL_wI, rI_wR, rP_wR, is_wI, is_wR, ia_wI, ia_wR, ow_wI, ow_wR, wn_add, wn_mul, wn_cl, wn_le, wn_lt, wn_inj, wn_ne1, wn_1ne, wn_gt1, wn_le1, nb0, nb1, am_kt, am_rt, List.cons_append, List.nil_append, true_and, and_true, not_true_eq_false, not_false_eq_true, imp_f, imp_t, implies_true, Nat.zero_add, if_true, if_false, false_and, and_false, c1, fM s1, ct210 s1 t1 h809 r1 vs.2.2.2.2.2.1 he, hdn, b01, Bool.false_eq_true]
      refine ct200 s1 t1 h809 r1 hb vs (fun G2 r2 k2 => ?_)
      rw [est] at r2
      rw [est]
      simp +decide (disch := omega) only [↓wm1, wb231_42 hc, wb231_47 hc, w0, w1, w30, rI_wI, rP_wI, rL_wI, rI_wR, rP_wR, is_wI, is_wR, ia_wI, ia_wR, ow_wI, ow_wR, wn_add, wn_mul, wn_cl, wn_le, wn_lt, wn_inj, wn_ne1, wn_1ne, wn_gt1, wn_le1, nb0, nb1, am_kt, am_rt, List.cons_append, List.nil_append, true_and, and_true, not_true_eq_false, not_false_eq_true, imp_f, imp_t, implies_true, Nat.zero_add, if_true, if_false, false_and, and_false]
      exact ih (c + 1) G2 (by omega) hR (s1.kp k2) (t1.pm h809 k2) r2 (k1.trans (k2.mono (fun a i z => z)))
theorem ct231 {e b : Nat} {δ : Dt} {Λ : List Tok} {σ : St} (hI : RI G δ Λ σ) (hv : vS (dB δ) (dH δ) σ) (hb : b < dB δ) (he : e < dD δ) (hnd : dn δ σ e = false)
    (k : ∀ G', Kp MT G G' → post (.inl (some (.int (oI (oft δ Λ σ e b))))) G') : am_C am_T (d + 9) 231 [.ref 334, .int (wn e), .int (wn b)] G post := by
  have hc := am_C_one am_T (d + 8)
  obtain ⟨s1, t1, r1⟩ := hI
  unfold oft at k
  rw [we231]
  simp +decide (disch := omega) only [↓wm1, wb231_0 hc, w0, w1, w30, rI_wI, rP_wI, rL_wI, rI_wR, rP_wR, is_wI, is_wR, ia_wI, ia_wR, ow_wI, ow_wR, wn_add, wn_mul, wn_cl, wn_le, wn_lt, wn_inj, wn_ne1, wn_1ne, wn_gt1, wn_le1, nb0, nb1, am_kt, am_rt, List.cons_append, List.nil_append, true_and, and_true, not_true_eq_false, not_false_eq_true, imp_f, imp_t, implies_true, Nat.zero_add, if_true, if_false, false_and, and_false, fM s1]
  refine ct178 s1 h808 h809 (by decide) (fun G2 r2 k2 => ?_)
  have s2 := s1.kp k2
  have t2 : Tm G2 δ Λ := t1.kp k2 (by rintro a i rfl; exact ⟨by omega, by omega⟩)
  have w2 : rW G2 809 0 σ := r1.cp r2
  have kk2 : Kp MT G G2 := k2.mono (fun a i z => Or.inr z)
  simp +decide (disch := omega) only [↓wm1, wb231_11 hc, w0, w1, w30, rI_wI, rP_wI, rL_wI, rI_wR, rP_wR, is_wI, is_wR, ia_wI, ia_wR, ow_wI, ow_wR, wn_add, wn_mul, wn_cl, wn_le, wn_lt, wn_inj, wn_ne1, wn_1ne, wn_gt1, wn_le1, nb0, nb1, am_kt, am_rt, List.cons_append, List.nil_append, true_and, and_true, not_true_eq_false, not_false_eq_true, imp_f, imp_t, implies_true, Nat.zero_add, if_true, if_false, false_and, and_false]
  cases hsp : spk σ b with
  | true =>
    rw [hsp, if_pos rfl] at k
    exact ct231_l (G := G) (R := ofr δ Λ σ e b 30 1) hv hb he hsp k 31 0 G2 rfl (ofr_s (f := 30) hnd) s2 t2 w2 kk2
  | false =>
    rw [hsp] at k
    simp only [Bool.false_eq_true, if_false] at k
    rw [wb231_13 hc]
    have est : stPull δ Λ σ b = (0, σ) := by unfold stPull; rw [hsp]; rfl
    simp +decide (disch := omega) only [↓wm1, wb231_19 hc, wb231_28 hc, wb231_33 hc, w0, w1, w30, rI_wI, rP_wI, rL_wI, rI_wR, rP_wR, is_wI, is_wR, ia_wI, ia_wR, ow_wI, ow_wR, wn_add, wn_mul, wn_cl, wn_le, wn_lt, wn_inj, wn_ne1, wn_1ne, wn_gt1, wn_le1, nb0, nb1, am_kt, am_rt, List.cons_append, List.nil_append, true_and, and_true, not_true_eq_false, not_false_eq_true, imp_f, imp_t, implies_true, Nat.zero_add, if_true, if_false, false_and, and_false, fM s2, ct210 s2 t2 h809 w2 hv.2.2.2.2.2.1 he, hnd, b01, Bool.false_eq_true]
    refine ct200 s2 t2 h809 w2 hb hv (fun G3 r3 k3 => ?_)
    rw [est]
    simp +decide (disch := omega) only [↓wm1, wb231_42 hc, wb231_45 hc, w0, w1, w30, rI_wI, rP_wI, rL_wI, rI_wR, rP_wR, is_wI, is_wR, ia_wI, ia_wR, ow_wI, ow_wR, wn_add, wn_mul, wn_cl, wn_le, wn_lt, wn_inj, wn_ne1, wn_1ne, wn_gt1, wn_le1, nb0, nb1, am_kt, am_rt, List.cons_append, List.nil_append, true_and, and_true, not_true_eq_false, not_false_eq_true, imp_f, imp_t, implies_true, Nat.zero_add, if_true, if_false, false_and, and_false]
    exact k G3 (kk2.trans (k3.mono (fun a i z => z)))
def sp_pulls (V : Vt) (x1 x2 : Int32) : Res := if vin2 x1 0 (dD (vδ V)) = true then if vin2 x2 0 (2) = true then .inl (q_pulls V (u x1) (u x2)) else .inr 1 else .inr 0
theorem cl_pulls (hR : RepC G V) (hB : am_rm G 1 6) (x1 x2 : Int32) : am_C am_T (d + 12) 120 [.ref 0, .int x1, .int x2] G (OC G (rfV V (sp_pulls V x1 x2)) (sp_pulls V x1 x2)) := by
  have hc := am_C_one am_T (d + 11)
  have hsh := hR.1
  have hv := hR.2.1
  obtain ⟨q, l, hT, -, -⟩ := hR.2.2.2.1
  have hr := hR.2.2.2.2.1.1
  have vd := hv.2.2.2.1
  have bB := vd.1
  have bH := vd.2.1
  have bD := vd.2.2.1
  have hs9 := hv.2.2.2.2.2.1
  have hvs := hs9.1
  have hg := hvs.g6 bB
  have ht := hvs.t6 bB
  have hm := hvs.2.2.2.2.2.1
  have h9 := hs9.2
  have p6 : 2 ^ dB (vδ V) ≤ 64 := Nat.pow_le_pow_right (n := 2) (by decide) bB
  have e6 := bs1 (dB (vδ V)) (by omega)
  unfold sp_pulls
  rw [we120]
  rcases vin2_or x1 0 (dD (vδ V)) (by omega) (by omega) with ⟨b1, hl1, hh1, rfl⟩ | hx1
  · rw [if_pos (vin2_t hl1 hh1 (by omega))]
    rcases vin2_or x2 0 (2) (by omega) (by omega) with ⟨b2, hl2, hh2, rfl⟩ | hx2
    · rw [if_pos (vin2_t hl2 hh2 (by omega))]
      have na2 : ¬ b2 < 0 := by omega
      have nb2 : ¬ 2 ≤ b2 := by omega
      have nc2 : ¬ 1 < b2 := by omega
      simp only [u_wn (show b1 < 2147483648 by omega), u_wn (show b2 < 2147483648 by omega)]
      generalize hP : OC G (rfV V (.inl (q_pulls V b1 b2))) (.inl (q_pulls V b1 b2)) = P
      simp +decide (disch := omega) only [↓wm1, wb120_0 hc, wb120_5 hc, wb120_10 hc, wb120_15 hc, wb120_19 hc, wb120_20 hc, w0, w1, rI_wI, rP_wI, rL_wI, rI_wR, rP_wR, is_wI, is_wR, ia_wI, ia_wR, ow_wI, ow_wR, wn_add, wn_mul, wn_cl, wn_le, wn_lt, wn_inj, wn_ne1, wn_1ne, wn_gt1, wn_le1, nb0, nb1, am_kt, am_rt, List.cons_append, List.nil_append, true_and, and_true, not_true_eq_false, not_false_eq_true, imp_f, imp_t, implies_true, Nat.zero_add, if_true, if_false, false_and, and_false, cn120, fC hsh, fW2 hsh hT, fD hsh hT.2.2.1, e6, ct143y hsh hT hh1, na2, nb2, hh2, nc2, ct139y (v := 1) (by decide) (by decide)]
      have hlt := tb_lt (dn (vδ V) (vσ V)) (dD (vδ V))
      have hp8 : 2 ^ dD (vδ V) ≤ 2 ^ 8 := Nat.pow_le_pow_right (by decide) bD
      have eb := bsr (tb (dn (vδ V) (vσ V)) (dD (vδ V))) (by omega) b1 (by omega)
      rw [bt_tb _ _ _ hh1] at eb
      unfold q_pulls at hP
      cases hdn : dn (vδ V) (vσ V) b1 with
      | true =>
        rw [hdn] at eb hP
        rw [if_pos rfl] at hP
        by_cases z0 : b2 = 0
        · rw [if_pos z0] at hP
          simp +decide (disch := omega) only [↓wm1, wb120_23 hc, wb120_37 hc, wb120_45 hc, wb120_49 hc, wb120_54 hc, w0, w1, rI_wI, rP_wI, rL_wI, rI_wR, rP_wR, is_wI, is_wR, ia_wI, ia_wR, ow_wI, ow_wR, wn_add, wn_mul, wn_cl, wn_le, wn_lt, wn_inj, wn_ne1, wn_1ne, wn_gt1, wn_le1, nb0, nb1, am_kt, am_rt, List.cons_append, List.nil_append, true_and, and_true, not_true_eq_false, not_false_eq_true, imp_f, imp_t, implies_true, Nat.zero_add, if_true, if_false, false_and, and_false, cn120, fC hsh, fW2 hsh hT, fD hsh hT.2.2.1, fS hsh h32, ct88 hsh hT h32 hr hm, eb, b01, z0]
          rw [← hP]; exact OC_ok hR (Kp.refl _)
        · rw [if_neg z0] at hP
          simp +decide (disch := omega) only [↓wm1, wb120_23 hc, wb120_37 hc, wb120_45 hc, wb120_53 hc, wb120_54 hc, w0, w1, rI_wI, rP_wI, rL_wI, rI_wR, rP_wR, is_wI, is_wR, ia_wI, ia_wR, ow_wI, ow_wR, wn_add, wn_mul, wn_cl, wn_le, wn_lt, wn_inj, wn_ne1, wn_1ne, wn_gt1, wn_le1, nb0, nb1, am_kt, am_rt, List.cons_append, List.nil_append, true_and, and_true, not_true_eq_false, not_false_eq_true, imp_f, imp_t, implies_true, Nat.zero_add, if_true, if_false, false_and, and_false, cn120, fC hsh, fW2 hsh hT, fD hsh hT.2.2.1, fS hsh h32, ct88 hsh hT h32 hr hm, eb, b01, z0]
          rw [← hP]; exact OC_ok hR (Kp.refl _)
      | false =>
        rw [hdn] at eb hP
        rw [if_neg (by decide)] at hP
        simp +decide (disch := omega) only [↓wm1, wb120_23 hc, wb120_37 hc, wb120_55 hc, w0, w1, rI_wI, rP_wI, rL_wI, rI_wR, rP_wR, is_wI, is_wR, ia_wI, ia_wR, ow_wI, ow_wR, wn_add, wn_mul, wn_cl, wn_le, wn_lt, wn_inj, wn_ne1, wn_1ne, wn_gt1, wn_le1, nb0, nb1, am_kt, am_rt, List.cons_append, List.nil_append, true_and, and_true, not_true_eq_false, not_false_eq_true, imp_f, imp_t, implies_true, Nat.zero_add, if_true, if_false, false_and, and_false, cn120, fC hsh, fW2 hsh hT, fD hsh hT.2.2.1, fS hsh h32, ct88 hsh hT h32 hr hm, eb, b01, Bool.false_eq_true]
        refine am_for (dB (vδ V)) (fun j ls G2 => CI G2 q l (vδ V) (vΛ V) (vσ V) ∧ Kp PT G G2 ∧ ls = [some (.ref 0), some (.int (wn b1)), some (.int (wn b2)), some (.int (o1 (pf (vδ V) (vΛ V) (vσ V) b1 j))), some (.int (o2 (pf (vδ V) (vΛ V) (vσ V) b1 j))), some (.int (wn j)), none]) ?_ ?_ (dB (vδ V)) 0 (by omega) _ _ ⟨⟨hsh, hT, hr⟩, Kp.refl G, rfl⟩
        · rintro j hj _ G1 ⟨i1, k1, rfl⟩ nx
          have c1 : ¬ dB (vδ V) ≤ j := by omega
          rw [wb120_63 hc]
          simp +decide (disch := omega) only [↓wm1, wb120_78 hc, w0, w1, rI_wI, rP_wI, rL_wI, rI_wR, rP_wR, is_wI, is_wR, ia_wI, ia_wR, ow_wI, ow_wR, wn_add, wn_mul, wn_cl, wn_le, wn_lt, wn_inj, wn_ne1, wn_1ne, wn_gt1, wn_le1, nb0, nb1, am_kt, am_rt, List.cons_append, List.nil_append, true_and, and_true, not_true_eq_false, not_false_eq_true, imp_f, imp_t, implies_true, Nat.zero_add, if_true, if_false, false_and, and_false, cn120, fC i1.1, fW2 i1.1 i1.2.1, fD i1.1 i1.2.1.2.2.1, fS i1.1 h32, c1]
          refine ct91 i1 hvs hj hh1 hdn (fun G2 k2 => ?_)
          have fin : ∀ x, x = pf (vδ V) (vΛ V) (vσ V) b1 (j + 1) → am_W (am_C am_T (d + 11)) am_120 P 63 [some (.ref 0), some (.int (wn b1)), some (.int (wn b2)), some (.int (o1 x)), some (.int (o2 x)), some (.int (wn (j + 1))), none] [] G2 := fun x hx => nx _ _ ⟨i1.pt k2, k1.trans k2, by rw [hx]⟩
          cases ho : oft (vδ V) (vΛ V) (vσ V) b1 j with
          | none =>
            simp +decide (disch := omega) only [↓wm1, wb120_99 hc, wb120_125 hc, w0, w1, rI_wI, rP_wI, rL_wI, rI_wR, rP_wR, is_wI, is_wR, ia_wI, ia_wR, ow_wI, ow_wR, wn_add, wn_mul, wn_cl, wn_le, wn_lt, wn_inj, wn_ne1, wn_1ne, wn_gt1, wn_le1, nb0, nb1, am_kt, am_rt, List.cons_append, List.nil_append, true_and, and_true, not_true_eq_false, not_false_eq_true, imp_f, imp_t, implies_true, Nat.zero_add, if_true, if_false, false_and, and_false, cn120, oI]
            exact fin _ (by simp only [pf, ho])
          | some n =>
            have hn := oft_lt ho
            cases hpf : pf (vδ V) (vΛ V) (vσ V) b1 j with
            | none =>
              simp +decide (disch := omega) only [↓wm1, wb120_99 hc, wb120_107 hc, wb120_118 hc, wb120_125 hc, w0, w1, rI_wI, rP_wI, rL_wI, rI_wR, rP_wR, is_wI, is_wR, ia_wI, ia_wR, ow_wI, ow_wR, wn_add, wn_mul, wn_cl, wn_le, wn_lt, wn_inj, wn_ne1, wn_1ne, wn_gt1, wn_le1, nb0, nb1, am_kt, am_rt, List.cons_append, List.nil_append, true_and, and_true, not_true_eq_false, not_false_eq_true, imp_f, imp_t, implies_true, Nat.zero_add, if_true, if_false, false_and, and_false, cn120, oI, o1, o2]
              exact fin (some (n, j)) (by simp only [pf, ho, hpf])
            | some v =>
              have hvl := pf_lt _ _ hpf
              by_cases c2 : v.1 ≤ n
              · simp +decide (disch := omega) only [↓wm1, wb120_99 hc, wb120_107 hc, wb120_112 hc, wb120_125 hc, w0, w1, rI_wI, rP_wI, rL_wI, rI_wR, rP_wR, is_wI, is_wR, ia_wI, ia_wR, ow_wI, ow_wR, wn_add, wn_mul, wn_cl, wn_le, wn_lt, wn_inj, wn_ne1, wn_1ne, wn_gt1, wn_le1, nb0, nb1, am_kt, am_rt, List.cons_append, List.nil_append, true_and, and_true, not_true_eq_false, not_false_eq_true, imp_f, imp_t, implies_true, Nat.zero_add, if_true, if_false, false_and, and_false, cn120, oI, o1, o2, c2]
                exact fin (some v) (by simp only [pf, ho, hpf]; rw [if_neg (by omega)])
              · simp +decide (disch := omega) only [↓wm1, wb120_99 hc, wb120_107 hc, wb120_112 hc, wb120_118 hc, wb120_125 hc, w0, w1, rI_wI, rP_wI, rL_wI, rI_wR, rP_wR, is_wI, is_wR, ia_wI, ia_wR, ow_wI, ow_wR, wn_add, wn_mul, wn_cl, wn_le, wn_lt, wn_inj, wn_ne1, wn_1ne, wn_gt1, wn_le1, nb0, nb1, am_kt, am_rt, List.cons_append, List.nil_append, true_and, and_true, not_true_eq_false, not_false_eq_true, imp_f, imp_t, implies_true, Nat.zero_add, if_true, if_false, false_and, and_false, cn120, oI, o1, o2, c2]
                exact fin (some (n, j)) (by simp only [pf, ho, hpf]; rw [if_pos (by omega)])
        · rintro _ G1 ⟨i1, k1, rfl⟩
          rw [wb120_63 hc]
          by_cases z0 : b2 = 0
          · rw [if_pos z0] at hP
            simp +decide (disch := omega) only [↓wm1, wb120_131 hc, wb120_135 hc, wb120_141 hc, w0, w1, rI_wI, rP_wI, rL_wI, rI_wR, rP_wR, is_wI, is_wR, ia_wI, ia_wR, ow_wI, ow_wR, wn_add, wn_mul, wn_cl, wn_le, wn_lt, wn_inj, wn_ne1, wn_1ne, wn_gt1, wn_le1, nb0, nb1, am_kt, am_rt, List.cons_append, List.nil_append, true_and, and_true, not_true_eq_false, not_false_eq_true, imp_f, imp_t, implies_true, Nat.zero_add, if_true, if_false, false_and, and_false, cn120, fC i1.1, fW2 i1.1 i1.2.1, fD i1.1 i1.2.1.2.2.1, fS i1.1 h32, Nat.le_refl, z0]
            rw [← hP]; exact OC_ok hR (PT_q k1)
          · rw [if_neg z0] at hP
            simp +decide (disch := omega) only [↓wm1, wb120_131 hc, wb120_139 hc, wb120_141 hc, w0, w1, rI_wI, rP_wI, rL_wI, rI_wR, rP_wR, is_wI, is_wR, ia_wI, ia_wR, ow_wI, ow_wR, wn_add, wn_mul, wn_cl, wn_le, wn_lt, wn_inj, wn_ne1, wn_1ne, wn_gt1, wn_le1, nb0, nb1, am_kt, am_rt, List.cons_append, List.nil_append, true_and, and_true, not_true_eq_false, not_false_eq_true, imp_f, imp_t, implies_true, Nat.zero_add, if_true, if_false, false_and, and_false, cn120, fC i1.1, fW2 i1.1 i1.2.1, fD i1.1 i1.2.1.2.2.1, fS i1.1 h32, Nat.le_refl, z0]
            rw [← hP]; exact OC_ok hR (PT_q k1)
    · rw [if_neg (vin2_nf hx2)]
      generalize hP : OC G (rfV V (.inr 1)) (.inr 1) = P
      by_cases hxa : x2 < wn 0
      · simp +decide (disch := omega) only [↓wm1, wb120_0 hc, wb120_5 hc, wb120_10 hc, wb120_15 hc, wb120_19 hc, wb120_20 hc, wb120_23 hc, wb120_37 hc, wb120_45 hc, wb120_49 hc, wb120_53 hc, wb120_54 hc, wb120_55 hc, wb120_78 hc, wb120_99 hc, wb120_107 hc, wb120_112 hc, wb120_118 hc, wb120_125 hc, wb120_131 hc, wb120_135 hc, wb120_139 hc, wb120_141 hc, w0, w1, rI_wI, rP_wI, rL_wI, rI_wR, rP_wR, is_wI, is_wR, ia_wI, ia_wR, ow_wI, ow_wR, wn_add, wn_mul, wn_cl, wn_le, wn_lt, wn_inj, wn_ne1, wn_1ne, wn_gt1, wn_le1, nb0, nb1, am_kt, am_rt, List.cons_append, List.nil_append, true_and, and_true, not_true_eq_false, not_false_eq_true, imp_f, imp_t, implies_true, Nat.zero_add, if_true, if_false, false_and, and_false, cn120, fC hsh, fW2 hsh hT, fD hsh hT.2.2.1, e6, ct143y hsh hT hh1, hxa, ct139n hsh hB]
        rw [← hP]; exact OC_8 hR hB
      · have hxb : ¬ x2 < wn (2) := by rcases hx2 with z | z; exact absurd z hxa; exact z
        have hxc : wn (2) ≤ x2 := Int32.not_lt.mp hxb
        have hxd : wn 1 < x2 := out3 (by decide) hxb
        simp +decide (disch := omega) only [↓wm1, wb120_0 hc, wb120_5 hc, wb120_10 hc, wb120_15 hc, wb120_19 hc, wb120_20 hc, wb120_23 hc, wb120_37 hc, wb120_45 hc, wb120_49 hc, wb120_53 hc, wb120_54 hc, wb120_55 hc, wb120_78 hc, wb120_99 hc, wb120_107 hc, wb120_112 hc, wb120_118 hc, wb120_125 hc, wb120_131 hc, wb120_135 hc, wb120_139 hc, wb120_141 hc, w0, w1, rI_wI, rP_wI, rL_wI, rI_wR, rP_wR, is_wI, is_wR, ia_wI, ia_wR, ow_wI, ow_wR, wn_add, wn_mul, wn_cl, wn_le, wn_lt, wn_inj, wn_ne1, wn_1ne, wn_gt1, wn_le1, nb0, nb1, am_kt, am_rt, List.cons_append, List.nil_append, true_and, and_true, not_true_eq_false, not_false_eq_true, imp_f, imp_t, implies_true, Nat.zero_add, if_true, if_false, false_and, and_false, cn120, fC hsh, fW2 hsh hT, fD hsh hT.2.2.1, e6, ct143y hsh hT hh1, hxa, hxb, hxc, hxd, ct139n hsh hB]
        rw [← hP]; exact OC_8 hR hB
  · rw [if_neg (vin2_nf hx1)]
    generalize hP : OC G (rfV V (.inr 0)) (.inr 0) = P
    simp +decide (disch := omega) only [↓wm1, wb120_0 hc, wb120_5 hc, wb120_10 hc, wb120_15 hc, wb120_19 hc, wb120_20 hc, wb120_23 hc, wb120_37 hc, wb120_45 hc, wb120_49 hc, wb120_53 hc, wb120_54 hc, wb120_55 hc, wb120_78 hc, wb120_99 hc, wb120_107 hc, wb120_112 hc, wb120_118 hc, wb120_125 hc, wb120_131 hc, wb120_135 hc, wb120_139 hc, wb120_141 hc, w0, w1, rI_wI, rP_wI, rL_wI, rI_wR, rP_wR, is_wI, is_wR, ia_wI, ia_wR, ow_wI, ow_wR, wn_add, wn_mul, wn_cl, wn_le, wn_lt, wn_inj, wn_ne1, wn_1ne, wn_gt1, wn_le1, nb0, nb1, am_kt, am_rt, List.cons_append, List.nil_append, true_and, and_true, not_true_eq_false, not_false_eq_true, imp_f, imp_t, implies_true, Nat.zero_add, if_true, if_false, false_and, and_false, cn120, fC hsh, fW2 hsh hT, fD hsh hT.2.2.1, e6, ct143n hx1 hsh hT hB]
    rw [← hP]; exact OC_7 hR hB
theorem rf_pulls (hR : RepR G V) (x1 x2 : Int32) : am_C am_T (d + 12) 232 [.ref 334, .int x1, .int x2] G (OR G (rfV V (sp_pulls V x1 x2)) 2 (sp_pulls V x1 x2)) := by
  have hc := am_C_one am_T (d + 11)
  have k0 : Kp QSR G (am_wI G 334 0 (wn 0)) := (Kp.refl G).wI (Or.inl ⟨rfl, Or.inl rfl⟩) _
  have e0 : am_gI (am_wI G 334 0 (wn 0)) 334 0 = wn 0 := by rw [rI_wI, if_pos ⟨rfl, rfl⟩]
  have hR0 := hR.q k0
  have hshG := hR.1
  unfold sp_pulls
  rw [we232]
  generalize hOR : OR G = OG
  simp +decide (disch := omega) only [↓wm1, wb232_0 hc, w0, w1, w2, rI_wI, rP_wI, rL_wI, rI_wR, rP_wR, is_wI, is_wR, ia_wI, ia_wR, ow_wI, ow_wR, wn_add, wn_mul, wn_cl, wn_le, wn_lt, wn_inj, wn_ne1, wn_1ne, wn_gt1, wn_le1, nb0, nb1, am_kt, am_rt, List.cons_append, List.nil_append, true_and, and_true, not_true_eq_false, not_false_eq_true, imp_f, imp_t, implies_true, Nat.zero_add, if_true, if_false, false_and, and_false, fM hshG, fE2 hR.2.2.2.1, ia338 hshG]
  generalize am_wI G 334 0 (wn 0) = G0 at k0 e0 hR0 ⊢
  subst hOR
  have hsh := hR0.1
  have hv := hR0.2.1
  have hT := hR0.2.2.2.1
  have hr := hR0.2.2.2.2.1.1
  have vd := hv.2.2.2.1
  have bB := vd.1
  have bH := vd.2.1
  have bD := vd.2.2.1
  have hs9 := hv.2.2.2.2.2.1
  have hvs := hs9.1
  have hg := hvs.g6 bB
  have ht := hvs.t6 bB
  have hm := hvs.2.2.2.2.2.1
  have h9 := hs9.2
  have p6 : 2 ^ dB (vδ V) ≤ 64 := Nat.pow_le_pow_right (n := 2) (by decide) bB
  have e6 := bs1 (dB (vδ V)) (by omega)
  rcases vin2_or x1 0 (dD (vδ V)) (by omega) (by omega) with ⟨b1, hl1, hh1, rfl⟩ | hx1
  · rw [if_pos (vin2_t hl1 hh1 (by omega))]
    rcases vin2_or x2 0 (2) (by omega) (by omega) with ⟨b2, hl2, hh2, rfl⟩ | hx2
    · rw [if_pos (vin2_t hl2 hh2 (by omega))]
      simp only [u_wn (show b1 < 2147483648 by omega), u_wn (show b2 < 2147483648 by omega)]
      generalize hP : OR G (rfV V (.inl (q_pulls V b1 b2))) 2 (.inl (q_pulls V b1 b2)) = P
      simp +decide (disch := omega) only [↓wm1, wb232_0 hc, wb232_19 hc, wb232_22 hc, wb232_26 hc, wb232_27 hc, wb232_32 hc, wb232_35 hc, wb232_42 hc, wb232_45 hc, wb232_49 hc, wb232_50 hc, wb232_55 hc, w0, w1, w2, rI_wI, rP_wI, rL_wI, rI_wR, rP_wR, is_wI, is_wR, ia_wI, ia_wR, ow_wI, ow_wR, wn_add, wn_mul, wn_cl, wn_le, wn_lt, wn_inj, wn_ne1, wn_1ne, wn_gt1, wn_le1, nb0, nb1, am_kt, am_rt, List.cons_append, List.nil_append, true_and, and_true, not_true_eq_false, not_false_eq_true, imp_f, imp_t, implies_true, Nat.zero_add, if_true, if_false, false_and, and_false, fM hsh, fE2 hT, ia338 hsh, e6, b01, if_true, Bool.false_eq_true, ct214 hsh hT, ct215 hsh hT, ct220, ct153c, ct153v, ct152n hsh e0, vin2_t hl1 hh1 (by omega), vin2_t hl2 hh2 (by omega)]
      unfold q_pulls at hP
      cases hdn : dn (vδ V) (vσ V) b1 with
      | true =>
        rw [hdn] at hP
        rw [if_pos rfl] at hP
        simp +decide (disch := omega) only [↓wm1, wb232_60 hc, wb232_71 hc, wb232_74 hc, wb232_79 hc, w0, w1, w2, rI_wI, rP_wI, rL_wI, rI_wR, rP_wR, is_wI, is_wR, ia_wI, ia_wR, ow_wI, ow_wR, wn_add, wn_mul, wn_cl, wn_le, wn_lt, wn_inj, wn_ne1, wn_1ne, wn_gt1, wn_le1, nb0, nb1, am_kt, am_rt, List.cons_append, List.nil_append, true_and, and_true, not_true_eq_false, not_false_eq_true, imp_f, imp_t, implies_true, Nat.zero_add, if_true, if_false, false_and, and_false, fM hsh, fE2 hT, ia338 hsh, ct210 hsh hT h808 hr hm hh1, hdn, b01]
        rw [wb232_84 hc]
        by_cases hB0 : dB (vδ V) ≤ 0
        · by_cases z0 : b2 = 0
          · rw [if_pos z0] at hP
            simp +decide (disch := omega) only [↓wm1, wb232_151 hc, wb232_155 hc, wb232_161 hc, w0, w1, w2, rI_wI, rP_wI, rL_wI, rI_wR, rP_wR, is_wI, is_wR, ia_wI, ia_wR, ow_wI, ow_wR, wn_add, wn_mul, wn_cl, wn_le, wn_lt, wn_inj, wn_ne1, wn_1ne, wn_gt1, wn_le1, nb0, nb1, am_kt, am_rt, List.cons_append, List.nil_append, true_and, and_true, not_true_eq_false, not_false_eq_true, imp_f, imp_t, implies_true, Nat.zero_add, if_true, if_false, false_and, and_false, fM hsh, fE2 hT, ia338 hsh, hB0, z0]
            rw [← hP]; exact OR_ok hR k0 e0
          · rw [if_neg z0] at hP
            simp +decide (disch := omega) only [↓wm1, wb232_151 hc, wb232_160 hc, wb232_161 hc, w0, w1, w2, rI_wI, rP_wI, rL_wI, rI_wR, rP_wR, is_wI, is_wR, ia_wI, ia_wR, ow_wI, ow_wR, wn_add, wn_mul, wn_cl, wn_le, wn_lt, wn_inj, wn_ne1, wn_1ne, wn_gt1, wn_le1, nb0, nb1, am_kt, am_rt, List.cons_append, List.nil_append, true_and, and_true, not_true_eq_false, not_false_eq_true, imp_f, imp_t, implies_true, Nat.zero_add, if_true, if_false, false_and, and_false, fM hsh, fE2 hT, ia338 hsh, hB0, z0]
            rw [← hP]; exact OR_ok hR k0 e0
        · by_cases z0 : b2 = 0
          · rw [if_pos z0] at hP
            simp +decide (disch := omega) only [↓wm1, wb232_95 hc, wb232_104 hc, wb232_151 hc, wb232_155 hc, wb232_161 hc, w0, w1, w2, rI_wI, rP_wI, rL_wI, rI_wR, rP_wR, is_wI, is_wR, ia_wI, ia_wR, ow_wI, ow_wR, wn_add, wn_mul, wn_cl, wn_le, wn_lt, wn_inj, wn_ne1, wn_1ne, wn_gt1, wn_le1, nb0, nb1, am_kt, am_rt, List.cons_append, List.nil_append, true_and, and_true, not_true_eq_false, not_false_eq_true, imp_f, imp_t, implies_true, Nat.zero_add, if_true, if_false, false_and, and_false, fM hsh, fE2 hT, ia338 hsh, hB0, ct210 hsh hT h808 hr hm hh1, hdn, b01, z0]
            rw [← hP]; exact OR_ok hR k0 e0
          · rw [if_neg z0] at hP
            simp +decide (disch := omega) only [↓wm1, wb232_95 hc, wb232_104 hc, wb232_151 hc, wb232_160 hc, wb232_161 hc, w0, w1, w2, rI_wI, rP_wI, rL_wI, rI_wR, rP_wR, is_wI, is_wR, ia_wI, ia_wR, ow_wI, ow_wR, wn_add, wn_mul, wn_cl, wn_le, wn_lt, wn_inj, wn_ne1, wn_1ne, wn_gt1, wn_le1, nb0, nb1, am_kt, am_rt, List.cons_append, List.nil_append, true_and, and_true, not_true_eq_false, not_false_eq_true, imp_f, imp_t, implies_true, Nat.zero_add, if_true, if_false, false_and, and_false, fM hsh, fE2 hT, ia338 hsh, hB0, ct210 hsh hT h808 hr hm hh1, hdn, b01, z0]
            rw [← hP]; exact OR_ok hR k0 e0
      | false =>
        rw [hdn] at hP
        rw [if_neg (by decide)] at hP
        simp +decide (disch := omega) only [↓wm1, wb232_60 hc, wb232_71 hc, wb232_78 hc, wb232_79 hc, w0, w1, w2, rI_wI, rP_wI, rL_wI, rI_wR, rP_wR, is_wI, is_wR, ia_wI, ia_wR, ow_wI, ow_wR, wn_add, wn_mul, wn_cl, wn_le, wn_lt, wn_inj, wn_ne1, wn_1ne, wn_gt1, wn_le1, nb0, nb1, am_kt, am_rt, List.cons_append, List.nil_append, true_and, and_true, not_true_eq_false, not_false_eq_true, imp_f, imp_t, implies_true, Nat.zero_add, if_true, if_false, false_and, and_false, fM hsh, fE2 hT, ia338 hsh, ct210 hsh hT h808 hr hm hh1, hdn, b01, Bool.false_eq_true]
        refine am_for (dB (vδ V)) (fun j ls G2 => RI G2 (vδ V) (vΛ V) (vσ V) ∧ Kp MT G0 G2 ∧ ls = [some (.ref 334), some (.int (wn b1)), some (.int (wn b2)), some (.int (o2 (pf (vδ V) (vΛ V) (vσ V) b1 j))), some (.int (o1 (pf (vδ V) (vΛ V) (vσ V) b1 j))), some (.int (wn j)), none]) ?_ ?_ (dB (vδ V)) 0 (by omega) _ _ ⟨⟨hsh, hT, hr⟩, Kp.refl G0, rfl⟩
        · rintro j hj _ G1 ⟨i1, k1, rfl⟩ nx
          have c1 : ¬ dB (vδ V) ≤ j := by omega
          rw [wb232_84 hc]
          simp +decide (disch := omega) only [↓wm1, wb232_95 hc, wb232_104 hc, wb232_107 hc, w0, w1, w2, rI_wI, rP_wI, rL_wI, rI_wR, rP_wR, is_wI, is_wR, ia_wI, ia_wR, ow_wI, ow_wR, wn_add, wn_mul, wn_cl, wn_le, wn_lt, wn_inj, wn_ne1, wn_1ne, wn_gt1, wn_le1, nb0, nb1, am_kt, am_rt, List.cons_append, List.nil_append, true_and, and_true, not_true_eq_false, not_false_eq_true, imp_f, imp_t, implies_true, Nat.zero_add, if_true, if_false, false_and, and_false, fM i1.1, fE2 i1.2.1, ia338 i1.1, c1, ct210 i1.1 i1.2.1 h808 i1.2.2 hm hh1, hdn, b01, Bool.false_eq_true]
          refine ct231 i1 hvs hj hh1 hdn (fun G2 k2 => ?_)
          have fin : ∀ x, x = pf (vδ V) (vΛ V) (vσ V) b1 (j + 1) → am_W (am_C am_T (d + 11)) am_232 P 84 [some (.ref 334), some (.int (wn b1)), some (.int (wn b2)), some (.int (o2 x)), some (.int (o1 x)), some (.int (wn (j + 1))), none] [] G2 := fun x hx => nx _ _ ⟨i1.mt k2, k1.trans k2, by rw [hx]⟩
          cases ho : oft (vδ V) (vΛ V) (vσ V) b1 j with
          | none =>
            simp +decide (disch := omega) only [↓wm1, wb232_114 hc, wb232_145 hc, w0, w1, w2, rI_wI, rP_wI, rL_wI, rI_wR, rP_wR, is_wI, is_wR, ia_wI, ia_wR, ow_wI, ow_wR, wn_add, wn_mul, wn_cl, wn_le, wn_lt, wn_inj, wn_ne1, wn_1ne, wn_gt1, wn_le1, nb0, nb1, am_kt, am_rt, List.cons_append, List.nil_append, true_and, and_true, not_true_eq_false, not_false_eq_true, imp_f, imp_t, implies_true, Nat.zero_add, if_true, if_false, false_and, and_false, oI]
            exact fin _ (by simp only [pf, ho])
          | some n =>
            have hn := oft_lt ho
            cases hpf : pf (vδ V) (vΛ V) (vσ V) b1 j with
            | none =>
              simp +decide (disch := omega) only [↓wm1, wb232_114 hc, wb232_122 hc, wb232_138 hc, wb232_145 hc, w0, w1, w2, rI_wI, rP_wI, rL_wI, rI_wR, rP_wR, is_wI, is_wR, ia_wI, ia_wR, ow_wI, ow_wR, wn_add, wn_mul, wn_cl, wn_le, wn_lt, wn_inj, wn_ne1, wn_1ne, wn_gt1, wn_le1, nb0, nb1, am_kt, am_rt, List.cons_append, List.nil_append, true_and, and_true, not_true_eq_false, not_false_eq_true, imp_f, imp_t, implies_true, Nat.zero_add, if_true, if_false, false_and, and_false, oI, o1, o2]
              exact fin (some (n, j)) (by simp only [pf, ho, hpf])
            | some v =>
              have hvl := pf_lt _ _ hpf
              by_cases c2 : n < v.1
              · simp +decide (disch := omega) only [↓wm1, wb232_114 hc, wb232_122 hc, wb232_128 hc, wb232_138 hc, wb232_145 hc, w0, w1, w2, rI_wI, rP_wI, rL_wI, rI_wR, rP_wR, is_wI, is_wR, ia_wI, ia_wR, ow_wI, ow_wR, wn_add, wn_mul, wn_cl, wn_le, wn_lt, wn_inj, wn_ne1, wn_1ne, wn_gt1, wn_le1, nb0, nb1, am_kt, am_rt, List.cons_append, List.nil_append, true_and, and_true, not_true_eq_false, not_false_eq_true, imp_f, imp_t, implies_true, Nat.zero_add, if_true, if_false, false_and, and_false, oI, o1, o2, c2]
                exact fin (some (n, j)) (by simp only [pf, ho, hpf]; rw [if_pos (by omega)])
              · simp +decide (disch := omega) only [↓wm1, wb232_114 hc, wb232_122 hc, wb232_128 hc, wb232_135 hc, wb232_145 hc, w0, w1, w2, rI_wI, rP_wI, rL_wI, rI_wR, rP_wR, is_wI, is_wR, ia_wI, ia_wR, ow_wI, ow_wR, wn_add, wn_mul, wn_cl, wn_le, wn_lt, wn_inj, wn_ne1, wn_1ne, wn_gt1, wn_le1, nb0, nb1, am_kt, am_rt, List.cons_append, List.nil_append, true_and, and_true, not_true_eq_false, not_false_eq_true, imp_f, imp_t, implies_true, Nat.zero_add, if_true, if_false, false_and, and_false, oI, o1, o2, c2]
                exact fin (some v) (by simp only [pf, ho, hpf]; rw [if_neg (by omega)])
        · rintro _ G1 ⟨i1, k1, rfl⟩
          rw [wb232_84 hc]
          by_cases z0 : b2 = 0
          · rw [if_pos z0] at hP
            simp +decide (disch := omega) only [↓wm1, wb232_151 hc, wb232_155 hc, wb232_161 hc, w0, w1, w2, rI_wI, rP_wI, rL_wI, rI_wR, rP_wR, is_wI, is_wR, ia_wI, ia_wR, ow_wI, ow_wR, wn_add, wn_mul, wn_cl, wn_le, wn_lt, wn_inj, wn_ne1, wn_1ne, wn_gt1, wn_le1, nb0, nb1, am_kt, am_rt, List.cons_append, List.nil_append, true_and, and_true, not_true_eq_false, not_false_eq_true, imp_f, imp_t, implies_true, Nat.zero_add, if_true, if_false, false_and, and_false, fM i1.1, fE2 i1.2.1, ia338 i1.1, Nat.le_refl, z0]
            rw [← hP]; exact OR_ok hR (k0.trans (MT_q k1)) (k1.thr (by unfold MT; omega) e0)
          · rw [if_neg z0] at hP
            simp +decide (disch := omega) only [↓wm1, wb232_151 hc, wb232_160 hc, wb232_161 hc, w0, w1, w2, rI_wI, rP_wI, rL_wI, rI_wR, rP_wR, is_wI, is_wR, ia_wI, ia_wR, ow_wI, ow_wR, wn_add, wn_mul, wn_cl, wn_le, wn_lt, wn_inj, wn_ne1, wn_1ne, wn_gt1, wn_le1, nb0, nb1, am_kt, am_rt, List.cons_append, List.nil_append, true_and, and_true, not_true_eq_false, not_false_eq_true, imp_f, imp_t, implies_true, Nat.zero_add, if_true, if_false, false_and, and_false, fM i1.1, fE2 i1.2.1, ia338 i1.1, Nat.le_refl, z0]
            rw [← hP]; exact OR_ok hR (k0.trans (MT_q k1)) (k1.thr (by unfold MT; omega) e0)
    · rw [if_neg (vin2_nf hx2)]
      generalize hP : OR G (rfV V (.inr 1)) 2 (.inr 1) = P
      simp +decide (disch := omega) only [↓wm1, wb232_0 hc, wb232_19 hc, wb232_22 hc, wb232_26 hc, wb232_27 hc, wb232_32 hc, wb232_35 hc, wb232_42 hc, wb232_45 hc, wb232_49 hc, wb232_50 hc, wb232_55 hc, wb232_58 hc, wb232_60 hc, wb232_71 hc, wb232_74 hc, wb232_78 hc, wb232_79 hc, wb232_95 hc, wb232_104 hc, wb232_107 hc, wb232_114 hc, wb232_122 hc, wb232_128 hc, wb232_135 hc, wb232_138 hc, wb232_145 hc, wb232_151 hc, wb232_155 hc, wb232_160 hc, wb232_161 hc, w0, w1, w2, rI_wI, rP_wI, rL_wI, rI_wR, rP_wR, is_wI, is_wR, ia_wI, ia_wR, ow_wI, ow_wR, wn_add, wn_mul, wn_cl, wn_le, wn_lt, wn_inj, wn_ne1, wn_1ne, wn_gt1, wn_le1, nb0, nb1, am_kt, am_rt, List.cons_append, List.nil_append, true_and, and_true, not_true_eq_false, not_false_eq_true, imp_f, imp_t, implies_true, Nat.zero_add, if_true, if_false, false_and, and_false, fM hsh, fE2 hT, ia338 hsh, e6, b01, if_true, Bool.false_eq_true, ct214 hsh hT, ct215 hsh hT, ct220, ct153c, ct153v, ct152n hsh e0, vin2_t hl1 hh1 (by omega), vin2_f hx2, ct152y (c := 2) (r := 1) (by decide) (by decide) (by decide) hsh e0]
      rw [← hP]; exact OR_8 hR k0
  · rw [if_neg (vin2_nf hx1)]
    generalize hP : OR G (rfV V (.inr 0)) 2 (.inr 0) = P
    simp +decide (disch := omega) only [↓wm1, wb232_0 hc, wb232_19 hc, wb232_22 hc, wb232_26 hc, wb232_27 hc, wb232_32 hc, wb232_35 hc, wb232_42 hc, wb232_45 hc, wb232_49 hc, wb232_50 hc, wb232_55 hc, wb232_58 hc, wb232_60 hc, wb232_71 hc, wb232_74 hc, wb232_78 hc, wb232_79 hc, wb232_95 hc, wb232_104 hc, wb232_107 hc, wb232_114 hc, wb232_122 hc, wb232_128 hc, wb232_135 hc, wb232_138 hc, wb232_145 hc, wb232_151 hc, wb232_155 hc, wb232_160 hc, wb232_161 hc, w0, w1, w2, rI_wI, rP_wI, rL_wI, rI_wR, rP_wR, is_wI, is_wR, ia_wI, ia_wR, ow_wI, ow_wR, wn_add, wn_mul, wn_cl, wn_le, wn_lt, wn_inj, wn_ne1, wn_1ne, wn_gt1, wn_le1, nb0, nb1, am_kt, am_rt, List.cons_append, List.nil_append, true_and, and_true, not_true_eq_false, not_false_eq_true, imp_f, imp_t, implies_true, Nat.zero_add, if_true, if_false, false_and, and_false, fM hsh, fE2 hT, ia338 hsh, e6, b01, if_true, Bool.false_eq_true, ct214 hsh hT, ct215 hsh hT, ct220, ct153c, ct153v, ct152n hsh e0, vin2_f hx1, ct152y (c := 1) (r := 0) (by decide) (by decide) (by decide) hsh e0]
    rw [← hP]; exact OR_7 hR k0
end
