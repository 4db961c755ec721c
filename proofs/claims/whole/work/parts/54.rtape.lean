/-! The reference's tape. -/
def QS : Nat → Nat → Prop := fun a i => a = 334 ∧ 4 ≤ i ∧ i ≤ 6
def Bq (G : am_G) (t : Nat → Nat) : Prop := (∀ i, t i < 256) ∧ ∀ i, i < 600 → am_gI G 335 i = wn (t i)
theorem Bq.kp {Sc : Nat → Nat → Prop} {G G' : am_G} {t : Nat → Nat} (h : Bq G t) (k : Kp Sc G G') (hn : ∀ i, ¬ Sc 335 i) : Bq G' t := ⟨h.1, fun i hi => by rw [k.i (hn i)]; exact h.2 i hi⟩
def rQ (G : am_G) (t : Nat → Nat) (n p o : Nat) : Prop := Bq G t ∧ n ≤ 600 ∧ p ≤ n ∧ skb t n p = p ∧ o ≤ 6 ∧ am_gI G 334 1 = wn 0 ∧ am_gI G 334 2 = wn n ∧ (∃ a, a ≤ n ∧ skb t n a = p ∧ am_gI G 334 4 = wn a) ∧ am_gI G 334 5 = wn 0 ∧ am_gI G 334 8 = wn o
def fQ (G : am_G) (t : Nat → Nat) (n k w : Nat) : Prop := Bq G t ∧ n ≤ 600 ∧ am_gI G 334 1 = wn 0 ∧ am_gI G 334 2 = wn n ∧ (∃ a, a ≤ n ∧ am_gI G 334 4 = wn a) ∧ (1 ≤ k ∧ k ≤ 3) ∧ am_gI G 334 5 = wn k ∧ am_gI G 334 6 = wn w
theorem rQ.kp {Sc : Nat → Nat → Prop} {G G' : am_G} {t : Nat → Nat} {n p o : Nat} (h : rQ G t n p o) (k : Kp Sc G G') (hn : ∀ a i, Sc a i → a ≠ 335 ∧ (a = 334 → 9 ≤ i)) : rQ G' t n p o := by
  obtain ⟨h1, h2, h3, h4, h5, h6, h7, ⟨a, ha, hb, hd⟩, h9, h10⟩ := h
  have e : ∀ i, i < 9 → am_gI G' 334 i = am_gI G 334 i := fun i hi => k.i (fun z => by have := (hn _ _ z).2 rfl; omega)
  exact ⟨h1.kp k (fun i z => (hn _ _ z).1 rfl), h2, h3, h4, h5, by rw [e _ (by decide)]; exact h6, by rw [e _ (by decide)]; exact h7, ⟨a, ha, hb, by rw [e _ (by decide)]; exact hd⟩, by rw [e _ (by decide)]; exact h9, by rw [e _ (by decide)]; exact h10⟩
theorem fQ.kp {Sc : Nat → Nat → Prop} {G G' : am_G} {t : Nat → Nat} {n k w : Nat} (h : fQ G t n k w) (kp : Kp Sc G G') (hn : ∀ a i, Sc a i → a ≠ 335 ∧ (a = 334 → 7 ≤ i)) : fQ G' t n k w := by
  obtain ⟨h1, h2, h3, h4, ⟨a, ha, hd⟩, h6, h7, h8⟩ := h
  have e : ∀ i, i < 7 → am_gI G' 334 i = am_gI G 334 i := fun i hi => kp.i (fun z => by have := (hn _ _ z).2 rfl; omega)
  exact ⟨h1.kp kp (fun i z => (hn _ _ z).1 rfl), h2, by rw [e _ (by decide)]; exact h3, by rw [e _ (by decide)]; exact h4, ⟨a, ha, by rw [e _ (by decide)]; exact hd⟩, h6, by rw [e _ (by decide)]; exact h7, by rw [e _ (by decide)]; exact h8⟩
/-- the byte at a place, none behind the end -/
def byq (t : Nat → Nat) (n k : Nat) : Int32 := if k < n then wn (t k) else mm
theorem byq_eq {t : Nat → Nat} {n k c : Nat} (hx : t k < 256) (hc : c < 256) : byq t n k = wn c ↔ (k < n ∧ t k = c) := by
  unfold byq
  by_cases h : k < n
  · rw [if_pos h, wn_inj (by omega) (by omega)]
    exact ⟨fun q => ⟨h, q⟩, fun q => q.2⟩
  · rw [if_neg h, wn_1ne (by omega)]
    exact ⟨fun q => q.elim, fun q => absurd q.1 h⟩
section
variable {G : am_G} {d n p o a : Nat} {t : Nat → Nat} {post : am_O → am_G → Prop}
theorem ct158 {k : Nat} (hsh : Sh G) (hb : Bq G t) (hn : n ≤ 600) (e2 : am_gI G 334 2 = wn n) (hk : k < 2147483648) : am_C am_T (d + 1) 158 [.ref 334, .int (wn k)] G post ↔ post (.inl (some (.int (byq t n k)))) G := by
  have hc := am_C_one am_T d
  rw [we158]
  unfold byq
  by_cases c : k < n
  · have e := hb.2 k (by omega)
    simp +decide (disch := omega) only [↓wm1, wb158_0 hc, wb158_8 hc, wb158_12 hc, wb158_18 hc, w0, w1, rI_wI, rP_wI, rL_wI, rI_wR, rP_wR, is_wI, is_wR, ia_wI, ia_wR, ow_wI, ow_wR, wn_add, wn_mul, wn_cl, wn_le, wn_lt, wn_inj, wn_ne1, wn_1ne, wn_gt1, wn_le1, nb0, nb1, am_kt, am_rt, List.cons_append, List.nil_append, true_and, and_true, not_true_eq_false, not_false_eq_true, imp_f, imp_t, implies_true, Nat.zero_add, if_true, if_false, fM hsh, ia335 hsh, e2, c, e, if_true]
  · simp +decide (disch := omega) only [↓wm1, wb158_0 hc, wb158_8 hc, wb158_12 hc, wb158_18 hc, w0, w1, rI_wI, rP_wI, rL_wI, rI_wR, rP_wR, is_wI, is_wR, ia_wI, ia_wR, ow_wI, ow_wR, wn_add, wn_mul, wn_cl, wn_le, wn_lt, wn_inj, wn_ne1, wn_1ne, wn_gt1, wn_le1, nb0, nb1, am_kt, am_rt, List.cons_append, List.nil_append, true_and, and_true, not_true_eq_false, not_false_eq_true, imp_f, imp_t, implies_true, Nat.zero_add, if_true, if_false, fM hsh, e2, c, if_false]
theorem ct161 {k : Nat} (hx : t k < 256) : am_C am_T (d + 1) 161 [.int (byq t n k)] G post ↔ post (.inl (some (.int (wn (b01 (decide (k < n ∧ isD (t k) = true))))))) G := by
  have hc := am_C_one am_T d
  have e0 : mm < wn 48 := by decide
  rw [we161]
  by_cases C : k < n ∧ isD (t k) = true
  · have a1 : 48 ≤ t k ∧ t k ≤ 57 := by simpa only [isD, decide_eq_true_eq] using C.2
    have b1 : ¬ t k < 48 := by omega
    have b2 : ¬ 57 < t k := by omega
    have eb : byq t n k = wn (t k) := by unfold byq; rw [if_pos C.1]
    rw [decide_eq_true C, eb]
    simp +decide (disch := omega) only [↓wm1, wb161_0 hc, wb161_6 hc, wb161_12 hc, wb161_16 hc, wb161_17 hc, w0, w1, w48, w57, rI_wI, rP_wI, rL_wI, rI_wR, rP_wR, is_wI, is_wR, ia_wI, ia_wR, ow_wI, ow_wR, wn_add, wn_mul, wn_cl, wn_le, wn_lt, wn_inj, wn_ne1, wn_1ne, wn_gt1, wn_le1, nb0, nb1, am_kt, am_rt, List.cons_append, List.nil_append, true_and, and_true, not_true_eq_false, not_false_eq_true, imp_f, imp_t, implies_true, Nat.zero_add, if_true, if_false, b1, b2, b01]
  · rw [decide_eq_false C]
    by_cases c : k < n
    · have eb : byq t n k = wn (t k) := by unfold byq; rw [if_pos c]
      have a1 : ¬ (48 ≤ t k ∧ t k ≤ 57) := fun z => C ⟨c, by simpa only [isD, decide_eq_true_eq] using z⟩
      rw [eb]
      by_cases c1 : t k < 48
      · simp +decide (disch := omega) only [↓wm1, wb161_0 hc, wb161_6 hc, wb161_12 hc, wb161_16 hc, wb161_17 hc, w0, w1, w48, w57, rI_wI, rP_wI, rL_wI, rI_wR, rP_wR, is_wI, is_wR, ia_wI, ia_wR, ow_wI, ow_wR, wn_add, wn_mul, wn_cl, wn_le, wn_lt, wn_inj, wn_ne1, wn_1ne, wn_gt1, wn_le1, nb0, nb1, am_kt, am_rt, List.cons_append, List.nil_append, true_and, and_true, not_true_eq_false, not_false_eq_true, imp_f, imp_t, implies_true, Nat.zero_add, if_true, if_false, c1, b01, Bool.false_eq_true]
      · have c3 : 57 < t k := by omega
        simp +decide (disch := omega) only [↓wm1, wb161_0 hc, wb161_6 hc, wb161_12 hc, wb161_16 hc, wb161_17 hc, w0, w1, w48, w57, rI_wI, rP_wI, rL_wI, rI_wR, rP_wR, is_wI, is_wR, ia_wI, ia_wR, ow_wI, ow_wR, wn_add, wn_mul, wn_cl, wn_le, wn_lt, wn_inj, wn_ne1, wn_1ne, wn_gt1, wn_le1, nb0, nb1, am_kt, am_rt, List.cons_append, List.nil_append, true_and, and_true, not_true_eq_false, not_false_eq_true, imp_f, imp_t, implies_true, Nat.zero_add, if_true, if_false, c1, c3, b01, Bool.false_eq_true]
    · have eb : byq t n k = mm := by unfold byq; rw [if_neg c]
      rw [eb]
      simp +decide (disch := omega) only [↓wm1, wb161_0 hc, wb161_6 hc, wb161_12 hc, wb161_16 hc, wb161_17 hc, w0, w1, w48, w57, rI_wI, rP_wI, rL_wI, rI_wR, rP_wR, is_wI, is_wR, ia_wI, ia_wR, ow_wI, ow_wR, wn_add, wn_mul, wn_cl, wn_le, wn_lt, wn_inj, wn_ne1, wn_1ne, wn_gt1, wn_le1, nb0, nb1, am_kt, am_rt, List.cons_append, List.nil_append, true_and, and_true, not_true_eq_false, not_false_eq_true, imp_f, imp_t, implies_true, Nat.zero_add, if_true, if_false, e0, b01, Bool.false_eq_true]
theorem ct162 {k : Nat} (hx : t k < 256) : am_C am_T (d + 1) 162 [.int (byq t n k)] G post ↔ post (.inl (some (.int (wn (b01 (decide (k < n ∧ isL (t k) = true))))))) G := by
  have hc := am_C_one am_T d
  have e0 : mm < wn 97 := by decide
  rw [we162]
  by_cases C : k < n ∧ isL (t k) = true
  · have a1 : 97 ≤ t k ∧ t k ≤ 122 := by simpa only [isL, decide_eq_true_eq] using C.2
    have b1 : ¬ t k < 97 := by omega
    have b2 : ¬ 122 < t k := by omega
    have eb : byq t n k = wn (t k) := by unfold byq; rw [if_pos C.1]
    rw [decide_eq_true C, eb]
    simp +decide (disch := omega) only [↓wm1, wb162_0 hc, wb162_6 hc, wb162_12 hc, wb162_16 hc, wb162_17 hc, w0, w1, w97, w122, rI_wI, rP_wI, rL_wI, rI_wR, rP_wR, is_wI, is_wR, ia_wI, ia_wR, ow_wI, ow_wR, wn_add, wn_mul, wn_cl, wn_le, wn_lt, wn_inj, wn_ne1, wn_1ne, wn_gt1, wn_le1, nb0, nb1, am_kt, am_rt, List.cons_append, List.nil_append, true_and, and_true, not_true_eq_false, not_false_eq_true, imp_f, imp_t, implies_true, Nat.zero_add, if_true, if_false, b1, b2, b01]
  · rw [decide_eq_false C]
    by_cases c : k < n
    · have eb : byq t n k = wn (t k) := by unfold byq; rw [if_pos c]
      have a1 : ¬ (97 ≤ t k ∧ t k ≤ 122) := fun z => C ⟨c, by simpa only [isL, decide_eq_true_eq] using z⟩
      rw [eb]
      by_cases c1 : t k < 97
      · simp +decide (disch := omega) only [↓wm1, wb162_0 hc, wb162_6 hc, wb162_12 hc, wb162_16 hc, wb162_17 hc, w0, w1, w97, w122, rI_wI, rP_wI, rL_wI, rI_wR, rP_wR, is_wI, is_wR, ia_wI, ia_wR, ow_wI, ow_wR, wn_add, wn_mul, wn_cl, wn_le, wn_lt, wn_inj, wn_ne1, wn_1ne, wn_gt1, wn_le1, nb0, nb1, am_kt, am_rt, List.cons_append, List.nil_append, true_and, and_true, not_true_eq_false, not_false_eq_true, imp_f, imp_t, implies_true, Nat.zero_add, if_true, if_false, c1, b01, Bool.false_eq_true]
      · have c3 : 122 < t k := by omega
        simp +decide (disch := omega) only [↓wm1, wb162_0 hc, wb162_6 hc, wb162_12 hc, wb162_16 hc, wb162_17 hc, w0, w1, w97, w122, rI_wI, rP_wI, rL_wI, rI_wR, rP_wR, is_wI, is_wR, ia_wI, ia_wR, ow_wI, ow_wR, wn_add, wn_mul, wn_cl, wn_le, wn_lt, wn_inj, wn_ne1, wn_1ne, wn_gt1, wn_le1, nb0, nb1, am_kt, am_rt, List.cons_append, List.nil_append, true_and, and_true, not_true_eq_false, not_false_eq_true, imp_f, imp_t, implies_true, Nat.zero_add, if_true, if_false, c1, c3, b01, Bool.false_eq_true]
    · have eb : byq t n k = mm := by unfold byq; rw [if_neg c]
      rw [eb]
      simp +decide (disch := omega) only [↓wm1, wb162_0 hc, wb162_6 hc, wb162_12 hc, wb162_16 hc, wb162_17 hc, w0, w1, w97, w122, rI_wI, rP_wI, rL_wI, rI_wR, rP_wR, is_wI, is_wR, ia_wI, ia_wR, ow_wI, ow_wR, wn_add, wn_mul, wn_cl, wn_le, wn_lt, wn_inj, wn_ne1, wn_1ne, wn_gt1, wn_le1, nb0, nb1, am_kt, am_rt, List.cons_append, List.nil_append, true_and, and_true, not_true_eq_false, not_false_eq_true, imp_f, imp_t, implies_true, Nat.zero_add, if_true, if_false, e0, b01, Bool.false_eq_true]
def Q4 : Nat → Nat → Prop := fun a i => a = 334 ∧ i = 4
theorem Kp.q4 {G G' : am_G} (k : Kp Q4 G G') : Kp QS G G' := k.mono (fun _ _ z => ⟨z.1, by rw [z.2]; decide, by rw [z.2]; decide⟩)
theorem ct159_loop : ∀ (f a : Nat) (G : am_G), n - a = f → n ≤ 600 → a ≤ n → Sh G → Bq G t → am_gI G 334 2 = wn n → am_gI G 334 4 = wn a → (∀ G', am_gI G' 334 4 = wn (skb t n a) → Kp Q4 G G' → post (.inl none) G') → am_W (am_C am_T (d + 1)) am_159 post 0 [some (.ref 334)] [] G := by
  have hc := am_C_one am_T (d + 1)
  intro f
  induction f with
  | zero =>
    intro a G hf hn ha hsh hb e2 e4 k
    have c1 : ¬ byq t n a = wn 32 := fun z => by have := (byq_eq (hb.1 a) (by decide)).mp z; omega
    rw [wb159_0 hc]
    simp +decide (disch := omega) only [↓wm1, wb159_8 hc, wb159_26 hc, w0, w1, w32, rI_wI, rP_wI, rL_wI, rI_wR, rP_wR, is_wI, is_wR, ia_wI, ia_wR, ow_wI, ow_wR, wn_add, wn_mul, wn_cl, wn_le, wn_lt, wn_inj, wn_ne1, wn_1ne, wn_gt1, wn_le1, nb0, nb1, am_kt, am_rt, List.cons_append, List.nil_append, true_and, and_true, not_true_eq_false, not_false_eq_true, imp_f, imp_t, implies_true, Nat.zero_add, if_true, if_false, fM hsh, e4, ct158 hsh hb hn e2, c1]
    exact k G (by rw [skb, rnn_end (by omega)]; exact e4) (Kp.refl G)
  | succ f ih =>
    intro a G hf hn ha hsh hb e2 e4 k
    rw [wb159_0 hc]
    by_cases c2 : t a = 32
    · have c1 : byq t n a = wn 32 := (byq_eq (hb.1 a) (by decide)).mpr ⟨by omega, c2⟩
      simp +decide (disch := omega) only [↓wm1, wb159_8 hc, wb159_13 hc, w0, w1, w32, rI_wI, rP_wI, rL_wI, rI_wR, rP_wR, is_wI, is_wR, ia_wI, ia_wR, ow_wI, ow_wR, wn_add, wn_mul, wn_cl, wn_le, wn_lt, wn_inj, wn_ne1, wn_1ne, wn_gt1, wn_le1, nb0, nb1, am_kt, am_rt, List.cons_append, List.nil_append, true_and, and_true, not_true_eq_false, not_false_eq_true, imp_f, imp_t, implies_true, Nat.zero_add, if_true, if_false, fM hsh, e4, ct158 hsh hb hn e2, c1]
      have k1 : Kp Q4 G (am_wI G 334 4 (wn (a + 1))) := (Kp.refl G).wI ⟨rfl, rfl⟩ _
      refine ih (a + 1) (am_wI G 334 4 (wn (a + 1))) (by omega) hn (by omega) hsh (hb.kp k1 (by rintro i ⟨z, -⟩; omega)) ?_ ?_ (fun G' e' k' => ?_)
      · rw [rI_wI, if_neg (by omega)]; exact e2
      · rw [rI_wI, if_pos ⟨rfl, rfl⟩]
      · refine k G' ?_ (k1.trans k')
        have hq : isB (t a) = true := by simp [isB, c2]
        rw [e', skb, skb, rnn_go (show a < n by omega) hq]
    · have c1 : ¬ byq t n a = wn 32 := fun z => c2 ((byq_eq (hb.1 a) (by decide)).mp z).2
      simp +decide (disch := omega) only [↓wm1, wb159_8 hc, wb159_26 hc, w0, w1, w32, rI_wI, rP_wI, rL_wI, rI_wR, rP_wR, is_wI, is_wR, ia_wI, ia_wR, ow_wI, ow_wR, wn_add, wn_mul, wn_cl, wn_le, wn_lt, wn_inj, wn_ne1, wn_1ne, wn_gt1, wn_le1, nb0, nb1, am_kt, am_rt, List.cons_append, List.nil_append, true_and, and_true, not_true_eq_false, not_false_eq_true, imp_f, imp_t, implies_true, Nat.zero_add, if_true, if_false, fM hsh, e4, ct158 hsh hb hn e2, c1]
      have hq : isB (t a) = false := by simp [isB, c2]
      exact k G (by rw [skb, rnn_no hq]; exact e4) (Kp.refl G)
theorem ct159 (hsh : Sh G) (hb : Bq G t) (hn : n ≤ 600) (ha : a ≤ n) (e2 : am_gI G 334 2 = wn n) (e4 : am_gI G 334 4 = wn a) (k : ∀ G', am_gI G' 334 4 = wn (skb t n a) → Kp Q4 G G' → post (.inl none) G') : am_C am_T (d + 2) 159 [.ref 334] G post := by
  rw [we159]
  exact ct159_loop (n - a) a G rfl hn ha hsh hb e2 e4 k
/-- with `at` at another place -/
theorem rQ.at {G' : am_G} {p' b : Nat} (h : rQ G t n p o) (hp : p' ≤ n) (hs : skb t n p' = p') (hb : b ≤ n) (hbs : skb t n b = p') (e : am_gI G' 334 4 = wn b) (k : Kp Q4 G G') : rQ G' t n p' o := by
  obtain ⟨h1, h2, h3, h4, h5, h6, h7, h8, h9, h10⟩ := h
  exact ⟨h1.kp k (by rintro i ⟨z, -⟩; omega), h2, hp, hs, h5, by rw [k.i (by rintro ⟨-, z⟩; omega)]; exact h6, by rw [k.i (by rintro ⟨-, z⟩; omega)]; exact h7, ⟨b, hb, hbs, e⟩, by rw [k.i (by rintro ⟨-, z⟩; omega)]; exact h9, by rw [k.i (by rintro ⟨-, z⟩; omega)]; exact h10⟩
theorem ct159r (hsh : Sh G) (h : rQ G t n p o) (k : ∀ G', rQ G' t n p o → am_gI G' 334 4 = wn p → Kp Q4 G G' → post (.inl none) G') : am_C am_T (d + 2) 159 [.ref 334] G post := by
  obtain ⟨b, hb, hbs, e⟩ := h.2.2.2.2.2.2.2.1
  refine ct159 hsh h.1 h.2.1 hb h.2.2.2.2.2.2.1 e (fun G' e' k' => ?_)
  rw [hbs] at e'
  exact k G' (h.at h.2.2.1 h.2.2.2.1 h.2.2.1 h.2.2.2.1 e' k') e' k'
theorem ct159f {k w : Nat} (hsh : Sh G) (h : fQ G t n k w) (kk : ∀ G', fQ G' t n k w → Kp Q4 G G' → post (.inl none) G') : am_C am_T (d + 2) 159 [.ref 334] G post := by
  obtain ⟨h1, h2, h3, h4, ⟨b, hb, e⟩, h6, h7, h8⟩ := h
  refine ct159 hsh h1 h2 hb h4 e (fun G' e' k' => kk G' ⟨h1.kp k' (by rintro i ⟨z, -⟩; omega), h2, ?_, ?_, ⟨_, skb_le hb, e'⟩, h6, ?_, ?_⟩ k')
  · rw [k'.i (by rintro ⟨-, z⟩; omega)]; exact h3
  · rw [k'.i (by rintro ⟨-, z⟩; omega)]; exact h4
  · rw [k'.i (by rintro ⟨-, z⟩; omega)]; exact h7
  · rw [k'.i (by rintro ⟨-, z⟩; omega)]; exact h8
theorem ct160 (hsh : Sh G) (e5 : am_gI G 334 5 = wn 0) (k w : Nat) : am_C am_T (d + 1) 160 [.ref 334, .int (wn k), .int (wn w)] G post ↔ post (.inl none) (am_wI (am_wI G 334 5 (wn k)) 334 6 (wn w)) := by
  have hc := am_C_one am_T d
  rw [we160]
  simp +decide (disch := omega) only [↓wm1, wb160_0 hc, wb160_7 hc, wb160_17 hc, w0, w1, rI_wI, rP_wI, rL_wI, rI_wR, rP_wR, is_wI, is_wR, ia_wI, ia_wR, ow_wI, ow_wR, wn_add, wn_mul, wn_cl, wn_le, wn_lt, wn_inj, wn_ne1, wn_1ne, wn_gt1, wn_le1, nb0, nb1, am_kt, am_rt, List.cons_append, List.nil_append, true_and, and_true, not_true_eq_false, not_false_eq_true, imp_f, imp_t, implies_true, Nat.zero_add, if_true, if_false, fM hsh, e5]
theorem ct160f {k w : Nat} (x y : Int32) (hsh : Sh G) (h : fQ G t n k w) : am_C am_T (d + 1) 160 [.ref 334, .int x, .int y] G post ↔ post (.inl none) G := by
  have hc := am_C_one am_T d
  obtain ⟨h1, h2, h3, h4, h5, h6, h7, h8⟩ := h
  have c : ¬ k = 0 := by omega
  rw [we160]
  simp +decide (disch := omega) only [↓wm1, wb160_0 hc, wb160_7 hc, wb160_17 hc, w0, w1, rI_wI, rP_wI, rL_wI, rI_wR, rP_wR, is_wI, is_wR, ia_wI, ia_wR, ow_wI, ow_wR, wn_add, wn_mul, wn_cl, wn_le, wn_lt, wn_inj, wn_ne1, wn_1ne, wn_gt1, wn_le1, nb0, nb1, am_kt, am_rt, List.cons_append, List.nil_append, true_and, and_true, not_true_eq_false, not_false_eq_true, imp_f, imp_t, implies_true, Nat.zero_add, if_true, if_false, fM hsh, h7, c]
theorem fQ_of {k w : Nat} (h : rQ G t n p o) (hk : 1 ≤ k ∧ k ≤ 3) : fQ (am_wI (am_wI G 334 5 (wn k)) 334 6 (wn w)) t n k w := by
  obtain ⟨h1, h2, h3, h4, h5, h6, h7, ⟨b, hb, hbs, e⟩, h9, h10⟩ := h
  have k1 : Kp (fun a i => a = 334 ∧ (i = 5 ∨ i = 6)) G (am_wI (am_wI G 334 5 (wn k)) 334 6 (wn w)) := ((Kp.refl G).wI ⟨rfl, Or.inl rfl⟩ _).wI ⟨rfl, Or.inr rfl⟩ _
  refine ⟨h1.kp k1 (by rintro i ⟨z, -⟩; omega), h2, ?_, ?_, ⟨b, hb, ?_⟩, hk, ?_, ?_⟩
  · rw [k1.i (by omega)]; exact h6
  · rw [k1.i (by omega)]; exact h7
  · rw [k1.i (by omega)]; exact e
  · simp [rI_wI]
  · simp [rI_wI]
theorem kp_q (G : am_G) (k w : Nat) : Kp QS G (am_wI (am_wI G 334 5 (wn k)) 334 6 (wn w)) := ((Kp.refl G).wI ⟨rfl, by decide, by decide⟩ _).wI ⟨rfl, by decide, by decide⟩ _
/-! 163 number -/
theorem ct153l {v lo hi : Nat} (hv : v < 2147483648) (hlo : lo < 2147483648) (hhi : hi < 2147483648) : am_C am_T (d + 1) 153 [.int (wn v), .int (wn lo), .int (lim hi)] G post ↔ post (.inl (some (.int (wn (b01 (decide (lo ≤ v ∧ v < hi))))))) G := by
  rw [ct153]
  have e : (¬ wn v < wn lo ∧ ¬ lim hi < wn v) ↔ (lo ≤ v ∧ v < hi) := by
    rw [wn_lt hv hlo, ← lim_le hv hhi, Int32.not_lt]
    constructor
    · rintro ⟨a, b⟩; exact ⟨by omega, b⟩
    · rintro ⟨a, b⟩; exact ⟨by omega, b⟩
  by_cases h : lo ≤ v ∧ v < hi
  · rw [decide_eq_true h, decide_eq_true (e.mpr h)]
  · rw [decide_eq_false h, decide_eq_false (fun z => h (e.mp z))]
theorem ct163_loop {x1 x2 : Int32} (hn : n ≤ 600) : ∀ (f j : Nat) (G : am_G), n - (p + j) = f → p + j ≤ n → Sh G → Bq G t → am_gI G 334 2 = wn n → am_gI G 334 4 = wn (p + j) →
    (∀ G', am_gI G' 334 4 = wn (dge t n (p + j)) → Kp Q4 G G' → am_W (am_C am_T (d + 1)) am_163 post 106 [some (.ref 334), some (.int x1), some (.int x2), some (.int (wn p)), some (.int (wn (min (dvl t p (dge t n (p + j) - p)) 100000)))] [] G') →
    am_W (am_C am_T (d + 1)) am_163 post 44 [some (.ref 334), some (.int x1), some (.int x2), some (.int (wn p)), some (.int (wn (min (dvl t p j) 100000)))] [] G := by
  have hc := am_C_one am_T (d + 1)
  intro f
  induction f with
  | zero =>
    intro j G hf hj hsh hb e2 e4 k
    have c1 : ¬ (p + j < n ∧ isD (t (p + j)) = true) := by omega
    have e : dge t n (p + j) = p + j := rnn_end (by omega)
    have k0 := k G (by rw [e]; exact e4) (Kp.refl G)
    rw [e, Nat.add_sub_cancel_left] at k0
    rw [wb163_44 hc]
    simp +decide (disch := omega) only [↓wm1, wb163_52 hc, wb163_55 hc, w0, w1, w2, w10, w48, w100000, rI_wI, rP_wI, rL_wI, rI_wR, rP_wR, is_wI, is_wR, ia_wI, ia_wR, ow_wI, ow_wR, wn_add, wn_mul, wn_cl, wn_le, wn_lt, wn_inj, wn_ne1, wn_1ne, wn_gt1, wn_le1, nb0, nb1, am_kt, am_rt, List.cons_append, List.nil_append, true_and, and_true, not_true_eq_false, not_false_eq_true, imp_f, imp_t, implies_true, Nat.zero_add, if_true, if_false, fM hsh, e4, ct158 hsh hb hn e2, ct161 (hb.1 (p + j)), c1, b01, decide_false, Bool.false_eq_true, if_false]
    exact k0
  | succ f ih =>
    intro j G hf hj hsh hb e2 e4 k
    have hx := hb.1 (p + j)
    rw [wb163_44 hc]
    by_cases a0 : isD (t (p + j)) = true
    · have a1 : 48 ≤ t (p + j) ∧ t (p + j) ≤ 57 := by simpa only [isD, decide_eq_true_eq] using a0
      have c1 : (p + j < n ∧ isD (t (p + j)) = true) := ⟨by omega, a0⟩
      have e5 : byq t n (p + j) = wn (t (p + j)) := by unfold byq; rw [if_pos (by omega)]
      have a5 : wn (10 * min (dvl t p j) 100000 + t (p + j)) - wn 48 = wn (10 * min (dvl t p j) 100000 + t (p + j) - 48) := wn_sub (by omega)
      have e : dge t n (p + j) = dge t n (p + (j + 1)) := rnn_go (by omega) a0
      have k1 : Kp Q4 G (am_wI G 334 4 (wn (p + (j + 1)))) := (Kp.refl G).wI ⟨rfl, rfl⟩ _
      have := ih (j + 1) (am_wI G 334 4 (wn (p + (j + 1)))) (by omega) (by omega) hsh (hb.kp k1 (by rintro i ⟨z, -⟩; omega)) (by rw [rI_wI, if_neg (by omega)]; exact e2) (by rw [rI_wI, if_pos ⟨rfl, rfl⟩]) (fun G' e' k' => by
        have := k G' (by rw [e]; exact e') (k1.trans k')
        rw [e] at this
        exact this)
      by_cases a7 : 10 * min (dvl t p j) 100000 + t (p + j) - 48 ≤ 100000
      · have a6 : 10 * min (dvl t p j) 100000 + t (p + j) - 48 = min (dvl t p (j + 1)) 100000 := by
          simp only [dvl]
          omega
        simp +decide (disch := omega) only [↓wm1, wb163_52 hc, wb163_55 hc, w0, w1, w2, w10, w48, w100000, rI_wI, rP_wI, rL_wI, rI_wR, rP_wR, is_wI, is_wR, ia_wI, ia_wR, ow_wI, ow_wR, wn_add, wn_mul, wn_cl, wn_le, wn_lt, wn_inj, wn_ne1, wn_1ne, wn_gt1, wn_le1, nb0, nb1, am_kt, am_rt, List.cons_append, List.nil_append, true_and, and_true, not_true_eq_false, not_false_eq_true, imp_f, imp_t, implies_true, Nat.zero_add, if_true, if_false, fM hsh, e4, ct158 hsh hb hn e2, ct161 (hb.1 (p + j)), decide_eq_true c1, b01, if_true]
        simp +decide (disch := omega) only [↓wm1, wb163_58 hc, wb163_71 hc, wb163_89 hc, wb163_91 hc, w0, w1, w2, w10, w48, w100000, rI_wI, rP_wI, rL_wI, rI_wR, rP_wR, is_wI, is_wR, ia_wI, ia_wR, ow_wI, ow_wR, wn_add, wn_mul, wn_cl, wn_le, wn_lt, wn_inj, wn_ne1, wn_1ne, wn_gt1, wn_le1, nb0, nb1, am_kt, am_rt, List.cons_append, List.nil_append, true_and, and_true, not_true_eq_false, not_false_eq_true, imp_f, imp_t, implies_true, Nat.zero_add, if_true, if_false, fM hsh, e4, ct158 hsh hb hn e2, e5, a5, a7, Nat.add_assoc]
        rw [← a6] at this
        exact this
      · have a6 : 100000 = min (dvl t p (j + 1)) 100000 := by
          simp only [dvl]
          omega
        simp +decide (disch := omega) only [↓wm1, wb163_52 hc, wb163_55 hc, w0, w1, w2, w10, w48, w100000, rI_wI, rP_wI, rL_wI, rI_wR, rP_wR, is_wI, is_wR, ia_wI, ia_wR, ow_wI, ow_wR, wn_add, wn_mul, wn_cl, wn_le, wn_lt, wn_inj, wn_ne1, wn_1ne, wn_gt1, wn_le1, nb0, nb1, am_kt, am_rt, List.cons_append, List.nil_append, true_and, and_true, not_true_eq_false, not_false_eq_true, imp_f, imp_t, implies_true, Nat.zero_add, if_true, if_false, fM hsh, e4, ct158 hsh hb hn e2, ct161 (hb.1 (p + j)), decide_eq_true c1, b01, if_true]
        simp +decide (disch := omega) only [↓wm1, wb163_58 hc, wb163_71 hc, wb163_84 hc, wb163_91 hc, w0, w1, w2, w10, w48, w100000, rI_wI, rP_wI, rL_wI, rI_wR, rP_wR, is_wI, is_wR, ia_wI, ia_wR, ow_wI, ow_wR, wn_add, wn_mul, wn_cl, wn_le, wn_lt, wn_inj, wn_ne1, wn_1ne, wn_gt1, wn_le1, nb0, nb1, am_kt, am_rt, List.cons_append, List.nil_append, true_and, and_true, not_true_eq_false, not_false_eq_true, imp_f, imp_t, implies_true, Nat.zero_add, if_true, if_false, fM hsh, e4, ct158 hsh hb hn e2, e5, a5, a7, Nat.add_assoc]
        rw [← a6] at this
        exact this
    · have a0' : isD (t (p + j)) = false := by simpa using a0
      have c1 : ¬ (p + j < n ∧ isD (t (p + j)) = true) := fun z => a0 z.2
      have e : dge t n (p + j) = p + j := rnn_no a0'
      have k0 := k G (by rw [e]; exact e4) (Kp.refl G)
      rw [e, Nat.add_sub_cancel_left] at k0
      simp +decide (disch := omega) only [↓wm1, wb163_52 hc, wb163_55 hc, w0, w1, w2, w10, w48, w100000, rI_wI, rP_wI, rL_wI, rI_wR, rP_wR, is_wI, is_wR, ia_wI, ia_wR, ow_wI, ow_wR, wn_add, wn_mul, wn_cl, wn_le, wn_lt, wn_inj, wn_ne1, wn_1ne, wn_gt1, wn_le1, nb0, nb1, am_kt, am_rt, List.cons_append, List.nil_append, true_and, and_true, not_true_eq_false, not_false_eq_true, imp_f, imp_t, implies_true, Nat.zero_add, if_true, if_false, fM hsh, e4, ct158 hsh hb hn e2, ct161 (hb.1 (p + j)), c1, b01, decide_false, Bool.false_eq_true, if_false]
      exact k0
theorem ct163 {lo hi : Nat} {x2 : Int32} (hsh : Sh G) (h : rQ G t n p o) (hx2 : x2 = lim hi) (hlo : lo ≤ 1000) (hhi : hi ≤ 1000)
    (kok : ∀ v p' G', pnum t n p lo hi = .inr (v, p') → rQ G' t n p' o → Kp QS G G' → post (.inl (some (.int (wn v)))) G')
    (kbad : ∀ k G', pnum t n p lo hi = .inl (k, p) → fQ G' t n k p → Kp QS G G' → post (.inl (some (.int (wn 0)))) G') : am_C am_T (d + 3) 163 [.ref 334, .int (wn lo), .int x2] G post := by
  have hc := am_C_one am_T (d + 2)
  subst hx2
  have e5 := h.2.2.2.2.2.2.2.2.1
  rw [we163]
  simp +decide (disch := omega) only [↓wm1, wb163_0 hc, wb163_9 hc, w0, w1, w2, w10, w48, w100000, rI_wI, rP_wI, rL_wI, rI_wR, rP_wR, is_wI, is_wR, ia_wI, ia_wR, ow_wI, ow_wR, wn_add, wn_mul, wn_cl, wn_le, wn_lt, wn_inj, wn_ne1, wn_1ne, wn_gt1, wn_le1, nb0, nb1, am_kt, am_rt, List.cons_append, List.nil_append, true_and, and_true, not_true_eq_false, not_false_eq_true, imp_f, imp_t, implies_true, Nat.zero_add, if_true, if_false, fM hsh, e5]
  refine ct159r hsh h (fun G1 r1 e1 k1 => ?_)
  have h1 := hsh.kp k1
  have hb := r1.1
  have hn := r1.2.1
  have e2 := r1.2.2.2.2.2.2.1
  have hx := hb.1 p
  have hp : p ≤ n := r1.2.2.1
  have f5 := r1.2.2.2.2.2.2.2.2.1
  by_cases c1 : p < n ∧ isD (t p) = true
  · simp +decide (disch := omega) only [↓wm1, wb163_13 hc, wb163_29 hc, wb163_32 hc, w0, w1, w2, w10, w48, w100000, rI_wI, rP_wI, rL_wI, rI_wR, rP_wR, is_wI, is_wR, ia_wI, ia_wR, ow_wI, ow_wR, wn_add, wn_mul, wn_cl, wn_le, wn_lt, wn_inj, wn_ne1, wn_1ne, wn_gt1, wn_le1, nb0, nb1, am_kt, am_rt, List.cons_append, List.nil_append, true_and, and_true, not_true_eq_false, not_false_eq_true, imp_f, imp_t, implies_true, Nat.zero_add, if_true, if_false, fM h1, e1, ct158 h1 hb hn e2, ct161 hx, decide_eq_true c1, b01, if_true]
    have := ct163_loop (d := d + 1) (post := post) (x1 := wn lo) (x2 := lim hi) (p := p) hn (n - (p + 0)) 0 G1 rfl (by omega) h1 hb e2 e1
    simp only [dvl, Nat.zero_min, Nat.add_zero] at this
    refine this (fun G2 e' k2 => ?_)
    have h2 := h1.kp k2
    have g1 := dge_gt c1.1 c1.2
    have g2 := dge_le (t := t) hp
    have r2 := r1.at (skb_le g2) (skb_idem g2) g2 rfl e' k2
    have f6 := r2.2.2.2.2.2.2.2.2.1
    have kk : Kp QS G G2 := k1.q4.trans k2.q4
    generalize hv : dvl t p (dge t n p - p) = v
    by_cases c2 : lo ≤ v ∧ v < hi
    · have e : pnum t n p lo hi = .inr (v, skb t n (dge t n p)) := by
        unfold pnum
        rw [if_pos c1, hv, if_pos c2]
      have c3 : min v 100000 = v := by omega
      simp +decide (disch := omega) only [↓wm1, wb163_106 hc, wb163_113 hc, wb163_122 hc, wb163_129 hc, wb163_135 hc, w0, w1, w2, w10, w48, w100000, rI_wI, rP_wI, rL_wI, rI_wR, rP_wR, is_wI, is_wR, ia_wI, ia_wR, ow_wI, ow_wR, wn_add, wn_mul, wn_cl, wn_le, wn_lt, wn_inj, wn_ne1, wn_1ne, wn_gt1, wn_le1, nb0, nb1, am_kt, am_rt, List.cons_append, List.nil_append, true_and, and_true, not_true_eq_false, not_false_eq_true, imp_f, imp_t, implies_true, Nat.zero_add, if_true, if_false, c3, ct153l, decide_eq_true c2, b01, fM h2, f6]
      exact kok v _ G2 e r2 kk
    · have e : pnum t n p lo hi = .inl (2, p) := by
        unfold pnum
        rw [if_pos c1, hv, if_neg c2]
      have c4 : ¬ (lo ≤ min v 100000 ∧ min v 100000 < hi) := by omega
      have g3 := fQ_of (k := 2) (w := p) r2 (by decide)
      have h3 : Sh (am_wI (am_wI G2 334 5 (wn 2)) 334 6 (wn p)) := h2
      have g5 := g3.2.2.2.2.2.2.1
      simp +decide (disch := omega) only [↓wm1, wb163_106 hc, wb163_113 hc, wb163_116 hc, w0, w1, w2, w10, w48, w100000, rI_wI, rP_wI, rL_wI, rI_wR, rP_wR, is_wI, is_wR, ia_wI, ia_wR, ow_wI, ow_wR, wn_add, wn_mul, wn_cl, wn_le, wn_lt, wn_inj, wn_ne1, wn_1ne, wn_gt1, wn_le1, nb0, nb1, am_kt, am_rt, List.cons_append, List.nil_append, true_and, and_true, not_true_eq_false, not_false_eq_true, imp_f, imp_t, implies_true, Nat.zero_add, if_true, if_false, ct153l, decide_eq_false c4, b01, Bool.false_eq_true, fM h2, ct160 h2 f6]
      rw [wb163_122 hc, g5]
      simp +decide (disch := omega) only [↓wm1, wb163_134 hc, wb163_135 hc, w0, w1, w2, w10, w48, w100000, rI_wI, rP_wI, rL_wI, rI_wR, rP_wR, is_wI, is_wR, ia_wI, ia_wR, ow_wI, ow_wR, wn_add, wn_mul, wn_cl, wn_le, wn_lt, wn_inj, wn_ne1, wn_1ne, wn_gt1, wn_le1, nb0, nb1, am_kt, am_rt, List.cons_append, List.nil_append, true_and, and_true, not_true_eq_false, not_false_eq_true, imp_f, imp_t, implies_true, Nat.zero_add, if_true, if_false, fM h3]
      exact kbad 2 _ e g3 (kk.trans (kp_q G2 2 p))
  · have e : pnum t n p lo hi = .inl (1, p) := by unfold pnum; rw [if_neg c1]
    have g3 := fQ_of (k := 1) (w := p) r1 (by decide)
    have h3 : Sh (am_wI (am_wI G1 334 5 (wn 1)) 334 6 (wn p)) := h1
    have g5 := g3.2.2.2.2.2.2.1
    have g4 : am_gI (am_wI (am_wI G1 334 5 (wn 1)) 334 6 (wn p)) 334 4 = wn p := by simp only [rI_wI]; simpa using e1
    simp +decide (disch := omega) only [↓wm1, wb163_13 hc, wb163_29 hc, wb163_32 hc, wb163_35 hc, w0, w1, w2, w10, w48, w100000, rI_wI, rP_wI, rL_wI, rI_wR, rP_wR, is_wI, is_wR, ia_wI, ia_wR, ow_wI, ow_wR, wn_add, wn_mul, wn_cl, wn_le, wn_lt, wn_inj, wn_ne1, wn_1ne, wn_gt1, wn_le1, nb0, nb1, am_kt, am_rt, List.cons_append, List.nil_append, true_and, and_true, not_true_eq_false, not_false_eq_true, imp_f, imp_t, implies_true, Nat.zero_add, if_true, if_false, fM h1, e1, ct158 h1 hb hn e2, ct161 hx, decide_eq_false c1, b01, Bool.false_eq_true, if_false, ct160 h1 f5]
    generalize hG3 : am_wI (am_wI G1 334 5 (wn 1)) 334 6 (wn p) = G3 at g3 h3 g5 g4
    rw [wb163_44 hc]
    simp +decide (disch := omega) only [↓wm1, wb163_52 hc, wb163_55 hc, wb163_106 hc, w0, w1, w2, w10, w48, w100000, rI_wI, rP_wI, rL_wI, rI_wR, rP_wR, is_wI, is_wR, ia_wI, ia_wR, ow_wI, ow_wR, wn_add, wn_mul, wn_cl, wn_le, wn_lt, wn_inj, wn_ne1, wn_1ne, wn_gt1, wn_le1, nb0, nb1, am_kt, am_rt, List.cons_append, List.nil_append, true_and, and_true, not_true_eq_false, not_false_eq_true, imp_f, imp_t, implies_true, Nat.zero_add, if_true, if_false, fM h3, g4, ct158 h3 g3.1 hn g3.2.2.2.1, ct161 hx, decide_eq_false c1, b01, Bool.false_eq_true, ct153l]
    have fin : kbad = kbad := rfl
    have kk : Kp QS G G3 := by rw [← hG3]; exact k1.q4.trans (kp_q G1 1 p)
    by_cases c5 : (lo ≤ 0 ∧ 0 < hi)
    · simp +decide (disch := omega) only [↓wm1, wb163_113 hc, wb163_122 hc, wb163_134 hc, wb163_135 hc, w0, w1, w2, w10, w48, w100000, rI_wI, rP_wI, rL_wI, rI_wR, rP_wR, is_wI, is_wR, ia_wI, ia_wR, ow_wI, ow_wR, wn_add, wn_mul, wn_cl, wn_le, wn_lt, wn_inj, wn_ne1, wn_1ne, wn_gt1, wn_le1, nb0, nb1, am_kt, am_rt, List.cons_append, List.nil_append, true_and, and_true, not_true_eq_false, not_false_eq_true, imp_f, imp_t, implies_true, Nat.zero_add, if_true, if_false, decide_eq_true c5, b01, fM h3, g5]
      exact kbad 1 G3 e g3 kk
    · simp +decide (disch := omega) only [↓wm1, wb163_113 hc, wb163_116 hc, wb163_122 hc, wb163_134 hc, wb163_135 hc, w0, w1, w2, w10, w48, w100000, rI_wI, rP_wI, rL_wI, rI_wR, rP_wR, is_wI, is_wR, ia_wI, ia_wR, ow_wI, ow_wR, wn_add, wn_mul, wn_cl, wn_le, wn_lt, wn_inj, wn_ne1, wn_1ne, wn_gt1, wn_le1, nb0, nb1, am_kt, am_rt, List.cons_append, List.nil_append, true_and, and_true, not_true_eq_false, not_false_eq_true, imp_f, imp_t, implies_true, Nat.zero_add, if_true, if_false, decide_eq_false c5, b01, Bool.false_eq_true, fM h3, g5, ct160f (wn 2) (wn p) h3 g3]
      exact kbad 1 G3 e g3 kk
theorem ct163f {k w : Nat} {x1 x2 : Int32} (hsh : Sh G) (h : fQ G t n k w) : am_C am_T (d + 1) 163 [.ref 334, .int x1, .int x2] G post ↔ post (.inl (some (.int (wn 0)))) G := by
  have hc := am_C_one am_T d
  obtain ⟨h1, h2, h3, h4, h5, h6, h7, h8⟩ := h
  have c : ¬ k = 0 := by omega
  rw [we163]
  simp +decide (disch := omega) only [↓wm1, wb163_0 hc, wb163_7 hc, w0, w1, w2, w10, w48, w100000, rI_wI, rP_wI, rL_wI, rI_wR, rP_wR, is_wI, is_wR, ia_wI, ia_wR, ow_wI, ow_wR, wn_add, wn_mul, wn_cl, wn_le, wn_lt, wn_inj, wn_ne1, wn_1ne, wn_gt1, wn_le1, nb0, nb1, am_kt, am_rt, List.cons_append, List.nil_append, true_and, and_true, not_true_eq_false, not_false_eq_true, imp_f, imp_t, implies_true, Nat.zero_add, if_true, if_false, fM hsh, h7, c]
end
