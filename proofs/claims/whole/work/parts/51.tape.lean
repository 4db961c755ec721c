/-! The object's tape. -/
set_option maxRecDepth 100000 in
theorem ba2 {G : am_G} (h : Sh G) : ∀ j, j < 600 → am_ba G 2 (wn j) := fun j hj => h.ba (n := 600) rfl hj (by decide)
set_option maxRecDepth 100000 in
theorem ow2 {G : am_G} (h : Sh G) : ∀ j, j < 600 → am_ow G 2 (wn j) 105 := fun j hj => h.ow (n := 600) rfl hj (by decide)
theorem ba_wI (G : am_G) (a i b : Nat) (v j : Int32) : am_ba (am_wI G a i v) b j = am_ba G b j := rfl
def T1 : Nat → Nat → Prop := fun a _ => a = 1
def T13 : Nat → Nat → Prop := fun a i => a = 1 ∧ i = 3
/-- the bytes that stand there -/
def Bt (G : am_G) (t : Nat → Nat) : Prop := (∀ i, t i < 256) ∧ ∀ i, i < 600 → am_gI G 2 i = sb (t i)
theorem Bt.kp {Sc : Nat → Nat → Prop} {G G' : am_G} {t : Nat → Nat} (h : Bt G t) (k : Kp Sc G G') (hn : ∀ i, ¬ Sc 2 i) : Bt G' t := ⟨h.1, fun i hi => by rw [k.i (hn i)]; exact h.2 i hi⟩
/-- reading goes on at p, with o open ones, without a fault -/
def rT (G : am_G) (t : Nat → Nat) (n p o : Nat) : Prop := Bt G t ∧ n ≤ 600 ∧ p ≤ n ∧ skb t n p = p ∧ o ≤ 6 ∧ am_gI G 1 1 = wn 0 ∧ am_gI G 1 2 = wn n ∧ am_gI G 1 3 = wn p ∧ am_gI G 1 5 = wn o ∧ am_gI G 1 7 = mm
/-- reading has ended with a fault -/
def fT (G : am_G) (k w : Nat) : Prop := am_gI G 1 1 = wn 0 ∧ am_gI G 1 6 = wn k ∧ am_gI G 1 7 = wn w
theorem rT.kp {Sc : Nat → Nat → Prop} {G G' : am_G} {t : Nat → Nat} {n p o : Nat} (h : rT G t n p o) (k : Kp Sc G G') (hn : ∀ a i, Sc a i → a ≠ 1 ∧ a ≠ 2) : rT G' t n p o := by
  obtain ⟨h1, h2, h3, h4, h5, h6, h7, h8, h9, h10⟩ := h
  have e : ∀ i, am_gI G' 1 i = am_gI G 1 i := fun i => k.i (fun z => (hn _ _ z).1 rfl)
  exact ⟨h1.kp k (fun i z => (hn _ _ z).2 rfl), h2, h3, h4, h5, by rw [e]; exact h6, by rw [e]; exact h7, by rw [e]; exact h8, by rw [e]; exact h9, by rw [e]; exact h10⟩
theorem fT.kp {Sc : Nat → Nat → Prop} {G G' : am_G} {k w : Nat} (h : fT G k w) (kp : Kp Sc G G') (hn : ∀ i, ¬ Sc 1 i) : fT G' k w := by
  obtain ⟨h1, h2, h3⟩ := h
  exact ⟨by rw [kp.i (hn _)]; exact h1, by rw [kp.i (hn _)]; exact h2, by rw [kp.i (hn _)]; exact h3⟩
section
variable {G : am_G} {d n p o : Nat} {t : Nat → Nat} {post : am_O → am_G → Prop}
theorem ct65_loop : ∀ (f p : Nat) (G : am_G) (o1 : Option Value), n - p = f → n ≤ 600 → p ≤ n → Sh G → Bt G t → am_gI G 1 2 = wn n → am_gI G 1 3 = wn p → (∀ G', am_gI G' 1 3 = wn (skb t n p) → Kp T13 G G' → post (.inl none) G') → am_W (am_C am_T d) am_65 post 5 [some (.ref 1), o1] [] G := by
  have hc := am_C_one am_T d
  intro f
  induction f with
  | zero =>
    intro p G o1 hf hn hp hsh hb e2 e3 k
    have c1 : n ≤ p := by omega
    rw [wb65_5 hc]
    simp +decide (disch := omega) only [↓wm1, wb65_43 hc, w0, w1, w32, rI_wI, rP_wI, rL_wI, rI_wR, rP_wR, is_wI, is_wR, ia_wI, ia_wR, ow_wI, ow_wR, wn_add, wn_mul, wn_cl, wn_le, wn_lt, wn_inj, wn_ne1, wn_1ne, wn_gt1, wn_le1, nb0, nb1, am_kt, am_rt, List.cons_append, List.nil_append, true_and, and_true, not_true_eq_false, not_false_eq_true, imp_f, imp_t, implies_true, Nat.zero_add, if_true, if_false, i1 hsh, e2, e3, c1]
    exact k G (by rw [skb, rnn_end c1]; exact e3) (Kp.refl G)
  | succ f ih =>
    intro p G o1 hf hn hp hsh hb e2 e3 k
    have c1 : ¬ n ≤ p := by omega
    have hx := hb.1 p
    have e4 := hb.2 p (by omega)
    rw [wb65_5 hc]
    by_cases c2 : t p = 32
    · have c3 : sb (t p) = wn 32 := (sb_eq hx (by decide)).mpr c2
      simp +decide (disch := omega) only [↓wm1, wb65_16 hc, wb65_30 hc, w0, w1, w32, rI_wI, rP_wI, rL_wI, rI_wR, rP_wR, is_wI, is_wR, ia_wI, ia_wR, ow_wI, ow_wR, wn_add, wn_mul, wn_cl, wn_le, wn_lt, wn_inj, wn_ne1, wn_1ne, wn_gt1, wn_le1, nb0, nb1, am_kt, am_rt, List.cons_append, List.nil_append, true_and, and_true, not_true_eq_false, not_false_eq_true, imp_f, imp_t, implies_true, Nat.zero_add, if_true, if_false, i1 hsh, q1_0 hsh, ba2 hsh, e2, e3, e4, c1, c3]
      have k1 : Kp T13 G (am_wI G 1 3 (wn (p + 1))) := (Kp.refl G).wI ⟨rfl, rfl⟩ _
      refine ih (p + 1) (am_wI G 1 3 (wn (p + 1))) none (by omega) hn (by omega) hsh (hb.kp k1 (by rintro i ⟨z, -⟩; omega)) ?_ ?_ (fun G' e' k' => ?_)
      · rw [rI_wI, if_neg (by omega)]; exact e2
      · rw [rI_wI, if_pos ⟨rfl, rfl⟩]
      · refine k G' ?_ (k1.trans k')
        have hq : isB (t p) = true := by simp [isB, c2]
        rw [e', skb, skb, rnn_go (show p < n by omega) hq]
    · have c3 : ¬ sb (t p) = wn 32 := fun z => c2 ((sb_eq hx (by decide)).mp z)
      simp +decide (disch := omega) only [↓wm1, wb65_16 hc, wb65_43 hc, w0, w1, w32, rI_wI, rP_wI, rL_wI, rI_wR, rP_wR, is_wI, is_wR, ia_wI, ia_wR, ow_wI, ow_wR, wn_add, wn_mul, wn_cl, wn_le, wn_lt, wn_inj, wn_ne1, wn_1ne, wn_gt1, wn_le1, nb0, nb1, am_kt, am_rt, List.cons_append, List.nil_append, true_and, and_true, not_true_eq_false, not_false_eq_true, imp_f, imp_t, implies_true, Nat.zero_add, if_true, if_false, i1 hsh, q1_0 hsh, ba2 hsh, e2, e3, e4, c1, c3]
      have hq : isB (t p) = false := by simp [isB, c2]
      exact k G (by rw [skb, rnn_no hq]; exact e3) (Kp.refl G)
theorem ct65 (hsh : Sh G) (hb : Bt G t) (hn : n ≤ 600) (hp : p ≤ n) (e2 : am_gI G 1 2 = wn n) (k : ∀ G', am_gI G' 1 3 = wn (skb t n p) → Kp T13 G G' → post (.inl none) G') : am_C am_T (d + 1) 65 [.ref 1, .int (wn p)] G post := by
  have hc := am_C_one am_T d
  rw [we65]
  simp +decide (disch := omega) only [↓wm1, wb65_0 hc, w0, w1, w32, rI_wI, rP_wI, rL_wI, rI_wR, rP_wR, is_wI, is_wR, ia_wI, ia_wR, ow_wI, ow_wR, wn_add, wn_mul, wn_cl, wn_le, wn_lt, wn_inj, wn_ne1, wn_1ne, wn_gt1, wn_le1, nb0, nb1, am_kt, am_rt, List.cons_append, List.nil_append, true_and, and_true, not_true_eq_false, not_false_eq_true, imp_f, imp_t, implies_true, Nat.zero_add, if_true, if_false, i1 hsh]
  have k1 : Kp T13 G (am_wI G 1 3 (wn p)) := (Kp.refl G).wI ⟨rfl, rfl⟩ _
  refine ct65_loop (n - p) p _ _ rfl hn hp hsh (hb.kp k1 (by rintro i ⟨z, -⟩; omega)) ?_ ?_ (fun G' e' k' => k G' e' (k1.trans k'))
  · rw [rI_wI, if_neg (by omega)]; exact e2
  · rw [rI_wI, if_pos ⟨rfl, rfl⟩]
theorem Kp.t13 {G G' : am_G} (k : Kp T13 G G') : Kp T1 G G' := k.mono (fun _ _ z => z.1)
/-- at another place -/
theorem rT.at {G' : am_G} {p' : Nat} (h : rT G t n p o) (hp : p' ≤ n) (hs : skb t n p' = p') (e : am_gI G' 1 3 = wn p') (k : Kp (fun a i => a = 1 ∧ (i = 3 ∨ i = 4)) G G') : rT G' t n p' o := by
  obtain ⟨h1, h2, h3, h4, h5, h6, h7, h8, h9, h10⟩ := h
  exact ⟨h1.kp k (by rintro i ⟨z, -⟩; omega), h2, hp, hs, h5, by rw [k.i (by omega)]; exact h6, by rw [k.i (by omega)]; exact h7, e, by rw [k.i (by omega)]; exact h9, by rw [k.i (by omega)]; exact h10⟩
theorem ct66 (hsh : Sh G) (k w : Nat) : am_C am_T (d + 1) 66 [.ref 1, .int (wn k), .int (wn w)] G post ↔ post (.inl (some (.int (wn 0)))) (am_wI (am_wI G 1 6 (wn k)) 1 7 (wn w)) := by
  have hc := am_C_one am_T d
  rw [we66]
  simp +decide (disch := omega) only [↓wm1, wb66_0 hc, w0, w1, rI_wI, rP_wI, rL_wI, rI_wR, rP_wR, is_wI, is_wR, ia_wI, ia_wR, ow_wI, ow_wR, wn_add, wn_mul, wn_cl, wn_le, wn_lt, wn_inj, wn_ne1, wn_1ne, wn_gt1, wn_le1, nb0, nb1, am_kt, am_rt, List.cons_append, List.nil_append, true_and, and_true, not_true_eq_false, not_false_eq_true, imp_f, imp_t, implies_true, Nat.zero_add, if_true, if_false, i1 hsh]
theorem fT_of (h : am_gI G 1 1 = wn 0) (k w : Nat) : fT (am_wI (am_wI G 1 6 (wn k)) 1 7 (wn w)) k w := by
  refine ⟨?_, ?_, ?_⟩
  · simp only [rI_wI]; simpa using h
  · simp [rI_wI]
  · simp [rI_wI]
theorem kp_f (G : am_G) (k w : Nat) : Kp T1 G (am_wI (am_wI G 1 6 (wn k)) 1 7 (wn w)) := ((Kp.refl G).wI (by exact rfl) _).wI (by exact rfl) _
theorem ct68 (hsh : Sh G) (h : rT G t n p o) : am_C am_T (d + 1) 68 [.ref 1] G post ↔ post (.inl (some (.int (wn (b01 (decide (n ≤ p))))))) G := by
  have hc := am_C_one am_T d
  obtain ⟨h1, h2, h3, h4, h5, h6, h7, h8, h9, h10⟩ := h
  rw [we68]
  by_cases c : p < n
  · have c2 : ¬ n ≤ p := by omega
    simp +decide (disch := omega) only [↓wm1, wb68_0 hc, wb68_11 hc, wb68_15 hc, wb68_16 hc, w0, w1, rI_wI, rP_wI, rL_wI, rI_wR, rP_wR, is_wI, is_wR, ia_wI, ia_wR, ow_wI, ow_wR, wn_add, wn_mul, wn_cl, wn_le, wn_lt, wn_inj, wn_ne1, wn_1ne, wn_gt1, wn_le1, nb0, nb1, am_kt, am_rt, List.cons_append, List.nil_append, true_and, and_true, not_true_eq_false, not_false_eq_true, imp_f, imp_t, implies_true, Nat.zero_add, if_true, if_false, i1 hsh, h7, h8, c, c2, b01, decide_false, Bool.false_eq_true, if_false]
  · have c2 : n ≤ p := by omega
    simp +decide (disch := omega) only [↓wm1, wb68_0 hc, wb68_11 hc, wb68_15 hc, wb68_16 hc, w0, w1, rI_wI, rP_wI, rL_wI, rI_wR, rP_wR, is_wI, is_wR, ia_wI, ia_wR, ow_wI, ow_wR, wn_add, wn_mul, wn_cl, wn_le, wn_lt, wn_inj, wn_ne1, wn_1ne, wn_gt1, wn_le1, nb0, nb1, am_kt, am_rt, List.cons_append, List.nil_append, true_and, and_true, not_true_eq_false, not_false_eq_true, imp_f, imp_t, implies_true, Nat.zero_add, if_true, if_false, i1 hsh, h7, h8, c, c2, b01, decide_true, if_true]
theorem ct69 {c : Nat} (hsh : Sh G) (h : rT G t n p o) (hc' : c < 128) : am_C am_T (d + 1) 69 [.ref 1, .int (wn c)] G post ↔ post (.inl (some (.int (wn (b01 (decide (p < n ∧ t p = c))))))) G := by
  have hc := am_C_one am_T d
  obtain ⟨h1, h2, h3, h4, h5, h6, h7, h8, h9, h10⟩ := h
  have hx := h1.1 p
  rw [we69]
  by_cases c1 : n ≤ p
  · have c2 : ¬ (p < n ∧ t p = c) := by omega
    simp +decide (disch := omega) only [↓wm1, wb69_0 hc, wb69_11 hc, wb69_24 hc, wb69_28 hc, wb69_29 hc, w0, w1, rI_wI, rP_wI, rL_wI, rI_wR, rP_wR, is_wI, is_wR, ia_wI, ia_wR, ow_wI, ow_wR, wn_add, wn_mul, wn_cl, wn_le, wn_lt, wn_inj, wn_ne1, wn_1ne, wn_gt1, wn_le1, nb0, nb1, am_kt, am_rt, List.cons_append, List.nil_append, true_and, and_true, not_true_eq_false, not_false_eq_true, imp_f, imp_t, implies_true, Nat.zero_add, if_true, if_false, i1 hsh, h7, h8, c1, c2, b01, decide_false, Bool.false_eq_true, if_false]
  · have e4 := h1.2 p (by omega)
    by_cases c2 : t p = c
    · have c3 : p < n ∧ t p = c := ⟨by omega, c2⟩
      have c4 : sb (t p) = wn c := (sb_eq hx hc').mpr c2
      simp +decide (disch := omega) only [↓wm1, wb69_0 hc, wb69_11 hc, wb69_24 hc, wb69_28 hc, wb69_29 hc, w0, w1, rI_wI, rP_wI, rL_wI, rI_wR, rP_wR, is_wI, is_wR, ia_wI, ia_wR, ow_wI, ow_wR, wn_add, wn_mul, wn_cl, wn_le, wn_lt, wn_inj, wn_ne1, wn_1ne, wn_gt1, wn_le1, nb0, nb1, am_kt, am_rt, List.cons_append, List.nil_append, true_and, and_true, not_true_eq_false, not_false_eq_true, imp_f, imp_t, implies_true, Nat.zero_add, if_true, if_false, i1 hsh, q1_0 hsh, ba2 hsh, h7, h8, c1, e4, c4, decide_eq_true c3, b01]
    · have c3 : ¬ (p < n ∧ t p = c) := fun z => c2 z.2
      have c4 : ¬ sb (t p) = wn c := fun z => c2 ((sb_eq hx hc').mp z)
      simp +decide (disch := omega) only [↓wm1, wb69_0 hc, wb69_11 hc, wb69_24 hc, wb69_28 hc, wb69_29 hc, w0, w1, rI_wI, rP_wI, rL_wI, rI_wR, rP_wR, is_wI, is_wR, ia_wI, ia_wR, ow_wI, ow_wR, wn_add, wn_mul, wn_cl, wn_le, wn_lt, wn_inj, wn_ne1, wn_1ne, wn_gt1, wn_le1, nb0, nb1, am_kt, am_rt, List.cons_append, List.nil_append, true_and, and_true, not_true_eq_false, not_false_eq_true, imp_f, imp_t, implies_true, Nat.zero_add, if_true, if_false, i1 hsh, q1_0 hsh, ba2 hsh, h7, h8, c1, e4, c4, c3, b01, decide_false, Bool.false_eq_true, if_false]
theorem ct70 (hsh : Sh G) (h : rT G t n p o) : am_C am_T (d + 1) 70 [.ref 1] G post ↔ post (.inl (some (.int (wn (b01 (decide (p < n ∧ isD (t p) = true))))))) G := by
  have hc := am_C_one am_T d
  obtain ⟨h1, h2, h3, h4, h5, h6, h7, h8, h9, h10⟩ := h
  have hx := h1.1 p
  rw [we70]
  by_cases c1 : n ≤ p
  · have c2 : ¬ (p < n ∧ isD (t p) = true) := by omega
    simp +decide (disch := omega) only [↓wm1, wb70_0 hc, wb70_11 hc, wb70_25 hc, wb70_39 hc, wb70_43 hc, wb70_44 hc, w0, w1, w48, w57, rI_wI, rP_wI, rL_wI, rI_wR, rP_wR, is_wI, is_wR, ia_wI, ia_wR, ow_wI, ow_wR, wn_add, wn_mul, wn_cl, wn_le, wn_lt, wn_inj, wn_ne1, wn_1ne, wn_gt1, wn_le1, nb0, nb1, am_kt, am_rt, List.cons_append, List.nil_append, true_and, and_true, not_true_eq_false, not_false_eq_true, imp_f, imp_t, implies_true, Nat.zero_add, if_true, if_false, i1 hsh, h7, h8, c1, c2, b01, decide_false, Bool.false_eq_true, if_false]
  · have e4 := h1.2 p (by omega)
    have l1 := sb_lt hx (show 48 < 128 by decide)
    have l2 := sb_gt hx (show 57 < 128 by decide)
    by_cases a1 : 128 ≤ t p ∨ t p < 48
    · have c3 : ¬ (p < n ∧ isD (t p) = true) := by simp only [isD, decide_eq_true_eq]; omega
      simp +decide (disch := omega) only [↓wm1, wb70_0 hc, wb70_11 hc, wb70_25 hc, wb70_39 hc, wb70_43 hc, wb70_44 hc, w0, w1, w48, w57, rI_wI, rP_wI, rL_wI, rI_wR, rP_wR, is_wI, is_wR, ia_wI, ia_wR, ow_wI, ow_wR, wn_add, wn_mul, wn_cl, wn_le, wn_lt, wn_inj, wn_ne1, wn_1ne, wn_gt1, wn_le1, nb0, nb1, am_kt, am_rt, List.cons_append, List.nil_append, true_and, and_true, not_true_eq_false, not_false_eq_true, imp_f, imp_t, implies_true, Nat.zero_add, if_true, if_false, i1 hsh, q1_0 hsh, ba2 hsh, h7, h8, c1, e4, l1, a1, c3, b01, decide_false, Bool.false_eq_true, if_false]
    · by_cases a2 : 57 < t p ∧ t p < 128
      · have c3 : ¬ (p < n ∧ isD (t p) = true) := by simp only [isD, decide_eq_true_eq]; omega
        simp +decide (disch := omega) only [↓wm1, wb70_0 hc, wb70_11 hc, wb70_25 hc, wb70_39 hc, wb70_43 hc, wb70_44 hc, w0, w1, w48, w57, rI_wI, rP_wI, rL_wI, rI_wR, rP_wR, is_wI, is_wR, ia_wI, ia_wR, ow_wI, ow_wR, wn_add, wn_mul, wn_cl, wn_le, wn_lt, wn_inj, wn_ne1, wn_1ne, wn_gt1, wn_le1, nb0, nb1, am_kt, am_rt, List.cons_append, List.nil_append, true_and, and_true, not_true_eq_false, not_false_eq_true, imp_f, imp_t, implies_true, Nat.zero_add, if_true, if_false, i1 hsh, q1_0 hsh, ba2 hsh, h7, h8, c1, e4, l1, l2, a1, a2, c3, b01, decide_false, Bool.false_eq_true, if_false]
      · have c3 : p < n ∧ isD (t p) = true := by simp only [isD, decide_eq_true_eq]; omega
        simp +decide (disch := omega) only [↓wm1, wb70_0 hc, wb70_11 hc, wb70_25 hc, wb70_39 hc, wb70_43 hc, wb70_44 hc, w0, w1, w48, w57, rI_wI, rP_wI, rL_wI, rI_wR, rP_wR, is_wI, is_wR, ia_wI, ia_wR, ow_wI, ow_wR, wn_add, wn_mul, wn_cl, wn_le, wn_lt, wn_inj, wn_ne1, wn_1ne, wn_gt1, wn_le1, nb0, nb1, am_kt, am_rt, List.cons_append, List.nil_append, true_and, and_true, not_true_eq_false, not_false_eq_true, imp_f, imp_t, implies_true, Nat.zero_add, if_true, if_false, i1 hsh, q1_0 hsh, ba2 hsh, h7, h8, c1, e4, l1, l2, a1, a2, c3, b01, decide_true, if_true]
theorem ct71 {c : Nat} (hsh : Sh G) (h : rT G t n p o) (hc' : c < 128) (kok : ∀ p' G', psgn t n p c = .inr p' → rT G' t n p' o → am_gI G' 1 4 = wn p → Kp T1 G G' → post (.inl (some (.int (wn 1)))) G') (kbad : psgn t n p c = .inl (1, p) → post (.inl (some (.int (wn 0)))) G) : am_C am_T (d + 2) 71 [.ref 1, .int (wn c)] G post := by
  have hc := am_C_one am_T (d + 1)
  rw [we71]
  simp +decide (disch := omega) only [↓wm1, wb71_0 hc, w0, w1, rI_wI, rP_wI, rL_wI, rI_wR, rP_wR, is_wI, is_wR, ia_wI, ia_wR, ow_wI, ow_wR, wn_add, wn_mul, wn_cl, wn_le, wn_lt, wn_inj, wn_ne1, wn_1ne, wn_gt1, wn_le1, nb0, nb1, am_kt, am_rt, List.cons_append, List.nil_append, true_and, and_true, not_true_eq_false, not_false_eq_true, imp_f, imp_t, implies_true, Nat.zero_add, if_true, if_false, i1 hsh, ct69 hsh h hc']
  by_cases c1 : p < n ∧ t p = c
  · have e : psgn t n p c = .inr (skb t n (p + 1)) := by unfold psgn; rw [if_pos c1]
    simp only [c1, and_self, decide_true, b01, if_true]
    have h8 := h.2.2.2.2.2.2.2.1
    simp +decide (disch := omega) only [↓wm1, wb71_5 hc, wb71_10 hc, w0, w1, rI_wI, rP_wI, rL_wI, rI_wR, rP_wR, is_wI, is_wR, ia_wI, ia_wR, ow_wI, ow_wR, wn_add, wn_mul, wn_cl, wn_le, wn_lt, wn_inj, wn_ne1, wn_1ne, wn_gt1, wn_le1, nb0, nb1, am_kt, am_rt, List.cons_append, List.nil_append, true_and, and_true, not_true_eq_false, not_false_eq_true, imp_f, imp_t, implies_true, Nat.zero_add, if_true, if_false, i1 hsh, h8]
    have k1 : Kp (fun a i => a = 1 ∧ (i = 3 ∨ i = 4)) G (am_wI G 1 4 (wn p)) := (Kp.refl G).wI ⟨rfl, Or.inr rfl⟩ _
    refine ct65 (G := am_wI G 1 4 (wn p)) (t := t) (n := n) hsh (h.1.kp k1 (by rintro i ⟨z, -⟩; omega)) h.2.1 (by omega) ?_ (fun G' e' k' => ?_)
    · rw [rI_wI, if_neg (by omega)]; exact h.2.2.2.2.2.2.1
    · simp +decide (disch := omega) only [↓wm1, wb71_28 hc, w0, w1, rI_wI, rP_wI, rL_wI, rI_wR, rP_wR, is_wI, is_wR, ia_wI, ia_wR, ow_wI, ow_wR, wn_add, wn_mul, wn_cl, wn_le, wn_lt, wn_inj, wn_ne1, wn_1ne, wn_gt1, wn_le1, nb0, nb1, am_kt, am_rt, List.cons_append, List.nil_append, true_and, and_true, not_true_eq_false, not_false_eq_true, imp_f, imp_t, implies_true, Nat.zero_add, if_true, if_false]
      have k2 := k1.trans (k'.mono (Sd := fun a i => a = 1 ∧ (i = 3 ∨ i = 4)) (fun _ _ z => ⟨z.1, Or.inl z.2⟩))
      refine kok _ G' e (h.at (skb_le (by omega)) (skb_idem (by omega)) e' k2) ?_ (k2.mono (fun _ _ z => z.1))
      rw [k'.i (by rintro ⟨-, z⟩; omega), rI_wI, if_pos ⟨rfl, rfl⟩]
  · have e : psgn t n p c = .inl (1, p) := by unfold psgn; rw [if_neg c1]
    simp only [c1, decide_false, b01, Bool.false_eq_true, if_false]
    simp +decide (disch := omega) only [↓wm1, wb71_5 hc, wb71_8 hc, w0, w1, rI_wI, rP_wI, rL_wI, rI_wR, rP_wR, is_wI, is_wR, ia_wI, ia_wR, ow_wI, ow_wR, wn_add, wn_mul, wn_cl, wn_le, wn_lt, wn_inj, wn_ne1, wn_1ne, wn_gt1, wn_le1, nb0, nb1, am_kt, am_rt, List.cons_append, List.nil_append, true_and, and_true, not_true_eq_false, not_false_eq_true, imp_f, imp_t, implies_true, Nat.zero_add, if_true, if_false]
    exact kbad e
theorem ct72 {c : Nat} (hsh : Sh G) (h : rT G t n p o) (hc' : c < 128) (kok : ∀ p' G', psgn t n p c = .inr p' → rT G' t n p' o → Kp T1 G G' → post (.inl (some (.int (wn 1)))) G') (kbad : ∀ G', psgn t n p c = .inl (1, p) → fT G' 1 p → Kp T1 G G' → post (.inl (some (.int (wn 0)))) G') : am_C am_T (d + 2) 72 [.ref 1, .int (wn c)] G post := by
  have hc := am_C_one am_T (d + 1)
  have h8 := h.2.2.2.2.2.2.2.1
  rw [we72]
  simp +decide (disch := omega) only [↓wm1, wb72_0 hc, w0, w1, rI_wI, rP_wI, rL_wI, rI_wR, rP_wR, is_wI, is_wR, ia_wI, ia_wR, ow_wI, ow_wR, wn_add, wn_mul, wn_cl, wn_le, wn_lt, wn_inj, wn_ne1, wn_1ne, wn_gt1, wn_le1, nb0, nb1, am_kt, am_rt, List.cons_append, List.nil_append, true_and, and_true, not_true_eq_false, not_false_eq_true, imp_f, imp_t, implies_true, Nat.zero_add, if_true, if_false, i1 hsh, ct69 hsh h hc']
  by_cases c1 : p < n ∧ t p = c
  · have e : psgn t n p c = .inr (skb t n (p + 1)) := by unfold psgn; rw [if_pos c1]
    simp only [c1, and_self, decide_true, b01, if_true]
    simp +decide (disch := omega) only [↓wm1, wb72_5 hc, wb72_18 hc, w0, w1, rI_wI, rP_wI, rL_wI, rI_wR, rP_wR, is_wI, is_wR, ia_wI, ia_wR, ow_wI, ow_wR, wn_add, wn_mul, wn_cl, wn_le, wn_lt, wn_inj, wn_ne1, wn_1ne, wn_gt1, wn_le1, nb0, nb1, am_kt, am_rt, List.cons_append, List.nil_append, true_and, and_true, not_true_eq_false, not_false_eq_true, imp_f, imp_t, implies_true, Nat.zero_add, if_true, if_false, i1 hsh, h8]
    refine ct65 (t := t) (n := n) hsh h.1 h.2.1 (by omega) h.2.2.2.2.2.2.1 (fun G' e' k' => ?_)
    simp +decide (disch := omega) only [↓wm1, wb72_28 hc, w0, w1, rI_wI, rP_wI, rL_wI, rI_wR, rP_wR, is_wI, is_wR, ia_wI, ia_wR, ow_wI, ow_wR, wn_add, wn_mul, wn_cl, wn_le, wn_lt, wn_inj, wn_ne1, wn_1ne, wn_gt1, wn_le1, nb0, nb1, am_kt, am_rt, List.cons_append, List.nil_append, true_and, and_true, not_true_eq_false, not_false_eq_true, imp_f, imp_t, implies_true, Nat.zero_add, if_true, if_false]
    exact kok _ G' e (h.at (skb_le (by omega)) (skb_idem (by omega)) e' (k'.mono (fun _ _ z => ⟨z.1, Or.inl z.2⟩))) k'.t13
  · have e : psgn t n p c = .inl (1, p) := by unfold psgn; rw [if_neg c1]
    simp only [c1, decide_false, b01, Bool.false_eq_true, if_false]
    simp +decide (disch := omega) only [↓wm1, wb72_5 hc, wb72_8 hc, wb72_17 hc, w0, w1, rI_wI, rP_wI, rL_wI, rI_wR, rP_wR, is_wI, is_wR, ia_wI, ia_wR, ow_wI, ow_wR, wn_add, wn_mul, wn_cl, wn_le, wn_lt, wn_inj, wn_ne1, wn_1ne, wn_gt1, wn_le1, nb0, nb1, am_kt, am_rt, List.cons_append, List.nil_append, true_and, and_true, not_true_eq_false, not_false_eq_true, imp_f, imp_t, implies_true, Nat.zero_add, if_true, if_false, i1 hsh, h8, ct66 hsh]
    exact kbad _ e (fT_of h.2.2.2.2.2.1 1 p) (kp_f G 1 p)
/-! 77, 78 -/
theorem ct77 {q : Nat} (hsh : Sh G) (h : rT G t n p o) (hs : am_gI G 1 4 = wn q) (kok : ∀ G', o < 6 → rT G' t n p (o + 1) → Kp T1 G G' → post (.inl (some (.int (wn 1)))) G') (kbad : ∀ G', o = 6 → fT G' 3 q → Kp T1 G G' → post (.inl (some (.int (wn 0)))) G') : am_C am_T (d + 2) 77 [.ref 1] G post := by
  have hc := am_C_one am_T (d + 1)
  obtain ⟨h1, h2, h3, h4, h5, h6, h7, h8, h9, h10⟩ := h
  rw [we77]
  by_cases c : o < 6
  · simp +decide (disch := omega) only [↓wm1, wb77_0 hc, wb77_19 hc, w0, w1, w3, w6, rI_wI, rP_wI, rL_wI, rI_wR, rP_wR, is_wI, is_wR, ia_wI, ia_wR, ow_wI, ow_wR, wn_add, wn_mul, wn_cl, wn_le, wn_lt, wn_inj, wn_ne1, wn_1ne, wn_gt1, wn_le1, nb0, nb1, am_kt, am_rt, List.cons_append, List.nil_append, true_and, and_true, not_true_eq_false, not_false_eq_true, imp_f, imp_t, implies_true, Nat.zero_add, if_true, if_false, i1 hsh, h9, c]
    have k1 : Kp T1 G (am_wI G 1 5 (wn (o + 1))) := (Kp.refl G).wI (by exact rfl) _
    refine kok _ c ⟨h1.kp k1 (by intro i z; unfold T1 at z; omega), h2, h3, h4, by omega, ?_, ?_, ?_, ?_, ?_⟩ k1
    · rw [rI_wI, if_neg (by omega)]; exact h6
    · rw [rI_wI, if_neg (by omega)]; exact h7
    · rw [rI_wI, if_neg (by omega)]; exact h8
    · rw [rI_wI, if_pos ⟨rfl, rfl⟩]
    · rw [rI_wI, if_neg (by omega)]; exact h10
  · simp +decide (disch := omega) only [↓wm1, wb77_0 hc, wb77_9 hc, wb77_18 hc, w0, w1, w3, w6, rI_wI, rP_wI, rL_wI, rI_wR, rP_wR, is_wI, is_wR, ia_wI, ia_wR, ow_wI, ow_wR, wn_add, wn_mul, wn_cl, wn_le, wn_lt, wn_inj, wn_ne1, wn_1ne, wn_gt1, wn_le1, nb0, nb1, am_kt, am_rt, List.cons_append, List.nil_append, true_and, and_true, not_true_eq_false, not_false_eq_true, imp_f, imp_t, implies_true, Nat.zero_add, if_true, if_false, i1 hsh, h9, hs, c, ct66 hsh]
    exact kbad _ (by omega) (fT_of h6 3 q) (kp_f G 3 q)
theorem ct78 (hsh : Sh G) (h : rT G t n p (o + 1)) (k : ∀ G', rT G' t n p o → Kp T1 G G' → post (.inl (some (.int (wn 1)))) G') : am_C am_T (d + 1) 78 [.ref 1] G post := by
  have hc := am_C_one am_T d
  obtain ⟨h1, h2, h3, h4, h5, h6, h7, h8, h9, h10⟩ := h
  have e : wn (o + 1) - wn 1 = wn o := by rw [wn_sub (by omega)]; rfl
  rw [we78]
  simp +decide (disch := omega) only [↓wm1, wb78_0 hc, w0, w1, rI_wI, rP_wI, rL_wI, rI_wR, rP_wR, is_wI, is_wR, ia_wI, ia_wR, ow_wI, ow_wR, wn_add, wn_mul, wn_cl, wn_le, wn_lt, wn_inj, wn_ne1, wn_1ne, wn_gt1, wn_le1, nb0, nb1, am_kt, am_rt, List.cons_append, List.nil_append, true_and, and_true, not_true_eq_false, not_false_eq_true, imp_f, imp_t, implies_true, Nat.zero_add, if_true, if_false, i1 hsh, h9, e]
  have k1 : Kp T1 G (am_wI G 1 5 (wn o)) := (Kp.refl G).wI (by exact rfl) _
  refine k _ ⟨h1.kp k1 (by intro i z; unfold T1 at z; omega), h2, h3, h4, by omega, ?_, ?_, ?_, ?_, ?_⟩ k1
  · rw [rI_wI, if_neg (by omega)]; exact h6
  · rw [rI_wI, if_neg (by omega)]; exact h7
  · rw [rI_wI, if_neg (by omega)]; exact h8
  · rw [rI_wI, if_pos ⟨rfl, rfl⟩]
  · rw [rI_wI, if_neg (by omega)]; exact h10
end
