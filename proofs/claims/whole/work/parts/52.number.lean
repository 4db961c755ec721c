/-! Numbers and words on the object's tape. -/
theorem w100000 : (100000 : Int32) = wn 100000 := rfl
/-- the greatest number below m -/
def lim (m : Nat) : Int32 := wn m - wn 1
theorem lim_le {v m : Nat} (hv : v < 2147483648) (hm : m < 2147483648) : wn v ≤ lim m ↔ v < m := by
  unfold lim
  by_cases h : m = 0
  · subst h
    have e : wn 0 - wn 1 = mm := by decide
    rw [e, wn_le1 hv]
    constructor
    · intro h; exact h.elim
    · intro h; omega
  · rw [wn_sub (by omega), wn_le hv (by omega)]
    omega
section
variable {G : am_G} {d n p o : Nat} {t : Nat → Nat} {post : am_O → am_G → Prop}
theorem ct73_loop {x1 x2 : Int32} (hn : n ≤ 600) (hsh : Sh G) (hb : Bt G t) (e2 : am_gI G 1 2 = wn n) : ∀ (f j : Nat), n - (p + j) = f → p + j ≤ n →
    am_W (am_C am_T (d + 1)) am_73 post 96 [some (.ref 1), some (.int x1), some (.int x2), some (.int (wn (min (dvl t p (dge t n (p + j) - p)) 10000))), some (.int (wn (dge t n (p + j))))] [] G →
    am_W (am_C am_T (d + 1)) am_73 post 35 [some (.ref 1), some (.int x1), some (.int x2), some (.int (wn (min (dvl t p j) 10000))), some (.int (wn (p + j)))] [] G := by
  have hc := am_C_one am_T (d + 1)
  intro f
  induction f with
  | zero =>
    intro j hf hj k
    have c1 : n ≤ p + j := by omega
    have e : dge t n (p + j) = p + j := rnn_end c1
    rw [e, Nat.add_sub_cancel_left] at k
    rw [wb73_35 hc]
    simp +decide (disch := omega) only [↓wm1, w0, w1, rI_wI, rP_wI, rL_wI, rI_wR, rP_wR, is_wI, is_wR, ia_wI, ia_wR, ow_wI, ow_wR, wn_add, wn_mul, wn_cl, wn_le, wn_lt, wn_inj, wn_ne1, wn_1ne, wn_gt1, wn_le1, nb0, nb1, am_kt, am_rt, List.cons_append, List.nil_append, true_and, and_true, not_true_eq_false, not_false_eq_true, imp_f, imp_t, implies_true, Nat.zero_add, if_true, if_false, i1 hsh, e2, c1]
    exact k
  | succ f ih =>
    intro j hf hj k
    have c1 : ¬ n ≤ p + j := by omega
    have hx := hb.1 (p + j)
    have e4 := hb.2 (p + j) (by omega)
    have l1 := sb_lt hx (show 48 < 128 by decide)
    have l2 := sb_gt hx (show 57 < 128 by decide)
    rw [wb73_35 hc]
    by_cases a0 : isD (t (p + j)) = true
    · have a1 : 48 ≤ t (p + j) ∧ t (p + j) ≤ 57 := by simpa only [isD, decide_eq_true_eq] using a0
      have a2 : ¬ (128 ≤ t (p + j) ∨ t (p + j) < 48) := by omega
      have a3 : ¬ (57 < t (p + j) ∧ t (p + j) < 128) := by omega
      have a4 : sb (t (p + j)) = wn (t (p + j)) := sb_sm (by omega)
      have a5 : wn (min (dvl t p j) 10000 * 10 + t (p + j)) - wn 48 = wn (min (dvl t p j) 10000 * 10 + t (p + j) - 48) := wn_sub (by omega)
      have a6 : min (min (dvl t p j) 10000 * 10 + t (p + j) - 48) 10000 = min (dvl t p (j + 1)) 10000 := by
        simp only [dvl]
        omega
      have e : dge t n (p + j) = dge t n (p + (j + 1)) := rnn_go (by omega) a0
      rw [e] at k
      have := ih (j + 1) (by omega) (by omega) k
      have b1 : ¬ t (p + j) < 48 := by omega
      have b2 : ¬ 57 < t (p + j) := by omega
      simp +decide (disch := omega) only [↓wm1, wb73_44 hc, wb73_56 hc, wb73_68 hc, wb73_89 hc, w0, w1, w2, w10, w48, w57, w10000, rI_wI, rP_wI, rL_wI, rI_wR, rP_wR, is_wI, is_wR, ia_wI, ia_wR, ow_wI, ow_wR, wn_add, wn_mul, wn_cl, wn_le, wn_lt, wn_inj, wn_ne1, wn_1ne, wn_gt1, wn_le1, nb0, nb1, am_kt, am_rt, List.cons_append, List.nil_append, true_and, and_true, not_true_eq_false, not_false_eq_true, imp_f, imp_t, implies_true, Nat.zero_add, if_true, if_false, i1 hsh, q1_0 hsh, ba2 hsh, e2, c1, e4, b1, b2, a4, a5, ct272n, a6]
      exact this
    · have a0' : isD (t (p + j)) = false := by simpa using a0
      have e : dge t n (p + j) = p + j := rnn_no a0'
      rw [e, Nat.add_sub_cancel_left] at k
      by_cases a1 : 128 ≤ t (p + j) ∨ t (p + j) < 48
      · simp +decide (disch := omega) only [↓wm1, wb73_44 hc, w0, w1, w2, w10, w48, w57, w10000, rI_wI, rP_wI, rL_wI, rI_wR, rP_wR, is_wI, is_wR, ia_wI, ia_wR, ow_wI, ow_wR, wn_add, wn_mul, wn_cl, wn_le, wn_lt, wn_inj, wn_ne1, wn_1ne, wn_gt1, wn_le1, nb0, nb1, am_kt, am_rt, List.cons_append, List.nil_append, true_and, and_true, not_true_eq_false, not_false_eq_true, imp_f, imp_t, implies_true, Nat.zero_add, if_true, if_false, i1 hsh, q1_0 hsh, ba2 hsh, e2, c1, e4, l1, a1]
        exact k
      · have a2 : 57 < t (p + j) ∧ t (p + j) < 128 := by
          simp only [isD, decide_eq_false_iff_not] at a0'
          omega
        simp +decide (disch := omega) only [↓wm1, wb73_44 hc, wb73_56 hc, w0, w1, w2, w10, w48, w57, w10000, rI_wI, rP_wI, rL_wI, rI_wR, rP_wR, is_wI, is_wR, ia_wI, ia_wR, ow_wI, ow_wR, wn_add, wn_mul, wn_cl, wn_le, wn_lt, wn_inj, wn_ne1, wn_1ne, wn_gt1, wn_le1, nb0, nb1, am_kt, am_rt, List.cons_append, List.nil_append, true_and, and_true, not_true_eq_false, not_false_eq_true, imp_f, imp_t, implies_true, Nat.zero_add, if_true, if_false, i1 hsh, q1_0 hsh, ba2 hsh, e2, c1, e4, l1, l2, a1, a2]
        exact k
theorem ct73 {lo hi : Nat} {x2 : Int32} (hsh : Sh G) (h : rT G t n p o) (hx2 : x2 = lim hi) (hlo : lo ≤ 1000) (hhi : hi ≤ 1000)
    (kok : ∀ v p' G', pnum t n p lo hi = .inr (v, p') → rT G' t n p' o → am_gI G' 1 4 = wn p → Kp T1 G G' → post (.inl (some (.int (wn v)))) G')
    (kbad : ∀ k G', pnum t n p lo hi = .inl (k, p) → fT G' k p → Kp T1 G G' → post (.inl (some (.int mm))) G') : am_C am_T (d + 2) 73 [.ref 1, .int (wn lo), .int x2] G post := by
  have hc := am_C_one am_T (d + 1)
  subst hx2
  have h0 := h
  obtain ⟨h1, h2, h3, h4, h5, h6, h7, h8, h9, h10⟩ := h
  rw [we73]
  simp +decide (disch := omega) only [↓wm1, wb73_0 hc, w0, w1, w2, w10, w48, w57, w10000, rI_wI, rP_wI, rL_wI, rI_wR, rP_wR, is_wI, is_wR, ia_wI, ia_wR, ow_wI, ow_wR, wn_add, wn_mul, wn_cl, wn_le, wn_lt, wn_inj, wn_ne1, wn_1ne, wn_gt1, wn_le1, nb0, nb1, am_kt, am_rt, List.cons_append, List.nil_append, true_and, and_true, not_true_eq_false, not_false_eq_true, imp_f, imp_t, implies_true, Nat.zero_add, if_true, if_false, i1 hsh, ct70 hsh h0]
  by_cases c1 : p < n ∧ isD (t p) = true
  · simp only [c1, and_self, decide_true, b01, if_true]
    simp +decide (disch := omega) only [↓wm1, wb73_4 hc, wb73_19 hc, w0, w1, w2, w10, w48, w57, w10000, rI_wI, rP_wI, rL_wI, rI_wR, rP_wR, is_wI, is_wR, ia_wI, ia_wR, ow_wI, ow_wR, wn_add, wn_mul, wn_cl, wn_le, wn_lt, wn_inj, wn_ne1, wn_1ne, wn_gt1, wn_le1, nb0, nb1, am_kt, am_rt, List.cons_append, List.nil_append, true_and, and_true, not_true_eq_false, not_false_eq_true, imp_f, imp_t, implies_true, Nat.zero_add, if_true, if_false, i1 hsh, h8]
    have k1 : Kp (fun a i => a = 1 ∧ (i = 3 ∨ i = 4)) G (am_wI G 1 4 (wn p)) := (Kp.refl G).wI ⟨rfl, Or.inr rfl⟩ _
    have hb1 := h1.kp k1 (by rintro i ⟨z, -⟩; omega)
    have e21 : am_gI (am_wI G 1 4 (wn p)) 1 2 = wn n := by rw [rI_wI, if_neg (by omega)]; exact h7
    have := ct73_loop (d := d) (post := post) (x1 := wn lo) (x2 := lim hi) (p := p) h2 (G := am_wI G 1 4 (wn p)) hsh hb1 e21 (n - (p + 0)) 0 rfl (by omega)
    simp only [dvl, Nat.zero_min, Nat.add_zero] at this
    apply this
    have g1 := dge_gt c1.1 c1.2
    have g2 := dge_le (t := t) h3
    generalize hv : dvl t p (dge t n p - p) = v
    simp +decide (disch := omega) only [↓wm1, wb73_96 hc, w0, w1, w2, w10, w48, w57, w10000, rI_wI, rP_wI, rL_wI, rI_wR, rP_wR, is_wI, is_wR, ia_wI, ia_wR, ow_wI, ow_wR, wn_add, wn_mul, wn_cl, wn_le, wn_lt, wn_inj, wn_ne1, wn_1ne, wn_gt1, wn_le1, nb0, nb1, am_kt, am_rt, List.cons_append, List.nil_append, true_and, and_true, not_true_eq_false, not_false_eq_true, imp_f, imp_t, implies_true, Nat.zero_add, if_true, if_false, i1 hsh]
    refine ct65 (G := am_wI G 1 4 (wn p)) (t := t) (n := n) (p := dge t n p) hsh hb1 h2 g2 e21 (fun G' e' k' => ?_)
    have k2 := k1.trans (k'.mono (Sd := fun a i => a = 1 ∧ (i = 3 ∨ i = 4)) (fun _ _ z => ⟨z.1, Or.inl z.2⟩))
    have hr' := h0.at (skb_le g2) (skb_idem g2) e' k2
    have es : am_gI G' 1 4 = wn p := by rw [k'.i (by rintro ⟨-, z⟩; omega), rI_wI, if_pos ⟨rfl, rfl⟩]
    have hsh' := hsh.kp k2
    have kk2 : Kp T1 G G' := k2.mono (fun _ _ z => z.1)
    by_cases c2 : lo ≤ v ∧ v < hi
    · have e : pnum t n p lo hi = .inr (v, skb t n (dge t n p)) := by
        unfold pnum
        rw [if_pos c1, hv, if_pos c2]
      have c3 : min v 10000 = v := by omega
      have c4 : ¬ v < lo := by omega
      have c5 := (lim_le (show v < 2147483648 by omega) (show hi < 2147483648 by omega)).mpr c2.2
      simp +decide (disch := omega) only [↓wm1, wb73_102 hc, wb73_107 hc, wb73_124 hc, w0, w1, w2, w10, w48, w57, w10000, rI_wI, rP_wI, rL_wI, rI_wR, rP_wR, is_wI, is_wR, ia_wI, ia_wR, ow_wI, ow_wR, wn_add, wn_mul, wn_cl, wn_le, wn_lt, wn_inj, wn_ne1, wn_1ne, wn_gt1, wn_le1, nb0, nb1, am_kt, am_rt, List.cons_append, List.nil_append, true_and, and_true, not_true_eq_false, not_false_eq_true, imp_f, imp_t, implies_true, Nat.zero_add, if_true, if_false, c3, c4, c5]
      exact kok v _ G' e hr' es kk2
    · have e : pnum t n p lo hi = .inl (2, p) := by
        unfold pnum
        rw [if_pos c1, hv, if_neg c2]
      by_cases c3 : min v 10000 < lo
      · simp +decide (disch := omega) only [↓wm1, wb73_102 hc, wb73_112 hc, wb73_121 hc, w0, w1, w2, w10, w48, w57, w10000, rI_wI, rP_wI, rL_wI, rI_wR, rP_wR, is_wI, is_wR, ia_wI, ia_wR, ow_wI, ow_wR, wn_add, wn_mul, wn_cl, wn_le, wn_lt, wn_inj, wn_ne1, wn_1ne, wn_gt1, wn_le1, nb0, nb1, am_kt, am_rt, List.cons_append, List.nil_append, true_and, and_true, not_true_eq_false, not_false_eq_true, imp_f, imp_t, implies_true, Nat.zero_add, if_true, if_false, c3, i1 hsh', es, ct66 hsh']
        exact kbad 2 _ e (fT_of hr'.2.2.2.2.2.1 2 p) (kk2.trans (kp_f G' 2 p))
      · have c5 : ¬ wn (min v 10000) ≤ lim hi := by
          rw [lim_le (by omega) (by omega)]
          omega
        simp +decide (disch := omega) only [↓wm1, wb73_102 hc, wb73_107 hc, wb73_112 hc, wb73_121 hc, w0, w1, w2, w10, w48, w57, w10000, rI_wI, rP_wI, rL_wI, rI_wR, rP_wR, is_wI, is_wR, ia_wI, ia_wR, ow_wI, ow_wR, wn_add, wn_mul, wn_cl, wn_le, wn_lt, wn_inj, wn_ne1, wn_1ne, wn_gt1, wn_le1, nb0, nb1, am_kt, am_rt, List.cons_append, List.nil_append, true_and, and_true, not_true_eq_false, not_false_eq_true, imp_f, imp_t, implies_true, Nat.zero_add, if_true, if_false, c3, c5, i1 hsh', es, ct66 hsh']
        exact kbad 2 _ e (fT_of hr'.2.2.2.2.2.1 2 p) (kk2.trans (kp_f G' 2 p))
  · have e : pnum t n p lo hi = .inl (1, p) := by unfold pnum; rw [if_neg c1]
    simp only [c1, decide_false, b01, Bool.false_eq_true, if_false]
    simp +decide (disch := omega) only [↓wm1, wb73_4 hc, wb73_7 hc, wb73_16 hc, w0, w1, w2, w10, w48, w57, w10000, rI_wI, rP_wI, rL_wI, rI_wR, rP_wR, is_wI, is_wR, ia_wI, ia_wR, ow_wI, ow_wR, wn_add, wn_mul, wn_cl, wn_le, wn_lt, wn_inj, wn_ne1, wn_1ne, wn_gt1, wn_le1, nb0, nb1, am_kt, am_rt, List.cons_append, List.nil_append, true_and, and_true, not_true_eq_false, not_false_eq_true, imp_f, imp_t, implies_true, Nat.zero_add, if_true, if_false, i1 hsh, h8, ct66 hsh]
    exact kbad 1 _ e (fT_of h6 1 p) (kp_f G 1 p)
theorem ct74 {lo hi a w i : Nat} {x2 : Int32} (hsh : Sh G) (h : rT G t n p o) (ha : kk0[a]? = some (100, w)) (ha2 : 2 < a) (hi' : i < w) (hw : w < 1000) (hx2 : x2 = lim hi) (hlo : lo ≤ 1000) (hhi : hi ≤ 1000)
    (kok : ∀ v p' G', pnum t n p lo hi = .inr (v, p') → rT G' t n p' o → am_gI G' a i = wn v → Kp (fun b j => b = 1 ∨ (b = a ∧ j = i)) G G' → post (.inl (some (.int (wn 1)))) G')
    (kbad : ∀ k G', pnum t n p lo hi = .inl (k, p) → fT G' k p → Kp T1 G G' → post (.inl (some (.int (wn 0)))) G') : am_C am_T (d + 3) 74 [.ref 1, .ref a, .int (wn i), .int (wn lo), .int x2] G post := by
  have hc := am_C_one am_T (d + 2)
  rw [we74]
  simp +decide (disch := omega) only [↓wm1, wb74_0 hc, w0, w1, rI_wI, rP_wI, rL_wI, rI_wR, rP_wR, is_wI, is_wR, ia_wI, ia_wR, ow_wI, ow_wR, wn_add, wn_mul, wn_cl, wn_le, wn_lt, wn_inj, wn_ne1, wn_1ne, wn_gt1, wn_le1, nb0, nb1, am_kt, am_rt, List.cons_append, List.nil_append, true_and, and_true, not_true_eq_false, not_false_eq_true, imp_f, imp_t, implies_true, Nat.zero_add, if_true, if_false, i1 hsh]
  refine ct73 hsh h hx2 hlo hhi (fun v p' G' e hr es k' => ?_) (fun k G' e hf k' => ?_)
  · have hv := (pnum_ok h.2.2.1 e).2.2.2.1
    have hsh' := hsh.kp k'
    have hln : am_ln G' a = w := by unfold am_ln; rw [hsh'.k ha]
    have hal : am_al G' a := Or.inl ⟨100, w, hsh'.k ha, by decide, by decide⟩
    have how := hsh'.ow ha hi' (by omega)
    have c1 : wn i < Int32.ofNat w := (wn_lt (by omega) (by omega)).mpr hi'
    simp +decide (disch := omega) only [↓wm1, wb74_7 hc, wb74_15 hc, wb74_19 hc, wb74_27 hc, w0, w1, rI_wI, rP_wI, rL_wI, rI_wR, rP_wR, is_wI, is_wR, ia_wI, ia_wR, ow_wI, ow_wR, wn_add, wn_mul, wn_cl, wn_le, wn_lt, wn_inj, wn_ne1, wn_1ne, wn_gt1, wn_le1, nb0, nb1, am_kt, am_rt, List.cons_append, List.nil_append, true_and, and_true, not_true_eq_false, not_false_eq_true, imp_f, imp_t, implies_true, Nat.zero_add, if_true, if_false, hln, hal, how, c1, Nat.not_lt_zero]
    refine kok v p' _ e (hr.kp (Sc := fun b j => b = a ∧ j = i) ((Kp.refl G').wI ⟨rfl, rfl⟩ _) (fun b j z => by omega)) (by rw [rI_wI, if_pos ⟨rfl, rfl⟩]) ((k'.mono (fun b j z => Or.inl z)).wI (Or.inr ⟨rfl, rfl⟩) _)
  · simp +decide (disch := omega) only [↓wm1, wb74_7 hc, wb74_25 hc, w0, w1, rI_wI, rP_wI, rL_wI, rI_wR, rP_wR, is_wI, is_wR, ia_wI, ia_wR, ow_wI, ow_wR, wn_add, wn_mul, wn_cl, wn_le, wn_lt, wn_inj, wn_ne1, wn_1ne, wn_gt1, wn_le1, nb0, nb1, am_kt, am_rt, List.cons_append, List.nil_append, true_and, and_true, not_true_eq_false, not_false_eq_true, imp_f, imp_t, implies_true, Nat.zero_add, if_true, if_false]
    exact kbad k G' e hf k'
end
