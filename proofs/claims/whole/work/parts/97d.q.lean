/-! The book, both sides: the whole. -/
def q_bn (V : Vt) (n : Nat) : Int32 := match pbk (vt V) n (dH (vδ V)) 8 (skb (vt V) n 0) [] with
  | .inl x => wn x.1 - wn 10
  | .inr R => wn R.length
def s_bnew (V : Vt) (R : List (Nat × Nat)) : Vt := mkV (vt V) 0 none (vδ V) (vΛ V) (vσ V) (vw V) (vb V) (vi V) (vis V) (viw V) (vib V) R (vr V) (v7 V) (v8 V)
def s_bn (V : Vt) (n : Nat) : Vt := match pbk (vt V) n (dH (vδ V)) 8 (skb (vt V) n 0) [] with
  | .inl x => s_bad V x.2
  | .inr R => s_bnew V R
theorem vV_bnew {V : Vt} (h : vV V) {R : List (Nat × Nat)} (hR : okB (dH (vδ V)) R) : vV (s_bnew V R) := by
  have hl := hR.len
  have h7 := h.2.2.2.1.2.1
  obtain ⟨h1, -, -, h4, h5, h6, h7', h8, h9, h10, -, -, -⟩ := h
  refine ⟨h1, Nat.zero_le _, fun p _ => Nat.zero_le p, h4, h5, h6, h7', h8, h9, h10, ?_, hR.2, ?_⟩
  · show R.length ≤ 7
    omega
  · have := hR.1
    rw [List.Nodup, List.pairwise_map] at this
    exact this
section
variable {G : am_G} {d : Nat} {V : Vt}
theorem cl_bn {n : Nat} (hR : RepC G V) (hn : n ≤ vm V) (hn2 : n ≤ 60) : am_C am_T (d + 12) 105 [.ref 0, .int (wn n)] G (OC G (s_bn V n) (.inl (q_bn V n))) := by
  have hc := am_C_one am_T (d + 11)
  obtain ⟨hsh, hv, tp, tw, di, im, bk, ct, rr⟩ := hR.parts
  have tw0 := tw
  obtain ⟨q, l, hT, p1, p3⟩ := tw
  have hq := hT.2.2.1
  have hw := hv.2.2.2.2.2.2.1
  have hi3 := hv.2.2.2.2.2.2.2.2.1
  have hiw : ∀ j, j < vi V → viw V j ≤ 16 := fun j hj => (hv.2.2.2.2.2.2.2.2.2.1 j hj).2.1
  have hm6 := hv.2.1
  have h7 := hv.2.2.2.1.2.1
  have n6 : n ≤ 600 := by omega
  rw [we105]
  generalize hP : OC G _ _ = P
  simp +decide (disch := omega) only [↓wm1, wb105_0 hc, w0, w1, w60, rI_wI, rP_wI, rL_wI, rI_wR, rP_wR, is_wI, is_wR, ia_wI, ia_wR, ow_wI, ow_wR, wn_add, wn_mul, wn_cl, wn_le, wn_lt, wn_inj, wn_ne1, wn_1ne, wn_gt1, wn_le1, nb0, nb1, am_kt, am_rt, List.cons_append, List.nil_append, true_and, and_true, not_true_eq_false, not_false_eq_true, imp_f, imp_t, implies_true, Nat.zero_add, if_true, if_false, false_and, and_false, cn105, fC hsh, ct144y (M := 60) hsh tp.2.1 hm6 (by decide) hn hn2]
  simp +decide (disch := omega) only [↓wm1, wb105_7 hc, w0, w1, w60, rI_wI, rP_wI, rL_wI, rI_wR, rP_wR, is_wI, is_wR, ia_wI, ia_wR, ow_wI, ow_wR, wn_add, wn_mul, wn_cl, wn_le, wn_lt, wn_inj, wn_ne1, wn_1ne, wn_gt1, wn_le1, nb0, nb1, am_kt, am_rt, List.cons_append, List.nil_append, true_and, and_true, not_true_eq_false, not_false_eq_true, imp_f, imp_t, implies_true, Nat.zero_add, if_true, if_false, false_and, and_false, cn105, fC hsh]
  refine ct64 hsh tp.1 n6 (fun G1 r1 k1 => ?_)
  have s1 := hsh.kp k1
  have T1' := hT.kp k1 (fun a i z => by unfold T1 at z; omega)
  simp +decide (disch := omega) only [↓wm1, wb105_15 hc, w0, w1, w60, rI_wI, rP_wI, rL_wI, rI_wR, rP_wR, is_wI, is_wR, ia_wI, ia_wR, ow_wI, ow_wR, wn_add, wn_mul, wn_cl, wn_le, wn_lt, wn_inj, wn_ne1, wn_1ne, wn_gt1, wn_le1, nb0, nb1, am_kt, am_rt, List.cons_append, List.nil_append, true_and, and_true, not_true_eq_false, not_false_eq_true, imp_f, imp_t, implies_true, Nat.zero_add, if_true, if_false, false_and, and_false, cn105, fC s1, fW2 s1 T1', fD s1 hq]
  refine ct17 h7 s1 r1 (fun R G2 e2 r2 b2 c2 k2 => ?_) (fun k w G2 e2 f2 k2 => ?_)
  · have s2 := s1.kp k2
    have ok : okB (dH (vδ V)) R := pbk_ok _ _ _ _ (skb_le (Nat.zero_le n)) (okB.nil _) e2
    simp +decide (disch := omega) only [↓wm1, wb105_36 hc, wb105_47 hc, w0, w1, w60, rI_wI, rP_wI, rL_wI, rI_wR, rP_wR, is_wI, is_wR, ia_wI, ia_wR, ow_wI, ow_wR, wn_add, wn_mul, wn_cl, wn_le, wn_lt, wn_inj, wn_ne1, wn_1ne, wn_gt1, wn_le1, nb0, nb1, am_kt, am_rt, List.cons_append, List.nil_append, true_and, and_true, not_true_eq_false, not_false_eq_true, imp_f, imp_t, implies_true, Nat.zero_add, if_true, if_false, false_and, and_false, cn105, fC s2, c2]
    rw [← hP]
    have hs : s_bn V n = s_bnew V R := by unfold s_bn; rw [e2]
    have hq2 : q_bn V n = wn R.length := by unfold q_bn; rw [e2]
    rw [hs, hq2]
    have kk : Kp (fun a i => a = 1 ∨ a = 107 ∨ a = 108 ∨ (a = 106 ∧ i = 0)) G G2 := (k1.mono (fun a i z => by unfold T1 at z; omega)).trans (k2.mono (fun a i z => by unfold K8 at z; omega))
    have e : ∀ a i, ¬ (a = 1 ∨ a = 107 ∨ a = 108 ∨ (a = 106 ∧ i = 0)) → am_gI G2 a i = am_gI G a i := fun a i z => kk.i z
    exact ⟨RepC.mk s2 (vV_bnew hv ok) ⟨⟨hv.1, fun i hi => by rw [e _ _ (by omega)]; exact tp.1.2 i hi⟩, r2.2.2.2.2.2.1, r2.2.2.2.2.2.2.2.2.2⟩ (tw0.eq (fun i => kk.p 3 i) (fun a i z1 z2 => e a i (by omega))) (DiC.eq di hw (fun a i z1 z2 => e a i (by omega))) (ImC.eq im hi3 hiw (e _ _ (by omega)) (fun a i z1 z2 => e a i (by omega)))
      ⟨c2, b2⟩ (CtC.eq ct (fun i => e _ i (by omega))) (rr.eq (fun i => e _ i (by omega))), Fc.kp kk (fun a i z => by omega), rfl⟩
  · have s2 := s1.kp k2
    simp +decide (disch := omega) only [↓wm1, wb105_36 hc, wb105_39 hc, wb105_46 hc, w0, w1, w60, rI_wI, rP_wI, rL_wI, rI_wR, rP_wR, is_wI, is_wR, ia_wI, ia_wR, ow_wI, ow_wR, wn_add, wn_mul, wn_cl, wn_le, wn_lt, wn_inj, wn_ne1, wn_1ne, wn_gt1, wn_le1, nb0, nb1, am_kt, am_rt, List.cons_append, List.nil_append, true_and, and_true, not_true_eq_false, not_false_eq_true, imp_f, imp_t, implies_true, Nat.zero_add, if_true, if_false, false_and, and_false, cn105, fC s2, ct67 s2 f2]
    rw [← hP]
    have hs : s_bn V n = s_bad V w := by unfold s_bn; rw [e2]
    have hq2 : q_bn V n = wn k - wn 10 := by unfold q_bn; rw [e2]
    rw [hs, hq2]
    exact OC_bad hR hT p1 p3 ((k1.mono (fun a i z => by unfold T1 at z; unfold SP; omega)).trans (k2.mono (fun a i z => by unfold K8 at z; unfold SP QSC; omega))) f2
def s_book (V : Vt) (x : Int32) : Vt := if vin2 x 0 (min (vm V) 60 + 1) then s_bn V x.toNatClampNeg else cnt8 V
def q_book (V : Vt) (x : Int32) : Res := if vin2 x 0 (min (vm V) 60 + 1) then .inl (q_bn V x.toNatClampNeg) else .inr 1
theorem cl_book (hR : RepC G V) (hB : am_rm G 1 6) (x : Int32) : am_C am_T (d + 12) 105 [.ref 0, .int x] G (OC G (s_book V x) (q_book V x)) := by
  have hm6 := hR.parts.2.1.2.1
  unfold s_book q_book
  rcases vin2_or x 0 (min (vm V) 60 + 1) (by decide) (by omega) with ⟨b, -, hb, rfl⟩ | hx
  · rw [vin2_t (lo := 0) (Nat.zero_le b) hb (by omega), if_pos rfl, if_pos rfl, wn_cl (by omega)]
    exact cl_bn hR (by omega) (by omega)
  · rw [vin2_f hx, if_neg (by decide), if_neg (by decide)]
    have hc := am_C_one am_T (d + 11)
    rw [we105]
    generalize hP : OC G _ _ = P
    simp +decide (disch := omega) only [↓wm1, wb105_0 hc, w0, w1, w60, rI_wI, rP_wI, rL_wI, rI_wR, rP_wR, is_wI, is_wR, ia_wI, ia_wR, ow_wI, ow_wR, wn_add, wn_mul, wn_cl, wn_le, wn_lt, wn_inj, wn_ne1, wn_1ne, wn_gt1, wn_le1, nb0, nb1, am_kt, am_rt, List.cons_append, List.nil_append, true_and, and_true, not_true_eq_false, not_false_eq_true, imp_f, imp_t, implies_true, Nat.zero_add, if_true, if_false, false_and, and_false, cn105, fC hR.1, ct144n (M := 60) hx hR.1 hB hR.parts.2.2.1.2.1 hm6 (by decide)]
    rw [← hP]
    exact OC_8 hR hB
/-! the reference -/
theorem bor7 : ∀ m, m < 128 → ∀ u, u < 7 → wn m ||| wn (2 ^ u) = wn (m ||| 2 ^ u) ∧ m ||| 2 ^ u < 128 := by decide +kernel
theorem bor7b : ∀ m, m < 128 → ∀ u, u < 7 → ∀ h, h < 7 → bt (m ||| 2 ^ u) h = if h = u then 1 else bt m h := by decide +kernel
theorem rf_bn {n : Nat} (hR : RepR G V) (hn : n ≤ vm V) (hn2 : n ≤ 60) : am_C am_T (d + 12) 191 [.ref 334, .int (wn n)] G (OR G (s_bn V n) 1 (.inl (q_bn V n))) := by
  have hc := am_C_one am_T (d + 11)
  obtain ⟨hsh, hv, tp, tm, di, im, bk, ct⟩ := hR.parts
  have hw := hv.2.2.2.2.2.2.1
  have hi3 := hv.2.2.2.2.2.2.2.2.1
  have hm6 := hv.2.1
  have h7 := hv.2.2.2.1.2.1
  have n6 : n ≤ 600 := by omega
  have hvin := vin2_t (lo := 0) (Nat.zero_le n) (show n < vm V + 1 by omega) (by omega)
  have k0 := k0R G
  have s0 := hsh.kp k0
  have e0 := e0R G
  have t1 : am_gI (am_wI G 334 0 (wn 0)) 334 1 = wn (vm V) := by rw [rI_wI, if_neg (by decide)]; exact tp.2.1
  rw [we191]
  generalize hP : OR G _ _ _ = P
  rw [wb191_0 hc]
  generalize hG0 : am_wI G 334 0 (wn 0) = G0 at *
  have i0 : am_is G 334 12 := (fM hsh).1
  simp +decide (disch := omega) only [↓wm1, wb191_15 hc, wb191_18 hc, wb191_28 hc, wb191_29 hc, wb191_34 hc, wb191_39 hc, w0, w1, w2, w59, w60, w99, rI_wI, rP_wI, rL_wI, rI_wR, rP_wR, is_wI, is_wR, ia_wI, ia_wR, ow_wI, ow_wR, wn_add, wn_mul, wn_cl, wn_le, wn_lt, wn_inj, wn_ne1, wn_1ne, wn_gt1, wn_le1, nb0, nb1, am_kt, am_rt, List.cons_append, List.nil_append, true_and, and_true, not_true_eq_false, not_false_eq_true, imp_f, imp_t, implies_true, Nat.zero_add, if_true, if_false, false_and, and_false, hG0, i0, fM s0, t1, ct153c, hvin, b01, hn2, ct152n s0 e0]
  refine ct171 s0 (t := vt V) (tp.1.kp k0 (by intro i z; unfold QSR at z; omega)) n6 (fun G1 r1 e41 e71 e61 k1 => ?_)
  have s1 := s0.kp k1
  have kk1 : Kp SPR G G1 := (k0.mono (fun a i z => show SPR a i from Or.inl z)).trans (k1.mono (fun a i z => by unfold SPR QSR; omega))
  have z01 : am_gI G1 334 0 = wn 0 := by rw [k1.i (by omega)]; exact e0
  generalize hX : pbk (vt V) n (dH (vδ V)) 8 (skb (vt V) n 0) [] = X
  have fin3 : ∀ (k w : Nat) (G5 : am_G) (x2 x3 x5 x6 : Int32), X = .inl (k, w) → fQ G5 (vt V) n k w → Kp SPR G G5 → am_gI G5 334 0 = wn 0 → am_W (am_C am_T (d + 11)) am_191 P 125 [some (.ref 334), none, some (.int x2), some (.int x3), none, some (.int x5), some (.int x6)] [] G5 := by
    intro k w G5 x2 x3 x5 x6 e5 f5 k5 z5
    have s5 := hsh.kp k5
    have y5 := f5.2.2.2.2.2.2.1
    have c0 : ¬ k = 0 := by have := f5.2.2.2.2.2.1; omega
    have c3 : k < 2147483648 := by have := f5.2.2.2.2.2.1; omega
    simp +decide (disch := omega) only [↓wm1, wb191_125 hc, wb191_162 hc, w0, w1, w2, w59, w60, w99, rI_wI, rP_wI, rL_wI, rI_wR, rP_wR, is_wI, is_wR, ia_wI, ia_wR, ow_wI, ow_wR, wn_add, wn_mul, wn_cl, wn_le, wn_lt, wn_inj, wn_ne1, wn_1ne, wn_gt1, wn_le1, nb0, nb1, am_kt, am_rt, List.cons_append, List.nil_append, true_and, and_true, not_true_eq_false, not_false_eq_true, imp_f, imp_t, implies_true, Nat.zero_add, if_true, if_false, false_and, and_false, fM s5, y5, c0]
    refine ct159f s5 f5 (fun G6 f6 k6 => ?_)
    have s6 := s5.kp k6
    have y6 := f6.2.2.2.2.2.2.1
    simp +decide (disch := omega) only [↓wm1, wb191_166 hc, w0, w1, w2, w59, w60, w99, rI_wI, rP_wI, rL_wI, rI_wR, rP_wR, is_wI, is_wR, ia_wI, ia_wR, ow_wI, ow_wR, wn_add, wn_mul, wn_cl, wn_le, wn_lt, wn_inj, wn_ne1, wn_1ne, wn_gt1, wn_le1, nb0, nb1, am_kt, am_rt, List.cons_append, List.nil_append, true_and, and_true, not_true_eq_false, not_false_eq_true, imp_f, imp_t, implies_true, Nat.zero_add, if_true, if_false, false_and, and_false]
    rw [wb191_48 hc]
    simp +decide (disch := omega) only [↓wm1, wb191_169 hc, wb191_176 hc, wb191_180 hc, w0, w1, w2, w59, w60, w99, rI_wI, rP_wI, rL_wI, rI_wR, rP_wR, is_wI, is_wR, ia_wI, ia_wR, ow_wI, ow_wR, wn_add, wn_mul, wn_cl, wn_le, wn_lt, wn_inj, wn_ne1, wn_1ne, wn_gt1, wn_le1, nb0, nb1, am_kt, am_rt, List.cons_append, List.nil_append, true_and, and_true, not_true_eq_false, not_false_eq_true, imp_f, imp_t, implies_true, Nat.zero_add, if_true, if_false, false_and, and_false, fM s6, y6, c0, ct172 s6 f6]
    rw [← hP]
    have hs : s_bn V n = s_bad V w := by unfold s_bn; rw [hX, e5]
    have hq2 : q_bn V n = wn k - wn 10 := by unfold q_bn; rw [hX, e5]
    rw [hs, hq2]
    have k7 := k5.trans (k6.mono (fun a i z => show SPR a i by unfold Q4 at z; unfold SPR QSR; omega))
    refine OR_bad hR (k7.wI (Or.inr ⟨rfl, Or.inr rfl⟩) _) ?_ ?_ ?_
    · rw [rI_wI, if_neg (by decide), k6.i (by unfold Q4; omega)]; exact z5
    · rw [rI_wI, if_neg (by decide)]; exact f6.2.2.1
    · rw [rI_wI, if_pos ⟨rfl, rfl⟩]
  have fin2 : ∀ (k w : Nat) (G5 : am_G) (x2 x3 x5 x6 : Int32), X = .inl (k, w) → fQ G5 (vt V) n k w → Kp SPR G G5 → am_gI G5 334 0 = wn 0 → am_W (am_C am_T (d + 11)) am_191 P 117 [some (.ref 334), none, some (.int x2), some (.int x3), none, some (.int x5), none] [.int x6] G5 := by
    intro k w G5 x2 x3 x5 x6 e5 f5 k5 z5
    have s5 := hsh.kp k5
    have := fin3 k w G5 x2 x3 x5 x6 e5 f5 k5 z5
    simp +decide (disch := omega) only [↓wm1, wb191_117 hc, w0, w1, w2, w59, w60, w99, rI_wI, rP_wI, rL_wI, rI_wR, rP_wR, is_wI, is_wR, ia_wI, ia_wR, ow_wI, ow_wR, wn_add, wn_mul, wn_cl, wn_le, wn_lt, wn_inj, wn_ne1, wn_1ne, wn_gt1, wn_le1, nb0, nb1, am_kt, am_rt, List.cons_append, List.nil_append, true_and, and_true, not_true_eq_false, not_false_eq_true, imp_f, imp_t, implies_true, Nat.zero_add, if_true, if_false, false_and, and_false, fM s5, ct169f s5 f5]
    exact this
  have fin1 : ∀ (k w : Nat) (G5 : am_G) (x2 x3 x5 : Int32) (o4 : Option Value), X = .inl (k, w) → fQ G5 (vt V) n k w → Kp SPR G G5 → am_gI G5 334 0 = wn 0 → am_W (am_C am_T (d + 11)) am_191 P 110 [some (.ref 334), none, some (.int x2), some (.int x3), o4, some (.int x5), none] [] G5 := by
    intro k w G5 x2 x3 x5 o4 e5 f5 k5 z5
    have s5 := hsh.kp k5
    have := fin2 k w G5 x2 x3 x5 (wn 0) e5 f5 k5 z5
    simp +decide (disch := omega) only [↓wm1, wb191_110 hc, w0, w1, w2, w59, w60, w99, rI_wI, rP_wI, rL_wI, rI_wR, rP_wR, is_wI, is_wR, ia_wI, ia_wR, ow_wI, ow_wR, wn_add, wn_mul, wn_cl, wn_le, wn_lt, wn_inj, wn_ne1, wn_1ne, wn_gt1, wn_le1, nb0, nb1, am_kt, am_rt, List.cons_append, List.nil_append, true_and, and_true, not_true_eq_false, not_false_eq_true, imp_f, imp_t, implies_true, Nat.zero_add, if_true, if_false, false_and, and_false, fM s5, ct163f s5 f5]
    exact this
  have key : ∀ (f p : Nat) (acc : List (Nat × Nat)) (G1 : am_G) (m : Nat), f + acc.length = 8 → okB (dH (vδ V)) acc → rQ G1 (vt V) n p 0 → am_gI G1 334 4 = wn p → m < 128 → (∀ h, h < 7 → bt m h = b01 ((acc.map Prod.fst).contains h)) → (∀ i x, acc[i]? = some x → am_gI G1 (718 + i) 0 = wn x.1 ∧ am_gI G1 (718 + i) 1 = wn x.2) → Kp SPR G G1 → am_gI G1 334 0 = wn 0 → X = pbk (vt V) n (dH (vδ V)) f p acc →
      am_W (am_C am_T (d + 11)) am_191 P 48 [some (.ref 334), none, some (.int (wn acc.length)), some (.int (wn m)), none, none, none] [] G1 := by
    intro f
    induction f with
    | zero =>
      intro p acc G1 m hf ok
      have := ok.len
      omega
    | succ f ih =>
      intro p acc G1 m hf ok r1 e4 hm hbt hrow k1 z0 he
      have s1 := hsh.kp k1
      have hl := ok.len
      have hpn := r1.2.2.1
      have y2 := r1.2.2.2.2.2.2.1
      have y5 := r1.2.2.2.2.2.2.2.2.1
      have d1 : am_gI G1 338 1 = wn (dH (vδ V)) := by rw [k1.i (by unfold SPR QSR; omega)]; exact tm.1.2.1
      unfold pbk at he
      rw [wb191_48 hc]
      by_cases cn : n ≤ p
      · rw [if_pos cn] at he
        have k2 : Kp (fun a i => a = 334 ∧ (i = 3 ∨ i = 33)) G1 (am_wI (am_wI G1 334 3 mm) 334 33 (wn acc.length)) := ((Kp.refl G1).wI ⟨rfl, Or.inl rfl⟩ _).wI ⟨rfl, Or.inr rfl⟩ _
        have s2 := s1.kp k2
        simp +decide (disch := omega) only [↓wm1, wb191_55 hc, wb191_169 hc, wb191_181 hc, w0, w1, w2, w59, w60, w99, rI_wI, rP_wI, rL_wI, rI_wR, rP_wR, is_wI, is_wR, ia_wI, ia_wR, ow_wI, ow_wR, wn_add, wn_mul, wn_cl, wn_le, wn_lt, wn_inj, wn_ne1, wn_1ne, wn_gt1, wn_le1, nb0, nb1, am_kt, am_rt, List.cons_append, List.nil_append, true_and, and_true, not_true_eq_false, not_false_eq_true, imp_f, imp_t, implies_true, Nat.zero_add, if_true, if_false, false_and, and_false, fM s1, y5, y2, e4, cn]
        refine ct177 (A := 717) (B := 709) (N := 7) (L := 2) s2 kr717 kr709 (by decide) (by decide) (by decide) (by decide) (by omega) (by decide) (fun G3 g3 k3 => ?_)
        have s3 := s2.kp k3
        simp +decide (disch := omega) only [↓wm1, wb191_203 hc, w0, w1, w2, w59, w60, w99, rI_wI, rP_wI, rL_wI, rI_wR, rP_wR, is_wI, is_wR, ia_wI, ia_wR, ow_wI, ow_wR, wn_add, wn_mul, wn_cl, wn_le, wn_lt, wn_inj, wn_ne1, wn_1ne, wn_gt1, wn_le1, nb0, nb1, am_kt, am_rt, List.cons_append, List.nil_append, true_and, and_true, not_true_eq_false, not_false_eq_true, imp_f, imp_t, implies_true, Nat.zero_add, if_true, if_false, false_and, and_false]
        rw [← hP]
        have hs : s_bn V n = s_bnew V acc := by unfold s_bn; rw [hX, he]
        have hq2 : q_bn V n = wn acc.length := by unfold q_bn; rw [hX, he]
        rw [hs, hq2]
        have kk3 : Kp (fun a i => SPR a i ∨ (a = 334 ∧ i = 33) ∨ (710 ≤ a ∧ a < 717)) G G3 := ((k1.mono (fun a i z => Or.inl z)).trans (k2.mono (fun a i z => by unfold SPR; omega))).trans (k3.mono (fun a i z => by omega))
        have e : ∀ a i, ¬ (SPR a i ∨ (a = 334 ∧ i = 33) ∨ (710 ≤ a ∧ a < 717)) → am_gI G3 a i = am_gI G a i := fun a i z => kk3.i z
        have e9 : ∀ i, i ≠ 3 → i ≠ 33 → am_gI G3 334 i = am_gI G1 334 i := fun i h1 h2 => by rw [k3.i (by omega), k2.i (by omega)]
        refine ⟨RepR.mk s3 (vV_bnew hv ok) ⟨⟨hv.1, fun i hi => by rw [e _ _ (by unfold SPR QSR; omega)]; exact tp.1.2 i hi⟩, ?_, ?_⟩ (tm.eq2 (fun a i z => e a i (by unfold SPR QSR; omega))) (DiR.eq di hw (fun a i z => e a i (by unfold SPR QSR; omega))) (ImR.eq im hi3 (fun a i z => e a i (by unfold SPR QSR; omega)))
          ⟨?_, fun i x hx => ?_⟩ (CtR.eq ct (fun a i z => e a i (by unfold SPR QSR; omega))), kk3.mono (fun a i z => ?_), rfl, ?_⟩
        · rw [e9 1 (by decide) (by decide)]; exact r1.2.2.2.2.2.1
        · rw [k3.i (by omega), rI_wI, if_neg (by decide), rI_wI, if_pos ⟨rfl, rfl⟩]; rfl
        · rw [k3.i (by omega), rI_wI, if_pos ⟨rfl, rfl⟩]; rfl
        · have hi : i < acc.length := (List.getElem?_eq_some_iff.mp hx).1
          have a0 := g3 i 0 hi (by decide)
          have a1 := g3 i 1 hi (by decide)
          have a2 := hrow i x hx
          refine ⟨?_, ?_⟩
          · refine a0.trans ?_
            rw [k2.i (by omega)]; exact a2.1
          · refine a1.trans ?_
            rw [k2.i (by omega)]; exact a2.2
        · unfold SPR QSR at z; unfold RS; omega
        · rw [e9 0 (by decide) (by decide)]; exact z0
      · rw [if_neg cn] at he
        simp +decide (disch := omega) only [↓wm1, wb191_55 hc, wb191_66 hc, w0, w1, w2, w59, w60, w99, rI_wI, rP_wI, rL_wI, rI_wR, rP_wR, is_wI, is_wR, ia_wI, ia_wR, ow_wI, ow_wR, wn_add, wn_mul, wn_cl, wn_le, wn_lt, wn_inj, wn_ne1, wn_1ne, wn_gt1, wn_le1, nb0, nb1, am_kt, am_rt, List.cons_append, List.nil_append, true_and, and_true, not_true_eq_false, not_false_eq_true, imp_f, imp_t, implies_true, Nat.zero_add, if_true, if_false, false_and, and_false, fM s1, y5, y2, e4, cn, ia338 s1, d1]
        refine ct163 (lo := 0) (hi := dH (vδ V)) s1 r1 rfl (by decide) (by omega) (fun u p2 G2 e2 r2 k2 => ?_) (fun k G2 e2 f2 k2 => ?_)
        · have s2 := s1.kp k2
          obtain ⟨-, -, x3, x4, x5, x6⟩ := pnum_in hpn e2
          simp only [e2, pb] at he
          have hu : u < 7 := by omega
          have kk2 : Kp SPR G G2 := k1.trans (k2.mono (fun a i z => by unfold QS at z; unfold SPR QSR; omega))
          have z2 : am_gI G2 334 0 = wn 0 := by rw [k2.i (by unfold QS; omega)]; exact z0
          have q5 := r2.2.2.2.2.2.2.2.2.1
          have bu := hbt u hu
          by_cases cm : (acc.map Prod.fst).contains u = true
          · rw [if_pos cm] at he
            rw [cm] at bu
            have := fin1 2 p (am_wI (am_wI G2 334 5 (wn 2)) 334 6 (wn p)) (wn acc.length) (wn m) (wn u) (some (.int (wn p))) he (fQ_of r2 (by decide)) (kk2.trans ((kp_q G2 2 p).mono (fun a i z => by unfold QS at z; unfold SPR QSR; omega))) (by rw [(kp_q G2 2 p).i (by unfold QS; omega)]; exact z2)
            simp +decide (disch := omega) only [↓wm1, wb191_85 hc, wb191_94 hc, wb191_100 hc, wb191_103 hc, w0, w1, w2, w59, w60, w99, rI_wI, rP_wI, rL_wI, rI_wR, rP_wR, is_wI, is_wR, ia_wI, ia_wR, ow_wI, ow_wR, wn_add, wn_mul, wn_cl, wn_le, wn_lt, wn_inj, wn_ne1, wn_1ne, wn_gt1, wn_le1, nb0, nb1, am_kt, am_rt, List.cons_append, List.nil_append, true_and, and_true, not_true_eq_false, not_false_eq_true, imp_f, imp_t, implies_true, Nat.zero_add, if_true, if_false, false_and, and_false, fM s2, q5, ct156 (show m < 256 by omega) (show u < 8 by omega), bu, b01, ct160 s2 q5]
            exact this
          · rw [if_neg cm] at he
            rw [Bool.not_eq_true] at cm
            rw [cm] at bu
            simp +decide (disch := omega) only [↓wm1, wb191_85 hc, wb191_94 hc, wb191_100 hc, wb191_110 hc, w0, w1, w2, w59, w60, w99, rI_wI, rP_wI, rL_wI, rI_wR, rP_wR, is_wI, is_wR, ia_wI, ia_wR, ow_wI, ow_wR, wn_add, wn_mul, wn_cl, wn_le, wn_lt, wn_inj, wn_ne1, wn_1ne, wn_gt1, wn_le1, nb0, nb1, am_kt, am_rt, List.cons_append, List.nil_append, true_and, and_true, not_true_eq_false, not_false_eq_true, imp_f, imp_t, implies_true, Nat.zero_add, if_true, if_false, false_and, and_false, fM s2, q5, ct156 (show m < 256 by omega) (show u < 8 by omega), bu, b01, Bool.false_eq_true]
            refine ct163 (lo := 0) (hi := 100) s2 r2 rfl (by decide) (by decide) (fun v p3 G3 e3 r3 k3 => ?_) (fun k G3 e3 f3 k3 => ?_)
            · have s3 := s2.kp k3
              obtain ⟨-, -, y3, y4, y5, y6⟩ := pnum_in x5 e3
              simp only [e3] at he
              have kk3 : Kp SPR G G3 := kk2.trans (k3.mono (fun a i z => by unfold QS at z; unfold SPR QSR; omega))
              have z3 : am_gI G3 334 0 = wn 0 := by rw [k3.i (by unfold QS; omega)]; exact z2
              simp +decide (disch := omega) only [↓wm1, wb191_117 hc, w0, w1, w2, w59, w60, w99, rI_wI, rP_wI, rL_wI, rI_wR, rP_wR, is_wI, is_wR, ia_wI, ia_wR, ow_wI, ow_wR, wn_add, wn_mul, wn_cl, wn_le, wn_lt, wn_inj, wn_ne1, wn_1ne, wn_gt1, wn_le1, nb0, nb1, am_kt, am_rt, List.cons_append, List.nil_append, true_and, and_true, not_true_eq_false, not_false_eq_true, imp_f, imp_t, implies_true, Nat.zero_add, if_true, if_false, false_and, and_false, fM s3]
              refine ct169 s3 r3 (by decide) (fun q4 G4 e4 r4 k4 => ?_) (fun G4 e4 f4 k4 => ?_)
              · have s4 := s3.kp k4
                simp only [e4] at he
                have kk4 : Kp SPR G G4 := kk3.trans (k4.mono (fun a i z => by unfold QS at z; unfold SPR QSR; omega))
                have z4 : am_gI G4 334 0 = wn 0 := by rw [k4.i (by unfold QS; omega)]; exact z3
                have z5x := r4.2.2.2.2.2.2.2.2.1
                have a7 : acc.length < 7 := by
                  have := (ok.add x3 y3 (show ¬ (acc.map Prod.fst).contains u = true by rw [cm]; decide)).len
                  rw [List.length_append, List.length_singleton] at this
                  omega
                have b1 := bs1 u (by omega)
                have b2 := bor7 m hm u hu
                have n1 : ¬ 718 + acc.length = 334 := by omega
                simp +decide (disch := omega) only [↓wm1, wb191_125 hc, wb191_132 hc, wb191_162 hc, w0, w1, w2, w59, w60, w99, rI_wI, rP_wI, rL_wI, rI_wR, rP_wR, is_wI, is_wR, ia_wI, ia_wR, ow_wI, ow_wR, wn_add, wn_mul, wn_cl, wn_le, wn_lt, wn_inj, wn_ne1, wn_1ne, wn_gt1, wn_le1, nb0, nb1, am_kt, am_rt, List.cons_append, List.nil_append, true_and, and_true, not_true_eq_false, not_false_eq_true, imp_f, imp_t, implies_true, Nat.zero_add, if_true, if_false, false_and, and_false, fM s4, z5x, fr717 s4, a7, b1, b2.1, ra_wI]
                generalize hG5 : am_wI (am_wI G4 (718 + acc.length) 0 (wn u)) (718 + acc.length) 1 (wn v) = G5
                have k5 : Kp (fun a i => a = 718 + acc.length) G4 G5 := by rw [← hG5]; exact ((Kp.refl G4).wI (by exact rfl) _).wI (by exact rfl) _
                have s5 := s4.kp k5
                have r5 : rQ G5 (vt V) n q4 0 := r4.kp k5 (fun a i z => by omega)
                refine ct159r s5 r5 (fun G6 r6 e6 k6 => ?_)
                simp +decide (disch := omega) only [↓wm1, wb191_166 hc, w0, w1, w2, w59, w60, w99, rI_wI, rP_wI, rL_wI, rI_wR, rP_wR, is_wI, is_wR, ia_wI, ia_wR, ow_wI, ow_wR, wn_add, wn_mul, wn_cl, wn_le, wn_lt, wn_inj, wn_ne1, wn_1ne, wn_gt1, wn_le1, nb0, nb1, am_kt, am_rt, List.cons_append, List.nil_append, true_and, and_true, not_true_eq_false, not_false_eq_true, imp_f, imp_t, implies_true, Nat.zero_add, if_true, if_false, false_and, and_false]
                have k46 : Kp (fun a i => a = 718 + acc.length ∨ (a = 334 ∧ i = 4)) G4 G6 := (k5.mono (fun a i z => Or.inl z)).trans (k6.mono (fun a i z => Or.inr z))
                have k12 : Kp (fun a i => a = 718 + acc.length ∨ (a = 334 ∧ 4 ≤ i ∧ i ≤ 6)) G1 G2 := k2.mono (fun a i z => Or.inr z)
                have k23 : Kp (fun a i => a = 718 + acc.length ∨ (a = 334 ∧ 4 ≤ i ∧ i ≤ 6)) G2 G3 := k3.mono (fun a i z => Or.inr z)
                have k34 : Kp (fun a i => a = 718 + acc.length ∨ (a = 334 ∧ 4 ≤ i ∧ i ≤ 6)) G3 G4 := k4.mono (fun a i z => Or.inr z)
                have k46' : Kp (fun a i => a = 718 + acc.length ∨ (a = 334 ∧ 4 ≤ i ∧ i ≤ 6)) G4 G6 := k46.mono (fun a i z => by omega)
                have k16 := ((k12.trans k23).trans k34).trans k46'
                have := ih q4 (acc ++ [(u, v)]) G6 (m ||| 2 ^ u) (by rw [List.length_append, List.length_singleton]; omega) (ok.add x3 y3 (by rw [cm]; decide)) r6 e6 b2.2 (fun h hh => ?_) (fun i x hx => ?_) (kk4.trans (k46.mono (fun a i z => by unfold SPR QSR; omega))) (by rw [k46.i (by omega)]; exact z4) he
                · rw [List.length_append, List.length_singleton] at this
                  exact this
                · rw [bor7b m hm u hu h hh, List.map_append, List.contains_append]
                  by_cases e : h = u
                  · rw [if_pos e, e]; simp [b01]
                  · rw [if_neg e, hbt h hh]; simp [e]
                · rw [List.getElem?_append] at hx
                  by_cases c : i < acc.length
                  · rw [if_pos c] at hx
                    rw [k16.i (by omega), k16.i (by omega)]
                    exact hrow i x hx
                  · rw [if_neg c] at hx
                    have hi : i - acc.length < 1 := by
                      have := (List.getElem?_eq_some_iff.mp hx).1
                      simpa using this
                    have hi2 : i = acc.length := by omega
                    rw [hi2, Nat.sub_self] at hx
                    simp at hx
                    rw [← hx, hi2, k6.i (by unfold Q4; omega), k6.i (by unfold Q4; omega), ← hG5]
                    refine ⟨?_, ?_⟩
                    · rw [rI_wI, if_neg (by omega), rI_wI, if_pos ⟨rfl, rfl⟩]
                    · rw [rI_wI, if_pos ⟨rfl, rfl⟩]
              · simp only [e4] at he
                exact fin3 _ _ G4 _ _ _ _ he f4 (kk3.trans (k4.mono (fun a i z => by unfold QS at z; unfold SPR QSR; omega))) (by rw [k4.i (by unfold QS; omega)]; exact z3)
            · simp only [e3] at he
              exact fin2 _ _ G3 _ _ _ _ he f3 (kk2.trans (k3.mono (fun a i z => by unfold QS at z; unfold SPR QSR; omega))) (by rw [k3.i (by unfold QS; omega)]; exact z2)
        · simp only [e2, pb] at he
          have s2 := s1.kp k2
          have y5 := f2.2.2.2.2.2.2.1
          have c0 : ¬ k = 0 := by have := f2.2.2.2.2.2.1; omega
          have c3 : k < 2147483648 := by have := f2.2.2.2.2.2.1; omega
          have := fin1 k p G2 (wn acc.length) (wn m) (wn 0) (some (.int (wn p))) he f2 (k1.trans (k2.mono (fun a i z => by unfold QS at z; unfold SPR QSR; omega))) (by rw [k2.i (by unfold QS; omega)]; exact z0)
          simp +decide (disch := omega) only [↓wm1, wb191_85 hc, w0, w1, w2, w59, w60, w99, rI_wI, rP_wI, rL_wI, rI_wR, rP_wR, is_wI, is_wR, ia_wI, ia_wR, ow_wI, ow_wR, wn_add, wn_mul, wn_cl, wn_le, wn_lt, wn_inj, wn_ne1, wn_1ne, wn_gt1, wn_le1, nb0, nb1, am_kt, am_rt, List.cons_append, List.nil_append, true_and, and_true, not_true_eq_false, not_false_eq_true, imp_f, imp_t, implies_true, Nat.zero_add, if_true, if_false, false_and, and_false, fM s2, y5, c0]
          exact this
  simp +decide (disch := omega) only [↓wm1, wb191_44 hc, w0, w1, w2, w59, w60, w99, rI_wI, rP_wI, rL_wI, rI_wR, rP_wR, is_wI, is_wR, ia_wI, ia_wR, ow_wI, ow_wR, wn_add, wn_mul, wn_cl, wn_le, wn_lt, wn_inj, wn_ne1, wn_1ne, wn_gt1, wn_le1, nb0, nb1, am_kt, am_rt, List.cons_append, List.nil_append, true_and, and_true, not_true_eq_false, not_false_eq_true, imp_f, imp_t, implies_true, Nat.zero_add, if_true, if_false, false_and, and_false]
  exact key 8 (skb (vt V) n 0) [] G1 0 rfl (okB.nil _) r1 e41 (by decide) (fun h hh => by simp [bt, b01]) (fun i x hx => by simp at hx) kk1 z01 hX.symm
theorem rf_book (hR : RepR G V) (x : Int32) : am_C am_T (d + 12) 191 [.ref 334, .int x] G (OR G (s_book V x) 1 (q_book V x)) := by
  have hm6 := hR.parts.2.1.2.1
  unfold s_book q_book
  rcases vin2_or x 0 (min (vm V) 60 + 1) (by decide) (by omega) with ⟨b, -, hb, rfl⟩ | hx
  · rw [vin2_t (lo := 0) (Nat.zero_le b) hb (by omega), if_pos rfl, if_pos rfl, wn_cl (by omega)]
    exact rf_bn hR (by omega) (by omega)
  · rw [vin2_f hx, if_neg (by decide), if_neg (by decide)]
    have hc := am_C_one am_T (d + 11)
    have t1 : am_gI (am_wI G 334 0 (wn 0)) 334 1 = wn (vm V) := by rw [rI_wI, if_neg (by decide)]; exact hR.parts.2.2.1.2.1
    have s0 := hR.1.kp (k0R G)
    rw [we191]
    generalize hP : OR G _ _ _ = P
    rcases vin2_or x 0 (vm V + 1) (by decide) (by omega) with ⟨b, -, hb, rfl⟩ | hx2
    · have hv := vin2_t (lo := 0) (Nat.zero_le b) hb (by omega)
      have hb2 : ¬ b ≤ 60 := by
        intro z
        rcases hx with y | y
        · rw [wn_lt (by omega) (by decide)] at y; omega
        · rw [wn_lt (by omega) (by omega)] at y; omega
      simp +decide (disch := omega) only [↓wm1, wb191_0 hc, wb191_15 hc, wb191_18 hc, wb191_24 hc, wb191_29 hc, wb191_34 hc, wb191_37 hc, w0, w1, w2, w59, w60, w99, rI_wI, rP_wI, rL_wI, rI_wR, rP_wR, is_wI, is_wR, ia_wI, ia_wR, ow_wI, ow_wR, wn_add, wn_mul, wn_cl, wn_le, wn_lt, wn_inj, wn_ne1, wn_1ne, wn_gt1, wn_le1, nb0, nb1, am_kt, am_rt, List.cons_append, List.nil_append, true_and, and_true, not_true_eq_false, not_false_eq_true, imp_f, imp_t, implies_true, Nat.zero_add, if_true, if_false, false_and, and_false, fM hR.1, t1, hR.parts.2.2.1.2.1, ct153c, hv, b01, hb2, ct152y (c := 1) (r := 1) (by decide) (by decide) (by decide) s0 (e0R G)]
      rw [← hP]
      exact OR_8 hR (k0R G)
    · have hv := vin2_f hx2
      simp +decide (disch := omega) only [↓wm1, wb191_0 hc, wb191_15 hc, wb191_24 hc, wb191_29 hc, wb191_34 hc, wb191_37 hc, w0, w1, w2, w59, w60, w99, rI_wI, rP_wI, rL_wI, rI_wR, rP_wR, is_wI, is_wR, ia_wI, ia_wR, ow_wI, ow_wR, wn_add, wn_mul, wn_cl, wn_le, wn_lt, wn_inj, wn_ne1, wn_1ne, wn_gt1, wn_le1, nb0, nb1, am_kt, am_rt, List.cons_append, List.nil_append, true_and, and_true, not_true_eq_false, not_false_eq_true, imp_f, imp_t, implies_true, Nat.zero_add, if_true, if_false, false_and, and_false, fM hR.1, t1, hR.parts.2.2.1.2.1, ct153c, hv, b01, Bool.false_eq_true, ct152y (c := 1) (r := 1) (by decide) (by decide) (by decide) s0 (e0R G)]
      rw [← hP]
      exact OR_8 hR (k0R G)
end
