/-! The law's cases (gen97q.py). -/
/-- between two calls: the c-th of a script of L ints comes next -/
def Jn (L c : Nat) (G : am_G) (V : Vt) : Prop := RepC G V ∧ RepR G V ∧ Cs G ∧ am_sl G = L ∧ (am_K G).length ≤ 839 + c ∧ am_us G ≤ 21208 + 6 * c
def Hf (L c : Nat) (G G1 : am_G) : Prop := Cs G1 ∧ (∀ i, am_gI G1 100000 i = am_gI G 100000 i) ∧ am_sl G1 = L ∧ (am_K G1).length ≤ 839 + (c + 1) ∧ am_us G1 ≤ 21208 + 6 * (c + 1)
def KN (L c : Nat) (post : am_O → am_G → Prop) : Prop := ∀ V' G', Jn L (c + 1) G' V' → am_W (am_C am_T 99) am_311 post 2517 [some (.ref 100000), some (.ref 0), some (.ref 334), some (.ref 838), some (.int (wn (10 * c))), none, none, none] [] G'
theorem sia {G : am_G} {L c t : Nat} (h : am_sl G = L) (hj : 10 * c + 10 ≤ L) (hL : L ≤ 5120) (ht : t < 10) : am_ia G 100000 (wn (10 * c) + wn t) := by
  rw [wn_add]
  refine Or.inr ⟨Or.inl rfl, ?_⟩
  show vp_in _ (am_sl G)
  rw [h]
  exact wn_in (by omega) (by omega)
section
variable {G G1 G2 : am_G} {L c : Nat} {V V' : Vt} {post : am_O → am_G → Prop}
theorem Jn.ia (J : Jn L c G V) (hj : 10 * c + 10 ≤ L) (hL : L ≤ 5120) {t : Nat} (ht : t < 10) : am_ia G 100000 (wn (10 * c) + wn t) := sia J.2.2.2.1 hj hL ht
theorem Hf.ia (J : Hf L c G G1) (hj : 10 * c + 10 ≤ L) (hL : L ≤ 5120) {t : Nat} (ht : t < 10) : am_ia G1 100000 (wn (10 * c) + wn t) := sia J.2.2.1 hj hL ht
theorem Jn.rm (J : Jn L c G V) (h : c ≤ 511) : am_rm G 1 6 := by
  have h1 := J.2.2.2.2.1
  have h2 := J.2.2.2.2.2
  exact ⟨by omega, by omega⟩
theorem Jn.half (J : Jn L c G V) (h : c ≤ 511) (a : RepC G1 V') (b : Fw G G1) : RepR G1 V ∧ Hf L c G G1 := by
  obtain ⟨j1, j2, j3, j4, j5, j6⟩ := J
  obtain ⟨b1, b2, b3, b4⟩ := b
  obtain ⟨c1, c2, c3, c4, c5, c6⟩ := j3
  have e : ∀ a i, 100000 ≤ a → am_gI G1 a i = am_gI G a i := fun a i z => b4 a i (Or.inr z)
  refine ⟨j2.eq a.1 (fun x i z1 z2 _ => b4 x i (Or.inl ⟨z1, by omega⟩)), ⟨by omega, fun i hi => ?_, fun i hi => ?_, fun i hi => ?_, fun i hi => ?_, fun i hi => ?_⟩, fun i => e _ i (by decide), by rw [b1]; exact j4, by omega, by omega⟩
  · rw [e _ _ (by decide)]; exact c2 i hi
  · rw [e _ _ (by decide)]; exact c3 i hi
  · rw [e _ _ (by decide)]; exact c4 i hi
  · rw [e _ _ (by decide)]; exact c5 i hi
  · rw [e _ _ (by decide)]; exact c6 i hi
theorem Hf.ref (J : Hf L c G G1) (a : RepC G1 V') (r : RepR G2 V') (k : Kp RS G1 G2) : Jn L (c + 1) G2 V' := by
  obtain ⟨⟨c1, c2, c3, c4, c5, c6⟩, j2, j3, j4, j5⟩ := J
  have e : ∀ a i, 100000 ≤ a → am_gI G2 a i = am_gI G1 a i := fun a i z => k.i (by unfold RS; omega)
  refine ⟨a.eq r.1 (fun x i z => k.i (by unfold RS; omega)) (fun i => k.p 3 i), r, ⟨by rw [k.1]; exact c1, fun i hi => ?_, fun i hi => ?_, fun i hi => ?_, fun i hi => ?_, fun i hi => ?_⟩, by rw [k.2.2.1]; exact j3, by rw [k.1]; exact j4, by rw [k.2.1]; exact j5⟩
  · rw [e _ _ (by decide)]; exact c2 i hi
  · rw [e _ _ (by decide)]; exact c3 i hi
  · rw [e _ _ (by decide)]; exact c4 i hi
  · rw [e _ _ (by decide)]; exact c5 i hi
  · rw [e _ _ (by decide)]; exact c6 i hi
theorem OR_e {cd : Nat} {r : Res} {o : am_O} (q : OR G1 V' cd r o G2) : ∃ b, o = .inl (some (.int b)) ∧ RepR G2 V' ∧ Kp RS G1 G2 ∧ am_gI G2 334 0 = wn (ecd cd r) ∧ ∀ v, r = .inl v → b = v := by
  obtain ⟨q1, q2, q3⟩ := q
  rcases r with v | k
  · exact ⟨v, q3.1, q1, q2, q3.2, fun v' h => by cases h; rfl⟩
  · rcases k with _ | k
    · obtain ⟨⟨x, h1⟩, h2⟩ := q3
      exact ⟨x, h1, q1, q2, h2, fun v' h => by cases h⟩
    · obtain ⟨⟨x, h1⟩, h2⟩ := q3
      exact ⟨x, h1, q1, q2, h2, fun v' h => by cases h⟩
theorem lg_self (x : Int64) : lg_cmp x x = 0 := by
  unfold lg_cmp
  rw [if_neg (Int64.lt_irrefl), if_pos rfl]
theorem lg_fin {cd : Nat} {r : Res} {b : Int32} (hcd : cd = 1 ∨ cd = 2) (z : ¬ ¬ wn (ecd cd r) = 0) (g : ∀ v, r = .inl v → am_gL G1 838 0 = v.toInt64) (v2 : ∀ v, r = .inl v → b = v) (k2 : Kp RS G1 G2) : lg_cmp (am_gL G2 838 (Int32.toNatClampNeg 0)) b.toInt64 = 0 := by
  rcases r with v | k
  · show lg_cmp (am_gL G2 838 0) b.toInt64 = 0
    rw [k2.2.2.2.2.2 838 0 (by unfold RS; omega), g v rfl, v2 v rfl]
    exact lg_self _
  · refine absurd ?_ z
    rcases k with _ | k
    · show ¬ wn 1 = 0
      decide
    · rcases hcd with rfl | rfl
      · show ¬ wn 1 = 0
        decide
      · show ¬ wn 2 = 0
        decide
theorem ct151 {d : Nat} (h : Sh G) : am_C am_T (d + 1) 151 [.ref 334] G post ↔ post (.inl (some (.int (am_gI G 334 0)))) G := by
  have hc := am_C_one am_T d
  rw [we151]
  simp +decide (disch := omega) only [↓wm1, wb151_0 hc, w0, w1, rI_wI, rP_wI, rL_wI, rI_wR, rP_wR, is_wI, is_wR, ia_wI, ia_wR, ow_wI, ow_wR, wn_add, wn_mul, wn_cl, wn_le, wn_lt, wn_inj, wn_ne1, wn_1ne, wn_gt1, wn_le1, nb0, nb1, am_kt, am_rt, List.cons_append, List.nil_append, true_and, and_true, not_true_eq_false, not_false_eq_true, imp_f, imp_t, implies_true, Nat.zero_add, if_true, if_false, false_and, and_false, fM h]
theorem lc_dist (J : Jn L c G V) (hj : 10 * c + 10 ≤ L) (hL : L ≤ 5120) (k : KN L c post) : am_W (am_C am_T 99) am_311 post 281 [some (.ref 100000), some (.ref 0), some (.ref 334), some (.ref 838), some (.int (wn (10 * c))), none, none, none] [] G := by
  have hc := am_C_one am_T 99
  have c5 : c ≤ 511 := by omega
  rw [wb311_281 hc]
  refine ⟨J.ia hj hL (t := 1) (by decide), hc.mono (w_dist (d := 86) J.1 (J.rm c5) J.2.2.1 _) (fun o G1 q => ?_)⟩
  obtain ⟨a1, b1, rfl, g1⟩ := q
  obtain ⟨R1, H1⟩ := J.half c5 a1 b1
  show am_W (am_C am_T 99) am_311 post 292 _ [.int _] G1
  rw [wb311_292 hc]
  refine ⟨H1.ia hj hL (t := 1) (by decide), (fM a1.1).1, ?_⟩
  simp only [H1.2.1]
  refine hc.mono (rf_dist (d := 87) R1 _) (fun o G2 q2 => ?_)
  obtain ⟨b, rfl, R2, k2, t2, v2⟩ := OR_e q2
  show am_W (am_C am_T 99) am_311 post 304 _ [.int b] G2
  rw [wb311_304 hc]
  refine ⟨(fM R2.1).1, (ct151 (d := 98) R2.1).mpr ?_⟩
  show am_W (am_C am_T 99) am_311 post 310 _ [.int (am_gI G2 334 0)] G2
  rw [wb311_310 hc, t2]
  refine ⟨fun _ => ?_, fun z => absurd rfl z⟩
  have fin := k _ _ (H1.ref a1 R2 k2)
  rw [wb311_317 hc]
  refine ⟨fun _ => ?_, fun z => ?_⟩
  · rw [wb311_334 hc]; exact fin
  · rw [wb311_322 hc]
    refine ⟨ow838 R2.1, fun _ => ?_, fun z2 => absurd (lg_fin (by decide) z g1 v2 k2) z2⟩
    rw [wb311_334 hc]; exact fin
theorem lc_law (J : Jn L c G V) (hj : 10 * c + 10 ≤ L) (hL : L ≤ 5120) (k : KN L c post) : am_W (am_C am_T 99) am_311 post 337 [some (.ref 100000), some (.ref 0), some (.ref 334), some (.ref 838), some (.int (wn (10 * c))), none, none, none] [] G := by
  have hc := am_C_one am_T 99
  have c5 : c ≤ 511 := by omega
  rw [wb311_337 hc]
  refine ⟨J.ia hj hL (t := 1) (by decide), hc.mono (w_law (d := 58) J.1 (J.rm c5) J.2.2.1 _) (fun o G1 q => ?_)⟩
  obtain ⟨a1, b1, rfl, g1⟩ := q
  obtain ⟨R1, H1⟩ := J.half c5 a1 b1
  show am_W (am_C am_T 99) am_311 post 348 _ [.int _] G1
  rw [wb311_348 hc]
  refine ⟨H1.ia hj hL (t := 1) (by decide), (fM a1.1).1, ?_⟩
  simp only [H1.2.1]
  refine hc.mono (rf_law (d := 59) R1 _) (fun o G2 q2 => ?_)
  obtain ⟨b, rfl, R2, k2, t2, v2⟩ := OR_e q2
  show am_W (am_C am_T 99) am_311 post 360 _ [.int b] G2
  rw [wb311_360 hc]
  refine ⟨(fM R2.1).1, (ct151 (d := 98) R2.1).mpr ?_⟩
  show am_W (am_C am_T 99) am_311 post 366 _ [.int (am_gI G2 334 0)] G2
  rw [wb311_366 hc, t2]
  refine ⟨fun _ => ?_, fun z => absurd rfl z⟩
  have fin := k _ _ (H1.ref a1 R2 k2)
  rw [wb311_373 hc]
  refine ⟨fun _ => ?_, fun z => ?_⟩
  · rw [wb311_390 hc]; exact fin
  · rw [wb311_378 hc]
    refine ⟨ow838 R2.1, fun _ => ?_, fun z2 => absurd (lg_fin (by decide) z g1 v2 k2) z2⟩
    rw [wb311_390 hc]; exact fin
theorem lc_work (J : Jn L c G V) (hj : 10 * c + 10 ≤ L) (hL : L ≤ 5120) (k : KN L c post) : am_W (am_C am_T 99) am_311 post 393 [some (.ref 100000), some (.ref 0), some (.ref 334), some (.ref 838), some (.int (wn (10 * c))), none, none, none] [] G := by
  have hc := am_C_one am_T 99
  have c5 : c ≤ 511 := by omega
  rw [wb311_393 hc]
  refine ⟨J.ia hj hL (t := 1) (by decide), hc.mono (w_work (d := 18) J.1 (J.rm c5) J.2.2.1 _) (fun o G1 q => ?_)⟩
  obtain ⟨a1, b1, rfl, g1⟩ := q
  obtain ⟨R1, H1⟩ := J.half c5 a1 b1
  show am_W (am_C am_T 99) am_311 post 404 _ [.int _] G1
  rw [wb311_404 hc]
  refine ⟨H1.ia hj hL (t := 1) (by decide), (fM a1.1).1, ?_⟩
  simp only [H1.2.1]
  refine hc.mono (rf_work (d := 19) R1 _) (fun o G2 q2 => ?_)
  obtain ⟨b, rfl, R2, k2, t2, v2⟩ := OR_e q2
  show am_W (am_C am_T 99) am_311 post 416 _ [.int b] G2
  rw [wb311_416 hc]
  refine ⟨(fM R2.1).1, (ct151 (d := 98) R2.1).mpr ?_⟩
  show am_W (am_C am_T 99) am_311 post 422 _ [.int (am_gI G2 334 0)] G2
  rw [wb311_422 hc, t2]
  refine ⟨fun _ => ?_, fun z => absurd rfl z⟩
  have fin := k _ _ (H1.ref a1 R2 k2)
  rw [wb311_429 hc]
  refine ⟨fun _ => ?_, fun z => ?_⟩
  · rw [wb311_446 hc]; exact fin
  · rw [wb311_434 hc]
    refine ⟨ow838 R2.1, fun _ => ?_, fun z2 => absurd (lg_fin (by decide) z g1 v2 k2) z2⟩
    rw [wb311_446 hc]; exact fin
theorem lc_book (J : Jn L c G V) (hj : 10 * c + 10 ≤ L) (hL : L ≤ 5120) (k : KN L c post) : am_W (am_C am_T 99) am_311 post 449 [some (.ref 100000), some (.ref 0), some (.ref 334), some (.ref 838), some (.int (wn (10 * c))), none, none, none] [] G := by
  have hc := am_C_one am_T 99
  have c5 : c ≤ 511 := by omega
  rw [wb311_449 hc]
  refine ⟨J.ia hj hL (t := 1) (by decide), hc.mono (w_book (d := 86) J.1 (J.rm c5) _) (fun o G1 q => ?_)⟩
  obtain ⟨a1, b1, rfl, g1⟩ := q
  obtain ⟨R1, H1⟩ := J.half c5 a1 b1
  show am_W (am_C am_T 99) am_311 post 460 _ [.int _] G1
  rw [wb311_460 hc]
  refine ⟨H1.ia hj hL (t := 1) (by decide), (fM a1.1).1, ?_⟩
  simp only [H1.2.1]
  refine hc.mono (rf_book (d := 87) R1 _) (fun o G2 q2 => ?_)
  obtain ⟨b, rfl, R2, k2, t2, v2⟩ := OR_e q2
  show am_W (am_C am_T 99) am_311 post 472 _ [.int b] G2
  rw [wb311_472 hc]
  refine ⟨(fM R2.1).1, (ct151 (d := 98) R2.1).mpr ?_⟩
  show am_W (am_C am_T 99) am_311 post 478 _ [.int (am_gI G2 334 0)] G2
  rw [wb311_478 hc, t2]
  refine ⟨fun _ => ?_, fun z => absurd rfl z⟩
  have fin := k _ _ (H1.ref a1 R2 k2)
  rw [wb311_485 hc]
  refine ⟨fun _ => ?_, fun z => ?_⟩
  · rw [wb311_502 hc]; exact fin
  · rw [wb311_490 hc]
    refine ⟨ow838 R2.1, fun _ => ?_, fun z2 => absurd (lg_fin (by decide) z g1 v2 k2) z2⟩
    rw [wb311_502 hc]; exact fin
theorem lc_told (J : Jn L c G V) (hj : 10 * c + 10 ≤ L) (hL : L ≤ 5120) (k : KN L c post) : am_W (am_C am_T 99) am_311 post 531 [some (.ref 100000), some (.ref 0), some (.ref 334), some (.ref 838), some (.int (wn (10 * c))), none, none, none] [] G := by
  have hc := am_C_one am_T 99
  have c5 : c ≤ 511 := by omega
  rw [wb311_531 hc]
  refine ⟨J.ia hj hL (t := 1) (by decide), hc.mono (w_told (d := 86) J.1 (J.rm c5) _) (fun o G1 q => ?_)⟩
  obtain ⟨a1, b1, rfl, g1⟩ := q
  obtain ⟨R1, H1⟩ := J.half c5 a1 b1
  show am_W (am_C am_T 99) am_311 post 542 _ [.int _] G1
  rw [wb311_542 hc]
  refine ⟨H1.ia hj hL (t := 1) (by decide), (fM a1.1).1, ?_⟩
  simp only [H1.2.1]
  refine hc.mono (rf_told (d := 87) R1 _) (fun o G2 q2 => ?_)
  obtain ⟨b, rfl, R2, k2, t2, v2⟩ := OR_e q2
  show am_W (am_C am_T 99) am_311 post 554 _ [.int b] G2
  rw [wb311_554 hc]
  refine ⟨(fM R2.1).1, (ct151 (d := 98) R2.1).mpr ?_⟩
  show am_W (am_C am_T 99) am_311 post 560 _ [.int (am_gI G2 334 0)] G2
  rw [wb311_560 hc, t2]
  refine ⟨fun _ => ?_, fun z => absurd rfl z⟩
  have fin := k _ _ (H1.ref a1 R2 k2)
  rw [wb311_567 hc]
  refine ⟨fun _ => ?_, fun z => ?_⟩
  · rw [wb311_584 hc]; exact fin
  · rw [wb311_572 hc]
    refine ⟨ow838 R2.1, fun _ => ?_, fun z2 => absurd (lg_fin (by decide) z g1 v2 k2) z2⟩
    rw [wb311_584 hc]; exact fin
theorem lc_bell (J : Jn L c G V) (hj : 10 * c + 10 ≤ L) (hL : L ≤ 5120) (k : KN L c post) : am_W (am_C am_T 99) am_311 post 587 [some (.ref 100000), some (.ref 0), some (.ref 334), some (.ref 838), some (.int (wn (10 * c))), none, none, none] [] G := by
  have hc := am_C_one am_T 99
  have c5 : c ≤ 511 := by omega
  rw [wb311_587 hc]
  refine ⟨J.ia hj hL (t := 1) (by decide), J.ia hj hL (t := 2) (by decide), hc.mono (w_bell (d := 86) J.1 (J.rm c5) _ _) (fun o G1 q => ?_)⟩
  obtain ⟨a1, b1, rfl, g1⟩ := q
  obtain ⟨R1, H1⟩ := J.half c5 a1 b1
  show am_W (am_C am_T 99) am_311 post 604 _ [.int _] G1
  rw [wb311_604 hc]
  refine ⟨H1.ia hj hL (t := 1) (by decide), H1.ia hj hL (t := 2) (by decide), (fM a1.1).1, ?_⟩
  simp only [H1.2.1]
  refine hc.mono (rf_bell (d := 87) R1 _ _) (fun o G2 q2 => ?_)
  obtain ⟨b, rfl, R2, k2, t2, v2⟩ := OR_e q2
  show am_W (am_C am_T 99) am_311 post 622 _ [.int b] G2
  rw [wb311_622 hc]
  refine ⟨(fM R2.1).1, (ct151 (d := 98) R2.1).mpr ?_⟩
  show am_W (am_C am_T 99) am_311 post 628 _ [.int (am_gI G2 334 0)] G2
  rw [wb311_628 hc, t2]
  refine ⟨fun _ => ?_, fun z => absurd rfl z⟩
  have fin := k _ _ (H1.ref a1 R2 k2)
  rw [wb311_635 hc]
  refine ⟨fun _ => ?_, fun z => ?_⟩
  · rw [wb311_652 hc]; exact fin
  · rw [wb311_640 hc]
    refine ⟨ow838 R2.1, fun _ => ?_, fun z2 => absurd (lg_fin (by decide) z g1 v2 k2) z2⟩
    rw [wb311_652 hc]; exact fin
theorem lc_house (J : Jn L c G V) (hj : 10 * c + 10 ≤ L) (hL : L ≤ 5120) (k : KN L c post) : am_W (am_C am_T 99) am_311 post 655 [some (.ref 100000), some (.ref 0), some (.ref 334), some (.ref 838), some (.int (wn (10 * c))), none, none, none] [] G := by
  have hc := am_C_one am_T 99
  have c5 : c ≤ 511 := by omega
  rw [wb311_655 hc]
  refine ⟨J.ia hj hL (t := 1) (by decide), J.ia hj hL (t := 2) (by decide), hc.mono (w_house (d := 86) J.1 (J.rm c5) _ _) (fun o G1 q => ?_)⟩
  obtain ⟨a1, b1, rfl, g1⟩ := q
  obtain ⟨R1, H1⟩ := J.half c5 a1 b1
  show am_W (am_C am_T 99) am_311 post 672 _ [.int _] G1
  rw [wb311_672 hc]
  refine ⟨H1.ia hj hL (t := 1) (by decide), H1.ia hj hL (t := 2) (by decide), (fM a1.1).1, ?_⟩
  simp only [H1.2.1]
  refine hc.mono (rf_house (d := 87) R1 _ _) (fun o G2 q2 => ?_)
  obtain ⟨b, rfl, R2, k2, t2, v2⟩ := OR_e q2
  show am_W (am_C am_T 99) am_311 post 690 _ [.int b] G2
  rw [wb311_690 hc]
  refine ⟨(fM R2.1).1, (ct151 (d := 98) R2.1).mpr ?_⟩
  show am_W (am_C am_T 99) am_311 post 696 _ [.int (am_gI G2 334 0)] G2
  rw [wb311_696 hc, t2]
  refine ⟨fun _ => ?_, fun z => absurd rfl z⟩
  have fin := k _ _ (H1.ref a1 R2 k2)
  rw [wb311_703 hc]
  refine ⟨fun _ => ?_, fun z => ?_⟩
  · rw [wb311_720 hc]; exact fin
  · rw [wb311_708 hc]
    refine ⟨ow838 R2.1, fun _ => ?_, fun z2 => absurd (lg_fin (by decide) z g1 v2 k2) z2⟩
    rw [wb311_720 hc]; exact fin
theorem lc_deed (J : Jn L c G V) (hj : 10 * c + 10 ≤ L) (hL : L ≤ 5120) (k : KN L c post) : am_W (am_C am_T 99) am_311 post 723 [some (.ref 100000), some (.ref 0), some (.ref 334), some (.ref 838), some (.int (wn (10 * c))), none, none, none] [] G := by
  have hc := am_C_one am_T 99
  have c5 : c ≤ 511 := by omega
  rw [wb311_723 hc]
  refine ⟨J.ia hj hL (t := 1) (by decide), J.ia hj hL (t := 2) (by decide), hc.mono (w_deed (d := 86) J.1 (J.rm c5) _ _) (fun o G1 q => ?_)⟩
  obtain ⟨a1, b1, rfl, g1⟩ := q
  obtain ⟨R1, H1⟩ := J.half c5 a1 b1
  show am_W (am_C am_T 99) am_311 post 740 _ [.int _] G1
  rw [wb311_740 hc]
  refine ⟨H1.ia hj hL (t := 1) (by decide), H1.ia hj hL (t := 2) (by decide), (fM a1.1).1, ?_⟩
  simp only [H1.2.1]
  refine hc.mono (rf_deed (d := 87) R1 _ _) (fun o G2 q2 => ?_)
  obtain ⟨b, rfl, R2, k2, t2, v2⟩ := OR_e q2
  show am_W (am_C am_T 99) am_311 post 758 _ [.int b] G2
  rw [wb311_758 hc]
  refine ⟨(fM R2.1).1, (ct151 (d := 98) R2.1).mpr ?_⟩
  show am_W (am_C am_T 99) am_311 post 764 _ [.int (am_gI G2 334 0)] G2
  rw [wb311_764 hc, t2]
  refine ⟨fun _ => ?_, fun z => absurd rfl z⟩
  have fin := k _ _ (H1.ref a1 R2 k2)
  rw [wb311_771 hc]
  refine ⟨fun _ => ?_, fun z => ?_⟩
  · rw [wb311_788 hc]; exact fin
  · rw [wb311_776 hc]
    refine ⟨ow838 R2.1, fun _ => ?_, fun z2 => absurd (lg_fin (by decide) z g1 v2 k2) z2⟩
    rw [wb311_788 hc]; exact fin
theorem lc_temper (J : Jn L c G V) (hj : 10 * c + 10 ≤ L) (hL : L ≤ 5120) (k : KN L c post) : am_W (am_C am_T 99) am_311 post 791 [some (.ref 100000), some (.ref 0), some (.ref 334), some (.ref 838), some (.int (wn (10 * c))), none, none, none] [] G := by
  have hc := am_C_one am_T 99
  have c5 : c ≤ 511 := by omega
  rw [wb311_791 hc]
  refine ⟨J.ia hj hL (t := 1) (by decide), J.ia hj hL (t := 2) (by decide), hc.mono (w_temper (d := 86) J.1 (J.rm c5) _ _) (fun o G1 q => ?_)⟩
  obtain ⟨a1, b1, rfl, g1⟩ := q
  obtain ⟨R1, H1⟩ := J.half c5 a1 b1
  show am_W (am_C am_T 99) am_311 post 808 _ [.int _] G1
  rw [wb311_808 hc]
  refine ⟨H1.ia hj hL (t := 1) (by decide), H1.ia hj hL (t := 2) (by decide), (fM a1.1).1, ?_⟩
  simp only [H1.2.1]
  refine hc.mono (rf_temper (d := 87) R1 _ _) (fun o G2 q2 => ?_)
  obtain ⟨b, rfl, R2, k2, t2, v2⟩ := OR_e q2
  show am_W (am_C am_T 99) am_311 post 826 _ [.int b] G2
  rw [wb311_826 hc]
  refine ⟨(fM R2.1).1, (ct151 (d := 98) R2.1).mpr ?_⟩
  show am_W (am_C am_T 99) am_311 post 832 _ [.int (am_gI G2 334 0)] G2
  rw [wb311_832 hc, t2]
  refine ⟨fun _ => ?_, fun z => absurd rfl z⟩
  have fin := k _ _ (H1.ref a1 R2 k2)
  rw [wb311_839 hc]
  refine ⟨fun _ => ?_, fun z => ?_⟩
  · rw [wb311_856 hc]; exact fin
  · rw [wb311_844 hc]
    refine ⟨ow838 R2.1, fun _ => ?_, fun z2 => absurd (lg_fin (by decide) z g1 v2 k2) z2⟩
    rw [wb311_856 hc]; exact fin
theorem lc_heard (J : Jn L c G V) (hj : 10 * c + 10 ≤ L) (hL : L ≤ 5120) (k : KN L c post) : am_W (am_C am_T 99) am_311 post 859 [some (.ref 100000), some (.ref 0), some (.ref 334), some (.ref 838), some (.int (wn (10 * c))), none, none, none] [] G := by
  have hc := am_C_one am_T 99
  have c5 : c ≤ 511 := by omega
  rw [wb311_859 hc]
  refine ⟨J.ia hj hL (t := 1) (by decide), J.ia hj hL (t := 2) (by decide), hc.mono (w_heard (d := 86) J.1 (J.rm c5) _ _) (fun o G1 q => ?_)⟩
  obtain ⟨a1, b1, rfl, g1⟩ := q
  obtain ⟨R1, H1⟩ := J.half c5 a1 b1
  show am_W (am_C am_T 99) am_311 post 876 _ [.int _] G1
  rw [wb311_876 hc]
  refine ⟨H1.ia hj hL (t := 1) (by decide), H1.ia hj hL (t := 2) (by decide), (fM a1.1).1, ?_⟩
  simp only [H1.2.1]
  refine hc.mono (rf_heard (d := 87) R1 _ _) (fun o G2 q2 => ?_)
  obtain ⟨b, rfl, R2, k2, t2, v2⟩ := OR_e q2
  show am_W (am_C am_T 99) am_311 post 894 _ [.int b] G2
  rw [wb311_894 hc]
  refine ⟨(fM R2.1).1, (ct151 (d := 98) R2.1).mpr ?_⟩
  show am_W (am_C am_T 99) am_311 post 900 _ [.int (am_gI G2 334 0)] G2
  rw [wb311_900 hc, t2]
  refine ⟨fun _ => ?_, fun z => absurd rfl z⟩
  have fin := k _ _ (H1.ref a1 R2 k2)
  rw [wb311_907 hc]
  refine ⟨fun _ => ?_, fun z => ?_⟩
  · rw [wb311_924 hc]; exact fin
  · rw [wb311_912 hc]
    refine ⟨ow838 R2.1, fun _ => ?_, fun z2 => absurd (lg_fin (by decide) z g1 v2 k2) z2⟩
    rw [wb311_924 hc]; exact fin
theorem lc_would (J : Jn L c G V) (hj : 10 * c + 10 ≤ L) (hL : L ≤ 5120) (k : KN L c post) : am_W (am_C am_T 99) am_311 post 927 [some (.ref 100000), some (.ref 0), some (.ref 334), some (.ref 838), some (.int (wn (10 * c))), none, none, none] [] G := by
  have hc := am_C_one am_T 99
  have c5 : c ≤ 511 := by omega
  rw [wb311_927 hc]
  refine ⟨J.ia hj hL (t := 1) (by decide), J.ia hj hL (t := 2) (by decide), J.ia hj hL (t := 3) (by decide), J.ia hj hL (t := 4) (by decide), J.ia hj hL (t := 5) (by decide), J.ia hj hL (t := 6) (by decide), J.ia hj hL (t := 7) (by decide), J.ia hj hL (t := 8) (by decide), J.ia hj hL (t := 9) (by decide), hc.mono (w_would (d := 86) J.1 (J.rm c5) _ _ _ _ _ _ _ _ _) (fun o G1 q => ?_)⟩
  obtain ⟨a1, b1, rfl, g1⟩ := q
  obtain ⟨R1, H1⟩ := J.half c5 a1 b1
  show am_W (am_C am_T 99) am_311 post 990 _ [.int _] G1
  rw [wb311_990 hc]
  refine ⟨H1.ia hj hL (t := 1) (by decide), H1.ia hj hL (t := 2) (by decide), H1.ia hj hL (t := 3) (by decide), H1.ia hj hL (t := 4) (by decide), H1.ia hj hL (t := 5) (by decide), H1.ia hj hL (t := 6) (by decide), H1.ia hj hL (t := 7) (by decide), H1.ia hj hL (t := 8) (by decide), H1.ia hj hL (t := 9) (by decide), (fM a1.1).1, ?_⟩
  simp only [H1.2.1]
  refine hc.mono (rf_would (d := 87) R1 _ _ _ _ _ _ _ _ _) (fun o G2 q2 => ?_)
  obtain ⟨b, rfl, R2, k2, t2, v2⟩ := OR_e q2
  show am_W (am_C am_T 99) am_311 post 1054 _ [.int b] G2
  rw [wb311_1054 hc]
  refine ⟨(fM R2.1).1, (ct151 (d := 98) R2.1).mpr ?_⟩
  show am_W (am_C am_T 99) am_311 post 1060 _ [.int (am_gI G2 334 0)] G2
  rw [wb311_1060 hc, t2]
  refine ⟨fun _ => ?_, fun z => absurd rfl z⟩
  have fin := k _ _ (H1.ref a1 R2 k2)
  rw [wb311_1067 hc]
  refine ⟨fun _ => ?_, fun z => ?_⟩
  · rw [wb311_1084 hc]; exact fin
  · rw [wb311_1072 hc]
    refine ⟨ow838 R2.1, fun _ => ?_, fun z2 => absurd (lg_fin (by decide) z g1 v2 k2) z2⟩
    rw [wb311_1084 hc]; exact fin
theorem lc_ahead (J : Jn L c G V) (hj : 10 * c + 10 ≤ L) (hL : L ≤ 5120) (k : KN L c post) : am_W (am_C am_T 99) am_311 post 1087 [some (.ref 100000), some (.ref 0), some (.ref 334), some (.ref 838), some (.int (wn (10 * c))), none, none, none] [] G := by
  have hc := am_C_one am_T 99
  have c5 : c ≤ 511 := by omega
  rw [wb311_1087 hc]
  refine ⟨J.ia hj hL (t := 1) (by decide), J.ia hj hL (t := 2) (by decide), hc.mono (w_ahead (d := 86) J.1 (J.rm c5) _ _) (fun o G1 q => ?_)⟩
  obtain ⟨a1, b1, rfl, g1⟩ := q
  obtain ⟨R1, H1⟩ := J.half c5 a1 b1
  show am_W (am_C am_T 99) am_311 post 1104 _ [.int _] G1
  rw [wb311_1104 hc]
  refine ⟨H1.ia hj hL (t := 1) (by decide), H1.ia hj hL (t := 2) (by decide), (fM a1.1).1, ?_⟩
  simp only [H1.2.1]
  refine hc.mono (rf_ahead (d := 87) R1 _ _) (fun o G2 q2 => ?_)
  obtain ⟨b, rfl, R2, k2, t2, v2⟩ := OR_e q2
  show am_W (am_C am_T 99) am_311 post 1122 _ [.int b] G2
  rw [wb311_1122 hc]
  refine ⟨(fM R2.1).1, (ct151 (d := 98) R2.1).mpr ?_⟩
  show am_W (am_C am_T 99) am_311 post 1128 _ [.int (am_gI G2 334 0)] G2
  rw [wb311_1128 hc, t2]
  refine ⟨fun _ => ?_, fun z => absurd rfl z⟩
  have fin := k _ _ (H1.ref a1 R2 k2)
  rw [wb311_1135 hc]
  refine ⟨fun _ => ?_, fun z => ?_⟩
  · rw [wb311_1152 hc]; exact fin
  · rw [wb311_1140 hc]
    refine ⟨ow838 R2.1, fun _ => ?_, fun z2 => absurd (lg_fin (by decide) z g1 v2 k2) z2⟩
    rw [wb311_1152 hc]; exact fin
theorem lc_sleeps (J : Jn L c G V) (hj : 10 * c + 10 ≤ L) (hL : L ≤ 5120) (k : KN L c post) : am_W (am_C am_T 99) am_311 post 1155 [some (.ref 100000), some (.ref 0), some (.ref 334), some (.ref 838), some (.int (wn (10 * c))), none, none, none] [] G := by
  have hc := am_C_one am_T 99
  have c5 : c ≤ 511 := by omega
  rw [wb311_1155 hc]
  refine ⟨J.ia hj hL (t := 1) (by decide), hc.mono (w_sleeps (d := 86) J.1 (J.rm c5) _) (fun o G1 q => ?_)⟩
  obtain ⟨a1, b1, rfl, g1⟩ := q
  obtain ⟨R1, H1⟩ := J.half c5 a1 b1
  show am_W (am_C am_T 99) am_311 post 1166 _ [.int _] G1
  rw [wb311_1166 hc]
  refine ⟨H1.ia hj hL (t := 1) (by decide), (fM a1.1).1, ?_⟩
  simp only [H1.2.1]
  refine hc.mono (rf_sleeps (d := 87) R1 _) (fun o G2 q2 => ?_)
  obtain ⟨b, rfl, R2, k2, t2, v2⟩ := OR_e q2
  show am_W (am_C am_T 99) am_311 post 1178 _ [.int b] G2
  rw [wb311_1178 hc]
  refine ⟨(fM R2.1).1, (ct151 (d := 98) R2.1).mpr ?_⟩
  show am_W (am_C am_T 99) am_311 post 1184 _ [.int (am_gI G2 334 0)] G2
  rw [wb311_1184 hc, t2]
  refine ⟨fun _ => ?_, fun z => absurd rfl z⟩
  have fin := k _ _ (H1.ref a1 R2 k2)
  rw [wb311_1191 hc]
  refine ⟨fun _ => ?_, fun z => ?_⟩
  · rw [wb311_1208 hc]; exact fin
  · rw [wb311_1196 hc]
    refine ⟨ow838 R2.1, fun _ => ?_, fun z2 => absurd (lg_fin (by decide) z g1 v2 k2) z2⟩
    rw [wb311_1208 hc]; exact fin
theorem lc_rouse (J : Jn L c G V) (hj : 10 * c + 10 ≤ L) (hL : L ≤ 5120) (k : KN L c post) : am_W (am_C am_T 99) am_311 post 1211 [some (.ref 100000), some (.ref 0), some (.ref 334), some (.ref 838), some (.int (wn (10 * c))), none, none, none] [] G := by
  have hc := am_C_one am_T 99
  have c5 : c ≤ 511 := by omega
  rw [wb311_1211 hc]
  refine ⟨J.ia hj hL (t := 1) (by decide), J.ia hj hL (t := 2) (by decide), hc.mono (w_rouse (d := 86) J.1 (J.rm c5) _ _) (fun o G1 q => ?_)⟩
  obtain ⟨a1, b1, rfl, g1⟩ := q
  obtain ⟨R1, H1⟩ := J.half c5 a1 b1
  show am_W (am_C am_T 99) am_311 post 1228 _ [.int _] G1
  rw [wb311_1228 hc]
  refine ⟨H1.ia hj hL (t := 1) (by decide), H1.ia hj hL (t := 2) (by decide), (fM a1.1).1, ?_⟩
  simp only [H1.2.1]
  refine hc.mono (rf_rouse (d := 87) R1 _ _) (fun o G2 q2 => ?_)
  obtain ⟨b, rfl, R2, k2, t2, v2⟩ := OR_e q2
  show am_W (am_C am_T 99) am_311 post 1246 _ [.int b] G2
  rw [wb311_1246 hc]
  refine ⟨(fM R2.1).1, (ct151 (d := 98) R2.1).mpr ?_⟩
  show am_W (am_C am_T 99) am_311 post 1252 _ [.int (am_gI G2 334 0)] G2
  rw [wb311_1252 hc, t2]
  refine ⟨fun _ => ?_, fun z => absurd rfl z⟩
  have fin := k _ _ (H1.ref a1 R2 k2)
  rw [wb311_1259 hc]
  refine ⟨fun _ => ?_, fun z => ?_⟩
  · rw [wb311_1276 hc]; exact fin
  · rw [wb311_1264 hc]
    refine ⟨ow838 R2.1, fun _ => ?_, fun z2 => absurd (lg_fin (by decide) z g1 v2 k2) z2⟩
    rw [wb311_1276 hc]; exact fin
theorem lc_suited (J : Jn L c G V) (hj : 10 * c + 10 ≤ L) (hL : L ≤ 5120) (k : KN L c post) : am_W (am_C am_T 99) am_311 post 1292 [some (.ref 100000), some (.ref 0), some (.ref 334), some (.ref 838), some (.int (wn (10 * c))), none, none, none] [] G := by
  have hc := am_C_one am_T 99
  have c5 : c ≤ 511 := by omega
  rw [wb311_1292 hc]
  refine ⟨J.ia hj hL (t := 1) (by decide), hc.mono (w_suited (d := 86) J.1 (J.rm c5) _) (fun o G1 q => ?_)⟩
  obtain ⟨a1, b1, rfl, g1⟩ := q
  obtain ⟨R1, H1⟩ := J.half c5 a1 b1
  show am_W (am_C am_T 99) am_311 post 1303 _ [.int _] G1
  rw [wb311_1303 hc]
  refine ⟨H1.ia hj hL (t := 1) (by decide), (fM a1.1).1, ?_⟩
  simp only [H1.2.1]
  refine hc.mono (rf_suited (d := 79) R1 _) (fun o G2 q2 => ?_)
  obtain ⟨b, rfl, R2, k2, t2, v2⟩ := OR_e q2
  show am_W (am_C am_T 99) am_311 post 1315 _ [.int b] G2
  rw [wb311_1315 hc]
  refine ⟨(fM R2.1).1, (ct151 (d := 98) R2.1).mpr ?_⟩
  show am_W (am_C am_T 99) am_311 post 1321 _ [.int (am_gI G2 334 0)] G2
  rw [wb311_1321 hc, t2]
  refine ⟨fun _ => ?_, fun z => absurd rfl z⟩
  have fin := k _ _ (H1.ref a1 R2 k2)
  rw [wb311_1328 hc]
  refine ⟨fun _ => ?_, fun z => ?_⟩
  · rw [wb311_1345 hc]; exact fin
  · rw [wb311_1333 hc]
    refine ⟨ow838 R2.1, fun _ => ?_, fun z2 => absurd (lg_fin (by decide) z g1 v2 k2) z2⟩
    rw [wb311_1345 hc]; exact fin
theorem lc_pulls (J : Jn L c G V) (hj : 10 * c + 10 ≤ L) (hL : L ≤ 5120) (k : KN L c post) : am_W (am_C am_T 99) am_311 post 1348 [some (.ref 100000), some (.ref 0), some (.ref 334), some (.ref 838), some (.int (wn (10 * c))), none, none, none] [] G := by
  have hc := am_C_one am_T 99
  have c5 : c ≤ 511 := by omega
  rw [wb311_1348 hc]
  refine ⟨J.ia hj hL (t := 1) (by decide), J.ia hj hL (t := 2) (by decide), hc.mono (w_pulls (d := 86) J.1 (J.rm c5) _ _) (fun o G1 q => ?_)⟩
  obtain ⟨a1, b1, rfl, g1⟩ := q
  obtain ⟨R1, H1⟩ := J.half c5 a1 b1
  show am_W (am_C am_T 99) am_311 post 1365 _ [.int _] G1
  rw [wb311_1365 hc]
  refine ⟨H1.ia hj hL (t := 1) (by decide), H1.ia hj hL (t := 2) (by decide), (fM a1.1).1, ?_⟩
  simp only [H1.2.1]
  refine hc.mono (rf_pulls (d := 87) R1 _ _) (fun o G2 q2 => ?_)
  obtain ⟨b, rfl, R2, k2, t2, v2⟩ := OR_e q2
  show am_W (am_C am_T 99) am_311 post 1383 _ [.int b] G2
  rw [wb311_1383 hc]
  refine ⟨(fM R2.1).1, (ct151 (d := 98) R2.1).mpr ?_⟩
  show am_W (am_C am_T 99) am_311 post 1389 _ [.int (am_gI G2 334 0)] G2
  rw [wb311_1389 hc, t2]
  refine ⟨fun _ => ?_, fun z => absurd rfl z⟩
  have fin := k _ _ (H1.ref a1 R2 k2)
  rw [wb311_1396 hc]
  refine ⟨fun _ => ?_, fun z => ?_⟩
  · rw [wb311_1413 hc]; exact fin
  · rw [wb311_1401 hc]
    refine ⟨ow838 R2.1, fun _ => ?_, fun z2 => absurd (lg_fin (by decide) z g1 v2 k2) z2⟩
    rw [wb311_1413 hc]; exact fin
theorem lc_cast (J : Jn L c G V) (hj : 10 * c + 10 ≤ L) (hL : L ≤ 5120) (k : KN L c post) : am_W (am_C am_T 99) am_311 post 1416 [some (.ref 100000), some (.ref 0), some (.ref 334), some (.ref 838), some (.int (wn (10 * c))), none, none, none] [] G := by
  have hc := am_C_one am_T 99
  have c5 : c ≤ 511 := by omega
  rw [wb311_1416 hc]
  refine ⟨J.ia hj hL (t := 1) (by decide), hc.mono (w_cast (d := 86) J.1 (J.rm c5) _) (fun o G1 q => ?_)⟩
  obtain ⟨a1, b1, rfl, g1⟩ := q
  obtain ⟨R1, H1⟩ := J.half c5 a1 b1
  show am_W (am_C am_T 99) am_311 post 1427 _ [.int _] G1
  rw [wb311_1427 hc]
  refine ⟨H1.ia hj hL (t := 1) (by decide), (fM a1.1).1, ?_⟩
  simp only [H1.2.1]
  refine hc.mono (rf_cast (d := 87) R1 _) (fun o G2 q2 => ?_)
  obtain ⟨b, rfl, R2, k2, t2, v2⟩ := OR_e q2
  show am_W (am_C am_T 99) am_311 post 1439 _ [.int b] G2
  rw [wb311_1439 hc]
  refine ⟨(fM R2.1).1, (ct151 (d := 98) R2.1).mpr ?_⟩
  show am_W (am_C am_T 99) am_311 post 1445 _ [.int (am_gI G2 334 0)] G2
  rw [wb311_1445 hc, t2]
  refine ⟨fun _ => ?_, fun z => absurd rfl z⟩
  have fin := k _ _ (H1.ref a1 R2 k2)
  rw [wb311_1452 hc]
  refine ⟨fun _ => ?_, fun z => ?_⟩
  · rw [wb311_1469 hc]; exact fin
  · rw [wb311_1457 hc]
    refine ⟨ow838 R2.1, fun _ => ?_, fun z2 => absurd (lg_fin (by decide) z g1 v2 k2) z2⟩
    rw [wb311_1469 hc]; exact fin
theorem lc_ask (J : Jn L c G V) (hj : 10 * c + 10 ≤ L) (hL : L ≤ 5120) (k : KN L c post) : am_W (am_C am_T 99) am_311 post 1472 [some (.ref 100000), some (.ref 0), some (.ref 334), some (.ref 838), some (.int (wn (10 * c))), none, none, none] [] G := by
  have hc := am_C_one am_T 99
  have c5 : c ≤ 511 := by omega
  rw [wb311_1472 hc]
  refine ⟨J.ia hj hL (t := 1) (by decide), hc.mono (w_ask (d := 86) J.1 (J.rm c5) _) (fun o G1 q => ?_)⟩
  obtain ⟨a1, b1, rfl, g1⟩ := q
  obtain ⟨R1, H1⟩ := J.half c5 a1 b1
  show am_W (am_C am_T 99) am_311 post 1483 _ [.int _] G1
  rw [wb311_1483 hc]
  refine ⟨H1.ia hj hL (t := 1) (by decide), (fM a1.1).1, ?_⟩
  simp only [H1.2.1]
  refine hc.mono (rf_ask (d := 87) R1 _) (fun o G2 q2 => ?_)
  obtain ⟨b, rfl, R2, k2, t2, v2⟩ := OR_e q2
  show am_W (am_C am_T 99) am_311 post 1495 _ [.int b] G2
  rw [wb311_1495 hc]
  refine ⟨(fM R2.1).1, (ct151 (d := 98) R2.1).mpr ?_⟩
  show am_W (am_C am_T 99) am_311 post 1501 _ [.int (am_gI G2 334 0)] G2
  rw [wb311_1501 hc, t2]
  refine ⟨fun _ => ?_, fun z => absurd rfl z⟩
  have fin := k _ _ (H1.ref a1 R2 k2)
  rw [wb311_1508 hc]
  refine ⟨fun _ => ?_, fun z => ?_⟩
  · rw [wb311_1525 hc]; exact fin
  · rw [wb311_1513 hc]
    refine ⟨ow838 R2.1, fun _ => ?_, fun z2 => absurd (lg_fin (by decide) z g1 v2 k2) z2⟩
    rw [wb311_1525 hc]; exact fin
theorem lc_changes (J : Jn L c G V) (hj : 10 * c + 10 ≤ L) (hL : L ≤ 5120) (k : KN L c post) : am_W (am_C am_T 99) am_311 post 1528 [some (.ref 100000), some (.ref 0), some (.ref 334), some (.ref 838), some (.int (wn (10 * c))), none, none, none] [] G := by
  have hc := am_C_one am_T 99
  have c5 : c ≤ 511 := by omega
  rw [wb311_1528 hc]
  refine ⟨J.ia hj hL (t := 1) (by decide), J.ia hj hL (t := 2) (by decide), hc.mono (w_changes (d := 86) J.1 (J.rm c5) J.2.2.1 _ _) (fun o G1 q => ?_)⟩
  obtain ⟨a1, b1, rfl, g1⟩ := q
  obtain ⟨R1, H1⟩ := J.half c5 a1 b1
  show am_W (am_C am_T 99) am_311 post 1545 _ [.int _] G1
  rw [wb311_1545 hc]
  refine ⟨H1.ia hj hL (t := 1) (by decide), H1.ia hj hL (t := 2) (by decide), (fM a1.1).1, ?_⟩
  simp only [H1.2.1]
  refine hc.mono (rf_changes (d := 87) R1 _ _) (fun o G2 q2 => ?_)
  obtain ⟨b, rfl, R2, k2, t2, v2⟩ := OR_e q2
  show am_W (am_C am_T 99) am_311 post 1563 _ [.int b] G2
  rw [wb311_1563 hc]
  refine ⟨(fM R2.1).1, (ct151 (d := 98) R2.1).mpr ?_⟩
  show am_W (am_C am_T 99) am_311 post 1569 _ [.int (am_gI G2 334 0)] G2
  rw [wb311_1569 hc, t2]
  refine ⟨fun _ => ?_, fun z => absurd rfl z⟩
  have fin := k _ _ (H1.ref a1 R2 k2)
  rw [wb311_1576 hc]
  refine ⟨fun _ => ?_, fun z => ?_⟩
  · rw [wb311_1593 hc]; exact fin
  · rw [wb311_1581 hc]
    refine ⟨ow838 R2.1, fun _ => ?_, fun z2 => absurd (lg_fin (by decide) z g1 v2 k2) z2⟩
    rw [wb311_1593 hc]; exact fin
theorem lc_next (J : Jn L c G V) (hj : 10 * c + 10 ≤ L) (hL : L ≤ 5120) (k : KN L c post) : am_W (am_C am_T 99) am_311 post 1596 [some (.ref 100000), some (.ref 0), some (.ref 334), some (.ref 838), some (.int (wn (10 * c))), none, none, none] [] G := by
  have hc := am_C_one am_T 99
  have c5 : c ≤ 511 := by omega
  rw [wb311_1596 hc]
  refine ⟨J.ia hj hL (t := 1) (by decide), J.ia hj hL (t := 2) (by decide), hc.mono (w_next (d := 86) J.1 (J.rm c5) J.2.2.1 _ _) (fun o G1 q => ?_)⟩
  obtain ⟨a1, b1, rfl, g1⟩ := q
  obtain ⟨R1, H1⟩ := J.half c5 a1 b1
  show am_W (am_C am_T 99) am_311 post 1613 _ [.int _] G1
  rw [wb311_1613 hc]
  refine ⟨H1.ia hj hL (t := 1) (by decide), H1.ia hj hL (t := 2) (by decide), (fM a1.1).1, ?_⟩
  simp only [H1.2.1]
  refine hc.mono (rf_next (d := 87) R1 _ _) (fun o G2 q2 => ?_)
  obtain ⟨b, rfl, R2, k2, t2, v2⟩ := OR_e q2
  show am_W (am_C am_T 99) am_311 post 1631 _ [.int b] G2
  rw [wb311_1631 hc]
  refine ⟨(fM R2.1).1, (ct151 (d := 98) R2.1).mpr ?_⟩
  show am_W (am_C am_T 99) am_311 post 1637 _ [.int (am_gI G2 334 0)] G2
  rw [wb311_1637 hc, t2]
  refine ⟨fun _ => ?_, fun z => absurd rfl z⟩
  have fin := k _ _ (H1.ref a1 R2 k2)
  rw [wb311_1644 hc]
  refine ⟨fun _ => ?_, fun z => ?_⟩
  · rw [wb311_1661 hc]; exact fin
  · rw [wb311_1649 hc]
    refine ⟨ow838 R2.1, fun _ => ?_, fun z2 => absurd (lg_fin (by decide) z g1 v2 k2) z2⟩
    rw [wb311_1661 hc]; exact fin
theorem lc_within (J : Jn L c G V) (hj : 10 * c + 10 ≤ L) (hL : L ≤ 5120) (k : KN L c post) : am_W (am_C am_T 99) am_311 post 1664 [some (.ref 100000), some (.ref 0), some (.ref 334), some (.ref 838), some (.int (wn (10 * c))), none, none, none] [] G := by
  have hc := am_C_one am_T 99
  have c5 : c ≤ 511 := by omega
  rw [wb311_1664 hc]
  refine ⟨J.ia hj hL (t := 1) (by decide), J.ia hj hL (t := 2) (by decide), hc.mono (w_within (d := 86) J.1 (J.rm c5) J.2.2.1 _ _) (fun o G1 q => ?_)⟩
  obtain ⟨a1, b1, rfl, g1⟩ := q
  obtain ⟨R1, H1⟩ := J.half c5 a1 b1
  show am_W (am_C am_T 99) am_311 post 1681 _ [.int _] G1
  rw [wb311_1681 hc]
  refine ⟨H1.ia hj hL (t := 1) (by decide), H1.ia hj hL (t := 2) (by decide), (fM a1.1).1, ?_⟩
  simp only [H1.2.1]
  refine hc.mono (rf_within (d := 87) R1 _ _) (fun o G2 q2 => ?_)
  obtain ⟨b, rfl, R2, k2, t2, v2⟩ := OR_e q2
  show am_W (am_C am_T 99) am_311 post 1699 _ [.int b] G2
  rw [wb311_1699 hc]
  refine ⟨(fM R2.1).1, (ct151 (d := 98) R2.1).mpr ?_⟩
  show am_W (am_C am_T 99) am_311 post 1705 _ [.int (am_gI G2 334 0)] G2
  rw [wb311_1705 hc, t2]
  refine ⟨fun _ => ?_, fun z => absurd rfl z⟩
  have fin := k _ _ (H1.ref a1 R2 k2)
  rw [wb311_1712 hc]
  refine ⟨fun _ => ?_, fun z => ?_⟩
  · rw [wb311_1729 hc]; exact fin
  · rw [wb311_1717 hc]
    refine ⟨ow838 R2.1, fun _ => ?_, fun z2 => absurd (lg_fin (by decide) z g1 v2 k2) z2⟩
    rw [wb311_1729 hc]; exact fin
theorem lc_place (J : Jn L c G V) (hj : 10 * c + 10 ≤ L) (hL : L ≤ 5120) (k : KN L c post) : am_W (am_C am_T 99) am_311 post 1732 [some (.ref 100000), some (.ref 0), some (.ref 334), some (.ref 838), some (.int (wn (10 * c))), none, none, none] [] G := by
  have hc := am_C_one am_T 99
  have c5 : c ≤ 511 := by omega
  rw [wb311_1732 hc]
  refine ⟨J.ia hj hL (t := 1) (by decide), J.ia hj hL (t := 2) (by decide), J.ia hj hL (t := 3) (by decide), hc.mono (w_place (d := 86) J.1 (J.rm c5) J.2.2.1 _ _ _) (fun o G1 q => ?_)⟩
  obtain ⟨a1, b1, rfl, g1⟩ := q
  obtain ⟨R1, H1⟩ := J.half c5 a1 b1
  show am_W (am_C am_T 99) am_311 post 1755 _ [.int _] G1
  rw [wb311_1755 hc]
  refine ⟨H1.ia hj hL (t := 1) (by decide), H1.ia hj hL (t := 2) (by decide), H1.ia hj hL (t := 3) (by decide), (fM a1.1).1, ?_⟩
  simp only [H1.2.1]
  refine hc.mono (rf_place (d := 87) R1 _ _ _) (fun o G2 q2 => ?_)
  obtain ⟨b, rfl, R2, k2, t2, v2⟩ := OR_e q2
  show am_W (am_C am_T 99) am_311 post 1779 _ [.int b] G2
  rw [wb311_1779 hc]
  refine ⟨(fM R2.1).1, (ct151 (d := 98) R2.1).mpr ?_⟩
  show am_W (am_C am_T 99) am_311 post 1785 _ [.int (am_gI G2 334 0)] G2
  rw [wb311_1785 hc, t2]
  refine ⟨fun _ => ?_, fun z => absurd rfl z⟩
  have fin := k _ _ (H1.ref a1 R2 k2)
  rw [wb311_1792 hc]
  refine ⟨fun _ => ?_, fun z => ?_⟩
  · rw [wb311_1809 hc]; exact fin
  · rw [wb311_1797 hc]
    refine ⟨ow838 R2.1, fun _ => ?_, fun z2 => absurd (lg_fin (by decide) z g1 v2 k2) z2⟩
    rw [wb311_1809 hc]; exact fin
theorem lc_ringers (J : Jn L c G V) (hj : 10 * c + 10 ≤ L) (hL : L ≤ 5120) (k : KN L c post) : am_W (am_C am_T 99) am_311 post 1812 [some (.ref 100000), some (.ref 0), some (.ref 334), some (.ref 838), some (.int (wn (10 * c))), none, none, none] [] G := by
  have hc := am_C_one am_T 99
  have c5 : c ≤ 511 := by omega
  rw [wb311_1812 hc]
  refine ⟨J.ia hj hL (t := 1) (by decide), J.ia hj hL (t := 2) (by decide), J.ia hj hL (t := 3) (by decide), hc.mono (w_ringers (d := 86) J.1 (J.rm c5) _ _ _) (fun o G1 q => ?_)⟩
  obtain ⟨a1, b1, rfl, g1⟩ := q
  obtain ⟨R1, H1⟩ := J.half c5 a1 b1
  show am_W (am_C am_T 99) am_311 post 1835 _ [.int _] G1
  rw [wb311_1835 hc]
  refine ⟨H1.ia hj hL (t := 1) (by decide), H1.ia hj hL (t := 2) (by decide), H1.ia hj hL (t := 3) (by decide), (fM a1.1).1, ?_⟩
  simp only [H1.2.1]
  refine hc.mono (rf_ringers (d := 87) R1 _ _ _) (fun o G2 q2 => ?_)
  obtain ⟨b, rfl, R2, k2, t2, v2⟩ := OR_e q2
  show am_W (am_C am_T 99) am_311 post 1859 _ [.int b] G2
  rw [wb311_1859 hc]
  refine ⟨(fM R2.1).1, (ct151 (d := 98) R2.1).mpr ?_⟩
  show am_W (am_C am_T 99) am_311 post 1865 _ [.int (am_gI G2 334 0)] G2
  rw [wb311_1865 hc, t2]
  refine ⟨fun _ => ?_, fun z => absurd rfl z⟩
  have fin := k _ _ (H1.ref a1 R2 k2)
  rw [wb311_1872 hc]
  refine ⟨fun _ => ?_, fun z => ?_⟩
  · rw [wb311_1889 hc]; exact fin
  · rw [wb311_1877 hc]
    refine ⟨ow838 R2.1, fun _ => ?_, fun z2 => absurd (lg_fin (by decide) z g1 v2 k2) z2⟩
    rw [wb311_1889 hc]; exact fin
theorem lc_metal (J : Jn L c G V) (hj : 10 * c + 10 ≤ L) (hL : L ≤ 5120) (k : KN L c post) : am_W (am_C am_T 99) am_311 post 1983 [some (.ref 100000), some (.ref 0), some (.ref 334), some (.ref 838), some (.int (wn (10 * c))), none, none, none] [] G := by
  have hc := am_C_one am_T 99
  have c5 : c ≤ 511 := by omega
  rw [wb311_1983 hc]
  refine ⟨J.ia hj hL (t := 1) (by decide), J.ia hj hL (t := 2) (by decide), J.ia hj hL (t := 3) (by decide), hc.mono (w_metal (d := 86) J.1 (J.rm c5) _ _ _) (fun o G1 q => ?_)⟩
  obtain ⟨a1, b1, rfl, g1⟩ := q
  obtain ⟨R1, H1⟩ := J.half c5 a1 b1
  show am_W (am_C am_T 99) am_311 post 2006 _ [.int _] G1
  rw [wb311_2006 hc]
  refine ⟨H1.ia hj hL (t := 1) (by decide), H1.ia hj hL (t := 2) (by decide), H1.ia hj hL (t := 3) (by decide), (fM a1.1).1, ?_⟩
  simp only [H1.2.1]
  refine hc.mono (rf_metal (d := 87) R1 _ _ _) (fun o G2 q2 => ?_)
  obtain ⟨b, rfl, R2, k2, t2, v2⟩ := OR_e q2
  show am_W (am_C am_T 99) am_311 post 2030 _ [.int b] G2
  rw [wb311_2030 hc]
  refine ⟨(fM R2.1).1, (ct151 (d := 98) R2.1).mpr ?_⟩
  show am_W (am_C am_T 99) am_311 post 2036 _ [.int (am_gI G2 334 0)] G2
  rw [wb311_2036 hc, t2]
  refine ⟨fun _ => ?_, fun z => absurd rfl z⟩
  have fin := k _ _ (H1.ref a1 R2 k2)
  rw [wb311_2043 hc]
  refine ⟨fun _ => ?_, fun z => ?_⟩
  · rw [wb311_2060 hc]; exact fin
  · rw [wb311_2048 hc]
    refine ⟨ow838 R2.1, fun _ => ?_, fun z2 => absurd (lg_fin (by decide) z g1 v2 k2) z2⟩
    rw [wb311_2060 hc]; exact fin
theorem lc_loudest (J : Jn L c G V) (hj : 10 * c + 10 ≤ L) (hL : L ≤ 5120) (k : KN L c post) : am_W (am_C am_T 99) am_311 post 2063 [some (.ref 100000), some (.ref 0), some (.ref 334), some (.ref 838), some (.int (wn (10 * c))), none, none, none] [] G := by
  have hc := am_C_one am_T 99
  have c5 : c ≤ 511 := by omega
  rw [wb311_2063 hc]
  refine ⟨J.ia hj hL (t := 1) (by decide), hc.mono (w_loudest (d := 86) J.1 (J.rm c5) _) (fun o G1 q => ?_)⟩
  obtain ⟨a1, b1, rfl, g1⟩ := q
  obtain ⟨R1, H1⟩ := J.half c5 a1 b1
  show am_W (am_C am_T 99) am_311 post 2074 _ [.int _] G1
  rw [wb311_2074 hc]
  refine ⟨H1.ia hj hL (t := 1) (by decide), (fM a1.1).1, ?_⟩
  simp only [H1.2.1]
  refine hc.mono (rf_loudest (d := 87) R1 _) (fun o G2 q2 => ?_)
  obtain ⟨b, rfl, R2, k2, t2, v2⟩ := OR_e q2
  show am_W (am_C am_T 99) am_311 post 2086 _ [.int b] G2
  rw [wb311_2086 hc]
  refine ⟨(fM R2.1).1, (ct151 (d := 98) R2.1).mpr ?_⟩
  show am_W (am_C am_T 99) am_311 post 2092 _ [.int (am_gI G2 334 0)] G2
  rw [wb311_2092 hc, t2]
  refine ⟨fun _ => ?_, fun z => absurd rfl z⟩
  have fin := k _ _ (H1.ref a1 R2 k2)
  rw [wb311_2099 hc]
  refine ⟨fun _ => ?_, fun z => ?_⟩
  · rw [wb311_2116 hc]; exact fin
  · rw [wb311_2104 hc]
    refine ⟨ow838 R2.1, fun _ => ?_, fun z2 => absurd (lg_fin (by decide) z g1 v2 k2) z2⟩
    rw [wb311_2116 hc]; exact fin
theorem lc_deaf (J : Jn L c G V) (hj : 10 * c + 10 ≤ L) (hL : L ≤ 5120) (k : KN L c post) : am_W (am_C am_T 99) am_311 post 2119 [some (.ref 100000), some (.ref 0), some (.ref 334), some (.ref 838), some (.int (wn (10 * c))), none, none, none] [] G := by
  have hc := am_C_one am_T 99
  have c5 : c ≤ 511 := by omega
  rw [wb311_2119 hc]
  refine ⟨J.ia hj hL (t := 1) (by decide), hc.mono (w_deaf (d := 86) J.1 (J.rm c5) _) (fun o G1 q => ?_)⟩
  obtain ⟨a1, b1, rfl, g1⟩ := q
  obtain ⟨R1, H1⟩ := J.half c5 a1 b1
  show am_W (am_C am_T 99) am_311 post 2130 _ [.int _] G1
  rw [wb311_2130 hc]
  refine ⟨H1.ia hj hL (t := 1) (by decide), (fM a1.1).1, ?_⟩
  simp only [H1.2.1]
  refine hc.mono (rf_deaf (d := 87) R1 _) (fun o G2 q2 => ?_)
  obtain ⟨b, rfl, R2, k2, t2, v2⟩ := OR_e q2
  show am_W (am_C am_T 99) am_311 post 2142 _ [.int b] G2
  rw [wb311_2142 hc]
  refine ⟨(fM R2.1).1, (ct151 (d := 98) R2.1).mpr ?_⟩
  show am_W (am_C am_T 99) am_311 post 2148 _ [.int (am_gI G2 334 0)] G2
  rw [wb311_2148 hc, t2]
  refine ⟨fun _ => ?_, fun z => absurd rfl z⟩
  have fin := k _ _ (H1.ref a1 R2 k2)
  rw [wb311_2155 hc]
  refine ⟨fun _ => ?_, fun z => ?_⟩
  · rw [wb311_2172 hc]; exact fin
  · rw [wb311_2160 hc]
    refine ⟨ow838 R2.1, fun _ => ?_, fun z2 => absurd (lg_fin (by decide) z g1 v2 k2) z2⟩
    rw [wb311_2172 hc]; exact fin
theorem lc_kin (J : Jn L c G V) (hj : 10 * c + 10 ≤ L) (hL : L ≤ 5120) (k : KN L c post) : am_W (am_C am_T 99) am_311 post 2175 [some (.ref 100000), some (.ref 0), some (.ref 334), some (.ref 838), some (.int (wn (10 * c))), none, none, none] [] G := by
  have hc := am_C_one am_T 99
  have c5 : c ≤ 511 := by omega
  rw [wb311_2175 hc]
  refine ⟨J.ia hj hL (t := 1) (by decide), hc.mono (w_kin (d := 86) J.1 (J.rm c5) _) (fun o G1 q => ?_)⟩
  obtain ⟨a1, b1, rfl, g1⟩ := q
  obtain ⟨R1, H1⟩ := J.half c5 a1 b1
  show am_W (am_C am_T 99) am_311 post 2186 _ [.int _] G1
  rw [wb311_2186 hc]
  refine ⟨H1.ia hj hL (t := 1) (by decide), (fM a1.1).1, ?_⟩
  simp only [H1.2.1]
  refine hc.mono (rf_kin (d := 87) R1 _) (fun o G2 q2 => ?_)
  obtain ⟨b, rfl, R2, k2, t2, v2⟩ := OR_e q2
  show am_W (am_C am_T 99) am_311 post 2198 _ [.int b] G2
  rw [wb311_2198 hc]
  refine ⟨(fM R2.1).1, (ct151 (d := 98) R2.1).mpr ?_⟩
  show am_W (am_C am_T 99) am_311 post 2204 _ [.int (am_gI G2 334 0)] G2
  rw [wb311_2204 hc, t2]
  refine ⟨fun _ => ?_, fun z => absurd rfl z⟩
  have fin := k _ _ (H1.ref a1 R2 k2)
  rw [wb311_2211 hc]
  refine ⟨fun _ => ?_, fun z => ?_⟩
  · rw [wb311_2228 hc]; exact fin
  · rw [wb311_2216 hc]
    refine ⟨ow838 R2.1, fun _ => ?_, fun z2 => absurd (lg_fin (by decide) z g1 v2 k2) z2⟩
    rw [wb311_2228 hc]; exact fin
theorem lc_century (J : Jn L c G V) (hj : 10 * c + 10 ≤ L) (hL : L ≤ 5120) (k : KN L c post) : am_W (am_C am_T 99) am_311 post 2231 [some (.ref 100000), some (.ref 0), some (.ref 334), some (.ref 838), some (.int (wn (10 * c))), none, none, none] [] G := by
  have hc := am_C_one am_T 99
  have c5 : c ≤ 511 := by omega
  rw [wb311_2231 hc]
  refine ⟨J.ia hj hL (t := 1) (by decide), J.ia hj hL (t := 2) (by decide), J.ia hj hL (t := 3) (by decide), J.ia hj hL (t := 4) (by decide), hc.mono (w_century (d := 86) J.1 (J.rm c5) _ _ _ _) (fun o G1 q => ?_)⟩
  obtain ⟨a1, b1, rfl, g1⟩ := q
  obtain ⟨R1, H1⟩ := J.half c5 a1 b1
  show am_W (am_C am_T 99) am_311 post 2260 _ [.int _] G1
  rw [wb311_2260 hc]
  refine ⟨H1.ia hj hL (t := 1) (by decide), H1.ia hj hL (t := 2) (by decide), H1.ia hj hL (t := 3) (by decide), H1.ia hj hL (t := 4) (by decide), (fM a1.1).1, ?_⟩
  simp only [H1.2.1]
  refine hc.mono (rf_century (d := 87) R1 _ _ _ _) (fun o G2 q2 => ?_)
  obtain ⟨b, rfl, R2, k2, t2, v2⟩ := OR_e q2
  show am_W (am_C am_T 99) am_311 post 2290 _ [.int b] G2
  rw [wb311_2290 hc]
  refine ⟨(fM R2.1).1, (ct151 (d := 98) R2.1).mpr ?_⟩
  show am_W (am_C am_T 99) am_311 post 2296 _ [.int (am_gI G2 334 0)] G2
  rw [wb311_2296 hc, t2]
  refine ⟨fun _ => ?_, fun z => absurd rfl z⟩
  have fin := k _ _ (H1.ref a1 R2 k2)
  rw [wb311_2303 hc]
  refine ⟨fun _ => ?_, fun z => ?_⟩
  · rw [wb311_2320 hc]; exact fin
  · rw [wb311_2308 hc]
    refine ⟨ow838 R2.1, fun _ => ?_, fun z2 => absurd (lg_fin (by decide) z g1 v2 k2) z2⟩
    rw [wb311_2320 hc]; exact fin
theorem lc_span (J : Jn L c G V) (hj : 10 * c + 10 ≤ L) (hL : L ≤ 5120) (k : KN L c post) : am_W (am_C am_T 99) am_311 post 2323 [some (.ref 100000), some (.ref 0), some (.ref 334), some (.ref 838), some (.int (wn (10 * c))), none, none, none] [] G := by
  have hc := am_C_one am_T 99
  have c5 : c ≤ 511 := by omega
  rw [wb311_2323 hc]
  refine ⟨J.ia hj hL (t := 1) (by decide), J.ia hj hL (t := 2) (by decide), J.ia hj hL (t := 3) (by decide), J.ia hj hL (t := 4) (by decide), J.ia hj hL (t := 5) (by decide), J.ia hj hL (t := 6) (by decide), hc.mono (w_span (d := 86) J.1 (J.rm c5) _ _ _ _ _ _) (fun o G1 q => ?_)⟩
  obtain ⟨a1, b1, rfl, g1⟩ := q
  obtain ⟨R1, H1⟩ := J.half c5 a1 b1
  show am_W (am_C am_T 99) am_311 post 2365 _ [.int _] G1
  rw [wb311_2365 hc]
  refine ⟨H1.ia hj hL (t := 1) (by decide), H1.ia hj hL (t := 2) (by decide), H1.ia hj hL (t := 3) (by decide), H1.ia hj hL (t := 4) (by decide), H1.ia hj hL (t := 5) (by decide), H1.ia hj hL (t := 6) (by decide), (fM a1.1).1, ?_⟩
  simp only [H1.2.1]
  refine hc.mono (rf_span (d := 87) R1 _ _ _ _ _ _) (fun o G2 q2 => ?_)
  obtain ⟨b, rfl, R2, k2, t2, v2⟩ := OR_e q2
  show am_W (am_C am_T 99) am_311 post 2408 _ [.int b] G2
  rw [wb311_2408 hc]
  refine ⟨(fM R2.1).1, (ct151 (d := 98) R2.1).mpr ?_⟩
  show am_W (am_C am_T 99) am_311 post 2414 _ [.int (am_gI G2 334 0)] G2
  rw [wb311_2414 hc, t2]
  refine ⟨fun _ => ?_, fun z => absurd rfl z⟩
  have fin := k _ _ (H1.ref a1 R2 k2)
  rw [wb311_2421 hc]
  refine ⟨fun _ => ?_, fun z => ?_⟩
  · rw [wb311_2438 hc]; exact fin
  · rw [wb311_2426 hc]
    refine ⟨ow838 R2.1, fun _ => ?_, fun z2 => absurd (lg_fin (by decide) z g1 v2 k2) z2⟩
    rw [wb311_2438 hc]; exact fin
theorem lc_sounds (J : Jn L c G V) (hj : 10 * c + 10 ≤ L) (hL : L ≤ 5120) (k : KN L c post) : am_W (am_C am_T 99) am_311 post 1892 [some (.ref 100000), some (.ref 0), some (.ref 334), some (.ref 838), some (.int (wn (10 * c))), none, none, none] [] G := by
  have hc := am_C_one am_T 99
  have c5 : c ≤ 511 := by omega
  rw [wb311_1892 hc]
  refine ⟨J.ia hj hL (t := 1) (by decide), J.ia hj hL (t := 2) (by decide), J.ia hj hL (t := 3) (by decide), J.ia hj hL (t := 4) (by decide), hc.mono (w_sounds (d := 86) J.1 (J.rm c5) _ _ _ _) (fun o G1 q => ?_)⟩
  obtain ⟨a1, b1, rfl, g1⟩ := q
  obtain ⟨R1, H1⟩ := J.half c5 a1 b1
  show am_W (am_C am_T 99) am_311 post 1921 _ [.int _] G1
  rw [wb311_1921 hc]
  refine ⟨H1.ia hj hL (t := 1) (by decide), H1.ia hj hL (t := 2) (by decide), H1.ia hj hL (t := 3) (by decide), H1.ia hj hL (t := 4) (by decide), (fM a1.1).1, ?_⟩
  simp only [H1.2.1]
  refine hc.mono (rf_sounds (d := 87) R1 _ _ _ _) (fun o G2 q2 => ?_)
  obtain ⟨q3, k2, q4⟩ := q2
  generalize hr : sp_sounds _ _ _ _ = r at q3 q4 a1 g1 ⊢
  have fin := k _ _ (H1.ref a1 q3 k2)
  rcases r with v | e
  · obtain ⟨rfl, t2⟩ := q4
    show am_W (am_C am_T 99) am_311 post 1951 _ [.long v] G2
    rw [wb311_1951 hc]
    refine ⟨(fM q3.1).1, (ct151 (d := 98) q3.1).mpr ?_⟩
    show am_W (am_C am_T 99) am_311 post 1957 _ [.int (am_gI G2 334 0)] G2
    rw [wb311_1957 hc, t2]
    refine ⟨fun _ => ?_, fun z => absurd rfl z⟩
    rw [wb311_1964 hc]
    refine ⟨fun _ => ?_, fun z => ?_⟩
    · rw [wb311_1980 hc]; exact fin
    · rw [wb311_1969 hc]
      refine ⟨ow838 q3.1, fun _ => ?_, fun z2 => absurd ?_ z2⟩
      · rw [wb311_1980 hc]; exact fin
      · show lg_cmp (am_gL G2 838 0) v = 0
        rw [k2.2.2.2.2.2 838 0 (by unfold RS; omega), g1 v rfl]
        exact lg_self _
  · obtain ⟨⟨b, rfl⟩, t2⟩ := q4
    show am_W (am_C am_T 99) am_311 post 1951 _ [.long b] G2
    rw [wb311_1951 hc]
    refine ⟨(fM q3.1).1, (ct151 (d := 98) q3.1).mpr ?_⟩
    show am_W (am_C am_T 99) am_311 post 1957 _ [.int (am_gI G2 334 0)] G2
    rw [wb311_1957 hc, t2]
    refine ⟨fun _ => ?_, fun z => absurd rfl z⟩
    rw [wb311_1964 hc]
    refine ⟨fun _ => ?_, fun z => absurd (show ¬ wn 1 = 0 by decide) z⟩
    rw [wb311_1980 hc]; exact fin
theorem lc_feed (J : Jn L c G V) (hj : 10 * c + 10 ≤ L) (hL : L ≤ 5120) (k : KN L c post) : am_W (am_C am_T 99) am_311 post 208 [some (.ref 100000), some (.ref 0), some (.ref 334), some (.ref 838), some (.int (wn (10 * c))), none, none, none] [] G := by
  have hc := am_C_one am_T 99
  have c5 : c ≤ 511 := by omega
  rw [wb311_208 hc]
  refine ⟨J.ia hj hL (t := 1) (by decide), J.ia hj hL (t := 2) (by decide), J.ia hj hL (t := 3) (by decide), J.ia hj hL (t := 4) (by decide), J.ia hj hL (t := 5) (by decide), (fC J.1.1).1, hc.mono (cl_feed (d := 87) J.1 _ _ _ _ _) (fun o G1 q => ?_)⟩
  obtain ⟨a1, b1, rfl⟩ := q
  obtain ⟨R1, H1⟩ := J.half c5 a1 b1.w
  show am_W (am_C am_T 99) am_311 post 242 _ [.int _] G1
  rw [wb311_242 hc]
  refine ⟨H1.ia hj hL (t := 1) (by decide), H1.ia hj hL (t := 2) (by decide), H1.ia hj hL (t := 3) (by decide), H1.ia hj hL (t := 4) (by decide), H1.ia hj hL (t := 5) (by decide), (fM a1.1).1, ?_⟩
  simp only [H1.2.1]
  refine hc.mono (rf_feed (d := 87) R1 _ _ _ _ _) (fun o G2 q2 => ?_)
  obtain ⟨R2, k2, rfl, t2⟩ := q2
  show am_W (am_C am_T 99) am_311 post 276 _ [.int _, .int _] G2
  rw [wb311_276 hc]
  exact ⟨fun _ => k _ _ (H1.ref a1 R2 k2), fun z => absurd rfl z⟩
theorem lc_fault (J : Jn L c G V) (hj : 10 * c + 10 ≤ L) (hL : L ≤ 5120) (k : KN L c post) : am_W (am_C am_T 99) am_311 post 505 [some (.ref 100000), some (.ref 0), some (.ref 334), some (.ref 838), some (.int (wn (10 * c))), none, none, none] [] G := by
  have hc := am_C_one am_T 99
  have c5 : c ≤ 511 := by omega
  rw [wb311_505 hc]
  refine ⟨(fC J.1.1).1, hc.mono (cl_fault (d := 87) J.1) (fun o G1 q => ?_)⟩
  obtain ⟨a1, b1, rfl⟩ := q
  obtain ⟨R1, H1⟩ := J.half c5 a1 b1.w
  show am_W (am_C am_T 99) am_311 post 509 _ [.int _] G1
  rw [wb311_509 hc]
  refine ⟨(fM a1.1).1, ?_⟩
  refine hc.mono (rf_fault (d := 87) R1) (fun o G2 q2 => ?_)
  obtain ⟨R2, k2, rfl, t2⟩ := q2
  show am_W (am_C am_T 99) am_311 post 513 _ [.int _, .int _] G2
  rw [wb311_513 hc]
  exact ⟨fun _ => k _ _ (H1.ref a1 R2 k2), fun z => absurd rfl z⟩
theorem lc_undo (J : Jn L c G V) (hj : 10 * c + 10 ≤ L) (hL : L ≤ 5120) (k : KN L c post) : am_W (am_C am_T 99) am_311 post 518 [some (.ref 100000), some (.ref 0), some (.ref 334), some (.ref 838), some (.int (wn (10 * c))), none, none, none] [] G := by
  have hc := am_C_one am_T 99
  have c5 : c ≤ 511 := by omega
  rw [wb311_518 hc]
  refine ⟨(fC J.1.1).1, hc.mono (cl_undo (d := 87) J.1) (fun o G1 q => ?_)⟩
  obtain ⟨a1, b1, rfl⟩ := q
  obtain ⟨R1, H1⟩ := J.half c5 a1 b1.w
  show am_W (am_C am_T 99) am_311 post 522 _ [.int _] G1
  rw [wb311_522 hc]
  refine ⟨(fM a1.1).1, ?_⟩
  refine hc.mono (rf_undo (d := 87) R1) (fun o G2 q2 => ?_)
  obtain ⟨R2, k2, rfl, t2⟩ := q2
  show am_W (am_C am_T 99) am_311 post 526 _ [.int _, .int _] G2
  rw [wb311_526 hc]
  exact ⟨fun _ => k _ _ (H1.ref a1 R2 k2), fun z => absurd rfl z⟩
theorem lc_suit (J : Jn L c G V) (hj : 10 * c + 10 ≤ L) (hL : L ≤ 5120) (k : KN L c post) : am_W (am_C am_T 99) am_311 post 1279 [some (.ref 100000), some (.ref 0), some (.ref 334), some (.ref 838), some (.int (wn (10 * c))), none, none, none] [] G := by
  have hc := am_C_one am_T 99
  have c5 : c ≤ 511 := by omega
  rw [wb311_1279 hc]
  refine ⟨(fC J.1.1).1, hc.mono (cl_suit (d := 87) J.1) (fun o G1 q => ?_)⟩
  obtain ⟨a1, b1, rfl⟩ := q
  obtain ⟨R1, H1⟩ := J.half c5 a1 b1.w
  show am_W (am_C am_T 99) am_311 post 1283 _ [.int _] G1
  rw [wb311_1283 hc]
  refine ⟨(fM a1.1).1, ?_⟩
  refine hc.mono (rf_suit (d := 79) R1) (fun o G2 q2 => ?_)
  obtain ⟨R2, k2, rfl, t2⟩ := q2
  show am_W (am_C am_T 99) am_311 post 1287 _ [.int _, .int _] G2
  rw [wb311_1287 hc]
  exact ⟨fun _ => k _ _ (H1.ref a1 R2 k2), fun z => absurd rfl z⟩
theorem lc_image (J : Jn L c G V) (hj : 10 * c + 10 ≤ L) (hL : L ≤ 5120) (k : KN L c post) : am_W (am_C am_T 99) am_311 post 2441 [some (.ref 100000), some (.ref 0), some (.ref 334), some (.ref 838), some (.int (wn (10 * c))), none, none, none] [] G := by
  have hc := am_C_one am_T 99
  have c5 : c ≤ 511 := by omega
  rw [wb311_2441 hc]
  refine ⟨(fC J.1.1).1, hc.mono (cl_image (d := 87) J.1) (fun o G1 q => ?_)⟩
  obtain ⟨a1, b1, rfl⟩ := q
  obtain ⟨R1, H1⟩ := J.half c5 a1 b1.w
  show am_W (am_C am_T 99) am_311 post 2445 _ [.int _] G1
  rw [wb311_2445 hc]
  refine ⟨(fM a1.1).1, ?_⟩
  refine hc.mono (rf_image (d := 87) R1) (fun o G2 q2 => ?_)
  obtain ⟨R2, k2, rfl, t2⟩ := q2
  show am_W (am_C am_T 99) am_311 post 2449 _ [.int _, .int _] G2
  rw [wb311_2449 hc]
  exact ⟨fun _ => k _ _ (H1.ref a1 R2 k2), fun z => absurd rfl z⟩
theorem lc_restore (J : Jn L c G V) (hj : 10 * c + 10 ≤ L) (hL : L ≤ 5120) (k : KN L c post) : am_W (am_C am_T 99) am_311 post 2454 [some (.ref 100000), some (.ref 0), some (.ref 334), some (.ref 838), some (.int (wn (10 * c))), none, none, none] [] G := by
  have hc := am_C_one am_T 99
  have c5 : c ≤ 511 := by omega
  rw [wb311_2454 hc]
  refine ⟨(fC J.1.1).1, hc.mono (cl_restore (d := 87) J.1) (fun o G1 q => ?_)⟩
  obtain ⟨a1, b1, rfl⟩ := q
  obtain ⟨R1, H1⟩ := J.half c5 a1 b1.w
  show am_W (am_C am_T 99) am_311 post 2458 _ [.int _] G1
  rw [wb311_2458 hc]
  refine ⟨(fM a1.1).1, ?_⟩
  refine hc.mono (rf_restore (d := 87) R1) (fun o G2 q2 => ?_)
  obtain ⟨R2, k2, rfl, t2⟩ := q2
  show am_W (am_C am_T 99) am_311 post 2462 _ [.int _, .int _] G2
  rw [wb311_2462 hc]
  exact ⟨fun _ => k _ _ (H1.ref a1 R2 k2), fun z => absurd rfl z⟩
theorem lc_status (J : Jn L c G V) (hj : 10 * c + 10 ≤ L) (hL : L ≤ 5120) (k : KN L c post) : am_W (am_C am_T 99) am_311 post 2467 [some (.ref 100000), some (.ref 0), some (.ref 334), some (.ref 838), some (.int (wn (10 * c))), none, none, none] [] G := by
  have hc := am_C_one am_T 99
  have c5 : c ≤ 511 := by omega
  rw [wb311_2467 hc]
  refine ⟨J.ia hj hL (t := 1) (by decide), (fC J.1.1).1, hc.mono (cl_status (d := 87) J.1 _) (fun o G1 q => ?_)⟩
  obtain ⟨a1, b1, rfl⟩ := q
  obtain ⟨R1, H1⟩ := J.half c5 a1 b1.w
  show am_W (am_C am_T 99) am_311 post 2477 _ [.int _] G1
  rw [wb311_2477 hc]
  refine ⟨H1.ia hj hL (t := 1) (by decide), (fM a1.1).1, ?_⟩
  simp only [H1.2.1]
  refine hc.mono (rf_status (d := 87) R1 _) (fun o G2 q2 => ?_)
  obtain ⟨R2, k2, rfl, t2⟩ := q2
  show am_W (am_C am_T 99) am_311 post 2487 _ [.int _, .int _] G2
  rw [wb311_2487 hc]
  exact ⟨fun _ => k _ _ (H1.ref a1 R2 k2), fun z => absurd rfl z⟩
theorem lc_count (J : Jn L c G V) (hj : 10 * c + 10 ≤ L) (hL : L ≤ 5120) (k : KN L c post) : am_W (am_C am_T 99) am_311 post 2492 [some (.ref 100000), some (.ref 0), some (.ref 334), some (.ref 838), some (.int (wn (10 * c))), none, none, none] [] G := by
  have hc := am_C_one am_T 99
  have c5 : c ≤ 511 := by omega
  rw [wb311_2492 hc]
  refine ⟨J.ia hj hL (t := 1) (by decide), (fC J.1.1).1, hc.mono (cl_count (d := 87) J.1 _) (fun o G1 q => ?_)⟩
  obtain ⟨a1, b1, rfl⟩ := q
  obtain ⟨R1, H1⟩ := J.half c5 a1 b1.w
  show am_W (am_C am_T 99) am_311 post 2502 _ [.int _] G1
  rw [wb311_2502 hc]
  refine ⟨H1.ia hj hL (t := 1) (by decide), (fM a1.1).1, ?_⟩
  simp only [H1.2.1]
  refine hc.mono (rf_count (d := 87) R1 _) (fun o G2 q2 => ?_)
  obtain ⟨R2, k2, rfl, t2⟩ := q2
  show am_W (am_C am_T 99) am_311 post 2512 _ [.int _, .int _] G2
  rw [wb311_2512 hc]
  exact ⟨fun _ => k _ _ (H1.ref a1 R2 k2), fun z => absurd rfl z⟩
end
theorem swc_all {x : Int32} {k : Nat → Prop} : ∀ (ts : List Nat) (lo : Int32) (d : Nat), (∀ t ∈ ts, k t) → k d → am_swc x lo ts d k := by
  intro ts
  induction ts with
  | nil => intro lo d _ h; exact h
  | cons t ts ih =>
    intro lo d h hd
    exact ⟨fun _ => h t (List.mem_cons_self ..), fun _ => ih _ d (fun t' ht => h t' (List.mem_cons_of_mem _ ht)) hd⟩
theorem sub10 {L c : Nat} (hL : L ≤ 5120) (hc : c ≤ 600) : (wn L - wn 10 < wn (10 * c)) ↔ L < 10 * c + 10 := by
  by_cases h : 10 ≤ L
  · rw [wn_sub h, wn_lt (by omega) (by omega)]
    omega
  · have key : ∀ L, L < 10 → (wn L - wn 10).toInt < 0 := by decide
    have k1 := key L (by omega)
    rw [Int32.lt_iff_toInt_lt, wn_toInt (n := 10 * c) (by omega)]
    exact ⟨fun _ => by omega, fun _ => by omega⟩
section
variable {G : am_G} {L c : Nat} {V : Vt}
theorem lw_loop (hL : L ≤ 5120) : ∀ (f c : Nat) (G : am_G) (V : Vt), f + c = 513 → c ≤ 512 → 10 * c ≤ L → Jn L c G V → am_W (am_C am_T 99) am_311 (fun o _ => o = .inl (some (.int 1))) 23 [some (.ref 100000), some (.ref 0), some (.ref 334), some (.ref 838), some (.int (wn (10 * c))), none, none, none] [] G := by
  have hc := am_C_one am_T 99
  intro f
  induction f with
  | zero => intro c G V h h2; omega
  | succ f ih =>
    intro c G V hf hc5 h10 J
    have hK : (am_K G).length ≤ 90000 := J.2.2.1.1
    have hl : am_ln G 100000 = L := by
      unfold am_ln
      rw [List.getElem?_eq_none (by omega)]
      exact J.2.2.2.1
    rw [wb311_23 hc, hl]
    refine ⟨Or.inr (Or.inl (Or.inl rfl)), fun z => ?_, fun z => ?_⟩
    · rw [wb311_2523 hc]
      exact ⟨Or.inr rfl, rfl⟩
    · have hj : 10 * c + 10 ≤ L := by
        have : ¬ L < 10 * c + 10 := fun y => z ((sub10 hL (by omega)).mpr y)
        omega
      have k : KN L c (fun o _ => o = .inl (some (.int 1))) := fun V' G' J' => by
        rw [wb311_2517 hc]
        have := ih (c + 1) G' V' (by omega) (by omega) (by omega) J'
        have e : wn (10 * c) + (10 : Int32) = wn (10 * (c + 1)) := by
          rw [show (10 : Int32) = wn 10 from rfl, wn_add]
          congr 1
        rw [e]
        exact this
      rw [wb311_33 hc]
      refine ⟨(by have := J.ia hj hL (t := 0) (by decide); rw [wn_add] at this; exact this), swc_all _ _ _ (fun t ht => ?_) ?_⟩
      · simp only [List.mem_cons, List.not_mem_nil, or_false] at ht
        rcases ht with rfl | rfl | rfl | rfl | rfl | rfl | rfl | rfl | rfl | rfl | rfl | rfl | rfl | rfl | rfl | rfl | rfl | rfl | rfl | rfl | rfl | rfl | rfl | rfl | rfl | rfl | rfl | rfl | rfl | rfl | rfl | rfl | rfl | rfl | rfl | rfl | rfl | rfl
        · exact lc_feed J hj hL k
        · exact lc_dist J hj hL k
        · exact lc_law J hj hL k
        · exact lc_work J hj hL k
        · exact lc_book J hj hL k
        · exact lc_fault J hj hL k
        · exact lc_undo J hj hL k
        · exact lc_told J hj hL k
        · exact lc_bell J hj hL k
        · exact lc_house J hj hL k
        · exact lc_deed J hj hL k
        · exact lc_temper J hj hL k
        · exact lc_heard J hj hL k
        · exact lc_would J hj hL k
        · exact lc_ahead J hj hL k
        · exact lc_sleeps J hj hL k
        · exact lc_rouse J hj hL k
        · exact lc_suit J hj hL k
        · exact lc_suited J hj hL k
        · exact lc_pulls J hj hL k
        · exact lc_cast J hj hL k
        · exact lc_ask J hj hL k
        · exact lc_changes J hj hL k
        · exact lc_next J hj hL k
        · exact lc_within J hj hL k
        · exact lc_place J hj hL k
        · exact lc_ringers J hj hL k
        · exact lc_sounds J hj hL k
        · exact lc_metal J hj hL k
        · exact lc_loudest J hj hL k
        · exact lc_deaf J hj hL k
        · exact lc_kin J hj hL k
        · exact lc_century J hj hL k
        · exact lc_span J hj hL k
        · exact lc_image J hj hL k
        · exact lc_restore J hj hL k
        · exact lc_status J hj hL k
        · exact lc_count J hj hL k
      · have J' : Jn L (c + 1) G V := ⟨J.1, J.2.1, J.2.2.1, J.2.2.2.1, by have := J.2.2.2.2.1; omega, by have := J.2.2.2.2.2; omega⟩
        exact k V G J'
end
