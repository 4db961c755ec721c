/-! The text of a district: what it says, and the object's reading of it. -/
def pb {α β : Type} (x : PR α) (f : α → PR β) : PR β := match x with
  | .inl e => .inl e
  | .inr y => f y
def mkD (B H D W : Nat) (m l f e h k n : Nat → Nat) : Dt := (B, H, D, W, m, l, f, e, h, k, n)
def δ0 : Dt := mkD 0 0 0 0 (fun _ => 0) (fun _ => 0) (fun _ => 0) (fun _ => 0) (fun _ => 0) (fun _ => 0) (fun _ => 0)
def addB (δ : Dt) (v w : Nat) : Dt := mkD (dB δ + 1) (dH δ) (dD δ) (dW δ) (up1 (bM δ) (dB δ) v) (up1 (bL δ) (dB δ) w) (hF δ) (hE δ) (eH δ) (eM δ) (eN δ)
def addH (δ : Dt) (v w : Nat) : Dt := mkD (dB δ) (dH δ + 1) (dD δ) (dW δ) (bM δ) (bL δ) (up1 (hF δ) (dH δ) v) (up1 (hE δ) (dH δ) w) (eH δ) (eM δ) (eN δ)
def addE (δ : Dt) (u v w : Nat) : Dt := mkD (dB δ) (dH δ) (dD δ + 1) (dW δ) (bM δ) (bL δ) (hF δ) (hE δ) (up1 (eH δ) (dD δ) u) (up1 (eM δ) (dD δ) v) (up1 (eN δ) (dD δ) w)
def setW (δ : Dt) (v : Nat) : Dt := mkD (dB δ) (dH δ) (dD δ) v (bM δ) (bL δ) (hF δ) (hE δ) (eH δ) (eM δ) (eN δ)
def pbell (t : Nat → Nat) (n q p0 : Nat) (δ : Dt) : PR (Nat × Dt) := if dB δ = 6 then .inl (3, p0) else pb (pnum t n q 0 10) (fun x => pb (pnum t n x.2 1 61) (fun y => .inr (y.2, addB δ x.1 y.1)))
def phous (t : Nat → Nat) (n q p0 : Nat) (δ : Dt) : PR (Nat × Dt) := if dH δ = 7 then .inl (3, p0) else pb (pnum t n q 0 31) (fun x => pb (pnum t n x.2 0 10) (fun y => .inr (y.2, addH δ x.1 y.1)))
def pdeed (t : Nat → Nat) (n q p0 : Nat) (δ : Dt) : PR (Nat × Dt) := if dD δ = 8 then .inl (3, p0) else pb (pnum t n q 0 (dH δ)) (fun x => pb (pnum t n x.2 0 10) (fun y => pb (pnum t n y.2 1 201) (fun z => .inr (z.2, addE δ x.1 y.1 z.1))))
def pdamp (t : Nat → Nat) (n q : Nat) (δ : Dt) : PR (Nat × Dt) := pb (pnum t n q 0 10) (fun x => .inr (x.2, setW δ x.1))
def pbody (t : Nat → Nat) (n q p0 : Nat) (δ : Dt) (k : Nat) : PR (Nat × Dt) := if k = 0 then pbell t n q p0 δ else if k = 1 then phous t n q p0 δ else if k = 2 then pdeed t n q p0 δ else pdamp t n q δ
def pcl (t : Nat → Nat) (n p c : Nat) (δ : Dt) : PR (Nat × Dt) := match wi0 (wrd t n p) with
  | none => .inl (1, p)
  | some k => if c = 60 then .inl (3, p) else pb (pbody t n (skb t n (lte t n p)) p δ k) (fun x => pb (psgn t n x.1 59) (fun q => .inr (q, x.2)))
def pds (t : Nat → Nat) (n : Nat) : Nat → Nat → Nat → Dt → PR Dt
  | 0, _, _, δ => .inr δ
  | f + 1, p, c, δ => if n ≤ p then .inr δ else pb (pcl t n p c δ) (fun x => pds t n f x.1 (c + 1) x.2)
theorem vD0 : vD δ0 := ⟨by decide, by decide, by decide, by decide, fun b hb => absurd hb (Nat.not_lt_zero b), fun b hb => absurd hb (Nat.not_lt_zero b), fun b hb => absurd hb (Nat.not_lt_zero b)⟩
theorem vD_addB {δ : Dt} {v w : Nat} (h : vD δ) (hB : dB δ < 6) (hv : v < 10) (h1 : 1 ≤ w) (h2 : w < 61) : vD (addB δ v w) := by
  obtain ⟨a1, a2, a3, a4, a5, a6, a7⟩ := h
  refine ⟨show dB δ + 1 ≤ 6 by omega, a2, a3, a4, fun b hb => ?_, a6, a7⟩
  change b < dB δ + 1 at hb
  show up1 (bM δ) (dB δ) v b ≤ 9 ∧ 1 ≤ up1 (bL δ) (dB δ) w b ∧ up1 (bL δ) (dB δ) w b ≤ 60
  by_cases e : b = dB δ
  · rw [e, up1_s, up1_s]; omega
  · rw [up1_o _ _ e, up1_o _ _ e]; exact a5 b (by omega)
theorem vD_addH {δ : Dt} {v w : Nat} (h : vD δ) (hB : dH δ < 7) (hv : v < 31) (h2 : w < 10) : vD (addH δ v w) := by
  obtain ⟨a1, a2, a3, a4, a5, a6, a7⟩ := h
  refine ⟨a1, show dH δ + 1 ≤ 7 by omega, a3, a4, a5, fun b hb => ?_, fun e he => ?_⟩
  · change b < dH δ + 1 at hb
    show up1 (hF δ) (dH δ) v b ≤ 30 ∧ up1 (hE δ) (dH δ) w b ≤ 9
    by_cases e : b = dH δ
    · rw [e, up1_s, up1_s]; omega
    · rw [up1_o _ _ e, up1_o _ _ e]; exact a6 b (by omega)
  · have := a7 e he
    show eH δ e < dH δ + 1 ∧ _
    exact ⟨by omega, this.2⟩
theorem vD_addE {δ : Dt} {u v w : Nat} (h : vD δ) (hB : dD δ < 8) (hu : u < dH δ) (hv : v < 10) (h1 : 1 ≤ w) (h2 : w < 201) : vD (addE δ u v w) := by
  obtain ⟨a1, a2, a3, a4, a5, a6, a7⟩ := h
  refine ⟨a1, a2, show dD δ + 1 ≤ 8 by omega, a4, a5, a6, fun b hb => ?_⟩
  change b < dD δ + 1 at hb
  show up1 (eH δ) (dD δ) u b < dH δ ∧ up1 (eM δ) (dD δ) v b ≤ 9 ∧ 1 ≤ up1 (eN δ) (dD δ) w b ∧ up1 (eN δ) (dD δ) w b ≤ 200
  by_cases e : b = dD δ
  · rw [e, up1_s, up1_s, up1_s]; omega
  · rw [up1_o _ _ e, up1_o _ _ e, up1_o _ _ e]; exact a7 b (by omega)
theorem vD_setW {δ : Dt} {v : Nat} (h : vD δ) (hv : v < 10) : vD (setW δ v) := by
  obtain ⟨a1, a2, a3, a4, a5, a6, a7⟩ := h
  exact ⟨a1, a2, a3, show v ≤ 9 by omega, a5, a6, a7⟩
theorem pb_ok {α β : Type} {x : PR α} {f : α → PR β} {r : β} (h : pb x f = .inr r) : ∃ y, x = .inr y ∧ f y = .inr r := by
  cases x with
  | inl e => cases h
  | inr y => exact ⟨y, rfl, h⟩
theorem pbody_ok {t : Nat → Nat} {n q p0 k q' : Nat} {δ δ' : Dt} (hq : q ≤ n) (hv : vD δ) (h : pbody t n q p0 δ k = .inr (q', δ')) : q < q' ∧ q' ≤ n ∧ skb t n q' = q' ∧ vD δ' := by
  unfold pbody at h
  split at h
  · unfold pbell at h
    split at h
    · cases h
    · obtain ⟨x, hx, h⟩ := pb_ok h
      obtain ⟨y, hy, h⟩ := pb_ok h
      have a := pnum_ok hq hx
      have b := pnum_ok a.2.2.2.2.2.1 hy
      simp only [Sum.inr.injEq, Prod.mk.injEq] at h
      obtain ⟨rfl, rfl⟩ := h
      exact ⟨by omega, b.2.2.2.2.2.1, b.2.2.2.2.2.2, vD_addB hv (by have := hv.1; omega) a.2.2.2.1 b.2.2.1 b.2.2.2.1⟩
  · split at h
    · unfold phous at h
      split at h
      · cases h
      · obtain ⟨x, hx, h⟩ := pb_ok h
        obtain ⟨y, hy, h⟩ := pb_ok h
        have a := pnum_ok hq hx
        have b := pnum_ok a.2.2.2.2.2.1 hy
        simp only [Sum.inr.injEq, Prod.mk.injEq] at h
        obtain ⟨rfl, rfl⟩ := h
        exact ⟨by omega, b.2.2.2.2.2.1, b.2.2.2.2.2.2, vD_addH hv (by have := hv.2.1; omega) a.2.2.2.1 b.2.2.2.1⟩
    · split at h
      · unfold pdeed at h
        split at h
        · cases h
        · obtain ⟨x, hx, h⟩ := pb_ok h
          obtain ⟨y, hy, h⟩ := pb_ok h
          obtain ⟨z, hz, h⟩ := pb_ok h
          have a := pnum_ok hq hx
          have b := pnum_ok a.2.2.2.2.2.1 hy
          have c := pnum_ok b.2.2.2.2.2.1 hz
          simp only [Sum.inr.injEq, Prod.mk.injEq] at h
          obtain ⟨rfl, rfl⟩ := h
          exact ⟨by omega, c.2.2.2.2.2.1, c.2.2.2.2.2.2, vD_addE hv (by have := hv.2.2.1; omega) a.2.2.2.1 b.2.2.2.1 c.2.2.1 c.2.2.2.1⟩
      · obtain ⟨x, hx, h⟩ := pb_ok h
        have a := pnum_ok hq hx
        simp only [Sum.inr.injEq, Prod.mk.injEq] at h
        obtain ⟨rfl, rfl⟩ := h
        exact ⟨a.2.2.2.2.1, a.2.2.2.2.2.1, a.2.2.2.2.2.2, vD_setW hv a.2.2.2.1⟩
theorem kD {a : Nat} (h : a = 4 ∨ a = 12) : kk0[a + 1]? = some (100, 6) ∧ kk0[a + 2]? = some (100, 6) ∧ kk0[a + 3]? = some (100, 7) ∧ kk0[a + 4]? = some (100, 7) ∧ kk0[a + 5]? = some (100, 8) ∧ kk0[a + 6]? = some (100, 8) ∧ kk0[a + 7]? = some (100, 8) := by
  rcases h with rfl | rfl <;> decide +kernel
def DS (a : Nat) : Nat → Nat → Prop := fun b _ => b = 1 ∨ (a ≤ b ∧ b ≤ a + 7)
section
variable {G : am_G} {d n p o a p0 : Nat} {t : Nat → Nat} {δ : Dt} {post : am_O → am_G → Prop}
theorem rT.wI {G : am_G} {t : Nat → Nat} {n p o a i : Nat} (h : rT G t n p o) (v : Int32) (ha : 2 < a) : rT (am_wI G a i v) t n p o := h.kp (Sc := fun b _ => b = a) ((Kp.refl G).wI (by exact rfl) v) (fun b j z => by omega)

theorem ct12 (hsh : Sh G) (h : rT G t n p o) (ha : a = 4 ∨ a = 12) (hr : rD G a δ) (hv : vD δ) (hs : am_gI G 1 4 = wn p0)
    (kok : ∀ q δ' G', pbell t n p p0 δ = .inr (q, δ') → rT G' t n q o → rD G' a δ' → Kp (DS a) G G' → post (.inl (some (.int (wn 1)))) G')
    (kbad : ∀ k w G', pbell t n p p0 δ = .inl (k, w) → fT G' k w → Kp (DS a) G G' → post (.inl (some (.int (wn 0)))) G') : am_C am_T (d + 4) 12 [.ref a, .ref 1] G post := by
  have hc := am_C_one am_T (d + 3)
  obtain ⟨r1, r2, r3, r4, r5, r6, r7⟩ := hr
  have hkD := kD ha
  unfold pbell at kok kbad
  rw [we12]
  by_cases c : dB δ = 6
  · rw [if_pos c] at kok kbad
    simp +decide (disch := omega) only [↓wm1, wb12_0 hc, wb12_9 hc, wb12_18 hc, w0, w1, w3, w6, w9, w60, rI_wI, rP_wI, rL_wI, rI_wR, rP_wR, is_wI, is_wR, ia_wI, ia_wR, ow_wI, ow_wR, wn_add, wn_mul, wn_cl, wn_le, wn_lt, wn_inj, wn_ne1, wn_1ne, wn_gt1, wn_le1, nb0, nb1, am_kt, am_rt, List.cons_append, List.nil_append, true_and, and_true, not_true_eq_false, not_false_eq_true, imp_f, imp_t, implies_true, Nat.zero_add, if_true, if_false, fD hsh ha, r1, c, i1 hsh, hs, ct66 hsh]
    exact kbad 3 p0 _ rfl (fT_of h.2.2.2.2.2.1 3 p0) ((kp_f G 3 p0).mono (fun _ _ z => Or.inl z))
  · rw [if_neg c] at kok kbad
    have c2 : dB δ < 6 := by have := hv.1; omega
    simp +decide (disch := omega) only [↓wm1, wb12_0 hc, wb12_19 hc, w0, w1, w3, w6, w9, w60, rI_wI, rP_wI, rL_wI, rI_wR, rP_wR, is_wI, is_wR, ia_wI, ia_wR, ow_wI, ow_wR, wn_add, wn_mul, wn_cl, wn_le, wn_lt, wn_inj, wn_ne1, wn_1ne, wn_gt1, wn_le1, nb0, nb1, am_kt, am_rt, List.cons_append, List.nil_append, true_and, and_true, not_true_eq_false, not_false_eq_true, imp_f, imp_t, implies_true, Nat.zero_add, if_true, if_false, fD hsh ha, r1, c2, i1 hsh]
    refine ct74 (a := a + 1) (w := 6) (i := dB δ) (lo := 0) (hi := 10) hsh h hkD.1 (by omega) c2 (by decide) rfl (by decide) (by decide) (fun v q1 G1 e1 h1 f1 k1 => ?_) (fun k G1 e1 h1 k1 => ?_)
    · rw [e1] at kok kbad
      have s1 := hsh.kp k1
      have g1 : am_gI G1 a 0 = wn (dB δ) := by rw [k1.i (by omega)]; exact r1
      simp +decide (disch := omega) only [↓wm1, wb12_34 hc, wb12_37 hc, w0, w1, w3, w6, w9, w60, rI_wI, rP_wI, rL_wI, rI_wR, rP_wR, is_wI, is_wR, ia_wI, ia_wR, ow_wI, ow_wR, wn_add, wn_mul, wn_cl, wn_le, wn_lt, wn_inj, wn_ne1, wn_1ne, wn_gt1, wn_le1, nb0, nb1, am_kt, am_rt, List.cons_append, List.nil_append, true_and, and_true, not_true_eq_false, not_false_eq_true, imp_f, imp_t, implies_true, Nat.zero_add, if_true, if_false, fD s1 ha, g1, i1 s1]
      refine ct74 (a := a + 2) (w := 6) (i := dB δ) (lo := 1) (hi := 61) s1 h1 hkD.2.1 (by omega) c2 (by decide) rfl (by decide) (by decide) (fun w q2 G2 e2 h2 f2 k2 => ?_) (fun k G2 e2 h2 k2 => ?_)
      · simp only [pb, e2] at kok
        have s2 := s1.kp k2
        have g2 : am_gI G2 a 0 = wn (dB δ) := by rw [k2.i (by omega)]; exact g1
        simp +decide (disch := omega) only [↓wm1, wb12_52 hc, wb12_57 hc, w0, w1, w3, w6, w9, w60, rI_wI, rP_wI, rL_wI, rI_wR, rP_wR, is_wI, is_wR, ia_wI, ia_wR, ow_wI, ow_wR, wn_add, wn_mul, wn_cl, wn_le, wn_lt, wn_inj, wn_ne1, wn_1ne, wn_gt1, wn_le1, nb0, nb1, am_kt, am_rt, List.cons_append, List.nil_append, true_and, and_true, not_true_eq_false, not_false_eq_true, imp_f, imp_t, implies_true, Nat.zero_add, if_true, if_false, fD s2 ha, g2]
        have kk : ∀ b j, a ≤ b → b ≤ a + 7 → ¬ (b = a + 1 ∧ j = dB δ) → ¬ (b = a + 2 ∧ j = dB δ) → ¬ (b = a ∧ j = 0) → am_gI (am_wI G2 a 0 (wn (dB δ + 1))) b j = am_gI G b j := by
          intro b j z1 z2 z3 z4 z5
          rw [rI_wI, if_neg z5, k2.i (by omega), k1.i (by omega)]
        refine kok q2 (addB δ v w) _ rfl (h2.wI _ (by omega)) ⟨?_, ?_, ?_, ?_, fun b hb => ?_, fun b hb => ?_, fun b hb => ?_⟩ ?_
        · rw [rI_wI, if_pos ⟨rfl, rfl⟩]; rfl
        · rw [kk _ _ (by omega) (by omega) (by omega) (by omega) (by omega)]; exact r2
        · rw [kk _ _ (by omega) (by omega) (by omega) (by omega) (by omega)]; exact r3
        · rw [kk _ _ (by omega) (by omega) (by omega) (by omega) (by omega)]; exact r4
        · change b < dB δ + 1 at hb
          show am_gI _ (a + 1) b = wn (up1 (bM δ) (dB δ) v b) ∧ am_gI _ (a + 2) b = wn (up1 (bL δ) (dB δ) w b)
          by_cases e : b = dB δ
          · subst e
            rw [up1_s, up1_s, rI_wI, if_neg (by omega), k2.i (by omega), rI_wI, if_neg (by omega)]
            exact ⟨f1, f2⟩
          · rw [up1_o _ _ e, up1_o _ _ e, kk _ _ (by omega) (by omega) (by omega) (by omega) (by omega), kk _ _ (by omega) (by omega) (by omega) (by omega) (by omega)]
            exact r5 b (by omega)
        · rw [kk _ _ (by omega) (by omega) (by omega) (by omega) (by omega), kk _ _ (by omega) (by omega) (by omega) (by omega) (by omega)]
          exact r6 b hb
        · rw [kk _ _ (by omega) (by omega) (by omega) (by omega) (by omega), kk _ _ (by omega) (by omega) (by omega) (by omega) (by omega), kk _ _ (by omega) (by omega) (by omega) (by omega) (by omega)]
          exact r7 b hb
        · exact ((k1.mono (fun _ _ z => by unfold DS; omega)).trans (k2.mono (fun _ _ z => by unfold DS; omega))).wI (Or.inr ⟨by omega, by omega⟩) _
      · simp only [pb, e2] at kbad
        simp +decide (disch := omega) only [↓wm1, wb12_52 hc, wb12_55 hc, w0, w1, w3, w6, w9, w60, rI_wI, rP_wI, rL_wI, rI_wR, rP_wR, is_wI, is_wR, ia_wI, ia_wR, ow_wI, ow_wR, wn_add, wn_mul, wn_cl, wn_le, wn_lt, wn_inj, wn_ne1, wn_1ne, wn_gt1, wn_le1, nb0, nb1, am_kt, am_rt, List.cons_append, List.nil_append, true_and, and_true, not_true_eq_false, not_false_eq_true, imp_f, imp_t, implies_true, Nat.zero_add, if_true, if_false]
        exact kbad k _ G2 rfl h2 ((k1.mono (fun _ _ z => by unfold DS; omega)).trans (k2.mono (fun _ _ z => Or.inl z)))
    · rw [e1] at kbad
      simp +decide (disch := omega) only [↓wm1, wb12_34 hc, wb12_55 hc, w0, w1, w3, w6, w9, w60, rI_wI, rP_wI, rL_wI, rI_wR, rP_wR, is_wI, is_wR, ia_wI, ia_wR, ow_wI, ow_wR, wn_add, wn_mul, wn_cl, wn_le, wn_lt, wn_inj, wn_ne1, wn_1ne, wn_gt1, wn_le1, nb0, nb1, am_kt, am_rt, List.cons_append, List.nil_append, true_and, and_true, not_true_eq_false, not_false_eq_true, imp_f, imp_t, implies_true, Nat.zero_add, if_true, if_false]
      exact kbad k _ G1 rfl h1 (k1.mono (fun _ _ z => Or.inl z))
theorem ct13 (hsh : Sh G) (h : rT G t n p o) (ha : a = 4 ∨ a = 12) (hr : rD G a δ) (hv : vD δ) (hs : am_gI G 1 4 = wn p0)
    (kok : ∀ q δ' G', phous t n p p0 δ = .inr (q, δ') → rT G' t n q o → rD G' a δ' → Kp (DS a) G G' → post (.inl (some (.int (wn 1)))) G')
    (kbad : ∀ k w G', phous t n p p0 δ = .inl (k, w) → fT G' k w → Kp (DS a) G G' → post (.inl (some (.int (wn 0)))) G') : am_C am_T (d + 4) 13 [.ref a, .ref 1] G post := by
  have hc := am_C_one am_T (d + 3)
  obtain ⟨r1, r2, r3, r4, r5, r6, r7⟩ := hr
  have hkD := kD ha
  unfold phous at kok kbad
  rw [we13]
  by_cases c : dH δ = 7
  · rw [if_pos c] at kok kbad
    simp +decide (disch := omega) only [↓wm1, wb13_0 hc, wb13_9 hc, wb13_18 hc, w0, w1, w3, w7, w9, w30, rI_wI, rP_wI, rL_wI, rI_wR, rP_wR, is_wI, is_wR, ia_wI, ia_wR, ow_wI, ow_wR, wn_add, wn_mul, wn_cl, wn_le, wn_lt, wn_inj, wn_ne1, wn_1ne, wn_gt1, wn_le1, nb0, nb1, am_kt, am_rt, List.cons_append, List.nil_append, true_and, and_true, not_true_eq_false, not_false_eq_true, imp_f, imp_t, implies_true, Nat.zero_add, if_true, if_false, fD hsh ha, r2, c, i1 hsh, hs, ct66 hsh]
    exact kbad 3 p0 _ rfl (fT_of h.2.2.2.2.2.1 3 p0) ((kp_f G 3 p0).mono (fun _ _ z => Or.inl z))
  · rw [if_neg c] at kok kbad
    have c2 : dH δ < 7 := by have := hv.2.1; omega
    simp +decide (disch := omega) only [↓wm1, wb13_0 hc, wb13_19 hc, w0, w1, w3, w7, w9, w30, rI_wI, rP_wI, rL_wI, rI_wR, rP_wR, is_wI, is_wR, ia_wI, ia_wR, ow_wI, ow_wR, wn_add, wn_mul, wn_cl, wn_le, wn_lt, wn_inj, wn_ne1, wn_1ne, wn_gt1, wn_le1, nb0, nb1, am_kt, am_rt, List.cons_append, List.nil_append, true_and, and_true, not_true_eq_false, not_false_eq_true, imp_f, imp_t, implies_true, Nat.zero_add, if_true, if_false, fD hsh ha, r2, c2, i1 hsh]
    refine ct74 (a := a + 3) (w := 7) (i := dH δ) (lo := 0) (hi := 31) hsh h hkD.2.2.1 (by omega) c2 (by decide) rfl (by decide) (by decide) (fun v q1 G1 e1 h1 f1 k1 => ?_) (fun k G1 e1 h1 k1 => ?_)
    · rw [e1] at kok kbad
      have s1 := hsh.kp k1
      have g1 : am_gI G1 a 3 = wn (dH δ) := by rw [k1.i (by omega)]; exact r2
      simp +decide (disch := omega) only [↓wm1, wb13_34 hc, wb13_37 hc, w0, w1, w3, w7, w9, w30, rI_wI, rP_wI, rL_wI, rI_wR, rP_wR, is_wI, is_wR, ia_wI, ia_wR, ow_wI, ow_wR, wn_add, wn_mul, wn_cl, wn_le, wn_lt, wn_inj, wn_ne1, wn_1ne, wn_gt1, wn_le1, nb0, nb1, am_kt, am_rt, List.cons_append, List.nil_append, true_and, and_true, not_true_eq_false, not_false_eq_true, imp_f, imp_t, implies_true, Nat.zero_add, if_true, if_false, fD s1 ha, g1, i1 s1]
      refine ct74 (a := a + 4) (w := 7) (i := dH δ) (lo := 0) (hi := 10) s1 h1 hkD.2.2.2.1 (by omega) c2 (by decide) rfl (by decide) (by decide) (fun w q2 G2 e2 h2 f2 k2 => ?_) (fun k G2 e2 h2 k2 => ?_)
      · simp only [pb, e2] at kok
        have s2 := s1.kp k2
        have g2 : am_gI G2 a 3 = wn (dH δ) := by rw [k2.i (by omega)]; exact g1
        simp +decide (disch := omega) only [↓wm1, wb13_52 hc, wb13_57 hc, w0, w1, w3, w7, w9, w30, rI_wI, rP_wI, rL_wI, rI_wR, rP_wR, is_wI, is_wR, ia_wI, ia_wR, ow_wI, ow_wR, wn_add, wn_mul, wn_cl, wn_le, wn_lt, wn_inj, wn_ne1, wn_1ne, wn_gt1, wn_le1, nb0, nb1, am_kt, am_rt, List.cons_append, List.nil_append, true_and, and_true, not_true_eq_false, not_false_eq_true, imp_f, imp_t, implies_true, Nat.zero_add, if_true, if_false, fD s2 ha, g2]
        have kk : ∀ b j, a ≤ b → b ≤ a + 7 → ¬ (b = a + 3 ∧ j = dH δ) → ¬ (b = a + 4 ∧ j = dH δ) → ¬ (b = a ∧ j = 3) → am_gI (am_wI G2 a 3 (wn (dH δ + 1))) b j = am_gI G b j := by
          intro b j z1 z2 z3 z4 z5
          rw [rI_wI, if_neg z5, k2.i (by omega), k1.i (by omega)]
        refine kok q2 (addH δ v w) _ rfl (h2.wI _ (by omega)) ⟨?_, ?_, ?_, ?_, fun b hb => ?_, fun b hb => ?_, fun b hb => ?_⟩ ?_
        · rw [kk _ _ (by omega) (by omega) (by omega) (by omega) (by omega)]; exact r1
        · rw [rI_wI, if_pos ⟨rfl, rfl⟩]; rfl
        · rw [kk _ _ (by omega) (by omega) (by omega) (by omega) (by omega)]; exact r3
        · rw [kk _ _ (by omega) (by omega) (by omega) (by omega) (by omega)]; exact r4
        · rw [kk _ _ (by omega) (by omega) (by omega) (by omega) (by omega), kk _ _ (by omega) (by omega) (by omega) (by omega) (by omega)]
          exact r5 b hb
        · change b < dH δ + 1 at hb
          show am_gI _ (a + 3) b = wn (up1 (hF δ) (dH δ) v b) ∧ am_gI _ (a + 4) b = wn (up1 (hE δ) (dH δ) w b)
          by_cases e : b = dH δ
          · subst e
            rw [up1_s, up1_s, rI_wI, if_neg (by omega), k2.i (by omega), rI_wI, if_neg (by omega)]
            exact ⟨f1, f2⟩
          · rw [up1_o _ _ e, up1_o _ _ e, kk _ _ (by omega) (by omega) (by omega) (by omega) (by omega), kk _ _ (by omega) (by omega) (by omega) (by omega) (by omega)]
            exact r6 b (by omega)
        · rw [kk _ _ (by omega) (by omega) (by omega) (by omega) (by omega), kk _ _ (by omega) (by omega) (by omega) (by omega) (by omega), kk _ _ (by omega) (by omega) (by omega) (by omega) (by omega)]
          exact r7 b hb
        · exact ((k1.mono (fun _ _ z => by unfold DS; omega)).trans (k2.mono (fun _ _ z => by unfold DS; omega))).wI (Or.inr ⟨by omega, by omega⟩) _
      · simp only [pb, e2] at kbad
        simp +decide (disch := omega) only [↓wm1, wb13_52 hc, wb13_55 hc, w0, w1, w3, w7, w9, w30, rI_wI, rP_wI, rL_wI, rI_wR, rP_wR, is_wI, is_wR, ia_wI, ia_wR, ow_wI, ow_wR, wn_add, wn_mul, wn_cl, wn_le, wn_lt, wn_inj, wn_ne1, wn_1ne, wn_gt1, wn_le1, nb0, nb1, am_kt, am_rt, List.cons_append, List.nil_append, true_and, and_true, not_true_eq_false, not_false_eq_true, imp_f, imp_t, implies_true, Nat.zero_add, if_true, if_false]
        exact kbad k _ G2 rfl h2 ((k1.mono (fun _ _ z => by unfold DS; omega)).trans (k2.mono (fun _ _ z => Or.inl z)))
    · rw [e1] at kbad
      simp +decide (disch := omega) only [↓wm1, wb13_34 hc, wb13_55 hc, w0, w1, w3, w7, w9, w30, rI_wI, rP_wI, rL_wI, rI_wR, rP_wR, is_wI, is_wR, ia_wI, ia_wR, ow_wI, ow_wR, wn_add, wn_mul, wn_cl, wn_le, wn_lt, wn_inj, wn_ne1, wn_1ne, wn_gt1, wn_le1, nb0, nb1, am_kt, am_rt, List.cons_append, List.nil_append, true_and, and_true, not_true_eq_false, not_false_eq_true, imp_f, imp_t, implies_true, Nat.zero_add, if_true, if_false]
      exact kbad k _ G1 rfl h1 (k1.mono (fun _ _ z => Or.inl z))
theorem ct14 (hsh : Sh G) (h : rT G t n p o) (ha : a = 4 ∨ a = 12) (hr : rD G a δ) (hv : vD δ) (hs : am_gI G 1 4 = wn p0)
    (kok : ∀ q δ' G', pdeed t n p p0 δ = .inr (q, δ') → rT G' t n q o → rD G' a δ' → Kp (DS a) G G' → post (.inl (some (.int (wn 1)))) G')
    (kbad : ∀ k w G', pdeed t n p p0 δ = .inl (k, w) → fT G' k w → Kp (DS a) G G' → post (.inl (some (.int (wn 0)))) G') : am_C am_T (d + 4) 14 [.ref a, .ref 1] G post := by
  have hc := am_C_one am_T (d + 3)
  obtain ⟨r1, r2, r3, r4, r5, r6, r7⟩ := hr
  have hkD := kD ha
  unfold pdeed at kok kbad
  rw [we14]
  by_cases c : dD δ = 8
  · rw [if_pos c] at kok kbad
    simp +decide (disch := omega) only [↓wm1, wb14_0 hc, wb14_9 hc, wb14_18 hc, w0, w1, w3, w8, w9, w200, rI_wI, rP_wI, rL_wI, rI_wR, rP_wR, is_wI, is_wR, ia_wI, ia_wR, ow_wI, ow_wR, wn_add, wn_mul, wn_cl, wn_le, wn_lt, wn_inj, wn_ne1, wn_1ne, wn_gt1, wn_le1, nb0, nb1, am_kt, am_rt, List.cons_append, List.nil_append, true_and, and_true, not_true_eq_false, not_false_eq_true, imp_f, imp_t, implies_true, Nat.zero_add, if_true, if_false, fD hsh ha, r3, c, i1 hsh, hs, ct66 hsh]
    exact kbad 3 p0 _ rfl (fT_of h.2.2.2.2.2.1 3 p0) ((kp_f G 3 p0).mono (fun _ _ z => Or.inl z))
  · rw [if_neg c] at kok kbad
    have c2 : dD δ < 8 := by have := hv.2.2.1; omega
    have hH : dH δ ≤ 7 := hv.2.1
    simp +decide (disch := omega) only [↓wm1, wb14_0 hc, wb14_19 hc, w0, w1, w3, w8, w9, w200, rI_wI, rP_wI, rL_wI, rI_wR, rP_wR, is_wI, is_wR, ia_wI, ia_wR, ow_wI, ow_wR, wn_add, wn_mul, wn_cl, wn_le, wn_lt, wn_inj, wn_ne1, wn_1ne, wn_gt1, wn_le1, nb0, nb1, am_kt, am_rt, List.cons_append, List.nil_append, true_and, and_true, not_true_eq_false, not_false_eq_true, imp_f, imp_t, implies_true, Nat.zero_add, if_true, if_false, fD hsh ha, r3, r2, c2, i1 hsh]
    refine ct74 (a := a + 5) (w := 8) (i := dD δ) (lo := 0) (hi := dH δ) hsh h hkD.2.2.2.2.1 (by omega) c2 (by decide) rfl (by decide) (by omega) (fun u q1 G1 e1 h1 f1 k1 => ?_) (fun k G1 e1 h1 k1 => ?_)
    · rw [e1] at kok kbad
      have s1 := hsh.kp k1
      have g1 : am_gI G1 a 6 = wn (dD δ) := by rw [k1.i (by omega)]; exact r3
      simp +decide (disch := omega) only [↓wm1, wb14_38 hc, wb14_41 hc, w0, w1, w3, w8, w9, w200, rI_wI, rP_wI, rL_wI, rI_wR, rP_wR, is_wI, is_wR, ia_wI, ia_wR, ow_wI, ow_wR, wn_add, wn_mul, wn_cl, wn_le, wn_lt, wn_inj, wn_ne1, wn_1ne, wn_gt1, wn_le1, nb0, nb1, am_kt, am_rt, List.cons_append, List.nil_append, true_and, and_true, not_true_eq_false, not_false_eq_true, imp_f, imp_t, implies_true, Nat.zero_add, if_true, if_false, fD s1 ha, g1, i1 s1]
      refine ct74 (a := a + 6) (w := 8) (i := dD δ) (lo := 0) (hi := 10) s1 h1 hkD.2.2.2.2.2.1 (by omega) c2 (by decide) rfl (by decide) (by decide) (fun v q2 G2 e2 h2 f2 k2 => ?_) (fun k G2 e2 h2 k2 => ?_)
      · simp only [pb, e2] at kok kbad
        have s2 := s1.kp k2
        have g2 : am_gI G2 a 6 = wn (dD δ) := by rw [k2.i (by omega)]; exact g1
        simp +decide (disch := omega) only [↓wm1, wb14_56 hc, wb14_59 hc, w0, w1, w3, w8, w9, w200, rI_wI, rP_wI, rL_wI, rI_wR, rP_wR, is_wI, is_wR, ia_wI, ia_wR, ow_wI, ow_wR, wn_add, wn_mul, wn_cl, wn_le, wn_lt, wn_inj, wn_ne1, wn_1ne, wn_gt1, wn_le1, nb0, nb1, am_kt, am_rt, List.cons_append, List.nil_append, true_and, and_true, not_true_eq_false, not_false_eq_true, imp_f, imp_t, implies_true, Nat.zero_add, if_true, if_false, fD s2 ha, g2, i1 s2]
        refine ct74 (a := a + 7) (w := 8) (i := dD δ) (lo := 1) (hi := 201) s2 h2 hkD.2.2.2.2.2.2 (by omega) c2 (by decide) rfl (by decide) (by decide) (fun w q3 G3 e3 h3 f3 k3 => ?_) (fun k G3 e3 h3 k3 => ?_)
        · simp only [e3] at kok
          have s3 := s2.kp k3
          have g3 : am_gI G3 a 6 = wn (dD δ) := by rw [k3.i (by omega)]; exact g2
          simp +decide (disch := omega) only [↓wm1, wb14_75 hc, wb14_80 hc, w0, w1, w3, w8, w9, w200, rI_wI, rP_wI, rL_wI, rI_wR, rP_wR, is_wI, is_wR, ia_wI, ia_wR, ow_wI, ow_wR, wn_add, wn_mul, wn_cl, wn_le, wn_lt, wn_inj, wn_ne1, wn_1ne, wn_gt1, wn_le1, nb0, nb1, am_kt, am_rt, List.cons_append, List.nil_append, true_and, and_true, not_true_eq_false, not_false_eq_true, imp_f, imp_t, implies_true, Nat.zero_add, if_true, if_false, fD s3 ha, g3]
          have kk : ∀ b j, a ≤ b → b ≤ a + 7 → ¬ (b = a + 5 ∧ j = dD δ) → ¬ (b = a + 6 ∧ j = dD δ) → ¬ (b = a + 7 ∧ j = dD δ) → ¬ (b = a ∧ j = 6) → am_gI (am_wI G3 a 6 (wn (dD δ + 1))) b j = am_gI G b j := by
            intro b j z1 z2 z3 z4 z5 z6
            rw [rI_wI, if_neg z6, k3.i (by omega), k2.i (by omega), k1.i (by omega)]
          refine kok q3 (addE δ u v w) _ rfl (h3.wI _ (by omega)) ⟨?_, ?_, ?_, ?_, fun b hb => ?_, fun b hb => ?_, fun b hb => ?_⟩ ?_
          · rw [kk _ _ (by omega) (by omega) (by omega) (by omega) (by omega) (by omega)]; exact r1
          · rw [kk _ _ (by omega) (by omega) (by omega) (by omega) (by omega) (by omega)]; exact r2
          · rw [rI_wI, if_pos ⟨rfl, rfl⟩]; rfl
          · rw [kk _ _ (by omega) (by omega) (by omega) (by omega) (by omega) (by omega)]; exact r4
          · rw [kk _ _ (by omega) (by omega) (by omega) (by omega) (by omega) (by omega), kk _ _ (by omega) (by omega) (by omega) (by omega) (by omega) (by omega)]; exact r5 b hb
          · rw [kk _ _ (by omega) (by omega) (by omega) (by omega) (by omega) (by omega), kk _ _ (by omega) (by omega) (by omega) (by omega) (by omega) (by omega)]; exact r6 b hb
          · change b < dD δ + 1 at hb
            show am_gI _ (a + 5) b = wn (up1 (eH δ) (dD δ) u b) ∧ am_gI _ (a + 6) b = wn (up1 (eM δ) (dD δ) v b) ∧ am_gI _ (a + 7) b = wn (up1 (eN δ) (dD δ) w b)
            by_cases e : b = dD δ
            · subst e
              rw [up1_s, up1_s, up1_s, rI_wI, if_neg (by omega), k3.i (by omega), k2.i (by omega), rI_wI, if_neg (by omega), k3.i (by omega), rI_wI, if_neg (by omega)]
              exact ⟨f1, f2, f3⟩
            · rw [up1_o _ _ e, up1_o _ _ e, up1_o _ _ e, kk _ _ (by omega) (by omega) (by omega) (by omega) (by omega) (by omega), kk _ _ (by omega) (by omega) (by omega) (by omega) (by omega) (by omega), kk _ _ (by omega) (by omega) (by omega) (by omega) (by omega) (by omega)]
              exact r7 b (by omega)
          · exact (((k1.mono (fun _ _ z => by unfold DS; omega)).trans (k2.mono (fun _ _ z => by unfold DS; omega))).trans (k3.mono (fun _ _ z => by unfold DS; omega))).wI (Or.inr ⟨by omega, by omega⟩) _
        · simp only [e3] at kbad
          simp +decide (disch := omega) only [↓wm1, wb14_75 hc, wb14_78 hc, w0, w1, w3, w8, w9, w200, rI_wI, rP_wI, rL_wI, rI_wR, rP_wR, is_wI, is_wR, ia_wI, ia_wR, ow_wI, ow_wR, wn_add, wn_mul, wn_cl, wn_le, wn_lt, wn_inj, wn_ne1, wn_1ne, wn_gt1, wn_le1, nb0, nb1, am_kt, am_rt, List.cons_append, List.nil_append, true_and, and_true, not_true_eq_false, not_false_eq_true, imp_f, imp_t, implies_true, Nat.zero_add, if_true, if_false]
          exact kbad k _ G3 rfl h3 (((k1.mono (fun _ _ z => by unfold DS; omega)).trans (k2.mono (fun _ _ z => by unfold DS; omega))).trans (k3.mono (fun _ _ z => Or.inl z)))
      · simp only [pb, e2] at kbad
        simp +decide (disch := omega) only [↓wm1, wb14_56 hc, wb14_78 hc, w0, w1, w3, w8, w9, w200, rI_wI, rP_wI, rL_wI, rI_wR, rP_wR, is_wI, is_wR, ia_wI, ia_wR, ow_wI, ow_wR, wn_add, wn_mul, wn_cl, wn_le, wn_lt, wn_inj, wn_ne1, wn_1ne, wn_gt1, wn_le1, nb0, nb1, am_kt, am_rt, List.cons_append, List.nil_append, true_and, and_true, not_true_eq_false, not_false_eq_true, imp_f, imp_t, implies_true, Nat.zero_add, if_true, if_false]
        exact kbad k _ G2 rfl h2 ((k1.mono (fun _ _ z => by unfold DS; omega)).trans (k2.mono (fun _ _ z => Or.inl z)))
    · rw [e1] at kbad
      simp +decide (disch := omega) only [↓wm1, wb14_38 hc, wb14_78 hc, w0, w1, w3, w8, w9, w200, rI_wI, rP_wI, rL_wI, rI_wR, rP_wR, is_wI, is_wR, ia_wI, ia_wR, ow_wI, ow_wR, wn_add, wn_mul, wn_cl, wn_le, wn_lt, wn_inj, wn_ne1, wn_1ne, wn_gt1, wn_le1, nb0, nb1, am_kt, am_rt, List.cons_append, List.nil_append, true_and, and_true, not_true_eq_false, not_false_eq_true, imp_f, imp_t, implies_true, Nat.zero_add, if_true, if_false]
      exact kbad k _ G1 rfl h1 (k1.mono (fun _ _ z => Or.inl z))
theorem ct11 {k : Nat} (hk : k < 4) (hsh : Sh G) (h : rT G t n p o) (ha : a = 4 ∨ a = 12) (hr : rD G a δ) (hv : vD δ) (hs : am_gI G 1 4 = wn p0)
    (kok : ∀ q δ' G', pbody t n p p0 δ k = .inr (q, δ') → rT G' t n q o → rD G' a δ' → Kp (DS a) G G' → post (.inl (some (.int (wn 1)))) G')
    (kbad : ∀ k' w G', pbody t n p p0 δ k = .inl (k', w) → fT G' k' w → Kp (DS a) G G' → post (.inl (some (.int (wn 0)))) G') : am_C am_T (d + 5) 11 [.ref a, .ref 1, .int (wn k)] G post := by
  have hc := am_C_one am_T (d + 4)
  rw [we11, wb11_0 hc]
  simp only [am_swc_iff]
  have hk' : k = 0 ∨ k = 1 ∨ k = 2 ∨ k = 3 := by omega
  rcases hk' with rfl | rfl | rfl | rfl
  · rw [show am_swt (wn 0) 0 [28, 34, 40] 46 = 28 from by decide +kernel, wb11_28 hc]
    refine ⟨(fD hsh ha).1, ct12 hsh h ha hr hv hs (fun q δ' G' e h' r' k' => ?_) (fun k w G' e h' k' => ?_)⟩
    · simp +decide (disch := omega) only [↓wm1, wb11_33 hc, w0, w1, w9, rI_wI, rP_wI, rL_wI, rI_wR, rP_wR, is_wI, is_wR, ia_wI, ia_wR, ow_wI, ow_wR, wn_add, wn_mul, wn_cl, wn_le, wn_lt, wn_inj, wn_ne1, wn_1ne, wn_gt1, wn_le1, nb0, nb1, am_kt, am_rt, List.cons_append, List.nil_append, true_and, and_true, not_true_eq_false, not_false_eq_true, imp_f, imp_t, implies_true, Nat.zero_add, if_true, if_false]
      exact kok q δ' G' e h' r' k'
    · simp +decide (disch := omega) only [↓wm1, wb11_33 hc, w0, w1, w9, rI_wI, rP_wI, rL_wI, rI_wR, rP_wR, is_wI, is_wR, ia_wI, ia_wR, ow_wI, ow_wR, wn_add, wn_mul, wn_cl, wn_le, wn_lt, wn_inj, wn_ne1, wn_1ne, wn_gt1, wn_le1, nb0, nb1, am_kt, am_rt, List.cons_append, List.nil_append, true_and, and_true, not_true_eq_false, not_false_eq_true, imp_f, imp_t, implies_true, Nat.zero_add, if_true, if_false]
      exact kbad k w G' e h' k'
  · rw [show am_swt (wn 1) 0 [28, 34, 40] 46 = 34 from by decide +kernel, wb11_34 hc]
    refine ⟨(fD hsh ha).1, ct13 hsh h ha hr hv hs (fun q δ' G' e h' r' k' => ?_) (fun k w G' e h' k' => ?_)⟩
    · simp +decide (disch := omega) only [↓wm1, wb11_39 hc, w0, w1, w9, rI_wI, rP_wI, rL_wI, rI_wR, rP_wR, is_wI, is_wR, ia_wI, ia_wR, ow_wI, ow_wR, wn_add, wn_mul, wn_cl, wn_le, wn_lt, wn_inj, wn_ne1, wn_1ne, wn_gt1, wn_le1, nb0, nb1, am_kt, am_rt, List.cons_append, List.nil_append, true_and, and_true, not_true_eq_false, not_false_eq_true, imp_f, imp_t, implies_true, Nat.zero_add, if_true, if_false]
      exact kok q δ' G' e h' r' k'
    · simp +decide (disch := omega) only [↓wm1, wb11_39 hc, w0, w1, w9, rI_wI, rP_wI, rL_wI, rI_wR, rP_wR, is_wI, is_wR, ia_wI, ia_wR, ow_wI, ow_wR, wn_add, wn_mul, wn_cl, wn_le, wn_lt, wn_inj, wn_ne1, wn_1ne, wn_gt1, wn_le1, nb0, nb1, am_kt, am_rt, List.cons_append, List.nil_append, true_and, and_true, not_true_eq_false, not_false_eq_true, imp_f, imp_t, implies_true, Nat.zero_add, if_true, if_false]
      exact kbad k w G' e h' k'
  · rw [show am_swt (wn 2) 0 [28, 34, 40] 46 = 40 from by decide +kernel, wb11_40 hc]
    refine ⟨(fD hsh ha).1, ct14 hsh h ha hr hv hs (fun q δ' G' e h' r' k' => ?_) (fun k w G' e h' k' => ?_)⟩
    · simp +decide (disch := omega) only [↓wm1, wb11_45 hc, w0, w1, w9, rI_wI, rP_wI, rL_wI, rI_wR, rP_wR, is_wI, is_wR, ia_wI, ia_wR, ow_wI, ow_wR, wn_add, wn_mul, wn_cl, wn_le, wn_lt, wn_inj, wn_ne1, wn_1ne, wn_gt1, wn_le1, nb0, nb1, am_kt, am_rt, List.cons_append, List.nil_append, true_and, and_true, not_true_eq_false, not_false_eq_true, imp_f, imp_t, implies_true, Nat.zero_add, if_true, if_false]
      exact kok q δ' G' e h' r' k'
    · simp +decide (disch := omega) only [↓wm1, wb11_45 hc, w0, w1, w9, rI_wI, rP_wI, rL_wI, rI_wR, rP_wR, is_wI, is_wR, ia_wI, ia_wR, ow_wI, ow_wR, wn_add, wn_mul, wn_cl, wn_le, wn_lt, wn_inj, wn_ne1, wn_1ne, wn_gt1, wn_le1, nb0, nb1, am_kt, am_rt, List.cons_append, List.nil_append, true_and, and_true, not_true_eq_false, not_false_eq_true, imp_f, imp_t, implies_true, Nat.zero_add, if_true, if_false]
      exact kbad k w G' e h' k'
  · rw [show am_swt (wn 3) 0 [28, 34, 40] 46 = 46 from by decide +kernel, wb11_46 hc]
    refine ⟨i1 hsh, ct73 (hi := 10) hsh h rfl (by decide) (by decide) (fun v p' G' e h' s' k' => ?_) (fun k G' e h' k' => ?_)⟩
    · have hsh' := hsh.kp k'
      have e' : pbody t n p p0 δ 3 = .inr (p', setW δ v) := by
        show pb _ _ = _
        rw [e]; rfl
      have hv9 := (pnum_ok h.2.2.1 e).2.2.2.1
      simp +decide (disch := omega) only [↓wm1, wb11_54 hc, wb11_65 hc, wb11_70 hc, w0, w1, w9, rI_wI, rP_wI, rL_wI, rI_wR, rP_wR, is_wI, is_wR, ia_wI, ia_wR, ow_wI, ow_wR, wn_add, wn_mul, wn_cl, wn_le, wn_lt, wn_inj, wn_ne1, wn_1ne, wn_gt1, wn_le1, nb0, nb1, am_kt, am_rt, List.cons_append, List.nil_append, true_and, and_true, not_true_eq_false, not_false_eq_true, imp_f, imp_t, implies_true, Nat.zero_add, if_true, if_false, fD hsh' ha]
      have kx : Kp (DS a) G (am_wI G' a 10 (wn v)) := (k'.mono (fun _ _ z => Or.inl z)).wI (Or.inr ⟨by omega, by omega⟩) _
      refine kok p' (setW δ v) _ e' (h'.wI _ (by omega)) ?_ kx
      have kk : ∀ b j, a ≤ b → b ≤ a + 7 → ¬ (b = a ∧ j = 10) → am_gI (am_wI G' a 10 (wn v)) b j = am_gI G b j := by
        intro b j z1 z2 z3
        rw [rI_wI, if_neg z3, k'.i (by unfold T1; omega)]
      obtain ⟨r1, r2, r3, r4, r5, r6, r7⟩ := hr
      refine ⟨?_, ?_, ?_, ?_, fun b hb => ?_, fun b hb => ?_, fun b hb => ?_⟩
      · rw [kk _ _ (by omega) (by omega) (by omega)]; exact r1
      · rw [kk _ _ (by omega) (by omega) (by omega)]; exact r2
      · rw [kk _ _ (by omega) (by omega) (by omega)]; exact r3
      · rw [rI_wI, if_pos ⟨rfl, rfl⟩]; rfl
      · rw [kk _ _ (by omega) (by omega) (by omega), kk _ _ (by omega) (by omega) (by omega)]; exact r5 b hb
      · rw [kk _ _ (by omega) (by omega) (by omega), kk _ _ (by omega) (by omega) (by omega)]; exact r6 b hb
      · rw [kk _ _ (by omega) (by omega) (by omega), kk _ _ (by omega) (by omega) (by omega), kk _ _ (by omega) (by omega) (by omega)]; exact r7 b hb
    · have hsh' := hsh.kp k'
      have e' : pbody t n p p0 δ 3 = .inl (k, p) := by
        show pb _ _ = _
        rw [e]; rfl
      simp +decide (disch := omega) only [↓wm1, wb11_54 hc, wb11_69 hc, wb11_70 hc, w0, w1, w9, rI_wI, rP_wI, rL_wI, rI_wR, rP_wR, is_wI, is_wR, ia_wI, ia_wR, ow_wI, ow_wR, wn_add, wn_mul, wn_cl, wn_le, wn_lt, wn_inj, wn_ne1, wn_1ne, wn_gt1, wn_le1, nb0, nb1, am_kt, am_rt, List.cons_append, List.nil_append, true_and, and_true, not_true_eq_false, not_false_eq_true, imp_f, imp_t, implies_true, Nat.zero_add, if_true, if_false, fD hsh' ha]
      have kx : Kp (DS a) G (am_wI G' a 10 mm) := (k'.mono (fun _ _ z => Or.inl z)).wI (Or.inr ⟨by omega, by omega⟩) _
      exact kbad k p _ e' (h'.kp (Sc := fun b _ => b = a) ((Kp.refl G').wI (by exact rfl) _) (fun i z => by omega)) kx
theorem ct10 (hsh : Sh G) (hW : Wt G 100003 20 (cx tx0)) (h : rT G t n p 0) (ha : a = 4 ∨ a = 12)
    (kok : ∀ δ' G', pds t n 61 p 0 δ0 = .inr δ' → vD δ' → rT G' t n n 0 → rD G' a δ' → Kp (DS a) G G' → post (.inl (some (.int (wn 1)))) G')
    (kbad : ∀ k w G', pds t n 61 p 0 δ0 = .inl (k, w) → fT G' k w → Kp (DS a) G G' → post (.inl (some (.int (wn 0)))) G') : am_C am_T (d + 8) 10 [.ref a, .ref 1] G post := by
  have hc := am_C_one am_T (d + 7)
  rw [we10]
  simp +decide (disch := omega) only [↓wm1, wb10_0 hc, w0, w1, w3, w59, w60, rI_wI, rP_wI, rL_wI, rI_wR, rP_wR, is_wI, is_wR, ia_wI, ia_wR, ow_wI, ow_wR, wn_add, wn_mul, wn_cl, wn_le, wn_lt, wn_inj, wn_ne1, wn_1ne, wn_gt1, wn_le1, nb0, nb1, am_kt, am_rt, List.cons_append, List.nil_append, true_and, and_true, not_true_eq_false, not_false_eq_true, imp_f, imp_t, implies_true, Nat.zero_add, if_true, if_false, fD hsh ha]
  have key : ∀ (f p c : Nat) (δ : Dt) (G1 : am_G), f + c = 61 → c ≤ 60 → Sh G1 → Wt G1 100003 20 (cx tx0) → rT G1 t n p 0 → rD G1 a δ → vD δ → Kp (DS a) G G1 →
      (∀ δ' G', pds t n f p c δ = .inr δ' → vD δ' → rT G' t n n 0 → rD G' a δ' → Kp (DS a) G G' → post (.inl (some (.int (wn 1)))) G') →
      (∀ k w G', pds t n f p c δ = .inl (k, w) → fT G' k w → Kp (DS a) G G' → post (.inl (some (.int (wn 0)))) G') →
      am_W (am_C am_T (d + 7)) am_10 post 22 [some (.ref a), some (.ref 1), some (.int (wn c)), none] [] G1 := by
    intro f
    induction f with
    | zero => intro p c δ G1 hf hc60; omega
    | succ f ih =>
      intro p c δ G1 hf hc60 s1 y1 h1 r1 v1 k1 kok kbad
      have c0 : ¬ 60 < c := by omega
      simp only [pds] at kok kbad
      have hpn := h1.2.2.1
      rw [wb10_22 hc]
      by_cases c1 : n ≤ p
      · rw [if_pos c1] at kok
        have hpe : p = n := by omega
        subst hpe
        simp +decide (disch := omega) only [↓wm1, wb10_28 hc, wb10_32 hc, wb10_91 hc, w0, w1, w3, w59, w60, rI_wI, rP_wI, rL_wI, rI_wR, rP_wR, is_wI, is_wR, ia_wI, ia_wR, ow_wI, ow_wR, wn_add, wn_mul, wn_cl, wn_le, wn_lt, wn_inj, wn_ne1, wn_1ne, wn_gt1, wn_le1, nb0, nb1, am_kt, am_rt, List.cons_append, List.nil_append, true_and, and_true, not_true_eq_false, not_false_eq_true, imp_f, imp_t, implies_true, Nat.zero_add, if_true, if_false, c0, i1 s1, ct68 s1 h1, decide_true, b01, if_true, Nat.le_refl]
        exact kok δ G1 rfl v1 h1 r1 k1
      · rw [if_neg c1] at kok kbad
        simp +decide (disch := omega) only [↓wm1, wb10_28 hc, wb10_32 hc, wb10_35 hc, w0, w1, w3, w59, w60, rI_wI, rP_wI, rL_wI, rI_wR, rP_wR, is_wI, is_wR, ia_wI, ia_wR, ow_wI, ow_wR, wn_add, wn_mul, wn_cl, wn_le, wn_lt, wn_inj, wn_ne1, wn_1ne, wn_gt1, wn_le1, nb0, nb1, am_kt, am_rt, List.cons_append, List.nil_append, true_and, and_true, not_true_eq_false, not_false_eq_true, imp_f, imp_t, implies_true, Nat.zero_add, if_true, if_false, c0, i1 s1, ct68 s1 h1, decide_eq_false c1, b01, Bool.false_eq_true, if_false]
        refine ct75 s1 h1 y1 (fun k G2 e2 h2 s2 k2 => ?_) (fun G2 e2 h2 k2 => ?_)
        · have sh2 := s1.kp k2
          have y2 := y1.kp k2 (by intro b i z; unfold T1 at z; omega)
          have kG2 : Kp (DS a) G G2 := k1.trans (k2.mono (fun _ _ z => Or.inl z))
          have rd2 := r1.kp k2 (by intro q i z1 z2 z; unfold T1 at z; omega)
          rw [ws_0] at e2
          have hk4 : k < 4 := by
            unfold wi0 at e2
            repeat' split at e2
            all_goals first | (cases e2; decide) | cases e2
          unfold pcl at kok kbad
          simp only [e2] at kok kbad
          by_cases c2 : c = 60
          · rw [if_pos c2] at kbad
            simp +decide (disch := omega) only [↓wm1, wb10_41 hc, wb10_49 hc, wb10_55 hc, wb10_64 hc, w0, w1, w3, w59, w60, rI_wI, rP_wI, rL_wI, rI_wR, rP_wR, is_wI, is_wR, ia_wI, ia_wR, ow_wI, ow_wR, wn_add, wn_mul, wn_cl, wn_le, wn_lt, wn_inj, wn_ne1, wn_1ne, wn_gt1, wn_le1, nb0, nb1, am_kt, am_rt, List.cons_append, List.nil_append, true_and, and_true, not_true_eq_false, not_false_eq_true, imp_f, imp_t, implies_true, Nat.zero_add, if_true, if_false, c2, i1 sh2, s2, ct66 sh2]
            exact kbad 3 p _ rfl (fT_of h2.2.2.2.2.2.1 3 p) (kG2.trans ((kp_f G2 3 p).mono (fun _ _ z => Or.inl z)))
          · rw [if_neg c2] at kok kbad
            simp +decide (disch := omega) only [↓wm1, wb10_41 hc, wb10_49 hc, wb10_65 hc, w0, w1, w3, w59, w60, rI_wI, rP_wI, rL_wI, rI_wR, rP_wR, is_wI, is_wR, ia_wI, ia_wR, ow_wI, ow_wR, wn_add, wn_mul, wn_cl, wn_le, wn_lt, wn_inj, wn_ne1, wn_1ne, wn_gt1, wn_le1, nb0, nb1, am_kt, am_rt, List.cons_append, List.nil_append, true_and, and_true, not_true_eq_false, not_false_eq_true, imp_f, imp_t, implies_true, Nat.zero_add, if_true, if_false, c2, fD sh2 ha]
            refine ct11 hk4 sh2 h2 ha rd2 v1 s2 (fun q δ' G3 e3 h3 r3 k3 => ?_) (fun k' w G3 e3 h3 k3 => ?_)
            · have sh3 := sh2.kp k3
              have y3 := y2.kp k3 (by intro b i z; unfold DS at z; omega)
              have kG3 := kG2.trans k3
              simp only [e3, pb] at kok kbad
              have ok3 := pbody_ok h2.2.2.1 v1 e3
              simp +decide (disch := omega) only [↓wm1, wb10_71 hc, wb10_74 hc, w0, w1, w3, w59, w60, rI_wI, rP_wI, rL_wI, rI_wR, rP_wR, is_wI, is_wR, ia_wI, ia_wR, ow_wI, ow_wR, wn_add, wn_mul, wn_cl, wn_le, wn_lt, wn_inj, wn_ne1, wn_1ne, wn_gt1, wn_le1, nb0, nb1, am_kt, am_rt, List.cons_append, List.nil_append, true_and, and_true, not_true_eq_false, not_false_eq_true, imp_f, imp_t, implies_true, Nat.zero_add, if_true, if_false, i1 sh3]
              refine ct72 sh3 h3 (by decide) (fun q' G4 e4 h4 k4 => ?_) (fun G4 e4 h4 k4 => ?_)
              · simp only [e4] at kok kbad
                simp +decide (disch := omega) only [↓wm1, wb10_80 hc, wb10_85 hc, w0, w1, w3, w59, w60, rI_wI, rP_wI, rL_wI, rI_wR, rP_wR, is_wI, is_wR, ia_wI, ia_wR, ow_wI, ow_wR, wn_add, wn_mul, wn_cl, wn_le, wn_lt, wn_inj, wn_ne1, wn_1ne, wn_gt1, wn_le1, nb0, nb1, am_kt, am_rt, List.cons_append, List.nil_append, true_and, and_true, not_true_eq_false, not_false_eq_true, imp_f, imp_t, implies_true, Nat.zero_add, if_true, if_false]
                have kG4 : Kp (DS a) G G4 := kG3.trans (k4.mono (fun _ _ z => Or.inl z))
                exact ih q' (c + 1) δ' G4 (by omega) (by omega) (sh3.kp k4) (y3.kp k4 (by intro b i z; unfold T1 at z; omega)) h4 (r3.kp k4 (by intro q i z1 z2 z; unfold T1 at z; omega)) ok3.2.2.2 kG4 kok kbad
              · simp only [e4] at kbad
                simp +decide (disch := omega) only [↓wm1, wb10_80 hc, wb10_83 hc, w0, w1, w3, w59, w60, rI_wI, rP_wI, rL_wI, rI_wR, rP_wR, is_wI, is_wR, ia_wI, ia_wR, ow_wI, ow_wR, wn_add, wn_mul, wn_cl, wn_le, wn_lt, wn_inj, wn_ne1, wn_1ne, wn_gt1, wn_le1, nb0, nb1, am_kt, am_rt, List.cons_append, List.nil_append, true_and, and_true, not_true_eq_false, not_false_eq_true, imp_f, imp_t, implies_true, Nat.zero_add, if_true, if_false]
                exact kbad 1 q G4 rfl h4 (kG3.trans (k4.mono (fun _ _ z => Or.inl z)))
            · simp only [e3, pb] at kbad
              simp +decide (disch := omega) only [↓wm1, wb10_71 hc, wb10_83 hc, w0, w1, w3, w59, w60, rI_wI, rP_wI, rL_wI, rI_wR, rP_wR, is_wI, is_wR, ia_wI, ia_wR, ow_wI, ow_wR, wn_add, wn_mul, wn_cl, wn_le, wn_lt, wn_inj, wn_ne1, wn_1ne, wn_gt1, wn_le1, nb0, nb1, am_kt, am_rt, List.cons_append, List.nil_append, true_and, and_true, not_true_eq_false, not_false_eq_true, imp_f, imp_t, implies_true, Nat.zero_add, if_true, if_false]
              exact kbad k' w G3 rfl h3 (kG2.trans k3)
        · rw [ws_0] at e2
          unfold pcl at kbad
          simp only [e2, pb] at kbad
          simp +decide (disch := omega) only [↓wm1, wb10_41 hc, wb10_47 hc, w0, w1, w3, w59, w60, rI_wI, rP_wI, rL_wI, rI_wR, rP_wR, is_wI, is_wR, ia_wI, ia_wR, ow_wI, ow_wR, wn_add, wn_mul, wn_cl, wn_le, wn_lt, wn_inj, wn_ne1, wn_1ne, wn_gt1, wn_le1, nb0, nb1, am_kt, am_rt, List.cons_append, List.nil_append, true_and, and_true, not_true_eq_false, not_false_eq_true, imp_f, imp_t, implies_true, Nat.zero_add, if_true, if_false]
          exact kbad 1 p G2 rfl h2 (k1.trans (k2.mono (fun _ _ z => Or.inl z)))
  have k1 : Kp (DS a) G (am_wI (am_wI (am_wI (am_wI G a 0 (wn 0)) a 3 (wn 0)) a 6 (wn 0)) a 10 (wn 0)) := ((((Kp.refl G).wI (Or.inr ⟨by omega, by omega⟩) _).wI (Or.inr ⟨by omega, by omega⟩) _).wI (Or.inr ⟨by omega, by omega⟩) _).wI (Or.inr ⟨by omega, by omega⟩) _
  have k2 : Kp (fun b _ => b = a) G (am_wI (am_wI (am_wI (am_wI G a 0 (wn 0)) a 3 (wn 0)) a 6 (wn 0)) a 10 (wn 0)) := ((((Kp.refl G).wI (by exact rfl) _).wI (by exact rfl) _).wI (by exact rfl) _).wI (by exact rfl) _
  refine key 61 p 0 δ0 _ rfl (by decide) (hsh.kp k1) (hW.kp k1 (by intro b i z; unfold DS at z; omega)) (h.kp k2 (fun b j z => by omega)) ⟨?_, ?_, ?_, ?_, fun b hb => absurd hb (Nat.not_lt_zero b), fun b hb => absurd hb (Nat.not_lt_zero b), fun b hb => absurd hb (Nat.not_lt_zero b)⟩ vD0 k1 kok kbad
  · simp [rI_wI]; rfl
  · simp [rI_wI]; rfl
  · simp [rI_wI]; rfl
  · simp [rI_wI]; rfl
end

