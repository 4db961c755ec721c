/-! HEARD: districts, what is known, both sides. -/
abbrev Dt : Type := Nat × Nat × Nat × Nat × (Nat → Nat) × (Nat → Nat) × (Nat → Nat) × (Nat → Nat) × (Nat → Nat) × (Nat → Nat) × (Nat → Nat)
def dB (δ : Dt) : Nat := δ.1
def dH (δ : Dt) : Nat := δ.2.1
def dD (δ : Dt) : Nat := δ.2.2.1
def dW (δ : Dt) : Nat := δ.2.2.2.1
def bM (δ : Dt) : Nat → Nat := δ.2.2.2.2.1
def bL (δ : Dt) : Nat → Nat := δ.2.2.2.2.2.1
def hF (δ : Dt) : Nat → Nat := δ.2.2.2.2.2.2.1
def hE (δ : Dt) : Nat → Nat := δ.2.2.2.2.2.2.2.1
def eH (δ : Dt) : Nat → Nat := δ.2.2.2.2.2.2.2.2.1
def eM (δ : Dt) : Nat → Nat := δ.2.2.2.2.2.2.2.2.2.1
def eN (δ : Dt) : Nat → Nat := δ.2.2.2.2.2.2.2.2.2.2
/-- what is always so of a district -/
def vD (δ : Dt) : Prop := dB δ ≤ 6 ∧ dH δ ≤ 7 ∧ dD δ ≤ 8 ∧ dW δ ≤ 9 ∧ (∀ b, b < dB δ → bM δ b ≤ 9 ∧ 1 ≤ bL δ b ∧ bL δ b ≤ 60) ∧ (∀ h, h < dH δ → hF δ h ≤ 30 ∧ hE δ h ≤ 9) ∧ ∀ e, e < dD δ → eH δ e < dH δ ∧ eM δ e ≤ 9 ∧ 1 ≤ eN δ e ∧ eN δ e ≤ 200
/-- a District object -/
def rD (G : am_G) (a : Nat) (δ : Dt) : Prop := am_gI G a 0 = wn (dB δ) ∧ am_gI G a 3 = wn (dH δ) ∧ am_gI G a 6 = wn (dD δ) ∧ am_gI G a 10 = wn (dW δ) ∧ (∀ b, b < dB δ → am_gI G (a + 1) b = wn (bM δ b) ∧ am_gI G (a + 2) b = wn (bL δ b)) ∧ (∀ h, h < dH δ → am_gI G (a + 3) h = wn (hF δ h) ∧ am_gI G (a + 4) h = wn (hE δ h)) ∧ ∀ e, e < dD δ → am_gI G (a + 5) e = wn (eH δ e) ∧ am_gI G (a + 6) e = wn (eM δ e) ∧ am_gI G (a + 7) e = wn (eN δ e)
theorem rD.kp {Sc : Nat → Nat → Prop} {G G' : am_G} {a : Nat} {δ : Dt} (h : rD G a δ) (k : Kp Sc G G') (hn : ∀ q i, a ≤ q → q ≤ a + 7 → ¬ Sc q i) : rD G' a δ := by
  obtain ⟨r0, r1, r2, r3, r4, r5, r6⟩ := h
  refine ⟨?_, ?_, ?_, ?_, fun b hb => ⟨?_, ?_⟩, fun b hb => ⟨?_, ?_⟩, fun b hb => ⟨?_, ?_, ?_⟩⟩
  · rw [k.i (hn _ _ (by omega) (by omega))]; exact r0
  · rw [k.i (hn _ _ (by omega) (by omega))]; exact r1
  · rw [k.i (hn _ _ (by omega) (by omega))]; exact r2
  · rw [k.i (hn _ _ (by omega) (by omega))]; exact r3
  · rw [k.i (hn _ _ (by omega) (by omega))]; exact (r4 b hb).1
  · rw [k.i (hn _ _ (by omega) (by omega))]; exact (r4 b hb).2
  · rw [k.i (hn _ _ (by omega) (by omega))]; exact (r5 b hb).1
  · rw [k.i (hn _ _ (by omega) (by omega))]; exact (r5 b hb).2
  · rw [k.i (hn _ _ (by omega) (by omega))]; exact (r6 b hb).1
  · rw [k.i (hn _ _ (by omega) (by omega))]; exact (r6 b hb).2.1
  · rw [k.i (hn _ _ (by omega) (by omega))]; exact (r6 b hb).2.2
/-- the reference's district -/
def rE (G : am_G) (δ : Dt) : Prop := am_gI G 338 0 = wn (dB δ) ∧ am_gI G 338 1 = wn (dH δ) ∧ am_gI G 338 2 = wn (dD δ) ∧ am_gI G 338 3 = wn (dW δ) ∧ (∀ b, b < dB δ → am_gI G (347 + b) 0 = wn (bM δ b) ∧ am_gI G (347 + b) 1 = wn (bL δ b)) ∧ (∀ h, h < dH δ → am_gI G (362 + h) 0 = wn (hF δ h) ∧ am_gI G (362 + h) 1 = wn (hE δ h)) ∧ ∀ e, e < dD δ → am_gI G (379 + e) 0 = wn (eH δ e) ∧ am_gI G (379 + e) 1 = wn (eM δ e) ∧ am_gI G (379 + e) 2 = wn (eN δ e)
theorem rE.kp {Sc : Nat → Nat → Prop} {G G' : am_G} {δ : Dt} (h : rE G δ) (v : vD δ) (k : Kp Sc G G') (hn : ∀ q i, 338 ≤ q → q < 387 → ¬ Sc q i) : rE G' δ := by
  obtain ⟨r0, r1, r2, r3, r4, r5, r6⟩ := h
  obtain ⟨v0, v1, v2, v3⟩ := v
  refine ⟨?_, ?_, ?_, ?_, fun b hb => ⟨?_, ?_⟩, fun b hb => ⟨?_, ?_⟩, fun b hb => ⟨?_, ?_, ?_⟩⟩
  · rw [k.i (hn _ _ (by omega) (by omega))]; exact r0
  · rw [k.i (hn _ _ (by omega) (by omega))]; exact r1
  · rw [k.i (hn _ _ (by omega) (by omega))]; exact r2
  · rw [k.i (hn _ _ (by omega) (by omega))]; exact r3
  · rw [k.i (hn _ _ (by omega) (by omega))]; exact (r4 b hb).1
  · rw [k.i (hn _ _ (by omega) (by omega))]; exact (r4 b hb).2
  · rw [k.i (hn _ _ (by omega) (by omega))]; exact (r5 b hb).1
  · rw [k.i (hn _ _ (by omega) (by omega))]; exact (r5 b hb).2
  · rw [k.i (hn _ _ (by omega) (by omega))]; exact (r6 b hb).1
  · rw [k.i (hn _ _ (by omega) (by omega))]; exact (r6 b hb).2.1
  · rw [k.i (hn _ _ (by omega) (by omega))]; exact (r6 b hb).2.2
theorem kpA {G G' : am_G} {a i : Nat} {v : Int32} (k : Kp (fun b _ => b = a) (am_wI G a i v) G') : Kp (fun b _ => b = a) G G' := Kp.trans (G1 := am_wI G a i v) (Kp.wI (Sc := fun b _ => b = a) (a := a) (i := i) (Kp.refl G) rfl v) k
/-- what a law knows -/
def knv (l f p c w u o b h : Nat) : Nat → Int32 := fun j => if j = 0 then wn l else if j = 1 then wn f else if j = 2 then wn p else if j = 3 then wn c else if j = 4 then wn w else if j = 5 then wn u else if j = 6 then wn o else if j = 7 then wn b else wn h
def dst (a b : Nat) : Nat := a - b + (b - a)
def hear (δ : Dt) (Λ : List Tok) (σ : St) (b h : Nat) : Nat := hl Λ (knv (bL δ b) (hF δ h) (dst (bM δ b) (hE δ h)) (sC σ b) (sD σ) (sP σ b) (sH σ % 24) b h)
def hearU (δ : Dt) (Λ : List Tok) (σ : St) (m l h : Nat) : Nat := hl Λ (knv l (hF δ h) (dst m (hE δ h)) 0 (sD σ) 0 (sH σ % 24) 6 h)
theorem hear_le (δ : Dt) (Λ : List Tok) (σ : St) (b h : Nat) : hear δ Λ σ b h ≤ 99 := hl_le _ _
/-- the law's signs in a Law object, in the reference -/
def rL (G : am_G) (l : Nat) (Λ : List Tok) : Prop := am_gI G l 2 = wn Λ.length ∧ ∀ i k, Λ[i]? = some k → am_gI G (l + 1) i = wn (tkc k)
def rLm (G : am_G) (Λ : List Tok) : Prop := am_gI G 334 19 = wn Λ.length ∧ ∀ i k, Λ[i]? = some k → am_gI G (388 + i) 0 = wn k.1 ∧ am_gI G (388 + i) 1 = wn k.2
theorem get_mid (pre r : List Tok) (k : Tok) : (pre ++ k :: r)[pre.length]? = some k := by simp
section
variable {G : am_G} {d : Nat} {post : am_O → am_G → Prop}
theorem ct29_loop {l : Nat} {kn : Nat → Int32} {Λ : List Tok} (hl' : l = 20 ∨ l = 23) (hlen : Λ.length ≤ 150) (hok : ∀ k ∈ Λ, okT k) (r : List Tok) :
    ∀ (pre : List Tok) (f : Nat → Int32) (n : Nat) (G : am_G), Λ = pre ++ r → Sh G → rL G l Λ → (∀ j, j < 9 → am_gI G 26 j = kn j) → (∀ j, j < n → am_gI G (l + 2) j = f j) → n ≤ pre.length → dz r n = some 1 →
      (∀ G', Kp (fun a _ => a = l + 2) G G' → post (.inl (some (.int (wn (clp ((evl kn r (f, n)).1 0)))))) G') →
      am_W (am_C am_T (d + 2)) am_29 post 4 [some (.ref l), some (.ref 26), some (.int (wn n)), some (.int (wn pre.length)), none, none] [] G := by
  have hc := am_C_one am_T (d + 2)
  induction r with
  | nil =>
    intro pre f n G hp hsh hr hk hs hn hz k
    simp only [dz, Option.some.injEq] at hz
    subst hz
    simp only [List.append_nil] at hp
    have e := hr.1
    have e0 := hs 0 (by omega)
    have hpl : pre.length ≤ 150 := by rw [← hp]; exact hlen
    rw [wb29_4 hc, e, hp]
    simp +decide (disch := omega) only [↓wm1, wb29_129 hc, wb29_141 hc, wb29_144 hc, w0, w1, w2, w99, w150, w1000, w1009, w2000, rI_wI, rP_wI, rL_wI, rI_wR, rP_wR, is_wI, is_wR, ia_wI, ia_wR, ow_wI, ow_wR, wn_add, wn_mul, wn_cl, wn_le, wn_lt, wn_inj, wn_ne1, wn_1ne, wn_gt1, wn_le1, nb0, nb1, am_kt, am_rt, List.cons_append, List.nil_append, true_and, and_true, not_true_eq_false, not_false_eq_true, imp_f, imp_t, implies_true, Nat.zero_add, if_true, if_false, fL hsh hl', Nat.le_refl, e0, ct272, ct271, clpC]
    exact k G (Kp.refl G)
  | cons t r ih =>
    intro pre f n G hp hsh hr hk hs hn hz k
    have e1 := hr.2 pre.length t (by rw [hp]; exact get_mid pre r t)
    have hL : Λ.length = pre.length + 1 + r.length := by rw [hp]; simp; omega
    have e := hr.1
    have ht := hok t (by rw [hp]; simp)
    have c1 : ¬ Λ.length ≤ pre.length := by omega
    have c2 : pre.length < 150 := by omega
    have c3 : ¬ 150 ≤ n := by omega
    rw [wb29_4 hc, e]
    unfold okT at ht
    rcases ht with ⟨t1, t2⟩ | ⟨t1, t2⟩ | ⟨t1, t2⟩
    · have e2 : tkc t = t.2 := by simp [tkc, t1]
      have c4 : t.2 < 2000 := by omega
      have c5 : t.2 < 1000 := by omega
      rw [e2] at e1
      simp only [dz, t1, Nat.zero_lt_succ, if_true] at hz
      simp +decide (disch := omega) only [↓wm1, wb29_12 hc, wb29_66 hc, wb29_73 hc, wb29_93 hc, wb29_94 hc, wb29_117 hc, wb29_119 hc, wb29_123 hc, w0, w1, w2, w99, w150, w1000, w1009, w2000, rI_wI, rP_wI, rL_wI, rI_wR, rP_wR, is_wI, is_wR, ia_wI, ia_wR, ow_wI, ow_wR, wn_add, wn_mul, wn_cl, wn_le, wn_lt, wn_inj, wn_ne1, wn_1ne, wn_gt1, wn_le1, nb0, nb1, am_kt, am_rt, List.cons_append, List.nil_append, true_and, and_true, not_true_eq_false, not_false_eq_true, imp_f, imp_t, implies_true, Nat.zero_add, if_true, if_false, fL hsh hl', c1, e1, c4, c3, c5]
      have := ih (pre ++ [t]) (upI f n (wn t.2)) (n + 1) (am_wI G (l + 2) n (wn t.2)) (by rw [hp]; simp) hsh ⟨?_, ?_⟩ ?_ ?_ ?_ hz ?_
      · simpa using this
      · rw [rI_wI, if_neg (by omega)]; exact e
      · intro i q hq; rw [rI_wI, if_neg (by omega)]; exact hr.2 i q hq
      · intro j hj; rw [rI_wI, if_neg (by omega)]; exact hk j hj
      · intro j hj
        rw [rI_wI]
        unfold upI
        by_cases q : j = n
        · rw [if_pos ⟨rfl, q⟩, if_pos q]
        · rw [if_neg (fun z => q z.2), if_neg q]; exact hs j (by omega)
      · simp; omega
      · intro G' k'
        have := k G' (kpA k')
        simpa only [evl, stp, t1, if_true] using this
    · have e2 : tkc t = 1000 + t.2 := by simp [tkc, t1]
      have c4 : 1000 + t.2 < 2000 := by omega
      have c5 : ¬ 1000 + t.2 < 1000 := by omega
      have c6 : ¬ 1009 ≤ 1000 + t.2 := by omega
      have c7 : wn (1000 + t.2) - wn 1000 = wn t.2 := by rw [wn_sub (by omega), Nat.add_sub_cancel_left]
      rw [e2] at e1
      simp only [dz, t1, show (1 < 2) from by decide, if_true] at hz
      simp +decide (disch := omega) only [↓wm1, wb29_12 hc, wb29_66 hc, wb29_73 hc, wb29_81 hc, wb29_89 hc, wb29_94 hc, wb29_106 hc, wb29_119 hc, wb29_123 hc, w0, w1, w2, w99, w150, w1000, w1009, w2000, rI_wI, rP_wI, rL_wI, rI_wR, rP_wR, is_wI, is_wR, ia_wI, ia_wR, ow_wI, ow_wR, wn_add, wn_mul, wn_cl, wn_le, wn_lt, wn_inj, wn_ne1, wn_1ne, wn_gt1, wn_le1, nb0, nb1, am_kt, am_rt, List.cons_append, List.nil_append, true_and, and_true, not_true_eq_false, not_false_eq_true, imp_f, imp_t, implies_true, Nat.zero_add, if_true, if_false, fL hsh hl', c1, e1, c4, c3, c5, c6, c7, ia26 hsh, hk t.2 t2]
      have := ih (pre ++ [t]) (upI f n (kn t.2)) (n + 1) (am_wI G (l + 2) n (kn t.2)) (by rw [hp]; simp) hsh ⟨?_, ?_⟩ ?_ ?_ ?_ hz ?_
      · simpa using this
      · rw [rI_wI, if_neg (by omega)]; exact e
      · intro i q hq; rw [rI_wI, if_neg (by omega)]; exact hr.2 i q hq
      · intro j hj; rw [rI_wI, if_neg (by omega)]; exact hk j hj
      · intro j hj
        rw [rI_wI]
        unfold upI
        by_cases q : j = n
        · rw [if_pos ⟨rfl, q⟩, if_pos q]
        · rw [if_neg (fun z => q z.2), if_neg q]; exact hs j (by omega)
      · simp; omega
      · intro G' k'
        have := k G' (kpA k')
        simpa only [evl, stp, t1, show ¬ (1 = 0) from by decide, if_false, if_true] using this
    · have e2 : tkc t = 1998 + t.1 := by simp [tkc, show ¬ t.1 = 0 by omega, show ¬ t.1 = 1 by omega]
      have c4 : ¬ 1998 + t.1 < 2000 := by omega
      rw [e2] at e1
      simp only [dz, show ¬ t.1 < 2 by omega, if_false] at hz
      have c8 : 2 ≤ n := by
        by_cases q : 2 ≤ n
        · exact q
        · rw [if_neg q] at hz; cases hz
      rw [if_pos c8] at hz
      have c9 : ¬ n < 2 := by omega
      have d1 : wn n + mm = wn (n - 1) := by
        rw [show mm = wn 0 - wn 1 from rfl, ← wn_sub (show 1 ≤ n by omega)]
        rw [show (wn 0 : Int32) = 0 from rfl, Int32.zero_sub, ← Int32.sub_eq_add_neg]
      have d2 : wn (n - 1) - wn 1 = wn (n - 2) := by rw [wn_sub (by omega)]; congr 1
      have e3 := hs (n - 1) (by omega)
      have e4 := hs (n - 2) (by omega)
      simp +decide (disch := omega) only [↓wm1, wb29_12 hc, wb29_28 hc, wb29_33 hc, wb29_62 hc, wb29_123 hc, w0, w1, w2, w99, w150, w1000, w1009, w2000, rI_wI, rP_wI, rL_wI, rI_wR, rP_wR, is_wI, is_wR, ia_wI, ia_wR, ow_wI, ow_wR, wn_add, wn_mul, wn_cl, wn_le, wn_lt, wn_inj, wn_ne1, wn_1ne, wn_gt1, wn_le1, nb0, nb1, am_kt, am_rt, List.cons_append, List.nil_append, true_and, and_true, not_true_eq_false, not_false_eq_true, imp_f, imp_t, implies_true, Nat.zero_add, if_true, if_false, fL hsh hl', c1, e1, c4, c9, d1, d2, e3, e4, ct30 t1 t2]
      have := ih (pre ++ [t]) (upI f (n - 2) (jn t.1 (f (n - 2)) (f (n - 1)))) (n - 1) (am_wI G (l + 2) (n - 2) (jn t.1 (f (n - 2)) (f (n - 1)))) (by rw [hp]; simp) hsh ⟨?_, ?_⟩ ?_ ?_ ?_ hz ?_
      · simpa using this
      · rw [rI_wI, if_neg (by omega)]; exact e
      · intro i q hq; rw [rI_wI, if_neg (by omega)]; exact hr.2 i q hq
      · intro j hj; rw [rI_wI, if_neg (by omega)]; exact hk j hj
      · intro j hj
        rw [rI_wI]
        unfold upI
        by_cases q : j = n - 2
        · rw [if_pos ⟨rfl, q⟩, if_pos q]
        · rw [if_neg (fun z => q z.2), if_neg q]; exact hs j (by omega)
      · simp; omega
      · intro G' k'
        have := k G' (kpA k')
        simpa only [evl, stp, show ¬ t.1 = 0 by omega, show ¬ t.1 = 1 by omega, if_false] using this
end
