/-! A work's reading, the reference's side. -/
def rPm (G : am_G) (b : Nat) (R : List Et) : Prop := ∀ i e, R[i]? = some e → am_gI G (728 + (b + i)) 0 = wn e.1 ∧ (¬ e.1 = 6 → am_gI G (728 + (b + i)) 1 = wn e.2.1) ∧ am_gI G (728 + (b + i)) 2 = wn e.2.2
def MSw (b : Nat) : Nat → Nat → Prop := fun a i => (a = 334 ∧ ((4 ≤ i ∧ i ≤ 8) ∨ i = 28)) ∨ (728 + b ≤ a ∧ a ≤ 807)
def RW (D B : Nat) (t : Nat → Nat) (n o : Nat) (ps : PWk) : Prop := ∀ (G : am_G) (p b : Nat) (post : am_O → am_G → Prop), Sh G → am_gI G 338 0 = wn B → rQ G t n p o → am_gI G 334 28 = wn b → 3 * b ≤ p →
  (∀ q R G', ps p b = .inr (q, R) → rQ G' t n q o → am_gI G' 334 28 = wn (b + R.length) → rPm G' b R → Kp (MSw b) G G' → post (.inl none) G') →
  (∀ k w G', ps p b = .inl (k, w) → fQ G' t n k w → Kp (MSw b) G G' → post (.inl none) G') → am_C am_T D 190 [.ref 334] G post
section
variable {G G' : am_G} {d B n o p b lv : Nat} {t : Nat → Nat} {ps body : PWk} {R : List Et} {post : am_O → am_G → Prop}
theorem O8.ms (k : Kp O8 G G') : Kp (MSw b) G G' := k.mono (fun a i z => by unfold O8 at z; unfold MSw; omega)
theorem MSw.up {b' : Nat} (k : Kp (MSw b') G G') (hb : b ≤ b') : Kp (MSw b) G G' := k.mono (fun a i z => by unfold MSw at z ⊢; omega)
theorem rPm.nil (G : am_G) (b : Nat) : rPm G b [] := fun i e he => by simp at he
theorem rPm.app {R2 : List Et} (h : rPm G b R) (h2 : rPm G (b + R.length) R2) : rPm G b (R ++ R2) := fun i e he => by
  by_cases c : i < R.length
  · rw [List.getElem?_append_left c] at he; exact h i e he
  · rw [List.getElem?_append_right (by omega)] at he
    have := h2 (i - R.length) e he
    rw [show b + R.length + (i - R.length) = b + i by omega] at this
    exact this
theorem rPm.k {b' : Nat} (h : rPm G b R) (k : Kp (MSw b') G G') (hb : b + R.length ≤ b') : rPm G' b R := fun i e he => by
  have hi : i < R.length := (List.getElem?_eq_some_iff.mp he).1
  rw [k.i (by unfold MSw; omega), k.i (by unfold MSw; omega), k.i (by unfold MSw; omega)]; exact h i e he
theorem rPm.oo (h : rPm G b R) (k : Kp O8 G G') : rPm G' b R := fun i e he => by
  rw [k.i (by unfold O8; omega), k.i (by unfold O8; omega), k.i (by unfold O8; omega)]; exact h i e he
def Bw1 (b : Nat) : Nat → Nat → Prop := fun a _ => a = 728 + b
theorem Bw1.ms (hb : b < 80) (k : Kp (Bw1 b) G G') : Kp (MSw b) G G' := k.mono (fun a i z => by unfold Bw1 at z; unfold MSw; omega)
theorem rQ.b1 (h : rQ G t n p o) (k : Kp (Bw1 b) G G') : rQ G' t n p o := h.kp k (fun a i z => by unfold Bw1 at z; omega)
theorem fQ.b1 {k' w : Nat} (h : fQ G t n k' w) (k : Kp (Bw1 b) G G') : fQ G' t n k' w := h.kp k (fun a i z => by unfold Bw1 at z; omega)
theorem ct190_f {k w : Nat} {o1 : Option Value} (hb : b < 80) (hsh : Sh G) (h : fQ G t n k w) (kk : ∀ G', fQ G' t n k w → Kp (MSw b) G G' → post (.inl none) G') : am_W (am_C am_T (d + 1)) am_190 post 178 [some (.ref 334), o1, some (.ref (728 + b))] [] G := by
  have hc := am_C_one am_T (d + 1)
  have n8 : 728 + b < 90000 := by omega
  have kw : Kp (Bw1 b) G (am_wI G (728 + b) 2 (am_gI G 334 28)) := (Kp.refl G).wI (show Bw1 b (728 + b) 2 from rfl) _
  have s1 := hsh.kp kw
  have f1 := h.b1 kw
  simp +decide (disch := omega) only [↓wm1, wb190_178 hc, wb190_191 hc, w0, w1, w2, w5, w7, w9, w59, w60, w91, w93, rI_wI, rP_wI, rL_wI, rI_wR, rP_wR, is_wI, is_wR, ia_wI, ia_wR, ow_wI, ow_wR, wn_add, wn_mul, wn_cl, wn_le, wn_lt, wn_inj, wn_ne1, wn_1ne, wn_gt1, wn_le1, nb0, nb1, am_kt, am_rt, List.cons_append, List.nil_append, true_and, and_true, not_true_eq_false, not_false_eq_true, imp_f, imp_t, implies_true, Nat.zero_add, if_true, if_false, false_and, and_false, fM hsh, fr727 hsh, hb, n8, ct169f s1 f1]
  exact kk _ f1 (Bw1.ms hb kw)
theorem ct190_e {c p0 : Nat} {k v : Nat} {R0 : List Et} {o1 : Option Value} (hb : b < 80) (hsh : Sh G) (h : rQ G t n p o) (hcn : am_gI G 334 28 = wn c) (h0 : am_gI G (728 + b) 0 = wn k) (h1 : ¬ k = 6 → am_gI G (728 + b) 1 = wn v) (hR : rPm G (b + 1) R0) (hcR : c = b + 1 + R0.length)
    (kok : ∀ q G', psgn t n p 59 = .inr q → rQ G' t n q o → am_gI G' 334 28 = wn c → rPm G' b ((k, v, c) :: R0) → Kp (MSw b) G G' → post (.inl none) G')
    (kbad : ∀ G', psgn t n p 59 = .inl (1, p) → fQ G' t n 1 p → Kp (MSw b) G G' → post (.inl none) G') : am_W (am_C am_T (d + 3)) am_190 post 178 [some (.ref 334), o1, some (.ref (728 + b))] [] G := by
  have hc := am_C_one am_T (d + 3)
  have n8 : 728 + b < 90000 := by omega
  have kw : Kp (Bw1 b) G (am_wI G (728 + b) 2 (wn c)) := (Kp.refl G).wI (show Bw1 b (728 + b) 2 from rfl) _
  have s1 := hsh.kp kw
  have v2 : am_gI (am_wI G (728 + b) 2 (wn c)) (728 + b) 2 = wn c := by rw [rI_wI, if_pos ⟨rfl, rfl⟩]
  have v0 : am_gI (am_wI G (728 + b) 2 (wn c)) (728 + b) 0 = wn k := by rw [rI_wI, if_neg (by omega)]; exact h0
  have v1 : ¬ k = 6 → am_gI (am_wI G (728 + b) 2 (wn c)) (728 + b) 1 = wn v := fun z => by rw [rI_wI, if_neg (by omega)]; exact h1 z
  simp +decide (disch := omega) only [↓wm1, wb190_178 hc, w0, w1, w2, w5, w7, w9, w59, w60, w91, w93, rI_wI, rP_wI, rL_wI, rI_wR, rP_wR, is_wI, is_wR, ia_wI, ia_wR, ow_wI, ow_wR, wn_add, wn_mul, wn_cl, wn_le, wn_lt, wn_inj, wn_ne1, wn_1ne, wn_gt1, wn_le1, nb0, nb1, am_kt, am_rt, List.cons_append, List.nil_append, true_and, and_true, not_true_eq_false, not_false_eq_true, imp_f, imp_t, implies_true, Nat.zero_add, if_true, if_false, false_and, and_false, fM hsh, fr727 hsh, hb, n8, hcn]
  generalize am_wI G (728 + b) 2 (wn c) = G1 at kw s1 v0 v1 v2 ⊢
  refine ct169 s1 (h.b1 kw) (by decide) (fun q G2 e2 t2 k2 => ?_) (fun G2 e2 f2 k2 => ?_)
  · simp +decide (disch := omega) only [↓wm1, wb190_191 hc, w0, w1, w2, w5, w7, w9, w59, w60, w91, w93, rI_wI, rP_wI, rL_wI, rI_wR, rP_wR, is_wI, is_wR, ia_wI, ia_wR, ow_wI, ow_wR, wn_add, wn_mul, wn_cl, wn_le, wn_lt, wn_inj, wn_ne1, wn_1ne, wn_gt1, wn_le1, nb0, nb1, am_kt, am_rt, List.cons_append, List.nil_append, true_and, and_true, not_true_eq_false, not_false_eq_true, imp_f, imp_t, implies_true, Nat.zero_add, if_true, if_false, false_and, and_false]
    have o2 := QS.oo k2
    refine kok q G2 e2 t2 ?_ (fun i e he => ?_) ((Bw1.ms hb kw).trans (O8.ms o2))
    · rw [o2.i (by unfold O8; omega), kw.i (by unfold Bw1; omega)]; exact hcn
    · rcases i with _ | i
      · simp at he
        rw [← he, Nat.add_zero, o2.i (by unfold O8; omega), o2.i (by unfold O8; omega), o2.i (by unfold O8; omega)]
        exact ⟨v0, v1, v2⟩
      · simp at he
        have := hR i e he
        rw [show b + 1 + i = b + (i + 1) by omega] at this
        rw [o2.i (by unfold O8; omega), o2.i (by unfold O8; omega), o2.i (by unfold O8; omega), kw.i (by unfold Bw1; omega), kw.i (by unfold Bw1; omega), kw.i (by unfold Bw1; omega)]
        exact this
  · simp +decide (disch := omega) only [↓wm1, wb190_191 hc, w0, w1, w2, w5, w7, w9, w59, w60, w91, w93, rI_wI, rP_wI, rL_wI, rI_wR, rP_wR, is_wI, is_wR, ia_wI, ia_wR, ow_wI, ow_wR, wn_add, wn_mul, wn_cl, wn_le, wn_lt, wn_inj, wn_ne1, wn_1ne, wn_gt1, wn_le1, nb0, nb1, am_kt, am_rt, List.cons_append, List.nil_append, true_and, and_true, not_true_eq_false, not_false_eq_true, imp_f, imp_t, implies_true, Nat.zero_add, if_true, if_false, false_and, and_false]
    exact kbad G2 e2 f2 ((Bw1.ms hb kw).trans (O8.ms (QS.oo k2)))
end
