/-! A work's reading, the object's side. -/
def rPl (G : am_G) (b : Nat) (R : List Et) : Prop := ∀ i e, R[i]? = some e → am_gI G 28 (b + i) = wn e.1 ∧ am_gI G 29 (b + i) = wn e.2.1 ∧ (e.1 = 7 → am_gI G 30 (b + i) = wn e.2.2)
def PSc (b : Nat) : Nat → Nat → Prop := fun a i => a = 1 ∨ (a = 27 ∧ i = 3) ∨ ((a = 28 ∨ a = 29 ∨ a = 30) ∧ b ≤ i)
def CW (D B : Nat) (t : Nat → Nat) (n o : Nat) (ps : PWk) : Prop := ∀ (G : am_G) (p b : Nat) (post : am_O → am_G → Prop), Sh G → Wt G 100004 42 (cx tx1) → rT G t n p o → am_gI G 27 3 = wn b → 3 * b ≤ p →
  (∀ q R G', ps p b = .inr (q, R) → rT G' t n q o → am_gI G' 27 3 = wn (b + R.length) → rPl G' b R → Kp (PSc b) G G' → post (.inl (some (.int (wn 1)))) G') →
  (∀ k w G', ps p b = .inl (k, w) → fT G' k w → Kp (PSc b) G G' → post (.inl (some (.int (wn 0)))) G') → am_C am_T D 96 [.ref 27, .ref 1, .int (wn B)] G post
def CB (D B : Nat) (t : Nat → Nat) (n o : Nat) (ps : PWk) : Prop := ∀ (G : am_G) (p b : Nat) (post : am_O → am_G → Prop), Sh G → Wt G 100004 42 (cx tx1) → rT G t n p o → am_gI G 27 3 = wn b → 3 * b ≤ p →
  (∀ q R G', ps p b = .inr (q, R) → rT G' t n q o → am_gI G' 27 3 = wn (b + R.length) → rPl G' b R → Kp (PSc b) G G' → post (.inl (some (.int (wn 1)))) G') →
  (∀ k w G', ps p b = .inl (k, w) → fT G' k w → Kp (PSc b) G G' → post (.inl (some (.int (wn 0)))) G') → am_C am_T D 95 [.ref 27, .ref 1, .int (wn B), .int (wn 1)] G post
section
variable {G G' : am_G} {d B n o p b lv : Nat} {t : Nat → Nat} {ps body : PWk} {R : List Et} {post : am_O → am_G → Prop}
theorem rPl.nil (G : am_G) (b : Nat) : rPl G b [] := fun i e he => by simp at he
theorem rPl.k {b' : Nat} (h : rPl G b R) (k : Kp (PSc b') G G') (hb : b + R.length ≤ b') : rPl G' b R := fun i e he => by
  have hi : i < R.length := (List.getElem?_eq_some_iff.mp he).1
  rw [k.i (by unfold PSc; omega), k.i (by unfold PSc; omega), k.i (by unfold PSc; omega)]; exact h i e he
theorem rPl.t1 (h : rPl G b R) (k : Kp T1 G G') : rPl G' b R := fun i e he => by
  rw [k.i (by unfold T1; omega), k.i (by unfold T1; omega), k.i (by unfold T1; omega)]; exact h i e he
theorem rPl.app {R2 : List Et} (h : rPl G b R) (h2 : rPl G (b + R.length) R2) : rPl G b (R ++ R2) := fun i e he => by
  by_cases c : i < R.length
  · rw [List.getElem?_append_left c] at he; exact h i e he
  · rw [List.getElem?_append_right (by omega)] at he
    have := h2 (i - R.length) e he
    rw [show b + R.length + (i - R.length) = b + i by omega] at this
    exact this
theorem PSc.up {b' : Nat} (k : Kp (PSc b') G G') (hb : b ≤ b') : Kp (PSc b) G G' := k.mono (fun a i z => by unfold PSc at z ⊢; omega)
theorem T1.psc (k : Kp T1 G G') : Kp (PSc b) G G' := k.mono (fun a i z => Or.inl z)
theorem Wt.psc {A N : Nat} {c : Nat → Nat} (h : Wt G A N c) (k : Kp (PSc b) G G') : Wt G' A N c := h.kp k (fun a i z => by unfold PSc at z; omega)
theorem pb_app {x : PR (Nat × List Et)} {R1 R2 : List Et} : pb (pb x (fun y => .inr (y.1, R2 ++ y.2))) (fun y => (.inr (y.1, R1 ++ y.2) : PR (Nat × List Et))) = pb x (fun y => .inr (y.1, (R1 ++ R2) ++ y.2)) := by
  rcases x with e | y
  · rfl
  · simp only [pb, List.append_assoc]
theorem CB95 (hg : Gw0 t n B ps) (hn : n ≤ 150) (h : CW (d + 2) B t n o ps) : CB (d + 3) B t n o (pbr t n ps 151) := by
  intro G p b post hsh hW hT h3 hb kok kbad
  have hc := am_C_one am_T (d + 2)
  generalize hX : pbr t n ps 151 p b = X at kok kbad
  have key : ∀ (f i p' : Nat) (R' : List Et) (G1 : am_G), f + i = 151 → 2 * i ≤ p' → Sh G1 → rT G1 t n p' o → am_gI G1 27 3 = wn (b + R'.length) → 3 * (b + R'.length) ≤ p' → rPl G1 b R' → Kp (PSc b) G G1 →
      X = pb (pbr t n ps f p' (b + R'.length)) (fun y => .inr (y.1, R' ++ y.2)) → am_W (am_C am_T (d + 2)) am_95 post 3 [some (.ref 27), some (.ref 1), some (.int (wn B)), some (.int (wn 1)), some (.int (wn i))] [] G1 := by
    intro f
    induction f with
    | zero =>
      intro i p' R' G1 hf hi s1 t1
      have := t1.2.2.1
      omega
    | succ f ih =>
      intro i p' R' G1 hf hi s1 t1 c1 hb1 l1 k1 he
      have hpn := t1.2.2.1
      have ci : ¬ 150 ≤ i := by omega
      unfold pbr at he
      rw [wb95_3 hc]
      simp +decide (disch := omega) only [↓wm1, wb95_11 hc, wb95_15 hc, w0, w1, w59, w93, w150, rI_wI, rP_wI, rL_wI, rI_wR, rP_wR, is_wI, is_wR, ia_wI, ia_wR, ow_wI, ow_wR, wn_add, wn_mul, wn_cl, wn_le, wn_lt, wn_inj, wn_ne1, wn_1ne, wn_gt1, wn_le1, nb0, nb1, am_kt, am_rt, List.cons_append, List.nil_append, true_and, and_true, not_true_eq_false, not_false_eq_true, imp_f, imp_t, implies_true, Nat.zero_add, if_true, if_false, false_and, and_false, ci, fC s1]
      refine ct71 s1 t1 (by decide) (fun p2 G2 e2 t2 q2 k2 => ?_) (fun e2 => ?_)
      · obtain ⟨a1, a2, rfl, -⟩ := psgn_in e2
        rw [if_pos ⟨a1, a2⟩] at he
        simp only [pb, List.append_nil] at he
        simp +decide (disch := omega) only [↓wm1, wb95_21 hc, wb95_24 hc, wb95_34 hc, w0, w1, w59, w93, w150, rI_wI, rP_wI, rL_wI, rI_wR, rP_wR, is_wI, is_wR, ia_wI, ia_wR, ow_wI, ow_wR, wn_add, wn_mul, wn_cl, wn_le, wn_lt, wn_inj, wn_ne1, wn_1ne, wn_gt1, wn_le1, nb0, nb1, am_kt, am_rt, List.cons_append, List.nil_append, true_and, and_true, not_true_eq_false, not_false_eq_true, imp_f, imp_t, implies_true, Nat.zero_add, if_true, if_false, false_and, and_false]
        refine kok _ _ G2 he t2 ?_ (l1.t1 k2) (k1.trans (T1.psc k2))
        rw [k2.i (by unfold T1; omega)]; exact c1
      · have n1 := psgn_no e2
        rw [if_neg n1] at he
        simp +decide (disch := omega) only [↓wm1, wb95_21 hc, wb95_36 hc, w0, w1, w59, w93, w150, rI_wI, rP_wI, rL_wI, rI_wR, rP_wR, is_wI, is_wR, ia_wI, ia_wR, ow_wI, ow_wR, wn_add, wn_mul, wn_cl, wn_le, wn_lt, wn_inj, wn_ne1, wn_1ne, wn_gt1, wn_le1, nb0, nb1, am_kt, am_rt, List.cons_append, List.nil_append, true_and, and_true, not_true_eq_false, not_false_eq_true, imp_f, imp_t, implies_true, Nat.zero_add, if_true, if_false, false_and, and_false, fC s1]
        refine h G1 p' _ _ s1 (hW.psc k1) t1 c1 hb1 (fun q R2 G2 e2 t2 c2 l2 k2 => ?_) (fun k w G2 e2 f2 k2 => ?_)
        · have s2 := s1.kp k2
          obtain ⟨a1, a2, a3, a4, a5⟩ := hg _ _ _ _ hpn e2
          unfold psn at he
          rw [e2] at he
          simp only [pb] at he
          have kk2 := k1.trans (PSc.up k2 (by omega))
          simp +decide (disch := omega) only [↓wm1, wb95_42 hc, wb95_45 hc, w0, w1, w59, w93, w150, rI_wI, rP_wI, rL_wI, rI_wR, rP_wR, is_wI, is_wR, ia_wI, ia_wR, ow_wI, ow_wR, wn_add, wn_mul, wn_cl, wn_le, wn_lt, wn_inj, wn_ne1, wn_1ne, wn_gt1, wn_le1, nb0, nb1, am_kt, am_rt, List.cons_append, List.nil_append, true_and, and_true, not_true_eq_false, not_false_eq_true, imp_f, imp_t, implies_true, Nat.zero_add, if_true, if_false, false_and, and_false, fC s2]
          refine ct72 s2 t2 (by decide) (fun q3 G3 e3 t3 k3 => ?_) (fun G3 e3 f3 k3 => ?_)
          · obtain ⟨-, -, -, b4, b5, b6⟩ := psgn_in e3
            rw [e3] at he
            simp only [] at he
            have he2 : X = pb (pbr t n ps f q3 (b + (R' ++ R2).length)) (fun y => .inr (y.1, (R' ++ R2) ++ y.2)) := by
              rw [← pb_app, List.length_append, ← Nat.add_assoc]; exact he
            simp +decide (disch := omega) only [↓wm1, wb95_51 hc, wb95_56 hc, w0, w1, w59, w93, w150, rI_wI, rP_wI, rL_wI, rI_wR, rP_wR, is_wI, is_wR, ia_wI, ia_wR, ow_wI, ow_wR, wn_add, wn_mul, wn_cl, wn_le, wn_lt, wn_inj, wn_ne1, wn_1ne, wn_gt1, wn_le1, nb0, nb1, am_kt, am_rt, List.cons_append, List.nil_append, true_and, and_true, not_true_eq_false, not_false_eq_true, imp_f, imp_t, implies_true, Nat.zero_add, if_true, if_false, false_and, and_false]
            refine ih (i + 1) q3 (R' ++ R2) G3 (by omega) (by omega) (s2.kp k3) t3 ?_ (by rw [List.length_append]; omega) ((l1.k k2 (Nat.le_refl _)).app l2 |>.t1 k3) (kk2.trans (T1.psc k3)) he2
            rw [k3.i (by unfold T1; omega), List.length_append, ← Nat.add_assoc]; exact c2
          · rw [e3] at he
            simp only [] at he
            simp +decide (disch := omega) only [↓wm1, wb95_51 hc, wb95_54 hc, w0, w1, w59, w93, w150, rI_wI, rP_wI, rL_wI, rI_wR, rP_wR, is_wI, is_wR, ia_wI, ia_wR, ow_wI, ow_wR, wn_add, wn_mul, wn_cl, wn_le, wn_lt, wn_inj, wn_ne1, wn_1ne, wn_gt1, wn_le1, nb0, nb1, am_kt, am_rt, List.cons_append, List.nil_append, true_and, and_true, not_true_eq_false, not_false_eq_true, imp_f, imp_t, implies_true, Nat.zero_add, if_true, if_false, false_and, and_false]
            exact kbad _ _ G3 he f3 (kk2.trans (T1.psc k3))
        · unfold psn at he
          rw [e2] at he
          simp only [pb] at he
          simp +decide (disch := omega) only [↓wm1, wb95_42 hc, wb95_54 hc, w0, w1, w59, w93, w150, rI_wI, rP_wI, rL_wI, rI_wR, rP_wR, is_wI, is_wR, ia_wI, ia_wR, ow_wI, ow_wR, wn_add, wn_mul, wn_cl, wn_le, wn_lt, wn_inj, wn_ne1, wn_1ne, wn_gt1, wn_le1, nb0, nb1, am_kt, am_rt, List.cons_append, List.nil_append, true_and, and_true, not_true_eq_false, not_false_eq_true, imp_f, imp_t, implies_true, Nat.zero_add, if_true, if_false, false_and, and_false]
          exact kbad _ _ G2 he f2 (k1.trans (PSc.up k2 (by omega)))
  rw [we95]
  simp +decide (disch := omega) only [↓wm1, wb95_0 hc, w0, w1, w59, w93, w150, rI_wI, rP_wI, rL_wI, rI_wR, rP_wR, is_wI, is_wR, ia_wI, ia_wR, ow_wI, ow_wR, wn_add, wn_mul, wn_cl, wn_le, wn_lt, wn_inj, wn_ne1, wn_1ne, wn_gt1, wn_le1, nb0, nb1, am_kt, am_rt, List.cons_append, List.nil_append, true_and, and_true, not_true_eq_false, not_false_eq_true, imp_f, imp_t, implies_true, Nat.zero_add, if_true, if_false, false_and, and_false]
  refine key 151 0 p [] G rfl (Nat.zero_le _) hsh hT h3 hb (rPl.nil G b) (Kp.refl G) ?_
  rw [show b + ([] : List Et).length = b from rfl, hX]
  rcases X with e | y
  · rfl
  · rfl
end
