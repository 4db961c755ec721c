/-! A work's run: what it does, and the object's side. -/
abbrev Et : Type := Nat × Nat × Nat
abbrev Wv : Type := Nat × Nat × Nat × St
def gstep (δ : Dt) (Λ : List Tok) (e : Et) (s : Wv) : Wv := (s.1, s.2.1 + (doS δ Λ s.2.2.2 e.1 e.2.1).1, s.2.2.1 + (1 - (doS δ Λ s.2.2.2 e.1 e.2.1).1), (doS δ Λ s.2.2.2 e.1 e.2.1).2)
def repn (g : Wv → Wv) : Nat → Wv → Wv
  | 0, s => s
  | k + 1, s => repn g k (g s)
def grun (δ : Dt) (Λ : List Tok) (E : Nat → Et) : Nat → Nat → Nat → Wv → Wv
  | 0, _, _, s => s
  | f + 1, lo, hi, s => if hi ≤ lo ∨ 200 ≤ s.1 then s else if (E lo).1 = 7 then grun δ Λ E f (E lo).2.2 hi (repn (grun δ Λ E f (lo + 1) (E lo).2.2) (E lo).2.1 (s.1 + 1, s.2)) else grun δ Λ E f (lo + 1) hi (gstep δ Λ (E lo) (s.1 + 1, s.2))
theorem repn_id {g : Wv → Wv} {s : Wv} (h : g s = s) (k : Nat) : repn g k s = s := by
  induction k with
  | zero => rfl
  | succ k ih => unfold repn; rw [h]; exact ih
theorem grun_full {δ : Dt} {Λ : List Tok} {E : Nat → Et} {s : Wv} (h : 200 ≤ s.1) (f lo hi : Nat) : grun δ Λ E f lo hi s = s := by
  cases f with
  | zero => rfl
  | succ f => unfold grun; rw [if_pos (Or.inr h)]
/-- a plan that can be run -/
def wfE (δ : Dt) (E : Nat → Et) (tot : Nat) : Prop := ∀ i, i < tot → i + 1 ≤ (E i).2.2 ∧ (E i).2.2 ≤ tot ∧ (E i).1 ≤ 7 ∧ (¬ (E i).1 = 7 → okN δ (E i).1 (E i).2.1 ∧ (E i).2.2 = i + 1) ∧ ((E i).1 = 7 → (E i).2.1 ≤ 60)
def vW (δ : Dt) (s : Wv) : Prop := s.1 ≤ 200 ∧ vS9 (dB δ) (dH δ) s.2.2.2
section
variable {δ : Dt} {Λ : List Tok} {E : Nat → Et} {tot : Nat}
theorem vW_step {s : Wv} (hB : dB δ ≤ 6) (h : vW δ s) {e : Et} (hn : okN δ e.1 e.2.1) : vW δ (gstep δ Λ e s) :=
  ⟨h.1, vS_doS hB h.2.1 hn, sH_doS h.2.2 hn.1⟩
theorem vW_repn {g : Wv → Wv} (hg : ∀ s, vW δ s → vW δ (g s)) (k : Nat) : ∀ s, vW δ s → vW δ (repn g k s) := by
  induction k with
  | zero => exact fun s h => h
  | succ k ih => exact fun s h => ih _ (hg s h)
theorem vW_run (hB : dB δ ≤ 6) (hE : wfE δ E tot) (f : Nat) : ∀ lo hi s, hi ≤ tot → vW δ s → vW δ (grun δ Λ E f lo hi s) := by
  induction f with
  | zero => exact fun lo hi s _ h => h
  | succ f ih =>
    intro lo hi s ht h
    unfold grun
    split
    · exact h
    · rename_i c
      have c1 : ¬ hi ≤ lo := fun z => c (Or.inl z)
      have c2 : ¬ 200 ≤ s.1 := fun z => c (Or.inr z)
      have he := hE lo (by omega)
      have h1 : vW δ (s.1 + 1, s.2) := ⟨by show s.1 + 1 ≤ 200; omega, h.2⟩
      split
      · exact ih _ _ _ ht (vW_repn (fun s hs => ih _ _ s he.2.1 hs) _ _ h1)
      · rename_i c7
        exact ih _ _ _ ht (vW_step hB h1 (he.2.2.2.1 c7).1)
end
/-- the object's plan and counts -/
def rPC (G : am_G) (E : Nat → Et) (tot : Nat) : Prop := ∀ i, i < tot → am_gI G 28 i = wn (E i).1 ∧ am_gI G 29 i = wn (E i).2.1 ∧ ((E i).1 = 7 → am_gI G 30 i = wn (E i).2.2)
def rCn (G : am_G) (s : Wv) : Prop := am_gI G 27 4 = wn s.1 ∧ am_gI G 27 5 = wn s.2.1 ∧ am_gI G 27 6 = wn s.2.2.1 ∧ rS G 32 s.2.2.2
def WS : Nat → Nat → Prop := fun a i => (a = 27 ∧ 4 ≤ i ∧ i ≤ 6) ∨ PS 32 a i
section
variable {G : am_G} {d q l tot : Nat} {δ : Dt} {Λ : List Tok} {E : Nat → Et}
theorem f27 (h : Sh G) : am_gP G 27 0 = 28 ∧ am_gP G 27 1 = 29 ∧ am_gP G 27 2 = 30 ∧ (∀ j, j < 150 → am_ia G 28 (wn j)) ∧ (∀ j, j < 150 → am_ia G 29 (wn j)) ∧ (∀ j, j < 150 → am_ia G 30 (wn j)) ∧ (∀ j, j < 150 → am_ow G 28 (wn j) 100) ∧ (∀ j, j < 150 → am_ow G 29 (wn j) 100) ∧ (∀ j, j < 150 → am_ow G 30 (wn j) 100) :=
  ⟨q27_0 h, q27_1 h, q27_2 h, fun j hj => h.ia (n := 150) rfl hj (by decide), fun j hj => h.ia (n := 150) rfl hj (by decide), fun j hj => h.ia (n := 150) rfl hj (by decide), fun j hj => h.ow (n := 150) rfl hj (by decide), fun j hj => h.ow (n := 150) rfl hj (by decide), fun j hj => h.ow (n := 150) rfl hj (by decide)⟩
theorem rPC.ws {G' : am_G} (h : rPC G E tot) (k : Kp WS G G') : rPC G' E tot := fun i hi => by
  rw [k.i (by unfold WS PS; omega), k.i (by unfold WS PS; omega), k.i (by unfold WS PS; omega)]; exact h i hi
theorem Tw.ws {G' : am_G} (h : Tw G q l δ Λ) (k : Kp WS G G') : Tw G' q l δ Λ := h.kp k (fun a i z => by unfold WS PS at z; omega)
theorem rCn.c1 {s : Wv} (h : rCn G s) : rCn (am_wI G 27 4 (wn (s.1 + 1))) (s.1 + 1, s.2) := ⟨by rw [rI_wI, if_pos ⟨rfl, rfl⟩], by rw [rI_wI, if_neg (by omega)]; exact h.2.1, by rw [rI_wI, if_neg (by omega)]; exact h.2.2.1, h.2.2.2.eq (fun a i z1 z2 => by rw [rI_wI, if_neg (by omega)])⟩
theorem ct99 (hE : wfE δ E tot) (ht : tot ≤ 150) : ∀ (F f lo hi : Nat) (s : Wv) (G : am_G) (post : am_O → am_G → Prop), f ≤ F → tot - lo ≤ f → hi ≤ tot → lo ≤ 150 → Sh G → Tw G q l δ Λ → rPC G E tot → rCn G s → vW δ s →
    (∀ G', rCn G' (grun δ Λ E f lo hi s) → Kp WS G G' → post (.inl none) G') → am_C am_T (d + F + 8) 99 [.ref 27, .ref 3, .ref 32, .int (wn lo), .int (wn hi)] G post := by
  intro F
  induction F with
  | zero =>
    intro f lo hi s G post hf hlo hhi hl1 hsh hT hP hC hv k
    have hc := am_C_one am_T (d + 0 + 7)
    have c1 : hi ≤ lo := by omega
    have f0 : f = 0 := by omega
    subst f0
    rw [we99]
    simp +decide (disch := omega) only [↓wm1, wb99_0 hc, w0, w1, w7, w200, rI_wI, rP_wI, rL_wI, rI_wR, rP_wR, is_wI, is_wR, ia_wI, ia_wR, ow_wI, ow_wR, wn_add, wn_mul, wn_cl, wn_le, wn_lt, wn_inj, wn_ne1, wn_1ne, wn_gt1, wn_le1, nb0, nb1, am_kt, am_rt, List.cons_append, List.nil_append, true_and, and_true, not_true_eq_false, not_false_eq_true, imp_f, imp_t, implies_true, Nat.zero_add, if_true, if_false, false_and, and_false]
    rw [wb99_3 hc]
    simp +decide (disch := omega) only [↓wm1, wb99_153 hc, w0, w1, w7, w200, rI_wI, rP_wI, rL_wI, rI_wR, rP_wR, is_wI, is_wR, ia_wI, ia_wR, ow_wI, ow_wR, wn_add, wn_mul, wn_cl, wn_le, wn_lt, wn_inj, wn_ne1, wn_1ne, wn_gt1, wn_le1, nb0, nb1, am_kt, am_rt, List.cons_append, List.nil_append, true_and, and_true, not_true_eq_false, not_false_eq_true, imp_f, imp_t, implies_true, Nat.zero_add, if_true, if_false, false_and, and_false, c1]
    exact k G hC (Kp.refl G)
  | succ F IH =>
    intro f lo hi s G post hf hlo hhi hl1 hsh hT hP hC hv k
    have hc := am_C_one am_T (d + F + 8)
    have key : ∀ (f lo : Nat) (s : Wv) (G1 : am_G) (o3 o6 : Option Value), f ≤ F + 1 → tot - lo ≤ f → lo ≤ 150 → Sh G1 → Tw G1 q l δ Λ → rPC G1 E tot → rCn G1 s → vW δ s → Kp WS G G1 →
        (∀ G', rCn G' (grun δ Λ E f lo hi s) → Kp WS G G' → post (.inl none) G') → am_W (am_C am_T (d + F + 8)) am_99 post 3 [some (.ref 27), some (.ref 3), some (.ref 32), o3, some (.int (wn hi)), some (.int (wn lo)), o6] [] G1 := by
      intro f
      induction f with
      | zero =>
        intro lo s G1 o3 o6 hf hlo hl1 s1 T1 P1 C1 v1 k1 k
        have c1 : hi ≤ lo := by omega
        rw [wb99_3 hc]
        simp +decide (disch := omega) only [↓wm1, wb99_153 hc, w0, w1, w7, w200, rI_wI, rP_wI, rL_wI, rI_wR, rP_wR, is_wI, is_wR, ia_wI, ia_wR, ow_wI, ow_wR, wn_add, wn_mul, wn_cl, wn_le, wn_lt, wn_inj, wn_ne1, wn_1ne, wn_gt1, wn_le1, nb0, nb1, am_kt, am_rt, List.cons_append, List.nil_append, true_and, and_true, not_true_eq_false, not_false_eq_true, imp_f, imp_t, implies_true, Nat.zero_add, if_true, if_false, false_and, and_false, c1]
        exact k G1 C1 k1
      | succ f ih =>
        intro lo s G1 o3 o6 hf hlo hl1 s1 T1 P1 C1 v1 k1 k
        have hs200 := v1.1
        rw [wb99_3 hc]
        by_cases c1 : hi ≤ lo
        · simp +decide (disch := omega) only [↓wm1, wb99_153 hc, w0, w1, w7, w200, rI_wI, rP_wI, rL_wI, rI_wR, rP_wR, is_wI, is_wR, ia_wI, ia_wR, ow_wI, ow_wR, wn_add, wn_mul, wn_cl, wn_le, wn_lt, wn_inj, wn_ne1, wn_1ne, wn_gt1, wn_le1, nb0, nb1, am_kt, am_rt, List.cons_append, List.nil_append, true_and, and_true, not_true_eq_false, not_false_eq_true, imp_f, imp_t, implies_true, Nat.zero_add, if_true, if_false, false_and, and_false, c1]
          unfold grun at k
          rw [if_pos (Or.inl c1)] at k
          exact k G1 C1 k1
        · by_cases c2 : 200 ≤ s.1
          · simp +decide (disch := omega) only [↓wm1, wb99_10 hc, wb99_153 hc, w0, w1, w7, w200, rI_wI, rP_wI, rL_wI, rI_wR, rP_wR, is_wI, is_wR, ia_wI, ia_wR, ow_wI, ow_wR, wn_add, wn_mul, wn_cl, wn_le, wn_lt, wn_inj, wn_ne1, wn_1ne, wn_gt1, wn_le1, nb0, nb1, am_kt, am_rt, List.cons_append, List.nil_append, true_and, and_true, not_true_eq_false, not_false_eq_true, imp_f, imp_t, implies_true, Nat.zero_add, if_true, if_false, false_and, and_false, c1, fC s1, C1.1, c2]
            unfold grun at k
            rw [if_pos (Or.inr c2)] at k
            exact k G1 C1 k1
          · have c12 : ¬ (hi ≤ lo ∨ 200 ≤ s.1) := by omega
            unfold grun at k
            rw [if_neg c12] at k
            have hl : lo < 150 := by omega
            obtain ⟨u1, u2, u3, u4, u5⟩ := hE lo (by omega)
            obtain ⟨p1, p2, p3⟩ := P1 lo (by omega)
            have C2 := C1.c1
            have k2 : Kp WS G1 (am_wI G1 27 4 (wn (s.1 + 1))) := (Kp.refl G1).wI (Or.inl ⟨rfl, by decide, by decide⟩) _
            have v2 : vW δ (s.1 + 1, s.2) := ⟨by show s.1 + 1 ≤ 200; omega, v1.2⟩
            have s2 := s1.kp k2
            have T2 := T1.ws k2
            have P2 := P1.ws k2
            by_cases c7 : (E lo).1 = 7
            · rw [if_pos c7] at k
              have p3 := p3 c7
              have u5 := u5 c7
              rw [c7] at p1
              simp +decide (disch := omega) only [↓wm1, wb99_10 hc, wb99_20 hc, wb99_42 hc, w0, w1, w7, w200, rI_wI, rP_wI, rL_wI, rI_wR, rP_wR, is_wI, is_wR, ia_wI, ia_wR, ow_wI, ow_wR, wn_add, wn_mul, wn_cl, wn_le, wn_lt, wn_inj, wn_ne1, wn_1ne, wn_gt1, wn_le1, nb0, nb1, am_kt, am_rt, List.cons_append, List.nil_append, true_and, and_true, not_true_eq_false, not_false_eq_true, imp_f, imp_t, implies_true, Nat.zero_add, if_true, if_false, false_and, and_false, c1, fC s1, f27 s1, C1.1, c2, p1, hl]
              generalize am_wI G1 27 4 (wn (s.1 + 1)) = G2 at C2 k2 s2 T2 P2 ⊢
              have lp : ∀ (m j : Nat) (s2 : Wv) (G3 : am_G), m + j = (E lo).2.1 → Sh G3 → Tw G3 q l δ Λ → rPC G3 E tot → rCn G3 s2 → vW δ s2 → Kp WS G G3 →
                  (∀ G', rCn G' (grun δ Λ E f (E lo).2.2 hi (repn (grun δ Λ E f (lo + 1) (E lo).2.2) m s2)) → Kp WS G G' → post (.inl none) G') → am_W (am_C am_T (d + F + 8)) am_99 post 45 [some (.ref 27), some (.ref 3), some (.ref 32), none, some (.int (wn hi)), some (.int (wn lo)), some (.int (wn j))] [] G3 := by
                have done : ∀ (s2 : Wv) (G3 : am_G) (j : Nat), Sh G3 → Tw G3 q l δ Λ → rPC G3 E tot → rCn G3 s2 → vW δ s2 → Kp WS G G3 → (∀ G', rCn G' (grun δ Λ E f (E lo).2.2 hi s2) → Kp WS G G' → post (.inl none) G') → am_W (am_C am_T (d + F + 8)) am_99 post 90 [some (.ref 27), some (.ref 3), some (.ref 32), none, some (.int (wn hi)), some (.int (wn lo)), some (.int (wn j))] [] G3 := by
                  intro s2 G3 j s3 T3 P3 C3 v3 k3 kk
                  have p3' := (P3 lo (by omega)).2.2 c7
                  simp +decide (disch := omega) only [↓wm1, wb99_90 hc, w0, w1, w7, w200, rI_wI, rP_wI, rL_wI, rI_wR, rP_wR, is_wI, is_wR, ia_wI, ia_wR, ow_wI, ow_wR, wn_add, wn_mul, wn_cl, wn_le, wn_lt, wn_inj, wn_ne1, wn_1ne, wn_gt1, wn_le1, nb0, nb1, am_kt, am_rt, List.cons_append, List.nil_append, true_and, and_true, not_true_eq_false, not_false_eq_true, imp_f, imp_t, implies_true, Nat.zero_add, if_true, if_false, false_and, and_false, fC s3, f27 s3, hl, p3']
                  exact ih (E lo).2.2 s2 G3 _ _ (by omega) (by omega) (by omega) s3 T3 P3 C3 v3 k3 kk
                intro m
                induction m with
                | zero =>
                  intro j s2 G3 hj s3 T3 P3 C3 v3 k3 kk
                  have p2' := (P3 lo (by omega)).2.1
                  have cj : (E lo).2.1 ≤ j := by omega
                  rw [wb99_45 hc]
                  simp +decide (disch := omega) only [↓wm1, w0, w1, rI_wI, rP_wI, rL_wI, rI_wR, rP_wR, is_wI, is_wR, ia_wI, ia_wR, ow_wI, ow_wR, wn_add, wn_mul, wn_cl, wn_le, wn_lt, wn_inj, wn_ne1, wn_1ne, wn_gt1, wn_le1, nb0, nb1, am_kt, am_rt, List.cons_append, List.nil_append, true_and, and_true, not_true_eq_false, not_false_eq_true, imp_f, imp_t, implies_true, Nat.zero_add, if_true, if_false, false_and, and_false, fC s3, f27 s3, hl, p2', cj]
                  exact done s2 G3 j s3 T3 P3 C3 v3 k3 kk
                | succ m ihm =>
                  intro j s2 G3 hj s3 T3 P3 C3 v3 k3 kk
                  have p2' := (P3 lo (by omega)).2.1
                  have p3' := (P3 lo (by omega)).2.2 c7
                  have cj : ¬ (E lo).2.1 ≤ j := by omega
                  have h200 := v3.1
                  rw [wb99_45 hc]
                  by_cases c3 : 200 ≤ s2.1
                  · simp +decide (disch := omega) only [↓wm1, wb99_57 hc, w0, w1, w7, w200, rI_wI, rP_wI, rL_wI, rI_wR, rP_wR, is_wI, is_wR, ia_wI, ia_wR, ow_wI, ow_wR, wn_add, wn_mul, wn_cl, wn_le, wn_lt, wn_inj, wn_ne1, wn_1ne, wn_gt1, wn_le1, nb0, nb1, am_kt, am_rt, List.cons_append, List.nil_append, true_and, and_true, not_true_eq_false, not_false_eq_true, imp_f, imp_t, implies_true, Nat.zero_add, if_true, if_false, false_and, and_false, fC s3, f27 s3, hl, p2', cj, C3.1, c3]
                    rw [repn_id (grun_full c3 _ _ _)] at kk
                    exact done s2 G3 j s3 T3 P3 C3 v3 k3 kk
                  · simp +decide (disch := omega) only [↓wm1, wb99_57 hc, wb99_67 hc, w0, w1, w7, w200, rI_wI, rP_wI, rL_wI, rI_wR, rP_wR, is_wI, is_wR, ia_wI, ia_wR, ow_wI, ow_wR, wn_add, wn_mul, wn_cl, wn_le, wn_lt, wn_inj, wn_ne1, wn_1ne, wn_gt1, wn_le1, nb0, nb1, am_kt, am_rt, List.cons_append, List.nil_append, true_and, and_true, not_true_eq_false, not_false_eq_true, imp_f, imp_t, implies_true, Nat.zero_add, if_true, if_false, false_and, and_false, fC s3, f27 s3, hl, p2', cj, C3.1, c3, p3']
                    have hB := T3.2.2.2.2.2.1.1
                    refine IH f (lo + 1) (E lo).2.2 s2 G3 _ (by omega) (by omega) u2 (by omega) s3 T3 P3 C3 v3 (fun G4 C4 k4 => ?_)
                    simp +decide (disch := omega) only [↓wm1, wb99_84 hc, w0, w1, w7, w200, rI_wI, rP_wI, rL_wI, rI_wR, rP_wR, is_wI, is_wR, ia_wI, ia_wR, ow_wI, ow_wR, wn_add, wn_mul, wn_cl, wn_le, wn_lt, wn_inj, wn_ne1, wn_1ne, wn_gt1, wn_le1, nb0, nb1, am_kt, am_rt, List.cons_append, List.nil_append, true_and, and_true, not_true_eq_false, not_false_eq_true, imp_f, imp_t, implies_true, Nat.zero_add, if_true, if_false, false_and, and_false]
                    exact ihm (j + 1) _ G4 (by omega) (s3.kp k4) (T3.ws k4) (P3.ws k4) C4 (vW_run hB hE f _ _ _ u2 v3) (k3.trans k4) kk
              exact lp (E lo).2.1 0 _ G2 (by omega) s2 T2 P2 C2 v2 (k1.trans k2) k
            · rw [if_neg c7] at k
              have okn := (u4 c7).1
              have hB := T1.2.2.2.2.2.1.1
              simp +decide (disch := omega) only [↓wm1, wb99_10 hc, wb99_20 hc, w0, w1, w7, w200, rI_wI, rP_wI, rL_wI, rI_wR, rP_wR, is_wI, is_wR, ia_wI, ia_wR, ow_wI, ow_wR, wn_add, wn_mul, wn_cl, wn_le, wn_lt, wn_inj, wn_ne1, wn_1ne, wn_gt1, wn_le1, nb0, nb1, am_kt, am_rt, List.cons_append, List.nil_append, true_and, and_true, not_true_eq_false, not_false_eq_true, imp_f, imp_t, implies_true, Nat.zero_add, if_true, if_false, false_and, and_false, c1, fC s1, f27 s1, C1.1, c2, p1, hl, c7]
              generalize am_wI G1 27 4 (wn (s.1 + 1)) = G2 at C2 k2 s2 T2 P2 ⊢
              obtain ⟨p1', p2', -⟩ := P2 lo (by omega)
              simp +decide (disch := omega) only [↓wm1, wb99_102 hc, w0, w1, w7, w200, rI_wI, rP_wI, rL_wI, rI_wR, rP_wR, is_wI, is_wR, ia_wI, ia_wR, ow_wI, ow_wR, wn_add, wn_mul, wn_cl, wn_le, wn_lt, wn_inj, wn_ne1, wn_1ne, wn_gt1, wn_le1, nb0, nb1, am_kt, am_rt, List.cons_append, List.nil_append, true_and, and_true, not_true_eq_false, not_false_eq_true, imp_f, imp_t, implies_true, Nat.zero_add, if_true, if_false, false_and, and_false, fC s2, f27 s2, hl, p1', p2']
              refine ct86 (σ := s.2.2.2) s2 T2 h32 C2.2.2.2 v2.2.1 okn (fun G3 r3 k3 => ?_)
              have k3' : Kp WS G2 G3 := k3.mono (fun a i z => Or.inr z)
              have s3 := s2.kp k3'
              have T3 := T2.ws k3'
              have P3 := P2.ws k3'
              have e4 : am_gI G3 27 4 = wn (s.1 + 1) := by rw [k3.i (by unfold PS; omega)]; exact C2.1
              have e5 : am_gI G3 27 5 = wn s.2.1 := by rw [k3.i (by unfold PS; omega)]; exact C2.2.1
              have e6 : am_gI G3 27 6 = wn s.2.2.1 := by rw [k3.i (by unfold PS; omega)]; exact C2.2.2.1
              have v3 := vW_step (Λ := Λ) hB v2 okn
              unfold gstep at k v3
              simp only at k v3
              rcases doS_01 δ Λ s.2.2.2 (E lo).1 (E lo).2.1 with z | z
              · rw [z] at k v3
                simp +decide (disch := omega) only [↓wm1, wb99_121 hc, wb99_137 hc, wb99_147 hc, w0, w1, w7, w200, rI_wI, rP_wI, rL_wI, rI_wR, rP_wR, is_wI, is_wR, ia_wI, ia_wR, ow_wI, ow_wR, wn_add, wn_mul, wn_cl, wn_le, wn_lt, wn_inj, wn_ne1, wn_1ne, wn_gt1, wn_le1, nb0, nb1, am_kt, am_rt, List.cons_append, List.nil_append, true_and, and_true, not_true_eq_false, not_false_eq_true, imp_f, imp_t, implies_true, Nat.zero_add, if_true, if_false, false_and, and_false, z, fC s3, e6]
                have k4 : Kp WS G3 (am_wI G3 27 6 (wn (s.2.2.1 + 1))) := (Kp.refl G3).wI (Or.inl ⟨rfl, by decide, by decide⟩) _
                exact ih (lo + 1) _ _ _ _ (by omega) (by omega) (by omega) (s3.kp k4) (T3.ws k4) (P3.ws k4) ⟨by rw [rI_wI, if_neg (by omega)]; exact e4, by rw [rI_wI, if_neg (by omega)]; exact e5, by rw [rI_wI, if_pos ⟨rfl, rfl⟩], r3.eq (fun a i z1 z2 => by rw [rI_wI, if_neg (by omega)])⟩ v3 (((k1.trans k2).trans k3').trans k4) k
              · rw [z] at k v3
                simp +decide (disch := omega) only [↓wm1, wb99_121 hc, wb99_124 hc, wb99_147 hc, w0, w1, w7, w200, rI_wI, rP_wI, rL_wI, rI_wR, rP_wR, is_wI, is_wR, ia_wI, ia_wR, ow_wI, ow_wR, wn_add, wn_mul, wn_cl, wn_le, wn_lt, wn_inj, wn_ne1, wn_1ne, wn_gt1, wn_le1, nb0, nb1, am_kt, am_rt, List.cons_append, List.nil_append, true_and, and_true, not_true_eq_false, not_false_eq_true, imp_f, imp_t, implies_true, Nat.zero_add, if_true, if_false, false_and, and_false, z, fC s3, e5]
                have k4 : Kp WS G3 (am_wI G3 27 5 (wn (s.2.1 + 1))) := (Kp.refl G3).wI (Or.inl ⟨rfl, by decide, by decide⟩) _
                exact ih (lo + 1) _ _ _ _ (by omega) (by omega) (by omega) (s3.kp k4) (T3.ws k4) (P3.ws k4) ⟨by rw [rI_wI, if_neg (by omega)]; exact e4, by rw [rI_wI, if_pos ⟨rfl, rfl⟩], by rw [rI_wI, if_neg (by omega)]; exact e6, r3.eq (fun a i z1 z2 => by rw [rI_wI, if_neg (by omega)])⟩ v3 (((k1.trans k2).trans k3').trans k4) k
    rw [show d + (F + 1) + 8 = d + F + 8 + 1 by omega, we99]
    simp +decide (disch := omega) only [↓wm1, wb99_0 hc, w0, w1, w7, w200, rI_wI, rP_wI, rL_wI, rI_wR, rP_wR, is_wI, is_wR, ia_wI, ia_wR, ow_wI, ow_wR, wn_add, wn_mul, wn_cl, wn_le, wn_lt, wn_inj, wn_ne1, wn_1ne, wn_gt1, wn_le1, nb0, nb1, am_kt, am_rt, List.cons_append, List.nil_append, true_and, and_true, not_true_eq_false, not_false_eq_true, imp_f, imp_t, implies_true, Nat.zero_add, if_true, if_false, false_and, and_false]
    exact key f lo s G _ _ hf hlo hl1 hsh hT hP hC hv (Kp.refl G) k
end
