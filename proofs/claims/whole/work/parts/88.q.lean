/-! A work's run, the reference's side. -/
theorem wn_sur (x : Int32) : ∃ n, x = wn n := ⟨x.toBitVec.toNat, by
  apply Int32.toBitVec_inj.mp
  show x.toBitVec = BitVec.ofNat 32 x.toBitVec.toNat
  simp⟩
theorem doS_6 (δ : Dt) (Λ : List Tok) (σ : St) (n m : Nat) : doS δ Λ σ 6 n = doS δ Λ σ 6 m := by unfold doS; simp
def rPR (G : am_G) (E : Nat → Et) (tot : Nat) : Prop := ∀ i, i < tot → am_gI G (728 + i) 0 = wn (E i).1 ∧ (¬ (E i).1 = 6 → am_gI G (728 + i) 1 = wn (E i).2.1) ∧ am_gI G (728 + i) 2 = wn (E i).2.2
def rCr (G : am_G) (s : Wv) : Prop := am_gI G 334 38 = wn s.1 ∧ am_gI G 334 39 = wn s.2.1 ∧ am_gI G 334 35 = wn s.2.2.1 ∧ rW G 808 0 s.2.2.2
def WM : Nat → Nat → Prop := fun a i => (a = 334 ∧ (i = 35 ∨ i = 38 ∨ i = 39)) ∨ PM 808 a i
section
variable {G : am_G} {d tot : Nat} {δ : Dt} {Λ : List Tok} {E : Nat → Et}
theorem rPR.ws {G' : am_G} (h : rPR G E tot) (ht : tot ≤ 80) (k : Kp WM G G') : rPR G' E tot := fun i hi => by
  rw [k.i (by unfold WM PM; omega), k.i (by unfold WM PM; omega), k.i (by unfold WM PM; omega)]; exact h i hi
theorem Tm.ws {G' : am_G} (h : Tm G δ Λ) (k : Kp WM G G') : Tm G' δ Λ := h.kp k (fun a i z => by unfold WM PM at z; omega)
theorem rCr.c1 {s : Wv} (h : rCr G s) : rCr (am_wI G 334 38 (wn (s.1 + 1))) (s.1 + 1, s.2) := ⟨by rw [rI_wI, if_pos ⟨rfl, rfl⟩], by rw [rI_wI, if_neg (by omega)]; exact h.2.1, by rw [rI_wI, if_neg (by omega)]; exact h.2.2.1, h.2.2.2.eq (fun i => by rw [rI_wI, if_neg (by omega)])⟩
theorem ct203p {i : Nat} {σ : St} {post : am_O → am_G → Prop} (hsh : Sh G) (hT : Tm G δ Λ) (hr : rW G 808 0 σ) (hv : vS (dB δ) (dH δ) σ) (hP : rPR G E tot) (hi : i < tot) (ht : tot ≤ 80) (hn : okN δ (E i).1 (E i).2.1) (kk : ∀ G', rW G' 808 0 (doS δ Λ σ (E i).1 (E i).2.1).2 → Kp (PM 808) G G' → post (.inl (some (.int (wn (doS δ Λ σ (E i).1 (E i).2.1).1)))) G') : am_C am_T (d + 8) 203 [.ref 334, .ref 808, .ref (728 + i)] G post := by
  obtain ⟨p1, p2, p3⟩ := hP i hi
  by_cases c : (E i).1 = 6
  · obtain ⟨m, hm⟩ := wn_sur (am_gI G (728 + i) 1)
    rw [c] at p1 kk
    rw [doS_6 δ Λ σ (E i).2.1 m] at kk
    exact ct203 hsh hT h808 hr hv ⟨by decide, fun z => by omega, fun z => by omega⟩ (by omega) p1 hm kk
  · exact ct203 hsh hT h808 hr hv hn (by omega) p1 (p2 c) kk
theorem ct204 (hE : wfE δ E tot) (ht : tot ≤ 80) : ∀ (F f lo hi : Nat) (s : Wv) (G : am_G) (post : am_O → am_G → Prop), f ≤ F → tot - lo ≤ f → hi ≤ tot → lo ≤ 80 → Sh G → Tm G δ Λ → rPR G E tot → rCr G s → vW δ s →
    (∀ G', rCr G' (grun δ Λ E f lo hi s) → Kp WM G G' → post (.inl none) G') → am_C am_T (d + F + 10) 204 [.ref 334, .int (wn lo), .int (wn hi)] G post := by
  intro F
  induction F with
  | zero =>
    intro f lo hi s G post hf hlo hhi hl1 hsh hT hP hC hv k
    have hc := am_C_one am_T (d + 0 + 9)
    have c1 : hi ≤ lo := by omega
    have f0 : f = 0 := by omega
    subst f0
    rw [we204]
    simp +decide (disch := omega) only [↓wm1, wb204_0 hc, w0, w1, w2, w7, w200, rI_wI, rP_wI, rL_wI, rI_wR, rP_wR, is_wI, is_wR, ia_wI, ia_wR, ow_wI, ow_wR, wn_add, wn_mul, wn_cl, wn_le, wn_lt, wn_inj, wn_ne1, wn_1ne, wn_gt1, wn_le1, nb0, nb1, am_kt, am_rt, List.cons_append, List.nil_append, true_and, and_true, not_true_eq_false, not_false_eq_true, imp_f, imp_t, implies_true, Nat.zero_add, if_true, if_false, false_and, and_false]
    rw [wb204_2 hc]
    simp +decide (disch := omega) only [↓wm1, wb204_156 hc, w0, w1, w2, w7, w200, rI_wI, rP_wI, rL_wI, rI_wR, rP_wR, is_wI, is_wR, ia_wI, ia_wR, ow_wI, ow_wR, wn_add, wn_mul, wn_cl, wn_le, wn_lt, wn_inj, wn_ne1, wn_1ne, wn_gt1, wn_le1, nb0, nb1, am_kt, am_rt, List.cons_append, List.nil_append, true_and, and_true, not_true_eq_false, not_false_eq_true, imp_f, imp_t, implies_true, Nat.zero_add, if_true, if_false, false_and, and_false, c1]
    exact k G hC (Kp.refl G)
  | succ F IH =>
    intro f lo hi s G post hf hlo hhi hl1 hsh hT hP hC hv k
    have hc := am_C_one am_T (d + F + 10)
    have key : ∀ (f lo : Nat) (s : Wv) (G1 : am_G) (o3 o6 : Option Value), f ≤ F + 1 → tot - lo ≤ f → lo ≤ 80 → Sh G1 → Tm G1 δ Λ → rPR G1 E tot → rCr G1 s → vW δ s → Kp WM G G1 →
        (∀ G', rCr G' (grun δ Λ E f lo hi s) → Kp WM G G' → post (.inl none) G') → am_W (am_C am_T (d + F + 10)) am_204 post 2 [some (.ref 334), o3, some (.int (wn hi)), some (.int (wn lo)), o6] [] G1 := by
      intro f
      induction f with
      | zero =>
        intro lo s G1 o3 o6 hf hlo hl1 s1 T1 P1 C1 v1 k1 k
        have c1 : hi ≤ lo := by omega
        rw [wb204_2 hc]
        simp +decide (disch := omega) only [↓wm1, wb204_156 hc, w0, w1, w2, w7, w200, rI_wI, rP_wI, rL_wI, rI_wR, rP_wR, is_wI, is_wR, ia_wI, ia_wR, ow_wI, ow_wR, wn_add, wn_mul, wn_cl, wn_le, wn_lt, wn_inj, wn_ne1, wn_1ne, wn_gt1, wn_le1, nb0, nb1, am_kt, am_rt, List.cons_append, List.nil_append, true_and, and_true, not_true_eq_false, not_false_eq_true, imp_f, imp_t, implies_true, Nat.zero_add, if_true, if_false, false_and, and_false, c1]
        exact k G1 C1 k1
      | succ f ih =>
        intro lo s G1 o3 o6 hf hlo hl1 s1 T1 P1 C1 v1 k1 k
        have hs200 := v1.1
        rw [wb204_2 hc]
        by_cases c1 : hi ≤ lo
        · simp +decide (disch := omega) only [↓wm1, wb204_156 hc, w0, w1, w2, w7, w200, rI_wI, rP_wI, rL_wI, rI_wR, rP_wR, is_wI, is_wR, ia_wI, ia_wR, ow_wI, ow_wR, wn_add, wn_mul, wn_cl, wn_le, wn_lt, wn_inj, wn_ne1, wn_1ne, wn_gt1, wn_le1, nb0, nb1, am_kt, am_rt, List.cons_append, List.nil_append, true_and, and_true, not_true_eq_false, not_false_eq_true, imp_f, imp_t, implies_true, Nat.zero_add, if_true, if_false, false_and, and_false, c1]
          unfold grun at k
          rw [if_pos (Or.inl c1)] at k
          exact k G1 C1 k1
        · by_cases c2 : 200 ≤ s.1
          · simp +decide (disch := omega) only [↓wm1, wb204_7 hc, wb204_156 hc, w0, w1, w2, w7, w200, rI_wI, rP_wI, rL_wI, rI_wR, rP_wR, is_wI, is_wR, ia_wI, ia_wR, ow_wI, ow_wR, wn_add, wn_mul, wn_cl, wn_le, wn_lt, wn_inj, wn_ne1, wn_1ne, wn_gt1, wn_le1, nb0, nb1, am_kt, am_rt, List.cons_append, List.nil_append, true_and, and_true, not_true_eq_false, not_false_eq_true, imp_f, imp_t, implies_true, Nat.zero_add, if_true, if_false, false_and, and_false, c1, fM s1, C1.1, c2]
            unfold grun at k
            rw [if_pos (Or.inr c2)] at k
            exact k G1 C1 k1
          · have c12 : ¬ (hi ≤ lo ∨ 200 ≤ s.1) := by omega
            unfold grun at k
            rw [if_neg c12] at k
            have hl : lo < 80 := by omega
            have n8 : ¬ 728 + lo = 334 := by omega
            obtain ⟨u1, u2, u3, u4, u5⟩ := hE lo (by omega)
            obtain ⟨p1, p2, p3⟩ := P1 lo (by omega)
            have C2 := C1.c1
            have k2 : Kp WM G1 (am_wI G1 334 38 (wn (s.1 + 1))) := (Kp.refl G1).wI (Or.inl ⟨rfl, by decide⟩) _
            have v2 : vW δ (s.1 + 1, s.2) := ⟨by show s.1 + 1 ≤ 200; omega, v1.2⟩
            have s2 := s1.kp k2
            have T2 := T1.ws k2
            have P2 := P1.ws ht k2
            have nxt : ∀ (s2 : Wv) (G3 : am_G) (o4 : Option Value), Sh G3 → Tm G3 δ Λ → rPR G3 E tot → rCr G3 s2 → vW δ s2 → Kp WM G G3 → (∀ G', rCr G' (grun δ Λ E f (E lo).2.2 hi s2) → Kp WM G G' → post (.inl none) G') → am_W (am_C am_T (d + F + 10)) am_204 post 144 [some (.ref 334), none, some (.int (wn hi)), some (.int (wn lo)), o4] [] G3 := by
              intro s2 G3 o4 s3 T3 P3 C3 v3 k3 kk
              have p3' := (P3 lo (by omega)).2.2
              simp +decide (disch := omega) only [↓wm1, wb204_144 hc, w0, w1, w2, w7, w200, rI_wI, rP_wI, rL_wI, rI_wR, rP_wR, is_wI, is_wR, ia_wI, ia_wR, ow_wI, ow_wR, wn_add, wn_mul, wn_cl, wn_le, wn_lt, wn_inj, wn_ne1, wn_1ne, wn_gt1, wn_le1, nb0, nb1, am_kt, am_rt, List.cons_append, List.nil_append, true_and, and_true, not_true_eq_false, not_false_eq_true, imp_f, imp_t, implies_true, Nat.zero_add, if_true, if_false, false_and, and_false, fM s3, fr727 s3, hl, p3']
              exact ih (E lo).2.2 s2 G3 _ _ (by omega) (by omega) (by omega) s3 T3 P3 C3 v3 k3 kk
            by_cases c7 : (E lo).1 = 7
            · rw [if_pos c7] at k
              have u5 := u5 c7
              have c6 : ¬ (E lo).1 = 6 := by omega
              rw [c7] at p1
              simp +decide (disch := omega) only [↓wm1, wb204_7 hc, wb204_17 hc, wb204_40 hc, w0, w1, w2, w7, w200, rI_wI, rP_wI, rL_wI, rI_wR, rP_wR, is_wI, is_wR, ia_wI, ia_wR, ow_wI, ow_wR, wn_add, wn_mul, wn_cl, wn_le, wn_lt, wn_inj, wn_ne1, wn_1ne, wn_gt1, wn_le1, nb0, nb1, am_kt, am_rt, List.cons_append, List.nil_append, true_and, and_true, not_true_eq_false, not_false_eq_true, imp_f, imp_t, implies_true, Nat.zero_add, if_true, if_false, false_and, and_false, c1, fM s1, fr727 s1, C1.1, c2, p1, hl, n8, ra_wI]
              generalize am_wI G1 334 38 (wn (s.1 + 1)) = G2 at C2 k2 s2 T2 P2 ⊢
              have lp : ∀ (m j : Nat) (s2 : Wv) (G3 : am_G), m + j = (E lo).2.1 → Sh G3 → Tm G3 δ Λ → rPR G3 E tot → rCr G3 s2 → vW δ s2 → Kp WM G G3 →
                  (∀ G', rCr G' (grun δ Λ E f (E lo).2.2 hi (repn (grun δ Λ E f (lo + 1) (E lo).2.2) m s2)) → Kp WM G G' → post (.inl none) G') → am_W (am_C am_T (d + F + 10)) am_204 post 43 [some (.ref 334), none, some (.int (wn hi)), some (.int (wn lo)), some (.int (wn j))] [] G3 := by
                intro m
                induction m with
                | zero =>
                  intro j s2 G3 hj s3 T3 P3 C3 v3 k3 kk
                  have p2' := (P3 lo (by omega)).2.1 c6
                  have cj : (E lo).2.1 ≤ j := by omega
                  rw [wb204_43 hc]
                  simp +decide (disch := omega) only [↓wm1, wb204_87 hc, w0, w1, w2, w7, w200, rI_wI, rP_wI, rL_wI, rI_wR, rP_wR, is_wI, is_wR, ia_wI, ia_wR, ow_wI, ow_wR, wn_add, wn_mul, wn_cl, wn_le, wn_lt, wn_inj, wn_ne1, wn_1ne, wn_gt1, wn_le1, nb0, nb1, am_kt, am_rt, List.cons_append, List.nil_append, true_and, and_true, not_true_eq_false, not_false_eq_true, imp_f, imp_t, implies_true, Nat.zero_add, if_true, if_false, false_and, and_false, fM s3, fr727 s3, hl, p2', cj]
                  exact nxt s2 G3 _ s3 T3 P3 C3 v3 k3 kk
                | succ m ihm =>
                  intro j s2 G3 hj s3 T3 P3 C3 v3 k3 kk
                  have p2' := (P3 lo (by omega)).2.1 c6
                  have p3' := (P3 lo (by omega)).2.2
                  have cj : ¬ (E lo).2.1 ≤ j := by omega
                  have h200 := v3.1
                  rw [wb204_43 hc]
                  by_cases c3 : 200 ≤ s2.1
                  · simp +decide (disch := omega) only [↓wm1, wb204_56 hc, wb204_87 hc, w0, w1, w2, w7, w200, rI_wI, rP_wI, rL_wI, rI_wR, rP_wR, is_wI, is_wR, ia_wI, ia_wR, ow_wI, ow_wR, wn_add, wn_mul, wn_cl, wn_le, wn_lt, wn_inj, wn_ne1, wn_1ne, wn_gt1, wn_le1, nb0, nb1, am_kt, am_rt, List.cons_append, List.nil_append, true_and, and_true, not_true_eq_false, not_false_eq_true, imp_f, imp_t, implies_true, Nat.zero_add, if_true, if_false, false_and, and_false, fM s3, fr727 s3, hl, p2', cj, C3.1, c3]
                    rw [repn_id (grun_full c3 _ _ _)] at kk
                    exact nxt s2 G3 _ s3 T3 P3 C3 v3 k3 kk
                  · simp +decide (disch := omega) only [↓wm1, wb204_56 hc, wb204_66 hc, w0, w1, w2, w7, w200, rI_wI, rP_wI, rL_wI, rI_wR, rP_wR, is_wI, is_wR, ia_wI, ia_wR, ow_wI, ow_wR, wn_add, wn_mul, wn_cl, wn_le, wn_lt, wn_inj, wn_ne1, wn_1ne, wn_gt1, wn_le1, nb0, nb1, am_kt, am_rt, List.cons_append, List.nil_append, true_and, and_true, not_true_eq_false, not_false_eq_true, imp_f, imp_t, implies_true, Nat.zero_add, if_true, if_false, false_and, and_false, fM s3, fr727 s3, hl, p2', cj, C3.1, c3, p3']
                    have hB := T3.2.1.1
                    refine IH f (lo + 1) (E lo).2.2 s2 G3 _ (by omega) (by omega) u2 (by omega) s3 T3 P3 C3 v3 (fun G4 C4 k4 => ?_)
                    simp +decide (disch := omega) only [↓wm1, wb204_81 hc, w0, w1, w2, w7, w200, rI_wI, rP_wI, rL_wI, rI_wR, rP_wR, is_wI, is_wR, ia_wI, ia_wR, ow_wI, ow_wR, wn_add, wn_mul, wn_cl, wn_le, wn_lt, wn_inj, wn_ne1, wn_1ne, wn_gt1, wn_le1, nb0, nb1, am_kt, am_rt, List.cons_append, List.nil_append, true_and, and_true, not_true_eq_false, not_false_eq_true, imp_f, imp_t, implies_true, Nat.zero_add, if_true, if_false, false_and, and_false]
                    exact ihm (j + 1) _ G4 (by omega) (s3.kp k4) (T3.ws k4) (P3.ws ht k4) C4 (vW_run hB hE f _ _ _ u2 v3) (k3.trans k4) kk
              exact lp (E lo).2.1 0 _ G2 (by omega) s2 T2 P2 C2 v2 (k1.trans k2) k
            · rw [if_neg c7] at k
              have okn := (u4 c7).1
              have hend := (u4 c7).2
              have hB := T1.2.1.1
              rw [← hend] at k
              simp +decide (disch := omega) only [↓wm1, wb204_7 hc, wb204_17 hc, w0, w1, w2, w7, w200, rI_wI, rP_wI, rL_wI, rI_wR, rP_wR, is_wI, is_wR, ia_wI, ia_wR, ow_wI, ow_wR, wn_add, wn_mul, wn_cl, wn_le, wn_lt, wn_inj, wn_ne1, wn_1ne, wn_gt1, wn_le1, nb0, nb1, am_kt, am_rt, List.cons_append, List.nil_append, true_and, and_true, not_true_eq_false, not_false_eq_true, imp_f, imp_t, implies_true, Nat.zero_add, if_true, if_false, false_and, and_false, c1, fM s1, fr727 s1, C1.1, c2, p1, hl, c7, n8, ra_wI]
              generalize am_wI G1 334 38 (wn (s.1 + 1)) = G2 at C2 k2 s2 T2 P2 ⊢
              simp +decide (disch := omega) only [↓wm1, wb204_90 hc, w0, w1, w2, w7, w200, rI_wI, rP_wI, rL_wI, rI_wR, rP_wR, is_wI, is_wR, ia_wI, ia_wR, ow_wI, ow_wR, wn_add, wn_mul, wn_cl, wn_le, wn_lt, wn_inj, wn_ne1, wn_1ne, wn_gt1, wn_le1, nb0, nb1, am_kt, am_rt, List.cons_append, List.nil_append, true_and, and_true, not_true_eq_false, not_false_eq_true, imp_f, imp_t, implies_true, Nat.zero_add, if_true, if_false, false_and, and_false, fM s2, fr727 s2, hl]
              refine ct203p (σ := s.2.2.2) s2 T2 C2.2.2.2 v2.2.1 P2 (show lo < tot by omega) ht okn (fun G3 r3 k3 => ?_)
              have k3' : Kp WM G2 G3 := k3.mono (fun a i z => Or.inr z)
              have s3 := s2.kp k3'
              have T3 := T2.ws k3'
              have P3 := P2.ws ht k3'
              have e4 : am_gI G3 334 38 = wn (s.1 + 1) := by rw [k3.i (by unfold PM; omega)]; exact C2.1
              have e5 : am_gI G3 334 39 = wn s.2.1 := by rw [k3.i (by unfold PM; omega)]; exact C2.2.1
              have e6 : am_gI G3 334 35 = wn s.2.2.1 := by rw [k3.i (by unfold PM; omega)]; exact C2.2.2.1
              have v3 := vW_step (Λ := Λ) hB v2 okn
              unfold gstep at k v3
              simp only at k v3
              rcases doS_01 δ Λ s.2.2.2 (E lo).1 (E lo).2.1 with z | z
              · rw [z] at k v3
                simp +decide (disch := omega) only [↓wm1, wb204_104 hc, wb204_120 hc, wb204_121 hc, wb204_139 hc, wb204_140 hc, w0, w1, w2, w7, w200, rI_wI, rP_wI, rL_wI, rI_wR, rP_wR, is_wI, is_wR, ia_wI, ia_wR, ow_wI, ow_wR, wn_add, wn_mul, wn_cl, wn_le, wn_lt, wn_inj, wn_ne1, wn_1ne, wn_gt1, wn_le1, nb0, nb1, am_kt, am_rt, List.cons_append, List.nil_append, true_and, and_true, not_true_eq_false, not_false_eq_true, imp_f, imp_t, implies_true, Nat.zero_add, if_true, if_false, false_and, and_false, z, fM s3, e5, e6]
                have k4 : Kp WM G3 (am_wI (am_wI G3 334 39 (wn (s.2.1 + 0))) 334 35 (wn (s.2.2.1 + 1))) := ((Kp.refl G3).wI (Or.inl ⟨rfl, by decide⟩) _).wI (Or.inl ⟨rfl, by decide⟩) _
                exact nxt _ _ _ (s3.kp k4) (T3.ws k4) (P3.ws ht k4) ⟨by rw [rI_wI, if_neg (by omega), rI_wI, if_neg (by omega)]; exact e4, by rw [rI_wI, if_neg (by omega), rI_wI, if_pos ⟨rfl, rfl⟩], by rw [rI_wI, if_pos ⟨rfl, rfl⟩], r3.eq (fun i => by rw [rI_wI, if_neg (by omega), rI_wI, if_neg (by omega)])⟩ v3 (((k1.trans k2).trans k3').trans k4) k
              · rw [z] at k v3
                simp +decide (disch := omega) only [↓wm1, wb204_104 hc, wb204_116 hc, wb204_121 hc, wb204_135 hc, wb204_140 hc, w0, w1, w2, w7, w200, rI_wI, rP_wI, rL_wI, rI_wR, rP_wR, is_wI, is_wR, ia_wI, ia_wR, ow_wI, ow_wR, wn_add, wn_mul, wn_cl, wn_le, wn_lt, wn_inj, wn_ne1, wn_1ne, wn_gt1, wn_le1, nb0, nb1, am_kt, am_rt, List.cons_append, List.nil_append, true_and, and_true, not_true_eq_false, not_false_eq_true, imp_f, imp_t, implies_true, Nat.zero_add, if_true, if_false, false_and, and_false, z, fM s3, e5, e6]
                have k4 : Kp WM G3 (am_wI (am_wI G3 334 39 (wn (s.2.1 + 1))) 334 35 (wn (s.2.2.1 + 0))) := ((Kp.refl G3).wI (Or.inl ⟨rfl, by decide⟩) _).wI (Or.inl ⟨rfl, by decide⟩) _
                exact nxt _ _ _ (s3.kp k4) (T3.ws k4) (P3.ws ht k4) ⟨by rw [rI_wI, if_neg (by omega), rI_wI, if_neg (by omega)]; exact e4, by rw [rI_wI, if_neg (by omega), rI_wI, if_pos ⟨rfl, rfl⟩], by rw [rI_wI, if_pos ⟨rfl, rfl⟩], r3.eq (fun i => by rw [rI_wI, if_neg (by omega), rI_wI, if_neg (by omega)])⟩ v3 (((k1.trans k2).trans k3').trans k4) k
    rw [show d + (F + 1) + 10 = d + F + 10 + 1 by omega, we204]
    simp +decide (disch := omega) only [↓wm1, wb204_0 hc, w0, w1, w2, w7, w200, rI_wI, rP_wI, rL_wI, rI_wR, rP_wR, is_wI, is_wR, ia_wI, ia_wR, ow_wI, ow_wR, wn_add, wn_mul, wn_cl, wn_le, wn_lt, wn_inj, wn_ne1, wn_1ne, wn_gt1, wn_le1, nb0, nb1, am_kt, am_rt, List.cons_append, List.nil_append, true_and, and_true, not_true_eq_false, not_false_eq_true, imp_f, imp_t, implies_true, Nat.zero_add, if_true, if_false, false_and, and_false]
    exact key f lo s G _ _ hf hlo hl1 hsh hT hP hC hv (Kp.refl G) k
end
