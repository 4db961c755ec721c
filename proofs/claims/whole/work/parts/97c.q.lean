/-! The book, the object's side: the text. -/
theorem bkv_add {acc : List (Nat × Nat)} {u v h : Nat} (hc : ¬ (acc.map Prod.fst).contains u = true) : bkv (acc ++ [(u, v)]) h = if h = u then wn v else bkv acc h := by
  unfold bkv
  rw [List.find?_append]
  by_cases e : h = u
  · rw [if_pos e]
    have hn : acc.find? (fun x => x.1 == h) = none := by
      rw [List.find?_eq_none]
      intro x hx z
      apply hc
      rw [List.contains_iff_mem, List.mem_map]
      exact ⟨x, hx, by rw [← e]; exact eq_of_beq z⟩
    rw [hn]
    simp [e]
  · rw [if_neg e]
    have hn : [(u, v)].find? (fun x => x.1 == h) = none := by
      simp
      omega
    rw [hn]
    simp
theorem bkv_in {H u : Nat} {acc : List (Nat × Nat)} (h : okB H acc) : bkv acc u = mm ↔ ¬ (acc.map Prod.fst).contains u = true := by
  unfold bkv
  rcases hf : acc.find? (fun x => x.1 == u) with _ | x
  · rw [hf]
    rw [List.find?_eq_none] at hf
    refine ⟨fun _ => ?_, fun _ => rfl⟩
    rw [List.contains_iff_mem, List.mem_map]
    rintro ⟨x, hx, rfl⟩
    exact hf x hx (by simp)
  · have h1 := List.find?_some hf
    have h2 := List.mem_of_find?_eq_some hf
    have h3 := (h.2 x h2).2
    have e : ¬ wn x.2 = mm := by rw [wn_ne1 (by omega)]; exact id
    rw [hf]
    refine ⟨fun z => absurd z e, fun z => absurd ?_ z⟩
    rw [List.contains_iff_mem, List.mem_map]
    exact ⟨x, h2, eq_of_beq h1⟩
section
variable {G : am_G} {d n H : Nat} {t : Nat → Nat} {post : am_O → am_G → Prop}
theorem cp108 (h : Sh G) : am_cp G 108 (wn 0) 107 (wn 0) (wn 7) := ⟨7, 7, h.k (by decide +kernel), h.k (by decide +kernel), by decide, by decide, by decide, by decide, by decide⟩
def K8 : Nat → Nat → Prop := fun a _ => a = 1 ∨ a = 108
theorem ct17 (hH : H ≤ 7) (hsh : Sh G) (hT : rT G t n (skb t n 0) 0)
    (kok : ∀ R G', pbk t n H 8 (skb t n 0) [] = .inr R → rT G' t n n 0 → (∀ h, h < 7 → am_gI G' 107 h = bkv R h) → am_gI G' 106 0 = wn R.length → Kp (fun a i => K8 a i ∨ a = 107 ∨ (a = 106 ∧ i = 0)) G G' → post (.inl (some (.int (wn 1)))) G')
    (kbad : ∀ k w G', pbk t n H 8 (skb t n 0) [] = .inl (k, w) → fT G' k w → Kp K8 G G' → post (.inl (some (.int (wn 0)))) G') : am_C am_T (d + 4) 17 [.ref 106, .ref 1, .int (wn H)] G post := by
  have hc := am_C_one am_T (d + 3)
  generalize hX : pbk t n H 8 (skb t n 0) [] = X at kok kbad
  have key : ∀ (f p : Nat) (acc : List (Nat × Nat)) (G1 : am_G) (o4 : Option Value), f + acc.length = 8 → okB H acc → Sh G1 → rT G1 t n p 0 → (∀ h, h < 7 → am_gI G1 108 h = bkv acc h) → Kp K8 G G1 → X = pbk t n H f p acc →
      am_W (am_C am_T (d + 3)) am_17 post 10 [some (.ref 106), some (.ref 1), some (.int (wn H)), some (.int (wn acc.length)), o4] [] G1 := by
    intro f
    induction f with
    | zero =>
      intro p acc G1 o4 hf ok
      have := ok.len
      omega
    | succ f ih =>
      intro p acc G1 o4 hf ok s1 t1 a1 k1 he
      have hl := ok.len
      have c7 : ¬ 7 < acc.length := by omega
      have hpn := t1.2.2.1
      unfold pbk at he
      rw [wb17_10 hc]
      by_cases cn : n ≤ p
      · rw [if_pos cn] at he
        have hpe : p = n := by omega
        subst hpe
        simp +decide (disch := omega) only [↓wm1, wb17_16 hc, wb17_20 hc, wb17_95 hc, w0, w1, w2, w7, w59, w99, rI_wI, rP_wI, rL_wI, rI_wR, rP_wR, is_wI, is_wR, ia_wI, ia_wR, ow_wI, ow_wR, wn_add, wn_mul, wn_cl, wn_le, wn_lt, wn_inj, wn_ne1, wn_1ne, wn_gt1, wn_le1, nb0, nb1, am_kt, am_rt, List.cons_append, List.nil_append, true_and, and_true, not_true_eq_false, not_false_eq_true, imp_f, imp_t, implies_true, Nat.zero_add, if_true, if_false, false_and, and_false, c7, fC s1, ct68 s1 t1, decide_true, b01, Nat.le_refl, q106 s1, cp108 s1]
        generalize hf : va_cpy (am_gI G1 108) (am_gI G1 107) 0 0 7 = g
        have kz : Kp (fun a i => a = 107 ∨ (a = 106 ∧ i = 0)) G1 (am_wI (am_wR G1 107 g) 106 0 (wn acc.length)) := Kp.wI (Kp.wR (Kp.refl G1) (fun i => Or.inl rfl) g) (Or.inr ⟨rfl, rfl⟩) _
        refine kok acc _ he (t1.kp kz (fun a i z => by omega)) (fun h hh => ?_) (by rw [rI_wI, if_pos ⟨rfl, rfl⟩]) ((k1.mono (fun a i z => Or.inl z)).trans (kz.mono (fun a i z => Or.inr z)))
        rw [← hf]
        rw [rI_wI, if_neg (by omega), rI_wR, if_pos rfl, cpy0 hh]; exact a1 h hh
      · rw [if_neg cn] at he
        simp +decide (disch := omega) only [↓wm1, wb17_16 hc, wb17_20 hc, wb17_23 hc, w0, w1, w2, w7, w59, w99, rI_wI, rP_wI, rL_wI, rI_wR, rP_wR, is_wI, is_wR, ia_wI, ia_wR, ow_wI, ow_wR, wn_add, wn_mul, wn_cl, wn_le, wn_lt, wn_inj, wn_ne1, wn_1ne, wn_gt1, wn_le1, nb0, nb1, am_kt, am_rt, List.cons_append, List.nil_append, true_and, and_true, not_true_eq_false, not_false_eq_true, imp_f, imp_t, implies_true, Nat.zero_add, if_true, if_false, false_and, and_false, c7, fC s1, ct68 s1 t1, decide_eq_false cn, b01, Bool.false_eq_true]
        refine ct73 (lo := 0) (hi := H) s1 t1 rfl (by decide) (by omega) (fun u p2 G2 e2 t2 q2 k2 => ?_) (fun k G2 e2 f2 k2 => ?_)
        · have s2 := s1.kp k2
          obtain ⟨-, -, x3, x4, x5, x6⟩ := pnum_in hpn e2
          simp only [e2, pb] at he
          have hu : u < 7 := by omega
          have a2 : ∀ h, h < 7 → am_gI G2 108 h = bkv acc h := fun h hh => by rw [k2.i (by unfold T1; omega)]; exact a1 h hh
          have au := a2 u hu
          have kk2 : Kp K8 G G2 := k1.trans (k2.mono (fun a i z => Or.inl z))
          by_cases cm : (acc.map Prod.fst).contains u = true
          · rw [if_pos cm] at he
            have cb : ¬ bkv acc u = mm := fun z => (bkv_in ok).mp z cm
            simp +decide (disch := omega) only [↓wm1, wb17_31 hc, wb17_41 hc, wb17_52 hc, wb17_61 hc, w0, w1, w2, w7, w59, w99, rI_wI, rP_wI, rL_wI, rI_wR, rP_wR, is_wI, is_wR, ia_wI, ia_wR, ow_wI, ow_wR, wn_add, wn_mul, wn_cl, wn_le, wn_lt, wn_inj, wn_ne1, wn_1ne, wn_gt1, wn_le1, nb0, nb1, am_kt, am_rt, List.cons_append, List.nil_append, true_and, and_true, not_true_eq_false, not_false_eq_true, imp_f, imp_t, implies_true, Nat.zero_add, if_true, if_false, false_and, and_false, fC s2, q106 s2, ia108 s2, hu, au, cb, q2, ct66 s2]
            exact kbad _ _ _ he (fT_of t2.2.2.2.2.2.1 2 p) (kk2.trans ((kp_f G2 2 p).mono (fun a i z => Or.inl z)))
          · rw [if_neg cm] at he
            have cb : bkv acc u = mm := (bkv_in ok).mpr cm
            rw [cb] at au
            simp +decide (disch := omega) only [↓wm1, wb17_31 hc, wb17_41 hc, wb17_62 hc, w0, w1, w2, w7, w59, w99, rI_wI, rP_wI, rL_wI, rI_wR, rP_wR, is_wI, is_wR, ia_wI, ia_wR, ow_wI, ow_wR, wn_add, wn_mul, wn_cl, wn_le, wn_lt, wn_inj, wn_ne1, wn_1ne, wn_gt1, wn_le1, nb0, nb1, am_kt, am_rt, List.cons_append, List.nil_append, true_and, and_true, not_true_eq_false, not_false_eq_true, imp_f, imp_t, implies_true, Nat.zero_add, if_true, if_false, false_and, and_false, fC s2, q106 s2, ia108 s2, hu, au]
            refine ct74 (lo := 0) (hi := 100) (w := 7) (a := 108) (i := u) s2 t2 (by decide +kernel) (by decide) hu (by decide) rfl (by decide) (by decide) (fun v p3 G3 e3 t3 v3 k3 => ?_) (fun k G3 e3 f3 k3 => ?_)
            · have s3 := s2.kp k3
              obtain ⟨-, -, y3, y4, y5, y6⟩ := pnum_in x5 e3
              simp only [e3] at he
              have kk3 := kk2.trans (k3.mono (fun a i z => by unfold K8; omega))
              simp +decide (disch := omega) only [↓wm1, wb17_75 hc, wb17_78 hc, w0, w1, w2, w7, w59, w99, rI_wI, rP_wI, rL_wI, rI_wR, rP_wR, is_wI, is_wR, ia_wI, ia_wR, ow_wI, ow_wR, wn_add, wn_mul, wn_cl, wn_le, wn_lt, wn_inj, wn_ne1, wn_1ne, wn_gt1, wn_le1, nb0, nb1, am_kt, am_rt, List.cons_append, List.nil_append, true_and, and_true, not_true_eq_false, not_false_eq_true, imp_f, imp_t, implies_true, Nat.zero_add, if_true, if_false, false_and, and_false, fC s3]
              refine ct72 s3 t3 (by decide) (fun q4 G4 e4 t4 k4 => ?_) (fun G4 e4 f4 k4 => ?_)
              · simp only [e4] at he
                simp +decide (disch := omega) only [↓wm1, wb17_84 hc, wb17_89 hc, w0, w1, w2, w7, w59, w99, rI_wI, rP_wI, rL_wI, rI_wR, rP_wR, is_wI, is_wR, ia_wI, ia_wR, ow_wI, ow_wR, wn_add, wn_mul, wn_cl, wn_le, wn_lt, wn_inj, wn_ne1, wn_1ne, wn_gt1, wn_le1, nb0, nb1, am_kt, am_rt, List.cons_append, List.nil_append, true_and, and_true, not_true_eq_false, not_false_eq_true, imp_f, imp_t, implies_true, Nat.zero_add, if_true, if_false, false_and, and_false]
                have := ih q4 (acc ++ [(u, v)]) G4 none (by rw [List.length_append, List.length_singleton]; omega) (ok.add x3 y3 cm) (s3.kp k4) t4 (fun h hh => by
                  rw [k4.i (by unfold T1; omega), bkv_add cm]
                  by_cases e : h = u
                  · rw [if_pos e, e]; exact v3
                  · rw [if_neg e, k3.i (by omega)]; exact a2 h hh) (kk3.trans (k4.mono (fun a i z => Or.inl z))) he
                rw [List.length_append, List.length_singleton] at this
                exact this
              · simp only [e4] at he
                simp +decide (disch := omega) only [↓wm1, wb17_84 hc, wb17_87 hc, w0, w1, w2, w7, w59, w99, rI_wI, rP_wI, rL_wI, rI_wR, rP_wR, is_wI, is_wR, ia_wI, ia_wR, ow_wI, ow_wR, wn_add, wn_mul, wn_cl, wn_le, wn_lt, wn_inj, wn_ne1, wn_1ne, wn_gt1, wn_le1, nb0, nb1, am_kt, am_rt, List.cons_append, List.nil_append, true_and, and_true, not_true_eq_false, not_false_eq_true, imp_f, imp_t, implies_true, Nat.zero_add, if_true, if_false, false_and, and_false]
                exact kbad _ _ G4 he f4 (kk3.trans (k4.mono (fun a i z => Or.inl z)))
            · simp only [e3] at he
              simp +decide (disch := omega) only [↓wm1, wb17_75 hc, wb17_87 hc, w0, w1, w2, w7, w59, w99, rI_wI, rP_wI, rL_wI, rI_wR, rP_wR, is_wI, is_wR, ia_wI, ia_wR, ow_wI, ow_wR, wn_add, wn_mul, wn_cl, wn_le, wn_lt, wn_inj, wn_ne1, wn_1ne, wn_gt1, wn_le1, nb0, nb1, am_kt, am_rt, List.cons_append, List.nil_append, true_and, and_true, not_true_eq_false, not_false_eq_true, imp_f, imp_t, implies_true, Nat.zero_add, if_true, if_false, false_and, and_false]
              exact kbad _ _ G3 he f3 (kk2.trans (k3.mono (fun a i z => Or.inl z)))
        · simp only [e2, pb] at he
          simp +decide (disch := omega) only [↓wm1, wb17_31 hc, wb17_39 hc, w0, w1, w2, w7, w59, w99, rI_wI, rP_wI, rL_wI, rI_wR, rP_wR, is_wI, is_wR, ia_wI, ia_wR, ow_wI, ow_wR, wn_add, wn_mul, wn_cl, wn_le, wn_lt, wn_inj, wn_ne1, wn_1ne, wn_gt1, wn_le1, nb0, nb1, am_kt, am_rt, List.cons_append, List.nil_append, true_and, and_true, not_true_eq_false, not_false_eq_true, imp_f, imp_t, implies_true, Nat.zero_add, if_true, if_false, false_and, and_false]
          exact kbad _ _ G2 he f2 (k1.trans (k2.mono (fun a i z => Or.inl z)))
  rw [we17]
  simp +decide (disch := omega) only [↓wm1, wb17_0 hc, w0, w1, w2, w7, w59, w99, rI_wI, rP_wI, rL_wI, rI_wR, rP_wR, is_wI, is_wR, ia_wI, ia_wR, ow_wI, ow_wR, wn_add, wn_mul, wn_cl, wn_le, wn_lt, wn_inj, wn_ne1, wn_1ne, wn_gt1, wn_le1, nb0, nb1, am_kt, am_rt, List.cons_append, List.nil_append, true_and, and_true, not_true_eq_false, not_false_eq_true, imp_f, imp_t, implies_true, Nat.zero_add, if_true, if_false, false_and, and_false, fC hsh, q106 hsh]
  refine ct279 (n := 7) hsh (by decide +kernel) (by decide) _ (fun G1 f1 k1 => ?_)
  simp +decide (disch := omega) only [↓wm1, wb17_8 hc, w0, w1, w2, w7, w59, w99, rI_wI, rP_wI, rL_wI, rI_wR, rP_wR, is_wI, is_wR, ia_wI, ia_wR, ow_wI, ow_wR, wn_add, wn_mul, wn_cl, wn_le, wn_lt, wn_inj, wn_ne1, wn_1ne, wn_gt1, wn_le1, nb0, nb1, am_kt, am_rt, List.cons_append, List.nil_append, true_and, and_true, not_true_eq_false, not_false_eq_true, imp_f, imp_t, implies_true, Nat.zero_add, if_true, if_false, false_and, and_false]
  exact key 8 (skb t n 0) [] G1 _ rfl (okB.nil H) (hsh.kp k1) (hT.kp k1 (fun a i z => by omega)) f1 (k1.mono (fun a i z => Or.inr z)) hX.symm
end
