/-! A text begins; the district, the object's side. -/
section
variable {G : am_G} {d : Nat} {V : Vt} {post : am_O → am_G → Prop}
theorem ct144y {n m M : Nat} (hsh : Sh G) (e : am_gI G 1 1 = wn m) (hm : m ≤ 600) (hM : M ≤ 600) (h1 : n ≤ m) (h2 : n ≤ M) : am_C am_T (d + 2) 144 [.ref 0, .int (wn n), .int (wn M)] G post ↔ post (.inl none) G := by
  have hc := am_C_one am_T (d + 1)
  have c1 : ¬ m < n := by omega
  have c2 : ¬ M < n := by omega
  rw [we144]
  simp +decide (disch := omega) only [↓wm1, wb144_0 hc, wb144_5 hc, wb144_16 hc, wb144_21 hc, wb144_25 hc, wb144_26 hc, wb144_29 hc, w0, w1, rI_wI, rP_wI, rL_wI, rI_wR, rP_wR, is_wI, is_wR, ia_wI, ia_wR, ow_wI, ow_wR, wn_add, wn_mul, wn_cl, wn_le, wn_lt, wn_inj, wn_ne1, wn_1ne, wn_gt1, wn_le1, nb0, nb1, am_kt, am_rt, List.cons_append, List.nil_append, true_and, and_true, not_true_eq_false, not_false_eq_true, imp_f, imp_t, implies_true, Nat.zero_add, if_true, if_false, false_and, and_false, cn144, fC hsh, e, c1, c2, Nat.not_lt_zero, ct139y (v := 1) (by decide) (by decide)]
theorem ct144n {x : Int32} {m M : Nat} (h : x < wn 0 ∨ ¬ x < wn (min m M + 1)) (hsh : Sh G) (hB : am_rm G 1 6) (e : am_gI G 1 1 = wn m) (hm : m ≤ 600) (hM : M ≤ 600) : am_C am_T (d + 2) 144 [.ref 0, .int x, .int (wn M)] G post ↔ post (.inr (am_K G).length) (thr8 G) := by
  have hc := am_C_one am_T (d + 1)
  rw [we144]
  by_cases h1 : x < wn 0
  · simp +decide (disch := omega) only [↓wm1, wb144_0 hc, wb144_5 hc, wb144_16 hc, wb144_21 hc, wb144_25 hc, wb144_26 hc, wb144_29 hc, w0, w1, rI_wI, rP_wI, rL_wI, rI_wR, rP_wR, is_wI, is_wR, ia_wI, ia_wR, ow_wI, ow_wR, wn_add, wn_mul, wn_cl, wn_le, wn_lt, wn_inj, wn_ne1, wn_1ne, wn_gt1, wn_le1, nb0, nb1, am_kt, am_rt, List.cons_append, List.nil_append, true_and, and_true, not_true_eq_false, not_false_eq_true, imp_f, imp_t, implies_true, Nat.zero_add, if_true, if_false, false_and, and_false, cn144, fC hsh, h1, ct139n hsh hB]
  · have h2 : wn (min m M) < x := by
      rcases h with z | z
      · exact absurd z h1
      · exact out3 (by omega) z
    have e1 := wn_nat h1
    have l1 := tN_lt x
    rw [← e1] at h1 h2 ⊢
    rw [wn_lt (by omega) l1] at h2
    by_cases c1 : m < x.toNatClampNeg
    · simp +decide (disch := omega) only [↓wm1, wb144_0 hc, wb144_5 hc, wb144_16 hc, wb144_21 hc, wb144_25 hc, wb144_26 hc, wb144_29 hc, w0, w1, rI_wI, rP_wI, rL_wI, rI_wR, rP_wR, is_wI, is_wR, ia_wI, ia_wR, ow_wI, ow_wR, wn_add, wn_mul, wn_cl, wn_le, wn_lt, wn_inj, wn_ne1, wn_1ne, wn_gt1, wn_le1, nb0, nb1, am_kt, am_rt, List.cons_append, List.nil_append, true_and, and_true, not_true_eq_false, not_false_eq_true, imp_f, imp_t, implies_true, Nat.zero_add, if_true, if_false, false_and, and_false, cn144, fC hsh, e, c1, Nat.not_lt_zero, ct139n hsh hB]
    · have c2 : M < x.toNatClampNeg := by omega
      simp +decide (disch := omega) only [↓wm1, wb144_0 hc, wb144_5 hc, wb144_16 hc, wb144_21 hc, wb144_25 hc, wb144_26 hc, wb144_29 hc, w0, w1, rI_wI, rP_wI, rL_wI, rI_wR, rP_wR, is_wI, is_wR, ia_wI, ia_wR, ow_wI, ow_wR, wn_add, wn_mul, wn_cl, wn_le, wn_lt, wn_inj, wn_ne1, wn_1ne, wn_gt1, wn_le1, nb0, nb1, am_kt, am_rt, List.cons_append, List.nil_append, true_and, and_true, not_true_eq_false, not_false_eq_true, imp_f, imp_t, implies_true, Nat.zero_add, if_true, if_false, false_and, and_false, cn144, fC hsh, e, c1, c2, Nat.not_lt_zero, ct139n hsh hB]
theorem ct64 {n : Nat} {t : Nat → Nat} (hsh : Sh G) (hb : Bt G t) (hn : n ≤ 600) (k : ∀ G', rT G' t n (skb t n 0) 0 → Kp T1 G G' → post (.inl none) G') : am_C am_T (d + 2) 64 [.ref 1, .int (wn n)] G post := by
  have hc := am_C_one am_T (d + 1)
  have m1 : min n 600 = n := by omega
  have m2 : max 0 n = n := by omega
  rw [we64]
  simp +decide (disch := omega) only [↓wm1, wb64_0 hc, w0, w1, w600, rI_wI, rP_wI, rL_wI, rI_wR, rP_wR, is_wI, is_wR, ia_wI, ia_wR, ow_wI, ow_wR, wn_add, wn_mul, wn_cl, wn_le, wn_lt, wn_inj, wn_ne1, wn_1ne, wn_gt1, wn_le1, nb0, nb1, am_kt, am_rt, List.cons_append, List.nil_append, true_and, and_true, not_true_eq_false, not_false_eq_true, imp_f, imp_t, implies_true, Nat.zero_add, if_true, if_false, false_and, and_false, fC hsh, ct272n, ct271n, m1, m2]
  simp +decide (disch := omega) only [↓wm1, wb64_14 hc, w0, w1, w600, rI_wI, rP_wI, rL_wI, rI_wR, rP_wR, is_wI, is_wR, ia_wI, ia_wR, ow_wI, ow_wR, wn_add, wn_mul, wn_cl, wn_le, wn_lt, wn_inj, wn_ne1, wn_1ne, wn_gt1, wn_le1, nb0, nb1, am_kt, am_rt, List.cons_append, List.nil_append, true_and, and_true, not_true_eq_false, not_false_eq_true, imp_f, imp_t, implies_true, Nat.zero_add, if_true, if_false, false_and, and_false, fC hsh, ct272n, ct271n, m1, m2]
  simp +decide (disch := omega) only [↓wm1, wb64_17 hc, w0, w1, w600, rI_wI, rP_wI, rL_wI, rI_wR, rP_wR, is_wI, is_wR, ia_wI, ia_wR, ow_wI, ow_wR, wn_add, wn_mul, wn_cl, wn_le, wn_lt, wn_inj, wn_ne1, wn_1ne, wn_gt1, wn_le1, nb0, nb1, am_kt, am_rt, List.cons_append, List.nil_append, true_and, and_true, not_true_eq_false, not_false_eq_true, imp_f, imp_t, implies_true, Nat.zero_add, if_true, if_false, false_and, and_false, fC hsh]
  generalize hG1 : am_wI (am_wI (am_wI (am_wI (am_wI (am_wI G 1 1 (wn 0)) 1 2 (wn n)) 1 4 (wn 0)) 1 5 (wn 0)) 1 6 (wn 0)) 1 7 mm = G1
  have k1 : Kp T1 G G1 := by
    rw [← hG1]
    exact ((((((Kp.refl G).wI (by exact rfl) _).wI (by exact rfl) _).wI (by exact rfl) _).wI (by exact rfl) _).wI (by exact rfl) _).wI (by exact rfl) _
  have q1 : am_gI G1 1 1 = wn 0 := by rw [← hG1]; simp [rI_wI]
  have q2 : am_gI G1 1 2 = wn n := by rw [← hG1]; simp [rI_wI]
  have q5 : am_gI G1 1 5 = wn 0 := by rw [← hG1]; simp [rI_wI]
  have q7 : am_gI G1 1 7 = mm := by rw [← hG1]; simp [rI_wI]
  have b1 : Bt G1 t := hb.kp k1 (by intro i z; unfold T1 at z; omega)
  refine ct65 (hsh.kp k1) b1 hn (Nat.zero_le n) q2 (fun G2 e2 k2 => ?_)
  simp +decide (disch := omega) only [↓wm1, wb64_45 hc, w0, w1, w600, rI_wI, rP_wI, rL_wI, rI_wR, rP_wR, is_wI, is_wR, ia_wI, ia_wR, ow_wI, ow_wR, wn_add, wn_mul, wn_cl, wn_le, wn_lt, wn_inj, wn_ne1, wn_1ne, wn_gt1, wn_le1, nb0, nb1, am_kt, am_rt, List.cons_append, List.nil_append, true_and, and_true, not_true_eq_false, not_false_eq_true, imp_f, imp_t, implies_true, Nat.zero_add, if_true, if_false, false_and, and_false]
  refine k G2 ⟨b1.kp k2 (by rintro i ⟨z, -⟩; omega), hn, skb_le (Nat.zero_le n), skb_idem (Nat.zero_le n), by decide, ?_, ?_, e2, ?_, ?_⟩ (k1.trans k2.t13)
  · rw [k2.i (by rintro ⟨-, z⟩; omega)]; exact q1
  · rw [k2.i (by rintro ⟨-, z⟩; omega)]; exact q2
  · rw [k2.i (by rintro ⟨-, z⟩; omega)]; exact q5
  · rw [k2.i (by rintro ⟨-, z⟩; omega)]; exact q7
theorem ct67 {k w : Nat} (hsh : Sh G) (h : fT G k w) : am_C am_T (d + 1) 67 [.ref 1] G post ↔ post (.inl (some (.int (wn k - wn 10)))) G := by
  have hc := am_C_one am_T d
  rw [we67]
  simp +decide (disch := omega) only [↓wm1, wb67_0 hc, w0, w1, w10, rI_wI, rP_wI, rL_wI, rI_wR, rP_wR, is_wI, is_wR, ia_wI, ia_wR, ow_wI, ow_wR, wn_add, wn_mul, wn_cl, wn_le, wn_lt, wn_inj, wn_ne1, wn_1ne, wn_gt1, wn_le1, nb0, nb1, am_kt, am_rt, List.cons_append, List.nil_append, true_and, and_true, not_true_eq_false, not_false_eq_true, imp_f, imp_t, implies_true, Nat.zero_add, if_true, if_false, false_and, and_false, fC hsh, h.2.1]
/-- one sign more in a Law object -/
def LSc (l : Nat) : Nat → Nat → Prop := fun a i => (a = l ∧ i = 2) ∨ a = l + 1
theorem ct24 {l : Nat} {Λ : List Tok} (q : Tok) (hsh : Sh G) (hl' : l = 20 ∨ l = 23) (hr : rL G l Λ) (hlen : Λ.length < 150) (k : ∀ G', rL G' l (Λ ++ [q]) → Kp (LSc l) G G' → post (.inl none) G') : am_C am_T (d + 1) 24 [.ref l, .int (wn (tkc q))] G post := by
  have hc := am_C_one am_T d
  have c1 : ¬ 150 ≤ Λ.length := by omega
  have n1 : ¬ l = l + 1 := by omega
  have e := hr.1
  rw [we24]
  simp +decide (disch := omega) only [↓wm1, wb24_0 hc, wb24_10 hc, wb24_30 hc, w0, w1, w150, rI_wI, rP_wI, rL_wI, rI_wR, rP_wR, is_wI, is_wR, ia_wI, ia_wR, ow_wI, ow_wR, wn_add, wn_mul, wn_cl, wn_le, wn_lt, wn_inj, wn_ne1, wn_1ne, wn_gt1, wn_le1, nb0, nb1, am_kt, am_rt, List.cons_append, List.nil_append, true_and, and_true, not_true_eq_false, not_false_eq_true, imp_f, imp_t, implies_true, Nat.zero_add, if_true, if_false, false_and, and_false, fL hsh hl', e, c1, n1]
  refine k _ ⟨?_, fun i t ht => ?_⟩ (((Kp.refl G).wI (Or.inr rfl) _).wI (Or.inl ⟨rfl, rfl⟩) _)
  · rw [rI_wI, if_pos ⟨rfl, rfl⟩]; simp
  · rw [rI_wI, if_neg (by omega), rI_wI]
    by_cases e2 : i = Λ.length
    · rw [if_pos ⟨rfl, e2⟩]
      rw [e2, List.getElem?_append_right (Nat.le_refl _)] at ht
      simp at ht
      rw [ht]
    · rw [if_neg (fun z => e2 z.2)]
      have hi : i < (Λ ++ [q]).length := (List.getElem?_eq_some_iff.mp ht).1
      simp at hi
      rw [List.getElem?_append_left (by omega)] at ht
      exact hr.2 i t ht
theorem ct23 {l : Nat} (hsh : Sh G) (hl' : l = 20 ∨ l = 23) (k : ∀ G', rL G' l CL → Kp (LSc l) G G' → post (.inl none) G') : am_C am_T (d + 2) 23 [.ref l] G post := by
  have hc := am_C_one am_T (d + 1)
  rw [we23]
  simp +decide (disch := omega) only [↓wm1, wb23_0 hc, w0, w1, w3, w1000, w2001, w2002, rI_wI, rP_wI, rL_wI, rI_wR, rP_wR, is_wI, is_wR, ia_wI, ia_wR, ow_wI, ow_wR, wn_add, wn_mul, wn_cl, wn_le, wn_lt, wn_inj, wn_ne1, wn_1ne, wn_gt1, wn_le1, nb0, nb1, am_kt, am_rt, List.cons_append, List.nil_append, true_and, and_true, not_true_eq_false, not_false_eq_true, imp_f, imp_t, implies_true, Nat.zero_add, if_true, if_false, false_and, and_false, fL hsh hl']
  have k0 : Kp (LSc l) G (am_wI G l 2 (wn 0)) := (Kp.refl G).wI (Or.inl ⟨rfl, rfl⟩) _
  have r0 : rL (am_wI G l 2 (wn 0)) l [] := ⟨by rw [rI_wI, if_pos ⟨rfl, rfl⟩]; rfl, fun i t ht => by simp at ht⟩
  refine ct24 (1, 0) (hsh.kp k0) hl' r0 (by decide) (fun G1 r1 k1 => ?_)
  have kk1 := k0.trans k1
  simp +decide (disch := omega) only [↓wm1, wb23_12 hc, w0, w1, w3, w1000, w2001, w2002, rI_wI, rP_wI, rL_wI, rI_wR, rP_wR, is_wI, is_wR, ia_wI, ia_wR, ow_wI, ow_wR, wn_add, wn_mul, wn_cl, wn_le, wn_lt, wn_inj, wn_ne1, wn_1ne, wn_gt1, wn_le1, nb0, nb1, am_kt, am_rt, List.cons_append, List.nil_append, true_and, and_true, not_true_eq_false, not_false_eq_true, imp_f, imp_t, implies_true, Nat.zero_add, if_true, if_false, false_and, and_false, fL (hsh.kp kk1) hl']
  refine ct24 (1, 1) (hsh.kp kk1) hl' r1 (by decide) (fun G2 r2 k2 => ?_)
  have kk2 := kk1.trans k2
  simp +decide (disch := omega) only [↓wm1, wb23_19 hc, w0, w1, w3, w1000, w2001, w2002, rI_wI, rP_wI, rL_wI, rI_wR, rP_wR, is_wI, is_wR, ia_wI, ia_wR, ow_wI, ow_wR, wn_add, wn_mul, wn_cl, wn_le, wn_lt, wn_inj, wn_ne1, wn_1ne, wn_gt1, wn_le1, nb0, nb1, am_kt, am_rt, List.cons_append, List.nil_append, true_and, and_true, not_true_eq_false, not_false_eq_true, imp_f, imp_t, implies_true, Nat.zero_add, if_true, if_false, false_and, and_false, fL (hsh.kp kk2) hl']
  refine ct24 (3, 0) (hsh.kp kk2) hl' r2 (by decide) (fun G3 r3 k3 => ?_)
  have kk3 := kk2.trans k3
  simp +decide (disch := omega) only [↓wm1, wb23_26 hc, w0, w1, w3, w1000, w2001, w2002, rI_wI, rP_wI, rL_wI, rI_wR, rP_wR, is_wI, is_wR, ia_wI, ia_wR, ow_wI, ow_wR, wn_add, wn_mul, wn_cl, wn_le, wn_lt, wn_inj, wn_ne1, wn_1ne, wn_gt1, wn_le1, nb0, nb1, am_kt, am_rt, List.cons_append, List.nil_append, true_and, and_true, not_true_eq_false, not_false_eq_true, imp_f, imp_t, implies_true, Nat.zero_add, if_true, if_false, false_and, and_false, fL (hsh.kp kk3) hl']
  refine ct24 (1, 2) (hsh.kp kk3) hl' r3 (by decide) (fun G4 r4 k4 => ?_)
  have kk4 := kk3.trans k4
  simp +decide (disch := omega) only [↓wm1, wb23_33 hc, w0, w1, w3, w1000, w2001, w2002, rI_wI, rP_wI, rL_wI, rI_wR, rP_wR, is_wI, is_wR, ia_wI, ia_wR, ow_wI, ow_wR, wn_add, wn_mul, wn_cl, wn_le, wn_lt, wn_inj, wn_ne1, wn_1ne, wn_gt1, wn_le1, nb0, nb1, am_kt, am_rt, List.cons_append, List.nil_append, true_and, and_true, not_true_eq_false, not_false_eq_true, imp_f, imp_t, implies_true, Nat.zero_add, if_true, if_false, false_and, and_false, fL (hsh.kp kk4) hl']
  refine ct24 (0, 3) (hsh.kp kk4) hl' r4 (by decide) (fun G5 r5 k5 => ?_)
  have kk5 := kk4.trans k5
  simp +decide (disch := omega) only [↓wm1, wb23_38 hc, w0, w1, w3, w1000, w2001, w2002, rI_wI, rP_wI, rL_wI, rI_wR, rP_wR, is_wI, is_wR, ia_wI, ia_wR, ow_wI, ow_wR, wn_add, wn_mul, wn_cl, wn_le, wn_lt, wn_inj, wn_ne1, wn_1ne, wn_gt1, wn_le1, nb0, nb1, am_kt, am_rt, List.cons_append, List.nil_append, true_and, and_true, not_true_eq_false, not_false_eq_true, imp_f, imp_t, implies_true, Nat.zero_add, if_true, if_false, false_and, and_false, fL (hsh.kp kk5) hl']
  refine ct24 (4, 0) (hsh.kp kk5) hl' r5 (by decide) (fun G6 r6 k6 => ?_)
  have kk6 := kk5.trans k6
  simp +decide (disch := omega) only [↓wm1, wb23_45 hc, w0, w1, w3, w1000, w2001, w2002, rI_wI, rP_wI, rL_wI, rI_wR, rP_wR, is_wI, is_wR, ia_wI, ia_wR, ow_wI, ow_wR, wn_add, wn_mul, wn_cl, wn_le, wn_lt, wn_inj, wn_ne1, wn_1ne, wn_gt1, wn_le1, nb0, nb1, am_kt, am_rt, List.cons_append, List.nil_append, true_and, and_true, not_true_eq_false, not_false_eq_true, imp_f, imp_t, implies_true, Nat.zero_add, if_true, if_false, false_and, and_false, fL (hsh.kp kk6) hl']
  refine ct24 (3, 0) (hsh.kp kk6) hl' r6 (by decide) (fun G7 r7 k7 => ?_)
  have kk7 := kk6.trans k7
  simp +decide (disch := omega) only [↓wm1, wb23_52 hc, w0, w1, w3, w1000, w2001, w2002, rI_wI, rP_wI, rL_wI, rI_wR, rP_wR, is_wI, is_wR, ia_wI, ia_wR, ow_wI, ow_wR, wn_add, wn_mul, wn_cl, wn_le, wn_lt, wn_inj, wn_ne1, wn_1ne, wn_gt1, wn_le1, nb0, nb1, am_kt, am_rt, List.cons_append, List.nil_append, true_and, and_true, not_true_eq_false, not_false_eq_true, imp_f, imp_t, implies_true, Nat.zero_add, if_true, if_false, false_and, and_false, fL (hsh.kp kk7) hl']
  refine ct24 (1, 4) (hsh.kp kk7) hl' r7 (by decide) (fun G8 r8 k8 => ?_)
  have kk8 := kk7.trans k8
  simp +decide (disch := omega) only [↓wm1, wb23_59 hc, w0, w1, w3, w1000, w2001, w2002, rI_wI, rP_wI, rL_wI, rI_wR, rP_wR, is_wI, is_wR, ia_wI, ia_wR, ow_wI, ow_wR, wn_add, wn_mul, wn_cl, wn_le, wn_lt, wn_inj, wn_ne1, wn_1ne, wn_gt1, wn_le1, nb0, nb1, am_kt, am_rt, List.cons_append, List.nil_append, true_and, and_true, not_true_eq_false, not_false_eq_true, imp_f, imp_t, implies_true, Nat.zero_add, if_true, if_false, false_and, and_false, fL (hsh.kp kk8) hl']
  refine ct24 (3, 0) (hsh.kp kk8) hl' r8 (by decide) (fun G9 r9 k9 => ?_)
  simp +decide (disch := omega) only [↓wm1, wb23_66 hc, w0, w1, w3, w1000, w2001, w2002, rI_wI, rP_wI, rL_wI, rI_wR, rP_wR, is_wI, is_wR, ia_wI, ia_wR, ow_wI, ow_wR, wn_add, wn_mul, wn_cl, wn_le, wn_lt, wn_inj, wn_ne1, wn_1ne, wn_gt1, wn_le1, nb0, nb1, am_kt, am_rt, List.cons_append, List.nil_append, true_and, and_true, not_true_eq_false, not_false_eq_true, imp_f, imp_t, implies_true, Nat.zero_add, if_true, if_false, false_and, and_false]
  exact k G9 r9 (kk8.trans k9)
/-- pointers of the town changed -/
theorem Sh.wP3 (h : Sh G) (i v : Nat) (hi : i ≤ 3) : Sh (am_wP G 3 i v) := by
  have key : ∀ q ∈ pp0, ¬ (q.1 = 3 ∧ q.2.1 ≤ 3) := by decide +kernel
  refine ⟨h.1, fun q hq => ?_⟩
  rw [rP_wP, if_neg (by have := key q hq; omega)]
  exact h.2 q hq
theorem ct5 {dm : Nat} (hsh : Sh G) (k : ∀ G', rS G' 32 (sZ dm) → am_gI G' 31 2 = wn 0 → Kp (fun a i => (a = 31 ∧ i = 2) ∨ (32 ≤ a ∧ a < 36)) G G' → post (.inl none) G') : am_C am_T (d + 3) 5 [.ref 31, .int (wn dm)] G post := by
  have hc := am_C_one am_T (d + 2)
  rw [we5]
  simp +decide (disch := omega) only [↓wm1, wb5_0 hc, w0, w1, rI_wI, rP_wI, rL_wI, rI_wR, rP_wR, is_wI, is_wR, ia_wI, ia_wR, ow_wI, ow_wR, wn_add, wn_mul, wn_cl, wn_le, wn_lt, wn_inj, wn_ne1, wn_1ne, wn_gt1, wn_le1, nb0, nb1, am_kt, am_rt, List.cons_append, List.nil_append, true_and, and_true, not_true_eq_false, not_false_eq_true, imp_f, imp_t, implies_true, Nat.zero_add, if_true, if_false, false_and, and_false, fC hsh]
  refine ct46 hsh h32 (fun G1 r1 k1 => ?_)
  simp +decide (disch := omega) only [↓wm1, wb5_8 hc, w0, w1, rI_wI, rP_wI, rL_wI, rI_wR, rP_wR, is_wI, is_wR, ia_wI, ia_wR, ow_wI, ow_wR, wn_add, wn_mul, wn_cl, wn_le, wn_lt, wn_inj, wn_ne1, wn_1ne, wn_gt1, wn_le1, nb0, nb1, am_kt, am_rt, List.cons_append, List.nil_append, true_and, and_true, not_true_eq_false, not_false_eq_true, imp_f, imp_t, implies_true, Nat.zero_add, if_true, if_false, false_and, and_false, fC (hsh.kp k1)]
  refine k _ (r1.kp (Sc := fun a i => a = 31) ((Kp.refl G1).wI (by exact rfl) _) (by intro a i z1 z2 z; omega)) (by rw [rI_wI, if_pos ⟨rfl, rfl⟩]) ((k1.mono (fun a i z => by unfold sc at z; omega)).wI (Or.inl ⟨rfl, rfl⟩) _)
theorem ct16 (hsh : Sh G) (k : ∀ G', (∀ h, h < 7 → am_gI G' 107 h = mm) → am_gI G' 106 0 = wn 0 → Kp (fun a i => (a = 106 ∧ i = 0) ∨ a = 107) G G' → post (.inl none) G') : am_C am_T (d + 2) 16 [.ref 106] G post := by
  have hc := am_C_one am_T (d + 1)
  rw [we16]
  simp +decide (disch := omega) only [↓wm1, wb16_0 hc, w0, w1, rI_wI, rP_wI, rL_wI, rI_wR, rP_wR, is_wI, is_wR, ia_wI, ia_wR, ow_wI, ow_wR, wn_add, wn_mul, wn_cl, wn_le, wn_lt, wn_inj, wn_ne1, wn_1ne, wn_gt1, wn_le1, nb0, nb1, am_kt, am_rt, List.cons_append, List.nil_append, true_and, and_true, not_true_eq_false, not_false_eq_true, imp_f, imp_t, implies_true, Nat.zero_add, if_true, if_false, false_and, and_false, fC hsh, q106 hsh]
  refine ct279 (n := 7) hsh (by decide +kernel) (by decide) _ (fun G1 f1 k1 => ?_)
  simp +decide (disch := omega) only [↓wm1, wb16_8 hc, w0, w1, rI_wI, rP_wI, rL_wI, rI_wR, rP_wR, is_wI, is_wR, ia_wI, ia_wR, ow_wI, ow_wR, wn_add, wn_mul, wn_cl, wn_le, wn_lt, wn_inj, wn_ne1, wn_1ne, wn_gt1, wn_le1, nb0, nb1, am_kt, am_rt, List.cons_append, List.nil_append, true_and, and_true, not_true_eq_false, not_false_eq_true, imp_f, imp_t, implies_true, Nat.zero_add, if_true, if_false, false_and, and_false, fC (hsh.kp k1)]
  refine k _ (fun h hh => by rw [rI_wI, if_neg (by omega)]; exact f1 h hh) (by rw [rI_wI, if_pos ⟨rfl, rfl⟩]) ((k1.mono (fun a i z => by omega)).wI (Or.inl ⟨rfl, rfl⟩) _)
/-- the texts of words -/
theorem Cs.w0 (hsh : Sh G) (h : Cs G) : Wt G 100003 20 (cx tx0) ∧ Wt G 100004 42 (cx tx1) ∧ Wt G 100005 60 (cx tx2) := by
  obtain ⟨h1, h2, h3, h4, h5, h6⟩ := h
  have hn : ∀ a, 100000 ≤ a → (am_K G)[a]? = none := fun a ha => List.getElem?_eq_none (by omega)
  have ln : ∀ a, 100000 ≤ a → am_ln G a = am_ol (am_sl G) (a - 100000) := fun a ha => by unfold am_ln; rw [hn a ha]
  have l0 : ∀ i, i < 20 → cx tx0 i < 128 := by decide
  have l1 : ∀ i, i < 42 → cx tx1 i < 128 := by decide
  have l2 : ∀ i, i < 60 → cx tx2 i < 128 := by decide
  refine ⟨⟨Or.inl rfl, Or.inr (Or.inr (Or.inl rfl)), by rw [ln _ (by decide)]; rfl, by decide, fun i hi => ⟨h2 i hi, l0 i hi, Or.inr ⟨Or.inl rfl, wn_in (n := 20) hi (by decide)⟩⟩, by decide⟩, ⟨Or.inr (Or.inl rfl), Or.inr (Or.inr (Or.inr (Or.inl rfl))), by rw [ln _ (by decide)]; rfl, by decide, fun i hi => ⟨h3 i hi, l1 i hi, Or.inr ⟨Or.inr (Or.inl rfl), wn_in (n := 42) hi (by decide)⟩⟩, by decide⟩,
    ⟨Or.inr (Or.inr rfl), Or.inr (Or.inr (Or.inr (Or.inr rfl))), by rw [ln _ (by decide)]; rfl, by decide, fun i hi => ⟨h4 i hi, l2 i hi, Or.inr ⟨Or.inr (Or.inr rfl), wn_in (n := 60) hi (by decide)⟩⟩, by decide⟩⟩
end
