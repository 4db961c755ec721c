/-! The law's reading, the reference's side. -/
theorem wi2_hd {t : Nat → Nat} {n p k : Nat} (h : wi2 (wrd t n p) = some k) : 97 ≤ t p ∧ t p ≤ 122 := by
  have c := wrd_pos h
  refine wrd_letters t n p (t p) ?_
  unfold wrd
  rw [List.mem_map]
  exact ⟨0, List.mem_range.mpr (by omega), rfl⟩
/-- the signs that were noted -/
def rLs (G : am_G) (Λ : List Tok) : Prop := am_gI G 334 20 = wn Λ.length ∧ ∀ i k, Λ[i]? = some k → am_gI G (549 + i) 0 = wn k.1 ∧ am_gI G (549 + i) 1 = wn k.2
def LQ : Nat → Nat → Prop := fun a i => (a = 334 ∧ ((4 ≤ i ∧ i ≤ 8) ∨ i = 20)) ∨ (549 ≤ a ∧ a ≤ 708)
def N2 : Nat → Nat → Prop := fun a i => (a = 334 ∧ i = 20) ∨ (549 ≤ a ∧ a ≤ 708)
def O8 : Nat → Nat → Prop := fun a i => a = 334 ∧ 4 ≤ i ∧ i ≤ 8
def RP (D y : Nat) (t : Nat → Nat) (n o : Nat) (pu : PLw) : Prop := ∀ (G : am_G) (p : Nat) (Λ : List Tok) (post : am_O → am_G → Prop), Sh G → rQ G t n p o → rLs G Λ → Λ.length ≤ p →
  (∀ q Λ' G', pu p Λ = .inr (q, Λ') → rQ G' t n q o → rLs G' Λ' → Kp LQ G G' → post (.inl none) G') →
  (∀ k w G', pu p Λ = .inl (k, w) → fQ G' t n k w → Kp LQ G G' → post (.inl none) G') → am_C am_T D y [.ref 334] G post
section
variable {G : am_G} {d n o p : Nat} {t : Nat → Nat} {pu ps : PLw} {post : am_O → am_G → Prop} {Λ : List Tok}
theorem Q4.oo {G' : am_G} (k : Kp Q4 G G') : Kp O8 G G' := k.mono (fun a i z => by unfold Q4 at z; unfold O8; omega)
theorem QS.oo {G' : am_G} (k : Kp QS G G') : Kp O8 G G' := k.mono (fun a i z => by unfold QS at z; unfold O8; omega)
theorem O8.ll {G' : am_G} (k : Kp O8 G G') : Kp LQ G G' := k.mono (fun a i z => by unfold O8 at z; unfold LQ; omega)
theorem N2.ll {G' : am_G} (k : Kp N2 G G') : Kp LQ G G' := k.mono (fun a i z => by unfold N2 at z; unfold LQ; omega)
theorem rLs.oo {G' : am_G} (h : rLs G Λ) (k : Kp O8 G G') : rLs G' Λ := ⟨by rw [k.i (by unfold O8; omega)]; exact h.1, fun i t ht => by rw [k.i (by unfold O8; omega), k.i (by unfold O8; omega)]; exact h.2 i t ht⟩
theorem rQ.n2 {G' : am_G} (h : rQ G t n p o) (k : Kp N2 G G') : rQ G' t n p o := h.kp k (fun a i z => by unfold N2 at z; omega)
theorem ct180 {a b : Nat} (hsh : Sh G) (e5 : am_gI G 334 5 = wn 0) (hr : rLs G Λ) (hlen : Λ.length < 160) (k : ∀ G', rLs G' (Λ ++ [(a, b)]) → Kp N2 G G' → post (.inl none) G') : am_C am_T (d + 1) 180 [.ref 334, .int (wn a), .int (wn b)] G post := by
  have hc := am_C_one am_T d
  have e := hr.1
  have n1 : ¬ 334 = 549 + Λ.length := by omega
  rw [we180]
  simp +decide (disch := omega) only [↓wm1, wb180_0 hc, wb180_7 hc, wb180_8 hc, w0, w1, rI_wI, rP_wI, rL_wI, rI_wR, rP_wR, is_wI, is_wR, ia_wI, ia_wR, ow_wI, ow_wR, wn_add, wn_mul, wn_cl, wn_le, wn_lt, wn_inj, wn_ne1, wn_1ne, wn_gt1, wn_le1, nb0, nb1, am_kt, am_rt, List.cons_append, List.nil_append, true_and, and_true, not_true_eq_false, not_false_eq_true, imp_f, imp_t, implies_true, Nat.zero_add, if_true, if_false, false_and, and_false, fM hsh, e5, e, fr548 hsh, n1, hlen, ra_wI]
  have kk : Kp N2 G (am_wI (am_wI (am_wI G (549 + Λ.length) 0 (wn a)) (549 + Λ.length) 1 (wn b)) 334 20 (wn (Λ.length + 1))) := (((Kp.refl G).wI (Or.inr ⟨by omega, by omega⟩) _).wI (Or.inr ⟨by omega, by omega⟩) _).wI (Or.inl ⟨rfl, rfl⟩) _
  refine k _ ⟨?_, fun i t ht => ?_⟩ kk
  · rw [rI_wI, if_pos ⟨rfl, rfl⟩]; simp
  · have hi : i < (Λ ++ [(a, b)]).length := (List.getElem?_eq_some_iff.mp ht).1
    simp at hi
    by_cases e2 : i = Λ.length
    · rw [e2, List.getElem?_append_right (Nat.le_refl _)] at ht
      simp at ht
      rw [← ht, e2]
      refine ⟨?_, ?_⟩
      · rw [rI_wI, if_neg (by omega), rI_wI, if_neg (by omega), rI_wI, if_pos ⟨rfl, rfl⟩]
      · rw [rI_wI, if_neg (by omega), rI_wI, if_pos ⟨rfl, rfl⟩]
    · rw [List.getElem?_append_left (by omega)] at ht
      have z := hr.2 i t ht
      refine ⟨?_, ?_⟩
      · rw [rI_wI, if_neg (by omega), rI_wI, if_neg (by omega), rI_wI, if_neg (by omega)]; exact z.1
      · rw [rI_wI, if_neg (by omega), rI_wI, if_neg (by omega), rI_wI, if_neg (by omega)]; exact z.2
theorem ct180f {k w : Nat} {x y : Int32} (hsh : Sh G) (h : fQ G t n k w) : am_C am_T (d + 1) 180 [.ref 334, .int x, .int y] G post ↔ post (.inl none) G := by
  have hc := am_C_one am_T d
  obtain ⟨h1, h2, h3, h4, h5, h6, h7, h8⟩ := h
  have c : ¬ k = 0 := by omega
  rw [we180]
  simp +decide (disch := omega) only [↓wm1, wb180_0 hc, wb180_7 hc, w0, w1, rI_wI, rP_wI, rL_wI, rI_wR, rP_wR, is_wI, is_wR, ia_wI, ia_wR, ow_wI, ow_wR, wn_add, wn_mul, wn_cl, wn_le, wn_lt, wn_inj, wn_ne1, wn_1ne, wn_gt1, wn_le1, nb0, nb1, am_kt, am_rt, List.cons_append, List.nil_append, true_and, and_true, not_true_eq_false, not_false_eq_true, imp_f, imp_t, implies_true, Nat.zero_add, if_true, if_false, false_and, and_false, fM hsh, h7, c]
theorem ct185f {k w : Nat} (hsh : Sh G) (h : fQ G t n k w) : am_C am_T (d + 1) 185 [.ref 334] G post ↔ post (.inl none) G := by
  have hc := am_C_one am_T d
  obtain ⟨h1, h2, h3, h4, h5, h6, h7, h8⟩ := h
  have c : ¬ k = 0 := by omega
  rw [we185]
  simp +decide (disch := omega) only [↓wm1, wb185_0 hc, wb185_7 hc, w0, w1, w5, w7, w8, w12, w13, w15, w19, w20, w40, w41, w44, w91, w93, w999, rI_wI, rP_wI, rL_wI, rI_wR, rP_wR, is_wI, is_wR, ia_wI, ia_wR, ow_wI, ow_wR, wn_add, wn_mul, wn_cl, wn_le, wn_lt, wn_inj, wn_ne1, wn_1ne, wn_gt1, wn_le1, nb0, nb1, am_kt, am_rt, List.cons_append, List.nil_append, true_and, and_true, not_true_eq_false, not_false_eq_true, imp_f, imp_t, implies_true, Nat.zero_add, if_true, if_false, false_and, and_false, fM hsh, h7, c]
theorem ct183f {k w : Nat} (hsh : Sh G) (h : fQ G t n k w) : am_C am_T (d + 2) 183 [.ref 334] G post ↔ post (.inl none) G := by
  have hc := am_C_one am_T (d + 1)
  have e := ct185f (d := d) (post := am_kt (am_C am_T (d + 1)) am_183 4 [] 0 [some (.ref 334), none] 1 post) hsh h
  obtain ⟨h1, h2, h3, h4, h5, h6, h7, h8⟩ := h
  have c : ¬ k = 0 := by omega
  rw [we183]
  simp +decide (disch := omega) only [↓wm1, wb183_0 hc, w0, w1, w4, w5, w6, w37, w42, w47, rI_wI, rP_wI, rL_wI, rI_wR, rP_wR, is_wI, is_wR, ia_wI, ia_wR, ow_wI, ow_wR, wn_add, wn_mul, wn_cl, wn_le, wn_lt, wn_inj, wn_ne1, wn_1ne, wn_gt1, wn_le1, nb0, nb1, am_kt, am_rt, List.cons_append, List.nil_append, true_and, and_true, not_true_eq_false, not_false_eq_true, imp_f, imp_t, implies_true, Nat.zero_add, if_true, if_false, false_and, and_false, fM hsh, e]
  rw [wb183_4 hc]
  simp +decide (disch := omega) only [↓wm1, wb183_72 hc, w0, w1, w4, w5, w6, w37, w42, w47, rI_wI, rP_wI, rL_wI, rI_wR, rP_wR, is_wI, is_wR, ia_wI, ia_wR, ow_wI, ow_wR, wn_add, wn_mul, wn_cl, wn_le, wn_lt, wn_inj, wn_ne1, wn_1ne, wn_gt1, wn_le1, nb0, nb1, am_kt, am_rt, List.cons_append, List.nil_append, true_and, and_true, not_true_eq_false, not_false_eq_true, imp_f, imp_t, implies_true, Nat.zero_add, if_true, if_false, false_and, and_false, fM hsh, h7, c]
theorem ct182f {k w : Nat} (hsh : Sh G) (h : fQ G t n k w) : am_C am_T (d + 3) 182 [.ref 334] G post ↔ post (.inl none) G := by
  have hc := am_C_one am_T (d + 2)
  have e := ct183f (d := d) (post := am_kt (am_C am_T (d + 2)) am_182 4 [] 0 [some (.ref 334), none] 1 post) hsh h
  obtain ⟨h1, h2, h3, h4, h5, h6, h7, h8⟩ := h
  have c : ¬ k = 0 := by omega
  rw [we182]
  simp +decide (disch := omega) only [↓wm1, wb182_0 hc, w0, w1, w2, w3, w43, w45, rI_wI, rP_wI, rL_wI, rI_wR, rP_wR, is_wI, is_wR, ia_wI, ia_wR, ow_wI, ow_wR, wn_add, wn_mul, wn_cl, wn_le, wn_lt, wn_inj, wn_ne1, wn_1ne, wn_gt1, wn_le1, nb0, nb1, am_kt, am_rt, List.cons_append, List.nil_append, true_and, and_true, not_true_eq_false, not_false_eq_true, imp_f, imp_t, implies_true, Nat.zero_add, if_true, if_false, false_and, and_false, fM hsh, e]
  rw [wb182_4 hc]
  simp +decide (disch := omega) only [↓wm1, wb182_58 hc, w0, w1, w2, w3, w43, w45, rI_wI, rP_wI, rL_wI, rI_wR, rP_wR, is_wI, is_wR, ia_wI, ia_wR, ow_wI, ow_wR, wn_add, wn_mul, wn_cl, wn_le, wn_lt, wn_inj, wn_ne1, wn_1ne, wn_gt1, wn_le1, nb0, nb1, am_kt, am_rt, List.cons_append, List.nil_append, true_and, and_true, not_true_eq_false, not_false_eq_true, imp_f, imp_t, implies_true, Nat.zero_add, if_true, if_false, false_and, and_false, fM hsh, h7, c]
theorem ct181 (hsh : Sh G) (h : rQ G t n p o) (e4 : am_gI G 334 4 = wn p) (kok : ∀ G', o < 6 → rQ G' t n p (o + 1) → am_gI G' 334 4 = wn p → Kp O8 G G' → post (.inl (some (.int (wn 1)))) G') (kbad : ∀ G', o = 6 → fQ G' t n 3 p → Kp O8 G G' → post (.inl (some (.int (wn 0)))) G') : am_C am_T (d + 2) 181 [.ref 334] G post := by
  have hc := am_C_one am_T (d + 1)
  obtain ⟨h1, h2, h3, h4, h5, h6, h7, h8, h9, h10⟩ := h
  rw [we181]
  by_cases c : o = 6
  · subst c
    simp +decide (disch := omega) only [↓wm1, wb181_0 hc, wb181_7 hc, wb181_16 hc, w0, w1, w3, w6, rI_wI, rP_wI, rL_wI, rI_wR, rP_wR, is_wI, is_wR, ia_wI, ia_wR, ow_wI, ow_wR, wn_add, wn_mul, wn_cl, wn_le, wn_lt, wn_inj, wn_ne1, wn_1ne, wn_gt1, wn_le1, nb0, nb1, am_kt, am_rt, List.cons_append, List.nil_append, true_and, and_true, not_true_eq_false, not_false_eq_true, imp_f, imp_t, implies_true, Nat.zero_add, if_true, if_false, false_and, and_false, fM hsh, h9, h10, e4, ct160 hsh h9]
    have kk : Kp O8 G (am_wI (am_wI G 334 5 (wn 3)) 334 6 (wn p)) := ((Kp.refl G).wI ⟨rfl, by decide, by decide⟩ _).wI ⟨rfl, by decide, by decide⟩ _
    simp +decide (disch := omega) only [↓wm1, wb181_25 hc, wb181_45 hc, wb181_56 hc, wb181_57 hc, w0, w1, w3, w6, rI_wI, rP_wI, rL_wI, rI_wR, rP_wR, is_wI, is_wR, ia_wI, ia_wR, ow_wI, ow_wR, wn_add, wn_mul, wn_cl, wn_le, wn_lt, wn_inj, wn_ne1, wn_1ne, wn_gt1, wn_le1, nb0, nb1, am_kt, am_rt, List.cons_append, List.nil_append, true_and, and_true, not_true_eq_false, not_false_eq_true, imp_f, imp_t, implies_true, Nat.zero_add, if_true, if_false, false_and, and_false, fM (hsh.kp kk)]
    refine kbad _ rfl ⟨h1.kp kk (by rintro i ⟨z, -⟩; omega), h2, ?_, ?_, ⟨p, h3, ?_⟩, by decide, ?_, ?_⟩ kk
    · rw [kk.i (by unfold O8; omega)]; exact h6
    · rw [kk.i (by unfold O8; omega)]; exact h7
    · rw [rI_wI, if_neg (by decide), rI_wI, if_neg (by decide)]; exact e4
    · rw [rI_wI, if_neg (by decide), rI_wI, if_pos ⟨rfl, rfl⟩]
    · rw [rI_wI, if_pos ⟨rfl, rfl⟩]
  · simp +decide (disch := omega) only [↓wm1, wb181_0 hc, wb181_7 hc, wb181_28 hc, wb181_35 hc, wb181_45 hc, wb181_52 hc, wb181_57 hc, w0, w1, w3, w6, rI_wI, rP_wI, rL_wI, rI_wR, rP_wR, is_wI, is_wR, ia_wI, ia_wR, ow_wI, ow_wR, wn_add, wn_mul, wn_cl, wn_le, wn_lt, wn_inj, wn_ne1, wn_1ne, wn_gt1, wn_le1, nb0, nb1, am_kt, am_rt, List.cons_append, List.nil_append, true_and, and_true, not_true_eq_false, not_false_eq_true, imp_f, imp_t, implies_true, Nat.zero_add, if_true, if_false, false_and, and_false, fM hsh, h9, h10, c]
    have kk : Kp O8 G (am_wI G 334 8 (wn (o + 1))) := (Kp.refl G).wI ⟨rfl, by decide, by decide⟩ _
    refine kok _ (by omega) ⟨h1.kp kk (by rintro i ⟨z, -⟩; omega), h2, h3, h4, by omega, ?_, ?_, ⟨p, h3, h4, ?_⟩, ?_, ?_⟩ ?_ kk
    · rw [kk.i (by unfold O8; omega)]; exact h6
    · rw [kk.i (by unfold O8; omega)]; exact h7
    · rw [rI_wI, if_neg (by decide)]; exact e4
    · rw [rI_wI, if_neg (by decide)]; exact h9
    · rw [rI_wI, if_pos ⟨rfl, rfl⟩]
    · rw [rI_wI, if_neg (by decide)]; exact e4
theorem ct182_s {o1 : Option Value} (hsh : Sh G) (h : rQ G t n p o)
    (kno : ∀ G', ¬ (p < n ∧ sgs (t p) ≠ 0) → rQ G' t n p o → Kp O8 G G' → post (.inl none) G')
    (kyes : ∀ G', (p < n ∧ sgs (t p) ≠ 0) → rQ G' t n (skb t n (p + 1)) o → Kp O8 G G' → am_W (am_C am_T (d + 3)) am_182 post 45 [some (.ref 334), some (.int (wn (sgs (t p))))] [] G') :
    am_W (am_C am_T (d + 3)) am_182 post 4 [some (.ref 334), o1] [] G := by
  have hc := am_C_one am_T (d + 3)
  have h9 := h.2.2.2.2.2.2.2.2.1
  rw [wb182_4 hc]
  simp +decide (disch := omega) only [↓wm1, wb182_11 hc, w0, w1, w2, w3, w43, w45, rI_wI, rP_wI, rL_wI, rI_wR, rP_wR, is_wI, is_wR, ia_wI, ia_wR, ow_wI, ow_wR, wn_add, wn_mul, wn_cl, wn_le, wn_lt, wn_inj, wn_ne1, wn_1ne, wn_gt1, wn_le1, nb0, nb1, am_kt, am_rt, List.cons_append, List.nil_append, true_and, and_true, not_true_eq_false, not_false_eq_true, imp_f, imp_t, implies_true, Nat.zero_add, if_true, if_false, false_and, and_false, fM hsh, h9]
  refine ct170 hsh h (by decide) (fun p' G1 e1 h1 k1 => ?_) (fun G1 e1 h1 k1 => ?_)
  · obtain ⟨a1, a2, rfl, -⟩ := psgn_in e1
    have hs : sgs (t p) = 2 := by rw [a2]; rfl
    have := kyes G1 ⟨a1, by rw [hs]; decide⟩ h1 (Q4.oo k1)
    rw [hs] at this
    simp +decide (disch := omega) only [↓wm1, wb182_17 hc, wb182_20 hc, wb182_38 hc, w0, w1, w2, w3, w43, w45, rI_wI, rP_wI, rL_wI, rI_wR, rP_wR, is_wI, is_wR, ia_wI, ia_wR, ow_wI, ow_wR, wn_add, wn_mul, wn_cl, wn_le, wn_lt, wn_inj, wn_ne1, wn_1ne, wn_gt1, wn_le1, nb0, nb1, am_kt, am_rt, List.cons_append, List.nil_append, true_and, and_true, not_true_eq_false, not_false_eq_true, imp_f, imp_t, implies_true, Nat.zero_add, if_true, if_false, false_and, and_false]
    exact this
  · have n1 := psgn_no e1
    have s1 := hsh.kp k1
    simp +decide (disch := omega) only [↓wm1, wb182_17 hc, wb182_24 hc, w0, w1, w2, w3, w43, w45, rI_wI, rP_wI, rL_wI, rI_wR, rP_wR, is_wI, is_wR, ia_wI, ia_wR, ow_wI, ow_wR, wn_add, wn_mul, wn_cl, wn_le, wn_lt, wn_inj, wn_ne1, wn_1ne, wn_gt1, wn_le1, nb0, nb1, am_kt, am_rt, List.cons_append, List.nil_append, true_and, and_true, not_true_eq_false, not_false_eq_true, imp_f, imp_t, implies_true, Nat.zero_add, if_true, if_false, false_and, and_false, fM s1]
    refine ct170 s1 h1 (by decide) (fun p' G2 e2 h2 k2 => ?_) (fun G2 e2 h2 k2 => ?_)
    · obtain ⟨a1, a2, rfl, -⟩ := psgn_in e2
      have hs : sgs (t p) = 3 := by rw [a2]; rfl
      have := kyes G2 ⟨a1, by rw [hs]; decide⟩ h2 ((Q4.oo k1).trans (Q4.oo k2))
      rw [hs] at this
      simp +decide (disch := omega) only [↓wm1, wb182_30 hc, wb182_33 hc, wb182_38 hc, w0, w1, w2, w3, w43, w45, rI_wI, rP_wI, rL_wI, rI_wR, rP_wR, is_wI, is_wR, ia_wI, ia_wR, ow_wI, ow_wR, wn_add, wn_mul, wn_cl, wn_le, wn_lt, wn_inj, wn_ne1, wn_1ne, wn_gt1, wn_le1, nb0, nb1, am_kt, am_rt, List.cons_append, List.nil_append, true_and, and_true, not_true_eq_false, not_false_eq_true, imp_f, imp_t, implies_true, Nat.zero_add, if_true, if_false, false_and, and_false]
      exact this
    · have n2 := psgn_no e2
      simp +decide (disch := omega) only [↓wm1, wb182_30 hc, wb182_37 hc, wb182_38 hc, wb182_44 hc, w0, w1, w2, w3, w43, w45, rI_wI, rP_wI, rL_wI, rI_wR, rP_wR, is_wI, is_wR, ia_wI, ia_wR, ow_wI, ow_wR, wn_add, wn_mul, wn_cl, wn_le, wn_lt, wn_inj, wn_ne1, wn_1ne, wn_gt1, wn_le1, nb0, nb1, am_kt, am_rt, List.cons_append, List.nil_append, true_and, and_true, not_true_eq_false, not_false_eq_true, imp_f, imp_t, implies_true, Nat.zero_add, if_true, if_false, false_and, and_false]
      refine kno G2 (fun z => z.2 ?_) h2 ((Q4.oo k1).trans (Q4.oo k2))
      have z1 : ¬ t p = 43 := fun y => n1 ⟨z.1, y⟩
      have z2 : ¬ t p = 45 := fun y => n2 ⟨z.1, y⟩
      unfold sgs
      rw [if_neg z1, if_neg z2]
theorem ct183_s {o1 : Option Value} (hsh : Sh G) (h : rQ G t n p o)
    (kno : ∀ G', ¬ (p < n ∧ sgp (t p) ≠ 0) → rQ G' t n p o → Kp O8 G G' → post (.inl none) G')
    (kyes : ∀ G', (p < n ∧ sgp (t p) ≠ 0) → rQ G' t n (skb t n (p + 1)) o → Kp O8 G G' → am_W (am_C am_T (d + 3)) am_183 post 59 [some (.ref 334), some (.int (wn (sgp (t p))))] [] G') :
    am_W (am_C am_T (d + 3)) am_183 post 4 [some (.ref 334), o1] [] G := by
  have hc := am_C_one am_T (d + 3)
  have h9 := h.2.2.2.2.2.2.2.2.1
  rw [wb183_4 hc]
  simp +decide (disch := omega) only [↓wm1, wb183_11 hc, w0, w1, w4, w5, w6, w37, w42, w47, rI_wI, rP_wI, rL_wI, rI_wR, rP_wR, is_wI, is_wR, ia_wI, ia_wR, ow_wI, ow_wR, wn_add, wn_mul, wn_cl, wn_le, wn_lt, wn_inj, wn_ne1, wn_1ne, wn_gt1, wn_le1, nb0, nb1, am_kt, am_rt, List.cons_append, List.nil_append, true_and, and_true, not_true_eq_false, not_false_eq_true, imp_f, imp_t, implies_true, Nat.zero_add, if_true, if_false, false_and, and_false, fM hsh, h9]
  refine ct170 hsh h (by decide) (fun p' G1 e1 h1 k1 => ?_) (fun G1 e1 h1 k1 => ?_)
  · obtain ⟨a1, a2, rfl, -⟩ := psgn_in e1
    have hs : sgp (t p) = 4 := by rw [a2]; rfl
    have := kyes G1 ⟨a1, by rw [hs]; decide⟩ h1 (Q4.oo k1)
    rw [hs] at this
    simp +decide (disch := omega) only [↓wm1, wb183_17 hc, wb183_20 hc, wb183_52 hc, w0, w1, w4, w5, w6, w37, w42, w47, rI_wI, rP_wI, rL_wI, rI_wR, rP_wR, is_wI, is_wR, ia_wI, ia_wR, ow_wI, ow_wR, wn_add, wn_mul, wn_cl, wn_le, wn_lt, wn_inj, wn_ne1, wn_1ne, wn_gt1, wn_le1, nb0, nb1, am_kt, am_rt, List.cons_append, List.nil_append, true_and, and_true, not_true_eq_false, not_false_eq_true, imp_f, imp_t, implies_true, Nat.zero_add, if_true, if_false, false_and, and_false]
    exact this
  · have n1 := psgn_no e1
    have s1 := hsh.kp k1
    simp +decide (disch := omega) only [↓wm1, wb183_17 hc, wb183_24 hc, w0, w1, w4, w5, w6, w37, w42, w47, rI_wI, rP_wI, rL_wI, rI_wR, rP_wR, is_wI, is_wR, ia_wI, ia_wR, ow_wI, ow_wR, wn_add, wn_mul, wn_cl, wn_le, wn_lt, wn_inj, wn_ne1, wn_1ne, wn_gt1, wn_le1, nb0, nb1, am_kt, am_rt, List.cons_append, List.nil_append, true_and, and_true, not_true_eq_false, not_false_eq_true, imp_f, imp_t, implies_true, Nat.zero_add, if_true, if_false, false_and, and_false, fM s1]
    refine ct170 s1 h1 (by decide) (fun p' G2 e2 h2 k2 => ?_) (fun G2 e2 h2 k2 => ?_)
    · obtain ⟨a1, a2, rfl, -⟩ := psgn_in e2
      have hs : sgp (t p) = 5 := by rw [a2]; rfl
      have := kyes G2 ⟨a1, by rw [hs]; decide⟩ h2 ((Q4.oo k1).trans (Q4.oo k2))
      rw [hs] at this
      simp +decide (disch := omega) only [↓wm1, wb183_30 hc, wb183_33 hc, wb183_52 hc, w0, w1, w4, w5, w6, w37, w42, w47, rI_wI, rP_wI, rL_wI, rI_wR, rP_wR, is_wI, is_wR, ia_wI, ia_wR, ow_wI, ow_wR, wn_add, wn_mul, wn_cl, wn_le, wn_lt, wn_inj, wn_ne1, wn_1ne, wn_gt1, wn_le1, nb0, nb1, am_kt, am_rt, List.cons_append, List.nil_append, true_and, and_true, not_true_eq_false, not_false_eq_true, imp_f, imp_t, implies_true, Nat.zero_add, if_true, if_false, false_and, and_false]
      exact this
    · have n2 := psgn_no e2
      have s2 := s1.kp k2
      simp +decide (disch := omega) only [↓wm1, wb183_30 hc, wb183_37 hc, w0, w1, w4, w5, w6, w37, w42, w47, rI_wI, rP_wI, rL_wI, rI_wR, rP_wR, is_wI, is_wR, ia_wI, ia_wR, ow_wI, ow_wR, wn_add, wn_mul, wn_cl, wn_le, wn_lt, wn_inj, wn_ne1, wn_1ne, wn_gt1, wn_le1, nb0, nb1, am_kt, am_rt, List.cons_append, List.nil_append, true_and, and_true, not_true_eq_false, not_false_eq_true, imp_f, imp_t, implies_true, Nat.zero_add, if_true, if_false, false_and, and_false, fM s2]
      refine ct170 s2 h2 (by decide) (fun p' G3 e3 h3 k3 => ?_) (fun G3 e3 h3 k3 => ?_)
      · obtain ⟨a1, a2, rfl, -⟩ := psgn_in e3
        have hs : sgp (t p) = 6 := by rw [a2]; rfl
        have := kyes G3 ⟨a1, by rw [hs]; decide⟩ h3 (((Q4.oo k1).trans (Q4.oo k2)).trans (Q4.oo k3))
        rw [hs] at this
        simp +decide (disch := omega) only [↓wm1, wb183_43 hc, wb183_46 hc, wb183_52 hc, w0, w1, w4, w5, w6, w37, w42, w47, rI_wI, rP_wI, rL_wI, rI_wR, rP_wR, is_wI, is_wR, ia_wI, ia_wR, ow_wI, ow_wR, wn_add, wn_mul, wn_cl, wn_le, wn_lt, wn_inj, wn_ne1, wn_1ne, wn_gt1, wn_le1, nb0, nb1, am_kt, am_rt, List.cons_append, List.nil_append, true_and, and_true, not_true_eq_false, not_false_eq_true, imp_f, imp_t, implies_true, Nat.zero_add, if_true, if_false, false_and, and_false]
        exact this
      · have n3 := psgn_no e3
        simp +decide (disch := omega) only [↓wm1, wb183_43 hc, wb183_51 hc, wb183_52 hc, wb183_58 hc, w0, w1, w4, w5, w6, w37, w42, w47, rI_wI, rP_wI, rL_wI, rI_wR, rP_wR, is_wI, is_wR, ia_wI, ia_wR, ow_wI, ow_wR, wn_add, wn_mul, wn_cl, wn_le, wn_lt, wn_inj, wn_ne1, wn_1ne, wn_gt1, wn_le1, nb0, nb1, am_kt, am_rt, List.cons_append, List.nil_append, true_and, and_true, not_true_eq_false, not_false_eq_true, imp_f, imp_t, implies_true, Nat.zero_add, if_true, if_false, false_and, and_false]
        refine kno G3 (fun z => z.2 ?_) h3 (((Q4.oo k1).trans (Q4.oo k2)).trans (Q4.oo k3))
        have z1 : ¬ t p = 42 := fun y => n1 ⟨z.1, y⟩
        have z2 : ¬ t p = 47 := fun y => n2 ⟨z.1, y⟩
        have z3 : ¬ t p = 37 := fun y => n3 ⟨z.1, y⟩
        unfold sgp
        rw [if_neg z1, if_neg z2, if_neg z3]
end
