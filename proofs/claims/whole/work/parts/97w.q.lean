/-! The start: both made; the law, whole. -/
def V0 : Vt := mkV (fun _ => 0) 0 none δ0 [] (sZ 0) 0 (fun _ => sZ 0) 0 (fun _ => sZ 0) (fun _ => 0) (fun _ _ => sZ 0) [] 0 0 0
theorem kF_eq : rKL ++ [(101, 1)] = kk0 ++ [] := by decide +kernel
theorem pF_eq : ∀ q ∈ pp0, lkp rPL q.1 q.2.1 = q.2.2 := by decide +kernel
theorem rF_0 {a i : Nat} (h1 : ¬ (a = 1 ∧ i = 7)) (h2 : ¬ a = 20) (h3 : ¬ a = 21) (h4 : ¬ a = 107) (h5 : ¬ a = 111) (h6 : ¬ (a = 334 ∧ i = 3)) : rF a i = wn 0 := by
  simp only [rF, cF4, cF3, cF2, cmF, adF, flF, cF1, cF0, h1, h2, h3, h4, h5, h6, false_and, if_false]
  rfl
theorem rF_111 {j : Nat} (h : j < 873) : rF 111 j = mm := by
  unfold rF
  rw [if_neg (by omega)]
  unfold cF4 flF
  rw [if_pos ⟨rfl, h⟩]
theorem rF_107 : ∀ h, h < 7 → rF 107 h = mm := by decide +kernel
theorem rF_21 : ∀ i, i < 9 → rF 21 i = wn (tkc (CL.getD i (0, 0))) := by decide +kernel
theorem by_ok : (∀ i, i < 20 → am_by0.getD i 0 = wn (cx tx0 i)) ∧ (∀ i, i < 42 → am_by1.getD i 0 = wn (cx tx1 i)) ∧ (∀ i, i < 60 → am_by2.getD i 0 = wn (cx tx2 i)) ∧ (∀ i, i < 7 → am_many.getD i 0 = wn (mny i)) ∧ ∀ i, i < 7 → am_first.getD i 0 = wn (fir i) := by decide +kernel
section
variable {G : am_G} {L : Nat} {xs : Nat → Int32}
theorem J0 (M : Mk (am_G0 L xs) G (rKL ++ [(101, 1)]) 839 21208 rPL rF) : Jn L 0 G V0 := by
  have hl := M.len
  have hu := M.2.2.1
  have hs : am_sl G = L := M.2.2.2.1
  have hsh : Sh G := ⟨⟨[], by rw [M.1]; exact kF_eq⟩, fun q hq => by rw [M.gP (pp0_lt q hq)]; exact pF_eq q hq⟩
  have z : ∀ {a i : Nat}, a < 839 → ¬ (a = 1 ∧ i = 7) → ¬ a = 20 → ¬ a = 21 → ¬ a = 107 → ¬ a = 111 → ¬ (a = 334 ∧ i = 3) → am_gI G a i = wn 0 := fun h0 h1 h2 h3 h4 h5 h6 => by rw [M.gI h0]; exact rF_0 h1 h2 h3 h4 h5 h6
  have hv : vV V0 := ⟨fun _ => (by decide : 0 < 256), Nat.zero_le _, fun p _ => Nat.zero_le p, vD0, Or.inl rfl, vS9_Z vD0, Nat.zero_le _, fun i hi => absurd hi (Nat.not_lt_zero i), Nat.zero_le _, fun i hi => absurd hi (Nat.not_lt_zero i), Nat.zero_le _, fun x hx => absurd hx List.not_mem_nil, List.Pairwise.nil⟩
  have q3 : ∀ i, am_gP G 3 i = lkp rPL 3 i := fun i => M.gP (by decide) i
  have p3 : lkp rPL 3 0 = 4 ∧ lkp rPL 3 1 = 12 ∧ lkp rPL 3 2 = 20 ∧ lkp rPL 3 3 = 23 := by decide +kernel
  have hD : rD G 4 δ0 := ⟨z (by decide) (by decide) (by decide) (by decide) (by decide) (by decide) (by decide), z (by decide) (by decide) (by decide) (by decide) (by decide) (by decide) (by decide), z (by decide) (by decide) (by decide) (by decide) (by decide) (by decide) (by decide), z (by decide) (by decide) (by decide) (by decide) (by decide) (by decide) (by decide), fun b hb => absurd hb (Nat.not_lt_zero b), fun b hb => absurd hb (Nat.not_lt_zero b), fun b hb => absurd hb (Nat.not_lt_zero b)⟩
  have hLw : rL G 20 (eff []) := by
    refine ⟨by rw [M.gI (by decide)]; decide +kernel, fun i t ht => ?_⟩
    have ht2 : CL[i]? = some t := ht
    have hi : i < 9 := (List.getElem?_eq_some_iff.mp ht2).1
    rw [M.gI (by decide), rF_21 i hi]
    rw [List.getD_eq_getElem?_getD, ht2]
    rfl
  have hS : ∀ s, s = 32 → rS G s (sZ 0) := by
    rintro s rfl
    exact ⟨z (by decide) (by decide) (by decide) (by decide) (by decide) (by decide) (by decide), z (by decide) (by decide) (by decide) (by decide) (by decide) (by decide) (by decide), z (by decide) (by decide) (by decide) (by decide) (by decide) (by decide) (by decide), z (by decide) (by decide) (by decide) (by decide) (by decide) (by decide) (by decide), fun b _ => z (by decide) (by omega) (by decide) (by decide) (by decide) (by decide) (by omega), fun b _ => z (by decide) (by omega) (by decide) (by decide) (by decide) (by decide) (by omega), fun b _ => z (by decide) (by omega) (by decide) (by decide) (by decide) (by decide) (by omega)⟩
  have zz : ∀ {a i : Nat}, a < 839 → (a = 0 ∨ a = 31 ∨ a = 106 ∨ (a = 334 ∧ i ≠ 3) ∨ a = 335 ∨ a = 336 ∨ a = 338 ∨ a = 808 ∨ a = 2 ∨ (a = 1 ∧ i ≠ 7)) → am_gI G a i = wn 0 := fun h h2 => z h (by omega) (by omega) (by omega) (by omega) (by omega) (by omega)
  have rr : rR G := fun n n1 n2 => Or.inl (fun row hr => by
    have := fir_le n (by omega)
    rw [M.gI (by decide)]
    exact rF_111 (by omega))
  have hC : RepC G V0 := RepC.mk hsh hv ⟨⟨fun _ => (by decide : 0 < 256), fun i hi => zz (by decide) (by omega)⟩, zz (by decide) (by omega), by rw [M.gI (by decide)]; decide +kernel⟩ ⟨4, 20, ⟨by rw [q3]; exact p3.1, by rw [q3]; exact p3.2.2.1, Or.inl rfl, Or.inl rfl, hD, vD0, hLw, Or.inl rfl⟩, by rw [q3]; exact p3.2.1, by rw [q3]; exact p3.2.2.2⟩ ⟨hS 32 rfl, zz (by decide) (by omega), fun i hi => absurd hi (Nat.not_lt_zero i)⟩ ⟨zz (by decide) (by omega), fun i hi => absurd hi (Nat.not_lt_zero i)⟩ ⟨zz (by decide) (by omega), fun h hh => by rw [M.gI (by decide)]; exact rF_107 h hh⟩ ⟨zz (by decide) (by omega), zz (by decide) (by omega), zz (by decide) (by omega)⟩ rr
  have hRr : RepR G V0 := RepR.mk hsh hv ⟨⟨fun _ => (by decide : 0 < 256), fun i hi => zz (by decide) (by omega)⟩, zz (by decide) (by omega), by rw [M.gI (by decide)]; decide +kernel⟩ ⟨⟨zz (by decide) (by omega), zz (by decide) (by omega), zz (by decide) (by omega), zz (by decide) (by omega), fun b hb => absurd hb (Nat.not_lt_zero b), fun b hb => absurd hb (Nat.not_lt_zero b), fun b hb => absurd hb (Nat.not_lt_zero b)⟩, vD0, ⟨zz (by decide) (by omega), fun i t ht => by simp [V0, vΛ, mkV] at ht⟩, Or.inl rfl⟩ ⟨fun j hj => by
      rw [Nat.zero_add]
      show am_gI G 808 j = wn (ent (sZ 0) j)
      rw [ent_Z, show (if j = 94 then 0 else 0) = 0 by split <;> rfl]
      exact zz (by decide) (by omega), zz (by decide) (by omega), fun i hi => absurd hi (Nat.not_lt_zero i)⟩ ⟨zz (by decide) (by omega), fun i hi => absurd hi (Nat.not_lt_zero i)⟩ ⟨zz (by decide) (by omega), fun i x hx => by simp [V0, vk, mkV] at hx⟩ ⟨zz (by decide) (by omega), zz (by decide) (by omega), zz (by decide) (by omega)⟩
  have e : ∀ a i, 100000 ≤ a → am_gI G a i = am_gI (am_G0 L xs) a i := M.2.2.2.2.2.2.1
  obtain ⟨b0, b1, b2, b3, b4⟩ := by_ok
  have hCs : Cs G := by
    refine ⟨by omega, fun i hi => ?_, fun i hi => ?_, fun i hi => ?_, fun i hi => ?_, fun i hi => ?_⟩
    · rw [e _ _ (by decide)]; exact b0 i hi
    · rw [e _ _ (by decide)]; exact b1 i hi
    · rw [e _ _ (by decide)]; exact b2 i hi
    · rw [e _ _ (by decide)]; exact b3 i hi
    · rw [e _ _ (by decide)]; exact b4 i hi
  exact ⟨hC, hRr, hCs, hs, by omega, by omega⟩
end
theorem pure_law (L : Nat) (xs : Nat → Int32) (hL : L ≤ 5120) : am_C am_T 100 311 [.ref 100000] (am_G0 L xs) (fun o _ => o = .inl (some (.int 1))) := by
  have hc := am_C_one am_T 99
  show am_C am_T (99 + 1) 311 [.ref 100000] (am_G0 L xs) _
  have M : Mk (am_G0 L xs) (am_G0 L xs) [] 0 0 [] cF0 := ⟨rfl, rfl, rfl, rfl, fun a i h => absurd h (Nat.not_lt_zero a), fun a i h => absurd h (Nat.not_lt_zero a), fun _ _ _ => rfl, fun q hq => absurd hq List.not_mem_nil, fun _ _ _ => rfl⟩
  have lw := fun G V J => lw_loop hL 513 0 G V rfl (by decide) (by omega) J
  generalize hp : (fun (o : am_O) (_ : am_G) => o = .inl (some (.int 1))) = post at lw ⊢
  rw [we311]
  simp +decide (disch := omega) only [↓wm1, wb311_0 hc, w0, w1, w2, w3, w4, w5, w6, w7, w8, w9, w10, w63, rI_wI, rP_wI, rL_wI, rI_wR, rP_wR, is_wI, is_wR, ia_wI, ia_wR, ow_wI, ow_wR, wn_add, wn_mul, wn_cl, wn_le, wn_lt, wn_inj, wn_ne1, wn_1ne, wn_gt1, wn_le1, nb0, nb1, am_kt, am_rt, List.cons_append, List.nil_append, true_and, and_true, not_true_eq_false, not_false_eq_true, imp_f, imp_t, implies_true, Nat.zero_add, if_true, if_false, false_and, and_false, M.rm, M.len]
  have M1 : Mk (am_G0 L xs) (am_nw (am_G0 L xs) 11 14) cK0 1 14 [] cF0 := M.nw 11 14 (by decide)
  refine ct100c (d := 95) M1 (fun G2 M2 => ?_)
  have hz : ∀ a i, 334 ≤ a → cF4 a i = 0 := M2.2.2.2.2.2.2.2.2
  simp +decide (disch := omega) only [↓wm1, wb311_7 hc, w0, w1, w2, w3, w4, w5, w6, w7, w8, w9, w10, w63, rI_wI, rP_wI, rL_wI, rI_wR, rP_wR, is_wI, is_wR, ia_wI, ia_wR, ow_wI, ow_wR, wn_add, wn_mul, wn_cl, wn_le, wn_lt, wn_inj, wn_ne1, wn_1ne, wn_gt1, wn_le1, nb0, nb1, am_kt, am_rt, List.cons_append, List.nil_append, true_and, and_true, not_true_eq_false, not_false_eq_true, imp_f, imp_t, implies_true, Nat.zero_add, if_true, if_false, false_and, and_false, M2.rm, M2.len]
  have M3 : Mk (am_G0 L xs) (am_nw G2 12 49) rK0 335 11460 rP0 cF4 := M2.nw 12 49 (by decide)
  refine ct149c (d := 96) M3 hz (fun G4 M4 => ?_)
  simp +decide (disch := omega) only [↓wm1, wb311_15 hc, w0, w1, w2, w3, w4, w5, w6, w7, w8, w9, w10, w63, rI_wI, rP_wI, rL_wI, rI_wR, rP_wR, is_wI, is_wR, ia_wI, ia_wR, ow_wI, ow_wR, wn_add, wn_mul, wn_cl, wn_le, wn_lt, wn_inj, wn_ne1, wn_1ne, wn_gt1, wn_le1, nb0, nb1, am_kt, am_rt, List.cons_append, List.nil_append, true_and, and_true, not_true_eq_false, not_false_eq_true, imp_f, imp_t, implies_true, Nat.zero_add, if_true, if_false, false_and, and_false, M4.rm, M4.len]
  have M5 : Mk (am_G0 L xs) (am_nw G4 101 1) (rKL ++ [(101, 1)]) 839 21208 rPL rF := M4.nw 101 1 (by decide)
  exact lw _ V0 (J0 M5)
