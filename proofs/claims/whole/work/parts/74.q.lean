/-! Images, the reference's side. -/
/-- a kept row: works, the state now, the states ahead -/
def kpr (w : Nat → Int32) (n : Nat → Int32) (b : Nat → Nat → Int32) (j : Nat) : Int32 := if j = 0 then w 0 else if j < 97 then n (j - 1) else b ((j - 97) / 96) ((j - 97) % 96)
theorem k3r : ∀ i, i < 3 → kk0[828 + i]? = some (100, 1633) ∧ (827, i, 828 + i) ∈ pp0 := by decide +kernel
theorem fr827 {G : am_G} (h : Sh G) : (∀ i, i < 3 → am_ra G 827 (wn i)) ∧ (∀ i, i < 3 → am_gP G 827 i = 828 + i) ∧ (∀ i, i < 3 → 828 + i < 90000) ∧ (∀ i j, i < 3 → j < 1633 → am_ia G (828 + i) (wn j)) ∧ ∀ i j, i < 3 → j < 1633 → am_ow G (828 + i) (wn j) 100 :=
  ⟨fun i hi => h.ra (n := 3) (by decide +kernel) hi (by decide), fun i hi => h.2 _ (k3r i hi).2, fun i hi => by omega, fun i j hi hj => h.ia (k3r i hi).1 hj (by decide), fun i j hi hj => h.ow (k3r i hi).1 hj (by decide)⟩
section
variable {G : am_G} {d : Nat} {V : Vt} {post : am_O → am_G → Prop}
theorem ct263p {m s : Nat} {v : Int32} (hsh : Sh G) (hm : m < 3) (hs : s < 1633) (e : am_gI G 334 37 = wn s) : am_C am_T (d + 1) 263 [.ref 334, .ref (828 + m), .int v, .int (wn 0)] G post ↔ post (.inl (some (.int v))) (am_wI (am_wI G (828 + m) s v) 334 37 (wn (s + 1))) := by
  have hc := am_C_one am_T d
  have e1 : wn (s + 1) - wn 1 = wn s := by rw [wn_sub (by omega)]; rfl
  have n1 : ¬ 334 = 828 + m := by omega
  have n2 : ¬ 828 + m = 334 := by omega
  rw [we263]
  simp +decide (disch := omega) only [↓wm1, wb263_0 hc, wb263_4 hc, wb263_11 hc, w0, w1, rI_wI, rP_wI, rL_wI, rI_wR, rP_wR, is_wI, is_wR, ia_wI, ia_wR, ow_wI, ow_wR, wn_add, wn_mul, wn_cl, wn_le, wn_lt, wn_inj, wn_ne1, wn_1ne, wn_gt1, wn_le1, nb0, nb1, am_kt, am_rt, List.cons_append, List.nil_append, true_and, and_true, not_true_eq_false, not_false_eq_true, imp_f, imp_t, implies_true, Nat.zero_add, if_true, if_false, false_and, and_false, fM hsh, e, fr827 hsh, e1, n1, n2]
theorem ct263b {m s : Nat} {v : Int32} (hsh : Sh G) (hm : m < 3) (hs : s < 1633) (e : am_gI G 334 37 = wn s) : am_C am_T (d + 1) 263 [.ref 334, .ref (828 + m), .int v, .int (wn 1)] G post ↔ post (.inl (some (.int (am_gI G (828 + m) s)))) (am_wI G 334 37 (wn (s + 1))) := by
  have hc := am_C_one am_T d
  have e1 : wn (s + 1) - wn 1 = wn s := by rw [wn_sub (by omega)]; rfl
  have n1 : ¬ 334 = 828 + m := by omega
  have n2 : ¬ 828 + m = 334 := by omega
  rw [we263]
  simp +decide (disch := omega) only [↓wm1, wb263_0 hc, wb263_4 hc, wb263_11 hc, w0, w1, rI_wI, rP_wI, rL_wI, rI_wR, rP_wR, is_wI, is_wR, ia_wI, ia_wR, ow_wI, ow_wR, wn_add, wn_mul, wn_cl, wn_le, wn_lt, wn_inj, wn_ne1, wn_1ne, wn_gt1, wn_le1, nb0, nb1, am_kt, am_rt, List.cons_append, List.nil_append, true_and, and_true, not_true_eq_false, not_false_eq_true, imp_f, imp_t, implies_true, Nat.zero_add, if_true, if_false, false_and, and_false, fM hsh, e, fr827 hsh, e1, n1, n2]
end
