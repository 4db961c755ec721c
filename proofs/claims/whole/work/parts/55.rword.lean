/-! Words and signs on the reference's tape. -/
/-- a word as a number by 27s: the last letter first -/
def cvr : List Nat → Nat
  | [] => 0
  | x :: r => 27 * cvr r + (x - 96)
theorem cvr_inj : ∀ l l' : List Nat, (∀ x ∈ l, 97 ≤ x ∧ x ≤ 122) → (∀ x ∈ l', 97 ≤ x ∧ x ≤ 122) → cvr l = cvr l' → l = l' := by
  intro l
  induction l with
  | nil =>
    intro l' _ h2 h
    cases l' with
    | nil => rfl
    | cons y r =>
      have := h2 y (by simp)
      simp only [cvr] at h
      omega
  | cons x r ih =>
    intro l' h1 h2 h
    cases l' with
    | nil =>
      have := h1 x (by simp)
      simp only [cvr] at h
      omega
    | cons y r' =>
      have a := h1 x (by simp)
      have b := h2 y (by simp)
      simp only [cvr] at h
      have e1 : x = y := by omega
      have e2 : cvr r = cvr r' := by omega
      rw [e1, ih r' (fun z hz => h1 z (by simp [hz])) (fun z hz => h2 z (by simp [hz])) e2]
/-- the first j bytes from p on -/
def fst (t : Nat → Nat) (p j : Nat) : List Nat := (List.range j).map (fun i => t (p + i))
theorem fst_succ (t : Nat → Nat) (p j : Nat) : (fst t p (j + 1)).reverse = t (p + j) :: (fst t p j).reverse := by
  unfold fst
  rw [List.range_succ, List.map_append, List.reverse_append]
  rfl
def cv27 (t : Nat → Nat) (p j : Nat) : Nat := cvr (fst t p (min j 6)).reverse
theorem cv27_lt (t : Nat → Nat) (p j : Nat) (ht : ∀ i, i < j → t (p + i) ≤ 122) : cv27 t p j < 387420489 := by
  unfold cv27
  have key : ∀ k, k ≤ 6 → k ≤ j → cvr (fst t p k).reverse < 27 ^ k := by
    intro k
    induction k with
    | zero => intro _ _; simp [fst, cvr]
    | succ k ih =>
      intro h1 h2
      rw [fst_succ]
      simp only [cvr]
      have := ih (by omega) (by omega)
      have := ht k (by omega)
      rw [Nat.pow_succ]
      omega
  have h := key (min j 6) (Nat.min_le_right _ _) (Nat.min_le_left _ _)
  have h2 : 27 ^ (min j 6) ≤ 27 ^ 6 := Nat.pow_le_pow_right (by decide) (Nat.min_le_right _ _)
  have h3 : 27 ^ 6 = 387420489 := by decide
  omega
theorem cv27_up {t : Nat → Nat} {p j : Nat} (h : j < 6) : cv27 t p (j + 1) = 27 * cv27 t p j + (t (p + j) - 96) := by
  unfold cv27
  rw [show min (j + 1) 6 = j + 1 by omega, show min j 6 = j by omega, fst_succ]
  rfl
theorem cv27_st {t : Nat → Nat} {p j : Nat} (h : 6 ≤ j) : cv27 t p (j + 1) = cv27 t p j := by
  unfold cv27
  rw [show min (j + 1) 6 = 6 by omega, show min j 6 = 6 by omega]
theorem wrd_fst (t : Nat → Nat) (n p : Nat) : wrd t n p = fst t p (lte t n p - p) := rfl
theorem wrd_letters (t : Nat → Nat) (n p : Nat) : ∀ x ∈ wrd t n p, 97 ≤ x ∧ x ≤ 122 := by
  intro x hx
  unfold wrd at hx
  obtain ⟨j, hj, rfl⟩ := List.mem_map.mp hx
  have hj := List.mem_range.mp hj
  have := rnn_all (q := isL) (t := t) _ n p rfl (p + j) (by omega) (by have : lte t n p = rnn isL t n p := rfl; omega)
  simpa only [isL, decide_eq_true_eq] using this
/-- what wordHere answers -/
def whr (t : Nat → Nat) (n p : Nat) : Int32 := if lte t n p - p ≤ 6 then wn (cv27 t p (lte t n p - p)) else mm
theorem whr_eq {t : Nat → Nat} {n p c : Nat} (W : List Nat) (hW : ∀ x ∈ W, 97 ≤ x ∧ x ≤ 122) (hl : W.length ≤ 6) (hc : cvr W.reverse = c) (hc2 : c < 2147483648) : whr t n p = wn c ↔ wrd t n p = W := by
  have hlen : (wrd t n p).length = lte t n p - p := by unfold wrd; simp
  have hle : ∀ i, i < lte t n p - p → t (p + i) ≤ 122 := fun i hi => (wrd_letters t n p (t (p + i)) (List.mem_map.mpr ⟨i, List.mem_range.mpr hi, rfl⟩)).2
  unfold whr
  by_cases h : lte t n p - p ≤ 6
  · have hlt := cv27_lt t p _ hle
    rw [if_pos h, wn_inj (by omega) hc2]
    have e : cv27 t p (lte t n p - p) = cvr (wrd t n p).reverse := by
      unfold cv27
      rw [show min (lte t n p - p) 6 = lte t n p - p by omega, wrd_fst]
    rw [e, ← hc]
    constructor
    · intro q
      have := cvr_inj _ _ (fun x hx => wrd_letters t n p x (List.mem_reverse.mp hx)) (fun x hx => hW x (List.mem_reverse.mp hx)) q
      exact List.reverse_inj.mp this
    · intro q; rw [q]
  · rw [if_neg h, wn_1ne hc2]
    constructor
    · intro q; exact q.elim
    · intro q; rw [q] at hlen; omega
section
variable {G : am_G} {d n p o a : Nat} {t : Nat → Nat} {post : am_O → am_G → Prop}
theorem ct164_loop (hn : n ≤ 600) (hp : p ≤ n) (hsh : Sh G) (hb : Bq G t) (e2 : am_gI G 334 2 = wn n) (e4 : am_gI G 334 4 = wn p) (k : post (.inl (some (.int (whr t n p)))) G) : ∀ (f j : Nat), n - (p + j) = f → p + j ≤ n → j ≤ lte t n p - p → lte t n (p + j) = lte t n p →
    am_W (am_C am_T (d + 1)) am_164 post 8 [some (.ref 334), some (.int (wn (cv27 t p j))), some (.int (wn j))] [] G := by
  have hc := am_C_one am_T (d + 1)
  have fin : ∀ j, lte t n p - p = j → j ≤ 600 → am_W (am_C am_T (d + 1)) am_164 post 61 [some (.ref 334), some (.int (wn (cv27 t p j))), some (.int (wn j))] [] G := by
    intro j hj hj6
    unfold whr at k
    rw [hj] at k
    by_cases c : j ≤ 6
    · rw [if_pos c] at k
      simp +decide (disch := omega) only [↓wm1, wb164_61 hc, wb164_71 hc, wb164_72 hc, w0, w1, w6, w27, w97, rI_wI, rP_wI, rL_wI, rI_wR, rP_wR, is_wI, is_wR, ia_wI, ia_wR, ow_wI, ow_wR, wn_add, wn_mul, wn_cl, wn_le, wn_lt, wn_inj, wn_ne1, wn_1ne, wn_gt1, wn_le1, nb0, nb1, am_kt, am_rt, List.cons_append, List.nil_append, true_and, and_true, not_true_eq_false, not_false_eq_true, imp_f, imp_t, implies_true, Nat.zero_add, if_true, if_false, c]
      exact k
    · rw [if_neg c] at k
      simp +decide (disch := omega) only [↓wm1, wb164_61 hc, wb164_67 hc, wb164_72 hc, w0, w1, w6, w27, w97, rI_wI, rP_wI, rL_wI, rI_wR, rP_wR, is_wI, is_wR, ia_wI, ia_wR, ow_wI, ow_wR, wn_add, wn_mul, wn_cl, wn_le, wn_lt, wn_inj, wn_ne1, wn_1ne, wn_gt1, wn_le1, nb0, nb1, am_kt, am_rt, List.cons_append, List.nil_append, true_and, and_true, not_true_eq_false, not_false_eq_true, imp_f, imp_t, implies_true, Nat.zero_add, if_true, if_false, c]
      exact k
  intro f
  induction f with
  | zero =>
    intro j hf hj hl he
    have c1 : ¬ (p + j < n ∧ isL (t (p + j)) = true) := by omega
    have e : lte t n (p + j) = p + j := rnn_end (by omega)
    rw [wb164_8 hc]
    simp +decide (disch := omega) only [↓wm1, wb164_18 hc, wb164_21 hc, w0, w1, w6, w27, w97, rI_wI, rP_wI, rL_wI, rI_wR, rP_wR, is_wI, is_wR, ia_wI, ia_wR, ow_wI, ow_wR, wn_add, wn_mul, wn_cl, wn_le, wn_lt, wn_inj, wn_ne1, wn_1ne, wn_gt1, wn_le1, nb0, nb1, am_kt, am_rt, List.cons_append, List.nil_append, true_and, and_true, not_true_eq_false, not_false_eq_true, imp_f, imp_t, implies_true, Nat.zero_add, if_true, if_false, fM hsh, e4, ct158 hsh hb hn e2, ct162 (hb.1 (p + j)), decide_eq_false c1, b01, Bool.false_eq_true, if_false]
    exact fin j (by omega) (by omega)
  | succ f ih =>
    intro j hf hj hl he
    have hx := hb.1 (p + j)
    rw [wb164_8 hc]
    by_cases a0 : isL (t (p + j)) = true
    · have a1 : 97 ≤ t (p + j) ∧ t (p + j) ≤ 122 := by simpa only [isL, decide_eq_true_eq] using a0
      have c1 : (p + j < n ∧ isL (t (p + j)) = true) := ⟨by omega, a0⟩
      have e : lte t n (p + j) = lte t n (p + (j + 1)) := rnn_go (by omega) a0
      have g := lte_ge t n (p + (j + 1))
      have := ih (j + 1) (by omega) (by omega) (by omega) (by omega)
      have e5 : byq t n (p + j) = wn (t (p + j)) := by unfold byq; rw [if_pos (by omega)]
      by_cases c6 : 6 ≤ j
      · rw [cv27_st c6] at this
        simp +decide (disch := omega) only [↓wm1, wb164_18 hc, wb164_21 hc, wb164_24 hc, wb164_53 hc, wb164_54 hc, w0, w1, w6, w27, w97, rI_wI, rP_wI, rL_wI, rI_wR, rP_wR, is_wI, is_wR, ia_wI, ia_wR, ow_wI, ow_wR, wn_add, wn_mul, wn_cl, wn_le, wn_lt, wn_inj, wn_ne1, wn_1ne, wn_gt1, wn_le1, nb0, nb1, am_kt, am_rt, List.cons_append, List.nil_append, true_and, and_true, not_true_eq_false, not_false_eq_true, imp_f, imp_t, implies_true, Nat.zero_add, if_true, if_false, fM hsh, e4, ct158 hsh hb hn e2, ct162 (hb.1 (p + j)), decide_eq_true c1, b01, if_true, c6]
        exact this
      · rw [cv27_up (by omega)] at this
        have a5 : wn (27 * cv27 t p j + t (p + j)) - wn 97 + wn 1 = wn (27 * cv27 t p j + (t (p + j) - 96)) := by
          rw [wn_sub (by omega), wn_add]
          congr 1
          omega
        rw [← a5] at this
        simp only [← wn_add] at this
        simp +decide (disch := omega) only [↓wm1, wb164_18 hc, wb164_21 hc, w0, w1, w6, w27, w97, rI_wI, rP_wI, rL_wI, rI_wR, rP_wR, is_wI, is_wR, ia_wI, ia_wR, ow_wI, ow_wR, wn_add, wn_mul, wn_cl, wn_le, wn_lt, wn_inj, wn_ne1, wn_1ne, wn_gt1, wn_le1, nb0, nb1, am_kt, am_rt, List.cons_append, List.nil_append, true_and, and_true, not_true_eq_false, not_false_eq_true, imp_f, imp_t, implies_true, Nat.zero_add, if_true, if_false, fM hsh, e4, ct158 hsh hb hn e2, ct162 (hb.1 (p + j)), decide_eq_true c1, b01, if_true]
        simp +decide (disch := omega) only [↓wm1, wb164_24 hc, wb164_30 hc, wb164_44 hc, wb164_54 hc, w0, w1, w6, w27, w97, rI_wI, rP_wI, rL_wI, rI_wR, rP_wR, is_wI, is_wR, ia_wI, ia_wR, ow_wI, ow_wR, wn_add, wn_mul, wn_cl, wn_le, wn_lt, wn_inj, wn_ne1, wn_1ne, wn_gt1, wn_le1, nb0, nb1, am_kt, am_rt, List.cons_append, List.nil_append, true_and, and_true, not_true_eq_false, not_false_eq_true, imp_f, imp_t, implies_true, Nat.zero_add, if_true, if_false, fM hsh, e4, ct158 hsh hb hn e2, c6, e5]
        simp only [wn_add] at this ⊢
        exact this
    · have a0' : isL (t (p + j)) = false := by simpa using a0
      have c1 : ¬ (p + j < n ∧ isL (t (p + j)) = true) := fun z => a0 z.2
      have e : lte t n (p + j) = p + j := rnn_no a0'
      simp +decide (disch := omega) only [↓wm1, wb164_18 hc, wb164_21 hc, w0, w1, w6, w27, w97, rI_wI, rP_wI, rL_wI, rI_wR, rP_wR, is_wI, is_wR, ia_wI, ia_wR, ow_wI, ow_wR, wn_add, wn_mul, wn_cl, wn_le, wn_lt, wn_inj, wn_ne1, wn_1ne, wn_gt1, wn_le1, nb0, nb1, am_kt, am_rt, List.cons_append, List.nil_append, true_and, and_true, not_true_eq_false, not_false_eq_true, imp_f, imp_t, implies_true, Nat.zero_add, if_true, if_false, fM hsh, e4, ct158 hsh hb hn e2, ct162 (hb.1 (p + j)), decide_eq_false c1, b01, Bool.false_eq_true, if_false]
      exact fin j (by omega) (by omega)
theorem ct164 (hsh : Sh G) (h : rQ G t n p o) (k : ∀ G', rQ G' t n p o → am_gI G' 334 4 = wn p → Kp Q4 G G' → post (.inl (some (.int (whr t n p)))) G') : am_C am_T (d + 3) 164 [.ref 334] G post := by
  have hc := am_C_one am_T (d + 2)
  rw [we164]
  simp +decide (disch := omega) only [↓wm1, wb164_0 hc, w0, w1, w6, w27, w97, rI_wI, rP_wI, rL_wI, rI_wR, rP_wR, is_wI, is_wR, ia_wI, ia_wR, ow_wI, ow_wR, wn_add, wn_mul, wn_cl, wn_le, wn_lt, wn_inj, wn_ne1, wn_1ne, wn_gt1, wn_le1, nb0, nb1, am_kt, am_rt, List.cons_append, List.nil_append, true_and, and_true, not_true_eq_false, not_false_eq_true, imp_f, imp_t, implies_true, Nat.zero_add, if_true, if_false, fM hsh]
  refine ct159r hsh h (fun G1 r1 e1 k1 => ?_)
  have h1 := hsh.kp k1
  simp +decide (disch := omega) only [↓wm1, wb164_4 hc, w0, w1, w6, w27, w97, rI_wI, rP_wI, rL_wI, rI_wR, rP_wR, is_wI, is_wR, ia_wI, ia_wR, ow_wI, ow_wR, wn_add, wn_mul, wn_cl, wn_le, wn_lt, wn_inj, wn_ne1, wn_1ne, wn_gt1, wn_le1, nb0, nb1, am_kt, am_rt, List.cons_append, List.nil_append, true_and, and_true, not_true_eq_false, not_false_eq_true, imp_f, imp_t, implies_true, Nat.zero_add, if_true, if_false]
  exact ct164_loop (d := d + 1) r1.2.1 r1.2.2.1 h1 r1.1 r1.2.2.2.2.2.2.1 e1 (k G1 r1 e1 k1) (n - (p + 0)) 0 rfl r1.2.2.1 (by omega) rfl
def six6 (a b c x y z : Nat) : Nat := if z = 0 then (if y = 0 then (if x = 0 then 27 * (27 * a + b) + c else 27 * (27 * (27 * a + b) + c) + x) else 27 * (if x = 0 then 27 * (27 * a + b) + c else 27 * (27 * (27 * a + b) + c) + x) + y) else 27 * (if y = 0 then (if x = 0 then 27 * (27 * a + b) + c else 27 * (27 * (27 * a + b) + c) + x) else 27 * (if x = 0 then 27 * (27 * a + b) + c else 27 * (27 * (27 * a + b) + c) + x) + y) + z
theorem ct165 {a b c x y z : Nat} (hx : x < 27) (hy : y < 27) (hz : z < 27) : am_C am_T (d + 1) 165 [.int (wn a), .int (wn b), .int (wn c), .int (wn x), .int (wn y), .int (wn z)] G post ↔ post (.inl (some (.int (wn (six6 a b c x y z))))) G := by
  have hc := am_C_one am_T d
  rw [we165]
  unfold six6
  by_cases c1 : x = 0
  · by_cases c2 : y = 0
    · by_cases c3 : z = 0
      · simp +decide (disch := omega) only [↓wm1, wb165_0 hc, wb165_17 hc, wb165_22 hc, wb165_29 hc, wb165_36 hc, wb165_41 hc, wb165_49 hc, wb165_56 hc, wb165_61 hc, wb165_69 hc, w0, w1, w27, rI_wI, rP_wI, rL_wI, rI_wR, rP_wR, is_wI, is_wR, ia_wI, ia_wR, ow_wI, ow_wR, wn_add, wn_mul, wn_cl, wn_le, wn_lt, wn_inj, wn_ne1, wn_1ne, wn_gt1, wn_le1, nb0, nb1, am_kt, am_rt, List.cons_append, List.nil_append, true_and, and_true, not_true_eq_false, not_false_eq_true, imp_f, imp_t, implies_true, Nat.zero_add, if_true, if_false, c1, c2, c3, if_true]
      · simp +decide (disch := omega) only [↓wm1, wb165_0 hc, wb165_17 hc, wb165_22 hc, wb165_29 hc, wb165_36 hc, wb165_41 hc, wb165_49 hc, wb165_56 hc, wb165_61 hc, wb165_69 hc, w0, w1, w27, rI_wI, rP_wI, rL_wI, rI_wR, rP_wR, is_wI, is_wR, ia_wI, ia_wR, ow_wI, ow_wR, wn_add, wn_mul, wn_cl, wn_le, wn_lt, wn_inj, wn_ne1, wn_1ne, wn_gt1, wn_le1, nb0, nb1, am_kt, am_rt, List.cons_append, List.nil_append, true_and, and_true, not_true_eq_false, not_false_eq_true, imp_f, imp_t, implies_true, Nat.zero_add, if_true, if_false, c1, c2, c3, if_true, if_false]
    · by_cases c3 : z = 0
      · simp +decide (disch := omega) only [↓wm1, wb165_0 hc, wb165_17 hc, wb165_22 hc, wb165_29 hc, wb165_36 hc, wb165_41 hc, wb165_49 hc, wb165_56 hc, wb165_61 hc, wb165_69 hc, w0, w1, w27, rI_wI, rP_wI, rL_wI, rI_wR, rP_wR, is_wI, is_wR, ia_wI, ia_wR, ow_wI, ow_wR, wn_add, wn_mul, wn_cl, wn_le, wn_lt, wn_inj, wn_ne1, wn_1ne, wn_gt1, wn_le1, nb0, nb1, am_kt, am_rt, List.cons_append, List.nil_append, true_and, and_true, not_true_eq_false, not_false_eq_true, imp_f, imp_t, implies_true, Nat.zero_add, if_true, if_false, c1, c2, c3, if_true, if_false]
      · simp +decide (disch := omega) only [↓wm1, wb165_0 hc, wb165_17 hc, wb165_22 hc, wb165_29 hc, wb165_36 hc, wb165_41 hc, wb165_49 hc, wb165_56 hc, wb165_61 hc, wb165_69 hc, w0, w1, w27, rI_wI, rP_wI, rL_wI, rI_wR, rP_wR, is_wI, is_wR, ia_wI, ia_wR, ow_wI, ow_wR, wn_add, wn_mul, wn_cl, wn_le, wn_lt, wn_inj, wn_ne1, wn_1ne, wn_gt1, wn_le1, nb0, nb1, am_kt, am_rt, List.cons_append, List.nil_append, true_and, and_true, not_true_eq_false, not_false_eq_true, imp_f, imp_t, implies_true, Nat.zero_add, if_true, if_false, c1, c2, c3, if_true, if_false]
  · by_cases c2 : y = 0
    · by_cases c3 : z = 0
      · simp +decide (disch := omega) only [↓wm1, wb165_0 hc, wb165_17 hc, wb165_22 hc, wb165_29 hc, wb165_36 hc, wb165_41 hc, wb165_49 hc, wb165_56 hc, wb165_61 hc, wb165_69 hc, w0, w1, w27, rI_wI, rP_wI, rL_wI, rI_wR, rP_wR, is_wI, is_wR, ia_wI, ia_wR, ow_wI, ow_wR, wn_add, wn_mul, wn_cl, wn_le, wn_lt, wn_inj, wn_ne1, wn_1ne, wn_gt1, wn_le1, nb0, nb1, am_kt, am_rt, List.cons_append, List.nil_append, true_and, and_true, not_true_eq_false, not_false_eq_true, imp_f, imp_t, implies_true, Nat.zero_add, if_true, if_false, c1, c2, c3, if_true, if_false]
      · simp +decide (disch := omega) only [↓wm1, wb165_0 hc, wb165_17 hc, wb165_22 hc, wb165_29 hc, wb165_36 hc, wb165_41 hc, wb165_49 hc, wb165_56 hc, wb165_61 hc, wb165_69 hc, w0, w1, w27, rI_wI, rP_wI, rL_wI, rI_wR, rP_wR, is_wI, is_wR, ia_wI, ia_wR, ow_wI, ow_wR, wn_add, wn_mul, wn_cl, wn_le, wn_lt, wn_inj, wn_ne1, wn_1ne, wn_gt1, wn_le1, nb0, nb1, am_kt, am_rt, List.cons_append, List.nil_append, true_and, and_true, not_true_eq_false, not_false_eq_true, imp_f, imp_t, implies_true, Nat.zero_add, if_true, if_false, c1, c2, c3, if_true, if_false]
    · by_cases c3 : z = 0
      · simp +decide (disch := omega) only [↓wm1, wb165_0 hc, wb165_17 hc, wb165_22 hc, wb165_29 hc, wb165_36 hc, wb165_41 hc, wb165_49 hc, wb165_56 hc, wb165_61 hc, wb165_69 hc, w0, w1, w27, rI_wI, rP_wI, rL_wI, rI_wR, rP_wR, is_wI, is_wR, ia_wI, ia_wR, ow_wI, ow_wR, wn_add, wn_mul, wn_cl, wn_le, wn_lt, wn_inj, wn_ne1, wn_1ne, wn_gt1, wn_le1, nb0, nb1, am_kt, am_rt, List.cons_append, List.nil_append, true_and, and_true, not_true_eq_false, not_false_eq_true, imp_f, imp_t, implies_true, Nat.zero_add, if_true, if_false, c1, c2, c3, if_true, if_false]
      · simp +decide (disch := omega) only [↓wm1, wb165_0 hc, wb165_17 hc, wb165_22 hc, wb165_29 hc, wb165_36 hc, wb165_41 hc, wb165_49 hc, wb165_56 hc, wb165_61 hc, wb165_69 hc, w0, w1, w27, rI_wI, rP_wI, rL_wI, rI_wR, rP_wR, is_wI, is_wR, ia_wI, ia_wR, ow_wI, ow_wR, wn_add, wn_mul, wn_cl, wn_le, wn_lt, wn_inj, wn_ne1, wn_1ne, wn_gt1, wn_le1, nb0, nb1, am_kt, am_rt, List.cons_append, List.nil_append, true_and, and_true, not_true_eq_false, not_false_eq_true, imp_f, imp_t, implies_true, Nat.zero_add, if_true, if_false, c1, c2, c3, if_true, if_false]
/-- the word W, spelled by six numbers -/
def spl (W : List Nat) (a b c x y z : Nat) : Prop := (∀ q ∈ W, 97 ≤ q ∧ q ≤ 122) ∧ W.length ≤ 6 ∧ cvr W.reverse = six6 a b c x y z ∧ six6 a b c x y z < 2147483648 ∧ x < 27 ∧ y < 27 ∧ z < 27
theorem ct166 {W : List Nat} {a b c x y z : Nat} (hW : spl W a b c x y z) (hsh : Sh G) (h : rQ G t n p o) (k : ∀ G', rQ G' t n p o → am_gI G' 334 4 = wn p → Kp Q4 G G' → post (.inl (some (.int (wn (b01 (decide (wrd t n p = W))))))) G') : am_C am_T (d + 4) 166 [.ref 334, .int (wn a), .int (wn b), .int (wn c), .int (wn x), .int (wn y), .int (wn z)] G post := by
  have hc := am_C_one am_T (d + 3)
  obtain ⟨y1, y2, y3, y4, y5, y6, y7⟩ := hW
  have e5 := h.2.2.2.2.2.2.2.2.1
  rw [we166]
  simp +decide (disch := omega) only [↓wm1, wb166_0 hc, wb166_7 hc, w0, w1, rI_wI, rP_wI, rL_wI, rI_wR, rP_wR, is_wI, is_wR, ia_wI, ia_wR, ow_wI, ow_wR, wn_add, wn_mul, wn_cl, wn_le, wn_lt, wn_inj, wn_ne1, wn_1ne, wn_gt1, wn_le1, nb0, nb1, am_kt, am_rt, List.cons_append, List.nil_append, true_and, and_true, not_true_eq_false, not_false_eq_true, imp_f, imp_t, implies_true, Nat.zero_add, if_true, if_false, fM hsh, e5]
  refine ct164 hsh h (fun G1 r1 e1 k1 => ?_)
  have kk := k G1 r1 e1 k1
  by_cases c1 : wrd t n p = W
  · have c2 : whr t n p = wn (six6 a b c x y z) := (whr_eq W y1 y2 y3 y4).mpr c1
    simp only [c1, decide_true, b01, if_true] at kk
    simp +decide (disch := omega) only [↓wm1, wb166_11 hc, wb166_23 hc, wb166_26 hc, wb166_31 hc, w0, w1, rI_wI, rP_wI, rL_wI, rI_wR, rP_wR, is_wI, is_wR, ia_wI, ia_wR, ow_wI, ow_wR, wn_add, wn_mul, wn_cl, wn_le, wn_lt, wn_inj, wn_ne1, wn_1ne, wn_gt1, wn_le1, nb0, nb1, am_kt, am_rt, List.cons_append, List.nil_append, true_and, and_true, not_true_eq_false, not_false_eq_true, imp_f, imp_t, implies_true, Nat.zero_add, if_true, if_false, ct165 y5 y6 y7, c2]
    exact kk
  · have c2 : ¬ whr t n p = wn (six6 a b c x y z) := fun q => c1 ((whr_eq W y1 y2 y3 y4).mp q)
    simp only [c1, decide_false, b01, Bool.false_eq_true, if_false] at kk
    simp +decide (disch := omega) only [↓wm1, wb166_11 hc, wb166_23 hc, wb166_30 hc, wb166_31 hc, w0, w1, rI_wI, rP_wI, rL_wI, rI_wR, rP_wR, is_wI, is_wR, ia_wI, ia_wR, ow_wI, ow_wR, wn_add, wn_mul, wn_cl, wn_le, wn_lt, wn_inj, wn_ne1, wn_1ne, wn_gt1, wn_le1, nb0, nb1, am_kt, am_rt, List.cons_append, List.nil_append, true_and, and_true, not_true_eq_false, not_false_eq_true, imp_f, imp_t, implies_true, Nat.zero_add, if_true, if_false, ct165 y5 y6 y7, c2]
    exact kk
theorem ct166f {k w : Nat} {x1 x2 x3 x4 x5 x6 : Int32} (hsh : Sh G) (h : fQ G t n k w) : am_C am_T (d + 1) 166 [.ref 334, .int x1, .int x2, .int x3, .int x4, .int x5, .int x6] G post ↔ post (.inl (some (.int (wn 0)))) G := by
  have hc := am_C_one am_T d
  obtain ⟨h1, h2, h3, h4, h5, h6, h7, h8⟩ := h
  have c : ¬ k = 0 := by omega
  rw [we166]
  simp +decide (disch := omega) only [↓wm1, wb166_0 hc, wb166_30 hc, wb166_31 hc, w0, w1, rI_wI, rP_wI, rL_wI, rI_wR, rP_wR, is_wI, is_wR, ia_wI, ia_wR, ow_wI, ow_wR, wn_add, wn_mul, wn_cl, wn_le, wn_lt, wn_inj, wn_ne1, wn_1ne, wn_gt1, wn_le1, nb0, nb1, am_kt, am_rt, List.cons_append, List.nil_append, true_and, and_true, not_true_eq_false, not_false_eq_true, imp_f, imp_t, implies_true, Nat.zero_add, if_true, if_false, fM hsh, h7, c]
theorem ct167_loop : ∀ (f a : Nat) (G : am_G), n - a = f → n ≤ 600 → a ≤ n → Sh G → Bq G t → am_gI G 334 2 = wn n → am_gI G 334 4 = wn a → (∀ G', am_gI G' 334 4 = wn (lte t n a) → Kp Q4 G G' → post (.inl none) G') → am_W (am_C am_T (d + 1)) am_167 post 0 [some (.ref 334)] [] G := by
  have hc := am_C_one am_T (d + 1)
  intro f
  induction f with
  | zero =>
    intro a G hf hn ha hsh hb e2 e4 k
    have c1 : ¬ (a < n ∧ isL (t a) = true) := by omega
    rw [wb167_0 hc]
    simp +decide (disch := omega) only [↓wm1, wb167_8 hc, wb167_11 hc, wb167_27 hc, w0, w1, rI_wI, rP_wI, rL_wI, rI_wR, rP_wR, is_wI, is_wR, ia_wI, ia_wR, ow_wI, ow_wR, wn_add, wn_mul, wn_cl, wn_le, wn_lt, wn_inj, wn_ne1, wn_1ne, wn_gt1, wn_le1, nb0, nb1, am_kt, am_rt, List.cons_append, List.nil_append, true_and, and_true, not_true_eq_false, not_false_eq_true, imp_f, imp_t, implies_true, Nat.zero_add, if_true, if_false, fM hsh, e4, ct158 hsh hb hn e2, ct162 (hb.1 a), decide_eq_false c1, b01, Bool.false_eq_true, if_false]
    exact k G (by rw [lte, rnn_end (by omega)]; exact e4) (Kp.refl G)
  | succ f ih =>
    intro a G hf hn ha hsh hb e2 e4 k
    rw [wb167_0 hc]
    by_cases a0 : isL (t a) = true
    · have c1 : (a < n ∧ isL (t a) = true) := ⟨by omega, a0⟩
      simp +decide (disch := omega) only [↓wm1, wb167_8 hc, wb167_11 hc, wb167_14 hc, w0, w1, rI_wI, rP_wI, rL_wI, rI_wR, rP_wR, is_wI, is_wR, ia_wI, ia_wR, ow_wI, ow_wR, wn_add, wn_mul, wn_cl, wn_le, wn_lt, wn_inj, wn_ne1, wn_1ne, wn_gt1, wn_le1, nb0, nb1, am_kt, am_rt, List.cons_append, List.nil_append, true_and, and_true, not_true_eq_false, not_false_eq_true, imp_f, imp_t, implies_true, Nat.zero_add, if_true, if_false, fM hsh, e4, ct158 hsh hb hn e2, ct162 (hb.1 a), decide_eq_true c1, b01, if_true]
      have k1 : Kp Q4 G (am_wI G 334 4 (wn (a + 1))) := (Kp.refl G).wI ⟨rfl, rfl⟩ _
      refine ih (a + 1) (am_wI G 334 4 (wn (a + 1))) (by omega) hn (by omega) hsh (hb.kp k1 (by rintro i ⟨z, -⟩; omega)) ?_ ?_ (fun G' e' k' => ?_)
      · rw [rI_wI, if_neg (by omega)]; exact e2
      · rw [rI_wI, if_pos ⟨rfl, rfl⟩]
      · refine k G' ?_ (k1.trans k')
        rw [e', lte, lte, rnn_go (show a < n by omega) a0]
    · have c1 : ¬ (a < n ∧ isL (t a) = true) := fun z => a0 z.2
      have a0' : isL (t a) = false := by simpa using a0
      simp +decide (disch := omega) only [↓wm1, wb167_8 hc, wb167_11 hc, wb167_27 hc, w0, w1, rI_wI, rP_wI, rL_wI, rI_wR, rP_wR, is_wI, is_wR, ia_wI, ia_wR, ow_wI, ow_wR, wn_add, wn_mul, wn_cl, wn_le, wn_lt, wn_inj, wn_ne1, wn_1ne, wn_gt1, wn_le1, nb0, nb1, am_kt, am_rt, List.cons_append, List.nil_append, true_and, and_true, not_true_eq_false, not_false_eq_true, imp_f, imp_t, implies_true, Nat.zero_add, if_true, if_false, fM hsh, e4, ct158 hsh hb hn e2, ct162 (hb.1 a), decide_eq_false c1, b01, Bool.false_eq_true, if_false]
      exact k G (by rw [lte, rnn_no a0']; exact e4) (Kp.refl G)
theorem ct167 (hsh : Sh G) (h : rQ G t n p o) (e4 : am_gI G 334 4 = wn p) (k : ∀ G', rQ G' t n (skb t n (lte t n p)) o → Kp Q4 G G' → post (.inl none) G') : am_C am_T (d + 2) 167 [.ref 334] G post := by
  rw [we167]
  refine ct167_loop (n - p) p G rfl h.2.1 h.2.2.1 hsh h.1 h.2.2.2.2.2.2.1 e4 (fun G' e' k' => k G' ?_ k')
  have g := lte_le (t := t) h.2.2.1
  exact h.at (skb_le g) (skb_idem g) g rfl e' k'
theorem ct168 {W : List Nat} {a b c x y z : Nat} (hW : spl W a b c x y z) (hsh : Sh G) (h : rQ G t n p o) (kok : ∀ G', wrd t n p = W → rQ G' t n (skb t n (lte t n p)) o → Kp Q4 G G' → post (.inl (some (.int (wn 1)))) G') (kno : ∀ G', ¬ wrd t n p = W → rQ G' t n p o → am_gI G' 334 4 = wn p → Kp Q4 G G' → post (.inl (some (.int (wn 0)))) G') : am_C am_T (d + 5) 168 [.ref 334, .int (wn a), .int (wn b), .int (wn c), .int (wn x), .int (wn y), .int (wn z)] G post := by
  have hc := am_C_one am_T (d + 4)
  rw [we168]
  simp +decide (disch := omega) only [↓wm1, wb168_0 hc, w0, w1, rI_wI, rP_wI, rL_wI, rI_wR, rP_wR, is_wI, is_wR, ia_wI, ia_wR, ow_wI, ow_wR, wn_add, wn_mul, wn_cl, wn_le, wn_lt, wn_inj, wn_ne1, wn_1ne, wn_gt1, wn_le1, nb0, nb1, am_kt, am_rt, List.cons_append, List.nil_append, true_and, and_true, not_true_eq_false, not_false_eq_true, imp_f, imp_t, implies_true, Nat.zero_add, if_true, if_false, fM hsh]
  refine ct166 hW hsh h (fun G1 r1 e1 k1 => ?_)
  have h1 := hsh.kp k1
  by_cases c1 : wrd t n p = W
  · simp only [c1, decide_true, b01, if_true]
    simp +decide (disch := omega) only [↓wm1, wb168_13 hc, wb168_20 hc, w0, w1, rI_wI, rP_wI, rL_wI, rI_wR, rP_wR, is_wI, is_wR, ia_wI, ia_wR, ow_wI, ow_wR, wn_add, wn_mul, wn_cl, wn_le, wn_lt, wn_inj, wn_ne1, wn_1ne, wn_gt1, wn_le1, nb0, nb1, am_kt, am_rt, List.cons_append, List.nil_append, true_and, and_true, not_true_eq_false, not_false_eq_true, imp_f, imp_t, implies_true, Nat.zero_add, if_true, if_false, fM h1]
    refine ct167 h1 r1 e1 (fun G2 r2 k2 => ?_)
    simp +decide (disch := omega) only [↓wm1, wb168_24 hc, w0, w1, rI_wI, rP_wI, rL_wI, rI_wR, rP_wR, is_wI, is_wR, ia_wI, ia_wR, ow_wI, ow_wR, wn_add, wn_mul, wn_cl, wn_le, wn_lt, wn_inj, wn_ne1, wn_1ne, wn_gt1, wn_le1, nb0, nb1, am_kt, am_rt, List.cons_append, List.nil_append, true_and, and_true, not_true_eq_false, not_false_eq_true, imp_f, imp_t, implies_true, Nat.zero_add, if_true, if_false]
    exact kok G2 c1 r2 (k1.trans k2)
  · simp only [c1, decide_false, b01, Bool.false_eq_true, if_false]
    simp +decide (disch := omega) only [↓wm1, wb168_13 hc, wb168_24 hc, w0, w1, rI_wI, rP_wI, rL_wI, rI_wR, rP_wR, is_wI, is_wR, ia_wI, ia_wR, ow_wI, ow_wR, wn_add, wn_mul, wn_cl, wn_le, wn_lt, wn_inj, wn_ne1, wn_1ne, wn_gt1, wn_le1, nb0, nb1, am_kt, am_rt, List.cons_append, List.nil_append, true_and, and_true, not_true_eq_false, not_false_eq_true, imp_f, imp_t, implies_true, Nat.zero_add, if_true, if_false]
    exact kno G1 c1 r1 e1 k1
/-! signs -/
theorem ct169 {c : Nat} (hsh : Sh G) (h : rQ G t n p o) (hc' : c < 128) (kok : ∀ p' G', psgn t n p c = .inr p' → rQ G' t n p' o → Kp QS G G' → post (.inl none) G') (kbad : ∀ G', psgn t n p c = .inl (1, p) → fQ G' t n 1 p → Kp QS G G' → post (.inl none) G') : am_C am_T (d + 3) 169 [.ref 334, .int (wn c)] G post := by
  have hc := am_C_one am_T (d + 2)
  have e5 := h.2.2.2.2.2.2.2.2.1
  rw [we169]
  simp +decide (disch := omega) only [↓wm1, wb169_0 hc, wb169_8 hc, w0, w1, rI_wI, rP_wI, rL_wI, rI_wR, rP_wR, is_wI, is_wR, ia_wI, ia_wR, ow_wI, ow_wR, wn_add, wn_mul, wn_cl, wn_le, wn_lt, wn_inj, wn_ne1, wn_1ne, wn_gt1, wn_le1, nb0, nb1, am_kt, am_rt, List.cons_append, List.nil_append, true_and, and_true, not_true_eq_false, not_false_eq_true, imp_f, imp_t, implies_true, Nat.zero_add, if_true, if_false, fM hsh, e5]
  refine ct159r hsh h (fun G1 r1 e1 k1 => ?_)
  have h1 := hsh.kp k1
  have hb := r1.1
  have hn := r1.2.1
  have e2 := r1.2.2.2.2.2.2.1
  have hp := r1.2.2.1
  have f5 := r1.2.2.2.2.2.2.2.2.1
  have be := byq_eq (n := n) (hb.1 p) (show c < 256 by omega)
  by_cases c1 : p < n ∧ t p = c
  · have e : psgn t n p c = .inr (skb t n (p + 1)) := by unfold psgn; rw [if_pos c1]
    have c2 := be.mpr c1
    simp +decide (disch := omega) only [↓wm1, wb169_12 hc, wb169_20 hc, wb169_24 hc, wb169_46 hc, w0, w1, rI_wI, rP_wI, rL_wI, rI_wR, rP_wR, is_wI, is_wR, ia_wI, ia_wR, ow_wI, ow_wR, wn_add, wn_mul, wn_cl, wn_le, wn_lt, wn_inj, wn_ne1, wn_1ne, wn_gt1, wn_le1, nb0, nb1, am_kt, am_rt, List.cons_append, List.nil_append, true_and, and_true, not_true_eq_false, not_false_eq_true, imp_f, imp_t, implies_true, Nat.zero_add, if_true, if_false, fM h1, e1, ct158 h1 hb hn e2, c2]
    have k2 : Kp Q4 G1 (am_wI G1 334 4 (wn (p + 1))) := (Kp.refl G1).wI ⟨rfl, rfl⟩ _
    exact kok _ _ e (r1.at (skb_le (by omega)) (skb_idem (by omega)) (by omega) rfl (by rw [rI_wI, if_pos ⟨rfl, rfl⟩]) k2) (k1.q4.trans k2.q4)
  · have e : psgn t n p c = .inl (1, p) := by unfold psgn; rw [if_neg c1]
    have c2 : ¬ byq t n p = wn c := fun z => c1 (be.mp z)
    simp +decide (disch := omega) only [↓wm1, wb169_12 hc, wb169_20 hc, wb169_37 hc, wb169_46 hc, w0, w1, rI_wI, rP_wI, rL_wI, rI_wR, rP_wR, is_wI, is_wR, ia_wI, ia_wR, ow_wI, ow_wR, wn_add, wn_mul, wn_cl, wn_le, wn_lt, wn_inj, wn_ne1, wn_1ne, wn_gt1, wn_le1, nb0, nb1, am_kt, am_rt, List.cons_append, List.nil_append, true_and, and_true, not_true_eq_false, not_false_eq_true, imp_f, imp_t, implies_true, Nat.zero_add, if_true, if_false, fM h1, e1, ct158 h1 hb hn e2, c2, ct160 h1 f5]
    exact kbad _ e (fQ_of r1 (by decide)) (k1.q4.trans (kp_q G1 1 p))
theorem ct169f {k w : Nat} {x : Int32} (hsh : Sh G) (h : fQ G t n k w) : am_C am_T (d + 1) 169 [.ref 334, .int x] G post ↔ post (.inl none) G := by
  have hc := am_C_one am_T d
  obtain ⟨h1, h2, h3, h4, h5, h6, h7, h8⟩ := h
  have c : ¬ k = 0 := by omega
  rw [we169]
  simp +decide (disch := omega) only [↓wm1, wb169_0 hc, wb169_7 hc, w0, w1, rI_wI, rP_wI, rL_wI, rI_wR, rP_wR, is_wI, is_wR, ia_wI, ia_wR, ow_wI, ow_wR, wn_add, wn_mul, wn_cl, wn_le, wn_lt, wn_inj, wn_ne1, wn_1ne, wn_gt1, wn_le1, nb0, nb1, am_kt, am_rt, List.cons_append, List.nil_append, true_and, and_true, not_true_eq_false, not_false_eq_true, imp_f, imp_t, implies_true, Nat.zero_add, if_true, if_false, fM hsh, h7, c]
theorem ct170 {c : Nat} (hsh : Sh G) (h : rQ G t n p o) (hc' : c < 128) (kok : ∀ p' G', psgn t n p c = .inr p' → rQ G' t n p' o → Kp Q4 G G' → post (.inl (some (.int (wn 1)))) G') (kno : ∀ G', psgn t n p c = .inl (1, p) → rQ G' t n p o → Kp Q4 G G' → post (.inl (some (.int (wn 0)))) G') : am_C am_T (d + 3) 170 [.ref 334, .int (wn c)] G post := by
  have hc := am_C_one am_T (d + 2)
  have e5 := h.2.2.2.2.2.2.2.2.1
  rw [we170]
  simp +decide (disch := omega) only [↓wm1, wb170_0 hc, wb170_9 hc, w0, w1, rI_wI, rP_wI, rL_wI, rI_wR, rP_wR, is_wI, is_wR, ia_wI, ia_wR, ow_wI, ow_wR, wn_add, wn_mul, wn_cl, wn_le, wn_lt, wn_inj, wn_ne1, wn_1ne, wn_gt1, wn_le1, nb0, nb1, am_kt, am_rt, List.cons_append, List.nil_append, true_and, and_true, not_true_eq_false, not_false_eq_true, imp_f, imp_t, implies_true, Nat.zero_add, if_true, if_false, fM hsh, e5]
  refine ct159r hsh h (fun G1 r1 e1 k1 => ?_)
  have h1 := hsh.kp k1
  have hb := r1.1
  have hn := r1.2.1
  have e2 := r1.2.2.2.2.2.2.1
  have hp := r1.2.2.1
  have be := byq_eq (n := n) (hb.1 p) (show c < 256 by omega)
  by_cases c1 : p < n ∧ t p = c
  · have e : psgn t n p c = .inr (skb t n (p + 1)) := by unfold psgn; rw [if_pos c1]
    have c2 := be.mpr c1
    simp +decide (disch := omega) only [↓wm1, wb170_13 hc, wb170_21 hc, wb170_25 hc, wb170_30 hc, wb170_35 hc, wb170_45 hc, w0, w1, rI_wI, rP_wI, rL_wI, rI_wR, rP_wR, is_wI, is_wR, ia_wI, ia_wR, ow_wI, ow_wR, wn_add, wn_mul, wn_cl, wn_le, wn_lt, wn_inj, wn_ne1, wn_1ne, wn_gt1, wn_le1, nb0, nb1, am_kt, am_rt, List.cons_append, List.nil_append, true_and, and_true, not_true_eq_false, not_false_eq_true, imp_f, imp_t, implies_true, Nat.zero_add, if_true, if_false, fM h1, e1, ct158 h1 hb hn e2, c2]
    have k2 : Kp Q4 G1 (am_wI G1 334 4 (wn (p + 1))) := (Kp.refl G1).wI ⟨rfl, rfl⟩ _
    exact kok _ _ e (r1.at (skb_le (by omega)) (skb_idem (by omega)) (by omega) rfl (by rw [rI_wI, if_pos ⟨rfl, rfl⟩]) k2) (k1.trans k2)
  · have e : psgn t n p c = .inl (1, p) := by unfold psgn; rw [if_neg c1]
    have c2 : ¬ byq t n p = wn c := fun z => c1 (be.mp z)
    simp +decide (disch := omega) only [↓wm1, wb170_13 hc, wb170_21 hc, wb170_29 hc, wb170_30 hc, wb170_45 hc, w0, w1, rI_wI, rP_wI, rL_wI, rI_wR, rP_wR, is_wI, is_wR, ia_wI, ia_wR, ow_wI, ow_wR, wn_add, wn_mul, wn_cl, wn_le, wn_lt, wn_inj, wn_ne1, wn_1ne, wn_gt1, wn_le1, nb0, nb1, am_kt, am_rt, List.cons_append, List.nil_append, true_and, and_true, not_true_eq_false, not_false_eq_true, imp_f, imp_t, implies_true, Nat.zero_add, if_true, if_false, fM h1, e1, ct158 h1 hb hn e2, c2]
    exact kno _ e r1 k1
theorem ct171 (hsh : Sh G) (hb : Bq G t) (hn : n ≤ 600) (k : ∀ G', rQ G' t n (skb t n 0) 0 → am_gI G' 334 4 = wn (skb t n 0) → am_gI G' 334 7 = wn 0 → am_gI G' 334 6 = mm → Kp (fun a i => a = 334 ∧ 1 ≤ i ∧ i ≤ 8 ∧ i ≠ 3) G G' → post (.inl none) G') : am_C am_T (d + 3) 171 [.ref 334, .int (wn n)] G post := by
  have hc := am_C_one am_T (d + 2)
  rw [we171]
  simp +decide (disch := omega) only [↓wm1, wb171_0 hc, w0, w1, rI_wI, rP_wI, rL_wI, rI_wR, rP_wR, is_wI, is_wR, ia_wI, ia_wR, ow_wI, ow_wR, wn_add, wn_mul, wn_cl, wn_le, wn_lt, wn_inj, wn_ne1, wn_1ne, wn_gt1, wn_le1, nb0, nb1, am_kt, am_rt, List.cons_append, List.nil_append, true_and, and_true, not_true_eq_false, not_false_eq_true, imp_f, imp_t, implies_true, Nat.zero_add, if_true, if_false, fM hsh]
  generalize hG1 : am_wI (am_wI (am_wI (am_wI (am_wI (am_wI (am_wI G 334 1 (wn 0)) 334 2 (wn n)) 334 4 (wn 0)) 334 5 (wn 0)) 334 6 mm) 334 7 (wn 0)) 334 8 (wn 0) = G1
  have k1 : Kp (fun a i => a = 334 ∧ 1 ≤ i ∧ i ≤ 8 ∧ i ≠ 3) G G1 := by
    rw [← hG1]
    exact (((((((Kp.refl G).wI ⟨rfl, by decide, by decide, by decide⟩ _).wI ⟨rfl, by decide, by decide, by decide⟩ _).wI ⟨rfl, by decide, by decide, by decide⟩ _).wI ⟨rfl, by decide, by decide, by decide⟩ _).wI ⟨rfl, by decide, by decide, by decide⟩ _).wI ⟨rfl, by decide, by decide, by decide⟩ _).wI ⟨rfl, by decide, by decide, by decide⟩ _
  have q1 : am_gI G1 334 1 = wn 0 := by rw [← hG1]; simp [rI_wI]
  have q2 : am_gI G1 334 2 = wn n := by rw [← hG1]; simp [rI_wI]
  have q4 : am_gI G1 334 4 = wn 0 := by rw [← hG1]; simp [rI_wI]
  have q5 : am_gI G1 334 5 = wn 0 := by rw [← hG1]; simp [rI_wI]
  have q6 : am_gI G1 334 6 = mm := by rw [← hG1]; simp [rI_wI]
  have q7 : am_gI G1 334 7 = wn 0 := by rw [← hG1]; simp [rI_wI]
  have q8 : am_gI G1 334 8 = wn 0 := by rw [← hG1]; simp [rI_wI]
  have r1 : rQ G1 t n (skb t n 0) 0 := ⟨hb.kp k1 (by rintro i ⟨z, -⟩; omega), hn, skb_le (by omega), skb_idem (by omega), by decide, q1, q2, ⟨0, by omega, rfl, q4⟩, q5, q8⟩
  refine ct159r (hsh.kp k1) r1 (fun G2 r2 e2 k2 => ?_)
  simp +decide (disch := omega) only [↓wm1, wb171_39 hc, w0, w1, rI_wI, rP_wI, rL_wI, rI_wR, rP_wR, is_wI, is_wR, ia_wI, ia_wR, ow_wI, ow_wR, wn_add, wn_mul, wn_cl, wn_le, wn_lt, wn_inj, wn_ne1, wn_1ne, wn_gt1, wn_le1, nb0, nb1, am_kt, am_rt, List.cons_append, List.nil_append, true_and, and_true, not_true_eq_false, not_false_eq_true, imp_f, imp_t, implies_true, Nat.zero_add, if_true, if_false]
  refine k G2 r2 e2 ?_ ?_ (k1.trans (k2.mono ?_))
  · rw [k2.i (by rintro ⟨-, z⟩; omega)]; exact q7
  · rw [k2.i (by rintro ⟨-, z⟩; omega)]; exact q6
  · rintro a i ⟨rfl, rfl⟩; exact ⟨rfl, by decide, by decide, by decide⟩
theorem ct172 {k w : Nat} (hsh : Sh G) (h : fQ G t n k w) : am_C am_T (d + 1) 172 [.ref 334] G post ↔ post (.inl (some (.int (wn k - wn 10)))) (am_wI G 334 3 (wn w)) := by
  have hc := am_C_one am_T d
  obtain ⟨h1, h2, h3, h4, h5, h6, h7, h8⟩ := h
  rw [we172]
  simp +decide (disch := omega) only [↓wm1, wb172_0 hc, w0, w1, w10, rI_wI, rP_wI, rL_wI, rI_wR, rP_wR, is_wI, is_wR, ia_wI, ia_wR, ow_wI, ow_wR, wn_add, wn_mul, wn_cl, wn_le, wn_lt, wn_inj, wn_ne1, wn_1ne, wn_gt1, wn_le1, nb0, nb1, am_kt, am_rt, List.cons_append, List.nil_append, true_and, and_true, not_true_eq_false, not_false_eq_true, imp_f, imp_t, implies_true, Nat.zero_add, if_true, if_false, fM hsh, h7, h8]
end
