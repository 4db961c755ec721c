/-! The constructors (gen97s.py): a memory that grows. -/
def lkp : List (Nat × Nat × Nat) → Nat → Nat → Nat
  | [], _, _ => am_null
  | q :: P, a, i => if a = q.1 ∧ i = q.2.1 then q.2.2 else lkp P a i
/-- kinds and sizes k, N of them, u slots, pointers P, ints f -/
def Mk (G0 G : am_G) (k : List (Nat × Nat)) (N u : Nat) (P : List (Nat × Nat × Nat)) (f : Nat → Nat → Int32) : Prop :=
  am_K G = k ∧ k.length = N ∧ am_us G = u ∧ am_sl G = am_sl G0 ∧ (∀ a i, a < N → am_gP G a i = lkp P a i) ∧ (∀ a i, a < N → am_gI G a i = f a i) ∧ (∀ a i, 100000 ≤ a → am_gI G a i = am_gI G0 a i) ∧ (∀ q ∈ P, q.1 < N) ∧ ∀ a i, N ≤ a → f a i = 0
theorem lkp_hi {N a i : Nat} : ∀ (P : List (Nat × Nat × Nat)), (∀ q ∈ P, q.1 < N) → N ≤ a → lkp P a i = am_null := by
  intro P
  induction P with
  | nil => intro _ _; rfl
  | cons q P ih =>
    intro h ha
    have := h q (List.mem_cons_self ..)
    simp only [lkp]
    rw [if_neg (by omega)]
    exact ih (fun x hx => h x (List.mem_cons_of_mem _ hx)) ha
def p2 (N : Nat) : Nat → List (Nat × Nat × Nat) → List (Nat × Nat × Nat)
  | 0, P => P
  | n + 1, P => (N, n, N + 1 + n) :: p2 N n P
theorem lkp_p2 {N a i : Nat} {P : List (Nat × Nat × Nat)} : ∀ n, lkp (p2 N n P) a i = if a = N ∧ i < n then N + 1 + i else lkp P a i := by
  intro n
  induction n with
  | zero => rw [if_neg (by omega)]; rfl
  | succ n ih =>
    simp only [p2, lkp]
    by_cases c : a = N ∧ i = n
    · rw [if_pos c, if_pos ⟨c.1, by omega⟩, c.2]
    · rw [if_neg c, ih]
      by_cases c2 : a = N ∧ i < n
      · rw [if_pos c2, if_pos ⟨c2.1, by omega⟩]
      · rw [if_neg c2, if_neg (by omega)]
theorem p2_lt {N M : Nat} {P : List (Nat × Nat × Nat)} (h : ∀ q ∈ P, q.1 < M) (hN : N < M) : ∀ n, ∀ q ∈ p2 N n P, q.1 < M := by
  intro n
  induction n with
  | zero => exact h
  | succ n ih =>
    intro q hq
    simp only [p2, List.mem_cons] at hq
    rcases hq with rfl | hq
    · exact hN
    · exact ih q hq
theorem gap {k l : List (Nat × Nat)} {a : Nat} {x : Nat × Nat} (h : k[a]? = some x) : (k ++ l)[a]? = some x := by
  rw [List.getElem?_append_left (List.getElem?_eq_some_iff.mp h).1]; exact h
theorem gnew {k : List (Nat × Nat)} {N : Nat} {x : Nat × Nat} (h : k.length = N) : (k ++ [x])[N]? = some x := by
  rw [← h, List.getElem?_append_right (Nat.le_refl _), Nat.sub_self]; rfl
theorem rm_wP (G : am_G) (a i v c s : Nat) : am_rm (am_wP G a i v) c s = am_rm G c s := rfl
theorem w873 : (873 : Int32) = wn 873 := rfl
theorem w896 : (896 : Int32) = wn 896 := rfl
theorem w1633 : (1633 : Int32) = wn 1633 := rfl
theorem w1001 : (1001 : Int32) = wn 1001 := rfl
theorem w1002 : (1002 : Int32) = wn 1002 := rfl
theorem w1004 : (1004 : Int32) = wn 1004 := rfl
section
variable {G0 G : am_G} {k : List (Nat × Nat)} {N u : Nat} {P : List (Nat × Nat × Nat)} {f : Nat → Nat → Int32}
theorem Mk.len (M : Mk G0 G k N u P f) : (am_K G).length = N := by rw [M.1]; exact M.2.1
theorem Mk.rm (M : Mk G0 G k N u P f) : ∀ c s, N + c ≤ 90000 → u + s ≤ 7200000 → am_rm G c s := fun c s h1 h2 => ⟨by rw [M.len]; exact h1, by rw [M.2.2.1]; exact h2⟩
theorem Mk.is (M : Mk G0 G k N u P f) {a c n : Nat} (h : k[a]? = some (c, n)) : am_is G a c := ⟨n, by rw [M.1]; exact h⟩
theorem Mk.lt (M : Mk G0 G k N u P f) {a : Nat} {x : Nat × Nat} (h : k[a]? = some x) : a < N := by rw [← M.2.1]; exact (List.getElem?_eq_some_iff.mp h).1
theorem Mk.ow (M : Mk G0 G k N u P f) {a c n : Nat} (h : k[a]? = some (c, n)) (hn : n < 2147483648) : ∀ j, j < n → am_ow G a (wn j) c := fun j hj => ⟨n, by rw [M.1]; exact h, wn_in hj hn⟩
theorem Mk.ia (M : Mk G0 G k N u P f) {a n : Nat} (h : k[a]? = some (100, n)) (hn : n < 2147483648) : ∀ j, j < n → am_ia G a (wn j) := fun j hj => Or.inl (M.ow h hn j hj)
theorem Mk.gP (M : Mk G0 G k N u P f) {a : Nat} (h : a < N) (i : Nat) : am_gP G a i = lkp P a i := M.2.2.2.2.1 a i h
theorem Mk.gI (M : Mk G0 G k N u P f) {a : Nat} (h : a < N) (i : Nat) : am_gI G a i = f a i := M.2.2.2.2.2.1 a i h
theorem Mk.nw (M : Mk G0 G k N u P f) (c n : Nat) (hN : N < 90000) : Mk G0 (am_nw G c n) (k ++ [(c, n)]) (N + 1) (u + n) P f := by
  have hl := M.len
  obtain ⟨m1, m2, m3, m4, m5, m6, m7, m8, m9⟩ := M
  refine ⟨by rw [nw_K, m1], by rw [List.length_append, m2]; rfl, by rw [← m3]; rfl, m4, fun a i ha => ?_, fun a i ha => ?_, fun a i ha => ?_, fun q hq => by have := m8 q hq; omega, fun a i ha => m9 a i (by omega)⟩
  · by_cases e : a = N
    · rw [lkp_hi P m8 (by omega)]
      show (if a = (am_K G).length then am_null else _) = _
      rw [if_pos (by omega)]
    · rw [nw_P (by omega)]; exact m5 a i (by omega)
  · by_cases e : a = N
    · rw [m9 a i (by omega)]
      show (if a = (am_K G).length then 0 else _) = _
      rw [if_pos (by omega)]
    · rw [nw_I (by omega)]; exact m6 a i (by omega)
  · rw [nw_I (by omega)]; exact m7 a i ha
theorem Mk.n2 (M : Mk G0 G k N u P f) (n m : Nat) (hN : N + 1 + n < 90000) : Mk G0 (am_n2 G n m) (k ++ (102, n) :: List.replicate n (100, m)) (N + 1 + n) (u + n + n * m) (p2 N n P) f := by
  have hl := M.len
  obtain ⟨m1, m2, m3, m4, m5, m6, m7, m8, m9⟩ := M
  refine ⟨by show am_K G ++ _ = _; rw [m1], by rw [List.length_append, m2, List.length_cons, List.length_replicate]; omega, by rw [← m3]; rfl, m4, fun a i ha => ?_, fun a i ha => ?_, fun a i ha => ?_, p2_lt (fun q hq => by have := m8 q hq; omega) (by omega) n, fun a i ha => m9 a i (by omega)⟩
  · rw [lkp_p2]
    show (if a = (am_K G).length then (if i < n then (am_K G).length + 1 + i else am_null) else if (am_K G).length ≤ a ∧ a < (am_K G).length + 1 + n then am_null else am_gP G a i) = _
    rw [hl]
    by_cases e : a = N
    · rw [if_pos e]
      by_cases c : i < n
      · rw [if_pos c, if_pos ⟨e, c⟩]
      · rw [if_neg c, if_neg (fun z => c z.2), lkp_hi P m8 (by omega)]
    · rw [if_neg e]
      by_cases c : N ≤ a
      · rw [if_pos ⟨c, ha⟩, if_neg (fun z => e z.1), lkp_hi P m8 c]
      · rw [if_neg (fun z => c z.1), if_neg (fun z => e z.1)]; exact m5 a i (by omega)
  · show (if (am_K G).length ≤ a ∧ a < (am_K G).length + 1 + n then 0 else am_gI G a i) = _
    rw [hl]
    by_cases c : N ≤ a
    · rw [if_pos ⟨c, ha⟩, m9 a i c]
    · rw [if_neg (fun z => c z.1)]; exact m6 a i (by omega)
  · show (if (am_K G).length ≤ a ∧ a < (am_K G).length + 1 + n then 0 else am_gI G a i) = _
    rw [if_neg (by omega)]; exact m7 a i ha
theorem Mk.wP (M : Mk G0 G k N u P f) {a : Nat} (i v : Nat) (ha : a < N) : Mk G0 (am_wP G a i v) k N u ((a, i, v) :: P) f := by
  obtain ⟨m1, m2, m3, m4, m5, m6, m7, m8, m9⟩ := M
  refine ⟨m1, m2, m3, m4, fun b j hb => ?_, m6, m7, fun q hq => ?_, m9⟩
  · rw [rP_wP]
    simp only [lkp]
    by_cases c : b = a ∧ j = i
    · rw [if_pos c, if_pos c]
    · rw [if_neg c, if_neg c]; exact m5 b j hb
  · rw [List.mem_cons] at hq
    rcases hq with rfl | hq
    · exact ha
    · exact m8 q hq
theorem Mk.wI (M : Mk G0 G k N u P f) {a : Nat} (i : Nat) (v : Int32) (ha : a < N) (hN : N ≤ 90000) : Mk G0 (am_wI G a i v) k N u P (fun b j => if b = a ∧ j = i then v else f b j) := by
  obtain ⟨m1, m2, m3, m4, m5, m6, m7, m8, m9⟩ := M
  refine ⟨m1, m2, m3, m4, m5, fun b j hb => ?_, fun b j hb => ?_, m8, fun b j hb => ?_⟩
  · rw [rI_wI, m6 b j hb]
  · rw [rI_wI, if_neg (by omega)]; exact m7 b j hb
  · show (if b = a ∧ j = i then v else f b j) = 0
    rw [if_neg (by omega)]; exact m9 b j hb
theorem Mk.cg {f' : Nat → Nat → Int32} (M : Mk G0 G k N u P f) (h : ∀ a i, f' a i = f a i) : Mk G0 G k N u P f' := by
  have : f' = f := funext fun a => funext fun i => h a i
  rw [this]; exact M
theorem Mk.wI0 (M : Mk G0 G k N u P f) {a i : Nat} {v : Int32} (ha : a < N) (hN : N ≤ 90000) (hv : f a i = v) : Mk G0 (am_wI G a i v) k N u P f := by
  refine (M.wI i v ha hN).cg (fun b j => ?_)
  by_cases c : b = a ∧ j = i
  · rw [if_pos c, c.1, c.2, hv]
  · rw [if_neg c]
/-- Arrays.fill -/
def flF (f : Nat → Nat → Int32) (A n : Nat) (v : Int32) : Nat → Nat → Int32 := fun b j => if b = A ∧ j < n then v else f b j
theorem ct279c {d A n : Nat} {v : Int32} {post : am_O → am_G → Prop} (M : Mk G0 G k N u P f) (hA : k[A]? = some (100, n)) (hn : n < 10000) (hN : N ≤ 90000) (kk : ∀ G', Mk G0 G' k N u P (flF f A n v) → post (.inl none) G') : am_C am_T (d + 1) 279 [.ref A, .int v] G post := by
  have hc := am_C_one am_T d
  have al : am_al G A := Or.inl ⟨100, n, by rw [M.1]; exact hA, by decide, by decide⟩
  have ln : am_ln G A = n := by unfold am_ln; rw [M.1, hA]
  rw [we279]
  simp +decide (disch := omega) only [↓wm1, wb279_0 hc, w0, w1, rI_wI, rP_wI, rL_wI, rI_wR, rP_wR, is_wI, is_wR, ia_wI, ia_wR, ow_wI, ow_wR, wn_add, wn_mul, wn_cl, wn_le, wn_lt, wn_inj, wn_ne1, wn_1ne, wn_gt1, wn_le1, nb0, nb1, am_kt, am_rt, List.cons_append, List.nil_append, true_and, and_true, not_true_eq_false, not_false_eq_true, imp_f, imp_t, implies_true, Nat.zero_add, if_true, if_false, false_and, and_false, al, ln, ofN]
  refine am_for n (fun j ls G' => Mk G0 G' k N u P (flF f A j v) ∧ ls = [some (.ref A), some (.int v), some (.int (wn j)), some (.int (wn n))]) ?_ ?_ n 0 (by omega) _ _ ⟨M.cg (fun a i => by unfold flF; rw [if_neg (by omega)]), rfl⟩
  · rintro j hj _ G1 ⟨M1, rfl⟩ nx
    have c1 : ¬ n ≤ j := by omega
    rw [wb279_5 hc]
    simp +decide (disch := omega) only [↓wm1, wb279_10 hc, w0, w1, rI_wI, rP_wI, rL_wI, rI_wR, rP_wR, is_wI, is_wR, ia_wI, ia_wR, ow_wI, ow_wR, wn_add, wn_mul, wn_cl, wn_le, wn_lt, wn_inj, wn_ne1, wn_1ne, wn_gt1, wn_le1, nb0, nb1, am_kt, am_rt, List.cons_append, List.nil_append, true_and, and_true, not_true_eq_false, not_false_eq_true, imp_f, imp_t, implies_true, Nat.zero_add, if_true, if_false, false_and, and_false, c1, M1.ow hA (by omega), hj]
    refine nx _ _ ⟨(M1.wI j v (M.lt hA) hN).cg (fun a i => ?_), rfl⟩
    unfold flF
    by_cases c : a = A ∧ i = j
    · rw [if_pos c, if_pos ⟨c.1, by omega⟩]
    · rw [if_neg c]
      by_cases c2 : a = A ∧ i < j
      · rw [if_pos c2, if_pos ⟨c2.1, by omega⟩]
      · rw [if_neg c2, if_neg (by omega)]
  · rintro _ G1 ⟨M1, rfl⟩
    rw [wb279_5 hc]
    simp +decide (disch := omega) only [↓wm1, wb279_20 hc, w0, w1, rI_wI, rP_wI, rL_wI, rI_wR, rP_wR, is_wI, is_wR, ia_wI, ia_wR, ow_wI, ow_wR, wn_add, wn_mul, wn_cl, wn_le, wn_lt, wn_inj, wn_ne1, wn_1ne, wn_gt1, wn_le1, nb0, nb1, am_kt, am_rt, List.cons_append, List.nil_append, true_and, and_true, not_true_eq_false, not_false_eq_true, imp_f, imp_t, implies_true, Nat.zero_add, if_true, if_false, false_and, and_false, Nat.le_refl]
    exact kk G1 M1
def K45 (k : List (Nat × Nat)) : List (Nat × Nat) := (((k ++ [(100, 6)]) ++ [(100, 6)]) ++ [(100, 70)])
def P45 (a N : Nat) (P : List (Nat × Nat × Nat)) : List (Nat × Nat × Nat) := (a, 6, N + 2) :: (a, 5, N + 1) :: (a, 4, N) :: P
theorem ct45c {d a : Nat} {post : am_O → am_G → Prop} (M : Mk G0 G k N u P f) (ha : k[a]? = some (7, 7)) (hN : N ≤ 80000) (hu : u ≤ 7000000) (kk : ∀ G', Mk G0 G' (K45 k) (N + 3) (u + 82) (P45 a N P) f → post (.inl none) G') : am_C am_T (d + 1) 45 [.ref a] G post := by
  have hc := am_C_one am_T d
  have aN := M.lt ha
  have a9 : a < 90000 := by omega
  have n0 : N < 90000 := by omega
  have n1 : N + 1 < 90000 := by omega
  have n2 : N + 2 < 90000 := by omega
  rw [we45]
  simp +decide (disch := omega) only [↓wm1, wb45_0 hc, w0, w1, w6, w70, rI_wI, rP_wI, rL_wI, rI_wR, rP_wR, is_wI, is_wR, ia_wI, ia_wR, ow_wI, ow_wR, wn_add, wn_mul, wn_cl, wn_le, wn_lt, wn_inj, wn_ne1, wn_1ne, wn_gt1, wn_le1, nb0, nb1, am_kt, am_rt, List.cons_append, List.nil_append, true_and, and_true, not_true_eq_false, not_false_eq_true, imp_f, imp_t, implies_true, Nat.zero_add, if_true, if_false, false_and, and_false, a9, n0, M.is ha, M.rm, M.len, rK_wP, rm_wP, w873, w896, w1633]
  have M0 : Mk G0 (am_nw G 100 6) (k ++ [(100, 6)]) (N + 1) (u + 6) P f := M.nw 100 6 (by omega)
  have h0 : (k ++ [(100, 6)])[a]? = some (7, 7) := gap ha
  generalize am_nw G 100 6 = G1 at M0 ⊢
  simp +decide (disch := omega) only [↓wm1, wb45_9 hc, w0, w1, w6, w70, rI_wI, rP_wI, rL_wI, rI_wR, rP_wR, is_wI, is_wR, ia_wI, ia_wR, ow_wI, ow_wR, wn_add, wn_mul, wn_cl, wn_le, wn_lt, wn_inj, wn_ne1, wn_1ne, wn_gt1, wn_le1, nb0, nb1, am_kt, am_rt, List.cons_append, List.nil_append, true_and, and_true, not_true_eq_false, not_false_eq_true, imp_f, imp_t, implies_true, Nat.zero_add, if_true, if_false, false_and, and_false, a9, n0, M0.is h0, M0.rm, M0.len, rK_wP, rm_wP, w873, w896, w1633, n0]
  have M1 : Mk G0 (am_nw (am_wP G1 a 4 N) 100 6) ((k ++ [(100, 6)]) ++ [(100, 6)]) (N + 2) (u + 12) ((a, 4, N) :: P) f := (M0.wP 4 (N) (by omega)).nw 100 6 (by omega)
  have h1 : ((k ++ [(100, 6)]) ++ [(100, 6)])[a]? = some (7, 7) := gap h0
  generalize am_nw (am_wP G1 a 4 N) 100 6 = G2 at M1 ⊢
  simp +decide (disch := omega) only [↓wm1, wb45_17 hc, w0, w1, w6, w70, rI_wI, rP_wI, rL_wI, rI_wR, rP_wR, is_wI, is_wR, ia_wI, ia_wR, ow_wI, ow_wR, wn_add, wn_mul, wn_cl, wn_le, wn_lt, wn_inj, wn_ne1, wn_1ne, wn_gt1, wn_le1, nb0, nb1, am_kt, am_rt, List.cons_append, List.nil_append, true_and, and_true, not_true_eq_false, not_false_eq_true, imp_f, imp_t, implies_true, Nat.zero_add, if_true, if_false, false_and, and_false, a9, n0, M1.is h1, M1.rm, M1.len, rK_wP, rm_wP, w873, w896, w1633, n1]
  have M2 : Mk G0 (am_nw (am_wP G2 a 5 (N + 1)) 100 70) (((k ++ [(100, 6)]) ++ [(100, 6)]) ++ [(100, 70)]) (N + 3) (u + 82) ((a, 5, N + 1) :: ((a, 4, N) :: P)) f := (M1.wP 5 (N + 1) (by omega)).nw 100 70 (by omega)
  have h2 : (((k ++ [(100, 6)]) ++ [(100, 6)]) ++ [(100, 70)])[a]? = some (7, 7) := gap h1
  generalize am_nw (am_wP G2 a 5 (N + 1)) 100 70 = G3 at M2 ⊢
  simp +decide (disch := omega) only [↓wm1, wb45_25 hc, w0, w1, w6, w70, rI_wI, rP_wI, rL_wI, rI_wR, rP_wR, is_wI, is_wR, ia_wI, ia_wR, ow_wI, ow_wR, wn_add, wn_mul, wn_cl, wn_le, wn_lt, wn_inj, wn_ne1, wn_1ne, wn_gt1, wn_le1, nb0, nb1, am_kt, am_rt, List.cons_append, List.nil_append, true_and, and_true, not_true_eq_false, not_false_eq_true, imp_f, imp_t, implies_true, Nat.zero_add, if_true, if_false, false_and, and_false, a9, n0, M2.is h2, M2.rm, M2.len, rK_wP, rm_wP, w873, w896, w1633, n2]
  exact kk _ (M2.wP 6 (N + 2) (by omega))
def K9 (k : List (Nat × Nat)) : List (Nat × Nat) := (((((((k ++ [(100, 6)]) ++ [(100, 6)]) ++ [(100, 7)]) ++ [(100, 7)]) ++ [(100, 8)]) ++ [(100, 8)]) ++ [(100, 8)])
def P9 (a N : Nat) (P : List (Nat × Nat × Nat)) : List (Nat × Nat × Nat) := (a, 9, N + 6) :: (a, 8, N + 5) :: (a, 7, N + 4) :: (a, 5, N + 3) :: (a, 4, N + 2) :: (a, 2, N + 1) :: (a, 1, N) :: P
theorem ct9c {d a : Nat} {post : am_O → am_G → Prop} (M : Mk G0 G k N u P f) (ha : k[a]? = some (2, 11)) (hN : N ≤ 80000) (hu : u ≤ 7000000) (kk : ∀ G', Mk G0 G' (K9 k) (N + 7) (u + 50) (P9 a N P) f → post (.inl none) G') : am_C am_T (d + 1) 9 [.ref a] G post := by
  have hc := am_C_one am_T d
  have aN := M.lt ha
  have a9 : a < 90000 := by omega
  have n0 : N < 90000 := by omega
  have n1 : N + 1 < 90000 := by omega
  have n2 : N + 2 < 90000 := by omega
  have n3 : N + 3 < 90000 := by omega
  have n4 : N + 4 < 90000 := by omega
  have n5 : N + 5 < 90000 := by omega
  have n6 : N + 6 < 90000 := by omega
  rw [we9]
  simp +decide (disch := omega) only [↓wm1, wb9_0 hc, w0, w1, w6, w7, w8, rI_wI, rP_wI, rL_wI, rI_wR, rP_wR, is_wI, is_wR, ia_wI, ia_wR, ow_wI, ow_wR, wn_add, wn_mul, wn_cl, wn_le, wn_lt, wn_inj, wn_ne1, wn_1ne, wn_gt1, wn_le1, nb0, nb1, am_kt, am_rt, List.cons_append, List.nil_append, true_and, and_true, not_true_eq_false, not_false_eq_true, imp_f, imp_t, implies_true, Nat.zero_add, if_true, if_false, false_and, and_false, a9, n0, M.is ha, M.rm, M.len, rK_wP, rm_wP, w873, w896, w1633]
  have M0 : Mk G0 (am_nw G 100 6) (k ++ [(100, 6)]) (N + 1) (u + 6) P f := M.nw 100 6 (by omega)
  have h0 : (k ++ [(100, 6)])[a]? = some (2, 11) := gap ha
  generalize am_nw G 100 6 = G1 at M0 ⊢
  simp +decide (disch := omega) only [↓wm1, wb9_9 hc, w0, w1, w6, w7, w8, rI_wI, rP_wI, rL_wI, rI_wR, rP_wR, is_wI, is_wR, ia_wI, ia_wR, ow_wI, ow_wR, wn_add, wn_mul, wn_cl, wn_le, wn_lt, wn_inj, wn_ne1, wn_1ne, wn_gt1, wn_le1, nb0, nb1, am_kt, am_rt, List.cons_append, List.nil_append, true_and, and_true, not_true_eq_false, not_false_eq_true, imp_f, imp_t, implies_true, Nat.zero_add, if_true, if_false, false_and, and_false, a9, n0, M0.is h0, M0.rm, M0.len, rK_wP, rm_wP, w873, w896, w1633, n0]
  have M1 : Mk G0 (am_nw (am_wP G1 a 1 N) 100 6) ((k ++ [(100, 6)]) ++ [(100, 6)]) (N + 2) (u + 12) ((a, 1, N) :: P) f := (M0.wP 1 (N) (by omega)).nw 100 6 (by omega)
  have h1 : ((k ++ [(100, 6)]) ++ [(100, 6)])[a]? = some (2, 11) := gap h0
  generalize am_nw (am_wP G1 a 1 N) 100 6 = G2 at M1 ⊢
  simp +decide (disch := omega) only [↓wm1, wb9_17 hc, w0, w1, w6, w7, w8, rI_wI, rP_wI, rL_wI, rI_wR, rP_wR, is_wI, is_wR, ia_wI, ia_wR, ow_wI, ow_wR, wn_add, wn_mul, wn_cl, wn_le, wn_lt, wn_inj, wn_ne1, wn_1ne, wn_gt1, wn_le1, nb0, nb1, am_kt, am_rt, List.cons_append, List.nil_append, true_and, and_true, not_true_eq_false, not_false_eq_true, imp_f, imp_t, implies_true, Nat.zero_add, if_true, if_false, false_and, and_false, a9, n0, M1.is h1, M1.rm, M1.len, rK_wP, rm_wP, w873, w896, w1633, n1]
  have M2 : Mk G0 (am_nw (am_wP G2 a 2 (N + 1)) 100 7) (((k ++ [(100, 6)]) ++ [(100, 6)]) ++ [(100, 7)]) (N + 3) (u + 19) ((a, 2, N + 1) :: ((a, 1, N) :: P)) f := (M1.wP 2 (N + 1) (by omega)).nw 100 7 (by omega)
  have h2 : (((k ++ [(100, 6)]) ++ [(100, 6)]) ++ [(100, 7)])[a]? = some (2, 11) := gap h1
  generalize am_nw (am_wP G2 a 2 (N + 1)) 100 7 = G3 at M2 ⊢
  simp +decide (disch := omega) only [↓wm1, wb9_25 hc, w0, w1, w6, w7, w8, rI_wI, rP_wI, rL_wI, rI_wR, rP_wR, is_wI, is_wR, ia_wI, ia_wR, ow_wI, ow_wR, wn_add, wn_mul, wn_cl, wn_le, wn_lt, wn_inj, wn_ne1, wn_1ne, wn_gt1, wn_le1, nb0, nb1, am_kt, am_rt, List.cons_append, List.nil_append, true_and, and_true, not_true_eq_false, not_false_eq_true, imp_f, imp_t, implies_true, Nat.zero_add, if_true, if_false, false_and, and_false, a9, n0, M2.is h2, M2.rm, M2.len, rK_wP, rm_wP, w873, w896, w1633, n2]
  have M3 : Mk G0 (am_nw (am_wP G3 a 4 (N + 2)) 100 7) ((((k ++ [(100, 6)]) ++ [(100, 6)]) ++ [(100, 7)]) ++ [(100, 7)]) (N + 4) (u + 26) ((a, 4, N + 2) :: ((a, 2, N + 1) :: ((a, 1, N) :: P))) f := (M2.wP 4 (N + 2) (by omega)).nw 100 7 (by omega)
  have h3 : ((((k ++ [(100, 6)]) ++ [(100, 6)]) ++ [(100, 7)]) ++ [(100, 7)])[a]? = some (2, 11) := gap h2
  generalize am_nw (am_wP G3 a 4 (N + 2)) 100 7 = G4 at M3 ⊢
  simp +decide (disch := omega) only [↓wm1, wb9_33 hc, w0, w1, w6, w7, w8, rI_wI, rP_wI, rL_wI, rI_wR, rP_wR, is_wI, is_wR, ia_wI, ia_wR, ow_wI, ow_wR, wn_add, wn_mul, wn_cl, wn_le, wn_lt, wn_inj, wn_ne1, wn_1ne, wn_gt1, wn_le1, nb0, nb1, am_kt, am_rt, List.cons_append, List.nil_append, true_and, and_true, not_true_eq_false, not_false_eq_true, imp_f, imp_t, implies_true, Nat.zero_add, if_true, if_false, false_and, and_false, a9, n0, M3.is h3, M3.rm, M3.len, rK_wP, rm_wP, w873, w896, w1633, n3]
  have M4 : Mk G0 (am_nw (am_wP G4 a 5 (N + 3)) 100 8) (((((k ++ [(100, 6)]) ++ [(100, 6)]) ++ [(100, 7)]) ++ [(100, 7)]) ++ [(100, 8)]) (N + 5) (u + 34) ((a, 5, N + 3) :: ((a, 4, N + 2) :: ((a, 2, N + 1) :: ((a, 1, N) :: P)))) f := (M3.wP 5 (N + 3) (by omega)).nw 100 8 (by omega)
  have h4 : (((((k ++ [(100, 6)]) ++ [(100, 6)]) ++ [(100, 7)]) ++ [(100, 7)]) ++ [(100, 8)])[a]? = some (2, 11) := gap h3
  generalize am_nw (am_wP G4 a 5 (N + 3)) 100 8 = G5 at M4 ⊢
  simp +decide (disch := omega) only [↓wm1, wb9_41 hc, w0, w1, w6, w7, w8, rI_wI, rP_wI, rL_wI, rI_wR, rP_wR, is_wI, is_wR, ia_wI, ia_wR, ow_wI, ow_wR, wn_add, wn_mul, wn_cl, wn_le, wn_lt, wn_inj, wn_ne1, wn_1ne, wn_gt1, wn_le1, nb0, nb1, am_kt, am_rt, List.cons_append, List.nil_append, true_and, and_true, not_true_eq_false, not_false_eq_true, imp_f, imp_t, implies_true, Nat.zero_add, if_true, if_false, false_and, and_false, a9, n0, M4.is h4, M4.rm, M4.len, rK_wP, rm_wP, w873, w896, w1633, n4]
  have M5 : Mk G0 (am_nw (am_wP G5 a 7 (N + 4)) 100 8) ((((((k ++ [(100, 6)]) ++ [(100, 6)]) ++ [(100, 7)]) ++ [(100, 7)]) ++ [(100, 8)]) ++ [(100, 8)]) (N + 6) (u + 42) ((a, 7, N + 4) :: ((a, 5, N + 3) :: ((a, 4, N + 2) :: ((a, 2, N + 1) :: ((a, 1, N) :: P))))) f := (M4.wP 7 (N + 4) (by omega)).nw 100 8 (by omega)
  have h5 : ((((((k ++ [(100, 6)]) ++ [(100, 6)]) ++ [(100, 7)]) ++ [(100, 7)]) ++ [(100, 8)]) ++ [(100, 8)])[a]? = some (2, 11) := gap h4
  generalize am_nw (am_wP G5 a 7 (N + 4)) 100 8 = G6 at M5 ⊢
  simp +decide (disch := omega) only [↓wm1, wb9_49 hc, w0, w1, w6, w7, w8, rI_wI, rP_wI, rL_wI, rI_wR, rP_wR, is_wI, is_wR, ia_wI, ia_wR, ow_wI, ow_wR, wn_add, wn_mul, wn_cl, wn_le, wn_lt, wn_inj, wn_ne1, wn_1ne, wn_gt1, wn_le1, nb0, nb1, am_kt, am_rt, List.cons_append, List.nil_append, true_and, and_true, not_true_eq_false, not_false_eq_true, imp_f, imp_t, implies_true, Nat.zero_add, if_true, if_false, false_and, and_false, a9, n0, M5.is h5, M5.rm, M5.len, rK_wP, rm_wP, w873, w896, w1633, n5]
  have M6 : Mk G0 (am_nw (am_wP G6 a 8 (N + 5)) 100 8) (((((((k ++ [(100, 6)]) ++ [(100, 6)]) ++ [(100, 7)]) ++ [(100, 7)]) ++ [(100, 8)]) ++ [(100, 8)]) ++ [(100, 8)]) (N + 7) (u + 50) ((a, 8, N + 5) :: ((a, 7, N + 4) :: ((a, 5, N + 3) :: ((a, 4, N + 2) :: ((a, 2, N + 1) :: ((a, 1, N) :: P)))))) f := (M5.wP 8 (N + 5) (by omega)).nw 100 8 (by omega)
  have h6 : (((((((k ++ [(100, 6)]) ++ [(100, 6)]) ++ [(100, 7)]) ++ [(100, 7)]) ++ [(100, 8)]) ++ [(100, 8)]) ++ [(100, 8)])[a]? = some (2, 11) := gap h5
  generalize am_nw (am_wP G6 a 8 (N + 5)) 100 8 = G7 at M6 ⊢
  simp +decide (disch := omega) only [↓wm1, wb9_57 hc, w0, w1, w6, w7, w8, rI_wI, rP_wI, rL_wI, rI_wR, rP_wR, is_wI, is_wR, ia_wI, ia_wR, ow_wI, ow_wR, wn_add, wn_mul, wn_cl, wn_le, wn_lt, wn_inj, wn_ne1, wn_1ne, wn_gt1, wn_le1, nb0, nb1, am_kt, am_rt, List.cons_append, List.nil_append, true_and, and_true, not_true_eq_false, not_false_eq_true, imp_f, imp_t, implies_true, Nat.zero_add, if_true, if_false, false_and, and_false, a9, n0, M6.is h6, M6.rm, M6.len, rK_wP, rm_wP, w873, w896, w1633, n6]
  exact kk _ (M6.wP 9 (N + 6) (by omega))
def K22 (k : List (Nat × Nat)) : List (Nat × Nat) := ((k ++ [(100, 150)]) ++ [(100, 150)])
def P22 (a N : Nat) (P : List (Nat × Nat × Nat)) : List (Nat × Nat × Nat) := (a, 1, N + 1) :: (a, 0, N) :: P
theorem ct22c {d a : Nat} {post : am_O → am_G → Prop} (M : Mk G0 G k N u P f) (ha : k[a]? = some (4, 3)) (hN : N ≤ 80000) (hu : u ≤ 7000000) (kk : ∀ G', Mk G0 G' (K22 k) (N + 2) (u + 300) (P22 a N P) f → post (.inl none) G') : am_C am_T (d + 1) 22 [.ref a] G post := by
  have hc := am_C_one am_T d
  have aN := M.lt ha
  have a9 : a < 90000 := by omega
  have n0 : N < 90000 := by omega
  have n1 : N + 1 < 90000 := by omega
  rw [we22]
  simp +decide (disch := omega) only [↓wm1, wb22_0 hc, w0, w1, w150, rI_wI, rP_wI, rL_wI, rI_wR, rP_wR, is_wI, is_wR, ia_wI, ia_wR, ow_wI, ow_wR, wn_add, wn_mul, wn_cl, wn_le, wn_lt, wn_inj, wn_ne1, wn_1ne, wn_gt1, wn_le1, nb0, nb1, am_kt, am_rt, List.cons_append, List.nil_append, true_and, and_true, not_true_eq_false, not_false_eq_true, imp_f, imp_t, implies_true, Nat.zero_add, if_true, if_false, false_and, and_false, a9, n0, M.is ha, M.rm, M.len, rK_wP, rm_wP, w873, w896, w1633]
  have M0 : Mk G0 (am_nw G 100 150) (k ++ [(100, 150)]) (N + 1) (u + 150) P f := M.nw 100 150 (by omega)
  have h0 : (k ++ [(100, 150)])[a]? = some (4, 3) := gap ha
  generalize am_nw G 100 150 = G1 at M0 ⊢
  simp +decide (disch := omega) only [↓wm1, wb22_10 hc, w0, w1, w150, rI_wI, rP_wI, rL_wI, rI_wR, rP_wR, is_wI, is_wR, ia_wI, ia_wR, ow_wI, ow_wR, wn_add, wn_mul, wn_cl, wn_le, wn_lt, wn_inj, wn_ne1, wn_1ne, wn_gt1, wn_le1, nb0, nb1, am_kt, am_rt, List.cons_append, List.nil_append, true_and, and_true, not_true_eq_false, not_false_eq_true, imp_f, imp_t, implies_true, Nat.zero_add, if_true, if_false, false_and, and_false, a9, n0, M0.is h0, M0.rm, M0.len, rK_wP, rm_wP, w873, w896, w1633, n0]
  have M1 : Mk G0 (am_nw (am_wP G1 a 0 N) 100 150) ((k ++ [(100, 150)]) ++ [(100, 150)]) (N + 2) (u + 300) ((a, 0, N) :: P) f := (M0.wP 0 (N) (by omega)).nw 100 150 (by omega)
  have h1 : ((k ++ [(100, 150)]) ++ [(100, 150)])[a]? = some (4, 3) := gap h0
  generalize am_nw (am_wP G1 a 0 N) 100 150 = G2 at M1 ⊢
  simp +decide (disch := omega) only [↓wm1, wb22_19 hc, w0, w1, w150, rI_wI, rP_wI, rL_wI, rI_wR, rP_wR, is_wI, is_wR, ia_wI, ia_wR, ow_wI, ow_wR, wn_add, wn_mul, wn_cl, wn_le, wn_lt, wn_inj, wn_ne1, wn_1ne, wn_gt1, wn_le1, nb0, nb1, am_kt, am_rt, List.cons_append, List.nil_append, true_and, and_true, not_true_eq_false, not_false_eq_true, imp_f, imp_t, implies_true, Nat.zero_add, if_true, if_false, false_and, and_false, a9, n0, M1.is h1, M1.rm, M1.len, rK_wP, rm_wP, w873, w896, w1633, n1]
  exact kk _ (M1.wP 1 (N + 1) (by omega))
def K31 (k : List (Nat × Nat)) : List (Nat × Nat) := (((k ++ [(100, 896)]) ++ [(100, 42)]) ++ [(100, 6)])
def P31 (a N : Nat) (P : List (Nat × Nat × Nat)) : List (Nat × Nat × Nat) := (a, 2, N + 2) :: (a, 1, N + 1) :: (a, 0, N) :: P
theorem ct31c {d a : Nat} {post : am_O → am_G → Prop} (M : Mk G0 G k N u P f) (ha : k[a]? = some (5, 3)) (hN : N ≤ 80000) (hu : u ≤ 7000000) (kk : ∀ G', Mk G0 G' (K31 k) (N + 3) (u + 944) (P31 a N P) f → post (.inl none) G') : am_C am_T (d + 1) 31 [.ref a] G post := by
  have hc := am_C_one am_T d
  have aN := M.lt ha
  have a9 : a < 90000 := by omega
  have n0 : N < 90000 := by omega
  have n1 : N + 1 < 90000 := by omega
  have n2 : N + 2 < 90000 := by omega
  rw [we31]
  simp +decide (disch := omega) only [↓wm1, wb31_0 hc, w0, w1, w6, w42, rI_wI, rP_wI, rL_wI, rI_wR, rP_wR, is_wI, is_wR, ia_wI, ia_wR, ow_wI, ow_wR, wn_add, wn_mul, wn_cl, wn_le, wn_lt, wn_inj, wn_ne1, wn_1ne, wn_gt1, wn_le1, nb0, nb1, am_kt, am_rt, List.cons_append, List.nil_append, true_and, and_true, not_true_eq_false, not_false_eq_true, imp_f, imp_t, implies_true, Nat.zero_add, if_true, if_false, false_and, and_false, a9, n0, M.is ha, M.rm, M.len, rK_wP, rm_wP, w873, w896, w1633]
  have M0 : Mk G0 (am_nw G 100 896) (k ++ [(100, 896)]) (N + 1) (u + 896) P f := M.nw 100 896 (by omega)
  have h0 : (k ++ [(100, 896)])[a]? = some (5, 3) := gap ha
  generalize am_nw G 100 896 = G1 at M0 ⊢
  simp +decide (disch := omega) only [↓wm1, wb31_10 hc, w0, w1, w6, w42, rI_wI, rP_wI, rL_wI, rI_wR, rP_wR, is_wI, is_wR, ia_wI, ia_wR, ow_wI, ow_wR, wn_add, wn_mul, wn_cl, wn_le, wn_lt, wn_inj, wn_ne1, wn_1ne, wn_gt1, wn_le1, nb0, nb1, am_kt, am_rt, List.cons_append, List.nil_append, true_and, and_true, not_true_eq_false, not_false_eq_true, imp_f, imp_t, implies_true, Nat.zero_add, if_true, if_false, false_and, and_false, a9, n0, M0.is h0, M0.rm, M0.len, rK_wP, rm_wP, w873, w896, w1633, n0]
  have M1 : Mk G0 (am_nw (am_wP G1 a 0 N) 100 42) ((k ++ [(100, 896)]) ++ [(100, 42)]) (N + 2) (u + 938) ((a, 0, N) :: P) f := (M0.wP 0 (N) (by omega)).nw 100 42 (by omega)
  have h1 : ((k ++ [(100, 896)]) ++ [(100, 42)])[a]? = some (5, 3) := gap h0
  generalize am_nw (am_wP G1 a 0 N) 100 42 = G2 at M1 ⊢
  simp +decide (disch := omega) only [↓wm1, wb31_18 hc, w0, w1, w6, w42, rI_wI, rP_wI, rL_wI, rI_wR, rP_wR, is_wI, is_wR, ia_wI, ia_wR, ow_wI, ow_wR, wn_add, wn_mul, wn_cl, wn_le, wn_lt, wn_inj, wn_ne1, wn_1ne, wn_gt1, wn_le1, nb0, nb1, am_kt, am_rt, List.cons_append, List.nil_append, true_and, and_true, not_true_eq_false, not_false_eq_true, imp_f, imp_t, implies_true, Nat.zero_add, if_true, if_false, false_and, and_false, a9, n0, M1.is h1, M1.rm, M1.len, rK_wP, rm_wP, w873, w896, w1633, n1]
  have M2 : Mk G0 (am_nw (am_wP G2 a 1 (N + 1)) 100 6) (((k ++ [(100, 896)]) ++ [(100, 42)]) ++ [(100, 6)]) (N + 3) (u + 944) ((a, 1, N + 1) :: ((a, 0, N) :: P)) f := (M1.wP 1 (N + 1) (by omega)).nw 100 6 (by omega)
  have h2 : (((k ++ [(100, 896)]) ++ [(100, 42)]) ++ [(100, 6)])[a]? = some (5, 3) := gap h1
  generalize am_nw (am_wP G2 a 1 (N + 1)) 100 6 = G3 at M2 ⊢
  simp +decide (disch := omega) only [↓wm1, wb31_26 hc, w0, w1, w6, w42, rI_wI, rP_wI, rL_wI, rI_wR, rP_wR, is_wI, is_wR, ia_wI, ia_wR, ow_wI, ow_wR, wn_add, wn_mul, wn_cl, wn_le, wn_lt, wn_inj, wn_ne1, wn_1ne, wn_gt1, wn_le1, nb0, nb1, am_kt, am_rt, List.cons_append, List.nil_append, true_and, and_true, not_true_eq_false, not_false_eq_true, imp_f, imp_t, implies_true, Nat.zero_add, if_true, if_false, false_and, and_false, a9, n0, M2.is h2, M2.rm, M2.len, rK_wP, rm_wP, w873, w896, w1633, n2]
  exact kk _ (M2.wP 2 (N + 2) (by omega))
end
