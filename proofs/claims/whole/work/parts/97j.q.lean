/-! Rows: facts; nearest first. -/
theorem mny_pos : ∀ n, n < 7 → 1 ≤ mny n := by decide
theorem mny_le : ∀ n, n < 7 → mny n ≤ 720 := by decide
theorem fir_le : ∀ n, n < 7 → fir n + mny n ≤ 873 := by decide
theorem fir_djb : ∀ n, n < 7 → ∀ m, m < 7 → (decide (n = 0) || (decide (m = 0) || (decide (n = m) || (decide (fir m + mny m ≤ fir n) || decide (fir n + mny n ≤ fir m))))) = true := by decide
theorem fir_dj (n : Nat) (hn : n < 7) (m : Nat) (hm : m < 7) (h1 : 1 ≤ n) (h2 : 1 ≤ m) (h3 : n ≠ m) : fir m + mny m ≤ fir n ∨ fir n + mny n ≤ fir m := by
  have h := fir_djb n hn m hm
  simp only [Bool.or_eq_true, decide_eq_true_eq] at h
  omega
theorem lyc_f {n row k : Nat} (h1 : 1 ≤ n) (h6 : n ≤ 6) (hr : row < mny n) (hk : k < n) : orv n row k < n ∧ row % mny (n - k) / mny (n - 1 - k) < 6 ∧ un (um (orv n row) k) 6 0 (row % mny (n - k) / mny (n - 1 - k)) = orv n row k ∧ wk (lfm n (orv n row) k) 7 0 (row % mny (n - k) / mny (n - 1 - k)) = some (orv n row k) ∧ bt (lfm n (orv n row) k) (orv n row k) = 1 ∧ lfm n (orv n row) k < 64 ∧ row % mny (n - k) % mny (n - 1 - k) = row % mny (n - 1 - k) := by
  have h := lyc_ok h1 h6 hr hk
  simp only [lyc, Bool.and_eq_true, decide_eq_true_eq, beq_iff_eq] at h
  exact h
theorem nbc_f {n row t : Nat} (h1 : 1 ≤ n) (h6 : n ≤ 6) (hr : row < mny n) (ht : t < 2 ^ (n - 1)) (hi : isc t = true) : rkO n (swq (orv n row) t (n - 1)) = nbv n row t ∧ nbv n row t < mny n ∧ dlv n (nbv n row t) ≤ dlv n row + 1 := by
  have h := nbc_ok h1 h6 hr ht
  simp only [nbc, hi, Bool.not_true, Bool.false_or, Bool.and_eq_true, decide_eq_true_eq, beq_iff_eq] at h
  exact h
theorem prc_f {n row : Nat} (h1 : 1 ≤ n) (h6 : n ≤ 6) (hr : row < mny n) (h0 : row ≠ 0) : ∃ p t, p < mny n ∧ 1 ≤ t ∧ t < 2 ^ (n - 1) ∧ isc t = true ∧ dlv n p + 1 = dlv n row ∧ nbv n p t = row := by
  have h := prc_ok h1 h6 hr
  simp only [prc, Bool.or_eq_true, beq_iff_eq] at h
  rcases h with h | h
  · exact absurd h h0
  · obtain ⟨t, ht, h⟩ := exr_ok _ h
    simp only [Bool.and_eq_true, decide_eq_true_eq, beq_iff_eq] at h
    obtain ⟨a, b, c, e⟩ := h
    exact ⟨nbv n row t, t, (nbc_f h1 h6 hr ht b).2.1, a, ht, b, c, e⟩
theorem dlv_lt (n row : Nat) : dlv n row < 8 := Nat.mod_lt _ (by decide)
theorem dlv_0 : ∀ n, 1 ≤ n → n < 7 → dlv n 0 = 0 := by
  intro n h1 h2
  have : n = 1 ∨ n = 2 ∨ n = 3 ∨ n = 4 ∨ n = 5 ∨ n = 6 := by omega
  rcases this with rfl | rfl | rfl | rfl | rfl | rfl
  all_goals decide +kernel
/-- nearest first: Q the rows found, the first i of them done with -/
def bfI (n i : Nat) (Q : List Nat) : Prop := Q.Nodup ∧ (∀ x ∈ Q, x < mny n) ∧ Q[0]? = some 0 ∧ (∀ j j' x x' : Nat, j ≤ j' → Q[j]? = some x → Q[j']? = some x' → dlv n x ≤ dlv n x') ∧ (∀ j x : Nat, j < i → Q[j]? = some x → ∀ t, 1 ≤ t → t < 2 ^ (n - 1) → isc t = true → nbv n x t ∈ Q) ∧ ∀ y, Q[i]? = some y → ∀ x ∈ Q, dlv n x ≤ dlv n y + 1
section
variable {n i y : Nat} {Q : List Nat}
theorem bfI.zero (h : bfI n i Q) : 0 ∈ Q := List.mem_of_getElem? h.2.2.1
/-- those not farther than the one in hand are found -/
theorem bfI.near (h1 : 1 ≤ n) (h6 : n ≤ 6) (h : bfI n i Q) (hy : Q[i]? = some y) : ∀ k p, p < mny n → dlv n p = k → k ≤ dlv n y → p ∈ Q := by
  intro k
  induction k with
  | zero =>
    intro p hp e hk
    by_cases h0 : p = 0
    · rw [h0]; exact h.zero
    · obtain ⟨p', t, a1, a2, a3, a4, a5, a6⟩ := prc_f h1 h6 hp h0
      omega
  | succ k ih =>
    intro p hp e hk
    by_cases h0 : p = 0
    · rw [h0]; exact h.zero
    · obtain ⟨p', t, a1, a2, a3, a4, a5, a6⟩ := prc_f h1 h6 hp h0
      have m := ih p' a1 (by omega) (by omega)
      obtain ⟨j, hj⟩ := List.getElem?_of_mem m
      have hji : j < i := by
        rcases Nat.lt_or_ge j i with c | c
        · exact c
        · have := h.2.2.2.1 i j y p' c hy hj
          omega
      rw [← a6]
      exact h.2.2.2.2.1 j p' hji hj t a2 a3 a4
theorem bfI.new {t : Nat} (h1 : 1 ≤ n) (h6 : n ≤ 6) (h : bfI n i Q) (hy : Q[i]? = some y) (ht1 : 1 ≤ t) (ht : t < 2 ^ (n - 1)) (hi : isc t = true) (hx : nbv n y t ∉ Q) : dlv n (nbv n y t) = dlv n y + 1 ∧ bfI n i (Q ++ [nbv n y t]) ∧ Q.length < mny n ∧ (Q ++ [nbv n y t])[i]? = some y := by
  have yQ : y ∈ Q := List.mem_of_getElem? hy
  have f := nbc_f h1 h6 (h.2.1 y yQ) ht hi
  have il : i < Q.length := (List.getElem?_eq_some_iff.mp hy).1
  have e : dlv n (nbv n y t) = dlv n y + 1 := by
    rcases Nat.lt_or_ge (dlv n y) (dlv n (nbv n y t)) with c | c
    · omega
    · exact absurd (h.near h1 h6 hy _ _ f.2.1 rfl c) hx
  have gl : ∀ j, j < Q.length → (Q ++ [nbv n y t])[j]? = Q[j]? := fun j hj => List.getElem?_append_left hj
  have nd : (Q ++ [nbv n y t]).Nodup := by
    rw [List.nodup_append]
    refine ⟨h.1, by simp, fun a ha b hb => ?_⟩
    simp at hb
    rw [hb]
    intro z
    rw [z] at ha
    exact hx ha
  have lt : ∀ x ∈ Q ++ [nbv n y t], x < mny n := fun x hm => by
    rw [List.mem_append, List.mem_singleton] at hm
    rcases hm with z | z
    · exact h.2.1 x z
    · rw [z]; exact f.2.1
  refine ⟨e, ⟨nd, lt, ?_, fun j j' x x' hjj a b => ?_, fun j x hj a t' u1 u2 u3 => ?_, fun y' a x hm => ?_⟩, ?_, ?_⟩
  · rw [gl 0 (by omega)]; exact h.2.2.1
  · by_cases c : j' < Q.length
    · rw [gl j (by omega)] at a
      rw [gl j' c] at b
      exact h.2.2.2.1 j j' x x' hjj a b
    · have l' := (List.getElem?_eq_some_iff.mp b).1
      rw [List.length_append, List.length_singleton] at l'
      have ej : j' = Q.length := by omega
      rw [ej] at b
      rw [List.getElem?_append_right (Nat.le_refl _), Nat.sub_self] at b
      simp at b
      by_cases c2 : j < Q.length
      · rw [gl j c2] at a
        have := h.2.2.2.2.2 y hy x (List.mem_of_getElem? a)
        rw [← b]; omega
      · have ej2 : j = Q.length := by omega
        rw [ej2, List.getElem?_append_right (Nat.le_refl _), Nat.sub_self] at a
        simp at a
        rw [← a, ← b]; omega
  · rw [gl j (by omega)] at a
    exact List.mem_append_left _ (h.2.2.2.2.1 j x hj a t' u1 u2 u3)
  · rw [gl i il, hy] at a
    cases a
    rw [List.mem_append, List.mem_singleton] at hm
    rcases hm with z | z
    · exact h.2.2.2.2.2 y hy x z
    · rw [z]; omega
  · have := pig (mny n) _ nd lt
    rw [List.length_append, List.length_singleton] at this
    omega
  · rw [gl i il]; exact hy
theorem bfI.next (h : bfI n i Q) (hy : Q[i]? = some y) (hd : ∀ t, 1 ≤ t → t < 2 ^ (n - 1) → isc t = true → nbv n y t ∈ Q) : bfI n (i + 1) Q := by
  refine ⟨h.1, h.2.1, h.2.2.1, h.2.2.2.1, fun j x hj a => ?_, fun y' a x hm => ?_⟩
  · by_cases c : j < i
    · exact h.2.2.2.2.1 j x c a
    · have ej : j = i := by omega
      rw [ej, hy] at a
      cases a
      exact hd
  · have := h.2.2.2.2.2 y hy x hm
    have := h.2.2.2.1 i (i + 1) y y' (by omega) hy a
    omega
theorem bfI.all (h1 : 1 ≤ n) (h6 : n ≤ 6) (h : bfI n i Q) (hi : Q.length ≤ i) : ∀ k p, p < mny n → dlv n p = k → p ∈ Q := by
  intro k
  induction k with
  | zero =>
    intro p hp e
    by_cases h0 : p = 0
    · rw [h0]; exact h.zero
    · obtain ⟨p', t, a1, a2, a3, a4, a5, a6⟩ := prc_f h1 h6 hp h0
      omega
  | succ k ih =>
    intro p hp e
    by_cases h0 : p = 0
    · rw [h0]; exact h.zero
    · obtain ⟨p', t, a1, a2, a3, a4, a5, a6⟩ := prc_f h1 h6 hp h0
      have m := ih p' a1 (by omega)
      obtain ⟨j, hj⟩ := List.getElem?_of_mem m
      have hji := (List.getElem?_eq_some_iff.mp hj).1
      rw [← a6]
      exact h.2.2.2.2.1 j p' (by omega) hj t a2 a3 a4
theorem bfI.len (h : bfI n i Q) : Q.length ≤ mny n := pig (mny n) Q h.1 h.2.1
theorem bfI.ini (h1 : 1 ≤ n) (h6 : n ≤ 6) : bfI n 0 [0] := by
  refine ⟨by simp, fun x hx => ?_, rfl, fun j j' x x' hjj a b => ?_, fun j x hj => by omega, fun y a x hx => ?_⟩
  · simp at hx
    rw [hx]
    exact mny_pos n (by omega)
  · have b1 : j' < 1 := (List.getElem?_eq_some_iff.mp b).1
    have e1 : j' = 0 := by omega
    have e2 : j = 0 := by omega
    rw [e1] at b
    rw [e2] at a
    simp at a b
    rw [← a, ← b]
    exact Nat.le_refl _
  · simp at a hx
    rw [hx, ← a]
    omega
end
/-- the swapping, place by place -/
theorem swq_1 {o : Nat → Nat} {t p i : Nat} (h : bt t p = 1) : swq o t (p + 1) i = if i = p + 1 then o p else if i = p then o (p + 1) else swq o t p i := by
  unfold swq
  by_cases c1 : i = p + 1
  · subst c1
    rw [if_neg (by omega), if_pos ⟨by omega, by omega, by rw [Nat.add_sub_cancel]; exact h⟩, if_pos rfl, Nat.add_sub_cancel]
  · rw [if_neg c1]
    by_cases c2 : i = p
    · subst c2
      rw [if_pos ⟨by omega, h⟩, if_pos rfl]
    · rw [if_neg c2]
      by_cases c3 : i < p ∧ bt t i = 1
      · rw [if_pos ⟨by omega, c3.2⟩, if_pos c3]
      · rw [if_neg (fun z => c3 ⟨by omega, z.2⟩), if_neg c3]
        by_cases c4 : 1 ≤ i ∧ i - 1 < p ∧ bt t (i - 1) = 1
        · rw [if_pos ⟨c4.1, by omega, c4.2.2⟩, if_pos c4]
        · rw [if_neg (fun z => c4 ⟨z.1, by omega, z.2.2⟩), if_neg c4]
theorem swq_0 {o : Nat → Nat} {t p i : Nat} (h : ¬ bt t p = 1) : swq o t (p + 1) i = swq o t p i := by
  unfold swq
  by_cases c3 : i < p ∧ bt t i = 1
  · rw [if_pos ⟨by omega, c3.2⟩, if_pos c3]
  · have n1 : ¬ (i < p + 1 ∧ bt t i = 1) := by
      rintro ⟨z1, z2⟩
      by_cases e : i = p
      · rw [e] at z2; exact h z2
      · exact c3 ⟨by omega, z2⟩
    rw [if_neg n1, if_neg c3]
    by_cases c4 : 1 ≤ i ∧ i - 1 < p ∧ bt t (i - 1) = 1
    · rw [if_pos ⟨c4.1, by omega, c4.2.2⟩, if_pos c4]
    · have n2 : ¬ (1 ≤ i ∧ i - 1 < p + 1 ∧ bt t (i - 1) = 1) := by
        rintro ⟨z0, z1, z2⟩
        by_cases e : i - 1 = p
        · rw [e] at z2; exact h z2
        · exact c4 ⟨z0, by omega, z2⟩
      rw [if_neg n2, if_neg c4]
theorem swq_00 {o : Nat → Nat} {t i : Nat} : swq o t 0 i = o i := by
  unfold swq
  rw [if_neg (by omega), if_neg (by omega)]
theorem swq_lt {o : Nat → Nat} {t n i : Nat} (ho : ∀ i, i < n → o i < 6) (hi : i < n) : swq o t (n - 1) i < 6 := by
  unfold swq
  split
  · exact ho _ (by omega)
  · split
    · exact ho _ (by omega)
    · exact ho _ hi
theorem um_lt {c : Nat → Nat} {n : Nat} (hc : ∀ i, i < n → c i < 6) : ∀ p, p ≤ n → um c p < 64 := by
  intro p
  induction p with
  | zero => intro _; exact (by decide : 0 < 64)
  | succ p ih =>
    intro hp
    exact or_H (H := 6) (ih (by omega)) (hc p (by omega))
theorem bor6 : ∀ m, m < 64 → ∀ u, u < 6 → wn m ||| wn (2 ^ u) = wn (m ||| 2 ^ u) := by decide +kernel
theorem band6 : ∀ a, a < 64 → ∀ b, b < 64 → wn a &&& wn b = wn (a &&& b) := by decide +kernel
theorem and6 : ∀ a, a < 64 → ∀ c, c < 6 → a &&& (2 ^ c - 1) < 64 ∧ ones (a &&& (2 ^ c - 1)) ≤ c ∧ 2 ^ c - 1 < 64 ∧ 1 ≤ 2 ^ c := by decide +kernel
theorem bclr6 : ∀ m, m < 64 → ∀ o, o < 6 → bt m o = 1 → wn m &&& (wn (2 ^ o) ^^^ mm) = wn (m - 2 ^ o) := by decide +kernel
theorem isc_ok : ∀ t, t < 32 → (wn t &&& (wn t <<< (wn 1 &&& 31)) = wn 0 ↔ isc t = true) := by decide +kernel
/-- NEXT: of the first j changes -/
def nxp (n row : Nat) : Nat → Nat × Bool
  | 0 => (row, false)
  | j + 1 => if isc (j + 1) = true ∧ dlv n (nbv n row (j + 1)) + 1 = dlv n row ∧ ((nxp n row j).2 = false ∨ nbv n row (j + 1) < (nxp n row j).1) then (nbv n row (j + 1), true) else nxp n row j
theorem nxp_f (n row : Nat) : ∀ j, ((nxp n row j).2 = false → (nxp n row j).1 = row) ∧ ((nxp n row j).2 = true → (nxp n row j).1 ≠ row) := by
  intro j
  induction j with
  | zero => exact ⟨fun _ => rfl, fun z => by cases z⟩
  | succ j ih =>
    simp only [nxp]
    split
    · rename_i h
      refine ⟨(fun z => by cases z), fun _ z => ?_⟩
      have z2 : nbv n row (j + 1) = row := z
      rw [z2] at h
      omega
    · exact ih
theorem nxp_lt {n row : Nat} (h1 : 1 ≤ n) (h6 : n ≤ 6) (hr : row < mny n) : ∀ j, j < 2 ^ (n - 1) → (nxp n row j).1 < mny n := by
  intro j
  induction j with
  | zero => intro _; exact hr
  | succ j ih =>
    intro hj
    simp only [nxp]
    split
    · rename_i h
      exact (nbc_f h1 h6 hr hj h.1).2.1
    · exact ih (by omega)
theorem lim_eq {a b : Nat} (ha : a < 2147483647) (hb : b < 2147483648) : (wn a = lim b) = (a + 1 = b) := by
  apply propext
  rcases b with _ | b
  · rw [lim_0, wn_ne1 (by omega)]
    exact ⟨fun z => z.elim, fun z => by omega⟩
  · rw [lim_s, wn_inj (by omega) (by omega)]
    omega
