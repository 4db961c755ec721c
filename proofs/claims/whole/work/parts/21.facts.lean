/-! The facts of a method by its number. -/
set_option maxRecDepth 100000 in
theorem mi_take : mi_l.take 311 = mi_l0 ++ (mi_l1 ++ (mi_l2 ++ (mi_l3 ++ (mi_l4 ++ (mi_l5 ++ (mi_l6 ++ mi_l7.take 31)))))) := rfl
def mp_l : List (Nat × Nat × Nat) := mp_l0 ++ (mp_l1 ++ (mp_l2 ++ (mp_l3 ++ (mp_l4 ++ (mp_l5 ++ (mp_l6 ++ mp_l7))))))
set_option maxRecDepth 100000 in
theorem mp_all : ∀ y, y < 311 → ∃ r ∈ mp_l, r.1 = y := by decide +kernel
theorem ba {a b : Bool} (h : a = true) (k : b = true) : (a && b) = true := by rw [h, k]; rfl
theorem mp_okk : (mp_l.all fun r => match mi_l[r.1]? with | some q => mp_c q r.2.1 r.2.2 | none => false) = true := by
  unfold mp_l
  simp only [List.all_append]
  exact ba mp_ok0 (ba mp_ok1 (ba mp_ok2 (ba mp_ok3 (ba mp_ok4 (ba mp_ok5 (ba mp_ok6 mp_ok7))))))
theorem mq_okk : (mi_l.all mq_c) = true := by
  unfold mi_l
  simp only [List.all_append, mq_ok0, mq_ok1, mq_ok2, mq_ok3, mq_ok4, mq_ok5, mq_ok6, mq_ok7, Bool.and_self]
theorem mi_w_of {l : List mi_T} {ps : List Nat} {q : mi_T} (h : l.map mi_w = ps.filterMap (fun i => tables_1[i]?)) (hq : q ∈ l) : ∃ i : Nat, tables_1[i]? = some (mi_w q) := by
  have h1 : mi_w q ∈ l.map mi_w := List.mem_map_of_mem hq
  rw [h] at h1
  obtain ⟨i, -, hi⟩ := List.mem_filterMap.mp h1
  exact ⟨i, hi⟩
theorem mi_fact {y : Nat} {q : mi_T} (hq : mi_l[y]? = some q) (hy : y < 311) : (∃ i : Nat, tables_1[i]? = some (mi_w q)) ∧ mq_c q = true ∧ ∃ b c, mp_c q b c = true := by
  refine ⟨?_, List.all_eq_true.mp mq_okk q (List.mem_of_getElem? hq), ?_⟩
  · have h1 : q ∈ mi_l.take 311 := by
      refine List.mem_of_getElem? (i := y) ?_
      rw [List.getElem?_take_of_lt hy]
      exact hq
    rw [mi_take] at h1
    rcases List.mem_append.mp h1 with h | h1
    · exact mi_w_of mw_ok0 h
    rcases List.mem_append.mp h1 with h | h1
    · exact mi_w_of mw_ok1 h
    rcases List.mem_append.mp h1 with h | h1
    · exact mi_w_of mw_ok2 h
    rcases List.mem_append.mp h1 with h | h1
    · exact mi_w_of mw_ok3 h
    rcases List.mem_append.mp h1 with h | h1
    · exact mi_w_of mw_ok4 h
    rcases List.mem_append.mp h1 with h | h1
    · exact mi_w_of mw_ok5 h
    rcases List.mem_append.mp h1 with h | h1
    · exact mi_w_of mw_ok6 h
    · exact mi_w_of mw_ok7 h1
  · obtain ⟨r, hr, e⟩ := mp_all y hy
    have h2 := List.all_eq_true.mp mp_okk r hr
    rw [e, hq] at h2
    exact ⟨_, _, h2⟩
theorem ml_lt : ∀ r ∈ ml_l, r.2.2.1 < 311 := by decide +kernel
theorem am_hasM_lt {o k y : Nat} (h : am_hasM o k y = true) : y < 311 := by
  obtain ⟨r, hr, h⟩ := List.any_eq_true.mp h
  simp only [Bool.and_eq_true, Nat.beq_eq] at h
  obtain ⟨-, -, rfl⟩ := h
  exact ml_lt r hr
theorem am_hasM0_lt {o k y : Nat} (h : am_hasM0 o k y = true) : y < 311 := by
  obtain ⟨r, hr, h⟩ := List.any_eq_true.mp h
  simp only [Bool.and_eq_true, Nat.beq_eq] at h
  obtain ⟨-, -, rfl, -⟩ := h
  exact ml_lt r hr
theorem ow_cl : ∀ ci, ci < 13 → (vwCl[ci]?).map (fun v => v.1) = some (ow ci) := by
  intro ci h
  match ci, h with
  | 0, _ => rfl
  | 1, _ => rfl
  | 2, _ => rfl
  | 3, _ => rfl
  | 4, _ => rfl
  | 5, _ => rfl
  | 6, _ => rfl
  | 7, _ => rfl
  | 8, _ => rfl
  | 9, _ => rfl
  | 10, _ => rfl
  | 11, _ => rfl
  | 12, _ => rfl
  | k + 13, h => exact absurd h (by omega)
theorem bb {a b : Bool} (h : (a && b) = true) : a = true ∧ b = true := Bool.and_eq_true_iff.mp h
theorem bo {a b : Bool} (h : (a || b) = true) : a = true ∨ b = true := Bool.or_eq_true_iff.mp h
theorem bn {a b : Nat} (h : Nat.beq a b = true) : a = b := Nat.eq_of_beq_eq_true h
theorem bl {a b : Nat} (h : Nat.blt a b = true) : a < b := Nat.le_of_ble_eq_true h
theorem mi_okw (q : mi_T) : sm_okw (mi_w q) = true := by
  unfold mi_w
  split <;> rfl
