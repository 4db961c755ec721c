/-! What the real machine's heap and variables are, beside my machine's. -/
def am_xn (k : Nat) : String := match k with
  | 200 => "java/lang/IllegalArgumentException"
  | _ => "java/util/NoSuchElementException"
/-- the state at the law's entry; the classes' numbers and slots; the array classes; where the old cells lie; the value of one static that nobody looks at; where the law's own cells begin; the script's length; what old arrays hold -/
abbrev sm_N : Type := State × va_G × (Nat → ClassId) × (Nat → Nat) × Value × Nat × Nat × (Nat → Nat → Int32)
def sm_s0 (N : sm_N) : State := N.1
def sm_D (N : sm_N) : va_G := N.2.1
def sm_cs (N : sm_N) : Nat → ClassId := N.2.2.1
def sm_od (N : sm_N) : Nat → Nat := N.2.2.2.1
def sm_sv (N : sm_N) : Value := N.2.2.2.2.1
def sm_base (N : sm_N) : Nat := N.2.2.2.2.2.1
def sm_len (N : sm_N) : Nat := N.2.2.2.2.2.2.1
def sm_oc (N : sm_N) : Nat → Nat → Int32 := N.2.2.2.2.2.2.2
def sm_ad (N : sm_N) (r : Nat) : Nat := if r < 90000 then sm_base N + r else sm_od N (r - 100000)
def sm_rv (N : sm_N) (v : Nat) : Value := if v = am_null then .null else .ref (sm_ad N v)
def sm_tv (N : sm_N) (v : Value) : Value := match v with
  | .ref r => if r = 100013 then sm_sv N else .ref (sm_ad N r)
  | v => v
theorem sm_tv_int (N : sm_N) (x : Int32) : sm_tv N (.int x) = .int x := rfl
theorem sm_tv_long (N : sm_N) (x : Int64) : sm_tv N (.long x) = .long x := rfl
theorem sm_tv_ref (N : sm_N) {r : Nat} (h : ¬ r = 100013) : sm_tv N (.ref r) = .ref (sm_ad N r) := by simp [sm_tv, h]
theorem sm_tv_own (N : sm_N) {r : Nat} (h : r < 90000) : sm_tv N (.ref r) = .ref (sm_base N + r) := by
  rw [sm_tv_ref N (by omega)]
  simp [sm_ad, h]
def sm_fv (N : sm_N) (G : am_G) (a i t : Nat) : Value := match t with
  | 0 => .int (am_gI G a i)
  | _ => sm_rv N (am_gP G a i)
def sm_cell (N : sm_N) (G : am_G) (H : Heap) (a k n : Nat) : Prop :=
  (k < 13 ∧ n = am_cn k ∧ t_OB (sm_base N + a) ((sm_D N).1 k) n ((sm_D N).2 k) H (fun i => sm_fv N G a i (am_ft k i)))
  ∨ ((k = 100 ∨ k = 105) ∧ H[sm_base N + a]? = some (arrV (sm_cs N k) n (fun j => .int (am_gI G a j))))
  ∨ (k = 101 ∧ H[sm_base N + a]? = some (arrV (sm_cs N k) n (fun j => .long (am_gL G a j))))
  ∨ ((k = 102 ∨ k = 103 ∨ k = 104) ∧ H[sm_base N + a]? = some (arrV (sm_cs N k) n (fun j => sm_rv N (am_gP G a j))))
  ∨ ((k = 200 ∨ k = 201) ∧ ∃ ce : Cell, H[sm_base N + a]? = some ce ∧ ce.vm = .none ∧ (sm_s0 N).vm.findClass (am_xn k) = some ce.cls)
def sm_rep (N : sm_N) (G : am_G) (H : Heap) : Prop :=
  H.size = sm_base N + (am_K G).length ∧ ((am_K G).length ≤ 90000 ∧ am_us G ≤ 7200000) ∧ am_sl G = sm_len N ∧ (∀ a k n, (am_K G)[a]? = some (k, n) → sm_cell N G H a k n) ∧ (∀ q, q < sm_base N → H[q]? = (sm_s0 N).heap[q]?) ∧
    ∀ j i, i < am_ol (sm_len N) j → am_gI G (100000 + j) i = sm_oc N j i
theorem sm_cell.kept {N : sm_N} {G G' : am_G} {H H' : Heap} {a k n : Nat} (h : sm_cell N G H a k n) (hI : ∀ i, am_gI G' a i = am_gI G a i) (hP : ∀ i, am_gP G' a i = am_gP G a i) (hL : ∀ i, am_gL G' a i = am_gL G a i)
    (hH : H'[sm_base N + a]? = H[sm_base N + a]?) : sm_cell N G' H' a k n := by
  unfold sm_cell at h ⊢
  simp only [hI, hP, hL, hH]
  rcases h with ⟨h1, h2, h3⟩ | h | h | h | h
  · refine Or.inl ⟨h1, h2, ?_⟩
    refine (h3.kept hH).to fun i _ => ?_
    unfold sm_fv
    split
    · rw [hI]
    · rw [hP]
  · exact Or.inr (Or.inl h)
  · exact Or.inr (Or.inr (Or.inl h))
  · exact Or.inr (Or.inr (Or.inr (Or.inl h)))
  · exact Or.inr (Or.inr (Or.inr (Or.inr h)))
theorem sm_lt {G : am_G} {a : Nat} {q : Nat × Nat} (h : (am_K G)[a]? = some q) : a < (am_K G).length := (List.getElem?_eq_some_iff.mp h).1
theorem sm_rep.own {N : sm_N} {G : am_G} {H : Heap} (h : sm_rep N G H) {a : Nat} {q : Nat × Nat} (ha : (am_K G)[a]? = some q) : a < 90000 := by
  have := sm_lt ha
  have := h.2.1
  omega
/-- one cell changed -/
theorem sm_rep.set {N : sm_N} {G G' : am_G} {H H' : Heap} {a k n : Nat} (h : sm_rep N G H) (ha : (am_K G)[a]? = some (k, n)) (hK : am_K G' = am_K G) (hs : am_sl G' = am_sl G) (hu : am_us G' = am_us G)
    (hI : ∀ b i, b ≠ a → am_gI G' b i = am_gI G b i) (hP : ∀ b i, b ≠ a → am_gP G' b i = am_gP G b i) (hL : ∀ b i, b ≠ a → am_gL G' b i = am_gL G b i)
    (hz : H'.size = H.size) (hH : ∀ q, q ≠ sm_base N + a → H'[q]? = H[q]?) (hc : sm_cell N G' H' a k n) : sm_rep N G' H' := by
  have hlt := h.own ha
  obtain ⟨h1, h2, h3, h4, h5, h6⟩ := h
  refine ⟨by rw [hz, hK]; exact h1, by rw [hK, hu]; exact h2, by rw [hs]; exact h3, ?_, ?_, ?_⟩
  · intro b k' n' hb
    rw [hK] at hb
    by_cases e : b = a
    · subst e
      cases Option.some.inj (ha.symm.trans hb)
      exact hc
    · exact (h4 b k' n' hb).kept (fun i => hI b i e) (fun i => hP b i e) (fun i => hL b i e) (hH _ (by omega))
  · intro q hq
    rw [hH q (by omega)]
    exact h5 q hq
  · intro j i hi
    rw [hI _ _ (by omega)]
    exact h6 j i hi
/-- a cell more -/
theorem sm_rep.push {N : sm_N} {G : am_G} {H H' : Heap} {k n : Nat} (h : sm_rep N G H) (hr : (am_K G).length + 1 ≤ 90000) (hr2 : am_us G + n ≤ 7200000) (hz : H'.size = H.size + 1) (hH : ∀ q, q < H.size → H'[q]? = H[q]?)
    (hc : sm_cell N (am_nw G k n) H' (am_K G).length k n) : sm_rep N (am_nw G k n) H' := by
  obtain ⟨h1, h2, h3, h4, h5, h6⟩ := h
  have hKn : am_K (am_nw G k n) = am_K G ++ [(k, n)] := rfl
  refine ⟨by rw [hz, hKn, h1]; simp; omega, ⟨by rw [hKn]; simp; omega, hr2⟩, h3, ?_, ?_, ?_⟩
  · intro b k' n' hb
    rw [hKn] at hb
    by_cases e : b < (am_K G).length
    · rw [List.getElem?_append_left e] at hb
      have hne : ¬ b = (am_K G).length := by omega
      exact (h4 b k' n' hb).kept (fun i => by simp [am_gI, am_nw, hne]) (fun i => by simp [am_gP, am_nw, hne]) (fun i => by simp [am_gL, am_nw, hne]) (hH _ (by omega))
    · rw [List.getElem?_append_right (by omega)] at hb
      have hz0 : b - (am_K G).length < 1 := (List.getElem?_eq_some_iff.mp hb).1
      have hb0 : b = (am_K G).length := by omega
      subst hb0
      simp at hb
      obtain ⟨rfl, rfl⟩ := hb
      exact hc
  · intro q hq
    rw [hH q (by omega)]
    exact h5 q hq
  · intro j i hi
    have hne : ¬ 100000 + j = (am_K G).length := by omega
    have : am_gI (am_nw G k n) (100000 + j) i = am_gI G (100000 + j) i := by simp [am_gI, am_nw, hne]
    rw [this]
    exact h6 j i hi
/-! variables -/
def sm_lr (N : sm_N) (nL : Nat) (ls : am_L) (lsR : Array Slot) : Prop := ls.length = nL ∧ lsR.size = nL ∧ lv_wf lsR ∧ ∀ (i : Nat) (v : Value), ls[i]? = some (some v) → lsR[i]? = some (Slot.val (sm_tv N v))
def sm_pl (N : sm_N) (ls : am_L) : List (Nat × Value) := (List.range ls.length).filterMap fun i => (am_get ls i).map fun v => (i, sm_tv N v)
theorem sm_get {ls : am_L} {i : Nat} {v : Value} (h : am_get ls i = some v) : ls[i]? = some (some v) := by
  unfold am_get at h
  split at h
  · next w hw => rw [hw, Option.some.inj h]
  · cases h
theorem sm_get' {ls : am_L} {i : Nat} {v : Value} (h : ls[i]? = some (some v)) : am_get ls i = some v := by simp [am_get, h]
theorem sm_lr.at {N : sm_N} {nL : Nat} {ls : am_L} {lsR : Array Slot} (h : sm_lr N nL ls lsR) {i : Nat} {v : Value} (hg : am_get ls i = some v) : lsR[i]? = some (.val (sm_tv N v)) := h.2.2.2 i v (sm_get hg)
theorem sm_mem {N : sm_N} {ls : am_L} {q : Nat × Value} : q ∈ sm_pl N ls ↔ ∃ v, ls[q.1]? = some (some v) ∧ q.2 = sm_tv N v := by
  unfold sm_pl
  rw [List.mem_filterMap]
  constructor
  · rintro ⟨i, -, h⟩
    cases hg : am_get ls i with
    | none => rw [hg] at h; cases h
    | some v =>
      rw [hg] at h
      have h := Option.some.inj h
      subst h
      exact ⟨v, sm_get hg, rfl⟩
  · rintro ⟨v, h1, h2⟩
    have hlt : q.1 < ls.length := (List.getElem?_eq_some_iff.mp h1).1
    refine ⟨q.1, List.mem_range.mpr hlt, ?_⟩
    rw [sm_get' h1]
    obtain ⟨a, b⟩ := q
    simp only at h2
    subst h2
    rfl
theorem sm_lr.has {N : sm_N} {nL : Nat} {ls : am_L} {lsR : Array Slot} (h : sm_lr N nL ls lsR) : lv_has lsR nL (sm_pl N ls) := by
  refine ⟨h.2.1, h.2.2.1, fun q hq => ?_⟩
  obtain ⟨v, h1, h2⟩ := sm_mem.mp hq
  rw [h2]
  exact h.2.2.2 _ _ h1
theorem sm_kill_len (ls : am_L) (i : Nat) : (am_kill ls i).length = ls.length := by
  cases i with
  | zero => rfl
  | succ j =>
    simp only [am_kill]
    split <;> simp
theorem sm_kill_at {ls : am_L} {i j : Nat} {v : Value} (h : (am_kill ls i)[j]? = some (some v)) : ls[j]? = some (some v) ∧ ¬ (j + 1 = i ∧ v.category = 2) := by
  cases i with
  | zero => exact ⟨h, fun q => by omega⟩
  | succ k =>
    simp only [am_kill] at h
    have hset : ∀ {ls : am_L}, (ls.set k none)[j]? = some (some v) → ls[j]? = some (some v) ∧ ¬ j = k := by
      intro ls h
      rw [List.getElem?_set] at h
      by_cases e : k = j
      · rw [if_pos e] at h
        split at h <;> simp at h
      · rw [if_neg e] at h
        exact ⟨h, fun q => e q.symm⟩
    split at h
    · obtain ⟨h1, h2⟩ := hset h
      exact ⟨h1, fun q => h2 (by omega)⟩
    · obtain ⟨h1, h2⟩ := hset h
      exact ⟨h1, fun q => h2 (by omega)⟩
    · next hn1 hn2 =>
      refine ⟨h, fun q => ?_⟩
      have e : j = k := by omega
      subst e
      have hg := sm_get' h
      cases v with
      | long x => exact hn1 x hg
      | double x => exact hn2 x hg
      | _ => simp [Value.category] at q
theorem sm_tv_cat {N : sm_N} (hv : sm_sv N = .null ∨ ∃ a, sm_sv N = .ref a) (v : Value) : (sm_tv N v).category = v.category := by
  cases v with
  | ref r =>
    simp only [sm_tv]
    split
    · rcases hv with h | ⟨a, h⟩ <;> rw [h] <;> rfl
    · rfl
  | _ => rfl
theorem sm_lr.s1 {N : sm_N} (hv : sm_sv N = .null ∨ ∃ a, sm_sv N = .ref a) {nL : Nat} {ls : am_L} {lsR lsR' : Array Slot} {i : Nat} {v : Value} (h : sm_lr N nL ls lsR) (hi : i < nL)
    (h' : lv_has lsR' nL ((i, sm_tv N v) :: (sm_pl N ls).filter (fun q => !(q.1 == i) && !(q.1 + 1 == i && q.2.category == 2)))) : sm_lr N nL (am_s1 ls i v) lsR' := by
  refine ⟨by simp [am_s1, sm_kill_len, h.1], h'.1, h'.2.1, fun j w hw => ?_⟩
  simp only [am_s1] at hw
  rw [List.getElem?_set] at hw
  by_cases e : i = j
  · subst e
    rw [if_pos rfl] at hw
    split at hw
    · have := Option.some.inj (Option.some.inj hw)
      subst this
      exact h'.2.2 (i, sm_tv N v) List.mem_cons_self
    · cases hw
  · rw [if_neg e] at hw
    obtain ⟨h1, h2⟩ := sm_kill_at hw
    refine h'.2.2 (j, sm_tv N w) (List.mem_cons_of_mem _ (List.mem_filter.mpr ⟨sm_mem.mpr ⟨w, h1, rfl⟩, ?_⟩))
    have e' : ¬ j = i := fun q => e q.symm
    simp only [Bool.and_eq_true, Bool.not_eq_true', beq_eq_false_iff_ne, ne_eq, Bool.and_eq_false_imp, beq_iff_eq, sm_tv_cat hv]
    exact ⟨e', fun q1 q2 => h2 ⟨q1, q2⟩⟩
theorem sm_lr.s2 {N : sm_N} (hv : sm_sv N = .null ∨ ∃ a, sm_sv N = .ref a) {nL : Nat} {ls : am_L} {lsR lsR' : Array Slot} {i : Nat} {v : Value} (h : sm_lr N nL ls lsR) (hi : i + 1 < nL)
    (h' : lv_has lsR' nL ((i, sm_tv N v) :: (sm_pl N ls).filter (fun q => !(q.1 == i) && (!(q.1 == i + 1) && !(q.1 + 1 == i && q.2.category == 2))))) : sm_lr N nL (am_s2 ls i v) lsR' := by
  refine ⟨by simp [am_s2, sm_kill_len, h.1], h'.1, h'.2.1, fun j w hw => ?_⟩
  simp only [am_s2] at hw
  rw [List.getElem?_set] at hw
  by_cases e1 : i + 1 = j
  · rw [if_pos e1] at hw
    split at hw <;> simp at hw
  · rw [if_neg e1, List.getElem?_set] at hw
    by_cases e : i = j
    · subst e
      rw [if_pos rfl] at hw
      split at hw
      · have := Option.some.inj (Option.some.inj hw)
        subst this
        exact h'.2.2 (i, sm_tv N v) List.mem_cons_self
      · cases hw
    · rw [if_neg e] at hw
      obtain ⟨h1, h2⟩ := sm_kill_at hw
      refine h'.2.2 (j, sm_tv N w) (List.mem_cons_of_mem _ (List.mem_filter.mpr ⟨sm_mem.mpr ⟨w, h1, rfl⟩, ?_⟩))
      have e' : ¬ j = i := fun q => e q.symm
      have e1' : ¬ j = i + 1 := fun q => e1 q.symm
      simp only [Bool.and_eq_true, Bool.not_eq_true', beq_eq_false_iff_ne, ne_eq, Bool.and_eq_false_imp, beq_iff_eq, sm_tv_cat hv]
      exact ⟨e', e1', fun q1 q2 => h2 ⟨q1, q2⟩⟩
theorem sm_lr.clr {N : sm_N} {nL : Nat} {lsR : Array Slot} : ∀ (ks : List Nat) {ls : am_L}, sm_lr N nL ls lsR → sm_lr N nL (am_clr ks ls) lsR
  | [], _, h => h
  | k :: ks, ls, h => by
    refine sm_lr.clr ks ⟨by simp [h.1], h.2.1, h.2.2.1, fun i v hi => ?_⟩
    rw [List.getElem?_set] at hi
    by_cases e : k = i
    · rw [if_pos e] at hi
      split at hi <;> simp at hi
    · rw [if_neg e] at hi
      exact h.2.2.2 i v hi
