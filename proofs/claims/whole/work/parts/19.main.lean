/-! The words at a later state; switches; the dispatch. -/
def sm_okw (w : Jvm.Cond) : Bool := goodWord w || (match w with
  | .fieldLinkNest .. => true
  | .methodLinkNest .. => true
  | .declares _ => true
  | .castable .. => true
  | .arrayOver _ => true
  | _ => false)
theorem sm_word {w : Jvm.Cond} {a0 args : Array Value} {s0 s : State} (hg : sm_okw w = true) (hW : s0.WarmedH s.vm) (h : w.before a0 s0 = true) : w.before args s = true := by
  unfold sm_okw at hg
  rw [Bool.or_eq_true] at hg
  rcases hg with hg | hg
  · exact word_at hW (good_of_word hg) h
  · split at hg
    · exact va_Nw.use rfl (va_Nw.warmF hW (va_Nw.of rfl h))
    · exact va_Nw.use rfl (va_Nw.warmM hW (va_Nw.of rfl h))
    · exact va_Nw.use rfl (va_Nw.warmD hW (va_Nw.of rfl h))
    · exact va_Nw.use rfl (va_Nw.warmC hW (va_Nw.of rfl h))
    · next ty =>
      have h1 : (Cond.arrayOver ty).before a0 (s0.setVm s.vm) = true := by rw [Cond.arrayOver_setVmC hW.alike]; exact h
      exact h1
    · cases hg
theorem sm_i32_succ {lo : Int32} (h : lo.toInt + 1 ≤ 2147483647) : (lo + 1).toInt = lo.toInt + 1 := by
  have h1 := Int32.toInt_add lo 1
  have h2 : (1 : Int32).toInt = 1 := by decide
  have h3 := lo.le_toInt
  rw [h1, h2]
  apply Int.bmod_eq_of_le <;> omega
theorem am_swt_out {x : Int32} {d : Nat} : ∀ (ts : List Nat) (lo : Int32), lo.toInt + ts.length ≤ 2147483647 → (x.toInt < lo.toInt ∨ lo.toInt + ts.length ≤ x.toInt) → am_swt x lo ts d = d := by
  intro ts
  induction ts with
  | nil => intro lo _ _; rfl
  | cons t ts ih =>
    intro lo h1 h2
    rw [List.length_cons] at h1 h2
    simp only [am_swt]
    rw [if_neg (fun e => by subst e; omega)]
    have hs := sm_i32_succ (lo := lo) (by omega)
    exact ih (lo + 1) (by rw [hs]; omega) (by rw [hs]; omega)
theorem am_swt_in {x : Int32} {d t : Nat} : ∀ (ts : List Nat) (lo : Int32) (k : Nat), lo.toInt + ts.length ≤ 2147483647 → x.toInt = lo.toInt + k → ts[k]? = some t → am_swt x lo ts d = t := by
  intro ts
  induction ts with
  | nil => intro lo k _ _ h; simp at h
  | cons u ts ih =>
    intro lo k h1 h2 h3
    rw [List.length_cons] at h1
    simp only [am_swt]
    cases k with
    | zero =>
      have : x = lo := Int32.toInt_inj.mp (by rw [h2]; simp)
      rw [if_pos this]
      simpa using h3
    | succ k =>
      rw [if_neg (fun e => by subst e; omega)]
      have hs := sm_i32_succ (lo := lo) (by omega)
      exact ih (lo + 1) k (by rw [hs]; omega) (by rw [hs]; omega) (by simpa using h3)
theorem am_sws_len {pc : Nat} : ∀ (os : List Int) (ts : List Nat) (lo : Int), am_sws pc lo os ts = true → os.length = ts.length := by
  intro os
  induction os with
  | nil => intro ts lo h; cases ts with
    | nil => rfl
    | cons => cases h
  | cons a os ih => intro ts lo h; cases ts with
    | nil => cases h
    | cons t ts =>
      simp only [am_sws, Bool.and_eq_true] at h
      simp [ih ts _ h.2]
theorem am_sws_at {pc : Nat} : ∀ (os : List Int) (ts : List Nat) (lo : Int) (k : Nat), am_sws pc lo os ts = true → k < ts.length → ∃ o t, os[k]? = some o ∧ ts[k]? = some t ∧ (pc : Int) + o = (t : Int) := by
  intro os
  induction os with
  | nil => intro ts lo k h hk; cases ts with
    | nil => simp at hk
    | cons => cases h
  | cons a os ih => intro ts lo k h hk; cases ts with
    | nil => cases h
    | cons t ts =>
      simp only [am_sws, Bool.and_eq_true, decide_eq_true_eq] at h
      cases k with
      | zero => exact ⟨a, t, rfl, rfl, h.1⟩
      | succ k =>
        obtain ⟨o, t', h1, h2, h3⟩ := ih ts _ k h.2 (by simpa using hk)
        exact ⟨o, t', by simpa using h1, by simpa using h2, h3⟩
theorem am_sws2_off {pc : Nat} {x : Int32} {dd : Int} {d : Nat} : ∀ (os : List (Int × Int)) (ts : List Nat) (lo : Int32), am_sws2 pc lo.toInt os ts = true → lo.toInt + ts.length ≤ 2147483647 → (pc : Int) + dd = (d : Int) → (pc : Int) + Op.lookupswitch.offset os dd x.toInt = (am_swt x lo ts d : Int) := by
  intro os
  induction os with
  | nil => intro ts lo h _ h2; cases ts with
    | nil => exact h2
    | cons => cases h
  | cons a os ih => intro ts lo h h1 h2; cases ts with
    | nil => cases h
    | cons t ts =>
      simp only [am_sws2, Bool.and_eq_true, decide_eq_true_eq] at h
      rw [List.length_cons] at h1
      have hs := sm_i32_succ (lo := lo) (by omega)
      simp only [am_swt]
      by_cases e : x = lo
      · subst e
        rw [if_pos rfl]
        have : Op.lookupswitch.offset (a :: os) dd x.toInt = a.2 := by
          simp [Op.lookupswitch.offset, h.1]
        rw [this]
        exact h.2.1
      · rw [if_neg e]
        have hne : ¬ x.toInt = a.1 := fun q => e (Int32.toInt_inj.mp (by rw [q, h.1]))
        have : Op.lookupswitch.offset (a :: os) dd x.toInt = Op.lookupswitch.offset os dd x.toInt := by
          obtain ⟨a1, a2⟩ := a
          have hne' : ¬ a1 = x.toInt := fun q => hne q.symm
          simp [Op.lookupswitch.offset, hne']
        rw [this]
        exact ih ts (lo + 1) (by rw [hs]; exact h.2.2) (by rw [hs]; omega) h2
