/-! A work's reading: what it says. -/
abbrev PWk : Type := Nat → Nat → PR (Nat × List Et)
/-- one step without its end; entries from b on -/
def pst0 (t : Nat → Nat) (n B lv : Nat) (body : PWk) : PWk := fun p b => match wi1 (wrd t n p) with
  | none => .inl (1, p)
  | some k => if k = 7 then (if lv = 0 then .inl (3, p) else pb (pnum t n (skb t n (lte t n p)) 0 61) (fun x => pb (psgn t n x.2 91) (fun q => pb (body q (b + 1)) (fun y => .inr (y.1, (7, x.1, b + 1 + y.2.length) :: y.2)))))
    else if k = 6 then .inr (skb t n (lte t n p), [(6, 0, b + 1)])
    else pb (pnum t n (skb t n (lte t n p)) 0 (if k = 5 then 10 else B)) (fun x => .inr (x.2, [(k, x.1, b + 1)]))
def psn (t : Nat → Nat) (n : Nat) (ps : PWk) : PWk := fun p b => pb (ps p b) (fun x => pb (psgn t n x.1 59) (fun q => .inr (q, x.2)))
/-- steps up to a closing sign -/
def pbr (t : Nat → Nat) (n : Nat) (ps : PWk) : Nat → PWk
  | 0, _, _ => .inl (0, 0)
  | f + 1, p, b => if p < n ∧ t p = 93 then .inr (skb t n (p + 1), []) else pb (psn t n ps p b) (fun x => pb (pbr t n ps f x.1 (b + x.2.length)) (fun y => .inr (y.1, x.2 ++ y.2)))
/-- steps up to the end -/
def ptp (t : Nat → Nat) (n : Nat) (ps : PWk) : Nat → PWk
  | 0, _, _ => .inl (0, 0)
  | f + 1, p, b => if n ≤ p then .inr (p, []) else pb (psn t n ps p b) (fun x => pb (ptp t n ps f x.1 (b + x.2.length)) (fun y => .inr (y.1, x.2 ++ y.2)))
def pss (t : Nat → Nat) (n B : Nat) : Nat → PWk
  | 0 => pst0 t n B 0 (fun _ _ => .inl (0, 0))
  | L + 1 => pst0 t n B (L + 1) (pbr t n (pss t n B L) 151)
def pwork (t : Nat → Nat) (n B : Nat) : PR (List Et) := pb (ptp t n (pss t n B 6) 151 (skb t n 0) 0) (fun x => .inr x.2)
/-- an entry at place i of a plan that ends at m -/
def ew (B m i : Nat) (e : Et) : Prop := i + 1 ≤ e.2.2 ∧ e.2.2 ≤ m ∧ e.1 ≤ 7 ∧ (¬ e.1 = 7 → (e.1 ≤ 6 ∧ (e.1 ≤ 4 → e.2.1 < B) ∧ (e.1 = 5 → e.2.1 ≤ 9)) ∧ e.2.2 = i + 1) ∧ (e.1 = 7 → e.2.1 ≤ 60)
theorem ew.up {B m m' i : Nat} {e : Et} (h : ew B m i e) (hm : m ≤ m') : ew B m' i e := ⟨h.1, Nat.le_trans h.2.1 hm, h.2.2⟩
def Gw0 (t : Nat → Nat) (n B : Nat) (ps : PWk) : Prop := ∀ p b q R, p ≤ n → ps p b = .inr (q, R) → p + 3 * R.length ≤ q ∧ q ≤ n ∧ skb t n q = q ∧ p < q ∧ ∀ i e, R[i]? = some e → ew B (b + R.length) (b + i) e
theorem wi1_lt {w : List Nat} {k : Nat} (h : wi1 w = some k) : k < 8 ∧ 3 ≤ w.length := by
  unfold wi1 at h
  repeat' split at h
  all_goals first | (rename_i z; cases h; rw [z]; decide) | (cases h; simp_all; done) | cases h
theorem wrd_len (t : Nat → Nat) (n p : Nat) : (wrd t n p).length = lte t n p - p := by unfold wrd; simp
theorem pnum_in {t : Nat → Nat} {n p lo hi v q : Nat} (hp : p ≤ n) (h : pnum t n p lo hi = .inr (v, q)) : (p < n ∧ isD (t p) = true) ∧ lo ≤ v ∧ v < hi ∧ p < q ∧ q ≤ n ∧ skb t n q = q := by
  unfold pnum at h
  split at h
  · rename_i c
    split at h
    · rename_i c2
      have hd := dge_gt c.1 c.2
      have hl := dge_le (t := t) hp
      have g0 := skb_ge t n (dge t n p)
      cases h
      exact ⟨c, c2.1, c2.2, by omega, skb_le hl, skb_idem hl⟩
    · cases h
  · cases h
theorem Gw_app {B b m : Nat} {R1 R2 : List Et} (h1 : ∀ i e, R1[i]? = some e → ew B (b + R1.length) (b + i) e) (h2 : ∀ i e, R2[i]? = some e → ew B (b + R1.length + R2.length) (b + R1.length + i) e) (hm : m = b + (R1 ++ R2).length) : ∀ i e, (R1 ++ R2)[i]? = some e → ew B m (b + i) e := by
  intro i e he
  have hm2 : m = b + R1.length + R2.length := by rw [hm, List.length_append]; omega
  rw [hm2]
  by_cases c : i < R1.length
  · rw [List.getElem?_append_left c] at he
    exact (h1 i e he).up (by omega)
  · rw [List.getElem?_append_right (by omega)] at he
    have := h2 (i - R1.length) e he
    rw [show b + R1.length + (i - R1.length) = b + i by omega] at this
    exact this
theorem Gw_n {t : Nat → Nat} {n B : Nat} {ps : PWk} (h : Gw0 t n B ps) : Gw0 t n B (psn t n ps) := by
  intro p b q R hp e
  obtain ⟨⟨q1, R1⟩, e1, e2⟩ := pb_inr e
  obtain ⟨q2, e3, e4⟩ := pb_inr e2
  cases e4
  obtain ⟨a1, a2, a3, a4, a5⟩ := h _ _ _ _ hp e1
  obtain ⟨-, -, -, b4, b5, b6⟩ := psgn_in e3
  exact ⟨by simp only at *; omega, b5, b6, by simp only at *; omega, a5⟩
theorem Gw_br {t : Nat → Nat} {n B : Nat} {ps : PWk} (h : Gw0 t n B ps) : ∀ f, Gw0 t n B (pbr t n ps f) := by
  intro f
  induction f with
  | zero => intro p b q R hp e; cases e
  | succ f ih =>
    intro p b q R hp e
    unfold pbr at e
    split at e
    · rename_i c
      cases e
      have g0 := skb_ge t n (p + 1)
      exact ⟨by simp only [List.length_nil]; omega, skb_le (by omega), skb_idem (by omega), by omega, fun i e he => by simp at he⟩
    · obtain ⟨⟨q1, R1⟩, e1, e2⟩ := pb_inr e
      obtain ⟨⟨q2, R2⟩, e3, e4⟩ := pb_inr e2
      cases e4
      obtain ⟨a1, a2, a3, a4, a5⟩ := Gw_n h _ _ _ _ hp e1
      obtain ⟨b1, b2, b3, b4, b5⟩ := ih _ _ _ _ a2 e3
      exact ⟨by simp only [List.length_append]; omega, b2, b3, by omega, Gw_app a5 b5 rfl⟩
theorem Gw_tp {t : Nat → Nat} {n B : Nat} {ps : PWk} (h : Gw0 t n B ps) : ∀ f p b q R, p ≤ n → skb t n p = p → ptp t n ps f p b = .inr (q, R) → p + 3 * R.length ≤ q ∧ q = n ∧ ∀ i e, R[i]? = some e → ew B (b + R.length) (b + i) e := by
  intro f
  induction f with
  | zero => intro p b q R hp _ e; cases e
  | succ f ih =>
    intro p b q R hp hs e
    unfold ptp at e
    split at e
    · cases e
      exact ⟨by simp only [List.length_nil]; omega, by omega, fun i e he => by simp at he⟩
    · obtain ⟨⟨q1, R1⟩, e1, e2⟩ := pb_inr e
      obtain ⟨⟨q2, R2⟩, e3, e4⟩ := pb_inr e2
      cases e4
      obtain ⟨a1, a2, a3, a4, a5⟩ := Gw_n h _ _ _ _ hp e1
      obtain ⟨b1, b2, b5⟩ := ih _ _ _ _ a2 a3 e3
      exact ⟨by simp only [List.length_append]; omega, b2, Gw_app a5 b5 rfl⟩
theorem Gw_0 {t : Nat → Nat} {n B lv : Nat} {body : PWk} (h : lv = 0 ∨ Gw0 t n B body) : Gw0 t n B (pst0 t n B lv body) := by
  intro p b q R hp e
  unfold pst0 at e
  split at e
  · cases e
  · rename_i k hk
    obtain ⟨hk8, hw3⟩ := wi1_lt hk
    rw [wrd_len] at hw3
    have hl := lte_le (t := t) hp
    have g0 := skb_ge t n (lte t n p)
    have gn : skb t n (lte t n p) ≤ n := skb_le hl
    split at e
    · rename_i c7
      split at e
      · cases e
      · rename_i c2
        have h := h.resolve_left c2
        obtain ⟨⟨v, q1⟩, e1, e⟩ := pb_inr e
        obtain ⟨q2, e2, e⟩ := pb_inr e
        obtain ⟨⟨q3, R3⟩, e3, e⟩ := pb_inr e
        cases e
        obtain ⟨-, -, a3, a4, a5, a6⟩ := pnum_in gn e1
        obtain ⟨-, -, -, b4, b5, b6⟩ := psgn_in e2
        obtain ⟨d1, d2, d3, d4, d5⟩ := h _ _ _ _ b5 e3
        refine ⟨by simp only [List.length_cons] at *; omega, d2, d3, by simp only at *; omega, fun i e he => ?_⟩
        rcases i with _ | i
        · simp at he
          rw [← he]
          exact ⟨by show b + 0 + 1 ≤ b + 1 + R3.length; omega, by show b + 1 + R3.length ≤ b + (R3.length + 1); omega, by show 7 ≤ 7; omega, fun z => absurd rfl z, fun _ => by show v ≤ 60; omega⟩
        · simp at he
          have := d5 i e he
          rw [show b + 1 + i = b + (i + 1) by omega] at this
          exact this.up (by simp only [List.length_cons]; omega)
    · rename_i c7
      split at e
      · cases e
        refine ⟨by simp only [List.length_cons, List.length_nil]; omega, gn, skb_idem hl, by omega, fun i e he => ?_⟩
        rcases i with _ | i
        · simp at he
          rw [← he]
          exact ⟨by show b + 0 + 1 ≤ b + 1; omega, by show b + 1 ≤ b + 1; omega, by show 6 ≤ 7; omega, fun z => ⟨⟨by show 6 ≤ 6; omega, fun y => absurd y (by show ¬ 6 ≤ 4; omega), fun y => absurd y (by show ¬ 6 = 5; omega)⟩, rfl⟩, fun z => absurd z (by show ¬ 6 = 7; omega)⟩
        · simp at he
      · rename_i c6
        obtain ⟨⟨v, q1⟩, e1, e⟩ := pb_inr e
        cases e
        obtain ⟨-, -, a3, a4, a5, a6⟩ := pnum_in gn e1
        refine ⟨by simp only [List.length_cons, List.length_nil] at *; omega, a5, a6, by simp only at *; omega, fun i e he => ?_⟩
        rcases i with _ | i
        · simp at he
          rw [← he]
          refine ⟨by show b + 0 + 1 ≤ b + 1; omega, by show b + 1 ≤ b + 1; omega, by show k ≤ 7; omega, fun z => ⟨⟨by show k ≤ 6; omega, fun y => ?_, fun y => ?_⟩, rfl⟩, fun z => absurd z c7⟩
          · have y : k ≤ 4 := y
            rw [if_neg (by omega)] at a3; exact a3
          · have y : k = 5 := y
            rw [if_pos y] at a3; show v ≤ 9; omega
        · simp at he
theorem Gw_ss {t : Nat → Nat} {n B : Nat} (L : Nat) : Gw0 t n B (pss t n B L) := by
  induction L with
  | zero => exact Gw_0 (Or.inl rfl)
  | succ L ih => exact Gw_0 (Or.inr (Gw_br ih 151))
theorem pwork_ok {t : Nat → Nat} {n B : Nat} {R : List Et} (hn : n ≤ 150) (h : pwork t n B = .inr R) : R.length ≤ 50 ∧ ∀ i e, R[i]? = some e → ew B R.length i e := by
  obtain ⟨⟨q, R'⟩, e1, e2⟩ := pb_inr h
  cases e2
  obtain ⟨a1, a2, a3⟩ := Gw_tp (Gw_ss 6) _ _ _ _ _ (skb_le (Nat.zero_le n)) (skb_idem (Nat.zero_le n)) e1
  refine ⟨by simp only at *; omega, fun i e he => ?_⟩
  have := a3 i e he
  rw [Nat.zero_add, Nat.zero_add] at this
  exact this
