/-! Texts: bytes, blanks, digits, letters; what a number and a word are. -/
/-- a byte as the int that baload gives -/
def sb (n : Nat) : Int32 := if n < 128 then wn n else wn n - wn 256
theorem sb_toInt : ∀ n, n < 256 → (sb n).toInt = if n < 128 then (n : Int) else (n : Int) - 256 := by decide +kernel
theorem sb_sm {n : Nat} (h : n < 128) : sb n = wn n := by unfold sb; rw [if_pos h]
theorem sb_eq {n c : Nat} (hn : n < 256) (hc : c < 128) : sb n = wn c ↔ n = c := by
  have e := sb_toInt n hn
  constructor
  · intro h
    rw [h, wn_toInt (by omega)] at e
    split at e <;> omega
  · rintro rfl
    exact sb_sm hc
theorem sb_lt {n c : Nat} (hn : n < 256) (hc : c < 128) : sb n < wn c ↔ (128 ≤ n ∨ n < c) := by
  rw [Int32.lt_iff_toInt_lt, sb_toInt n hn, wn_toInt (by omega)]
  split <;> omega
theorem sb_gt {n c : Nat} (hn : n < 256) (hc : c < 128) : wn c < sb n ↔ (c < n ∧ n < 128) := by
  rw [Int32.lt_iff_toInt_lt, sb_toInt n hn, wn_toInt (by omega)]
  split <;> omega
def isD (n : Nat) : Bool := decide (48 ≤ n ∧ n ≤ 57)
def isL (n : Nat) : Bool := decide (97 ≤ n ∧ n ≤ 122)
def isB (n : Nat) : Bool := decide (n = 32)
/-- the first place from p on that isn't such -/
def rn1 (q : Nat → Bool) (t : Nat → Nat) : Nat → Nat → Nat
  | 0, p => p
  | f + 1, p => if q (t p) then rn1 q t f (p + 1) else p
def rnn (q : Nat → Bool) (t : Nat → Nat) (n p : Nat) : Nat := rn1 q t (n - p) p
theorem rn1_ge (q : Nat → Bool) (t : Nat → Nat) : ∀ f p, p ≤ rn1 q t f p := by
  intro f
  induction f with
  | zero => intro p; exact Nat.le_refl p
  | succ f ih =>
    intro p
    simp only [rn1]
    split
    · exact Nat.le_trans (Nat.le_succ p) (ih (p + 1))
    · exact Nat.le_refl p
theorem rn1_le (q : Nat → Bool) (t : Nat → Nat) : ∀ f p, rn1 q t f p ≤ p + f := by
  intro f
  induction f with
  | zero => intro p; exact Nat.le_refl p
  | succ f ih =>
    intro p
    simp only [rn1]
    split
    · have := ih (p + 1); omega
    · omega
theorem rnn_ge (q : Nat → Bool) (t : Nat → Nat) (n p : Nat) : p ≤ rnn q t n p := rn1_ge q t _ p
theorem rnn_le {q : Nat → Bool} {t : Nat → Nat} {n p : Nat} (h : p ≤ n) : rnn q t n p ≤ n := by
  have := rn1_le q t (n - p) p
  unfold rnn
  omega
theorem rnn_go {q : Nat → Bool} {t : Nat → Nat} {n p : Nat} (h : p < n) (hq : q (t p) = true) : rnn q t n p = rnn q t n (p + 1) := by
  unfold rnn
  obtain ⟨f, hf⟩ : ∃ f, n - p = f + 1 := ⟨n - p - 1, by omega⟩
  rw [hf, show n - (p + 1) = f by omega]
  simp [rn1, hq]
theorem rnn_no {q : Nat → Bool} {t : Nat → Nat} {n p : Nat} (hq : q (t p) = false) : rnn q t n p = p := by
  unfold rnn
  cases h : n - p with
  | zero => rfl
  | succ f => simp [rn1, hq]
theorem rnn_end {q : Nat → Bool} {t : Nat → Nat} {n p : Nat} (h : n ≤ p) : rnn q t n p = p := by
  unfold rnn
  rw [show n - p = 0 by omega]
  rfl
theorem rnn_stop {q : Nat → Bool} {t : Nat → Nat} : ∀ f n p, n - p = f → p ≤ n → (rnn q t n p = n ∨ q (t (rnn q t n p)) = false) := by
  intro f
  induction f with
  | zero =>
    intro n p h hp
    left
    rw [rnn_end (by omega)]
    omega
  | succ f ih =>
    intro n p h hp
    by_cases hq : q (t p) = true
    · rw [rnn_go (by omega) hq]
      exact ih n (p + 1) (by omega) (by omega)
    · right
      have : q (t p) = false := by simpa using hq
      rw [rnn_no this]
      exact this
theorem rnn_idem {q : Nat → Bool} {t : Nat → Nat} {n p : Nat} (hp : p ≤ n) : rnn q t n (rnn q t n p) = rnn q t n p := by
  rcases rnn_stop (q := q) (t := t) _ n p rfl hp with h | h
  · rw [h, rnn_end (Nat.le_refl n)]
  · exact rnn_no h
theorem rnn_all {q : Nat → Bool} {t : Nat → Nat} : ∀ f n p, n - p = f → ∀ j, p ≤ j → j < rnn q t n p → q (t j) = true := by
  intro f
  induction f with
  | zero =>
    intro n p h j h1 h2
    rw [rnn_end (by omega)] at h2
    omega
  | succ f ih =>
    intro n p h j h1 h2
    by_cases hq : q (t p) = true
    · rw [rnn_go (by omega) hq] at h2
      by_cases e : j = p
      · rw [e]; exact hq
      · exact ih n (p + 1) (by omega) j (by omega) h2
    · have : q (t p) = false := by simpa using hq
      rw [rnn_no this] at h2
      omega
/-- behind the blanks; behind the digits; behind the letters -/
def skb (t : Nat → Nat) (n p : Nat) : Nat := rnn isB t n p
def dge (t : Nat → Nat) (n p : Nat) : Nat := rnn isD t n p
def lte (t : Nat → Nat) (n p : Nat) : Nat := rnn isL t n p
/-- k digits from p on as a number -/
def dvl (t : Nat → Nat) (p : Nat) : Nat → Nat
  | 0 => 0
  | k + 1 => dvl t p k * 10 + (t (p + k) - 48)
/-- a parse: the fault's kind and place, or what was read -/
abbrev PR (α : Type) : Type := (Nat × Nat) ⊕ α
/-- a number from lo to below hi -/
def pnum (t : Nat → Nat) (n p lo hi : Nat) : PR (Nat × Nat) :=
  if p < n ∧ isD (t p) = true then (if lo ≤ dvl t p (dge t n p - p) ∧ dvl t p (dge t n p - p) < hi then .inr (dvl t p (dge t n p - p), skb t n (dge t n p)) else .inl (2, p)) else .inl (1, p)
/-- the bytes of the word that stands at p -/
def wrd (t : Nat → Nat) (n p : Nat) : List Nat := (List.range (lte t n p - p)).map (fun j => t (p + j))
/-- a sign -/
def psgn (t : Nat → Nat) (n p c : Nat) : PR Nat := if p < n ∧ t p = c then .inr (skb t n (p + 1)) else .inl (1, p)
theorem skb_ge (t : Nat → Nat) (n p : Nat) : p ≤ skb t n p := rnn_ge _ _ _ _
theorem skb_le {t : Nat → Nat} {n p : Nat} (h : p ≤ n) : skb t n p ≤ n := rnn_le h
theorem skb_idem {t : Nat → Nat} {n p : Nat} (h : p ≤ n) : skb t n (skb t n p) = skb t n p := rnn_idem h
theorem dge_le {t : Nat → Nat} {n p : Nat} (h : p ≤ n) : dge t n p ≤ n := rnn_le h
theorem dge_ge (t : Nat → Nat) (n p : Nat) : p ≤ dge t n p := rnn_ge _ _ _ _
theorem lte_le {t : Nat → Nat} {n p : Nat} (h : p ≤ n) : lte t n p ≤ n := rnn_le h
theorem lte_ge (t : Nat → Nat) (n p : Nat) : p ≤ lte t n p := rnn_ge _ _ _ _
theorem dge_gt {t : Nat → Nat} {n p : Nat} (h : p < n) (hq : isD (t p) = true) : p < dge t n p := by
  unfold dge
  rw [rnn_go h hq]
  exact rnn_ge _ _ _ _
theorem pnum_ok {t : Nat → Nat} {n p lo hi v p' : Nat} (hp : p ≤ n) (h : pnum t n p lo hi = .inr (v, p')) : p < n ∧ isD (t p) = true ∧ lo ≤ v ∧ v < hi ∧ p < p' ∧ p' ≤ n ∧ skb t n p' = p' := by
  unfold pnum at h
  split at h
  · rename_i hc
    split at h
    · rename_i hd
      simp only [Sum.inr.injEq, Prod.mk.injEq] at h
      obtain ⟨rfl, rfl⟩ := h
      have h1 := dge_gt hc.1 hc.2
      have h2 := skb_ge t n (dge t n p)
      exact ⟨hc.1, hc.2, hd.1, hd.2, by omega, skb_le (dge_le hp), skb_idem (dge_le hp)⟩
    · cases h
  · cases h
theorem psgn_ok {t : Nat → Nat} {n p c p' : Nat} (h : psgn t n p c = .inr p') : p < n ∧ t p = c ∧ p < p' ∧ p' ≤ n ∧ skb t n p' = p' := by
  unfold psgn at h
  split at h
  · rename_i hc
    simp only [Sum.inr.injEq] at h
    subst h
    have h2 := skb_ge t n (p + 1)
    exact ⟨hc.1, hc.2, by omega, skb_le (by omega), skb_idem (by omega)⟩
  · cases h
