/-! SUIT: what it says. -/
def alw (s : Nat → Bool) (b U h : Nat) : Bool := s b && bt U h == 0
def mxl (p : Nat → Bool) (c : Nat → Nat) (z : Nat) : Nat → Nat
  | 0 => z
  | h + 1 => if p h then max (mxl p c z h) (c h) else mxl p c z h
/-- the most by the last k bells, houses U being taken -/
def mo (s : Nat → Bool) (w : Nat → Nat → Nat) (H B : Nat) : Nat → Nat → Nat
  | 0, _ => 0
  | k + 1, U => mxl (alw s (B - (k + 1)) U) (fun h => w (B - (k + 1)) h + mo s w H B k (U ||| 2 ^ h)) (mo s w H B k U) H
/-- the first from j on, of n -/
def fo (q : Nat → Bool) : Nat → Nat → Int32
  | _, 0 => mm
  | j, n + 1 => if q j then wn j else fo q (j + 1) n
def nxU (U : Nat) (r : Int32) : Nat := if r = mm then U else U ||| 2 ^ r.toNatClampNeg
def pkq (s : Nat → Bool) (w : Nat → Nat → Nat) (H B k U : Nat) : Nat → Bool := fun h => alw s (B - (k + 1)) U h && (w (B - (k + 1)) h + mo s w H B k (U ||| 2 ^ h) == mo s w H B (k + 1) U)
/-- the houses of the last k bells -/
def gvf (s : Nat → Bool) (w : Nat → Nat → Nat) (H B : Nat) : Nat → Nat → Nat → Int32
  | 0, _, _ => mm
  | k + 1, U, i => if i = 0 then fo (pkq s w H B k U) 0 H else gvf s w H B k (nxU U (fo (pkq s w H B k U) 0 H)) (i - 1)
theorem mxl_facts (p : Nat → Bool) (c : Nat → Nat) (z : Nat) : ∀ n, z ≤ mxl p c z n ∧ (∀ h, h < n → p h = true → c h ≤ mxl p c z n) ∧ (mxl p c z n = z ∨ ∃ h, h < n ∧ p h = true ∧ mxl p c z n = c h) := by
  intro n
  induction n with
  | zero => exact ⟨Nat.le_refl _, fun h hh => by omega, Or.inl rfl⟩
  | succ n ih =>
    obtain ⟨i1, i2, i3⟩ := ih
    simp only [mxl]
    by_cases hp : p n = true
    · rw [if_pos hp]
      refine ⟨by omega, fun h hh ph => ?_, ?_⟩
      · by_cases e : h = n
        · rw [e]; omega
        · have := i2 h (by omega) ph; omega
      · by_cases e : mxl p c z n ≤ c n
        · exact Or.inr ⟨n, by omega, hp, by omega⟩
        · rcases i3 with a | ⟨h, h1, h2, h3⟩
          · left; omega
          · exact Or.inr ⟨h, by omega, h2, by omega⟩
    · rw [if_neg hp]
      refine ⟨i1, fun h hh ph => ?_, ?_⟩
      · by_cases e : h = n
        · rw [e] at ph; exact absurd ph hp
        · exact i2 h (by omega) ph
      · rcases i3 with a | ⟨h, h1, h2, h3⟩
        · exact Or.inl a
        · exact Or.inr ⟨h, by omega, h2, h3⟩
theorem mxl_le {p : Nat → Bool} {c : Nat → Nat} {z N : Nat} (hz : z ≤ N) (hc : ∀ h, c h ≤ N) : ∀ n, mxl p c z n ≤ N := by
  intro n
  rcases (mxl_facts p c z n).2.2 with a | ⟨h, -, -, a⟩
  · omega
  · have := hc h; omega
theorem mo_le {s : Nat → Bool} {w : Nat → Nat → Nat} {H B : Nat} (hw : ∀ b h, w b h ≤ 99) : ∀ k U, mo s w H B k U ≤ 99 * k := by
  intro k
  induction k with
  | zero => intro U; exact Nat.zero_le _
  | succ k ih =>
    intro U
    simp only [mo]
    refine mxl_le ?_ (fun h => ?_) H
    · have := ih U; omega
    · have := ih (U ||| 2 ^ h)
      have := hw (B - (k + 1)) h
      omega
theorem fo_facts (q : Nat → Bool) : ∀ n j, (fo q j n = mm ∧ ∀ h, j ≤ h → h < j + n → q h = false) ∨ ∃ h, j ≤ h ∧ h < j + n ∧ fo q j n = wn h ∧ q h = true ∧ ∀ h', j ≤ h' → h' < h → q h' = false := by
  intro n
  induction n with
  | zero => intro j; exact Or.inl ⟨rfl, fun h a b => by omega⟩
  | succ n ih =>
    intro j
    simp only [fo]
    by_cases c : q j = true
    · rw [if_pos c]
      exact Or.inr ⟨j, Nat.le_refl _, by omega, rfl, c, fun h' a b => by omega⟩
    · rw [if_neg c]
      rw [Bool.not_eq_true] at c
      rcases ih (j + 1) with ⟨a, b⟩ | ⟨h, h1, h2, h3, h4, h5⟩
      · refine Or.inl ⟨a, fun h x y => ?_⟩
        by_cases e : h = j
        · rw [e]; exact c
        · exact b h (by omega) (by omega)
      · refine Or.inr ⟨h, by omega, by omega, h3, h4, fun h' x y => ?_⟩
        by_cases e : h' = j
        · rw [e]; exact c
        · exact h5 h' (by omega) y
theorem fo_none {q : Nat → Bool} {n : Nat} (hn : n ≤ 7) (h : ∀ j, j < n → q j = false) : fo q 0 n = mm := by
  rcases fo_facts q n 0 with ⟨a, -⟩ | ⟨x, x1, x2, x3, x4, x5⟩
  · exact a
  · rw [h x (by omega)] at x4; cases x4
theorem fo_some {q : Nat → Bool} {n x : Nat} (hx : x < n) (hq : q x = true) (h : ∀ j, j < x → q j = false) : fo q 0 n = wn x := by
  rcases fo_facts q n 0 with ⟨a, b⟩ | ⟨y, y1, y2, y3, y4, y5⟩
  · rw [b x (Nat.zero_le _) (by omega)] at hq; cases hq
  · have : y = x := by
      rcases Nat.lt_trichotomy y x with c | c | c
      · rw [h y c] at y4; cases y4
      · exact c
      · rw [y5 x (Nat.zero_le _) c] at hq; cases hq
    rw [y3, this]
/-- the reference's way through the houses: the best so far (one more than it), and by which house -/
def xsu (p : Nat → Bool) (c : Nat → Nat) (S x : Nat) : Nat → Nat × Option Nat
  | 0 => (x, none)
  | h + 1 => if p h = true ∧ (xsu p c S x h).1 ≤ S + c h then (S + c h + 1, some h) else xsu p c S x h
theorem xsu_facts (p : Nat → Bool) (c : Nat → Nat) (S x : Nat) : ∀ n, x ≤ (xsu p c S x n).1 ∧ (∀ h, h < n → p h = true → S + c h + 1 ≤ (xsu p c S x n).1) ∧ ((xsu p c S x n).2 = none → (xsu p c S x n).1 = x) ∧ ∀ j, (xsu p c S x n).2 = some j → j < n ∧ p j = true ∧ (xsu p c S x n).1 = S + c j + 1 ∧ x ≤ S + c j ∧ ∀ h, h < j → p h = true → c h < c j := by
  intro n
  induction n with
  | zero => exact ⟨Nat.le_refl _, fun h hh => by omega, fun _ => rfl, fun j hj => by cases hj⟩
  | succ n ih =>
    obtain ⟨i1, i2, i3, i4⟩ := ih
    simp only [xsu]
    by_cases hp : p n = true ∧ (xsu p c S x n).1 ≤ S + c n
    · rw [if_pos hp]
      refine ⟨by show x ≤ S + c n + 1; omega, fun h hh ph => ?_, (fun z => by cases z), fun j hj => ?_⟩
      · show S + c h + 1 ≤ S + c n + 1
        by_cases e : h = n
        · rw [e]; omega
        · have := i2 h (by omega) ph; omega
      · have e : n = j := by injection hj
        subst e
        refine ⟨by omega, hp.1, rfl, by omega, fun h hh ph => ?_⟩
        have := i2 h hh ph
        omega
    · rw [if_neg hp]
      refine ⟨i1, fun h hh ph => ?_, i3, fun j hj => ?_⟩
      · by_cases e : h = n
        · rw [e] at ph ⊢
          have : ¬ (xsu p c S x n).1 ≤ S + c n := fun z => hp ⟨ph, z⟩
          omega
        · exact i2 h (by omega) ph
      · obtain ⟨a, b⟩ := i4 j hj
        exact ⟨by omega, b⟩
/-- what the whole way gives -/
theorem xsu_end (s : Nat → Bool) (w : Nat → Nat → Nat) (H B k U S x : Nat) (hH : H ≤ 7) :
    (x ≤ S + mo s w H B (k + 1) U → ((xsu (alw s (B - (k + 1)) U) (fun h => w (B - (k + 1)) h + mo s w H B k (U ||| 2 ^ h)) S x H).1 ≤ S + mo s w H B k U → mo s w H B (k + 1) U = mo s w H B k U ∧ fo (pkq s w H B k U) 0 H = mm) ∧
      (¬ (xsu (alw s (B - (k + 1)) U) (fun h => w (B - (k + 1)) h + mo s w H B k (U ||| 2 ^ h)) S x H).1 ≤ S + mo s w H B k U → ∃ j, (xsu (alw s (B - (k + 1)) U) (fun h => w (B - (k + 1)) h + mo s w H B k (U ||| 2 ^ h)) S x H).2 = some j ∧ j < H ∧ fo (pkq s w H B k U) 0 H = wn j ∧ (xsu (alw s (B - (k + 1)) U) (fun h => w (B - (k + 1)) h + mo s w H B k (U ||| 2 ^ h)) S x H).1 = S + mo s w H B (k + 1) U + 1)) ∧
    (¬ x ≤ S + mo s w H B (k + 1) U → (xsu (alw s (B - (k + 1)) U) (fun h => w (B - (k + 1)) h + mo s w H B k (U ||| 2 ^ h)) S x H).2 = none ∧ (xsu (alw s (B - (k + 1)) U) (fun h => w (B - (k + 1)) h + mo s w H B k (U ||| 2 ^ h)) S x H).1 = x ∧ ¬ x ≤ S + mo s w H B k U) := by
  have e : mo s w H B (k + 1) U = mxl (alw s (B - (k + 1)) U) (fun h => w (B - (k + 1)) h + mo s w H B k (U ||| 2 ^ h)) (mo s w H B k U) H := rfl
  have hq : ∀ h, pkq s w H B k U h = (alw s (B - (k + 1)) U h && (w (B - (k + 1)) h + mo s w H B k (U ||| 2 ^ h) == mo s w H B (k + 1) U)) := fun h => rfl
  generalize hc : (fun h => w (B - (k + 1)) h + mo s w H B k (U ||| 2 ^ h)) = c at e ⊢
  have hq2 : ∀ h, pkq s w H B k U h = (alw s (B - (k + 1)) U h && (c h == mo s w H B (k + 1) U)) := fun h => by rw [hq, ← hc]
  generalize alw s (B - (k + 1)) U = p at e hq2 ⊢
  generalize mo s w H B k U = z at e ⊢
  generalize mo s w H B (k + 1) U = N at e hq2 ⊢
  obtain ⟨m1, m2, m3⟩ := mxl_facts p c z H
  rw [← e] at m1 m2 m3
  obtain ⟨x1, x2, x3, x4⟩ := xsu_facts p c S x H
  generalize hX : xsu p c S x H = X at x1 x2 x3 x4 ⊢
  refine ⟨fun hN => ⟨fun hz => ?_, fun hz => ?_⟩, fun hN => ?_⟩
  · have eN : N = z := by
      rcases m3 with a | ⟨h, h1, h2, h3⟩
      · exact a
      · have := x2 h h1 h2; omega
    refine ⟨eN, fo_none hH (fun j hj => ?_)⟩
    rw [hq2]
    cases hp : p j with
    | false => rfl
    | true =>
      have := x2 j hj hp
      have c1 : ¬ c j = N := by omega
      simp [c1]
  · cases h2 : X.2 with
    | none =>
      have := x3 h2
      rcases m3 with a | ⟨h, g1, g2, g3⟩
      · omega
      · have := x2 h g1 g2; omega
    | some j =>
      obtain ⟨y1, y2, y3, y4, y5⟩ := x4 j h2
      have eN : N = c j := by
        have a1 := m2 j y1 y2
        rcases m3 with a | ⟨h, g1, g2, g3⟩
        · omega
        · have := x2 h g1 g2; omega
      refine ⟨j, rfl, y1, fo_some y1 ?_ (fun h hh => ?_), by omega⟩
      · rw [hq2, y2, eN]; simp
      · rw [hq2]
        cases hp : p h with
        | false => rfl
        | true =>
          have := y5 h hh hp
          have c1 : ¬ c h = N := by omega
          simp [c1]
  · cases h2 : X.2 with
    | none => exact ⟨rfl, x3 h2, by omega⟩
    | some j =>
      obtain ⟨y1, y2, y3, y4, y5⟩ := x4 j h2
      have := m2 j y1 y2
      omega
