/-! The book: what its text says. -/
theorem pig : ∀ (H : Nat) (l : List Nat), l.Nodup → (∀ x ∈ l, x < H) → l.length ≤ H := by
  intro H
  induction H with
  | zero =>
    intro l _ h
    rcases l with _ | ⟨x, l⟩
    · exact Nat.le_refl _
    · exact absurd (h x (List.mem_cons_self ..)) (Nat.not_lt_zero x)
  | succ H ih =>
    intro l hd h
    by_cases c : H ∈ l
    · have e := List.length_erase_of_mem c
      have := ih (l.erase H) (hd.sublist List.erase_sublist) (fun x hx => by
        rw [hd.mem_erase_iff] at hx
        have := h x hx.2
        have := hx.1
        omega)
      omega
    · have := ih l hd (fun x hx => by
        have h1 := h x hx
        have h2 : x ≠ H := fun z => c (z ▸ hx)
        omega)
      omega
def pbk (t : Nat → Nat) (n H : Nat) : Nat → Nat → List (Nat × Nat) → PR (List (Nat × Nat))
  | 0, _, acc => .inr acc
  | f + 1, p, acc => if n ≤ p then .inr acc else pb (pnum t n p 0 H) (fun x => if (acc.map Prod.fst).contains x.1 then .inl (2, p) else pb (pnum t n x.2 0 100) (fun y => pb (psgn t n y.2 59) (fun q => pbk t n H f q (acc ++ [(x.1, y.1)]))))
