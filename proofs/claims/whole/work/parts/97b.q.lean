/-! The book: what its text says. -/
theorem pig : ∀ (H : Nat) (l : List Nat), l.Nodup → (∀ x ∈ l, x < H) → l.length ≤ H := by
  intro H
  induction H with
  | zero =>
    intro l _ h
    rcases l with _ | ⟨x, l⟩
    · exact Nat.le_refl _
    · exact absurd (h x (List.mem_cons_self ..)) (Nat.not_lt_zero x)
  | succ H ih =>
    intro l hd h
    by_cases c : H ∈ l
    · have e := List.length_erase_of_mem c
      have := ih (l.erase H) (hd.sublist List.erase_sublist) (fun x hx => by
        rw [hd.mem_erase_iff] at hx
        have := h x hx.2
        have := hx.1
        omega)
      omega
    · have := ih l hd (fun x hx => by
        have h1 := h x hx
        have h2 : x ≠ H := fun z => c (z ▸ hx)
        omega)
      omega
def pbk (t : Nat → Nat) (n H : Nat) : Nat → Nat → List (Nat × Nat) → PR (List (Nat × Nat))
  | 0, _, acc => .inr acc
  | f + 1, p, acc => if n ≤ p then .inr acc else pb (pnum t n p 0 H) (fun x => if (acc.map Prod.fst).contains x.1 then .inl (2, p) else pb (pnum t n x.2 0 100) (fun y => pb (psgn t n y.2 59) (fun q => pbk t n H f q (acc ++ [(x.1, y.1)]))))
/-- a book's leaves: distinct houses that stand, gains up to 99 -/
def okB (H : Nat) (acc : List (Nat × Nat)) : Prop := (acc.map Prod.fst).Nodup ∧ ∀ x ∈ acc, x.1 < H ∧ x.2 ≤ 99
theorem okB.len {H : Nat} {acc : List (Nat × Nat)} (h : okB H acc) : acc.length ≤ H := by
  have := pig H (acc.map Prod.fst) h.1 (fun x hx => by
    rw [List.mem_map] at hx
    obtain ⟨y, hy, rfl⟩ := hx
    exact (h.2 y hy).1)
  rw [List.length_map] at this
  exact this
theorem okB.nil (H : Nat) : okB H [] := ⟨List.nodup_nil, fun x hx => absurd hx List.not_mem_nil⟩
theorem okB.add {H u v : Nat} {acc : List (Nat × Nat)} (h : okB H acc) (hu : u < H) (hv : v < 100) (hc : ¬ (acc.map Prod.fst).contains u = true) : okB H (acc ++ [(u, v)]) := by
  refine ⟨?_, fun x hx => ?_⟩
  · rw [List.map_append, List.nodup_append]
    refine ⟨h.1, by simp, fun a ha b hb => ?_⟩
    simp at hb
    rw [hb]
    intro z
    rw [z] at ha
    exact hc (by rw [List.contains_iff_mem]; exact ha)
  · rw [List.mem_append, List.mem_singleton] at hx
    rcases hx with z | z
    · exact h.2 x z
    · rw [z]; exact ⟨hu, by show v ≤ 99; omega⟩
theorem pbk_ok {t : Nat → Nat} {n H : Nat} : ∀ f p acc R, p ≤ n → okB H acc → pbk t n H f p acc = .inr R → okB H R := by
  intro f
  induction f with
  | zero => intro p acc R _ h e; cases e; exact h
  | succ f ih =>
    intro p acc R hp h e
    unfold pbk at e
    split at e
    · cases e; exact h
    · obtain ⟨⟨u, q1⟩, e1, e⟩ := pb_inr e
      obtain ⟨-, -, a3, a4, a5, a6⟩ := pnum_in hp e1
      split at e
      · cases e
      · rename_i c
        obtain ⟨⟨v, q2⟩, e2, e⟩ := pb_inr e
        obtain ⟨q3, e3, e⟩ := pb_inr e
        obtain ⟨-, -, b3, b4, b5, b6⟩ := pnum_in a5 e2
        obtain ⟨-, -, -, d4, d5, d6⟩ := psgn_in e3
        exact ih _ _ _ d5 (h.add a3 b3 c) e
