/-! The machine's laws: a stretch of steps at a time, and one outcome alone. -/
theorem am_all_iff (ps : List Prop) (C : Prop) : am_all ps C ↔ am_all ps True ∧ C := by
  induction ps with
  | nil => simp [am_all]
  | cons p ps ih => simp only [am_all]; rw [ih, and_assoc]
theorem am_all_app (ps qs : List Prop) (C : Prop) : am_all (ps ++ qs) C ↔ am_all ps (am_all qs C) := by
  induction ps with
  | nil => exact Iff.rfl
  | cons p ps ih => simp only [List.cons_append, am_all]; rw [ih]
theorem am_all_mono {ps : List Prop} {C C' : Prop} (h : C → C') : am_all ps C → am_all ps C' := by
  intro q
  rw [am_all_iff] at q ⊢
  exact ⟨q.1, h q.2⟩
/-- a call has one outcome -/
def am_one (call : Nat → List Value → am_G → (am_O → am_G → Prop) → Prop) : Prop :=
  ∀ y as G post, call y as G post → ∃ o G', post o G' ∧ ∀ post', post' o G' → call y as G post'
theorem am_X_one {call : Nat → List Value → am_G → (am_O → am_G → Prop) → Prop} (hc : am_one call) (M : am_M) : ∀ (k pc : Nat) (ls : am_L) (st : List Value) (G : am_G) (post : am_O → am_G → Prop), am_X call M post k pc ls st G → ∃ o G', post o G' ∧ ∀ post' : am_O → am_G → Prop, post' o G' → am_X call M post' k pc ls st G := by
  intro k
  induction k with
  | zero => intro pc ls st G post h; exact h.elim
  | succ k ih =>
    intro pc ls st G post h
    simp only [am_X] at h ⊢
    cases ha : am_at M.2.1 pc with
    | none => rw [ha] at h; exact h.elim
    | some e =>
      rw [ha] at h
      simp only at h ⊢
      cases hs : am_step e pc ls st G with
      | none => rw [hs] at h; exact h.elim
      | some q =>
        obtain ⟨ps, S⟩ := q
        rw [hs] at h
        simp only at h ⊢
        rw [am_all_iff] at h
        obtain ⟨hp, h⟩ := h
        have fin : ∀ {C : Prop}, C → am_all ps C := fun c => (am_all_iff ps _).mpr ⟨hp, c⟩
        rcases S with ⟨pc', ls', st', G'⟩ | ⟨c, a, b, ls', st', G'⟩ | ⟨x, lo, ts, d, ls', st', G'⟩ | ⟨o, G'⟩ | ⟨y, as, pc', rest, t, ls', G', pc0⟩
        · obtain ⟨o, G2, h1, h2⟩ := ih _ _ _ _ _ h
          exact ⟨o, G2, h1, fun post' q => fin (h2 post' q)⟩
        · by_cases hcc : c
          · obtain ⟨o, G2, h1, h2⟩ := ih _ _ _ _ _ (h.1 hcc)
            exact ⟨o, G2, h1, fun post' q => fin ⟨fun _ => h2 post' q, fun n => absurd hcc n⟩⟩
          · obtain ⟨o, G2, h1, h2⟩ := ih _ _ _ _ _ (h.2 hcc)
            exact ⟨o, G2, h1, fun post' q => fin ⟨fun n => absurd n hcc, fun _ => h2 post' q⟩⟩
        · obtain ⟨o, G2, h1, h2⟩ := ih _ _ _ _ _ h
          exact ⟨o, G2, h1, fun post' q => fin (h2 post' q)⟩
        · exact ⟨o, G', h, fun post' q => fin q⟩
        · obtain ⟨o, G2, h1, h2⟩ := hc _ _ _ _ h
          cases o with
          | inl v =>
            simp only at h1
            cases hr : am_rt t v with
            | none => rw [hr] at h1; exact h1.elim
            | some vs =>
              rw [hr] at h1
              simp only at h1
              obtain ⟨o3, G3, h3, h4⟩ := ih _ _ _ _ _ h1
              refine ⟨o3, G3, h3, fun post' q => fin (h2 _ ?_)⟩
              simp only [hr]
              exact h4 post' q
          | inr q =>
            simp only at h1
            rcases hr : am_cat G2 q pc0 M.2.2 with _ | _ | hh
            · rw [hr] at h1
              exact h1.elim
            · rw [hr] at h1
              simp only at h1
              refine ⟨.inr q, G2, h1, fun post' q2 => fin (h2 _ ?_)⟩
              simp only [hr]
              exact q2
            · rw [hr] at h1
              simp only at h1
              obtain ⟨o3, G3, h3, h4⟩ := ih _ _ _ _ _ h1
              refine ⟨o3, G3, h3, fun post' q2 => fin (h2 _ ?_)⟩
              simp only [hr]
              exact h4 post' q2
theorem am_C_one (T : Nat → Option am_M) : ∀ d, am_one (am_C T d) := by
  intro d
  induction d with
  | zero => intro y as G post h; exact h.elim
  | succ d ih =>
    intro y as G post h
    simp only [am_C] at h ⊢
    cases hT : T y with
    | none => rw [hT] at h; exact h.elim
    | some M =>
      rw [hT] at h
      simp only at h ⊢
      cases hE : am_ent M.1 as with
      | none => rw [hE] at h; exact h.elim
      | some ls =>
        rw [hE] at h
        simp only at h ⊢
        obtain ⟨k, h⟩ := h
        obtain ⟨o, G2, h1, h2⟩ := am_X_one ih M _ _ _ _ _ _ h
        exact ⟨o, G2, h1, fun post' q => ⟨k, h2 post' q⟩⟩
theorem am_one.mono {call : Nat → List Value → am_G → (am_O → am_G → Prop) → Prop} (hc : am_one call) {y : Nat} {as : List Value} {G : am_G} {post post' : am_O → am_G → Prop} (h : call y as G post) (hi : ∀ o G', post o G' → post' o G') : call y as G post' := by
  obtain ⟨o, G2, h1, h2⟩ := hc _ _ _ _ h
  exact h2 _ (hi _ _ h1)
theorem am_swc_iff (x : Int32) (k : Nat → Prop) : ∀ (ts : List Nat) (lo : Int32) (d : Nat), am_swc x lo ts d k ↔ k (am_swt x lo ts d) := by
  intro ts
  induction ts with
  | nil => intro lo d; exact Iff.rfl
  | cons t ts ih =>
    intro lo d
    simp only [am_swc, am_swt]
    by_cases h : x = lo
    · simp [h]
    · simp [h, ih]
theorem am_W_step {call : Nat → List Value → am_G → (am_O → am_G → Prop) → Prop} (hc : am_one call) {M : am_M} {post : am_O → am_G → Prop} {pc : Nat} {ls : am_L} {st : List Value} {G : am_G} {e : am_E} {ps : List Prop} {S : am_S}
    (ha : am_at M.2.1 pc = some e) (hs : am_step e pc ls st G = some (ps, S)) : am_W call M post pc ls st G ↔ am_all ps (am_ct call M post S) := by
  have key : am_W call M post pc ls st G ↔ ∃ k, am_X call M post (k + 1) pc ls st G := by
    constructor
    · rintro ⟨k, h⟩
      cases k with
      | zero => exact h.elim
      | succ k => exact ⟨k, h⟩
    · rintro ⟨k, h⟩
      exact ⟨k + 1, h⟩
  rw [key]
  simp only [am_X, ha, hs]
  rw [am_all_iff ps (am_ct call M post S)]
  constructor
  · rintro ⟨k, h⟩
    rw [am_all_iff] at h
    obtain ⟨hp, h⟩ := h
    refine ⟨hp, ?_⟩
    rcases S with ⟨pc', ls', st', G'⟩ | ⟨c, a, b, ls', st', G'⟩ | ⟨x, lo, ts, d, ls', st', G'⟩ | ⟨o, G'⟩ | ⟨y, as, pc', rest, t, ls', G', pc0⟩
    · exact ⟨k, h⟩
    · exact ⟨fun c => ⟨k, h.1 c⟩, fun c => ⟨k, h.2 c⟩⟩
    · show am_swc _ _ _ _ _
      rw [am_swc_iff]
      exact ⟨k, h⟩
    · exact h
    · refine hc.mono h ?_
      intro o G2 q
      cases o with
      | inl v =>
        simp only at q
        simp only [am_kt]
        cases hr : am_rt t v with
        | none => rw [hr] at q; exact q
        | some vs => rw [hr] at q; exact ⟨k, q⟩
      | inr z =>
        simp only at q
        simp only [am_kt]
        rcases hr : am_cat G2 z pc0 M.2.2 with _ | _ | hh
        · rw [hr] at q; exact q
        · rw [hr] at q; exact q
        · rw [hr] at q; exact ⟨k, q⟩
  · rintro ⟨hp, h⟩
    have fin : ∀ {C : Prop}, C → am_all ps C := fun c => (am_all_iff ps _).mpr ⟨hp, c⟩
    rcases S with ⟨pc', ls', st', G'⟩ | ⟨c, a, b, ls', st', G'⟩ | ⟨x, lo, ts, d, ls', st', G'⟩ | ⟨o, G'⟩ | ⟨y, as, pc', rest, t, ls', G', pc0⟩
    · obtain ⟨k, h⟩ := h
      exact ⟨k, fin h⟩
    · by_cases hcc : c
      · obtain ⟨k, h⟩ := h.1 hcc
        exact ⟨k, fin ⟨fun _ => h, fun n => absurd hcc n⟩⟩
      · obtain ⟨k, h⟩ := h.2 hcc
        exact ⟨k, fin ⟨fun n => absurd n hcc, fun _ => h⟩⟩
    · have h : am_swc _ _ _ _ _ := h
      rw [am_swc_iff] at h
      obtain ⟨k, h⟩ := h
      exact ⟨k, fin h⟩
    · exact ⟨0, fin h⟩
    · obtain ⟨o, G2, h1, h2⟩ := hc _ _ _ _ h
      cases o with
      | inl v =>
        simp only [am_kt] at h1
        cases hr : am_rt t v with
        | none => rw [hr] at h1; exact h1.elim
        | some vs =>
          rw [hr] at h1
          obtain ⟨k, h1⟩ := h1
          refine ⟨k, fin (h2 _ ?_)⟩
          simp only [hr]
          exact h1
      | inr z =>
        simp only [am_kt] at h1
        rcases hr : am_cat G2 z pc0 M.2.2 with _ | _ | hh
        · rw [hr] at h1
          exact h1.elim
        · rw [hr] at h1
          refine ⟨0, fin (h2 _ ?_)⟩
          simp only [hr]
          exact h1
        · rw [hr] at h1
          obtain ⟨k, h1⟩ := h1
          refine ⟨k, fin (h2 _ ?_)⟩
          simp only [hr]
          exact h1
/-- a stretch of n steps -/
theorem am_seg {call : Nat → List Value → am_G → (am_O → am_G → Prop) → Prop} (hc : am_one call) {M : am_M} {post : am_O → am_G → Prop} : ∀ (n : Nat) {pc : Nat} {ls : am_L} {st : List Value} {G : am_G} (ps : List Prop) (S : am_S),
    am_n M.2.1 n pc ls st G = some (ps, S) → (am_W call M post pc ls st G ↔ am_all ps (am_ct call M post S)) := by
  intro n
  induction n with
  | zero =>
    intro pc ls st G ps S h
    simp only [am_n, Option.some.injEq, Prod.mk.injEq] at h
    obtain ⟨rfl, rfl⟩ := h
    exact Iff.rfl
  | succ n ih =>
    intro pc ls st G ps S h
    simp only [am_n] at h
    cases ha : am_at M.2.1 pc with
    | none => rw [ha] at h; cases h
    | some e =>
      rw [ha] at h
      simp only at h
      cases hs : am_step e pc ls st G with
      | none => rw [hs] at h; cases h
      | some q =>
        obtain ⟨p1, S1⟩ := q
        rw [hs] at h
        rcases S1 with ⟨pc', ls', st', G'⟩ | S2
        · simp only at h
          cases hn : am_n M.2.1 n pc' ls' st' G' with
          | none => rw [hn] at h; cases h
          | some q2 =>
            obtain ⟨p2, S3⟩ := q2
            rw [hn] at h
            simp only [Option.some.injEq, Prod.mk.injEq] at h
            obtain ⟨rfl, rfl⟩ := h
            rw [am_W_step hc ha hs, am_all_app]
            have h3 : am_ct call M post (.inl (pc', ls', st', G')) ↔ am_all p2 (am_ct call M post S3) := ih p2 S3 hn
            rw [am_all_iff p1, h3, ← am_all_iff p1]
        · simp only [Option.some.injEq, Prod.mk.injEq] at h
          obtain ⟨rfl, rfl⟩ := h
          exact am_W_step hc ha hs
