/-! Questions, both sides: cast, ask. -/
def huf (δ : Dt) (Λ : List Tok) (σ : St) (k h : Nat) : Nat := hearU δ Λ σ (k / 60) (k % 60 + 1) h
theorem huf_le (δ : Dt) (Λ : List Tok) (σ : St) (k h : Nat) : huf δ Λ σ k h ≤ 99 := hl_le _ _
def fit (δ : Dt) (Λ : List Tok) (σ : St) (bk : List (Nat × Nat)) (k : Nat) : Bool := bk.all (fun x => huf δ Λ σ k x.1 == x.2)
def tol (bk : List (Nat × Nat)) (h : Nat) : Bool := bk.any (fun x => x.1 == h)
def pc (p : Nat → Bool) : Nat → Nat
  | 0 => 0
  | k + 1 => pc p k + b01 (p k)
theorem pc_le (p : Nat → Bool) : ∀ k, pc p k ≤ k := by
  intro k
  induction k with
  | zero => exact Nat.le_refl _
  | succ k ih => simp only [pc]; have := b01_lt (p k); omega
def fi (p : Nat → Bool) : Nat → Int32
  | 0 => mm
  | k + 1 => if p k = true ∧ pc p k = 0 then wn (100 * (k / 60) + (k % 60 + 1)) else fi p k
def cnt (δ : Dt) (Λ : List Tok) (σ : St) (bk : List (Nat × Nat)) (h v : Nat) : Nat → Nat := pc (fun k => fit δ Λ σ bk k && (huf δ Λ σ k h == v))
def mx (f : Nat → Nat) : Nat → Nat
  | 0 => 0
  | n + 1 => max (mx f n) (f n)
theorem mx_le {f : Nat → Nat} {c : Nat} (h : ∀ j, f j ≤ c) : ∀ n, mx f n ≤ c := by
  intro n
  induction n with
  | zero => exact Nat.zero_le _
  | succ n ih => simp only [mx]; have := h n; omega
theorem mx_congr {f g : Nat → Nat} : ∀ n, (∀ j, j < n → f j = g j) → mx f n = mx g n := by
  intro n
  induction n with
  | zero => intro _; rfl
  | succ n ih => intro h; simp only [mx]; rw [ih (fun j hj => h j (by omega)), h n (by omega)]
theorem mx_upd {f g : Nat → Nat} {v : Nat} (hv : f v ≤ g v) : ∀ n, v < n → (∀ j, j < n → j ≠ v → g j = f j) → mx g n = max (mx f n) (g v) := by
  intro n
  induction n with
  | zero => intro h; omega
  | succ n ih =>
    intro h hj
    simp only [mx]
    by_cases e : v = n
    · subst e
      rw [mx_congr v (fun j hl => hj j (by omega) (by omega))]
      omega
    · rw [ih (by omega) (fun j hl hn => hj j (by omega) hn), hj n (by omega) (by omega)]
      omega
def wst (δ : Dt) (Λ : List Tok) (σ : St) (bk : List (Nat × Nat)) (h : Nat) : Nat → Nat
  | 0 => 0
  | k + 1 => if fit δ Λ σ bk k then max (wst δ Λ σ bk h k) (cnt δ Λ σ bk h (huf δ Λ σ k h) (k + 1)) else wst δ Λ σ bk h k
theorem wst_mx (δ : Dt) (Λ : List Tok) (σ : St) (bk : List (Nat × Nat)) (h : Nat) : ∀ k, wst δ Λ σ bk h k = mx (fun v => cnt δ Λ σ bk h v k) 100 := by
  intro k
  induction k with
  | zero =>
    have : ∀ n, mx (fun v => cnt δ Λ σ bk h v 0) n = 0 := by
      intro n
      induction n with
      | zero => rfl
      | succ n ih => simp only [mx]; rw [ih]; rfl
    exact (this 100).symm
  | succ k ih =>
    simp only [wst]
    cases hf : fit δ Λ σ bk k with
    | false =>
      simp only [Bool.false_eq_true, if_false]
      rw [ih]
      apply mx_congr
      intro v _
      simp only [cnt, pc, hf, Bool.false_and, b01, Bool.false_eq_true, if_false, Nat.add_zero]
    | true =>
      simp only [if_true]
      have hle := huf_le δ Λ σ k h
      rw [ih, mx_upd (f := fun v => cnt δ Λ σ bk h v k) (g := fun v => cnt δ Λ σ bk h v (k + 1)) (v := huf δ Λ σ k h)]
      · simp only [cnt, pc]; omega
      · omega
      · intro j _ hne
        simp only [cnt, pc, hf, Bool.true_and]
        have : (huf δ Λ σ k h == j) = false := by simp only [beq_eq_false_iff_ne]; omega
        rw [this]
        rfl
/-- the house to ask next: how many are left, the house -/
def af (δ : Dt) (Λ : List Tok) (σ : St) (bk : List (Nat × Nat)) : Nat → Option (Nat × Nat)
  | 0 => none
  | h + 1 => if tol bk h then af δ Λ σ bk h else match af δ Λ σ bk h with
    | none => some (wst δ Λ σ bk h 600, h)
    | some w => if wst δ Λ σ bk h 600 < w.1 then some (wst δ Λ σ bk h 600, h) else some w
theorem cnt_le (δ : Dt) (Λ : List Tok) (σ : St) (bk : List (Nat × Nat)) (h v k : Nat) : cnt δ Λ σ bk h v k ≤ k := pc_le _ k
theorem wst_le (δ : Dt) (Λ : List Tok) (σ : St) (bk : List (Nat × Nat)) (h k : Nat) : wst δ Λ σ bk h k ≤ k := by
  rw [wst_mx]
  exact mx_le (fun v => cnt_le δ Λ σ bk h v k) 100
theorem af_lt {δ : Dt} {Λ : List Tok} {σ : St} {bk : List (Nat × Nat)} : ∀ h w, af δ Λ σ bk h = some w → w.1 ≤ 600 ∧ w.2 < h := by
  intro h
  induction h with
  | zero => intro w e; cases e
  | succ h ih =>
    intro w e
    simp only [af] at e
    have hw := wst_le δ Λ σ bk h 600
    split at e
    · have := ih w e; exact ⟨this.1, by omega⟩
    · cases ha : af δ Λ σ bk h with
      | none => rw [ha] at e; cases e; exact ⟨hw, by omega⟩
      | some v =>
        have := ih v ha
        rw [ha] at e
        simp only at e
        split at e
        · cases e; exact ⟨hw, by omega⟩
        · cases e; exact ⟨this.1, by omega⟩
/-! the book by lines and by houses -/
theorem pw_inj {bk : List (Nat × Nat)} (hp : bk.Pairwise (fun x y => x.1 ≠ y.1)) : ∀ x ∈ bk, ∀ y ∈ bk, x.1 = y.1 → x = y := by
  induction hp with
  | nil => intro x hx; cases hx
  | cons hd _ ih =>
    intro x hx y hy e
    rcases List.mem_cons.mp hx with rfl | hx'
    · rcases List.mem_cons.mp hy with rfl | hy'
      · rfl
      · exact absurd e (hd y hy')
    · rcases List.mem_cons.mp hy with rfl | hy'
      · exact absurd e.symm (hd x hx')
      · exact ih x hx' y hy' e
/-- a line of a house: whether it is right -/
def okh (δ : Dt) (Λ : List Tok) (σ : St) (bk : List (Nat × Nat)) (k h : Nat) : Bool := match bk.find? (fun x => x.1 == h) with
  | some x => decide (huf δ Λ σ k h = x.2)
  | none => true
def fa (δ : Dt) (Λ : List Tok) (σ : St) (bk : List (Nat × Nat)) (k : Nat) : Nat → Bool
  | 0 => true
  | h + 1 => fa δ Λ σ bk k h && okh δ Λ σ bk k h
theorem fa_iff {δ : Dt} {Λ : List Tok} {σ : St} {bk : List (Nat × Nat)} {k : Nat} : ∀ n, fa δ Λ σ bk k n = true ↔ ∀ h, h < n → okh δ Λ σ bk k h = true := by
  intro n
  induction n with
  | zero => exact ⟨fun _ h hh => by omega, fun _ => rfl⟩
  | succ n ih =>
    simp only [fa, Bool.and_eq_true, ih]
    constructor
    · rintro ⟨a, b⟩ h hh
      by_cases e : h = n
      · rw [e]; exact b
      · exact a h (by omega)
    · intro a; exact ⟨fun h hh => a h (by omega), a n (by omega)⟩
theorem fa_fit {δ : Dt} {Λ : List Tok} {σ : St} {bk : List (Nat × Nat)} {k H : Nat} (hp : bk.Pairwise (fun x y => x.1 ≠ y.1)) (hk : ∀ x ∈ bk, x.1 < H) : fa δ Λ σ bk k H = fit δ Λ σ bk k := by
  have key : fa δ Λ σ bk k H = true ↔ fit δ Λ σ bk k = true := by
    rw [fa_iff]
    unfold fit
    rw [List.all_eq_true]
    constructor
    · intro a x hx
      have := a x.1 (hk x hx)
      unfold okh at this
      cases hf : bk.find? (fun y => y.1 == x.1) with
      | none =>
        have := List.find?_eq_none.mp hf x hx
        simp at this
      | some y =>
        rw [hf] at this
        simp only [decide_eq_true_eq] at this
        have h1 := List.find?_some hf
        have h2 := List.mem_of_find?_eq_some hf
        simp only [beq_iff_eq] at h1
        have := pw_inj hp y h2 x hx h1
        subst this
        simp only [beq_iff_eq]
        assumption
    · intro a h hh
      unfold okh
      cases hf : bk.find? (fun y => y.1 == h) with
      | none => rfl
      | some y =>
        have h1 := List.find?_some hf
        have h2 := List.mem_of_find?_eq_some hf
        simp only [beq_iff_eq] at h1
        have := a y h2
        simp only [beq_iff_eq] at this
        simp only [decide_eq_true_eq]
        rw [← h1]
        exact this
  cases h1 : fa δ Λ σ bk k H with
  | true => rw [key.mp h1]
  | false =>
    cases h2 : fit δ Λ σ bk k with
    | true => rw [key.mpr h2] at h1; cases h1
    | false => rfl
theorem bkv_tol {bk : List (Nat × Nat)} {h : Nat} : (bkv bk h = mm ∧ tol bk h = false ∧ bk.find? (fun x => x.1 == h) = none) ∨ (∃ x, x ∈ bk ∧ bkv bk h = wn x.2 ∧ tol bk h = true ∧ bk.find? (fun x => x.1 == h) = some x) := by
  unfold bkv tol
  cases hf : bk.find? (fun x => x.1 == h) with
  | none =>
    left
    refine ⟨rfl, ?_, rfl⟩
    rw [Bool.eq_false_iff]
    intro z
    obtain ⟨x, hx, e⟩ := List.any_eq_true.mp z
    exact List.find?_eq_none.mp hf x hx e
  | some x =>
    right
    have h2 := List.mem_of_find?_eq_some hf
    have h1 := List.find?_some hf
    exact ⟨x, h2, rfl, List.any_eq_true.mpr ⟨x, h2, h1⟩, rfl⟩
def GS : Nat → Nat → Prop := fun a i => a = 22 ∨ a = 25 ∨ a = 26 ∨ (a = 106 ∧ 3 ≤ i) ∨ a = 109
def BI (G : am_G) (q l : Nat) (δ : Dt) (Λ : List Tok) (σ : St) (bk : List (Nat × Nat)) : Prop := CI G q l δ Λ σ ∧ ∀ h, h < 7 → am_gI G 107 h = bkv bk h
theorem BI.gs {G G' : am_G} {q l : Nat} {δ : Dt} {Λ : List Tok} {σ : St} {bk : List (Nat × Nat)} (h : BI G q l δ Λ σ bk) (k : Kp GS G G') : BI G' q l δ Λ σ bk :=
  ⟨⟨h.1.1.kp k, h.1.2.1.kp k (by intro a i z; unfold GS at z; omega), h.1.2.2.kp k (by intro a i z1 z2 z; unfold GS at z; omega)⟩, fun j hj => by rw [k.i (by unfold GS; omega)]; exact h.2 j hj⟩
theorem HS_gs {G G' : am_G} (k : Kp HS G G') : Kp GS G G' := k.mono (fun a i z => by unfold HS at z; unfold GS; omega)
theorem GS_q {G G' : am_G} (k : Kp GS G G') : Kp QSC G G' := k.mono (fun a i z => by unfold GS at z; unfold QSC; omega)
/-- the counts by house and value -/
def LI (G : am_G) (L : Nat → Nat → Nat) : Prop := ∀ h, h < 7 → ∀ v, v < 100 → am_gI G 109 (h * 100 + v) = wn (L h v)
theorem q106 {G : am_G} (h : Sh G) : am_gP G 106 1 = 107 ∧ am_gP G 106 2 = 108 ∧ am_gP G 106 7 = 109 := ⟨q106_1 h, q106_2 h, q106_7 h⟩
section
variable {G : am_G} {d q l : Nat} {δ : Dt} {Λ : List Tok} {σ : St} {bk : List (Nat × Nat)} {post : am_O → am_G → Prop}
theorem ct19 {m j : Nat} (hI : BI G q l δ Λ σ bk) (hm : m < 10) (hj : j < 60) (hH : sH σ < 2147483648) (hb : ∀ x ∈ bk, x.2 ≤ 99) (k : ∀ G', Kp HS G G' → post (.inl (some (.int (wn (b01 (fa δ Λ σ bk (60 * m + j) (dH δ))))))) G') : am_C am_T (d + 5) 19 [.ref 106, .ref 3, .ref 32, .int (wn m), .int (wn (j + 1))] G post := by
  have hc := am_C_one am_T (d + 4)
  have v7 := hI.1.2.1.2.2.2.2.2.1.2.1
  have ek : ∀ h, huf δ Λ σ (60 * m + j) h = hearU δ Λ σ m (j + 1) h := fun h => by unfold huf; rw [show (60 * m + j) / 60 = m by omega, show (60 * m + j) % 60 = j by omega]
  refine (we19 _ _ _ _ _ _).mpr ((wb19_0 hc _ _ _ _ _ _).mpr ?_)
  have key : ∀ f h G1, h + f = dH δ → fa δ Λ σ bk (60 * m + j) h = true → BI G1 q l δ Λ σ bk → Kp HS G G1 → am_W (am_C am_T (d + 4)) am_19 post 3 [some (.ref 106), some (.ref 3), some (.ref 32), some (.int (wn m)), some (.int (wn (j + 1))), some (.int (wn h))] [] G1 := by
    intro f
    induction f with
    | zero =>
      intro h G1 hf hfa i1 k1
      have he : h = dH δ := by omega
      subst he
      have := k G1 k1
      rw [hfa] at this
      rw [wb19_3 hc]
      simp +decide (disch := omega) only [↓wm1, wb19_54 hc, w0, w1, rI_wI, rP_wI, rL_wI, rI_wR, rP_wR, is_wI, is_wR, ia_wI, ia_wR, ow_wI, ow_wR, wn_add, wn_mul, wn_cl, wn_le, wn_lt, wn_inj, wn_ne1, wn_1ne, wn_gt1, wn_le1, nb0, nb1, am_kt, am_rt, List.cons_append, List.nil_append, true_and, and_true, not_true_eq_false, not_false_eq_true, imp_f, imp_t, implies_true, Nat.zero_add, if_true, if_false, false_and, and_false, fC i1.1.1, fW2 i1.1.1 i1.1.2.1, fD i1.1.1 i1.1.2.1.2.2.1, Nat.le_refl]
      exact this
    | succ f ih =>
      intro h G1 hf hfa i1 k1
      have c1 : ¬ dH δ ≤ h := by omega
      have hh : h < dH δ := by omega
      have eb := i1.2 h (by omega)
      rw [wb19_3 hc]
      rcases bkv_tol (bk := bk) (h := h) with ⟨z1, z2, z3⟩ | ⟨x, hx, z1, z2, z3⟩
      · rw [z1] at eb
        simp +decide (disch := omega) only [↓wm1, wb19_15 hc, wb19_48 hc, w0, w1, rI_wI, rP_wI, rL_wI, rI_wR, rP_wR, is_wI, is_wR, ia_wI, ia_wR, ow_wI, ow_wR, wn_add, wn_mul, wn_cl, wn_le, wn_lt, wn_inj, wn_ne1, wn_1ne, wn_gt1, wn_le1, nb0, nb1, am_kt, am_rt, List.cons_append, List.nil_append, true_and, and_true, not_true_eq_false, not_false_eq_true, imp_f, imp_t, implies_true, Nat.zero_add, if_true, if_false, false_and, and_false, fC i1.1.1, fW2 i1.1.1 i1.1.2.1, fD i1.1.1 i1.1.2.1.2.2.1, q106 i1.1.1, ia107 i1.1.1, eb, c1]
        exact ih (h + 1) G1 (by omega) (by simp only [fa, hfa, okh, z3, Bool.and_self]) i1 k1
      · have hx2 := hb x hx
        have hle := hl_le Λ (knv (j + 1) (hF δ h) (dst m (hE δ h)) 0 (sD σ) 0 (sH σ % 24) 6 h)
        change hearU δ Λ σ m (j + 1) h ≤ 99 at hle
        rw [z1] at eb
        simp +decide (disch := omega) only [↓wm1, wb19_15 hc, wb19_26 hc, w0, w1, rI_wI, rP_wI, rL_wI, rI_wR, rP_wR, is_wI, is_wR, ia_wI, ia_wR, ow_wI, ow_wR, wn_add, wn_mul, wn_cl, wn_le, wn_lt, wn_inj, wn_ne1, wn_1ne, wn_gt1, wn_le1, nb0, nb1, am_kt, am_rt, List.cons_append, List.nil_append, true_and, and_true, not_true_eq_false, not_false_eq_true, imp_f, imp_t, implies_true, Nat.zero_add, if_true, if_false, false_and, and_false, fC i1.1.1, fW2 i1.1.1 i1.1.2.1, fD i1.1.1 i1.1.2.1.2.2.1, q106 i1.1.1, ia107 i1.1.1, eb, c1]
        refine ct83 i1.1.1 i1.1.2.1 h32 i1.1.2.2 (by omega) hh hH (fun G2 k2 => ?_)
        have i2 := i1.gs (HS_gs k2)
        have eb2 := i2.2 h (by omega)
        rw [z1] at eb2
        by_cases c2 : hearU δ Λ σ m (j + 1) h = x.2
        · simp +decide (disch := omega) only [↓wm1, wb19_36 hc, wb19_48 hc, w0, w1, rI_wI, rP_wI, rL_wI, rI_wR, rP_wR, is_wI, is_wR, ia_wI, ia_wR, ow_wI, ow_wR, wn_add, wn_mul, wn_cl, wn_le, wn_lt, wn_inj, wn_ne1, wn_1ne, wn_gt1, wn_le1, nb0, nb1, am_kt, am_rt, List.cons_append, List.nil_append, true_and, and_true, not_true_eq_false, not_false_eq_true, imp_f, imp_t, implies_true, Nat.zero_add, if_true, if_false, false_and, and_false, q106 i2.1.1, ia107 i2.1.1, eb2, c2, fC i2.1.1]
          exact ih (h + 1) G2 (by omega) (by simp only [fa, hfa, okh, z3, ek, c2, decide_true, Bool.and_self]) i2 (k1.trans k2)
        · simp +decide (disch := omega) only [↓wm1, wb19_36 hc, wb19_46 hc, w0, w1, rI_wI, rP_wI, rL_wI, rI_wR, rP_wR, is_wI, is_wR, ia_wI, ia_wR, ow_wI, ow_wR, wn_add, wn_mul, wn_cl, wn_le, wn_lt, wn_inj, wn_ne1, wn_1ne, wn_gt1, wn_le1, nb0, nb1, am_kt, am_rt, List.cons_append, List.nil_append, true_and, and_true, not_true_eq_false, not_false_eq_true, imp_f, imp_t, implies_true, Nat.zero_add, if_true, if_false, false_and, and_false, q106 i2.1.1, ia107 i2.1.1, eb2, c2, fC i2.1.1]
          have hff : fa δ Λ σ bk (60 * m + j) (dH δ) = false := by
            cases hq : fa δ Λ σ bk (60 * m + j) (dH δ) with
            | false => rfl
            | true =>
              have := (fa_iff _).mp hq h hh
              simp only [okh, z3, ek, decide_eq_true_eq] at this
              exact absurd this c2
          have := k G2 (k1.trans k2)
          rw [hff] at this
          exact this
  exact key (dH δ) 0 G (by omega) rfl hI (Kp.refl G)
theorem ct20 {m j : Nat} {L : Nat → Nat → Nat} (hI : BI G q l δ Λ σ bk) (hL : LI G L) (hm : m < 10) (hj : j < 60) (hH : sH σ < 2147483648) (hb : ∀ x ∈ bk, x.2 ≤ 99) (k : ∀ G', Kp (fun a _ => a = 22 ∨ a = 25 ∨ a = 26 ∨ a = 109) G G' → LI G' (fun h v => L h v + b01 (decide (h < dH δ) && (!tol bk h && (huf δ Λ σ (60 * m + j) h == v)))) → post (.inl none) G') : am_C am_T (d + 5) 20 [.ref 106, .ref 3, .ref 32, .int (wn m), .int (wn (j + 1))] G post := by
  have hc := am_C_one am_T (d + 4)
  have v7 := hI.1.2.1.2.2.2.2.2.1.2.1
  have ek : ∀ h, huf δ Λ σ (60 * m + j) h = hearU δ Λ σ m (j + 1) h := fun h => by unfold huf; rw [show (60 * m + j) / 60 = m by omega, show (60 * m + j) % 60 = j by omega]
  refine (we20 _ _ _ _ _ _).mpr ((wb20_0 hc _ _ _ _ _ _).mpr ?_)
  refine am_for (dH δ) (fun h ls G1 => BI G1 q l δ Λ σ bk ∧ Kp (fun a _ => a = 22 ∨ a = 25 ∨ a = 26 ∨ a = 109) G G1 ∧ LI G1 (fun h' v => L h' v + b01 (decide (h' < h) && (!tol bk h' && (huf δ Λ σ (60 * m + j) h' == v)))) ∧ ls = [some (.ref 106), some (.ref 3), some (.ref 32), some (.int (wn m)), some (.int (wn (j + 1))), some (.int (wn h))]) ?_ ?_ (dH δ) 0 (by omega) _ _ ⟨hI, Kp.refl G, fun h hh v hv => by rw [hL h hh v hv]; simp [b01], rfl⟩
  · rintro h hh _ G1 ⟨i1, k1, l1, rfl⟩ nx
    have c1 : ¬ dH δ ≤ h := by omega
    have eb := i1.2 h (by omega)
    have hle := hl_le Λ (knv (j + 1) (hF δ h) (dst m (hE δ h)) 0 (sD σ) 0 (sH σ % 24) 6 h)
    change hearU δ Λ σ m (j + 1) h ≤ 99 at hle
    rw [wb20_3 hc]
    rcases bkv_tol (bk := bk) (h := h) with ⟨z1, z2, z3⟩ | ⟨x, hx, z1, z2, z3⟩
    · rw [z1] at eb
      simp +decide (disch := omega) only [↓wm1, wb20_15 hc, wb20_26 hc, w0, w1, w100, rI_wI, rP_wI, rL_wI, rI_wR, rP_wR, is_wI, is_wR, ia_wI, ia_wR, ow_wI, ow_wR, wn_add, wn_mul, wn_cl, wn_le, wn_lt, wn_inj, wn_ne1, wn_1ne, wn_gt1, wn_le1, nb0, nb1, am_kt, am_rt, List.cons_append, List.nil_append, true_and, and_true, not_true_eq_false, not_false_eq_true, imp_f, imp_t, implies_true, Nat.zero_add, if_true, if_false, false_and, and_false, fC i1.1.1, fW2 i1.1.1 i1.1.2.1, fD i1.1.1 i1.1.2.1.2.2.1, q106 i1.1.1, ia107 i1.1.1, eb, c1]
      refine ct83 i1.1.1 i1.1.2.1 h32 i1.1.2.2 (by omega) hh hH (fun G2 k2 => ?_)
      have i2 := i1.gs (HS_gs k2)
      have l2 := l1 h (by omega) (hearU δ Λ σ m (j + 1) h) (by omega)
      rw [← k2.i (by unfold HS; omega)] at l2
      simp +decide (disch := omega) only [↓wm1, wb20_45 hc, wb20_51 hc, w0, w1, w100, rI_wI, rP_wI, rL_wI, rI_wR, rP_wR, is_wI, is_wR, ia_wI, ia_wR, ow_wI, ow_wR, wn_add, wn_mul, wn_cl, wn_le, wn_lt, wn_inj, wn_ne1, wn_1ne, wn_gt1, wn_le1, nb0, nb1, am_kt, am_rt, List.cons_append, List.nil_append, true_and, and_true, not_true_eq_false, not_false_eq_true, imp_f, imp_t, implies_true, Nat.zero_add, if_true, if_false, false_and, and_false, fC i2.1.1, ia109 i2.1.1, ow109 i2.1.1, l2]
      refine nx _ _ ⟨?_, ?_, fun h' hh' v hv => ?_, rfl⟩
      · exact i2.gs ((Kp.refl G2).wI (by unfold GS; omega) _)
      · exact (k1.trans (k2.mono (fun a i z => by unfold HS at z; omega))).wI (by omega) _
      · have l3 := l1 h' hh' v hv
        rw [← k2.i (by unfold HS; omega)] at l3
        rw [rI_wI]
        by_cases e : h' = h ∧ v = hearU δ Λ σ m (j + 1) h
        · obtain ⟨rfl, rfl⟩ := e
          rw [if_pos ⟨rfl, rfl⟩]
          congr 1
          simp [b01, z2, ek]
        · rw [if_neg (by omega), l3]
          congr 2
          by_cases e2 : h' = h
          · subst e2
            have : ¬ huf δ Λ σ (60 * m + j) h' = v := by rw [ek]; intro z; exact e ⟨rfl, z.symm⟩
            have hb2 : (huf δ Λ σ (60 * m + j) h' == v) = false := beq_eq_false_iff_ne.mpr this
            simp [hb2]
          · have : (h' < h + 1) = (h' < h) := by apply propext; omega
            simp only [this]
    · have hx2 := hb x hx
      rw [z1] at eb
      simp +decide (disch := omega) only [↓wm1, wb20_15 hc, wb20_51 hc, w0, w1, w100, rI_wI, rP_wI, rL_wI, rI_wR, rP_wR, is_wI, is_wR, ia_wI, ia_wR, ow_wI, ow_wR, wn_add, wn_mul, wn_cl, wn_le, wn_lt, wn_inj, wn_ne1, wn_1ne, wn_gt1, wn_le1, nb0, nb1, am_kt, am_rt, List.cons_append, List.nil_append, true_and, and_true, not_true_eq_false, not_false_eq_true, imp_f, imp_t, implies_true, Nat.zero_add, if_true, if_false, false_and, and_false, fC i1.1.1, fW2 i1.1.1 i1.1.2.1, fD i1.1.1 i1.1.2.1.2.2.1, q106 i1.1.1, ia107 i1.1.1, eb, c1]
      refine nx _ _ ⟨i1, k1, fun h' hh' v hv => ?_, rfl⟩
      rw [l1 h' hh' v hv]
      congr 2
      by_cases e2 : h' = h
      · subst e2; simp [z2]
      · have : (h' < h + 1) = (h' < h) := by apply propext; omega
        simp only [this]
  · rintro _ G1 ⟨i1, k1, l1, rfl⟩
    rw [wb20_3 hc]
    simp +decide (disch := omega) only [↓wm1, wb20_57 hc, w0, w1, w100, rI_wI, rP_wI, rL_wI, rI_wR, rP_wR, is_wI, is_wR, ia_wI, ia_wR, ow_wI, ow_wR, wn_add, wn_mul, wn_cl, wn_le, wn_lt, wn_inj, wn_ne1, wn_1ne, wn_gt1, wn_le1, nb0, nb1, am_kt, am_rt, List.cons_append, List.nil_append, true_and, and_true, not_true_eq_false, not_false_eq_true, imp_f, imp_t, implies_true, Nat.zero_add, if_true, if_false, false_and, and_false, fC i1.1.1, fW2 i1.1.1 i1.1.2.1, fD i1.1.1 i1.1.2.1.2.2.1, Nat.le_refl]
    exact k G1 k1 l1
/-- what guess leaves behind the first k pairs -/
def GI (G : am_G) (δ : Dt) (Λ : List Tok) (σ : St) (bk : List (Nat × Nat)) (k : Nat) : Prop := am_gI G 106 3 = wn (pc (fit δ Λ σ bk) k) ∧ am_gI G 106 4 = fi (fit δ Λ σ bk) k ∧ LI G (fun h v => if h < dH δ ∧ tol bk h = false then cnt δ Λ σ bk h v k else 0)
theorem ct18_b {m j : Nat} {G1 : am_G} (hp : bk.Pairwise (fun x y => x.1 ≠ y.1)) (hbk : ∀ x ∈ bk, x.1 < dH δ ∧ x.2 ≤ 99) (hm : m < 10) (hj : j < 60) (hH : sH σ < 2147483648) (i1 : BI G1 q l δ Λ σ bk) (g1 : GI G1 δ Λ σ bk (60 * m + j))
    (k : ∀ G', BI G' q l δ Λ σ bk → GI G' δ Λ σ bk (60 * m + (j + 1)) → Kp GS G1 G' → am_W (am_C am_T (d + 6)) am_18 post 29 [some (.ref 106), some (.ref 3), some (.ref 32), some (.int (wn m)), some (.int (wn (j + 2)))] [] G') :
    am_W (am_C am_T (d + 6)) am_18 post 29 [some (.ref 106), some (.ref 3), some (.ref 32), some (.int (wn m)), some (.int (wn (j + 1)))] [] G1 := by
  have hc := am_C_one am_T (d + 6)
  have c1 : ¬ 60 < j + 1 := by omega
  have b2 : ∀ x ∈ bk, x.2 ≤ 99 := fun x hx => (hbk x hx).2
  have hfa := fa_fit (δ := δ) (Λ := Λ) (σ := σ) (k := 60 * m + j) hp (fun x hx => (hbk x hx).1)
  have pl600 := pc_le (fit δ Λ σ bk) (60 * m + j)
  have ekd : (60 * m + j) / 60 = m := by omega
  have ekr : (60 * m + j) % 60 = j := by omega
  rw [wb18_29 hc]
  simp +decide (disch := omega) only [↓wm1, wb18_36 hc, w0, w1, w10, w60, w100, rI_wI, rP_wI, rL_wI, rI_wR, rP_wR, is_wI, is_wR, ia_wI, ia_wR, ow_wI, ow_wR, wn_add, wn_mul, wn_cl, wn_le, wn_lt, wn_inj, wn_ne1, wn_1ne, wn_gt1, wn_le1, nb0, nb1, am_kt, am_rt, List.cons_append, List.nil_append, true_and, and_true, not_true_eq_false, not_false_eq_true, imp_f, imp_t, implies_true, Nat.zero_add, if_true, if_false, false_and, and_false, c1, fC i1.1.1]
  refine ct19 i1 hm hj hH b2 (fun G2 k2 => ?_)
  rw [hfa]
  have i2 := i1.gs (HS_gs k2)
  have g2a : am_gI G2 106 3 = wn (pc (fit δ Λ σ bk) (60 * m + j)) := by rw [k2.i (by unfold HS; omega)]; exact g1.1
  have g2b : am_gI G2 106 4 = fi (fit δ Λ σ bk) (60 * m + j) := by rw [k2.i (by unfold HS; omega)]; exact g1.2.1
  have g2c : LI G2 (fun h v => if h < dH δ ∧ tol bk h = false then cnt δ Λ σ bk h v (60 * m + j) else 0) := fun h hh v hv => by rw [k2.i (by unfold HS; omega)]; exact g1.2.2 h hh v hv
  cases hf : fit δ Λ σ bk (60 * m + j) with
  | false =>
    simp +decide (disch := omega) only [↓wm1, wb18_45 hc, wb18_85 hc, w0, w1, w10, w60, w100, rI_wI, rP_wI, rL_wI, rI_wR, rP_wR, is_wI, is_wR, ia_wI, ia_wR, ow_wI, ow_wR, wn_add, wn_mul, wn_cl, wn_le, wn_lt, wn_inj, wn_ne1, wn_1ne, wn_gt1, wn_le1, nb0, nb1, am_kt, am_rt, List.cons_append, List.nil_append, true_and, and_true, not_true_eq_false, not_false_eq_true, imp_f, imp_t, implies_true, Nat.zero_add, if_true, if_false, false_and, and_false, b01, Bool.false_eq_true]
    refine k G2 i2 ⟨?_, ?_, fun h hh v hv => ?_⟩ (HS_gs k2)
    · rw [← Nat.add_assoc]; simp only [pc, hf, b01, Bool.false_eq_true, if_false, Nat.add_zero]; exact g2a
    · rw [← Nat.add_assoc]; simp only [fi, hf, Bool.false_eq_true, false_and, if_false]; exact g2b
    · rw [g2c h hh v hv, ← Nat.add_assoc]
      simp only [cnt, pc, hf, Bool.false_and, b01, Bool.false_eq_true, if_false, Nat.add_zero]
  | true =>
    have fin : ∀ G3, BI G3 q l δ Λ σ bk → Kp GS G1 G3 → am_gI G3 106 3 = wn (pc (fit δ Λ σ bk) (60 * m + j)) → am_gI G3 106 4 = fi (fit δ Λ σ bk) (60 * m + (j + 1)) → LI G3 (fun h v => if h < dH δ ∧ tol bk h = false then cnt δ Λ σ bk h v (60 * m + j) else 0) →
        am_W (am_C am_T (d + 6)) am_18 post 66 [some (.ref 106), some (.ref 3), some (.ref 32), some (.int (wn m)), some (.int (wn (j + 1)))] [] G3 := by
      intro G3 i3 k3 e3 e4 l3
      simp +decide (disch := omega) only [↓wm1, wb18_66 hc, w0, w1, w10, w60, w100, rI_wI, rP_wI, rL_wI, rI_wR, rP_wR, is_wI, is_wR, ia_wI, ia_wR, ow_wI, ow_wR, wn_add, wn_mul, wn_cl, wn_le, wn_lt, wn_inj, wn_ne1, wn_1ne, wn_gt1, wn_le1, nb0, nb1, am_kt, am_rt, List.cons_append, List.nil_append, true_and, and_true, not_true_eq_false, not_false_eq_true, imp_f, imp_t, implies_true, Nat.zero_add, if_true, if_false, false_and, and_false, fC i3.1.1, e3]
      have kx : Kp GS G3 (am_wI G3 106 3 (wn (pc (fit δ Λ σ bk) (60 * m + j) + 1))) := (Kp.refl G3).wI (by unfold GS; omega) _
      refine ct20 (L := fun h v => if h < dH δ ∧ tol bk h = false then cnt δ Λ σ bk h v (60 * m + j) else 0) (i3.gs kx) (fun h hh v hv => ?_) hm hj hH b2 (fun G4 k4 l4 => ?_)
      · rw [rI_wI, if_neg (by omega)]; exact l3 h hh v hv
      · have k4' : Kp GS (am_wI G3 106 3 (wn (pc (fit δ Λ σ bk) (60 * m + j) + 1))) G4 := k4.mono (fun a i z => by unfold GS; omega)
        simp +decide (disch := omega) only [↓wm1, wb18_85 hc, w0, w1, w10, w60, w100, rI_wI, rP_wI, rL_wI, rI_wR, rP_wR, is_wI, is_wR, ia_wI, ia_wR, ow_wI, ow_wR, wn_add, wn_mul, wn_cl, wn_le, wn_lt, wn_inj, wn_ne1, wn_1ne, wn_gt1, wn_le1, nb0, nb1, am_kt, am_rt, List.cons_append, List.nil_append, true_and, and_true, not_true_eq_false, not_false_eq_true, imp_f, imp_t, implies_true, Nat.zero_add, if_true, if_false, false_and, and_false]
        refine k G4 ((i3.gs kx).gs k4') ⟨?_, ?_, fun h hh v hv => ?_⟩ ((k3.trans kx).trans k4')
        · rw [k4.i (by omega), rI_wI, if_pos ⟨rfl, rfl⟩, ← Nat.add_assoc]
          simp only [pc, hf, b01, if_true]
        · rw [k4.i (by omega), rI_wI, if_neg (by omega)]; exact e4
        · rw [l4 h hh v hv, ← Nat.add_assoc]
          congr 1
          by_cases cc : h < dH δ ∧ tol bk h = false
          · simp only [cnt, pc, hf, cc.1, cc.2, and_self, if_true, decide_true, Bool.true_and, Bool.not_false]
          · simp only [if_neg cc]
            have : (decide (h < dH δ) && (!tol bk h && (huf δ Λ σ (60 * m + j) h == v))) = false := by
              by_cases c3 : h < dH δ
              · have : tol bk h = true := by
                  cases ht : tol bk h with
                  | true => rfl
                  | false => exact absurd ⟨c3, ht⟩ cc
                simp [this]
              · simp [c3]
            rw [this]
            rfl
    by_cases c3 : pc (fit δ Λ σ bk) (60 * m + j) = 0
    · simp +decide (disch := omega) only [↓wm1, wb18_45 hc, wb18_48 hc, wb18_55 hc, w0, w1, w10, w60, w100, rI_wI, rP_wI, rL_wI, rI_wR, rP_wR, is_wI, is_wR, ia_wI, ia_wR, ow_wI, ow_wR, wn_add, wn_mul, wn_cl, wn_le, wn_lt, wn_inj, wn_ne1, wn_1ne, wn_gt1, wn_le1, nb0, nb1, am_kt, am_rt, List.cons_append, List.nil_append, true_and, and_true, not_true_eq_false, not_false_eq_true, imp_f, imp_t, implies_true, Nat.zero_add, if_true, if_false, false_and, and_false, b01, fC i2.1.1, g2a, c3]
      have kx : Kp GS G2 (am_wI G2 106 4 (wn (100 * m + (j + 1)))) := (Kp.refl G2).wI (by unfold GS; omega) _
      refine fin _ (i2.gs kx) ((HS_gs k2).trans kx) ?_ ?_ (fun h hh v hv => ?_)
      · rw [rI_wI, if_neg (by omega)]; exact g2a
      · rw [rI_wI, if_pos ⟨rfl, rfl⟩, ← Nat.add_assoc]
        simp [fi, hf, c3, ekd, ekr, Nat.add_assoc]
      · rw [rI_wI, if_neg (by omega)]; exact g2c h hh v hv
    · simp +decide (disch := omega) only [↓wm1, wb18_45 hc, wb18_48 hc, w0, w1, w10, w60, w100, rI_wI, rP_wI, rL_wI, rI_wR, rP_wR, is_wI, is_wR, ia_wI, ia_wR, ow_wI, ow_wR, wn_add, wn_mul, wn_cl, wn_le, wn_lt, wn_inj, wn_ne1, wn_1ne, wn_gt1, wn_le1, nb0, nb1, am_kt, am_rt, List.cons_append, List.nil_append, true_and, and_true, not_true_eq_false, not_false_eq_true, imp_f, imp_t, implies_true, Nat.zero_add, if_true, if_false, false_and, and_false, b01, fC i2.1.1, g2a, c3]
      refine fin G2 i2 (HS_gs k2) g2a ?_ g2c
      rw [← Nat.add_assoc]
      simp only [fi, c3, and_false, if_false]
      exact g2b
theorem ct18 (hI : BI G q l δ Λ σ bk) (hp : bk.Pairwise (fun x y => x.1 ≠ y.1)) (hbk : ∀ x ∈ bk, x.1 < dH δ ∧ x.2 ≤ 99) (hH : sH σ < 2147483648) (k : ∀ G', BI G' q l δ Λ σ bk → GI G' δ Λ σ bk 600 → Kp GS G G' → post (.inl none) G') : am_C am_T (d + 7) 18 [.ref 106, .ref 3, .ref 32] G post := by
  have hc := am_C_one am_T (d + 6)
  rw [we18]
  simp +decide (disch := omega) only [↓wm1, wb18_0 hc, w0, w1, w10, w60, w100, rI_wI, rP_wI, rL_wI, rI_wR, rP_wR, is_wI, is_wR, ia_wI, ia_wR, ow_wI, ow_wR, wn_add, wn_mul, wn_cl, wn_le, wn_lt, wn_inj, wn_ne1, wn_1ne, wn_gt1, wn_le1, nb0, nb1, am_kt, am_rt, List.cons_append, List.nil_append, true_and, and_true, not_true_eq_false, not_false_eq_true, imp_f, imp_t, implies_true, Nat.zero_add, if_true, if_false, false_and, and_false, fC hI.1.1, q106 hI.1.1]
  have k1 : Kp GS G (am_wI (am_wI G 106 3 (wn 0)) 106 4 mm) := ((Kp.refl G).wI (by unfold GS; omega) _).wI (by unfold GS; omega) _
  have i1 := hI.gs k1
  refine ct279 (n := 700) i1.1.1 (by decide +kernel) (by decide) _ (fun G2 f2 k2 => ?_)
  have k2' : Kp GS (am_wI (am_wI G 106 3 (wn 0)) 106 4 mm) G2 := k2.mono (fun a i z => by unfold GS; omega)
  have i2 := i1.gs k2'
  simp +decide (disch := omega) only [↓wm1, wb18_18 hc, w0, w1, w10, w60, w100, rI_wI, rP_wI, rL_wI, rI_wR, rP_wR, is_wI, is_wR, ia_wI, ia_wR, ow_wI, ow_wR, wn_add, wn_mul, wn_cl, wn_le, wn_lt, wn_inj, wn_ne1, wn_1ne, wn_gt1, wn_le1, nb0, nb1, am_kt, am_rt, List.cons_append, List.nil_append, true_and, and_true, not_true_eq_false, not_false_eq_true, imp_f, imp_t, implies_true, Nat.zero_add, if_true, if_false, false_and, and_false]
  refine am_for 10 (fun m ls G1 => BI G1 q l δ Λ σ bk ∧ GI G1 δ Λ σ bk (60 * m) ∧ Kp GS G G1 ∧ ls = [some (.ref 106), some (.ref 3), some (.ref 32), some (.int (wn m)), none]) ?_ ?_ 10 0 rfl _ _ ⟨i2, ⟨?_, ?_, fun h hh v hv => ?_⟩, k1.trans k2', rfl⟩
  · rintro m hm _ G1 ⟨i1, g1, kk1, rfl⟩ nx
    have c1 : ¬ 10 ≤ m := by omega
    rw [wb18_20 hc]
    simp +decide (disch := omega) only [↓wm1, wb18_26 hc, w0, w1, w10, w60, w100, rI_wI, rP_wI, rL_wI, rI_wR, rP_wR, is_wI, is_wR, ia_wI, ia_wR, ow_wI, ow_wR, wn_add, wn_mul, wn_cl, wn_le, wn_lt, wn_inj, wn_ne1, wn_1ne, wn_gt1, wn_le1, nb0, nb1, am_kt, am_rt, List.cons_append, List.nil_append, true_and, and_true, not_true_eq_false, not_false_eq_true, imp_f, imp_t, implies_true, Nat.zero_add, if_true, if_false, false_and, and_false, c1]
    refine am_for 60 (fun j ls G3 => BI G3 q l δ Λ σ bk ∧ GI G3 δ Λ σ bk (60 * m + j) ∧ Kp GS G G3 ∧ ls = [some (.ref 106), some (.ref 3), some (.ref 32), some (.int (wn m)), some (.int (wn (j + 1)))]) ?_ ?_ 60 0 rfl _ _ ⟨i1, g1, kk1, rfl⟩
    · rintro j hj _ G3 ⟨i3, g3, k3, rfl⟩ nx2
      exact ct18_b hp hbk hm hj hH i3 g3 (fun G4 i4 g4 k4 => nx2 _ _ ⟨i4, g4, k3.trans k4, rfl⟩)
    · rintro _ G3 ⟨i3, g3, k3, rfl⟩
      rw [wb18_29 hc]
      simp +decide (disch := omega) only [↓wm1, wb18_91 hc, w0, w1, w10, w60, w100, rI_wI, rP_wI, rL_wI, rI_wR, rP_wR, is_wI, is_wR, ia_wI, ia_wR, ow_wI, ow_wR, wn_add, wn_mul, wn_cl, wn_le, wn_lt, wn_inj, wn_ne1, wn_1ne, wn_gt1, wn_le1, nb0, nb1, am_kt, am_rt, List.cons_append, List.nil_append, true_and, and_true, not_true_eq_false, not_false_eq_true, imp_f, imp_t, implies_true, Nat.zero_add, if_true, if_false, false_and, and_false]
      refine nx _ _ ⟨i3, ?_, k3, rfl⟩
      rw [Nat.mul_succ]
      exact g3
  · rintro _ G1 ⟨i1, g1, kk1, rfl⟩
    rw [wb18_20 hc]
    simp +decide (disch := omega) only [↓wm1, wb18_97 hc, w0, w1, w10, w60, w100, rI_wI, rP_wI, rL_wI, rI_wR, rP_wR, is_wI, is_wR, ia_wI, ia_wR, ow_wI, ow_wR, wn_add, wn_mul, wn_cl, wn_le, wn_lt, wn_inj, wn_ne1, wn_1ne, wn_gt1, wn_le1, nb0, nb1, am_kt, am_rt, List.cons_append, List.nil_append, true_and, and_true, not_true_eq_false, not_false_eq_true, imp_f, imp_t, implies_true, Nat.zero_add, if_true, if_false, false_and, and_false, Nat.le_refl]
    exact k G1 i1 g1 kk1
  · rw [k2.i (by omega), rI_wI, if_neg (by omega), rI_wI, if_pos ⟨rfl, rfl⟩]; rfl
  · rw [k2.i (by omega), rI_wI, if_pos ⟨rfl, rfl⟩]; rfl
  · rw [f2 _ (by omega)]
    show wn 0 = wn (if h < dH δ ∧ tol bk h = false then cnt δ Λ σ bk h v 0 else 0)
    split <;> rfl
theorem ct21 (hI : BI G q l δ Λ σ bk) (hG : GI G δ Λ σ bk 600) (hb : ∀ x ∈ bk, x.2 ≤ 99) (k : ∀ G', am_gI G' 106 5 = o2 (af δ Λ σ bk (dH δ)) → am_gI G' 106 6 = o1 (af δ Λ σ bk (dH δ)) → Kp GS G G' → post (.inl none) G') : am_C am_T (d + 2) 21 [.ref 106, .int (wn (dH δ))] G post := by
  have hc := am_C_one am_T (d + 1)
  have v7 := hI.1.2.1.2.2.2.2.2.1.2.1
  rw [we21]
  simp +decide (disch := omega) only [↓wm1, wb21_0 hc, w0, w1, w100, rI_wI, rP_wI, rL_wI, rI_wR, rP_wR, is_wI, is_wR, ia_wI, ia_wR, ow_wI, ow_wR, wn_add, wn_mul, wn_cl, wn_le, wn_lt, wn_inj, wn_ne1, wn_1ne, wn_gt1, wn_le1, nb0, nb1, am_kt, am_rt, List.cons_append, List.nil_append, true_and, and_true, not_true_eq_false, not_false_eq_true, imp_f, imp_t, implies_true, Nat.zero_add, if_true, if_false, false_and, and_false, fC hI.1.1]
  have k1 : Kp GS G (am_wI (am_wI G 106 5 mm) 106 6 mm) := ((Kp.refl G).wI (by unfold GS; omega) _).wI (by unfold GS; omega) _
  refine am_for (dH δ) (fun h ls G1 => BI G1 q l δ Λ σ bk ∧ LI G1 (fun h v => if h < dH δ ∧ tol bk h = false then cnt δ Λ σ bk h v 600 else 0) ∧ am_gI G1 106 5 = o2 (af δ Λ σ bk h) ∧ am_gI G1 106 6 = o1 (af δ Λ σ bk h) ∧ Kp GS G G1 ∧ ls = [some (.ref 106), some (.int (wn (dH δ))), some (.int (wn h)), none, none]) ?_ ?_ (dH δ) 0 (by omega) _ _ ⟨hI.gs k1, fun h hh v hv => ?_, ?_, ?_, k1, rfl⟩
  · rintro h hh _ G1 ⟨i1, l1, e5, e6, kk1, rfl⟩ nx
    have c1 : ¬ dH δ ≤ h := by omega
    have eb := i1.2 h (by omega)
    have hcl : ∀ v, (if h < dH δ ∧ tol bk h = false then cnt δ Λ σ bk h v 600 else 0) ≤ 600 := fun v => by split; exact cnt_le _ _ _ _ _ _ _; omega
    rw [wb21_12 hc]
    simp +decide (disch := omega) only [↓wm1, wb21_17 hc, w0, w1, w100, rI_wI, rP_wI, rL_wI, rI_wR, rP_wR, is_wI, is_wR, ia_wI, ia_wR, ow_wI, ow_wR, wn_add, wn_mul, wn_cl, wn_le, wn_lt, wn_inj, wn_ne1, wn_1ne, wn_gt1, wn_le1, nb0, nb1, am_kt, am_rt, List.cons_append, List.nil_append, true_and, and_true, not_true_eq_false, not_false_eq_true, imp_f, imp_t, implies_true, Nat.zero_add, if_true, if_false, false_and, and_false, c1]
    refine am_for 100 (fun v ls G3 => G1 = G3 ∧ ls = [some (.ref 106), some (.int (wn (dH δ))), some (.int (wn h)), some (.int (wn (mx (fun v => if h < dH δ ∧ tol bk h = false then cnt δ Λ σ bk h v 600 else 0) v))), some (.int (wn v))]) ?_ ?_ 100 0 rfl _ _ ⟨rfl, rfl⟩
    · rintro v hv _ _ ⟨rfl, rfl⟩ nx2
      have c2 : ¬ 100 ≤ v := by omega
      have el := l1 h (by omega) v hv
      have m1 := mx_le hcl v
      have m2 := hcl v
      rw [wb21_22 hc]
      simp +decide (disch := omega) only [↓wm1, wb21_29 hc, w0, w1, w100, rI_wI, rP_wI, rL_wI, rI_wR, rP_wR, is_wI, is_wR, ia_wI, ia_wR, ow_wI, ow_wR, wn_add, wn_mul, wn_cl, wn_le, wn_lt, wn_inj, wn_ne1, wn_1ne, wn_gt1, wn_le1, nb0, nb1, am_kt, am_rt, List.cons_append, List.nil_append, true_and, and_true, not_true_eq_false, not_false_eq_true, imp_f, imp_t, implies_true, Nat.zero_add, if_true, if_false, false_and, and_false, fC i1.1.1, q106 i1.1.1, ia109 i1.1.1, el, c2]
      rw [ct271n (by omega) (by omega)]
      simp +decide (disch := omega) only [↓wm1, wb21_45 hc, w0, w1, w100, rI_wI, rP_wI, rL_wI, rI_wR, rP_wR, is_wI, is_wR, ia_wI, ia_wR, ow_wI, ow_wR, wn_add, wn_mul, wn_cl, wn_le, wn_lt, wn_inj, wn_ne1, wn_1ne, wn_gt1, wn_le1, nb0, nb1, am_kt, am_rt, List.cons_append, List.nil_append, true_and, and_true, not_true_eq_false, not_false_eq_true, imp_f, imp_t, implies_true, Nat.zero_add, if_true, if_false, false_and, and_false]
      exact nx2 _ _ ⟨rfl, rfl⟩
    · rintro _ _ ⟨rfl, rfl⟩
      have m1 := mx_le hcl 100
      rw [wb21_22 hc]
      rcases bkv_tol (bk := bk) (h := h) with ⟨z1, z2, z3⟩ | ⟨x, hx, z1, z2, z3⟩
      · have ew : mx (fun v => if h < dH δ ∧ tol bk h = false then cnt δ Λ σ bk h v 600 else 0) 100 = wst δ Λ σ bk h 600 := by
          rw [wst_mx]
          exact mx_congr 100 (fun v _ => if_pos ⟨hh, z2⟩)
        rw [ew] at m1 ⊢
        rw [z1] at eb
        have upd : af δ Λ σ bk (h + 1) = some (wst δ Λ σ bk h 600, h) → am_W (am_C am_T (d + 1)) am_21 post 88 [some (.ref 106), some (.int (wn (dH δ))), some (.int (wn h)), some (.int (wn (wst δ Λ σ bk h 600))), none] [] (am_wI (am_wI G1 106 5 (wn h)) 106 6 (wn (wst δ Λ σ bk h 600))) := by
          intro ea
          have kx : Kp GS G1 (am_wI (am_wI G1 106 5 (wn h)) 106 6 (wn (wst δ Λ σ bk h 600))) := ((Kp.refl G1).wI (by unfold GS; omega) _).wI (by unfold GS; omega) _
          simp +decide (disch := omega) only [↓wm1, wb21_88 hc, w0, w1, w100, rI_wI, rP_wI, rL_wI, rI_wR, rP_wR, is_wI, is_wR, ia_wI, ia_wR, ow_wI, ow_wR, wn_add, wn_mul, wn_cl, wn_le, wn_lt, wn_inj, wn_ne1, wn_1ne, wn_gt1, wn_le1, nb0, nb1, am_kt, am_rt, List.cons_append, List.nil_append, true_and, and_true, not_true_eq_false, not_false_eq_true, imp_f, imp_t, implies_true, Nat.zero_add, if_true, if_false, false_and, and_false]
          refine nx _ _ ⟨i1.gs kx, fun h' hh' v hv => ?_, ?_, ?_, kk1.trans kx, rfl⟩
          · rw [rI_wI, if_neg (by omega), rI_wI, if_neg (by omega)]; exact l1 h' hh' v hv
          · rw [rI_wI, if_neg (by omega), rI_wI, if_pos ⟨rfl, rfl⟩, ea]; rfl
          · rw [rI_wI, if_pos ⟨rfl, rfl⟩, ea]; rfl
        cases ha : af δ Λ σ bk h with
        | none =>
          rw [ha] at e5 e6
          simp only [o1, o2] at e5 e6
          simp +decide (disch := omega) only [↓wm1, wb21_52 hc, wb21_62 hc, wb21_78 hc, w0, w1, w100, rI_wI, rP_wI, rL_wI, rI_wR, rP_wR, is_wI, is_wR, ia_wI, ia_wR, ow_wI, ow_wR, wn_add, wn_mul, wn_cl, wn_le, wn_lt, wn_inj, wn_ne1, wn_1ne, wn_gt1, wn_le1, nb0, nb1, am_kt, am_rt, List.cons_append, List.nil_append, true_and, and_true, not_true_eq_false, not_false_eq_true, imp_f, imp_t, implies_true, Nat.zero_add, if_true, if_false, false_and, and_false, fC i1.1.1, q106 i1.1.1, ia107 i1.1.1, eb, e5, Nat.le_refl]
          exact upd (by simp only [af, z2, ha, Bool.false_eq_true, if_false])
        | some w =>
          have hw := af_lt _ _ ha
          rw [ha] at e5 e6
          simp only [o1, o2] at e5 e6
          by_cases c3 : w.1 ≤ wst δ Λ σ bk h 600
          · simp +decide (disch := omega) only [↓wm1, wb21_52 hc, wb21_62 hc, wb21_70 hc, wb21_88 hc, w0, w1, w100, rI_wI, rP_wI, rL_wI, rI_wR, rP_wR, is_wI, is_wR, ia_wI, ia_wR, ow_wI, ow_wR, wn_add, wn_mul, wn_cl, wn_le, wn_lt, wn_inj, wn_ne1, wn_1ne, wn_gt1, wn_le1, nb0, nb1, am_kt, am_rt, List.cons_append, List.nil_append, true_and, and_true, not_true_eq_false, not_false_eq_true, imp_f, imp_t, implies_true, Nat.zero_add, if_true, if_false, false_and, and_false, fC i1.1.1, q106 i1.1.1, ia107 i1.1.1, eb, e5, e6, c3, Nat.le_refl]
            have ea : af δ Λ σ bk (h + 1) = some w := by simp only [af, z2, ha, Bool.false_eq_true, if_false]; rw [if_neg (by omega)]
            refine nx _ _ ⟨i1, l1, ?_, ?_, kk1, rfl⟩
            · rw [ea]; exact e5
            · rw [ea]; exact e6
          · simp +decide (disch := omega) only [↓wm1, wb21_52 hc, wb21_62 hc, wb21_70 hc, wb21_78 hc, w0, w1, w100, rI_wI, rP_wI, rL_wI, rI_wR, rP_wR, is_wI, is_wR, ia_wI, ia_wR, ow_wI, ow_wR, wn_add, wn_mul, wn_cl, wn_le, wn_lt, wn_inj, wn_ne1, wn_1ne, wn_gt1, wn_le1, nb0, nb1, am_kt, am_rt, List.cons_append, List.nil_append, true_and, and_true, not_true_eq_false, not_false_eq_true, imp_f, imp_t, implies_true, Nat.zero_add, if_true, if_false, false_and, and_false, fC i1.1.1, q106 i1.1.1, ia107 i1.1.1, eb, e5, e6, c3, Nat.le_refl]
            exact upd (by simp only [af, z2, ha, Bool.false_eq_true, if_false]; rw [if_pos (by omega)])
      · have hx2 := hb x hx
        rw [z1] at eb
        simp +decide (disch := omega) only [↓wm1, wb21_52 hc, wb21_88 hc, w0, w1, w100, rI_wI, rP_wI, rL_wI, rI_wR, rP_wR, is_wI, is_wR, ia_wI, ia_wR, ow_wI, ow_wR, wn_add, wn_mul, wn_cl, wn_le, wn_lt, wn_inj, wn_ne1, wn_1ne, wn_gt1, wn_le1, nb0, nb1, am_kt, am_rt, List.cons_append, List.nil_append, true_and, and_true, not_true_eq_false, not_false_eq_true, imp_f, imp_t, implies_true, Nat.zero_add, if_true, if_false, false_and, and_false, fC i1.1.1, q106 i1.1.1, ia107 i1.1.1, eb, Nat.le_refl]
        have ea : af δ Λ σ bk (h + 1) = af δ Λ σ bk h := by simp only [af, z2, if_true]
        exact nx _ _ ⟨i1, l1, by rw [ea]; exact e5, by rw [ea]; exact e6, kk1, rfl⟩
  · rintro _ G1 ⟨i1, l1, e5, e6, kk1, rfl⟩
    rw [wb21_12 hc]
    simp +decide (disch := omega) only [↓wm1, wb21_94 hc, w0, w1, w100, rI_wI, rP_wI, rL_wI, rI_wR, rP_wR, is_wI, is_wR, ia_wI, ia_wR, ow_wI, ow_wR, wn_add, wn_mul, wn_cl, wn_le, wn_lt, wn_inj, wn_ne1, wn_1ne, wn_gt1, wn_le1, nb0, nb1, am_kt, am_rt, List.cons_append, List.nil_append, true_and, and_true, not_true_eq_false, not_false_eq_true, imp_f, imp_t, implies_true, Nat.zero_add, if_true, if_false, false_and, and_false, Nat.le_refl]
    exact k G1 e5 e6 kk1
  · rw [rI_wI, if_neg (by omega), rI_wI, if_neg (by omega)]; exact hG.2.2 h hh v hv
  · rw [rI_wI, if_neg (by omega), rI_wI, if_pos ⟨rfl, rfl⟩]; rfl
  · rw [rI_wI, if_pos ⟨rfl, rfl⟩]; rfl
/-! the reference -/
def LB (G : am_G) (bk : List (Nat × Nat)) : Prop := am_gI G 334 33 = wn bk.length ∧ ∀ i x, bk[i]? = some x → am_gI G (710 + i) 0 = wn x.1 ∧ am_gI G (710 + i) 1 = wn x.2
theorem LB.kp {Sc : Nat → Nat → Prop} {G G' : am_G} (h : LB G bk) (hb : bk.length ≤ 7) (k : Kp Sc G G') (hn : ∀ a i, Sc a i → ¬ (710 ≤ a ∧ a < 717) ∧ (a = 334 → i ≠ 33)) : LB G' bk := by
  refine ⟨by rw [k.i (fun z => (hn _ _ z).2 rfl rfl)]; exact h.1, fun i x hx => ?_⟩
  have hi : i < bk.length := (List.getElem?_eq_some_iff.mp hx).1
  rw [k.i (fun z => (hn _ _ z).1 ⟨by omega, by omega⟩), k.i (fun z => (hn _ _ z).1 ⟨by omega, by omega⟩)]
  exact h.2 i x hx
theorem ct233 {k h : Nat} (hI : RI G δ Λ σ) (hk : k < 600) (hh : h < dH δ) (hH : sH σ < 2147483648) (kk : ∀ G', Kp HM G G' → post (.inl (some (.int (wn (huf δ Λ σ k h))))) G') : am_C am_T (d + 6) 233 [.ref 334, .int (wn k), .int (wn h)] G post := by
  have hc := am_C_one am_T (d + 5)
  have n60 : ¬ (wn 60 = wn 0) := by decide
  rw [we233]
  simp +decide (disch := omega) only [↓wm1, wb233_0 hc, w0, w1, w6, w60, rI_wI, rP_wI, rL_wI, rI_wR, rP_wR, is_wI, is_wR, ia_wI, ia_wR, ow_wI, ow_wR, wn_add, wn_mul, wn_cl, wn_le, wn_lt, wn_inj, wn_ne1, wn_1ne, wn_gt1, wn_le1, nb0, nb1, am_kt, am_rt, List.cons_append, List.nil_append, true_and, and_true, not_true_eq_false, not_false_eq_true, imp_f, imp_t, implies_true, Nat.zero_add, if_true, if_false, false_and, and_false, fM hI.1, wn_div, wn_rem, n60]
  refine ct195 hI.1 hI.2.1 h808 hI.2.2 hh hH (by omega) (fun G' k' => ?_)
  simp +decide (disch := omega) only [↓wm1, wb233_23 hc, w0, w1, w6, w60, rI_wI, rP_wI, rL_wI, rI_wR, rP_wR, is_wI, is_wR, ia_wI, ia_wR, ow_wI, ow_wR, wn_add, wn_mul, wn_cl, wn_le, wn_lt, wn_inj, wn_ne1, wn_1ne, wn_gt1, wn_le1, nb0, nb1, am_kt, am_rt, List.cons_append, List.nil_append, true_and, and_true, not_true_eq_false, not_false_eq_true, imp_f, imp_t, implies_true, Nat.zero_add, if_true, if_false, false_and, and_false]
  exact kk G' k'
theorem getm (pre r : List (Nat × Nat)) (x : Nat × Nat) : (pre ++ x :: r)[pre.length]? = some x := by simp
theorem ct234 {k : Nat} (hI : RI G δ Λ σ) (hL : LB G bk) (hlen : bk.length ≤ 7) (hbk : ∀ x ∈ bk, x.1 < dH δ ∧ x.2 ≤ 99) (hk : k < 600) (hH : sH σ < 2147483648) (kk : ∀ G', Kp HM G G' → post (.inl (some (.int (wn (b01 (fit δ Λ σ bk k)))))) G') : am_C am_T (d + 7) 234 [.ref 334, .int (wn k)] G post := by
  have hc := am_C_one am_T (d + 6)
  refine (we234 _ _ _).mpr ((wb234_0 hc _ _ _).mpr ?_)
  have key : ∀ (r pre : List (Nat × Nat)) (G1 : am_G), bk = pre ++ r → RI G1 δ Λ σ → LB G1 bk → Kp HM G G1 → fit δ Λ σ bk k = r.all (fun x => huf δ Λ σ k x.1 == x.2) → am_W (am_C am_T (d + 6)) am_234 post 2 [some (.ref 334), some (.int (wn k)), some (.int (wn pre.length))] [] G1 := by
    intro r
    induction r with
    | nil =>
      intro pre G1 he i1 l1 k1 hf
      rw [List.append_nil] at he
      have hpl : pre.length ≤ 7 := by rw [← he]; exact hlen
      have e := l1.1
      have := kk G1 k1
      rw [hf] at this
      rw [wb234_2 hc, e, he]
      simp +decide (disch := omega) only [↓wm1, wb234_42 hc, w0, w1, rI_wI, rP_wI, rL_wI, rI_wR, rP_wR, is_wI, is_wR, ia_wI, ia_wR, ow_wI, ow_wR, wn_add, wn_mul, wn_cl, wn_le, wn_lt, wn_inj, wn_ne1, wn_1ne, wn_gt1, wn_le1, nb0, nb1, am_kt, am_rt, List.cons_append, List.nil_append, true_and, and_true, not_true_eq_false, not_false_eq_true, imp_f, imp_t, implies_true, Nat.zero_add, if_true, if_false, false_and, and_false, fM i1.1, Nat.le_refl]
      exact this
    | cons x r ih =>
      intro pre G1 he i1 l1 k1 hf
      have hl : bk.length = pre.length + 1 + r.length := by rw [he]; simp; omega
      have c1 : ¬ bk.length ≤ pre.length := by omega
      have e := l1.1
      have ex := l1.2 pre.length x (by rw [he]; exact getm pre r x)
      have hx := hbk x (by rw [he]; simp)
      have hle := huf_le δ Λ σ k x.1
      have v7 := i1.2.1.2.1.2.1
      rw [wb234_2 hc, e]
      simp +decide (disch := omega) only [↓wm1, wb234_10 hc, w0, w1, rI_wI, rP_wI, rL_wI, rI_wR, rP_wR, is_wI, is_wR, ia_wI, ia_wR, ow_wI, ow_wR, wn_add, wn_mul, wn_cl, wn_le, wn_lt, wn_inj, wn_ne1, wn_1ne, wn_gt1, wn_le1, nb0, nb1, am_kt, am_rt, List.cons_append, List.nil_append, true_and, and_true, not_true_eq_false, not_false_eq_true, imp_f, imp_t, implies_true, Nat.zero_add, if_true, if_false, false_and, and_false, fM i1.1, c1, fr709 i1.1, ex.1]
      refine ct233 i1 hk hx.1 hH (fun G2 k2 => ?_)
      have i2 := i1.hm k2
      have l2 := l1.kp hlen k2 (by intro a i z; unfold HM at z; exact ⟨by omega, by omega⟩)
      have ex2 := l2.2 pre.length x (by rw [he]; exact getm pre r x)
      simp only [List.all_cons] at hf
      by_cases c2 : huf δ Λ σ k x.1 = x.2
      · simp +decide (disch := omega) only [↓wm1, wb234_23 hc, wb234_36 hc, w0, w1, rI_wI, rP_wI, rL_wI, rI_wR, rP_wR, is_wI, is_wR, ia_wI, ia_wR, ow_wI, ow_wR, wn_add, wn_mul, wn_cl, wn_le, wn_lt, wn_inj, wn_ne1, wn_1ne, wn_gt1, wn_le1, nb0, nb1, am_kt, am_rt, List.cons_append, List.nil_append, true_and, and_true, not_true_eq_false, not_false_eq_true, imp_f, imp_t, implies_true, Nat.zero_add, if_true, if_false, false_and, and_false, fM i2.1, fr709 i2.1, ex2.2, c2]
        have := ih (pre ++ [x]) G2 (by rw [he]; simp) i2 l2 (k1.trans k2) (by rw [hf]; simp [c2])
        simpa using this
      · simp +decide (disch := omega) only [↓wm1, wb234_23 hc, wb234_34 hc, w0, w1, rI_wI, rP_wI, rL_wI, rI_wR, rP_wR, is_wI, is_wR, ia_wI, ia_wR, ow_wI, ow_wR, wn_add, wn_mul, wn_cl, wn_le, wn_lt, wn_inj, wn_ne1, wn_1ne, wn_gt1, wn_le1, nb0, nb1, am_kt, am_rt, List.cons_append, List.nil_append, true_and, and_true, not_true_eq_false, not_false_eq_true, imp_f, imp_t, implies_true, Nat.zero_add, if_true, if_false, false_and, and_false, fM i2.1, fr709 i2.1, ex2.2, c2]
        have := kk G2 (k1.trans k2)
        rw [hf] at this
        simp only [beq_eq_false_iff_ne.mpr c2, Bool.false_and, b01, Bool.false_eq_true, if_false] at this
        exact this
  exact key bk [] G rfl hI hL (Kp.refl G) rfl
theorem ct236 {h : Nat} (hsh : Sh G) (hL : LB G bk) (hlen : bk.length ≤ 7) (hbk : ∀ x ∈ bk, x.1 < 7) (hh : h < 7) : am_C am_T (d + 1) 236 [.ref 334, .int (wn h)] G post ↔ post (.inl (some (.int (wn (b01 (tol bk h)))))) G := by
  have hc := am_C_one am_T d
  refine am_iff (fun post kk => ?_) post
  refine (we236 _ _ _).mpr ((wb236_0 hc _ _ _).mpr ?_)
  have key : ∀ (r pre : List (Nat × Nat)), bk = pre ++ r → tol bk h = r.any (fun x => x.1 == h) → am_W (am_C am_T d) am_236 post 2 [some (.ref 334), some (.int (wn h)), some (.int (wn pre.length))] [] G := by
    intro r
    induction r with
    | nil =>
      intro pre he hf
      rw [List.append_nil] at he
      have hpl : pre.length ≤ 7 := by rw [← he]; exact hlen
      have e := hL.1
      rw [hf] at kk
      rw [wb236_2 hc, e, he]
      simp +decide (disch := omega) only [↓wm1, wb236_30 hc, w0, w1, rI_wI, rP_wI, rL_wI, rI_wR, rP_wR, is_wI, is_wR, ia_wI, ia_wR, ow_wI, ow_wR, wn_add, wn_mul, wn_cl, wn_le, wn_lt, wn_inj, wn_ne1, wn_1ne, wn_gt1, wn_le1, nb0, nb1, am_kt, am_rt, List.cons_append, List.nil_append, true_and, and_true, not_true_eq_false, not_false_eq_true, imp_f, imp_t, implies_true, Nat.zero_add, if_true, if_false, false_and, and_false, fM hsh, Nat.le_refl]
      exact kk
    | cons x r ih =>
      intro pre he hf
      have hl : bk.length = pre.length + 1 + r.length := by rw [he]; simp; omega
      have c1 : ¬ bk.length ≤ pre.length := by omega
      have e := hL.1
      have ex := hL.2 pre.length x (by rw [he]; exact getm pre r x)
      have hx := hbk x (by rw [he]; simp)
      simp only [List.any_cons] at hf
      rw [wb236_2 hc, e]
      by_cases c2 : x.1 = h
      · rw [hf] at kk
        simp only [c2, beq_self_eq_true, Bool.true_or, b01, if_true] at kk
        simp +decide (disch := omega) only [↓wm1, wb236_10 hc, wb236_22 hc, w0, w1, rI_wI, rP_wI, rL_wI, rI_wR, rP_wR, is_wI, is_wR, ia_wI, ia_wR, ow_wI, ow_wR, wn_add, wn_mul, wn_cl, wn_le, wn_lt, wn_inj, wn_ne1, wn_1ne, wn_gt1, wn_le1, nb0, nb1, am_kt, am_rt, List.cons_append, List.nil_append, true_and, and_true, not_true_eq_false, not_false_eq_true, imp_f, imp_t, implies_true, Nat.zero_add, if_true, if_false, false_and, and_false, fM hsh, c1, fr709 hsh, ex.1, c2]
        exact kk
      · simp +decide (disch := omega) only [↓wm1, wb236_10 hc, wb236_24 hc, w0, w1, rI_wI, rP_wI, rL_wI, rI_wR, rP_wR, is_wI, is_wR, ia_wI, ia_wR, ow_wI, ow_wR, wn_add, wn_mul, wn_cl, wn_le, wn_lt, wn_inj, wn_ne1, wn_1ne, wn_gt1, wn_le1, nb0, nb1, am_kt, am_rt, List.cons_append, List.nil_append, true_and, and_true, not_true_eq_false, not_false_eq_true, imp_f, imp_t, implies_true, Nat.zero_add, if_true, if_false, false_and, and_false, fM hsh, c1, fr709 hsh, ex.1, c2]
        have := ih (pre ++ [x]) (by rw [he]; simp) (by rw [hf]; simp [c2])
        simpa using this
  exact key bk [] rfl rfl
def MS : Nat → Nat → Prop := fun a _ => a = 725 ∨ a = 726 ∨ a = 833
theorem RI.ms {G G' : am_G} (h : RI G δ Λ σ) (k : Kp MS G G') : RI G' δ Λ σ :=
  ⟨h.1.kp k, h.2.1.kp k (by intro a i z; unfold MS at z; exact ⟨by omega, by omega⟩), h.2.2.kp k (by intro i z; unfold MS at z; omega)⟩
theorem LB.ms {G G' : am_G} (h : LB G bk) (hb : bk.length ≤ 7) (k : Kp MS G G') : LB G' bk := h.kp hb k (by intro a i z; unfold MS at z; exact ⟨by omega, by omega⟩)
theorem HM_ms {G G' : am_G} (k : Kp HM G G') : Kp MS G G' := k.mono (fun a i z => by unfold HM at z; unfold MS; omega)
theorem ct237 {h : Nat} (hI : RI G δ Λ σ) (hL : LB G bk) (hlen : bk.length ≤ 7) (hbk : ∀ x ∈ bk, x.1 < dH δ ∧ x.2 ≤ 99) (hh : h < dH δ) (hH : sH σ < 2147483648) (kk : ∀ G', Kp MS G G' → post (.inl (some (.int (wn (wst δ Λ σ bk h 600))))) G') : am_C am_T (d + 8) 237 [.ref 334, .int (wn h)] G post := by
  have hc := am_C_one am_T (d + 7)
  refine (we237 _ _ _).mpr ((wb237_0 hc _ _ _).mpr ?_)
  refine am_for 100 (fun v ls G1 => RI G1 δ Λ σ ∧ LB G1 bk ∧ Kp MS G G1 ∧ (∀ j, j < v → am_gI G1 833 j = wn 0) ∧ ls = [some (.ref 334), some (.int (wn h)), some (.int (wn 0)), some (.int (wn v)), none]) ?_ ?_ 100 0 rfl _ _ ⟨hI, hL, Kp.refl G, fun j hj => by omega, rfl⟩
  · rintro v hv _ G1 ⟨i1, l1, k1, z1, rfl⟩ nx
    have c1 : ¬ 99 < v := by omega
    rw [wb237_4 hc]
    simp +decide (disch := omega) only [↓wm1, wb237_10 hc, w0, w1, w99, w600, rI_wI, rP_wI, rL_wI, rI_wR, rP_wR, is_wI, is_wR, ia_wI, ia_wR, ow_wI, ow_wR, wn_add, wn_mul, wn_cl, wn_le, wn_lt, wn_inj, wn_ne1, wn_1ne, wn_gt1, wn_le1, nb0, nb1, am_kt, am_rt, List.cons_append, List.nil_append, true_and, and_true, not_true_eq_false, not_false_eq_true, imp_f, imp_t, implies_true, Nat.zero_add, if_true, if_false, false_and, and_false, c1, fM i1.1, ow833 i1.1]
    have kx : Kp MS G1 (am_wI G1 833 v (wn 0)) := (Kp.refl G1).wI (Or.inr (Or.inr rfl)) _
    refine nx _ _ ⟨i1.ms kx, l1.ms hlen kx, k1.trans kx, fun j hj => ?_, rfl⟩
    rw [rI_wI]
    by_cases e : j = v
    · rw [if_pos ⟨rfl, e⟩]
    · rw [if_neg (fun q => e q.2)]; exact z1 j (by omega)
  · rintro _ G1 ⟨i1, l1, k1, z1, rfl⟩
    rw [wb237_4 hc]
    simp +decide (disch := omega) only [↓wm1, wb237_23 hc, w0, w1, w99, w600, rI_wI, rP_wI, rL_wI, rI_wR, rP_wR, is_wI, is_wR, ia_wI, ia_wR, ow_wI, ow_wR, wn_add, wn_mul, wn_cl, wn_le, wn_lt, wn_inj, wn_ne1, wn_1ne, wn_gt1, wn_le1, nb0, nb1, am_kt, am_rt, List.cons_append, List.nil_append, true_and, and_true, not_true_eq_false, not_false_eq_true, imp_f, imp_t, implies_true, Nat.zero_add, if_true, if_false, false_and, and_false]
    refine am_for 600 (fun k ls G2 => RI G2 δ Λ σ ∧ LB G2 bk ∧ Kp MS G G2 ∧ (∀ v, v < 100 → am_gI G2 833 v = wn (cnt δ Λ σ bk h v k)) ∧ ls = [some (.ref 334), some (.int (wn h)), some (.int (wn (wst δ Λ σ bk h k))), some (.int (wn k)), none]) ?_ ?_ 600 0 rfl _ _ ⟨i1, l1, k1, fun v hv => by rw [z1 v hv]; rfl, rfl⟩
    · rintro k hk _ G2 ⟨i2, l2, k2, z2, rfl⟩ nx
      have c1 : ¬ 600 ≤ k := by omega
      have hw := wst_le δ Λ σ bk h k
      have hle := huf_le δ Λ σ k h
      rw [wb237_25 hc]
      simp +decide (disch := omega) only [↓wm1, wb237_32 hc, w0, w1, w99, w600, rI_wI, rP_wI, rL_wI, rI_wR, rP_wR, is_wI, is_wR, ia_wI, ia_wR, ow_wI, ow_wR, wn_add, wn_mul, wn_cl, wn_le, wn_lt, wn_inj, wn_ne1, wn_1ne, wn_gt1, wn_le1, nb0, nb1, am_kt, am_rt, List.cons_append, List.nil_append, true_and, and_true, not_true_eq_false, not_false_eq_true, imp_f, imp_t, implies_true, Nat.zero_add, if_true, if_false, false_and, and_false, c1, fM i2.1]
      refine ct234 i2 l2 hlen hbk hk hH (fun G3 k3 => ?_)
      have i3 := i2.hm k3
      have l3 := l2.ms hlen (HM_ms k3)
      have z3 : ∀ v, v < 100 → am_gI G3 833 v = wn (cnt δ Λ σ bk h v k) := fun v hv => by rw [k3.i (by unfold HM; omega)]; exact z2 v hv
      cases hf : fit δ Λ σ bk k with
      | false =>
        simp +decide (disch := omega) only [↓wm1, wb237_37 hc, wb237_40 hc, wb237_74 hc, w0, w1, w99, w600, rI_wI, rP_wI, rL_wI, rI_wR, rP_wR, is_wI, is_wR, ia_wI, ia_wR, ow_wI, ow_wR, wn_add, wn_mul, wn_cl, wn_le, wn_lt, wn_inj, wn_ne1, wn_1ne, wn_gt1, wn_le1, nb0, nb1, am_kt, am_rt, List.cons_append, List.nil_append, true_and, and_true, not_true_eq_false, not_false_eq_true, imp_f, imp_t, implies_true, Nat.zero_add, if_true, if_false, false_and, and_false, b01, Bool.false_eq_true]
        refine nx _ _ ⟨i3, l3, k2.trans (HM_ms k3), fun v hv => ?_, ?_⟩
        · rw [z3 v hv]; simp only [cnt, pc, hf, Bool.false_and, b01, Bool.false_eq_true, if_false, Nat.add_zero]
        · simp only [wst, hf, Bool.false_eq_true, if_false]
      | true =>
        simp +decide (disch := omega) only [↓wm1, wb237_37 hc, wb237_43 hc, w0, w1, w99, w600, rI_wI, rP_wI, rL_wI, rI_wR, rP_wR, is_wI, is_wR, ia_wI, ia_wR, ow_wI, ow_wR, wn_add, wn_mul, wn_cl, wn_le, wn_lt, wn_inj, wn_ne1, wn_1ne, wn_gt1, wn_le1, nb0, nb1, am_kt, am_rt, List.cons_append, List.nil_append, true_and, and_true, not_true_eq_false, not_false_eq_true, imp_f, imp_t, implies_true, Nat.zero_add, if_true, if_false, false_and, and_false, b01, fM i3.1]
        refine ct233 i3 hk hh hH (fun G4 k4 => ?_)
        have i4 := i3.hm k4
        have l4 := l3.ms hlen (HM_ms k4)
        have z4 : ∀ v, v < 100 → am_gI G4 833 v = wn (cnt δ Λ σ bk h v k) := fun v hv => by rw [k4.i (by unfold HM; omega)]; exact z3 v hv
        have zc := z4 (huf δ Λ σ k h) (by omega)
        have cl := cnt_le δ Λ σ bk h (huf δ Λ σ k h) k
        have e1 : cnt δ Λ σ bk h (huf δ Λ σ k h) k + 1 = cnt δ Λ σ bk h (huf δ Λ σ k h) (k + 1) := by simp only [cnt, pc, hf, beq_self_eq_true, Bool.and_self, b01, if_true]
        simp +decide (disch := omega) only [↓wm1, wb237_49 hc, w0, w1, w99, w600, rI_wI, rP_wI, rL_wI, rI_wR, rP_wR, is_wI, is_wR, ia_wI, ia_wR, ow_wI, ow_wR, wn_add, wn_mul, wn_cl, wn_le, wn_lt, wn_inj, wn_ne1, wn_1ne, wn_gt1, wn_le1, nb0, nb1, am_kt, am_rt, List.cons_append, List.nil_append, true_and, and_true, not_true_eq_false, not_false_eq_true, imp_f, imp_t, implies_true, Nat.zero_add, if_true, if_false, false_and, and_false, fM i4.1, ia833 i4.1, ow833 i4.1, zc, e1]
        have kx : Kp MS G4 (am_wI G4 833 (huf δ Λ σ k h) (wn (cnt δ Λ σ bk h (huf δ Λ σ k h) (k + 1)))) := (Kp.refl G4).wI (Or.inr (Or.inr rfl)) _
        rw [ct155n (by omega) (by omega)]
        simp +decide (disch := omega) only [↓wm1, wb237_73 hc, wb237_74 hc, w0, w1, w99, w600, rI_wI, rP_wI, rL_wI, rI_wR, rP_wR, is_wI, is_wR, ia_wI, ia_wR, ow_wI, ow_wR, wn_add, wn_mul, wn_cl, wn_le, wn_lt, wn_inj, wn_ne1, wn_1ne, wn_gt1, wn_le1, nb0, nb1, am_kt, am_rt, List.cons_append, List.nil_append, true_and, and_true, not_true_eq_false, not_false_eq_true, imp_f, imp_t, implies_true, Nat.zero_add, if_true, if_false, false_and, and_false]
        refine nx _ _ ⟨i4.ms kx, l4.ms hlen kx, ((k2.trans (HM_ms k3)).trans (HM_ms k4)).trans kx, fun v hv => ?_, ?_⟩
        · rw [rI_wI]
          by_cases e : v = huf δ Λ σ k h
          · rw [if_pos ⟨rfl, e⟩, e]
          · rw [if_neg (fun q => e q.2), z4 v hv]
            have : (huf δ Λ σ k h == v) = false := by simp only [beq_eq_false_iff_ne]; omega
            simp only [cnt, pc, this, Bool.and_false, b01, Bool.false_eq_true, if_false, Nat.add_zero]
        · simp only [wst, hf, if_true]
    · rintro _ G2 ⟨i2, l2, k2, z2, rfl⟩
      rw [wb237_25 hc]
      simp +decide (disch := omega) only [↓wm1, wb237_80 hc, w0, w1, w99, w600, rI_wI, rP_wI, rL_wI, rI_wR, rP_wR, is_wI, is_wR, ia_wI, ia_wR, ow_wI, ow_wR, wn_add, wn_mul, wn_cl, wn_le, wn_lt, wn_inj, wn_ne1, wn_1ne, wn_gt1, wn_le1, nb0, nb1, am_kt, am_rt, List.cons_append, List.nil_append, true_and, and_true, not_true_eq_false, not_false_eq_true, imp_f, imp_t, implies_true, Nat.zero_add, if_true, if_false, false_and, and_false, Nat.le_refl]
      exact kk G2 k2
end
def q_cast (V : Vt) (w : Nat) : Int32 := if w = 0 then wn (pc (fit (vδ V) (vΛ V) (vσ V) (vk V)) 600) else fi (fit (vδ V) (vΛ V) (vσ V) (vk V)) 600
def q_ask (V : Vt) (w : Nat) : Int32 := if w = 0 then o2 (af (vδ V) (vΛ V) (vσ V) (vk V) (dH (vδ V))) else o1 (af (vδ V) (vΛ V) (vσ V) (vk V) (dH (vδ V)))
theorem MS_q {G G' : am_G} (k : Kp MS G G') : Kp QSR G G' := k.mono (fun a i z => by unfold MS at z; unfold QSR; omega)
section
variable {G : am_G} {d : Nat} {V : Vt}
def sp_cast (V : Vt) (x1 : Int32) : Res := if vin2 x1 0 (2) = true then .inl (q_cast V (u x1)) else .inr 1
theorem cl_cast (hR : RepC G V) (hB : am_rm G 1 6) (x1 : Int32) : am_C am_T (d + 12) 121 [.ref 0, .int x1] G (OC G (rfV V (sp_cast V x1)) (sp_cast V x1)) := by
  have hc := am_C_one am_T (d + 11)
  have hsh := hR.1
  have hv := hR.2.1
  obtain ⟨q, l, hT, -, -⟩ := hR.2.2.2.1
  have hr := hR.2.2.2.2.1.1
  have vd := hv.2.2.2.1
  have bB := vd.1
  have bH := vd.2.1
  have bD := vd.2.2.1
  have hs9 := hv.2.2.2.2.2.1
  have hvs := hs9.1
  have hg := hvs.g6 bB
  have ht := hvs.t6 bB
  have hm := hvs.2.2.2.2.2.1
  have h9 := hs9.2
  have p6 : 2 ^ dB (vδ V) ≤ 64 := Nat.pow_le_pow_right (n := 2) (by decide) bB
  have e6 := bs1 (dB (vδ V)) (by omega)
  unfold sp_cast
  rw [we121]
  rcases vin2_or x1 0 (2) (by omega) (by omega) with ⟨b1, hl1, hh1, rfl⟩ | hx1
  · rw [if_pos (vin2_t hl1 hh1 (by omega))]
    have na1 : ¬ b1 < 0 := by omega
    have nb1 : ¬ 2 ≤ b1 := by omega
    have nc1 : ¬ 1 < b1 := by omega
    simp only [u_wn (show b1 < 2147483648 by omega)]
    generalize hP : OC G (rfV V (.inl (q_cast V b1))) (.inl (q_cast V b1)) = P
    simp +decide (disch := omega) only [↓wm1, wb121_0 hc, wb121_5 hc, wb121_10 hc, wb121_14 hc, wb121_15 hc, wb121_18 hc, wb121_36 hc, wb121_40 hc, wb121_50 hc, wb121_57 hc, w0, w1, rI_wI, rP_wI, rL_wI, rI_wR, rP_wR, is_wI, is_wR, ia_wI, ia_wR, ow_wI, ow_wR, wn_add, wn_mul, wn_cl, wn_le, wn_lt, wn_inj, wn_ne1, wn_1ne, wn_gt1, wn_le1, nb0, nb1, am_kt, am_rt, List.cons_append, List.nil_append, true_and, and_true, not_true_eq_false, not_false_eq_true, imp_f, imp_t, implies_true, Nat.zero_add, if_true, if_false, false_and, and_false, cn121, fC hsh, fW2 hsh hT, fD hsh hT.2.2.1, e6, na1, nb1, hh1, nc1, ct139y (v := 1) (by decide) (by decide), fS hsh h32]
    have hbk := hv.2.2.2.2.2.2.2.2.2.2.2.1
    have hpw := hv.2.2.2.2.2.2.2.2.2.2.2.2
    unfold q_cast at hP
    refine ct18 (bk := vk V) ⟨⟨hsh, hT, hr⟩, hR.2.2.2.2.2.2.1.2⟩ hpw hbk (by omega) (fun G1 i1 g1 k1 => ?_)
    by_cases z0 : b1 = 0
    · rw [if_pos z0] at hP
      simp +decide (disch := omega) only [↓wm1, wb121_36 hc, wb121_40 hc, wb121_57 hc, w0, w1, rI_wI, rP_wI, rL_wI, rI_wR, rP_wR, is_wI, is_wR, ia_wI, ia_wR, ow_wI, ow_wR, wn_add, wn_mul, wn_cl, wn_le, wn_lt, wn_inj, wn_ne1, wn_1ne, wn_gt1, wn_le1, nb0, nb1, am_kt, am_rt, List.cons_append, List.nil_append, true_and, and_true, not_true_eq_false, not_false_eq_true, imp_f, imp_t, implies_true, Nat.zero_add, if_true, if_false, false_and, and_false, cn121, fC i1.1.1, z0, g1.1]
      rw [← hP]; exact OC_ok hR (GS_q k1)
    · rw [if_neg z0] at hP
      simp +decide (disch := omega) only [↓wm1, wb121_36 hc, wb121_50 hc, wb121_57 hc, w0, w1, rI_wI, rP_wI, rL_wI, rI_wR, rP_wR, is_wI, is_wR, ia_wI, ia_wR, ow_wI, ow_wR, wn_add, wn_mul, wn_cl, wn_le, wn_lt, wn_inj, wn_ne1, wn_1ne, wn_gt1, wn_le1, nb0, nb1, am_kt, am_rt, List.cons_append, List.nil_append, true_and, and_true, not_true_eq_false, not_false_eq_true, imp_f, imp_t, implies_true, Nat.zero_add, if_true, if_false, false_and, and_false, cn121, fC i1.1.1, z0, g1.2.1]
      rw [← hP]; exact OC_ok hR (GS_q k1)
  · rw [if_neg (vin2_nf hx1)]
    generalize hP : OC G (rfV V (.inr 1)) (.inr 1) = P
    by_cases hxa : x1 < wn 0
    · simp +decide (disch := omega) only [↓wm1, wb121_0 hc, wb121_5 hc, wb121_10 hc, wb121_14 hc, wb121_15 hc, wb121_18 hc, wb121_36 hc, wb121_40 hc, wb121_50 hc, wb121_57 hc, w0, w1, rI_wI, rP_wI, rL_wI, rI_wR, rP_wR, is_wI, is_wR, ia_wI, ia_wR, ow_wI, ow_wR, wn_add, wn_mul, wn_cl, wn_le, wn_lt, wn_inj, wn_ne1, wn_1ne, wn_gt1, wn_le1, nb0, nb1, am_kt, am_rt, List.cons_append, List.nil_append, true_and, and_true, not_true_eq_false, not_false_eq_true, imp_f, imp_t, implies_true, Nat.zero_add, if_true, if_false, false_and, and_false, cn121, fC hsh, fW2 hsh hT, fD hsh hT.2.2.1, e6, hxa, ct139n hsh hB]
      rw [← hP]; exact OC_8 hR hB
    · have hxb : ¬ x1 < wn (2) := by rcases hx1 with z | z; exact absurd z hxa; exact z
      have hxc : wn (2) ≤ x1 := Int32.not_lt.mp hxb
      have hxd : wn 1 < x1 := out3 (by decide) hxb
      simp +decide (disch := omega) only [↓wm1, wb121_0 hc, wb121_5 hc, wb121_10 hc, wb121_14 hc, wb121_15 hc, wb121_18 hc, wb121_36 hc, wb121_40 hc, wb121_50 hc, wb121_57 hc, w0, w1, rI_wI, rP_wI, rL_wI, rI_wR, rP_wR, is_wI, is_wR, ia_wI, ia_wR, ow_wI, ow_wR, wn_add, wn_mul, wn_cl, wn_le, wn_lt, wn_inj, wn_ne1, wn_1ne, wn_gt1, wn_le1, nb0, nb1, am_kt, am_rt, List.cons_append, List.nil_append, true_and, and_true, not_true_eq_false, not_false_eq_true, imp_f, imp_t, implies_true, Nat.zero_add, if_true, if_false, false_and, and_false, cn121, fC hsh, fW2 hsh hT, fD hsh hT.2.2.1, e6, hxa, hxb, hxc, hxd, ct139n hsh hB]
      rw [← hP]; exact OC_8 hR hB
theorem rf_cast (hR : RepR G V) (x1 : Int32) : am_C am_T (d + 12) 235 [.ref 334, .int x1] G (OR G (rfV V (sp_cast V x1)) 1 (sp_cast V x1)) := by
  have hc := am_C_one am_T (d + 11)
  have k0 : Kp QSR G (am_wI G 334 0 (wn 0)) := (Kp.refl G).wI (Or.inl ⟨rfl, Or.inl rfl⟩) _
  have e0 : am_gI (am_wI G 334 0 (wn 0)) 334 0 = wn 0 := by rw [rI_wI, if_pos ⟨rfl, rfl⟩]
  have hR0 := hR.q k0
  have hshG := hR.1
  unfold sp_cast
  rw [we235]
  generalize hOR : OR G = OG
  simp +decide (disch := omega) only [↓wm1, wb235_0 hc, w0, w1, w60, w100, w600, rI_wI, rP_wI, rL_wI, rI_wR, rP_wR, is_wI, is_wR, ia_wI, ia_wR, ow_wI, ow_wR, wn_add, wn_mul, wn_cl, wn_le, wn_lt, wn_inj, wn_ne1, wn_1ne, wn_gt1, wn_le1, nb0, nb1, am_kt, am_rt, List.cons_append, List.nil_append, true_and, and_true, not_true_eq_false, not_false_eq_true, imp_f, imp_t, implies_true, Nat.zero_add, if_true, if_false, false_and, and_false, fM hshG, fE2 hR.2.2.2.1, ia338 hshG]
  generalize am_wI G 334 0 (wn 0) = G0 at k0 e0 hR0 ⊢
  subst hOR
  have hsh := hR0.1
  have hv := hR0.2.1
  have hT := hR0.2.2.2.1
  have hr := hR0.2.2.2.2.1.1
  have vd := hv.2.2.2.1
  have bB := vd.1
  have bH := vd.2.1
  have bD := vd.2.2.1
  have hs9 := hv.2.2.2.2.2.1
  have hvs := hs9.1
  have hg := hvs.g6 bB
  have ht := hvs.t6 bB
  have hm := hvs.2.2.2.2.2.1
  have h9 := hs9.2
  have p6 : 2 ^ dB (vδ V) ≤ 64 := Nat.pow_le_pow_right (n := 2) (by decide) bB
  have e6 := bs1 (dB (vδ V)) (by omega)
  rcases vin2_or x1 0 (2) (by omega) (by omega) with ⟨b1, hl1, hh1, rfl⟩ | hx1
  · rw [if_pos (vin2_t hl1 hh1 (by omega))]
    simp only [u_wn (show b1 < 2147483648 by omega)]
    generalize hP : OR G (rfV V (.inl (q_cast V b1))) 1 (.inl (q_cast V b1)) = P
    simp +decide (disch := omega) only [↓wm1, wb235_0 hc, wb235_12 hc, wb235_15 hc, wb235_19 hc, wb235_20 hc, wb235_25 hc, wb235_28 hc, wb235_30 hc, wb235_45 hc, wb235_51 hc, wb235_54 hc, wb235_57 hc, wb235_61 hc, wb235_80 hc, wb235_81 hc, wb235_85 hc, wb235_91 hc, wb235_95 hc, wb235_99 hc, wb235_100 hc, w0, w1, w60, w100, w600, rI_wI, rP_wI, rL_wI, rI_wR, rP_wR, is_wI, is_wR, ia_wI, ia_wR, ow_wI, ow_wR, wn_add, wn_mul, wn_cl, wn_le, wn_lt, wn_inj, wn_ne1, wn_1ne, wn_gt1, wn_le1, nb0, nb1, am_kt, am_rt, List.cons_append, List.nil_append, true_and, and_true, not_true_eq_false, not_false_eq_true, imp_f, imp_t, implies_true, Nat.zero_add, if_true, if_false, false_and, and_false, fM hsh, fE2 hT, ia338 hsh, e6, b01, if_true, Bool.false_eq_true, ct214 hsh hT, ct215 hsh hT, ct220, ct153c, ct153v, ct152n hsh e0, vin2_t hl1 hh1 (by omega)]
    have hbk := hv.2.2.2.2.2.2.2.2.2.2.2.1
    have hlen := hv.2.2.2.2.2.2.2.2.2.2.1
    have hL : LB G0 (vk V) := ⟨hR0.2.2.2.2.2.2.1.1, hR0.2.2.2.2.2.2.1.2⟩
    unfold q_cast at hP
    refine am_for 600 (fun k ls G2 => RI G2 (vδ V) (vΛ V) (vσ V) ∧ LB G2 (vk V) ∧ Kp HM G0 G2 ∧ ls = [some (.ref 334), some (.int (wn b1)), some (.int (wn (pc (fit (vδ V) (vΛ V) (vσ V) (vk V)) k))), some (.int (fi (fit (vδ V) (vΛ V) (vσ V) (vk V)) k)), some (.int (wn k))]) ?_ ?_ 600 0 rfl _ _ ⟨⟨hsh, hT, hr⟩, hL, Kp.refl G0, rfl⟩
    · rintro k hk _ G1 ⟨i1, l1, k1, rfl⟩ nx
      have c1 : ¬ 600 ≤ k := by omega
      have pl := pc_le (fit (vδ V) (vΛ V) (vσ V) (vk V)) k
      have n60 : ¬ (wn 60 = wn 0) := by decide
      rw [wb235_37 hc]
      simp +decide (disch := omega) only [↓wm1, wb235_45 hc, w0, w1, w60, w100, w600, rI_wI, rP_wI, rL_wI, rI_wR, rP_wR, is_wI, is_wR, ia_wI, ia_wR, ow_wI, ow_wR, wn_add, wn_mul, wn_cl, wn_le, wn_lt, wn_inj, wn_ne1, wn_1ne, wn_gt1, wn_le1, nb0, nb1, am_kt, am_rt, List.cons_append, List.nil_append, true_and, and_true, not_true_eq_false, not_false_eq_true, imp_f, imp_t, implies_true, Nat.zero_add, if_true, if_false, false_and, and_false, c1, fM i1.1]
      refine ct234 i1 l1 hlen hbk hk (by omega) (fun G2 k2 => ?_)
      have i2 := i1.hm k2
      have l2 := l1.ms hlen (HM_ms k2)
      cases hf : fit (vδ V) (vΛ V) (vσ V) (vk V) k with
      | false =>
        simp +decide (disch := omega) only [↓wm1, wb235_51 hc, wb235_54 hc, wb235_85 hc, w0, w1, w60, w100, w600, rI_wI, rP_wI, rL_wI, rI_wR, rP_wR, is_wI, is_wR, ia_wI, ia_wR, ow_wI, ow_wR, wn_add, wn_mul, wn_cl, wn_le, wn_lt, wn_inj, wn_ne1, wn_1ne, wn_gt1, wn_le1, nb0, nb1, am_kt, am_rt, List.cons_append, List.nil_append, true_and, and_true, not_true_eq_false, not_false_eq_true, imp_f, imp_t, implies_true, Nat.zero_add, if_true, if_false, false_and, and_false, b01, Bool.false_eq_true]
        refine nx _ _ ⟨i2, l2, k1.trans k2, ?_⟩
        simp only [pc, fi, hf, b01, Bool.false_eq_true, false_and, if_false, Nat.add_zero]
      | true =>
        by_cases c3 : pc (fit (vδ V) (vΛ V) (vσ V) (vk V)) k = 0
        · simp +decide (disch := omega) only [↓wm1, wb235_51 hc, wb235_57 hc, wb235_61 hc, wb235_81 hc, wb235_85 hc, w0, w1, w60, w100, w600, rI_wI, rP_wI, rL_wI, rI_wR, rP_wR, is_wI, is_wR, ia_wI, ia_wR, ow_wI, ow_wR, wn_add, wn_mul, wn_cl, wn_le, wn_lt, wn_inj, wn_ne1, wn_1ne, wn_gt1, wn_le1, nb0, nb1, am_kt, am_rt, List.cons_append, List.nil_append, true_and, and_true, not_true_eq_false, not_false_eq_true, imp_f, imp_t, implies_true, Nat.zero_add, if_true, if_false, false_and, and_false, b01, c3, n60, wn_div, wn_rem, Nat.add_assoc]
          refine nx _ _ ⟨i2, l2, k1.trans k2, ?_⟩
          simp only [pc, fi, hf, c3, b01, and_self, if_true]
        · simp +decide (disch := omega) only [↓wm1, wb235_51 hc, wb235_57 hc, wb235_80 hc, wb235_81 hc, wb235_85 hc, w0, w1, w60, w100, w600, rI_wI, rP_wI, rL_wI, rI_wR, rP_wR, is_wI, is_wR, ia_wI, ia_wR, ow_wI, ow_wR, wn_add, wn_mul, wn_cl, wn_le, wn_lt, wn_inj, wn_ne1, wn_1ne, wn_gt1, wn_le1, nb0, nb1, am_kt, am_rt, List.cons_append, List.nil_append, true_and, and_true, not_true_eq_false, not_false_eq_true, imp_f, imp_t, implies_true, Nat.zero_add, if_true, if_false, false_and, and_false, b01, c3]
          refine nx _ _ ⟨i2, l2, k1.trans k2, ?_⟩
          simp only [pc, fi, hf, c3, b01, and_false, if_false, if_true]
    · rintro _ G1 ⟨i1, l1, k1, rfl⟩
      rw [wb235_37 hc]
      by_cases z0 : b1 = 0
      · rw [if_pos z0] at hP
        simp +decide (disch := omega) only [↓wm1, wb235_91 hc, wb235_95 hc, wb235_100 hc, w0, w1, w60, w100, w600, rI_wI, rP_wI, rL_wI, rI_wR, rP_wR, is_wI, is_wR, ia_wI, ia_wR, ow_wI, ow_wR, wn_add, wn_mul, wn_cl, wn_le, wn_lt, wn_inj, wn_ne1, wn_1ne, wn_gt1, wn_le1, nb0, nb1, am_kt, am_rt, List.cons_append, List.nil_append, true_and, and_true, not_true_eq_false, not_false_eq_true, imp_f, imp_t, implies_true, Nat.zero_add, if_true, if_false, false_and, and_false, Nat.le_refl, z0]
        rw [← hP]; exact OR_ok hR (k0.trans (HM_q k1)) (k1.thr (by unfold HM; omega) e0)
      · rw [if_neg z0] at hP
        simp +decide (disch := omega) only [↓wm1, wb235_91 hc, wb235_99 hc, wb235_100 hc, w0, w1, w60, w100, w600, rI_wI, rP_wI, rL_wI, rI_wR, rP_wR, is_wI, is_wR, ia_wI, ia_wR, ow_wI, ow_wR, wn_add, wn_mul, wn_cl, wn_le, wn_lt, wn_inj, wn_ne1, wn_1ne, wn_gt1, wn_le1, nb0, nb1, am_kt, am_rt, List.cons_append, List.nil_append, true_and, and_true, not_true_eq_false, not_false_eq_true, imp_f, imp_t, implies_true, Nat.zero_add, if_true, if_false, false_and, and_false, Nat.le_refl, z0]
        rw [← hP]; exact OR_ok hR (k0.trans (HM_q k1)) (k1.thr (by unfold HM; omega) e0)
  · rw [if_neg (vin2_nf hx1)]
    generalize hP : OR G (rfV V (.inr 1)) 1 (.inr 1) = P
    simp +decide (disch := omega) only [↓wm1, wb235_0 hc, wb235_12 hc, wb235_15 hc, wb235_19 hc, wb235_20 hc, wb235_25 hc, wb235_28 hc, wb235_30 hc, wb235_45 hc, wb235_51 hc, wb235_54 hc, wb235_57 hc, wb235_61 hc, wb235_80 hc, wb235_81 hc, wb235_85 hc, wb235_91 hc, wb235_95 hc, wb235_99 hc, wb235_100 hc, w0, w1, w60, w100, w600, rI_wI, rP_wI, rL_wI, rI_wR, rP_wR, is_wI, is_wR, ia_wI, ia_wR, ow_wI, ow_wR, wn_add, wn_mul, wn_cl, wn_le, wn_lt, wn_inj, wn_ne1, wn_1ne, wn_gt1, wn_le1, nb0, nb1, am_kt, am_rt, List.cons_append, List.nil_append, true_and, and_true, not_true_eq_false, not_false_eq_true, imp_f, imp_t, implies_true, Nat.zero_add, if_true, if_false, false_and, and_false, fM hsh, fE2 hT, ia338 hsh, e6, b01, if_true, Bool.false_eq_true, ct214 hsh hT, ct215 hsh hT, ct220, ct153c, ct153v, ct152n hsh e0, vin2_f hx1, ct152y (c := 1) (r := 1) (by decide) (by decide) (by decide) hsh e0]
    rw [← hP]; exact OR_8 hR k0
def sp_ask (V : Vt) (x1 : Int32) : Res := if vin2 x1 0 (2) = true then .inl (q_ask V (u x1)) else .inr 1
theorem cl_ask (hR : RepC G V) (hB : am_rm G 1 6) (x1 : Int32) : am_C am_T (d + 12) 122 [.ref 0, .int x1] G (OC G (rfV V (sp_ask V x1)) (sp_ask V x1)) := by
  have hc := am_C_one am_T (d + 11)
  have hsh := hR.1
  have hv := hR.2.1
  obtain ⟨q, l, hT, -, -⟩ := hR.2.2.2.1
  have hr := hR.2.2.2.2.1.1
  have vd := hv.2.2.2.1
  have bB := vd.1
  have bH := vd.2.1
  have bD := vd.2.2.1
  have hs9 := hv.2.2.2.2.2.1
  have hvs := hs9.1
  have hg := hvs.g6 bB
  have ht := hvs.t6 bB
  have hm := hvs.2.2.2.2.2.1
  have h9 := hs9.2
  have p6 : 2 ^ dB (vδ V) ≤ 64 := Nat.pow_le_pow_right (n := 2) (by decide) bB
  have e6 := bs1 (dB (vδ V)) (by omega)
  unfold sp_ask
  rw [we122]
  rcases vin2_or x1 0 (2) (by omega) (by omega) with ⟨b1, hl1, hh1, rfl⟩ | hx1
  · rw [if_pos (vin2_t hl1 hh1 (by omega))]
    have na1 : ¬ b1 < 0 := by omega
    have nb1 : ¬ 2 ≤ b1 := by omega
    have nc1 : ¬ 1 < b1 := by omega
    simp only [u_wn (show b1 < 2147483648 by omega)]
    generalize hP : OC G (rfV V (.inl (q_ask V b1))) (.inl (q_ask V b1)) = P
    simp +decide (disch := omega) only [↓wm1, wb122_0 hc, wb122_5 hc, wb122_10 hc, wb122_14 hc, wb122_15 hc, wb122_18 hc, wb122_36 hc, wb122_53 hc, wb122_57 hc, wb122_67 hc, wb122_74 hc, w0, w1, rI_wI, rP_wI, rL_wI, rI_wR, rP_wR, is_wI, is_wR, ia_wI, ia_wR, ow_wI, ow_wR, wn_add, wn_mul, wn_cl, wn_le, wn_lt, wn_inj, wn_ne1, wn_1ne, wn_gt1, wn_le1, nb0, nb1, am_kt, am_rt, List.cons_append, List.nil_append, true_and, and_true, not_true_eq_false, not_false_eq_true, imp_f, imp_t, implies_true, Nat.zero_add, if_true, if_false, false_and, and_false, cn122, fC hsh, fW2 hsh hT, fD hsh hT.2.2.1, e6, na1, nb1, hh1, nc1, ct139y (v := 1) (by decide) (by decide), fS hsh h32]
    have hbk := hv.2.2.2.2.2.2.2.2.2.2.2.1
    have hpw := hv.2.2.2.2.2.2.2.2.2.2.2.2
    unfold q_ask at hP
    refine ct18 (bk := vk V) ⟨⟨hsh, hT, hr⟩, hR.2.2.2.2.2.2.1.2⟩ hpw hbk (by omega) (fun G1 i1 g1 k1 => ?_)
    simp +decide (disch := omega) only [↓wm1, wb122_36 hc, w0, w1, rI_wI, rP_wI, rL_wI, rI_wR, rP_wR, is_wI, is_wR, ia_wI, ia_wR, ow_wI, ow_wR, wn_add, wn_mul, wn_cl, wn_le, wn_lt, wn_inj, wn_ne1, wn_1ne, wn_gt1, wn_le1, nb0, nb1, am_kt, am_rt, List.cons_append, List.nil_append, true_and, and_true, not_true_eq_false, not_false_eq_true, imp_f, imp_t, implies_true, Nat.zero_add, if_true, if_false, false_and, and_false, cn122, fC i1.1.1, fW2 i1.1.1 i1.1.2.1, fD i1.1.1 i1.1.2.1.2.2.1]
    refine ct21 i1 g1 (fun x hx => (hbk x hx).2) (fun G2 e5 e6 k2 => ?_)
    have s2 := i1.1.1.kp k2
    by_cases z0 : b1 = 0
    · rw [if_pos z0] at hP
      simp +decide (disch := omega) only [↓wm1, wb122_53 hc, wb122_57 hc, wb122_74 hc, w0, w1, rI_wI, rP_wI, rL_wI, rI_wR, rP_wR, is_wI, is_wR, ia_wI, ia_wR, ow_wI, ow_wR, wn_add, wn_mul, wn_cl, wn_le, wn_lt, wn_inj, wn_ne1, wn_1ne, wn_gt1, wn_le1, nb0, nb1, am_kt, am_rt, List.cons_append, List.nil_append, true_and, and_true, not_true_eq_false, not_false_eq_true, imp_f, imp_t, implies_true, Nat.zero_add, if_true, if_false, false_and, and_false, cn122, fC s2, z0, e5]
      rw [← hP]; exact OC_ok hR (GS_q (k1.trans k2))
    · rw [if_neg z0] at hP
      simp +decide (disch := omega) only [↓wm1, wb122_53 hc, wb122_67 hc, wb122_74 hc, w0, w1, rI_wI, rP_wI, rL_wI, rI_wR, rP_wR, is_wI, is_wR, ia_wI, ia_wR, ow_wI, ow_wR, wn_add, wn_mul, wn_cl, wn_le, wn_lt, wn_inj, wn_ne1, wn_1ne, wn_gt1, wn_le1, nb0, nb1, am_kt, am_rt, List.cons_append, List.nil_append, true_and, and_true, not_true_eq_false, not_false_eq_true, imp_f, imp_t, implies_true, Nat.zero_add, if_true, if_false, false_and, and_false, cn122, fC s2, z0, e6]
      rw [← hP]; exact OC_ok hR (GS_q (k1.trans k2))
  · rw [if_neg (vin2_nf hx1)]
    generalize hP : OC G (rfV V (.inr 1)) (.inr 1) = P
    by_cases hxa : x1 < wn 0
    · simp +decide (disch := omega) only [↓wm1, wb122_0 hc, wb122_5 hc, wb122_10 hc, wb122_14 hc, wb122_15 hc, wb122_18 hc, wb122_36 hc, wb122_53 hc, wb122_57 hc, wb122_67 hc, wb122_74 hc, w0, w1, rI_wI, rP_wI, rL_wI, rI_wR, rP_wR, is_wI, is_wR, ia_wI, ia_wR, ow_wI, ow_wR, wn_add, wn_mul, wn_cl, wn_le, wn_lt, wn_inj, wn_ne1, wn_1ne, wn_gt1, wn_le1, nb0, nb1, am_kt, am_rt, List.cons_append, List.nil_append, true_and, and_true, not_true_eq_false, not_false_eq_true, imp_f, imp_t, implies_true, Nat.zero_add, if_true, if_false, false_and, and_false, cn122, fC hsh, fW2 hsh hT, fD hsh hT.2.2.1, e6, hxa, ct139n hsh hB]
      rw [← hP]; exact OC_8 hR hB
    · have hxb : ¬ x1 < wn (2) := by rcases hx1 with z | z; exact absurd z hxa; exact z
      have hxc : wn (2) ≤ x1 := Int32.not_lt.mp hxb
      have hxd : wn 1 < x1 := out3 (by decide) hxb
      simp +decide (disch := omega) only [↓wm1, wb122_0 hc, wb122_5 hc, wb122_10 hc, wb122_14 hc, wb122_15 hc, wb122_18 hc, wb122_36 hc, wb122_53 hc, wb122_57 hc, wb122_67 hc, wb122_74 hc, w0, w1, rI_wI, rP_wI, rL_wI, rI_wR, rP_wR, is_wI, is_wR, ia_wI, ia_wR, ow_wI, ow_wR, wn_add, wn_mul, wn_cl, wn_le, wn_lt, wn_inj, wn_ne1, wn_1ne, wn_gt1, wn_le1, nb0, nb1, am_kt, am_rt, List.cons_append, List.nil_append, true_and, and_true, not_true_eq_false, not_false_eq_true, imp_f, imp_t, implies_true, Nat.zero_add, if_true, if_false, false_and, and_false, cn122, fC hsh, fW2 hsh hT, fD hsh hT.2.2.1, e6, hxa, hxb, hxc, hxd, ct139n hsh hB]
      rw [← hP]; exact OC_8 hR hB
theorem rf_ask (hR : RepR G V) (x1 : Int32) : am_C am_T (d + 12) 238 [.ref 334, .int x1] G (OR G (rfV V (sp_ask V x1)) 1 (sp_ask V x1)) := by
  have hc := am_C_one am_T (d + 11)
  have k0 : Kp QSR G (am_wI G 334 0 (wn 0)) := (Kp.refl G).wI (Or.inl ⟨rfl, Or.inl rfl⟩) _
  have e0 : am_gI (am_wI G 334 0 (wn 0)) 334 0 = wn 0 := by rw [rI_wI, if_pos ⟨rfl, rfl⟩]
  have hR0 := hR.q k0
  have hshG := hR.1
  unfold sp_ask
  rw [we238]
  generalize hOR : OR G = OG
  simp +decide (disch := omega) only [↓wm1, wb238_0 hc, w0, w1, rI_wI, rP_wI, rL_wI, rI_wR, rP_wR, is_wI, is_wR, ia_wI, ia_wR, ow_wI, ow_wR, wn_add, wn_mul, wn_cl, wn_le, wn_lt, wn_inj, wn_ne1, wn_1ne, wn_gt1, wn_le1, nb0, nb1, am_kt, am_rt, List.cons_append, List.nil_append, true_and, and_true, not_true_eq_false, not_false_eq_true, imp_f, imp_t, implies_true, Nat.zero_add, if_true, if_false, false_and, and_false, fM hshG, fE2 hR.2.2.2.1, ia338 hshG]
  generalize am_wI G 334 0 (wn 0) = G0 at k0 e0 hR0 ⊢
  subst hOR
  have hsh := hR0.1
  have hv := hR0.2.1
  have hT := hR0.2.2.2.1
  have hr := hR0.2.2.2.2.1.1
  have vd := hv.2.2.2.1
  have bB := vd.1
  have bH := vd.2.1
  have bD := vd.2.2.1
  have hs9 := hv.2.2.2.2.2.1
  have hvs := hs9.1
  have hg := hvs.g6 bB
  have ht := hvs.t6 bB
  have hm := hvs.2.2.2.2.2.1
  have h9 := hs9.2
  have p6 : 2 ^ dB (vδ V) ≤ 64 := Nat.pow_le_pow_right (n := 2) (by decide) bB
  have e6 := bs1 (dB (vδ V)) (by omega)
  rcases vin2_or x1 0 (2) (by omega) (by omega) with ⟨b1, hl1, hh1, rfl⟩ | hx1
  · rw [if_pos (vin2_t hl1 hh1 (by omega))]
    simp only [u_wn (show b1 < 2147483648 by omega)]
    generalize hP : OR G (rfV V (.inl (q_ask V b1))) 1 (.inl (q_ask V b1)) = P
    simp +decide (disch := omega) only [↓wm1, wb238_0 hc, wb238_12 hc, wb238_15 hc, wb238_19 hc, wb238_20 hc, wb238_25 hc, wb238_28 hc, wb238_30 hc, wb238_48 hc, wb238_54 hc, wb238_57 hc, wb238_60 hc, wb238_66 hc, wb238_73 hc, wb238_79 hc, wb238_82 hc, wb238_88 hc, wb238_94 hc, wb238_98 hc, wb238_102 hc, wb238_103 hc, w0, w1, rI_wI, rP_wI, rL_wI, rI_wR, rP_wR, is_wI, is_wR, ia_wI, ia_wR, ow_wI, ow_wR, wn_add, wn_mul, wn_cl, wn_le, wn_lt, wn_inj, wn_ne1, wn_1ne, wn_gt1, wn_le1, nb0, nb1, am_kt, am_rt, List.cons_append, List.nil_append, true_and, and_true, not_true_eq_false, not_false_eq_true, imp_f, imp_t, implies_true, Nat.zero_add, if_true, if_false, false_and, and_false, fM hsh, fE2 hT, ia338 hsh, e6, b01, if_true, Bool.false_eq_true, ct214 hsh hT, ct215 hsh hT, ct220, ct153c, ct153v, ct152n hsh e0, vin2_t hl1 hh1 (by omega)]
    have hbk := hv.2.2.2.2.2.2.2.2.2.2.2.1
    have hlen := hv.2.2.2.2.2.2.2.2.2.2.1
    have hL : LB G0 (vk V) := ⟨hR0.2.2.2.2.2.2.1.1, hR0.2.2.2.2.2.2.1.2⟩
    unfold q_ask at hP
    refine am_for (dH (vδ V)) (fun h ls G2 => RI G2 (vδ V) (vΛ V) (vσ V) ∧ LB G2 (vk V) ∧ Kp MS G0 G2 ∧ ls = [some (.ref 334), some (.int (wn b1)), some (.int (o2 (af (vδ V) (vΛ V) (vσ V) (vk V) h))), some (.int (o1 (af (vδ V) (vΛ V) (vσ V) (vk V) h))), some (.int (wn h)), none]) ?_ ?_ (dH (vδ V)) 0 (by omega) _ _ ⟨⟨hsh, hT, hr⟩, hL, Kp.refl G0, rfl⟩
    · rintro h hh _ G1 ⟨i1, l1, k1, rfl⟩ nx
      have c1 : ¬ dH (vδ V) ≤ h := by omega
      have wl := wst_le (vδ V) (vΛ V) (vσ V) (vk V) h 600
      have t236 := fun po => ct236 (d := d + 10) (post := po) i1.1 l1 hlen (fun x hx => by have := (hbk x hx).1; omega) (show h < 7 by omega)
      rw [wb238_37 hc]
      cases ht : tol (vk V) h with
      | true =>
        simp +decide (disch := omega) only [↓wm1, wb238_48 hc, wb238_54 hc, wb238_57 hc, wb238_88 hc, w0, w1, rI_wI, rP_wI, rL_wI, rI_wR, rP_wR, is_wI, is_wR, ia_wI, ia_wR, ow_wI, ow_wR, wn_add, wn_mul, wn_cl, wn_le, wn_lt, wn_inj, wn_ne1, wn_1ne, wn_gt1, wn_le1, nb0, nb1, am_kt, am_rt, List.cons_append, List.nil_append, true_and, and_true, not_true_eq_false, not_false_eq_true, imp_f, imp_t, implies_true, Nat.zero_add, if_true, if_false, false_and, and_false, fM i1.1, fE2 i1.2.1, ia338 i1.1, c1, t236, ht, b01]
        refine nx _ _ ⟨i1, l1, k1, ?_⟩
        simp only [af, ht, if_true]
      | false =>
        simp +decide (disch := omega) only [↓wm1, wb238_48 hc, wb238_54 hc, wb238_60 hc, w0, w1, rI_wI, rP_wI, rL_wI, rI_wR, rP_wR, is_wI, is_wR, ia_wI, ia_wR, ow_wI, ow_wR, wn_add, wn_mul, wn_cl, wn_le, wn_lt, wn_inj, wn_ne1, wn_1ne, wn_gt1, wn_le1, nb0, nb1, am_kt, am_rt, List.cons_append, List.nil_append, true_and, and_true, not_true_eq_false, not_false_eq_true, imp_f, imp_t, implies_true, Nat.zero_add, if_true, if_false, false_and, and_false, fM i1.1, fE2 i1.2.1, ia338 i1.1, c1, t236, ht, b01, Bool.false_eq_true]
        refine ct237 i1 l1 hlen hbk hh (by omega) (fun G2 k2 => ?_)
        have fin : ∀ x, x = af (vδ V) (vΛ V) (vσ V) (vk V) (h + 1) → am_W (am_C am_T (d + 11)) am_238 P 37 [some (.ref 334), some (.int (wn b1)), some (.int (o2 x)), some (.int (o1 x)), some (.int (wn (h + 1))), none] [] G2 := fun x hx => nx _ _ ⟨i1.ms k2, l1.ms hlen k2, k1.trans k2, by rw [hx]⟩
        cases ha : af (vδ V) (vΛ V) (vσ V) (vk V) h with
        | none =>
          simp +decide (disch := omega) only [↓wm1, wb238_66 hc, wb238_82 hc, wb238_88 hc, w0, w1, rI_wI, rP_wI, rL_wI, rI_wR, rP_wR, is_wI, is_wR, ia_wI, ia_wR, ow_wI, ow_wR, wn_add, wn_mul, wn_cl, wn_le, wn_lt, wn_inj, wn_ne1, wn_1ne, wn_gt1, wn_le1, nb0, nb1, am_kt, am_rt, List.cons_append, List.nil_append, true_and, and_true, not_true_eq_false, not_false_eq_true, imp_f, imp_t, implies_true, Nat.zero_add, if_true, if_false, false_and, and_false, o1, o2]
          exact fin (some (wst (vδ V) (vΛ V) (vσ V) (vk V) h 600, h)) (by simp only [af, ht, ha, Bool.false_eq_true, if_false])
        | some w =>
          have hw := af_lt _ _ ha
          by_cases c2 : wst (vδ V) (vΛ V) (vσ V) (vk V) h 600 < w.1
          · simp +decide (disch := omega) only [↓wm1, wb238_66 hc, wb238_73 hc, wb238_82 hc, wb238_88 hc, w0, w1, rI_wI, rP_wI, rL_wI, rI_wR, rP_wR, is_wI, is_wR, ia_wI, ia_wR, ow_wI, ow_wR, wn_add, wn_mul, wn_cl, wn_le, wn_lt, wn_inj, wn_ne1, wn_1ne, wn_gt1, wn_le1, nb0, nb1, am_kt, am_rt, List.cons_append, List.nil_append, true_and, and_true, not_true_eq_false, not_false_eq_true, imp_f, imp_t, implies_true, Nat.zero_add, if_true, if_false, false_and, and_false, o1, o2, c2]
            exact fin (some (wst (vδ V) (vΛ V) (vσ V) (vk V) h 600, h)) (by simp only [af, ht, ha, Bool.false_eq_true, if_false]; rw [if_pos c2])
          · simp +decide (disch := omega) only [↓wm1, wb238_66 hc, wb238_73 hc, wb238_79 hc, wb238_88 hc, w0, w1, rI_wI, rP_wI, rL_wI, rI_wR, rP_wR, is_wI, is_wR, ia_wI, ia_wR, ow_wI, ow_wR, wn_add, wn_mul, wn_cl, wn_le, wn_lt, wn_inj, wn_ne1, wn_1ne, wn_gt1, wn_le1, nb0, nb1, am_kt, am_rt, List.cons_append, List.nil_append, true_and, and_true, not_true_eq_false, not_false_eq_true, imp_f, imp_t, implies_true, Nat.zero_add, if_true, if_false, false_and, and_false, o1, o2, c2]
            exact fin (some w) (by simp only [af, ht, ha, Bool.false_eq_true, if_false]; rw [if_neg c2])
    · rintro _ G1 ⟨i1, l1, k1, rfl⟩
      rw [wb238_37 hc]
      by_cases z0 : b1 = 0
      · rw [if_pos z0] at hP
        simp +decide (disch := omega) only [↓wm1, wb238_94 hc, wb238_98 hc, wb238_103 hc, w0, w1, rI_wI, rP_wI, rL_wI, rI_wR, rP_wR, is_wI, is_wR, ia_wI, ia_wR, ow_wI, ow_wR, wn_add, wn_mul, wn_cl, wn_le, wn_lt, wn_inj, wn_ne1, wn_1ne, wn_gt1, wn_le1, nb0, nb1, am_kt, am_rt, List.cons_append, List.nil_append, true_and, and_true, not_true_eq_false, not_false_eq_true, imp_f, imp_t, implies_true, Nat.zero_add, if_true, if_false, false_and, and_false, fM i1.1, fE2 i1.2.1, ia338 i1.1, Nat.le_refl, z0]
        rw [← hP]; exact OR_ok hR (k0.trans (MS_q k1)) (k1.thr (by unfold MS; omega) e0)
      · rw [if_neg z0] at hP
        simp +decide (disch := omega) only [↓wm1, wb238_94 hc, wb238_102 hc, wb238_103 hc, w0, w1, rI_wI, rP_wI, rL_wI, rI_wR, rP_wR, is_wI, is_wR, ia_wI, ia_wR, ow_wI, ow_wR, wn_add, wn_mul, wn_cl, wn_le, wn_lt, wn_inj, wn_ne1, wn_1ne, wn_gt1, wn_le1, nb0, nb1, am_kt, am_rt, List.cons_append, List.nil_append, true_and, and_true, not_true_eq_false, not_false_eq_true, imp_f, imp_t, implies_true, Nat.zero_add, if_true, if_false, false_and, and_false, fM i1.1, fE2 i1.2.1, ia338 i1.1, Nat.le_refl, z0]
        rw [← hP]; exact OR_ok hR (k0.trans (MS_q k1)) (k1.thr (by unfold MS; omega) e0)
  · rw [if_neg (vin2_nf hx1)]
    generalize hP : OR G (rfV V (.inr 1)) 1 (.inr 1) = P
    simp +decide (disch := omega) only [↓wm1, wb238_0 hc, wb238_12 hc, wb238_15 hc, wb238_19 hc, wb238_20 hc, wb238_25 hc, wb238_28 hc, wb238_30 hc, wb238_48 hc, wb238_54 hc, wb238_57 hc, wb238_60 hc, wb238_66 hc, wb238_73 hc, wb238_79 hc, wb238_82 hc, wb238_88 hc, wb238_94 hc, wb238_98 hc, wb238_102 hc, wb238_103 hc, w0, w1, rI_wI, rP_wI, rL_wI, rI_wR, rP_wR, is_wI, is_wR, ia_wI, ia_wR, ow_wI, ow_wR, wn_add, wn_mul, wn_cl, wn_le, wn_lt, wn_inj, wn_ne1, wn_1ne, wn_gt1, wn_le1, nb0, nb1, am_kt, am_rt, List.cons_append, List.nil_append, true_and, and_true, not_true_eq_false, not_false_eq_true, imp_f, imp_t, implies_true, Nat.zero_add, if_true, if_false, false_and, and_false, fM hsh, fE2 hT, ia338 hsh, e6, b01, if_true, Bool.false_eq_true, ct214 hsh hT, ct215 hsh hT, ct220, ct153c, ct153v, ct152n hsh e0, vin2_f hx1, ct152y (c := 1) (r := 1) (by decide) (by decide) (by decide) hsh e0]
    rw [← hP]; exact OR_8 hR k0
end
