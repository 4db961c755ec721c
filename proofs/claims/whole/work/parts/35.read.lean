/-! Reading behind writing; what a step needs. -/
section
variable (G : am_G) (a i b j : Nat)
theorem rI_wI (v : Int32) : am_gI (am_wI G a i v) b j = if b = a ∧ j = i then v else am_gI G b j := rfl
theorem rP_wI (v : Int32) : am_gP (am_wI G a i v) b j = am_gP G b j := rfl
theorem rL_wI (v : Int32) : am_gL (am_wI G a i v) b j = am_gL G b j := rfl
theorem rK_wI (v : Int32) : am_K (am_wI G a i v) = am_K G := rfl
theorem rI_wR (f : Nat → Int32) : am_gI (am_wR G a f) b j = if b = a then f j else am_gI G b j := rfl
theorem rP_wR (f : Nat → Int32) : am_gP (am_wR G a f) b j = am_gP G b j := rfl
theorem rL_wR (f : Nat → Int32) : am_gL (am_wR G a f) b j = am_gL G b j := rfl
theorem rK_wR (f : Nat → Int32) : am_K (am_wR G a f) = am_K G := rfl
theorem rI_wP (v : Nat) : am_gI (am_wP G a i v) b j = am_gI G b j := rfl
theorem rP_wP (v : Nat) : am_gP (am_wP G a i v) b j = if b = a ∧ j = i then v else am_gP G b j := rfl
theorem rL_wP (v : Nat) : am_gL (am_wP G a i v) b j = am_gL G b j := rfl
theorem rK_wP (v : Nat) : am_K (am_wP G a i v) = am_K G := rfl
theorem rI_wL (v : Int64) : am_gI (am_wL G a i v) b j = am_gI G b j := rfl
theorem rP_wL (v : Int64) : am_gP (am_wL G a i v) b j = am_gP G b j := rfl
theorem rL_wL (v : Int64) : am_gL (am_wL G a i v) b j = if b = a ∧ j = i then v else am_gL G b j := rfl
theorem rK_wL (v : Int64) : am_K (am_wL G a i v) = am_K G := rfl
/-- the same memory but for the cells of Sc -/
def Kp (Sc : Nat → Nat → Prop) (G G' : am_G) : Prop := am_K G' = am_K G ∧ am_us G' = am_us G ∧ am_sl G' = am_sl G ∧ G'.2.1 = G.2.1 ∧ (∀ a i, ¬ Sc a i → am_gI G' a i = am_gI G a i) ∧ ∀ a i, ¬ Sc a i → am_gL G' a i = am_gL G a i
end
theorem Kp.refl {Sc : Nat → Nat → Prop} (G : am_G) : Kp Sc G G := ⟨rfl, rfl, rfl, rfl, fun _ _ _ => rfl, fun _ _ _ => rfl⟩
theorem Kp.trans {Sc : Nat → Nat → Prop} {G G1 G2 : am_G} (h : Kp Sc G G1) (k : Kp Sc G1 G2) : Kp Sc G G2 :=
  ⟨k.1.trans h.1, k.2.1.trans h.2.1, k.2.2.1.trans h.2.2.1, k.2.2.2.1.trans h.2.2.2.1, fun a i q => (k.2.2.2.2.1 a i q).trans (h.2.2.2.2.1 a i q), fun a i q => (k.2.2.2.2.2 a i q).trans (h.2.2.2.2.2 a i q)⟩
theorem Kp.wI {Sc : Nat → Nat → Prop} {G G1 : am_G} (h : Kp Sc G G1) {a i : Nat} (ha : Sc a i) (v : Int32) : Kp Sc G (am_wI G1 a i v) := by
  refine ⟨h.1, h.2.1, h.2.2.1, h.2.2.2.1, fun b j hb => ?_, h.2.2.2.2.2⟩
  rw [rI_wI, if_neg (by rintro ⟨rfl, rfl⟩; exact hb ha)]
  exact h.2.2.2.2.1 b j hb
theorem Kp.wL {Sc : Nat → Nat → Prop} {G G1 : am_G} (h : Kp Sc G G1) {a i : Nat} (ha : Sc a i) (v : Int64) : Kp Sc G (am_wL G1 a i v) := by
  refine ⟨h.1, h.2.1, h.2.2.1, h.2.2.2.1, h.2.2.2.2.1, fun b j hb => ?_⟩
  rw [rL_wL, if_neg (by rintro ⟨rfl, rfl⟩; exact hb ha)]
  exact h.2.2.2.2.2 b j hb
theorem Kp.wR {Sc : Nat → Nat → Prop} {G G1 : am_G} (h : Kp Sc G G1) {a : Nat} (ha : ∀ i, Sc a i) (f : Nat → Int32) : Kp Sc G (am_wR G1 a f) := by
  refine ⟨h.1, h.2.1, h.2.2.1, h.2.2.2.1, fun b j hb => ?_, h.2.2.2.2.2⟩
  rw [rI_wR, if_neg (by rintro rfl; exact hb (ha j))]
  exact h.2.2.2.2.1 b j hb
theorem Kp.p {Sc : Nat → Nat → Prop} {G G' : am_G} (h : Kp Sc G G') (a i : Nat) : am_gP G' a i = am_gP G a i := by
  unfold am_gP
  rw [h.2.2.2.1]
theorem Kp.mono {Sc Sd : Nat → Nat → Prop} {G G' : am_G} (h : Kp Sc G G') (k : ∀ a i, Sc a i → Sd a i) : Kp Sd G G' :=
  ⟨h.1, h.2.1, h.2.2.1, h.2.2.2.1, fun a i q => h.2.2.2.2.1 a i (fun z => q (k a i z)), fun a i q => h.2.2.2.2.2 a i (fun z => q (k a i z))⟩
theorem Sh.kp {Sc : Nat → Nat → Prop} {G G' : am_G} (h : Sh G) (k : Kp Sc G G') : Sh G' := by
  refine ⟨by rw [k.1]; exact h.1, fun q hq => ?_⟩
  rw [k.p]
  exact h.2 q hq
theorem Sh.wI {G : am_G} (h : Sh G) (a i : Nat) (v : Int32) : Sh (am_wI G a i v) := h
theorem Sh.wR {G : am_G} (h : Sh G) (a : Nat) (f : Nat → Int32) : Sh (am_wR G a f) := h
theorem Sh.wL {G : am_G} (h : Sh G) (a i : Nat) (v : Int64) : Sh (am_wL G a i v) := h
/-- an element of an int row -/
theorem Sh.ia {G : am_G} (h : Sh G) {a n j : Nat} (hk : kk0[a]? = some (100, n)) (hj : j < n) (hn : n < 2147483648) : am_ia G a (wn j) := Or.inl ⟨n, h.k hk, wn_in hj hn⟩
theorem Sh.ow {G : am_G} (h : Sh G) {a n k j : Nat} (hk : kk0[a]? = some (k, n)) (hj : j < n) (hn : n < 2147483648) : am_ow G a (wn j) k := ⟨n, h.k hk, wn_in hj hn⟩
theorem Sh.ba {G : am_G} (h : Sh G) {a n j : Nat} (hk : kk0[a]? = some (105, n)) (hj : j < n) (hn : n < 2147483648) : am_ba G a (wn j) := Or.inl ⟨n, h.k hk, wn_in hj hn⟩
theorem Sh.ra {G : am_G} (h : Sh G) {a n j : Nat} (hk : kk0[a]? = some (102, n)) (hj : j < n) (hn : n < 2147483648) : am_ra G a (wn j) := Or.inl ⟨n, h.k hk, wn_in hj hn⟩
theorem Sh.ra4 {G : am_G} (h : Sh G) {a n j : Nat} (hk : kk0[a]? = some (104, n)) (hj : j < n) (hn : n < 2147483648) : am_ra G a (wn j) := Or.inr (Or.inr ⟨n, h.k hk, wn_in hj hn⟩)
theorem Sh.ra3 {G : am_G} (h : Sh G) {a n j : Nat} (hk : kk0[a]? = some (103, n)) (hj : j < n) (hn : n < 2147483648) : am_ra G a (wn j) := Or.inr (Or.inl ⟨n, h.k hk, wn_in hj hn⟩)
/-- a counted loop -/
theorem am_for {cl : Nat → List Value → am_G → (am_O → am_G → Prop) → Prop} {M : am_M} {post : am_O → am_G → Prop} {pc : Nat} (N : Nat) (Inv : Nat → am_L → am_G → Prop)
    (step : ∀ j, j < N → ∀ ls G, Inv j ls G → (∀ ls' G', Inv (j + 1) ls' G' → am_W cl M post pc ls' [] G') → am_W cl M post pc ls [] G) (fin : ∀ ls G, Inv N ls G → am_W cl M post pc ls [] G) :
    ∀ n j, j + n = N → ∀ ls G, Inv j ls G → am_W cl M post pc ls [] G := by
  intro n
  induction n with
  | zero =>
    intro j hj ls G h
    obtain rfl : j = N := by omega
    exact fin ls G h
  | succ n ih =>
    intro j hj ls G h
    exact step j (by omega) ls G h (fun ls' G' h' => ih (j + 1) (by omega) ls' G' h')
