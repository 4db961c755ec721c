def dl0 : List Nat := [0]
def dl1 : List Nat := [0]
def dl2 : List Nat := [0, 1]
def dl3 : List Nat := [0, 1, 1, 2, 2, 3]
def dl4 : List Nat := [0, 1, 1, 2, 2, 3, 1, 1, 2, 3, 2, 3, 2, 2, 3, 3, 3, 4, 3, 3, 3, 3, 4, 4]
def dl5 : List Nat := [0, 1, 1, 2, 2, 3, 1, 1, 2, 3, 2, 3, 2, 2, 3, 3, 3, 4, 3, 3, 3, 3, 4, 4, 1, 1, 1, 2, 2, 3, 2, 2, 3, 4, 3, 4, 2, 2, 3, 4, 3, 4, 3, 3, 4, 4, 4, 4, 2, 2, 2, 3, 2, 3, 3, 3, 3, 4, 3, 4, 3, 3, 4, 4, 4, 5, 3, 3, 4, 4, 4, 5, 3, 3, 3, 4, 3, 4, 3, 3, 3, 4, 3, 4, 4, 4, 4, 4, 4, 5, 4, 4, 4, 4, 5, 5, 4, 4, 4, 4, 4, 4, 4, 4, 4, 5, 4, 5, 4, 4, 4, 5, 4, 5, 5, 5, 5, 5, 5, 5]
def dl6_0 : List Nat := [0, 1, 1, 2, 2, 3, 1, 1, 2, 3, 2, 3, 2, 2, 3, 3, 3, 4, 3, 3, 3, 3, 4, 4, 1, 1, 1, 2, 2, 3, 2, 2, 3, 4, 3, 4, 2, 2, 3, 4, 3, 4, 3, 3, 4, 4, 4, 4, 2, 2, 2, 3, 2, 3, 3, 3, 3, 4, 3, 4, 3, 3, 4, 4, 4, 5, 3, 3, 4, 4, 4, 5, 3, 3, 3, 4, 3, 4, 3, 3, 3, 4, 3, 4, 4, 4, 4, 4, 4, 5, 4, 4, 4, 4, 5, 5, 4, 4, 4, 4, 4, 4, 4, 4, 4, 5, 4, 5, 4, 4, 4, 5, 4, 5, 5, 5, 5, 5, 5, 5]
def dl6_1 : List Nat := [1, 1, 1, 2, 2, 3, 1, 1, 2, 3, 2, 3, 2, 2, 3, 3, 3, 4, 3, 3, 3, 3, 4, 4, 2, 2, 2, 2, 2, 3, 3, 3, 4, 5, 4, 5, 3, 3, 4, 5, 4, 5, 3, 3, 4, 5, 4, 5, 2, 2, 2, 3, 2, 3, 3, 3, 4, 5, 4, 5, 3, 3, 4, 5, 4, 5, 3, 3, 4, 5, 4, 5, 3, 3, 3, 4, 3, 4, 4, 4, 4, 5, 4, 5, 4, 4, 4, 5, 4, 5, 4, 4, 5, 5, 5, 5, 4, 4, 4, 4, 4, 4, 4, 4, 4, 5, 4, 5, 4, 4, 4, 5, 4, 5, 5, 5, 5, 5, 5, 5]
def dl6_2 : List Nat := [2, 2, 2, 2, 2, 3, 2, 2, 3, 4, 3, 4, 2, 2, 3, 4, 3, 4, 3, 3, 4, 4, 4, 4, 3, 3, 3, 3, 3, 3, 3, 3, 4, 5, 4, 5, 3, 3, 4, 5, 4, 5, 3, 3, 4, 5, 4, 5, 3, 3, 3, 4, 3, 4, 4, 4, 4, 5, 4, 5, 4, 4, 5, 5, 5, 6, 4, 4, 5, 5, 5, 6, 3, 3, 3, 4, 3, 4, 4, 4, 4, 5, 4, 5, 4, 4, 5, 5, 5, 6, 4, 4, 5, 5, 5, 6, 4, 4, 4, 5, 4, 5, 4, 4, 4, 5, 4, 5, 5, 5, 5, 5, 5, 6, 5, 5, 5, 5, 5, 6]
def dl6_3 : List Nat := [3, 3, 3, 3, 3, 3, 3, 3, 4, 4, 4, 4, 3, 3, 4, 4, 4, 5, 3, 3, 4, 4, 4, 5, 3, 3, 3, 3, 3, 3, 3, 3, 4, 5, 4, 5, 3, 3, 4, 5, 4, 5, 3, 3, 4, 5, 4, 5, 4, 4, 4, 4, 4, 4, 4, 4, 4, 5, 4, 5, 4, 4, 5, 5, 5, 6, 4, 4, 5, 5, 5, 6, 4, 4, 4, 5, 4, 5, 4, 4, 4, 5, 4, 5, 5, 5, 5, 5, 5, 6, 5, 5, 5, 5, 6, 6, 4, 4, 4, 5, 4, 5, 4, 4, 4, 5, 4, 5, 5, 5, 5, 5, 5, 6, 5, 5, 5, 5, 6, 6]
def dl6_4 : List Nat := [4, 4, 4, 4, 4, 4, 4, 4, 4, 4, 4, 4, 4, 4, 4, 4, 5, 5, 4, 4, 4, 4, 5, 5, 4, 4, 4, 4, 4, 4, 4, 4, 5, 5, 5, 5, 4, 4, 5, 5, 5, 5, 4, 4, 5, 5, 5, 5, 4, 4, 4, 4, 4, 4, 4, 4, 5, 5, 5, 5, 4, 4, 5, 5, 5, 6, 4, 4, 5, 5, 5, 6, 5, 5, 5, 5, 5, 5, 5, 5, 5, 5, 5, 5, 5, 5, 5, 5, 5, 6, 5, 5, 5, 5, 6, 6, 5, 5, 5, 5, 5, 5, 5, 5, 5, 6, 5, 6, 5, 5, 5, 6, 5, 6, 6, 6, 6, 6, 6, 6]
def dl6_5 : List Nat := [5, 5, 5, 5, 5, 5, 5, 5, 5, 5, 5, 5, 5, 5, 5, 5, 5, 5, 5, 5, 5, 5, 5, 5, 5, 5, 5, 5, 5, 5, 5, 5, 5, 5, 5, 5, 5, 5, 5, 5, 5, 5, 5, 5, 5, 5, 5, 5, 5, 5, 5, 5, 5, 5, 5, 5, 5, 5, 5, 5, 5, 5, 5, 5, 6, 6, 5, 5, 5, 5, 6, 6, 5, 5, 5, 5, 5, 5, 5, 5, 5, 5, 5, 5, 5, 5, 5, 5, 6, 6, 5, 5, 5, 5, 6, 6, 6, 6, 6, 6, 6, 6, 6, 6, 6, 6, 6, 6, 6, 6, 6, 6, 6, 6, 6, 6, 6, 6, 6, 6]
def dl6 : List Nat := dl6_0 ++ (dl6_1 ++ (dl6_2 ++ (dl6_3 ++ (dl6_4 ++ (dl6_5)))))
/-- how far each row is from rounds -/
def dls (n row : Nat) : Nat := (match n with
  | 1 => dl1
  | 2 => dl2
  | 3 => dl3
  | 4 => dl4
  | 5 => dl5
  | 6 => dl6
  | _ => dl0).getD row 0
def mny (n : Nat) : Nat := [1, 1, 2, 6, 24, 120, 720].getD n 0
def fir (n : Nat) : Nat := [0, 0, 1, 3, 9, 33, 153].getD n 0
/-! THE WHOLE STATE, as numbers, and how the two sides keep it. -/
abbrev Vt : Type := (Nat → Nat) × Nat × Option Nat × Dt × List Tok × St × Nat × (Nat → St) × Nat × (Nat → St) × (Nat → Nat) × (Nat → Nat → St) × List (Nat × Nat) × Nat × Nat × Nat
def mkV (t : Nat → Nat) (m : Nat) (f : Option Nat) (δ : Dt) (Λ : List Tok) (σ : St) (w : Nat) (b : Nat → St) (i : Nat) (is : Nat → St) (iw : Nat → Nat) (ib : Nat → Nat → St) (k : List (Nat × Nat)) (r c7 c8 : Nat) : Vt := (t, m, f, δ, Λ, σ, w, b, i, is, iw, ib, k, r, c7, c8)
def vt (V : Vt) : Nat → Nat := V.1
def vm (V : Vt) : Nat := V.2.1
def vf (V : Vt) : Option Nat := V.2.2.1
def vδ (V : Vt) : Dt := V.2.2.2.1
def vΛ (V : Vt) : List Tok := V.2.2.2.2.1
def vσ (V : Vt) : St := V.2.2.2.2.2.1
def vw (V : Vt) : Nat := V.2.2.2.2.2.2.1
def vb (V : Vt) : Nat → St := V.2.2.2.2.2.2.2.1
def vi (V : Vt) : Nat := V.2.2.2.2.2.2.2.2.1
def vis (V : Vt) : Nat → St := V.2.2.2.2.2.2.2.2.2.1
def viw (V : Vt) : Nat → Nat := V.2.2.2.2.2.2.2.2.2.2.1
def vib (V : Vt) : Nat → Nat → St := V.2.2.2.2.2.2.2.2.2.2.2.1
def vk (V : Vt) : List (Nat × Nat) := V.2.2.2.2.2.2.2.2.2.2.2.2.1
def vr (V : Vt) : Nat := V.2.2.2.2.2.2.2.2.2.2.2.2.2.1
def v7 (V : Vt) : Nat := V.2.2.2.2.2.2.2.2.2.2.2.2.2.2.1
def v8 (V : Vt) : Nat := V.2.2.2.2.2.2.2.2.2.2.2.2.2.2.2
def cnt7 (V : Vt) : Vt := mkV (vt V) (vm V) (vf V) (vδ V) (vΛ V) (vσ V) (vw V) (vb V) (vi V) (vis V) (viw V) (vib V) (vk V) (vr V) (v7 V + 1) (v8 V)
def cnt8 (V : Vt) : Vt := mkV (vt V) (vm V) (vf V) (vδ V) (vΛ V) (vσ V) (vw V) (vb V) (vi V) (vis V) (viw V) (vib V) (vk V) (vr V) (v7 V) (v8 V + 1)
def oI (x : Option Nat) : Int32 := match x with
  | some p => wn p
  | none => mm
/-- a state of a work's end: the hours are bounded -/
def vS9 (B H : Nat) (σ : St) : Prop := vS B H σ ∧ sH σ ≤ 900
/-- what is always so -/
def vV (V : Vt) : Prop := (∀ i, vt V i < 256) ∧ vm V ≤ 600 ∧ (∀ p, vf V = some p → 0 ≤ p) ∧ vD (vδ V) ∧ okΛ (vΛ V) ∧ vS9 (dB (vδ V)) (dH (vδ V)) (vσ V) ∧ vw V ≤ 16 ∧ (∀ i, i < vw V → vS9 (dB (vδ V)) (dH (vδ V)) (vb V i)) ∧ vi V ≤ 3 ∧
  (∀ j, j < vi V → vS9 (dB (vδ V)) (dH (vδ V)) (vis V j) ∧ viw V j ≤ 16 ∧ ∀ i, i < viw V j → vS9 (dB (vδ V)) (dH (vδ V)) (vib V j i)) ∧ (vk V).length ≤ 7 ∧ (∀ x ∈ vk V, x.1 < dH (vδ V) ∧ x.2 ≤ 99) ∧ (vk V).Pairwise (fun x y => x.1 ≠ y.1)
/-- the book by houses -/
def bkv (k : List (Nat × Nat)) (h : Nat) : Int32 := match k.find? (fun x => x.1 == h) with
  | some x => wn x.2
  | none => mm
/-- the rows that were found already -/
def rR (G : am_G) : Prop := ∀ n, 1 ≤ n → n ≤ 6 → (∀ row, row < mny n → am_gI G 111 (fir n + row) = mm) ∨ (∀ row, row < mny n → am_gI G 111 (fir n + row) = wn (dls n row))
def TwC (G : am_G) (δ : Dt) (Λ : List Tok) : Prop := ∃ q l, Tw G q l δ Λ ∧ am_gP G 3 1 = 16 - q ∧ am_gP G 3 3 = 43 - l
/-- by the object -/
def RepC (G : am_G) (V : Vt) : Prop := Sh G ∧ vV V ∧ (Bt G (vt V) ∧ am_gI G 1 1 = wn (vm V) ∧ am_gI G 1 7 = oI (vf V)) ∧ TwC G (vδ V) (vΛ V) ∧ (rS G 32 (vσ V) ∧ am_gI G 31 2 = wn (vw V) ∧ ∀ i, i < vw V → rS G (37 + 4 * i) (vb V i)) ∧
  (am_gI G 0 5 = wn (vi V) ∧ ∀ j, j < vi V → rS G (125 + 70 * j) (vis V j) ∧ am_gI G (124 + 70 * j) 2 = wn (viw V j) ∧ ∀ i, i < viw V j → rS G (130 + 70 * j + 4 * i) (vib V j i)) ∧
  (am_gI G 106 0 = wn (vk V).length ∧ ∀ h, h < 7 → am_gI G 107 h = bkv (vk V) h) ∧ (am_gI G 0 6 = wn (vr V) ∧ am_gI G 0 7 = wn (v7 V) ∧ am_gI G 0 8 = wn (v8 V)) ∧ rR G
/-- by the reference -/
def RepR (G : am_G) (V : Vt) : Prop := Sh G ∧ vV V ∧ (Bq G (vt V) ∧ am_gI G 334 1 = wn (vm V) ∧ am_gI G 334 3 = oI (vf V)) ∧ Tm G (vδ V) (vΛ V) ∧ (rW G 808 0 (vσ V) ∧ am_gI G 334 34 = wn (vw V) ∧ ∀ i, i < vw V → rW G (811 + i) 0 (vb V i)) ∧
  (am_gI G 334 36 = wn (vi V) ∧ ∀ j, j < vi V → am_gI G (828 + j) 0 = wn (viw V j) ∧ rW G (828 + j) 1 (vis V j) ∧ ∀ i, i < viw V j → rW G (828 + j) (97 + 96 * i) (vib V j i)) ∧
  (am_gI G 334 33 = wn (vk V).length ∧ ∀ i x, (vk V)[i]? = some x → am_gI G (710 + i) 0 = wn x.1 ∧ am_gI G (710 + i) 1 = wn x.2) ∧ (am_gI G 334 35 = wn (vr V) ∧ am_gI G 336 0 = wn (v7 V) ∧ am_gI G 336 1 = wn (v8 V))
/-- texts and tables -/
def Cs (G : am_G) : Prop := (am_K G).length ≤ 90000 ∧ (∀ i, i < 20 → am_gI G 100008 i = wn (cx tx0 i)) ∧ (∀ i, i < 42 → am_gI G 100009 i = wn (cx tx1 i)) ∧ (∀ i, i < 60 → am_gI G 100010 i = wn (cx tx2 i)) ∧ (∀ i, i < 7 → am_gI G 100001 i = wn (mny i)) ∧ ∀ i, i < 7 → am_gI G 100002 i = wn (fir i)
/-- cells that a call of the object may not change -/
def Hi (a : Nat) : Prop := (334 ≤ a ∧ a < 839) ∨ 100000 ≤ a
def Fc (G G' : am_G) : Prop := am_sl G' = am_sl G ∧ (am_K G').length ≤ (am_K G).length + 1 ∧ am_us G' ≤ am_us G + 6 ∧ (∀ a i, Hi a → am_gI G' a i = am_gI G a i) ∧ ∀ a i, Hi a → am_gL G' a i = am_gL G a i
abbrev Res : Type := Int32 ⊕ Nat
def rfV (V : Vt) (r : Res) : Vt := match r with
  | .inl _ => V
  | .inr 0 => cnt7 V
  | .inr _ => cnt8 V
def OC (G : am_G) (V : Vt) (r : Res) (o : am_O) (G' : am_G) : Prop := RepC G' V ∧ Fc G G' ∧ match r with
  | .inl v => o = .inl (some (.int v))
  | .inr 0 => ∃ q, o = .inr q ∧ (am_K G')[q]? = some (201, 6)
  | .inr _ => ∃ q, o = .inr q ∧ (am_K G')[q]? = some (200, 6)
def RS : Nat → Nat → Prop := fun a _ => 334 ≤ a ∧ a < 838
def OR (G : am_G) (V : Vt) (cd : Nat) (r : Res) (o : am_O) (G' : am_G) : Prop := RepR G' V ∧ Kp RS G G' ∧ match r with
  | .inl v => o = .inl (some (.int v)) ∧ am_gI G' 334 0 = wn 0
  | .inr 0 => (∃ x, o = .inl (some (.int x))) ∧ am_gI G' 334 0 = wn 1
  | .inr _ => (∃ x, o = .inl (some (.int x))) ∧ am_gI G' 334 0 = wn cd
/-- from 0 to below n -/
def vin (x : Int32) (n : Nat) : Bool := decide (¬ x < wn 0 ∧ x < wn n)
theorem vin_t {b n : Nat} (hb : b < n) (hn : n < 2147483648) : vin (wn b) n = true := by
  unfold vin
  rw [decide_eq_true_eq, wn_lt (by omega) (by omega), wn_lt (by omega) hn]
  omega
theorem vin_f {x : Int32} {n : Nat} (h : x < wn 0 ∨ ¬ x < wn n) : vin x n = false := by
  unfold vin
  rw [decide_eq_false_iff_not]
  rintro ⟨h1, h2⟩
  rcases h with h | h
  · exact h1 h
  · exact h h2
theorem Fc.kp {Sc : Nat → Nat → Prop} {G G' : am_G} (k : Kp Sc G G') (hn : ∀ a i, Sc a i → a < 334) : Fc G G' := by
  refine ⟨k.2.2.1, by rw [k.1]; omega, by rw [k.2.1]; omega, fun a i h => k.i (fun z => ?_), fun a i h => k.2.2.2.2.2 a i (fun z => ?_)⟩
  · have := hn a i z; unfold Hi at h; omega
  · have := hn a i z; unfold Hi at h; omega
/-- scratch cells of the object's questions -/
def QSC : Nat → Nat → Prop := fun a i => a = 22 ∨ a = 25 ∨ (26 ≤ a ∧ a ≤ 30) ∨ (102 ≤ a ∧ a ≤ 105) ∨ (a = 106 ∧ 3 ≤ i) ∨ (108 ≤ a ∧ a ≤ 110) ∨ (112 ≤ a ∧ a ≤ 123)
theorem QSC_lt {a i : Nat} (h : QSC a i) : a < 334 := by unfold QSC at h; omega
theorem RepC.q {G G' : am_G} {V : Vt} (h : RepC G V) (k : Kp QSC G G') : RepC G' V := by
  obtain ⟨h1, h2, ⟨h3, h4, h5⟩, ⟨q, l, h6, h7, h8⟩, ⟨h9, h10, h11⟩, ⟨h12, h13⟩, ⟨h14, h15⟩, ⟨h16, h17, h18⟩, h19⟩ := h
  have e : ∀ a i, ¬ QSC a i → am_gI G' a i = am_gI G a i := fun a i z => k.i z
  have v16 := h2.2.2.2.2.2.2.1
  have v3 := h2.2.2.2.2.2.2.2.2.1
  refine ⟨h1.kp k, h2, ⟨h3.kp k (by intro i z; unfold QSC at z; omega), by rw [e _ _ (by unfold QSC; omega)]; exact h4, by rw [e _ _ (by unfold QSC; omega)]; exact h5⟩, ⟨q, l, h6.kp k (by intro a i z; unfold QSC at z; omega), by rw [k.p]; exact h7, by rw [k.p]; exact h8⟩,
    ⟨h9.kp k (by intro a i z1 z2 z; unfold QSC at z; omega), by rw [e _ _ (by unfold QSC; omega)]; exact h10, fun i hi => (h11 i hi).kp k (by intro a j z1 z2 z; unfold QSC at z; omega)⟩,
    ⟨by rw [e _ _ (by unfold QSC; omega)]; exact h12, fun j hj => ⟨(h13 j hj).1.kp k (by intro a i z1 z2 z; unfold QSC at z; omega), by rw [e _ _ (by unfold QSC; omega)]; exact (h13 j hj).2.1, fun i hi => ((h13 j hj).2.2 i hi).kp k (by intro a m z1 z2 z; unfold QSC at z; omega)⟩⟩,
    ⟨by rw [e _ _ (by unfold QSC; omega)]; exact h14, fun h hh => by rw [e _ _ (by unfold QSC; omega)]; exact h15 h hh⟩,
    ⟨by rw [e _ _ (by unfold QSC; omega)]; exact h16, by rw [e _ _ (by unfold QSC; omega)]; exact h17, by rw [e _ _ (by unfold QSC; omega)]; exact h18⟩, ?_⟩
  intro n n1 n2
  rcases h19 n n1 n2 with z | z
  · left; intro row hr; rw [e _ _ (by unfold QSC; omega)]; exact z row hr
  · right; intro row hr; rw [e _ _ (by unfold QSC; omega)]; exact z row hr
theorem OC_ok {G G' : am_G} {V : Vt} {v : Int32} (h : RepC G V) (k : Kp QSC G G') : OC G V (.inl v) (.inl (some (.int v))) G' := ⟨h.q k, Fc.kp k (fun _ _ z => QSC_lt z), rfl⟩
/-- one more cell -/
theorem nw_I {G : am_G} {k n a i : Nat} (h : a ≠ (am_K G).length) : am_gI (am_nw G k n) a i = am_gI G a i := by
  show (if a = (am_K G).length then 0 else G.1 a i) = G.1 a i
  rw [if_neg h]
theorem nw_P {G : am_G} {k n a i : Nat} (h : a ≠ (am_K G).length) : am_gP (am_nw G k n) a i = am_gP G a i := by
  show (if a = (am_K G).length then am_null else G.2.1 a i) = G.2.1 a i
  rw [if_neg h]
theorem nw_L {G : am_G} {k n a i : Nat} (h : a ≠ (am_K G).length) : am_gL (am_nw G k n) a i = am_gL G a i := by
  show (if a = (am_K G).length then 0 else G.2.2.1 a i) = G.2.2.1 a i
  rw [if_neg h]
theorem nw_K (G : am_G) (k n : Nat) : am_K (am_nw G k n) = am_K G ++ [(k, n)] := rfl
theorem Sh.nw {G : am_G} (h : Sh G) (k n : Nat) : Sh (am_nw G k n) := by
  have hl := h.len
  obtain ⟨⟨E, hE⟩, hP⟩ := h
  refine ⟨⟨E ++ [(k, n)], by rw [nw_K, hE, List.append_assoc]⟩, fun q hq => ?_⟩
  have := pp0_lt q hq
  rw [nw_P (by omega)]
  exact hP q hq
theorem rS.eq {G G' : am_G} {s : Nat} {σ : St} (h : rS G s σ) (e : ∀ a i, s ≤ a → a < s + 4 → am_gI G' a i = am_gI G a i) : rS G' s σ := by
  obtain ⟨r0, r1, r2, r3, r4, r5, r6⟩ := h
  exact ⟨by rw [e _ _ (by omega) (by omega)]; exact r0, by rw [e _ _ (by omega) (by omega)]; exact r1, by rw [e _ _ (by omega) (by omega)]; exact r2, by rw [e _ _ (by omega) (by omega)]; exact r3,
    fun b hb => by rw [e _ _ (by omega) (by omega)]; exact r4 b hb, fun b hb => by rw [e _ _ (by omega) (by omega)]; exact r5 b hb, fun b hb => by rw [e _ _ (by omega) (by omega)]; exact r6 b hb⟩
theorem rD.eq {G G' : am_G} {a : Nat} {δ : Dt} (h : rD G a δ) (e : ∀ q i, a ≤ q → q ≤ a + 7 → am_gI G' q i = am_gI G q i) : rD G' a δ := by
  obtain ⟨r0, r1, r2, r3, r4, r5, r6⟩ := h
  refine ⟨?_, ?_, ?_, ?_, fun b hb => ⟨?_, ?_⟩, fun b hb => ⟨?_, ?_⟩, fun b hb => ⟨?_, ?_, ?_⟩⟩
  · rw [e _ _ (by omega) (by omega)]; exact r0
  · rw [e _ _ (by omega) (by omega)]; exact r1
  · rw [e _ _ (by omega) (by omega)]; exact r2
  · rw [e _ _ (by omega) (by omega)]; exact r3
  · rw [e _ _ (by omega) (by omega)]; exact (r4 b hb).1
  · rw [e _ _ (by omega) (by omega)]; exact (r4 b hb).2
  · rw [e _ _ (by omega) (by omega)]; exact (r5 b hb).1
  · rw [e _ _ (by omega) (by omega)]; exact (r5 b hb).2
  · rw [e _ _ (by omega) (by omega)]; exact (r6 b hb).1
  · rw [e _ _ (by omega) (by omega)]; exact (r6 b hb).2.1
  · rw [e _ _ (by omega) (by omega)]; exact (r6 b hb).2.2
theorem Tw.eq {G G' : am_G} {q l : Nat} {δ : Dt} {Λ : List Tok} (h : Tw G q l δ Λ) (eP : ∀ i, am_gP G' 3 i = am_gP G 3 i) (e : ∀ a i, 4 ≤ a → a < 26 → am_gI G' a i = am_gI G a i) : Tw G' q l δ Λ := by
  obtain ⟨h1, h2, h3, h4, h5, h6, h7, h8⟩ := h
  refine ⟨by rw [eP]; exact h1, by rw [eP]; exact h2, h3, h4, h5.eq (fun a i b c => e a i (by omega) (by omega)), h6, ⟨?_, fun i t ht => ?_⟩, h8⟩
  · rw [e _ _ (by omega) (by omega)]; exact h7.1
  · rw [e _ _ (by omega) (by omega)]; exact h7.2 i t ht
/-- the same state by other cells, but for the counts of refusals -/
theorem RepC.cn {G G' : am_G} {V : Vt} (h : RepC G V) (hs : Sh G') (c7 c8 : Nat) (eI : ∀ a i, a < 334 → ¬ (a = 0 ∧ (i = 7 ∨ i = 8)) → am_gI G' a i = am_gI G a i) (eP : ∀ i, am_gP G' 3 i = am_gP G 3 i)
    (e7 : am_gI G' 0 7 = wn c7) (e8 : am_gI G' 0 8 = wn c8) : RepC G' (mkV (vt V) (vm V) (vf V) (vδ V) (vΛ V) (vσ V) (vw V) (vb V) (vi V) (vis V) (viw V) (vib V) (vk V) (vr V) c7 c8) := by
  obtain ⟨h1, h2, ⟨h3, h4, h5⟩, ⟨q, l, h6, h7, h8⟩, ⟨h9, h10, h11⟩, ⟨h12, h13⟩, ⟨h14, h15⟩, ⟨h16, h17, h18⟩, h19⟩ := h
  have v16 := h2.2.2.2.2.2.2.1
  have v3 := h2.2.2.2.2.2.2.2.2.1
  refine ⟨hs, h2, ⟨⟨h3.1, fun i hi => by rw [eI _ _ (by omega) (by omega)]; exact h3.2 i hi⟩, by rw [eI _ _ (by omega) (by omega)]; exact h4, by rw [eI _ _ (by omega) (by omega)]; exact h5⟩, ⟨q, l, h6.eq eP (fun a i z1 z2 => eI a i (by omega) (by omega)), by rw [eP]; exact h7, by rw [eP]; exact h8⟩,
    ⟨h9.eq (fun a i z1 z2 => eI a i (by omega) (by omega)), by rw [eI _ _ (by omega) (by omega)]; exact h10, fun i hi => ?_⟩,
    ⟨by rw [eI _ _ (by omega) (by omega)]; exact h12, fun j hj => ⟨?_, ?_, fun i hi => ?_⟩⟩,
    ⟨by rw [eI _ _ (by omega) (by omega)]; exact h14, fun h hh => by rw [eI _ _ (by omega) (by omega)]; exact h15 h hh⟩,
    ⟨by rw [eI _ _ (by omega) (by omega)]; exact h16, e7, e8⟩, ?_⟩
  · change i < vw V at hi
    exact (h11 i hi).eq (fun a j z1 z2 => eI a j (by omega) (by omega))
  · change j < vi V at hj
    exact (h13 j hj).1.eq (fun a i z1 z2 => eI a i (by omega) (by omega))
  · change j < vi V at hj
    rw [eI _ _ (by omega) (by omega)]; exact (h13 j hj).2.1
  · change j < vi V at hj
    change i < viw V j at hi
    have w16 := (h2.2.2.2.2.2.2.2.2.2.1 j hj).2.1
    exact ((h13 j hj).2.2 i hi).eq (fun a m z1 z2 => eI a m (by omega) (by omega))
  · intro n n1 n2
    rcases h19 n n1 n2 with z | z
    · left; intro row hr; rw [eI _ _ (by omega) (by omega)]; exact z row hr
    · right; intro row hr; rw [eI _ _ (by omega) (by omega)]; exact z row hr
theorem mkV_eta (V : Vt) : mkV (vt V) (vm V) (vf V) (vδ V) (vΛ V) (vσ V) (vw V) (vb V) (vi V) (vis V) (viw V) (vib V) (vk V) (vr V) (v7 V) (v8 V) = V := rfl
theorem RepC.eq {G G' : am_G} {V : Vt} (h : RepC G V) (hs : Sh G') (eI : ∀ a i, a < 334 → am_gI G' a i = am_gI G a i) (eP : ∀ i, am_gP G' 3 i = am_gP G 3 i) : RepC G' V := by
  have := h.cn hs (v7 V) (v8 V) (fun a i z _ => eI a i z) eP (by rw [eI _ _ (by decide)]; exact h.2.2.2.2.2.2.2.1.2.1) (by rw [eI _ _ (by decide)]; exact h.2.2.2.2.2.2.2.1.2.2)
  exact this
theorem OC_7 {G : am_G} {V : Vt} (h : RepC G V) (hB : am_rm G 1 6) : OC G (cnt7 V) (.inr 0) (.inr (am_K G).length) (thr7 G) := by
  have hl := h.1.len
  have hb : (am_K G).length + 1 ≤ 90000 := hB.1
  have hs7 : Sh (thr7 G) := Sh.nw (G := am_wI G 0 7 (am_gI G 0 7 + wn 1)) (h.1.wI _ _ _) 201 6
  refine ⟨h.cn hs7 (v7 V + 1) (v8 V) (fun a i z1 z2 => ?_) (fun i => ?_) ?_ ?_, ⟨rfl, ?_, ?_, fun a i z => ?_, fun a i z => ?_⟩, (am_K G).length, rfl, ?_⟩
  · show am_gI (am_nw _ _ _) a i = _
    rw [nw_I (by show a ≠ (am_K G).length; omega), rI_wI, if_neg (by omega)]
  · show am_gP (am_nw _ _ _) 3 i = _
    rw [nw_P (by show 3 ≠ (am_K G).length; omega), rP_wI]
  · show am_gI (am_nw _ _ _) 0 7 = _
    rw [nw_I (by show 0 ≠ (am_K G).length; omega), rI_wI, if_pos ⟨rfl, rfl⟩, h.2.2.2.2.2.2.2.1.2.1, wn_add]
  · show am_gI (am_nw _ _ _) 0 8 = _
    rw [nw_I (by show 0 ≠ (am_K G).length; omega), rI_wI, if_neg (by omega)]
    exact h.2.2.2.2.2.2.2.1.2.2
  · show (am_K G ++ [(201, 6)]).length ≤ _
    simp
  · show am_us G + 6 ≤ _
    omega
  · show am_gI (am_nw _ _ _) a i = _
    unfold Hi at z
    rw [nw_I (by show a ≠ (am_K G).length; omega), rI_wI, if_neg (by omega)]
  · show am_gL (am_nw _ _ _) a i = _
    unfold Hi at z
    rw [nw_L (by show a ≠ (am_K G).length; omega), rL_wI]
  · show (am_K G ++ [(201, 6)])[(am_K G).length]? = _
    simp
theorem OC_8 {G : am_G} {V : Vt} (h : RepC G V) (hB : am_rm G 1 6) : OC G (cnt8 V) (.inr 1) (.inr (am_K G).length) (thr8 G) := by
  have hl := h.1.len
  have hb : (am_K G).length + 1 ≤ 90000 := hB.1
  have hs8 : Sh (thr8 G) := Sh.nw (G := am_wI G 0 8 (am_gI G 0 8 + wn 1)) (h.1.wI _ _ _) 200 6
  refine ⟨h.cn hs8 (v7 V) (v8 V + 1) (fun a i z1 z2 => ?_) (fun i => ?_) ?_ ?_, ⟨rfl, ?_, ?_, fun a i z => ?_, fun a i z => ?_⟩, (am_K G).length, rfl, ?_⟩
  · show am_gI (am_nw _ _ _) a i = _
    rw [nw_I (by show a ≠ (am_K G).length; omega), rI_wI, if_neg (by omega)]
  · show am_gP (am_nw _ _ _) 3 i = _
    rw [nw_P (by show 3 ≠ (am_K G).length; omega), rP_wI]
  · show am_gI (am_nw _ _ _) 0 7 = _
    rw [nw_I (by show 0 ≠ (am_K G).length; omega), rI_wI, if_neg (by omega)]
    exact h.2.2.2.2.2.2.2.1.2.1
  · show am_gI (am_nw _ _ _) 0 8 = _
    rw [nw_I (by show 0 ≠ (am_K G).length; omega), rI_wI, if_pos ⟨rfl, rfl⟩, h.2.2.2.2.2.2.2.1.2.2, wn_add]
  · show (am_K G ++ [(200, 6)]).length ≤ _
    simp
  · show am_us G + 6 ≤ _
    omega
  · show am_gI (am_nw _ _ _) a i = _
    unfold Hi at z
    rw [nw_I (by show a ≠ (am_K G).length; omega), rI_wI, if_neg (by omega)]
  · show am_gL (am_nw _ _ _) a i = _
    unfold Hi at z
    rw [nw_L (by show a ≠ (am_K G).length; omega), rL_wI]
  · show (am_K G ++ [(200, 6)])[(am_K G).length]? = _
    simp
/-! the reference's side: frames -/
theorem rW.eq {G G' : am_G} {r o : Nat} {σ : St} (h : rW G r o σ) (e : ∀ i, am_gI G' r i = am_gI G r i) : rW G' r o σ := fun j hj => by rw [e]; exact h j hj
theorem rE.eq {G G' : am_G} {δ : Dt} (h : rE G δ) (v : vD δ) (e : ∀ q i, 338 ≤ q → q < 387 → am_gI G' q i = am_gI G q i) : rE G' δ := by
  obtain ⟨r0, r1, r2, r3, r4, r5, r6⟩ := h
  obtain ⟨v0, v1, v2, v3⟩ := v
  refine ⟨?_, ?_, ?_, ?_, fun b hb => ⟨?_, ?_⟩, fun b hb => ⟨?_, ?_⟩, fun b hb => ⟨?_, ?_, ?_⟩⟩
  · rw [e _ _ (by omega) (by omega)]; exact r0
  · rw [e _ _ (by omega) (by omega)]; exact r1
  · rw [e _ _ (by omega) (by omega)]; exact r2
  · rw [e _ _ (by omega) (by omega)]; exact r3
  · rw [e _ _ (by omega) (by omega)]; exact (r4 b hb).1
  · rw [e _ _ (by omega) (by omega)]; exact (r4 b hb).2
  · rw [e _ _ (by omega) (by omega)]; exact (r5 b hb).1
  · rw [e _ _ (by omega) (by omega)]; exact (r5 b hb).2
  · rw [e _ _ (by omega) (by omega)]; exact (r6 b hb).1
  · rw [e _ _ (by omega) (by omega)]; exact (r6 b hb).2.1
  · rw [e _ _ (by omega) (by omega)]; exact (r6 b hb).2.2
theorem Tm.eq {G G' : am_G} {δ : Dt} {Λ : List Tok} (h : Tm G δ Λ) (e : ∀ a i, 338 ≤ a → a < 548 → am_gI G' a i = am_gI G a i) (e19 : am_gI G' 334 19 = am_gI G 334 19) : Tm G' δ Λ := by
  obtain ⟨h1, h2, h3, h4⟩ := h
  have hl := okΛ_len h4
  refine ⟨h1.eq h2 (fun a i b c => e a i b (by omega)), h2, ⟨by rw [e19]; exact h3.1, fun i t ht => ?_⟩, h4⟩
  have hi : i < Λ.length := (List.getElem?_eq_some_iff.mp ht).1
  rw [e _ _ (by omega) (by omega), e _ _ (by omega) (by omega)]
  exact h3.2 i t ht
/-- scratch cells of the reference's questions: 0 thrown, 4 to 8 the reading, 20, 28, 37 to 42, 48 numbers of its own -/
def QSR : Nat → Nat → Prop := fun a i => (a = 334 ∧ (i = 0 ∨ i = 2 ∨ (4 ≤ i ∧ i ≤ 8) ∨ i = 20 ∨ i = 28 ∨ (37 ≤ i ∧ i ≤ 48))) ∨ a = 337 ∨ (339 ≤ a ∧ a ≤ 345) ∨ (353 ≤ a ∧ a ≤ 360) ∨ (369 ≤ a ∧ a ≤ 377) ∨ (548 ≤ a ∧ a ≤ 708) ∨ (717 ≤ a ∧ a ≤ 807) ∨ a = 809 ∨ (831 ≤ a ∧ a ≤ 837)
theorem RepR.cn {G G' : am_G} {V : Vt} (h : RepR G V) (hs : Sh G') (c7 c8 : Nat) (eI : ∀ a i, 334 ≤ a → a < 838 → ¬ QSR a i → a ≠ 336 → am_gI G' a i = am_gI G a i)
    (e7 : am_gI G' 336 0 = wn c7) (e8 : am_gI G' 336 1 = wn c8) : RepR G' (mkV (vt V) (vm V) (vf V) (vδ V) (vΛ V) (vσ V) (vw V) (vb V) (vi V) (vis V) (viw V) (vib V) (vk V) (vr V) c7 c8) := by
  obtain ⟨h1, h2, ⟨h3, h4, h5⟩, h6, ⟨h9, h10, h11⟩, ⟨h12, h13⟩, ⟨h14, h15⟩, h16, h17, h18⟩ := h
  have v16 := h2.2.2.2.2.2.2.1
  have v3 := h2.2.2.2.2.2.2.2.2.1
  have vk7 := h2.2.2.2.2.2.2.2.2.2.2.1
  refine ⟨hs, h2, ⟨⟨h3.1, fun i hi => by rw [eI _ _ (by omega) (by omega) (by unfold QSR; omega) (by omega)]; exact h3.2 i hi⟩, by rw [eI _ _ (by omega) (by omega) (by unfold QSR; omega) (by omega)]; exact h4, by rw [eI _ _ (by omega) (by omega) (by unfold QSR; omega) (by omega)]; exact h5⟩, ?_,
    ⟨h9.eq (fun i => eI _ _ (by omega) (by omega) (by unfold QSR; omega) (by omega)), by rw [eI _ _ (by omega) (by omega) (by unfold QSR; omega) (by omega)]; exact h10, fun i hi => ?_⟩,
    ⟨by rw [eI _ _ (by omega) (by omega) (by unfold QSR; omega) (by omega)]; exact h12, fun j hj => ⟨?_, ?_, fun i hi => ?_⟩⟩,
    ⟨by rw [eI _ _ (by omega) (by omega) (by unfold QSR; omega) (by omega)]; exact h14, fun i x hx => ?_⟩,
    by rw [eI _ _ (by omega) (by omega) (by unfold QSR; omega) (by omega)]; exact h16, e7, e8⟩
  · obtain ⟨t1, t2, t3, t4⟩ := h6
    have hl := okΛ_len t4
    obtain ⟨r0, r1, r2, r3, r4, r5, r6⟩ := t1
    have hB := t2.1
    have hH := t2.2.1
    have hD := t2.2.2.1
    have e : ∀ a i, (a = 338 ∨ (346 ≤ a ∧ a ≤ 352) ∨ (361 ≤ a ∧ a ≤ 368) ∨ (378 ≤ a ∧ a ≤ 547)) → am_gI G' a i = am_gI G a i := fun a i z => eI a i (by omega) (by omega) (by unfold QSR; omega) (by omega)
    refine ⟨⟨?_, ?_, ?_, ?_, fun b hb => ⟨?_, ?_⟩, fun b hb => ⟨?_, ?_⟩, fun b hb => ⟨?_, ?_, ?_⟩⟩, t2, ⟨?_, fun i t ht => ?_⟩, t4⟩
    · rw [e _ _ (by omega)]; exact r0
    · rw [e _ _ (by omega)]; exact r1
    · rw [e _ _ (by omega)]; exact r2
    · rw [e _ _ (by omega)]; exact r3
    · change b < dB (vδ V) at hb
      rw [e _ _ (by omega)]; exact (r4 b hb).1
    · change b < dB (vδ V) at hb
      rw [e _ _ (by omega)]; exact (r4 b hb).2
    · change b < dH (vδ V) at hb
      rw [e _ _ (by omega)]; exact (r5 b hb).1
    · change b < dH (vδ V) at hb
      rw [e _ _ (by omega)]; exact (r5 b hb).2
    · change b < dD (vδ V) at hb
      rw [e _ _ (by omega)]; exact (r6 b hb).1
    · change b < dD (vδ V) at hb
      rw [e _ _ (by omega)]; exact (r6 b hb).2.1
    · change b < dD (vδ V) at hb
      rw [e _ _ (by omega)]; exact (r6 b hb).2.2
    · rw [eI _ _ (by omega) (by omega) (by unfold QSR; omega) (by omega)]; exact t3.1
    · have hi : i < (vΛ V).length := (List.getElem?_eq_some_iff.mp ht).1
      rw [e _ _ (by omega), e _ _ (by omega)]; exact t3.2 i t ht
  · change i < vw V at hi
    exact (h11 i hi).eq (fun j => eI _ _ (by omega) (by omega) (by unfold QSR; omega) (by omega))
  · change j < vi V at hj
    rw [eI _ _ (by omega) (by omega) (by unfold QSR; omega) (by omega)]; exact (h13 j hj).1
  · change j < vi V at hj
    exact (h13 j hj).2.1.eq (fun i => eI _ _ (by omega) (by omega) (by unfold QSR; omega) (by omega))
  · change j < vi V at hj
    exact ((h13 j hj).2.2 i hi).eq (fun m => eI _ _ (by omega) (by omega) (by unfold QSR; omega) (by omega))
  · have hi : i < (vk V).length := (List.getElem?_eq_some_iff.mp hx).1
    rw [eI _ _ (by omega) (by omega) (by unfold QSR; omega) (by omega), eI _ _ (by omega) (by omega) (by unfold QSR; omega) (by omega)]
    exact h15 i x hx
theorem RepR.eq {G G' : am_G} {V : Vt} (h : RepR G V) (hs : Sh G') (eI : ∀ a i, 334 ≤ a → a < 838 → ¬ QSR a i → am_gI G' a i = am_gI G a i) : RepR G' V := by
  have := h.cn hs (v7 V) (v8 V) (fun a i z1 z2 z3 _ => eI a i z1 z2 z3) (by rw [eI _ _ (by omega) (by omega) (by unfold QSR; omega)]; exact h.2.2.2.2.2.2.2.2.1) (by rw [eI _ _ (by omega) (by omega) (by unfold QSR; omega)]; exact h.2.2.2.2.2.2.2.2.2)
  exact this
theorem RepR.q {G G' : am_G} {V : Vt} (h : RepR G V) (k : Kp QSR G G') : RepR G' V := h.eq (h.1.kp k) (fun a i _ _ z => k.i z)
theorem QSR_rs {a i : Nat} (h : QSR a i) : RS a i := by unfold QSR at h; unfold RS; omega
theorem OR_ok {G G' : am_G} {V : Vt} {cd : Nat} {v : Int32} (h : RepR G V) (k : Kp QSR G G') (e : am_gI G' 334 0 = wn 0) : OR G V cd (.inl v) (.inl (some (.int v))) G' := ⟨h.q k, k.mono (fun _ _ z => QSR_rs z), rfl, e⟩
