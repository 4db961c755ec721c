/-! The state of the world, as numbers; how the two sides keep it. -/
/-- a state: hour, damp, gagged, stolen (as bits), cracks, pulled, temper -/
abbrev St : Type := Nat × Nat × Nat × Nat × (Nat → Nat) × (Nat → Nat) × (Nat → Nat)
def sH (σ : St) : Nat := σ.1
def sD (σ : St) : Nat := σ.2.1
def sG (σ : St) : Nat := σ.2.2.1
def sT (σ : St) : Nat := σ.2.2.2.1
def sC (σ : St) : Nat → Nat := σ.2.2.2.2.1
def sP (σ : St) : Nat → Nat := σ.2.2.2.2.2.1
def sM (σ : St) : Nat → Nat := σ.2.2.2.2.2.2
/-- one bit -/
def bt (m b : Nat) : Nat := m / 2 ^ b % 2
/-- by the four arrays of an object -/
def rS (G : am_G) (s : Nat) (σ : St) : Prop := am_gI G s 0 = wn (sH σ) ∧ am_gI G s 1 = wn (sD σ) ∧ am_gI G s 2 = wn (sG σ) ∧ am_gI G s 3 = wn (sT σ) ∧ (∀ b, b < 6 → am_gI G (s + 1) b = wn (sC σ b)) ∧ (∀ b, b < 6 → am_gI G (s + 2) b = wn (sP σ b)) ∧ ∀ j, j < 70 → am_gI G (s + 3) j = wn (sM σ j)
/-- by a row of 96 ints: cracks, gagged, stolen, pulled, temper, damp, hour -/
def ent (σ : St) (j : Nat) : Nat := if j < 6 then sC σ j else if j < 12 then bt (sG σ) (j - 6) else if j < 18 then bt (sT σ) (j - 12) else if j < 24 then sP σ (j - 18) else if j < 94 then sM σ (j - 24) else if j = 94 then sD σ else sH σ
def rW (G : am_G) (r o : Nat) (σ : St) : Prop := ∀ j, j < 96 → am_gI G r (o + j) = wn (ent σ j)
theorem ent_c (σ : St) {b : Nat} (h : b < 6) : ent σ b = sC σ b := by unfold ent; rw [if_pos h]
theorem ent_g (σ : St) {b : Nat} (h : b < 6) : ent σ (6 + b) = bt (sG σ) b := by
  unfold ent
  rw [if_neg (by omega), if_pos (by omega), Nat.add_sub_cancel_left]
theorem ent_t (σ : St) {b : Nat} (h : b < 6) : ent σ (12 + b) = bt (sT σ) b := by
  unfold ent
  rw [if_neg (by omega), if_neg (by omega), if_pos (by omega), Nat.add_sub_cancel_left]
theorem ent_p (σ : St) {b : Nat} (h : b < 6) : ent σ (18 + b) = sP σ b := by
  unfold ent
  rw [if_neg (by omega), if_neg (by omega), if_neg (by omega), if_pos (by omega), Nat.add_sub_cancel_left]
theorem ent_m (σ : St) {j : Nat} (h : j < 70) : ent σ (24 + j) = sM σ j := by
  unfold ent
  rw [if_neg (by omega), if_neg (by omega), if_neg (by omega), if_neg (by omega), if_pos (by omega), Nat.add_sub_cancel_left]
theorem ent_d (σ : St) : ent σ 94 = sD σ := by
  unfold ent
  rw [if_neg (by omega), if_neg (by omega), if_neg (by omega), if_neg (by omega), if_neg (by omega), if_pos rfl]
theorem ent_h (σ : St) : ent σ 95 = sH σ := by
  unfold ent
  rw [if_neg (by omega), if_neg (by omega), if_neg (by omega), if_neg (by omega), if_neg (by omega), if_neg (by omega)]
/-- the parts of a row -/
theorem fW {G : am_G} {r : Nat} {σ : St} (h : rW G r 0 σ) : (∀ b, b < 6 → am_gI G r b = wn (sC σ b)) ∧ (∀ b, b < 6 → am_gI G r (6 + b) = wn (bt (sG σ) b)) ∧ (∀ b, b < 6 → am_gI G r (12 + b) = wn (bt (sT σ) b)) ∧ (∀ b, b < 6 → am_gI G r (18 + b) = wn (sP σ b)) ∧ (∀ j, j < 70 → am_gI G r (24 + j) = wn (sM σ j)) ∧ am_gI G r 94 = wn (sD σ) ∧ am_gI G r 95 = wn (sH σ) := by
  have k : ∀ j, j < 96 → am_gI G r j = wn (ent σ j) := fun j hj => by have := h j hj; rw [Nat.zero_add] at this; exact this
  exact ⟨fun b hb => by rw [k b (by omega), ent_c σ hb], fun b hb => by rw [k _ (by omega), ent_g σ hb], fun b hb => by rw [k _ (by omega), ent_t σ hb], fun b hb => by rw [k _ (by omega), ent_p σ hb], fun b hb => by rw [k _ (by omega), ent_m σ hb], by rw [k _ (by omega), ent_d σ], by rw [k _ (by omega), ent_h σ]⟩
theorem rW.w {G : am_G} {r i v : Nat} {σ σ' : St} (h : rW G r 0 σ) (he : ∀ j, j < 96 → ent σ' j = if j = i then v else ent σ j) : rW (am_wI G r i (wn v)) r 0 σ' := by
  intro j hj
  rw [Nat.zero_add, rI_wI, he j hj]
  by_cases e : j = i
  · rw [if_pos ⟨rfl, e⟩, if_pos e]
  · rw [if_neg (fun q => e q.2), if_neg e]
    have := h j hj
    rw [Nat.zero_add] at this
    exact this
theorem rW.kp {Sc : Nat → Nat → Prop} {G G' : am_G} {r o : Nat} {σ : St} (h : rW G r o σ) (k : Kp Sc G G') (hn : ∀ i, ¬ Sc r i) : rW G' r o σ := fun j hj => by rw [k.2.2.2.2.1 _ _ (hn _)]; exact h j hj
def tsum (f : Nat → Nat) : Nat → Nat
  | 0 => 0
  | n + 1 => tsum f n + f n
theorem bT {c A B : Prop} (h : c) (k : A) : (c → A) ∧ (¬ c → B) := ⟨fun _ => k, fun n => absurd h n⟩
theorem bF {c A B : Prop} (h : ¬ c) (k : B) : (c → A) ∧ (¬ c → B) := ⟨fun n => absurd n h, fun _ => k⟩
theorem w0 : (0 : Int32) = wn 0 := rfl
theorem w1 : (1 : Int32) = wn 1 := rfl
theorem w2 : (2 : Int32) = wn 2 := rfl
theorem w3 : (3 : Int32) = wn 3 := rfl
theorem w4 : (4 : Int32) = wn 4 := rfl
theorem w5 : (5 : Int32) = wn 5 := rfl
theorem w6 : (6 : Int32) = wn 6 := rfl
theorem w7 : (7 : Int32) = wn 7 := rfl
theorem w8 : (8 : Int32) = wn 8 := rfl
theorem w9 : (9 : Int32) = wn 9 := rfl
theorem w10 : (10 : Int32) = wn 10 := rfl
theorem w11 : (11 : Int32) = wn 11 := rfl
theorem w12 : (12 : Int32) = wn 12 := rfl
theorem w13 : (13 : Int32) = wn 13 := rfl
theorem w14 : (14 : Int32) = wn 14 := rfl
theorem w15 : (15 : Int32) = wn 15 := rfl
theorem w16 : (16 : Int32) = wn 16 := rfl
theorem w17 : (17 : Int32) = wn 17 := rfl
theorem w18 : (18 : Int32) = wn 18 := rfl
theorem w19 : (19 : Int32) = wn 19 := rfl
theorem w20 : (20 : Int32) = wn 20 := rfl
theorem w21 : (21 : Int32) = wn 21 := rfl
theorem w22 : (22 : Int32) = wn 22 := rfl
theorem w23 : (23 : Int32) = wn 23 := rfl
theorem w24 : (24 : Int32) = wn 24 := rfl
theorem w25 : (25 : Int32) = wn 25 := rfl
theorem w26 : (26 : Int32) = wn 26 := rfl
theorem w27 : (27 : Int32) = wn 27 := rfl
theorem w28 : (28 : Int32) = wn 28 := rfl
theorem w29 : (29 : Int32) = wn 29 := rfl
theorem w30 : (30 : Int32) = wn 30 := rfl
theorem w31 : (31 : Int32) = wn 31 := rfl
theorem w32 : (32 : Int32) = wn 32 := rfl
theorem w33 : (33 : Int32) = wn 33 := rfl
theorem w37 : (37 : Int32) = wn 37 := rfl
theorem w38 : (38 : Int32) = wn 38 := rfl
theorem w39 : (39 : Int32) = wn 39 := rfl
theorem w40 : (40 : Int32) = wn 40 := rfl
theorem w41 : (41 : Int32) = wn 41 := rfl
theorem w42 : (42 : Int32) = wn 42 := rfl
theorem w43 : (43 : Int32) = wn 43 := rfl
theorem w44 : (44 : Int32) = wn 44 := rfl
theorem w45 : (45 : Int32) = wn 45 := rfl
theorem w46 : (46 : Int32) = wn 46 := rfl
theorem w47 : (47 : Int32) = wn 47 := rfl
theorem w48 : (48 : Int32) = wn 48 := rfl
theorem w50 : (50 : Int32) = wn 50 := rfl
theorem w57 : (57 : Int32) = wn 57 := rfl
theorem w59 : (59 : Int32) = wn 59 := rfl
theorem w60 : (60 : Int32) = wn 60 := rfl
theorem w61 : (61 : Int32) = wn 61 := rfl
theorem w62 : (62 : Int32) = wn 62 := rfl
theorem w63 : (63 : Int32) = wn 63 := rfl
theorem w64 : (64 : Int32) = wn 64 := rfl
theorem w70 : (70 : Int32) = wn 70 := rfl
theorem w80 : (80 : Int32) = wn 80 := rfl
theorem w90 : (90 : Int32) = wn 90 := rfl
theorem w91 : (91 : Int32) = wn 91 := rfl
theorem w93 : (93 : Int32) = wn 93 := rfl
theorem w94 : (94 : Int32) = wn 94 := rfl
theorem w95 : (95 : Int32) = wn 95 := rfl
theorem w96 : (96 : Int32) = wn 96 := rfl
theorem w97 : (97 : Int32) = wn 97 := rfl
theorem w99 : (99 : Int32) = wn 99 := rfl
theorem w100 : (100 : Int32) = wn 100 := rfl
theorem w101 : (101 : Int32) = wn 101 := rfl
theorem w110 : (110 : Int32) = wn 110 := rfl
theorem w120 : (120 : Int32) = wn 120 := rfl
theorem w122 : (122 : Int32) = wn 122 := rfl
theorem w123 : (123 : Int32) = wn 123 := rfl
theorem w128 : (128 : Int32) = wn 128 := rfl
theorem w150 : (150 : Int32) = wn 150 := rfl
theorem w160 : (160 : Int32) = wn 160 := rfl
theorem w200 : (200 : Int32) = wn 200 := rfl
theorem w255 : (255 : Int32) = wn 255 := rfl
theorem w256 : (256 : Int32) = wn 256 := rfl
theorem w300 : (300 : Int32) = wn 300 := rfl
theorem w400 : (400 : Int32) = wn 400 := rfl
theorem w540 : (540 : Int32) = wn 540 := rfl
theorem w600 : (600 : Int32) = wn 600 := rfl
theorem w700 : (700 : Int32) = wn 700 := rfl
theorem w720 : (720 : Int32) = wn 720 := rfl
theorem w900 : (900 : Int32) = wn 900 := rfl
theorem w999 : (999 : Int32) = wn 999 := rfl
theorem w1000 : (1000 : Int32) = wn 1000 := rfl
theorem w1008 : (1008 : Int32) = wn 1008 := rfl
theorem w1009 : (1009 : Int32) = wn 1009 := rfl
theorem w2000 : (2000 : Int32) = wn 2000 := rfl
theorem w2001 : (2001 : Int32) = wn 2001 := rfl
theorem w2002 : (2002 : Int32) = wn 2002 := rfl
theorem w2003 : (2003 : Int32) = wn 2003 := rfl
theorem w2004 : (2004 : Int32) = wn 2004 := rfl
theorem w2005 : (2005 : Int32) = wn 2005 := rfl
theorem w2006 : (2006 : Int32) = wn 2006 := rfl
theorem w10000 : (10000 : Int32) = wn 10000 := rfl
theorem w12345 : (12345 : Int32) = wn 12345 := rfl
theorem w32767 : (32767 : Int32) = wn 32767 := rfl
theorem w65535 : (65535 : Int32) = wn 65535 := rfl
/-- minus one -/
def mm : Int32 := -1
theorem wm1 : (-1 : Int32) = mm := rfl
theorem wn_ne1 {n : Nat} (h : n < 2147483648) : (wn n = mm) = False := eq_false (wn_n1 n h)
theorem wn_gt1 {n : Nat} (h : n < 2147483648) : (mm < wn n) = True := by
  apply eq_true
  rw [Int32.lt_iff_toInt_lt, wn_toInt h]
  have : mm.toInt = -1 := by decide
  omega
theorem wn_1ne {n : Nat} (h : n < 2147483648) : (mm = wn n) = False := eq_false (fun e => wn_n1 n h e.symm)
theorem wn_le1 {n : Nat} (h : n < 2147483648) : (wn n ≤ mm) = False := by
  apply eq_false
  rw [Int32.le_iff_toInt_le, wn_toInt h]
  have : mm.toInt = -1 := by decide
  omega
theorem nb0 : am_nb 5 (wn 0) = True := eq_true (Or.inl rfl)
theorem nb1 : am_nb 5 (wn 1) = True := eq_true (Or.inr rfl)
theorem is_wI (G : am_G) (a i b k : Nat) (v : Int32) : am_is (am_wI G a i v) b k = am_is G b k := rfl
theorem is_wR (G : am_G) (a b k : Nat) (f : Nat → Int32) : am_is (am_wR G a f) b k = am_is G b k := rfl
theorem is_wP (G : am_G) (a i b k v : Nat) : am_is (am_wP G a i v) b k = am_is G b k := rfl
theorem is_wL (G : am_G) (a i b k : Nat) (v : Int64) : am_is (am_wL G a i v) b k = am_is G b k := rfl
theorem ia_wI (G : am_G) (a i b : Nat) (v j : Int32) : am_ia (am_wI G a i v) b j = am_ia G b j := rfl
theorem ia_wR (G : am_G) (a b : Nat) (f : Nat → Int32) (j : Int32) : am_ia (am_wR G a f) b j = am_ia G b j := rfl
theorem ow_wI (G : am_G) (a i b k : Nat) (v j : Int32) : am_ow (am_wI G a i v) b j k = am_ow G b j k := rfl
theorem ow_wR (G : am_G) (a b k : Nat) (f : Nat → Int32) (j : Int32) : am_ow (am_wR G a f) b j k = am_ow G b j k := rfl
theorem imp_f {p : Prop} : (False → p) = True := eq_true (fun h => h.elim)
theorem imp_t {p : Prop} : (True → p) = p := propext ⟨fun h => h trivial, fun h _ => h⟩
/-- what a state's cell gives -/
theorem fS {G : am_G} {s : Nat} (h : Sh G) (hs : s ∈ sts) : am_is G s 7 ∧ am_gP G s 4 = s + 1 ∧ am_gP G s 5 = s + 2 ∧ am_gP G s 6 = s + 3 ∧ s + 1 < 90000 ∧ s + 2 < 90000 ∧ s + 3 < 90000 ∧ (∀ j, j < 6 → am_ia G (s + 1) (wn j)) ∧ (∀ j, j < 6 → am_ia G (s + 2) (wn j)) ∧ (∀ j, j < 70 → am_ia G (s + 3) (wn j)) ∧ (∀ j, j < 6 → am_ow G (s + 1) (wn j) 100) ∧ (∀ j, j < 6 → am_ow G (s + 2) (wn j) 100) ∧ ∀ j, j < 70 → am_ow G (s + 3) (wn j) 100 := by
  have hk := kS s hs
  have hq := qS h hs
  exact ⟨iS h hs, hq.1, hq.2.1, hq.2.2, by omega, by omega, by omega, fun j hj => h.ia hk.2.1 hj (by decide), fun j hj => h.ia hk.2.2.1 hj (by decide), fun j hj => h.ia hk.2.2.2.1 hj (by decide), fun j hj => h.ow hk.2.1 hj (by decide), fun j hj => h.ow hk.2.2.1 hj (by decide), fun j hj => h.ow hk.2.2.2.1 hj (by decide)⟩
/-- bits, all of them tried -/
theorem bs1 : ∀ k, k < 9 → (wn 1) <<< (wn k &&& 31) = wn (2 ^ k) := by decide +kernel
theorem bsr : ∀ a, a < 256 → ∀ k, k < 8 → ((wn a) >>> (wn k &&& 31)) &&& wn 1 = wn (bt a k) := by decide +kernel
theorem bor : ∀ a, a < 256 → ∀ k, k < 8 → a < 2 ^ k → wn a ||| wn (2 ^ k) = wn (a + 2 ^ k) := by decide +kernel
theorem bor2 : ∀ a, a < 64 → ∀ b, b < 64 → wn a ||| wn b = wn (a ||| b) := by decide +kernel
theorem bt_or : ∀ a, a < 64 → ∀ b, b < 64 → ∀ k, k < 6 → bt (a ||| b) k = (if bt a k = 0 ∧ bt b k = 0 then 0 else 1) := by decide +kernel
theorem bt_01 (a k : Nat) : bt a k < 2 := Nat.mod_lt _ (by decide)
theorem bor_lt {a b : Nat} (ha : a < 64) (hb : b < 64) : a ||| b < 64 := Nat.or_lt_two_pow (n := 6) ha hb
/-! 57 State.temperIn -/
theorem ct57 {G : am_G} {s h d : Nat} {σ : St} (hsh : Sh G) (hs : s ∈ sts) (hr : rS G s σ) (hh : h < 7) {post : am_O → am_G → Prop} (k : post (.inl (some (.int (wn (tsum (fun m => sM σ (h * 10 + m)) 10))))) G) :
    am_C am_T (d + 1) 57 [.ref s, .int (wn h)] G post := by
  have hc := am_C_one am_T d
  obtain ⟨r0, r1, r2, r3, r4, r5, r6⟩ := hr
  refine (we57 _ _ _).mpr ((wb57_0 hc _ _ _).mpr ?_)
  refine am_for 10 (fun j ls G' => G' = G ∧ ls = [some (.ref s), some (.int (wn h)), some (.int (wn (tsum (fun m => sM σ (h * 10 + m)) j))), some (.int (wn j))]) ?_ ?_ 10 0 rfl _ _ ⟨rfl, rfl⟩
  · rintro j hj _ _ ⟨rfl, rfl⟩ nx
    have c1 : ¬ 10 ≤ j := by omega
    rw [wb57_4 hc]
    simp +decide (disch := omega) only [↓wm1, wb57_10 hc, w0, w1, w10, rI_wI, rP_wI, rL_wI, rI_wR, rP_wR, is_wI, is_wR, ia_wI, ia_wR, ow_wI, ow_wR, wn_add, wn_mul, wn_cl, wn_le, wn_lt, wn_inj, wn_ne1, wn_1ne, wn_gt1, wn_le1, nb0, nb1, am_kt, am_rt, List.cons_append, List.nil_append, true_and, and_true, not_true_eq_false, not_false_eq_true, imp_f, imp_t, implies_true, fS hsh hs, r6, c1]
    exact nx _ _ ⟨rfl, rfl⟩
  · rintro _ _ ⟨rfl, rfl⟩
    rw [wb57_4 hc]
    simp +decide (disch := omega) only [↓wm1, wb57_30 hc, w0, w1, w10, rI_wI, rP_wI, rL_wI, rI_wR, rP_wR, is_wI, is_wR, ia_wI, ia_wR, ow_wI, ow_wR, wn_add, wn_mul, wn_cl, wn_le, wn_lt, wn_inj, wn_ne1, wn_1ne, wn_gt1, wn_le1, nb0, nb1, am_kt, am_rt, List.cons_append, List.nil_append, true_and, and_true, not_true_eq_false, not_false_eq_true, imp_f, imp_t, implies_true, Nat.le_refl]
    exact k
