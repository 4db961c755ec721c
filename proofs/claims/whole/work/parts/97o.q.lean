/-! Longs; SOUNDS: what it says. -/
def wl (n : Nat) : Int64 := Int64.ofNat n
theorem wl_toInt {n : Nat} (h : n < 9223372036854775808) : (wl n).toInt = (n : Int) := Int64.toInt_ofNat_of_lt (by omega)
theorem wl_inj {a b : Nat} (ha : a < 9223372036854775808) (hb : b < 9223372036854775808) : (wl a = wl b) = (a = b) := by
  apply propext
  constructor
  · intro h
    have h1 := congrArg Int64.toInt h
    rw [wl_toInt ha, wl_toInt hb] at h1
    omega
  · intro h; rw [h]
theorem wl_le {a b : Nat} (ha : a < 9223372036854775808) (hb : b < 9223372036854775808) : (wl a ≤ wl b) = (a ≤ b) := by
  apply propext
  rw [Int64.le_iff_toInt_le, wl_toInt ha, wl_toInt hb]
  omega
theorem wl_lt {a b : Nat} (ha : a < 9223372036854775808) (hb : b < 9223372036854775808) : (wl a < wl b) = (a < b) := by
  apply propext
  rw [Int64.lt_iff_toInt_lt, wl_toInt ha, wl_toInt hb]
  omega
theorem wl_add (a b : Nat) : wl a + wl b = wl (a + b) := by
  unfold wl
  rw [Int64.ofNat_add]
theorem wl_mul (a b : Nat) : wl a * wl b = wl (a * b) := by
  unfold wl
  rw [Int64.ofNat_mul]
theorem wl_div {a b : Nat} (ha : a < 9223372036854775808) (hb : b < 9223372036854775808) : wl a / wl b = wl (a / b) := by
  apply Int64.toInt_inj.mp
  have hd : a / b ≤ a := Nat.div_le_self a b
  rw [Int64.toInt_div, wl_toInt ha, wl_toInt hb, wl_toInt (by omega)]
  rw [show (a : Int).tdiv (b : Int) = ((a / b : Nat) : Int) from by rw [← Int.ofNat_tdiv]]
  generalize a / b = q at hd ⊢
  apply Int.bmod_eq_of_le <;> omega
theorem wl_rem {a b : Nat} (ha : a < 9223372036854775808) (hb : b < 9223372036854775808) : am_reml (wl a) (wl b) = wl (a % b) := by
  unfold am_reml
  rw [wl_div ha hb, wl_mul]
  have e := Nat.mod_add_div a b
  rw [Nat.mul_comm] at e
  have e2 : wl a = wl (a % b) + wl (a / b * b) := by rw [wl_add, e]
  rw [e2, Int64.add_sub_cancel]
theorem wn_l {n : Nat} (h : n < 2147483648) : (wn n).toInt64 = wl n := by
  apply Int64.toInt_inj.mp
  rw [Int32.toInt_toInt64, wn_toInt h, wl_toInt (by omega)]
theorem lgl {a b : Nat} (ha : a < 9223372036854775808) (hb : b < 9223372036854775808) : (lg_cmp (wl a) (wl b) ≤ wn 0) = (a ≤ b) := by
  apply propext
  rw [show wn 0 = 0 from rfl, lg_cmp_le, wl_le ha hb]
theorem lge {a b : Nat} (ha : a < 9223372036854775808) (hb : b < 9223372036854775808) : (lg_cmp (wl a) (wl b) = wn 0) = (a = b) := by
  apply propext
  unfold lg_cmp
  have e1 : (wl a > wl b) = (b < a) := wl_lt hb ha
  have e2 := wl_inj ha hb
  by_cases c1 : b < a
  · rw [if_pos (by rw [e1]; exact c1)]
    exact ⟨fun z => absurd z (by decide), fun z => by omega⟩
  · rw [if_neg (by rw [e1]; exact c1)]
    by_cases c2 : a = b
    · rw [if_pos (by rw [e2]; exact c2)]
      exact ⟨fun _ => c2, fun _ => rfl⟩
    · rw [if_neg (by rw [e2]; exact c2)]
      exact ⟨fun z => absurd z (by decide), fun z => absurd z c2⟩
/-- so many ways, each by q of 16 -/
def exv (q : Nat) : Nat → Nat → Nat
  | 0, i => if i = 0 then 1 else 0
  | e + 1, i => exv q e i * (16 - q) + (if 0 < i then exv q e (i - 1) * q else 0)
theorem exv_le {q : Nat} (hq : q ≤ 16) : ∀ e i, exv q e i ≤ 16 ^ e := by
  intro e
  induction e with
  | zero => intro i; simp only [exv]; split <;> simp
  | succ e ih =>
    intro i
    simp only [exv, Nat.pow_succ]
    have a := Nat.mul_le_mul_right (16 - q) (ih i)
    have e2 : 16 ^ e * 16 = 16 ^ e * (16 - q) + 16 ^ e * q := by rw [← Nat.mul_add]; congr 1; omega
    rw [e2]
    split
    · have b := Nat.mul_le_mul_right q (ih (i - 1))
      omega
    · omega
def bnm : Nat → Nat → Nat
  | _, 0 => 1
  | 0, _ + 1 => 0
  | n + 1, k + 1 => bnm n k + bnm n (k + 1)
def chs (n : Nat) : Nat → Nat
  | 0 => 1
  | i + 1 => chs n i * (n - i) / (i + 1)
theorem chs_bnm : ∀ n, n < 13 → ∀ k, k < 13 → chs n k = bnm n k ∧ chs n k ≤ 924 := by decide +kernel
theorem chs_0 : ∀ n, n < 13 → ∀ k, k < 13 → n < k → chs n k = 0 := by decide +kernel
theorem bnm_0 : ∀ n k, n < k → bnm n k = 0 := by
  intro n
  induction n with
  | zero =>
    intro k h
    obtain ⟨j, rfl⟩ : ∃ j, k = j + 1 := ⟨k - 1, by omega⟩
    rfl
  | succ n ih =>
    intro k h
    obtain ⟨j, rfl⟩ : ∃ j, k = j + 1 := ⟨k - 1, by omega⟩
    simp only [bnm]
    rw [ih j (by omega), ih (j + 1) (by omega)]
theorem exv_bnm (q : Nat) : ∀ n k, exv q n k = bnm n k * (q ^ k * (16 - q) ^ (n - k)) := by
  intro n
  induction n with
  | zero =>
    intro k
    rcases k with _ | k
    · rfl
    · simp [exv, bnm]
  | succ n ih =>
    intro k
    rcases k with _ | k
    · simp only [exv, Nat.lt_irrefl, if_false, Nat.add_zero]
      rw [ih 0]
      simp only [bnm, Nat.pow_zero, Nat.one_mul, Nat.sub_zero]
      rw [Nat.pow_succ]
    · simp only [exv, Nat.zero_lt_succ, if_true, Nat.add_sub_cancel]
      rw [ih (k + 1), ih k]
      simp only [bnm]
      rw [show n + 1 - (k + 1) = n - k by omega, Nat.add_mul, Nat.add_comm (bnm n k * _)]
      congr 1
      · by_cases c : k + 1 ≤ n
        · obtain ⟨m, hm⟩ : ∃ m, n - (k + 1) = m := ⟨_, rfl⟩
          rw [show n - k = m + 1 by omega, hm, Nat.pow_succ (16 - q) m, Nat.mul_assoc, Nat.mul_assoc]
        · rw [bnm_0 n (k + 1) (by omega)]; simp
      · rw [Nat.mul_assoc, Nat.pow_succ, Nat.mul_assoc, Nat.mul_assoc, Nat.mul_comm _ q]
def prd (q k c : Nat) : Nat → Nat
  | 0 => c
  | i + 1 => prd q k c i * (if i < k then q else 16 - q)
theorem prd_1 (q k c : Nat) : ∀ i, i ≤ k → prd q k c i = c * q ^ i := by
  intro i
  induction i with
  | zero => intro _; simp [prd]
  | succ i ih =>
    intro h
    simp only [prd]
    rw [if_pos (by omega), ih (by omega), Nat.pow_succ, Nat.mul_assoc]
theorem prd_2 (q k c : Nat) : ∀ j, prd q k c (k + j) = c * (q ^ k * (16 - q) ^ j) := by
  intro j
  induction j with
  | zero => rw [Nat.add_zero, prd_1 q k c k (Nat.le_refl k)]; simp
  | succ j ih =>
    rw [← Nat.add_assoc]
    simp only [prd]
    rw [if_neg (by omega), ih, Nat.pow_succ, Nat.mul_assoc, Nat.mul_assoc]
theorem prd_z (q k : Nat) : ∀ i, prd q k 0 i = 0 := by
  intro i
  induction i with
  | zero => rfl
  | succ i ih => simp only [prd, ih, Nat.zero_mul]
theorem prd_ex {n k : Nat} (q : Nat) (hn : n < 13) (hk : k < 13) : prd q k (chs n k) n = exv q n k := by
  rw [exv_bnm]
  by_cases c : k ≤ n
  · obtain ⟨j, rfl⟩ := Nat.exists_eq_add_of_le c
    rw [prd_2, (chs_bnm _ hn _ hk).1, Nat.add_sub_cancel_left]
  · rw [chs_0 n hn k hk (by omega), bnm_0 n k (by omega), prd_z, Nat.zero_mul]
/-- halving -/
def hvn : Nat → Nat → Nat × Nat
  | 0, a => (a, 1)
  | m + 1, a => if a % 2 = 0 then hvn m (a / 2) else (a, 2 ^ (m + 1))
theorem hvn_gcd : ∀ m a, hvn m a = (a / Nat.gcd (2 ^ m) a, 2 ^ m / Nat.gcd (2 ^ m) a) := by
  intro m
  induction m with
  | zero => intro a; simp [hvn]
  | succ m ih =>
    intro a
    simp only [hvn]
    by_cases c : a % 2 = 0
    · rw [if_pos c, ih]
      obtain ⟨b, hb⟩ : ∃ b, a = 2 * b := ⟨a / 2, by omega⟩
      subst hb
      have e1 : 2 * b / 2 = b := by omega
      have e2 : 2 ^ (m + 1) = 2 * 2 ^ m := by rw [Nat.pow_succ, Nat.mul_comm]
      rw [e1, e2, Nat.gcd_mul_left, Nat.mul_div_mul_left _ _ (by decide), Nat.mul_div_mul_left _ _ (by decide)]
    · rw [if_neg c]
      have h2 : Nat.Coprime 2 a := by
        unfold Nat.Coprime
        rw [Nat.gcd_rec, show a % 2 = 1 by omega, Nat.gcd_one_left]
      have h3 : Nat.gcd (2 ^ (m + 1)) a = 1 := Nat.Coprime.pow_left (m + 1) h2
      rw [h3, Nat.div_one, Nat.div_one]
theorem shl4 : ∀ n, n < 13 → (wl 1) <<< ((wl (4 * n)) &&& 63) = wl (16 ^ n) := by decide +kernel
theorem p16 (n : Nat) : 16 ^ n = 2 ^ (4 * n) := by rw [Nat.pow_mul]
theorem p16_le {n : Nat} (h : n < 13) : 16 ^ n ≤ 281474976710656 := Nat.pow_le_pow_right (n := 16) (by decide) (show n ≤ 12 by omega)
def q_sounds (n k q p : Nat) : Int64 := if p = 0 then wl (exv q n k / Nat.gcd (16 ^ n) (exv q n k)) else wl (16 ^ n / Nat.gcd (16 ^ n) (exv q n k))
def sp_sounds (x1 x2 x3 x4 : Int32) : Int64 ⊕ Nat := if vin2 x1 0 13 = true then (if vin2 x2 0 13 = true then (if vin2 x3 0 17 = true then (if vin2 x4 0 2 = true then .inl (q_sounds (u x1) (u x2) (u x3) (u x4)) else .inr 1) else .inr 1) else .inr 1) else .inr 1
def rfL (V : Vt) (r : Int64 ⊕ Nat) : Vt := match r with
  | .inl _ => V
  | .inr _ => cnt8 V
def OCl (G : am_G) (V : Vt) (r : Int64 ⊕ Nat) (o : am_O) (G' : am_G) : Prop := RepC G' V ∧ Fc G G' ∧ match r with
  | .inl v => o = .inl (some (.long v))
  | .inr _ => ∃ q, o = .inr q ∧ (am_K G')[q]? = some (200, 6)
def ORl (G : am_G) (V : Vt) (r : Int64 ⊕ Nat) (o : am_O) (G' : am_G) : Prop := RepR G' V ∧ Kp RS G G' ∧ match r with
  | .inl v => o = .inl (some (.long v)) ∧ am_gI G' 334 0 = wn 0
  | .inr _ => (∃ x, o = .inl (some (.long x))) ∧ am_gI G' 334 0 = wn 1
section
variable {G : am_G} {d : Nat} {V : Vt} {post : am_O → am_G → Prop}
theorem OCl_ok {v : Int64} (h : RepC G V) : OCl G V (.inl v) (.inl (some (.long v))) G := ⟨h, Fc.kp (Kp.refl (Sc := fun _ _ => False) G) (fun _ _ z => z.elim), rfl⟩
theorem OCl_8 (h : RepC G V) (hB : am_rm G 1 6) : OCl G (cnt8 V) (.inr 1) (.inr (am_K G).length) (thr8 G) := by
  obtain ⟨a, b, c⟩ := OC_8 h hB
  exact ⟨a, b, c⟩
theorem ct148 {n k : Nat} (hn : n < 13) (hk : k < 13) : am_C am_T (d + 1) 148 [.int (wn n), .int (wn k)] G post ↔ post (.inl (some (.long (wl (chs n k))))) G := by
  have hc := am_C_one am_T d
  refine am_iff (fun post kk => ?_) post
  rw [we148]
  simp +decide (disch := omega) only [↓wm1, wb148_0 hc, w0, w1, rI_wI, rP_wI, rL_wI, rI_wR, rP_wR, is_wI, is_wR, ia_wI, ia_wR, ow_wI, ow_wR, wn_add, wn_mul, wn_cl, wn_le, wn_lt, wn_inj, wn_ne1, wn_1ne, wn_gt1, wn_le1, nb0, nb1, am_kt, am_rt, List.cons_append, List.nil_append, true_and, and_true, not_true_eq_false, not_false_eq_true, imp_f, imp_t, implies_true, Nat.zero_add, if_true, if_false, false_and, and_false, wn_l]
  refine am_for k (fun j ls G' => G' = G ∧ ls = [some (.int (wn n)), some (.int (wn k)), some (.long (wl (chs n j))), none, some (.int (wn j))]) ?_ ?_ k 0 (by omega) _ _ ⟨rfl, rfl⟩
  · rintro j hj _ _ ⟨rfl, rfl⟩ nx
    have c1 : ¬ k ≤ j := by omega
    have c2 : ¬ wl (j + 1) = 0 := by
      rw [show (0 : Int64) = wl 0 from rfl, wl_inj (by omega) (by omega)]; omega
    have l9 := (chs_bnm n hn j (by omega)).2
    rw [wb148_5 hc]
    by_cases cn : j ≤ n
    · have e1 : wn n - wn j = wn (n - j) := wn_sub cn
      have l8 : chs n j * (n - j) ≤ 924 * 12 := Nat.mul_le_mul l9 (by omega)
      have e2 : wl (chs n j * (n - j)) / wl (j + 1) = wl (chs n (j + 1)) := wl_div (by omega) (by omega)
      simp +decide (disch := omega) only [↓wm1, wb148_11 hc, w0, w1, rI_wI, rP_wI, rL_wI, rI_wR, rP_wR, is_wI, is_wR, ia_wI, ia_wR, ow_wI, ow_wR, wn_add, wn_mul, wn_cl, wn_le, wn_lt, wn_inj, wn_ne1, wn_1ne, wn_gt1, wn_le1, nb0, nb1, am_kt, am_rt, List.cons_append, List.nil_append, true_and, and_true, not_true_eq_false, not_false_eq_true, imp_f, imp_t, implies_true, Nat.zero_add, if_true, if_false, false_and, and_false, c1, e1, wn_l, wl_mul, e2, c2]
      exact nx _ _ ⟨rfl, rfl⟩
    · have z1 := chs_0 n hn j (by omega) (by omega)
      have z2 := chs_0 n hn (j + 1) (by omega) (by omega)
      have e2 : wl 0 * (wn n - wn j).toInt64 / wl (j + 1) = wl 0 := by
        show (0 : Int64) * _ / _ = 0
        rw [Int64.zero_mul, Int64.zero_div]
      simp +decide (disch := omega) only [↓wm1, wb148_11 hc, w0, w1, rI_wI, rP_wI, rL_wI, rI_wR, rP_wR, is_wI, is_wR, ia_wI, ia_wR, ow_wI, ow_wR, wn_add, wn_mul, wn_cl, wn_le, wn_lt, wn_inj, wn_ne1, wn_1ne, wn_gt1, wn_le1, nb0, nb1, am_kt, am_rt, List.cons_append, List.nil_append, true_and, and_true, not_true_eq_false, not_false_eq_true, imp_f, imp_t, implies_true, Nat.zero_add, if_true, if_false, false_and, and_false, c1, wn_l, z1, e2, c2]
      exact nx _ _ ⟨rfl, by rw [z2]⟩
  · rintro _ _ ⟨rfl, rfl⟩
    rw [wb148_5 hc]
    simp +decide (disch := omega) only [↓wm1, wb148_31 hc, w0, w1, rI_wI, rP_wI, rL_wI, rI_wR, rP_wR, is_wI, is_wR, ia_wI, ia_wR, ow_wI, ow_wR, wn_add, wn_mul, wn_cl, wn_le, wn_lt, wn_inj, wn_ne1, wn_1ne, wn_gt1, wn_le1, nb0, nb1, am_kt, am_rt, List.cons_append, List.nil_append, true_and, and_true, not_true_eq_false, not_false_eq_true, imp_f, imp_t, implies_true, Nat.zero_add, if_true, if_false, false_and, and_false, Nat.le_refl]
    exact kk
theorem ct128_h {x4 : Int32} : ∀ (m a : Nat) (o0 o1 o2 o3 o9 : Option Value), a ≤ 281474976710656 → m ≤ 48 → (am_W (am_C am_T (d + 11)) am_128 post 168 [none, none, none, none, some (.int x4), some (.long (wl (hvn m a).1)), none, some (.long (wl (hvn m a).2)), none, none] [] G) → am_W (am_C am_T (d + 11)) am_128 post 131 [o0, o1, o2, o3, some (.int x4), some (.long (wl a)), none, some (.long (wl (2 ^ m))), none, o9] [] G := by
  have hc := am_C_one am_T (d + 11)
  intro m
  induction m with
  | zero =>
    intro a o0 o1 o2 o3 o9 ha hm k
    have c1 : (2 ^ 0 : Nat) ≤ 1 := by decide
    rw [wb128_131 hc]
    simp +decide (disch := omega) only [↓wm1, w0, w1, rI_wI, rP_wI, rL_wI, rI_wR, rP_wR, is_wI, is_wR, ia_wI, ia_wR, ow_wI, ow_wR, wn_add, wn_mul, wn_cl, wn_le, wn_lt, wn_inj, wn_ne1, wn_1ne, wn_gt1, wn_le1, nb0, nb1, am_kt, am_rt, List.cons_append, List.nil_append, true_and, and_true, not_true_eq_false, not_false_eq_true, imp_f, imp_t, implies_true, Nat.zero_add, if_true, if_false, false_and, and_false, w0, w1, wn_l, lgl, c1, Nat.pow_zero, Nat.le_refl]
    exact k
  | succ m ih =>
    intro a o0 o1 o2 o3 o9 ha hm k
    have p1 : 2 ^ (m + 1) ≤ 2 ^ 48 := Nat.pow_le_pow_right (by decide) hm
    have p2 : 2 ≤ 2 ^ (m + 1) := by rw [Nat.pow_succ]; have := Nat.two_pow_pos m; omega
    have c1 : ¬ 2 ^ (m + 1) ≤ 1 := by omega
    have e1 : am_reml (wl a) (wl 2) = wl (a % 2) := wl_rem (by omega) (by decide)
    have e2 : wl a / wl 2 = wl (a / 2) := wl_div (by omega) (by decide)
    have e3 : wl (2 ^ (m + 1)) / wl 2 = wl (2 ^ m) := by rw [wl_div (by omega) (by decide), Nat.pow_succ, Nat.mul_div_cancel _ (by decide)]
    have c2 : ¬ wl 2 = 0 := by decide
    have e4 := lge (a := a % 2) (b := 0) (by omega) (by decide)
    have e5 := lgl (a := 2 ^ (m + 1)) (b := 1) (by omega) (by decide)
    simp only [hvn] at k
    rw [wb128_131 hc]
    by_cases c3 : a % 2 = 0
    · rw [if_pos c3] at k
      have := ih (a / 2) none none none none none (by omega) (by omega) k
      simp +decide (disch := omega) only [↓wm1, wb128_138 hc, wb128_149 hc, w0, w1, w2, w12, w16, rI_wI, rP_wI, rL_wI, rI_wR, rP_wR, is_wI, is_wR, ia_wI, ia_wR, ow_wI, ow_wR, wn_add, wn_mul, wn_cl, wn_le, wn_lt, wn_inj, wn_ne1, wn_1ne, wn_gt1, wn_le1, nb0, nb1, am_kt, am_rt, List.cons_append, List.nil_append, true_and, and_true, not_true_eq_false, not_false_eq_true, imp_f, imp_t, implies_true, Nat.zero_add, if_true, if_false, false_and, and_false, cn128, wn_l, e5, c1, e1, e4, c3, e2, e3, c2]
      exact this
    · rw [if_neg c3] at k
      simp +decide (disch := omega) only [↓wm1, wb128_138 hc, w0, w1, w2, w12, w16, rI_wI, rP_wI, rL_wI, rI_wR, rP_wR, is_wI, is_wR, ia_wI, ia_wR, ow_wI, ow_wR, wn_add, wn_mul, wn_cl, wn_le, wn_lt, wn_inj, wn_ne1, wn_1ne, wn_gt1, wn_le1, nb0, nb1, am_kt, am_rt, List.cons_append, List.nil_append, true_and, and_true, not_true_eq_false, not_false_eq_true, imp_f, imp_t, implies_true, Nat.zero_add, if_true, if_false, false_and, and_false, cn128, wn_l, e5, c1, e1, e4, c3, c2]
      exact k
theorem cl_sounds (hR : RepC G V) (hB : am_rm G 1 6) (x1 x2 x3 x4 : Int32) : am_C am_T (d + 12) 128 [.ref 0, .int x1, .int x2, .int x3, .int x4] G (OCl G (rfL V (sp_sounds x1 x2 x3 x4)) (sp_sounds x1 x2 x3 x4)) := by
  have hc := am_C_one am_T (d + 11)
  have hsh := hR.1
  unfold sp_sounds
  rw [we128]
  rcases vin2_or x1 0 13 (by omega) (by omega) with ⟨n, hl1, hh1, rfl⟩ | hx1
  · rw [if_pos (vin2_t hl1 hh1 (by omega)), u_wn (by omega)]
    have a1 : ¬ 12 < n := by omega
    rcases vin2_or x2 0 13 (by omega) (by omega) with ⟨k, hl2, hh2, rfl⟩ | hx2
    · rw [if_pos (vin2_t hl2 hh2 (by omega)), u_wn (by omega)]
      have a2 : ¬ 12 < k := by omega
      rcases vin2_or x3 0 17 (by omega) (by omega) with ⟨q, hl3, hh3, rfl⟩ | hx3
      · rw [if_pos (vin2_t hl3 hh3 (by omega)), u_wn (by omega)]
        have a3 : ¬ 16 < q := by omega
        rcases vin2_or x4 0 2 (by omega) (by omega) with ⟨p, hl4, hh4, rfl⟩ | hx4
        · rw [if_pos (vin2_t hl4 hh4 (by omega)), u_wn (by omega)]
          have a4 : ¬ 1 < p := by omega
          have e16 : wn 16 - wn q = wn (16 - q) := wn_sub (by omega)
          have xl := exv_le (show q ≤ 16 by omega) n k
          have pl := p16_le hh1
          generalize hP : OCl G _ _ = P
          simp +decide (disch := omega) only [↓wm1, wb128_0 hc, wb128_5 hc, wb128_11 hc, wb128_16 hc, wb128_19 hc, wb128_24 hc, wb128_30 hc, wb128_35 hc, wb128_38 hc, wb128_43 hc, wb128_49 hc, wb128_54 hc, wb128_57 hc, wb128_63 hc, wb128_69 hc, wb128_74 hc, wb128_77 hc, wb128_82 hc, w0, w1, w2, w12, w16, rI_wI, rP_wI, rL_wI, rI_wR, rP_wR, is_wI, is_wR, ia_wI, ia_wR, ow_wI, ow_wR, wn_add, wn_mul, wn_cl, wn_le, wn_lt, wn_inj, wn_ne1, wn_1ne, wn_gt1, wn_le1, nb0, nb1, am_kt, am_rt, List.cons_append, List.nil_append, true_and, and_true, not_true_eq_false, not_false_eq_true, imp_f, imp_t, implies_true, Nat.zero_add, if_true, if_false, false_and, and_false, cn128, fC hsh, a1, a2, a3, a4, Nat.not_lt_zero, ct139y (v := 1) (by decide) (by decide), ct148 hh1 hh2, wn_l]
          refine am_for n (fun j ls G' => G' = G ∧ ls = [none, some (.int (wn n)), some (.int (wn k)), some (.int (wn q)), some (.int (wn p)), some (.long (wl (prd q k (chs n k) j))), none, some (.long (wl (16 ^ j))), none, some (.int (wn j))]) ?_ ?_ n 0 (by omega) _ _ ⟨rfl, rfl⟩
          · rintro j hj _ _ ⟨rfl, rfl⟩ nx
            have c1 : ¬ n ≤ j := by omega
            rw [wb128_90 hc]
            by_cases c2 : k ≤ j
            · simp +decide (disch := omega) only [↓wm1, wb128_96 hc, wb128_109 hc, wb128_114 hc, w0, w1, w2, w12, w16, rI_wI, rP_wI, rL_wI, rI_wR, rP_wR, is_wI, is_wR, ia_wI, ia_wR, ow_wI, ow_wR, wn_add, wn_mul, wn_cl, wn_le, wn_lt, wn_inj, wn_ne1, wn_1ne, wn_gt1, wn_le1, nb0, nb1, am_kt, am_rt, List.cons_append, List.nil_append, true_and, and_true, not_true_eq_false, not_false_eq_true, imp_f, imp_t, implies_true, Nat.zero_add, if_true, if_false, false_and, and_false, cn128, c1, c2, e16, wn_l, wl_mul]
              refine nx _ _ ⟨rfl, ?_⟩
              simp only [prd, if_neg (show ¬ j < k by omega), Nat.pow_succ]
            · simp +decide (disch := omega) only [↓wm1, wb128_96 hc, wb128_104 hc, wb128_114 hc, w0, w1, w2, w12, w16, rI_wI, rP_wI, rL_wI, rI_wR, rP_wR, is_wI, is_wR, ia_wI, ia_wR, ow_wI, ow_wR, wn_add, wn_mul, wn_cl, wn_le, wn_lt, wn_inj, wn_ne1, wn_1ne, wn_gt1, wn_le1, nb0, nb1, am_kt, am_rt, List.cons_append, List.nil_append, true_and, and_true, not_true_eq_false, not_false_eq_true, imp_f, imp_t, implies_true, Nat.zero_add, if_true, if_false, false_and, and_false, cn128, c1, c2, wn_l, wl_mul]
              refine nx _ _ ⟨rfl, ?_⟩
              simp only [prd, if_pos (show j < k by omega), Nat.pow_succ]
          · rintro _ _ ⟨rfl, rfl⟩
            rw [wb128_90 hc]
            simp +decide (disch := omega) only [↓wm1, w0, w1, rI_wI, rP_wI, rL_wI, rI_wR, rP_wR, is_wI, is_wR, ia_wI, ia_wR, ow_wI, ow_wR, wn_add, wn_mul, wn_cl, wn_le, wn_lt, wn_inj, wn_ne1, wn_1ne, wn_gt1, wn_le1, nb0, nb1, am_kt, am_rt, List.cons_append, List.nil_append, true_and, and_true, not_true_eq_false, not_false_eq_true, imp_f, imp_t, implies_true, Nat.zero_add, if_true, if_false, false_and, and_false, Nat.le_refl]
            rw [prd_ex q hh1 hh2, p16 n]
            refine ct128_h (4 * n) (exv q n k) _ _ _ _ _ (by omega) (by omega) ?_
            rw [hvn_gcd, ← p16 n]
            by_cases c5 : p = 0
            · simp +decide (disch := omega) only [↓wm1, wb128_168 hc, wb128_173 hc, wb128_180 hc, w0, w1, w2, w12, w16, rI_wI, rP_wI, rL_wI, rI_wR, rP_wR, is_wI, is_wR, ia_wI, ia_wR, ow_wI, ow_wR, wn_add, wn_mul, wn_cl, wn_le, wn_lt, wn_inj, wn_ne1, wn_1ne, wn_gt1, wn_le1, nb0, nb1, am_kt, am_rt, List.cons_append, List.nil_append, true_and, and_true, not_true_eq_false, not_false_eq_true, imp_f, imp_t, implies_true, Nat.zero_add, if_true, if_false, false_and, and_false, cn128, c5]
              rw [← hP]
              have : q_sounds n k q p = wl (exv q n k / Nat.gcd (16 ^ n) (exv q n k)) := by unfold q_sounds; rw [if_pos c5]
              rw [this]
              exact OCl_ok hR
            · simp +decide (disch := omega) only [↓wm1, wb128_168 hc, wb128_178 hc, wb128_180 hc, w0, w1, w2, w12, w16, rI_wI, rP_wI, rL_wI, rI_wR, rP_wR, is_wI, is_wR, ia_wI, ia_wR, ow_wI, ow_wR, wn_add, wn_mul, wn_cl, wn_le, wn_lt, wn_inj, wn_ne1, wn_1ne, wn_gt1, wn_le1, nb0, nb1, am_kt, am_rt, List.cons_append, List.nil_append, true_and, and_true, not_true_eq_false, not_false_eq_true, imp_f, imp_t, implies_true, Nat.zero_add, if_true, if_false, false_and, and_false, cn128, c5]
              rw [← hP]
              have : q_sounds n k q p = wl (16 ^ n / Nat.gcd (16 ^ n) (exv q n k)) := by unfold q_sounds; rw [if_neg c5]
              rw [this]
              exact OCl_ok hR
        · rw [if_neg (vin2_nf hx4)]
          generalize hP : OCl G _ _ = P
          by_cases hxa : x4 < wn 0
          · simp +decide (disch := omega) only [↓wm1, wb128_0 hc, wb128_5 hc, wb128_11 hc, wb128_16 hc, wb128_19 hc, wb128_24 hc, wb128_30 hc, wb128_35 hc, wb128_38 hc, wb128_43 hc, wb128_49 hc, wb128_54 hc, wb128_57 hc, wb128_73 hc, wb128_74 hc, w0, w1, w2, w12, w16, rI_wI, rP_wI, rL_wI, rI_wR, rP_wR, is_wI, is_wR, ia_wI, ia_wR, ow_wI, ow_wR, wn_add, wn_mul, wn_cl, wn_le, wn_lt, wn_inj, wn_ne1, wn_1ne, wn_gt1, wn_le1, nb0, nb1, am_kt, am_rt, List.cons_append, List.nil_append, true_and, and_true, not_true_eq_false, not_false_eq_true, imp_f, imp_t, implies_true, Nat.zero_add, if_true, if_false, false_and, and_false, cn128, fC hsh, a1, a2, a3, Nat.not_lt_zero, ct139y (v := 1) (by decide) (by decide), hxa, ct139n hsh hB]
            rw [← hP]; exact OCl_8 hR hB
          · have hxd : wn 1 < x4 := by
              rcases hx4 with z | z
              · exact absurd z hxa
              · exact out3 (by decide) z
            simp +decide (disch := omega) only [↓wm1, wb128_0 hc, wb128_5 hc, wb128_11 hc, wb128_16 hc, wb128_19 hc, wb128_24 hc, wb128_30 hc, wb128_35 hc, wb128_38 hc, wb128_43 hc, wb128_49 hc, wb128_54 hc, wb128_57 hc, wb128_63 hc, wb128_73 hc, wb128_74 hc, w0, w1, w2, w12, w16, rI_wI, rP_wI, rL_wI, rI_wR, rP_wR, is_wI, is_wR, ia_wI, ia_wR, ow_wI, ow_wR, wn_add, wn_mul, wn_cl, wn_le, wn_lt, wn_inj, wn_ne1, wn_1ne, wn_gt1, wn_le1, nb0, nb1, am_kt, am_rt, List.cons_append, List.nil_append, true_and, and_true, not_true_eq_false, not_false_eq_true, imp_f, imp_t, implies_true, Nat.zero_add, if_true, if_false, false_and, and_false, cn128, fC hsh, a1, a2, a3, Nat.not_lt_zero, ct139y (v := 1) (by decide) (by decide), hxa, hxd, ct139n hsh hB]
            rw [← hP]; exact OCl_8 hR hB
      · rw [if_neg (vin2_nf hx3)]
        generalize hP : OCl G _ _ = P
        by_cases hxa : x3 < wn 0
        · simp +decide (disch := omega) only [↓wm1, wb128_0 hc, wb128_5 hc, wb128_11 hc, wb128_16 hc, wb128_19 hc, wb128_24 hc, wb128_30 hc, wb128_35 hc, wb128_38 hc, wb128_53 hc, wb128_54 hc, w0, w1, w2, w12, w16, rI_wI, rP_wI, rL_wI, rI_wR, rP_wR, is_wI, is_wR, ia_wI, ia_wR, ow_wI, ow_wR, wn_add, wn_mul, wn_cl, wn_le, wn_lt, wn_inj, wn_ne1, wn_1ne, wn_gt1, wn_le1, nb0, nb1, am_kt, am_rt, List.cons_append, List.nil_append, true_and, and_true, not_true_eq_false, not_false_eq_true, imp_f, imp_t, implies_true, Nat.zero_add, if_true, if_false, false_and, and_false, cn128, fC hsh, a1, a2, Nat.not_lt_zero, ct139y (v := 1) (by decide) (by decide), hxa, ct139n hsh hB]
          rw [← hP]; exact OCl_8 hR hB
        · have hxd : wn 16 < x3 := by
            rcases hx3 with z | z
            · exact absurd z hxa
            · exact out3 (by decide) z
          simp +decide (disch := omega) only [↓wm1, wb128_0 hc, wb128_5 hc, wb128_11 hc, wb128_16 hc, wb128_19 hc, wb128_24 hc, wb128_30 hc, wb128_35 hc, wb128_38 hc, wb128_43 hc, wb128_53 hc, wb128_54 hc, w0, w1, w2, w12, w16, rI_wI, rP_wI, rL_wI, rI_wR, rP_wR, is_wI, is_wR, ia_wI, ia_wR, ow_wI, ow_wR, wn_add, wn_mul, wn_cl, wn_le, wn_lt, wn_inj, wn_ne1, wn_1ne, wn_gt1, wn_le1, nb0, nb1, am_kt, am_rt, List.cons_append, List.nil_append, true_and, and_true, not_true_eq_false, not_false_eq_true, imp_f, imp_t, implies_true, Nat.zero_add, if_true, if_false, false_and, and_false, cn128, fC hsh, a1, a2, Nat.not_lt_zero, ct139y (v := 1) (by decide) (by decide), hxa, hxd, ct139n hsh hB]
          rw [← hP]; exact OCl_8 hR hB
    · rw [if_neg (vin2_nf hx2)]
      generalize hP : OCl G _ _ = P
      by_cases hxa : x2 < wn 0
      · simp +decide (disch := omega) only [↓wm1, wb128_0 hc, wb128_5 hc, wb128_11 hc, wb128_16 hc, wb128_19 hc, wb128_34 hc, wb128_35 hc, w0, w1, w2, w12, w16, rI_wI, rP_wI, rL_wI, rI_wR, rP_wR, is_wI, is_wR, ia_wI, ia_wR, ow_wI, ow_wR, wn_add, wn_mul, wn_cl, wn_le, wn_lt, wn_inj, wn_ne1, wn_1ne, wn_gt1, wn_le1, nb0, nb1, am_kt, am_rt, List.cons_append, List.nil_append, true_and, and_true, not_true_eq_false, not_false_eq_true, imp_f, imp_t, implies_true, Nat.zero_add, if_true, if_false, false_and, and_false, cn128, fC hsh, a1, Nat.not_lt_zero, ct139y (v := 1) (by decide) (by decide), hxa, ct139n hsh hB]
        rw [← hP]; exact OCl_8 hR hB
      · have hxd : wn 12 < x2 := by
          rcases hx2 with z | z
          · exact absurd z hxa
          · exact out3 (by decide) z
        simp +decide (disch := omega) only [↓wm1, wb128_0 hc, wb128_5 hc, wb128_11 hc, wb128_16 hc, wb128_19 hc, wb128_24 hc, wb128_34 hc, wb128_35 hc, w0, w1, w2, w12, w16, rI_wI, rP_wI, rL_wI, rI_wR, rP_wR, is_wI, is_wR, ia_wI, ia_wR, ow_wI, ow_wR, wn_add, wn_mul, wn_cl, wn_le, wn_lt, wn_inj, wn_ne1, wn_1ne, wn_gt1, wn_le1, nb0, nb1, am_kt, am_rt, List.cons_append, List.nil_append, true_and, and_true, not_true_eq_false, not_false_eq_true, imp_f, imp_t, implies_true, Nat.zero_add, if_true, if_false, false_and, and_false, cn128, fC hsh, a1, Nat.not_lt_zero, ct139y (v := 1) (by decide) (by decide), hxa, hxd, ct139n hsh hB]
        rw [← hP]; exact OCl_8 hR hB
  · rw [if_neg (vin2_nf hx1)]
    generalize hP : OCl G _ _ = P
    by_cases hxa : x1 < wn 0
    · simp +decide (disch := omega) only [↓wm1, wb128_0 hc, wb128_15 hc, wb128_16 hc, w0, w1, w2, w12, w16, rI_wI, rP_wI, rL_wI, rI_wR, rP_wR, is_wI, is_wR, ia_wI, ia_wR, ow_wI, ow_wR, wn_add, wn_mul, wn_cl, wn_le, wn_lt, wn_inj, wn_ne1, wn_1ne, wn_gt1, wn_le1, nb0, nb1, am_kt, am_rt, List.cons_append, List.nil_append, true_and, and_true, not_true_eq_false, not_false_eq_true, imp_f, imp_t, implies_true, Nat.zero_add, if_true, if_false, false_and, and_false, cn128, fC hsh, hxa, ct139n hsh hB]
      rw [← hP]; exact OCl_8 hR hB
    · have hxd : wn 12 < x1 := by
        rcases hx1 with z | z
        · exact absurd z hxa
        · exact out3 (by decide) z
      simp +decide (disch := omega) only [↓wm1, wb128_0 hc, wb128_5 hc, wb128_15 hc, wb128_16 hc, w0, w1, w2, w12, w16, rI_wI, rP_wI, rL_wI, rI_wR, rP_wR, is_wI, is_wR, ia_wI, ia_wR, ow_wI, ow_wR, wn_add, wn_mul, wn_cl, wn_le, wn_lt, wn_inj, wn_ne1, wn_1ne, wn_gt1, wn_le1, nb0, nb1, am_kt, am_rt, List.cons_append, List.nil_append, true_and, and_true, not_true_eq_false, not_false_eq_true, imp_f, imp_t, implies_true, Nat.zero_add, if_true, if_false, false_and, and_false, cn128, fC hsh, hxa, hxd, ct139n hsh hB]
      rw [← hP]; exact OCl_8 hR hB
end
