/-! Numbers: a natural number as an int. -/
def wn (n : Nat) : Int32 := Int32.ofNat n
theorem wn_toInt {n : Nat} (h : n < 2147483648) : (wn n).toInt = (n : Int) := by
  unfold wn
  exact Int32.toInt_ofNat_of_lt h
theorem wn_inj {a b : Nat} (ha : a < 2147483648) (hb : b < 2147483648) : wn a = wn b ↔ a = b := by
  constructor
  · intro h
    have h1 := congrArg Int32.toInt h
    rw [wn_toInt ha, wn_toInt hb] at h1
    omega
  · intro h; rw [h]
theorem wn_lt {a b : Nat} (ha : a < 2147483648) (hb : b < 2147483648) : wn a < wn b ↔ a < b := by
  rw [Int32.lt_iff_toInt_lt, wn_toInt ha, wn_toInt hb]
  omega
theorem wn_le {a b : Nat} (ha : a < 2147483648) (hb : b < 2147483648) : wn a ≤ wn b ↔ a ≤ b := by
  rw [Int32.le_iff_toInt_le, wn_toInt ha, wn_toInt hb]
  omega
theorem wn_add (a b : Nat) : wn a + wn b = wn (a + b) := by
  unfold wn
  rw [Int32.ofNat_add]
theorem wn_mul (a b : Nat) : wn a * wn b = wn (a * b) := by
  unfold wn
  rw [Int32.ofNat_mul]
theorem wn_sub {a b : Nat} (h : b ≤ a) : wn a - wn b = wn (a - b) := by
  obtain ⟨c, rfl⟩ := Nat.exists_eq_add_of_le h
  rw [← wn_add, Nat.add_sub_cancel_left]
  rw [Int32.add_comm, Int32.add_sub_cancel]
theorem wn_cl {n : Nat} (h : n < 2147483648) : (wn n).toNatClampNeg = n := by
  have h1 : (wn n).toInt.toNat = n := by rw [wn_toInt h]; simp
  exact h1
theorem wn_z : (0 : Int32) = wn 0 := rfl
theorem wn_nn (n : Nat) (h : n < 2147483648) : ¬ wn n < 0 := by
  rw [wn_z, wn_lt h (by decide)]
  omega
theorem wn_n1 (n : Nat) (h : n < 2147483648) : ¬ wn n = -1 := by
  intro e
  have h1 := congrArg Int32.toInt e
  rw [wn_toInt h] at h1
  have h2 : (-1 : Int32).toInt = -1 := by decide
  omega
theorem wn_in {i n : Nat} (h : i < n) (hn : n < 2147483648) : vp_in (wn i) n := by
  rintro (h1 | h1)
  · exact wn_nn i (by omega) h1
  · rw [wn_cl (by omega)] at h1
    omega
theorem wn_div {a b : Nat} (ha : a < 2147483648) (hb : b < 2147483648) : wn a / wn b = wn (a / b) := by
  apply Int32.toInt_inj.mp
  have hd : a / b ≤ a := Nat.div_le_self a b
  rw [Int32.toInt_div, wn_toInt ha, wn_toInt hb, wn_toInt (by omega)]
  rw [show (a : Int).tdiv (b : Int) = ((a / b : Nat) : Int) from by rw [← Int.ofNat_tdiv]]
  generalize a / b = q at hd ⊢
  apply Int.bmod_eq_of_le <;> omega
theorem wn_rem {a b : Nat} (ha : a < 2147483648) (hb : b < 2147483648) : am_rem (wn a) (wn b) = wn (a % b) := by
  unfold am_rem
  rw [wn_div ha hb, wn_mul, wn_sub (Nat.div_mul_le_self a b)]
  congr 1
  have := Nat.mod_add_div a b
  rw [Nat.mul_comm] at this
  omega
