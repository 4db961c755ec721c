/-! The law: its signs, what comes out; districts. -/
abbrev Tok : Type := Nat × Nat
def tkc (k : Tok) : Nat := if k.1 = 0 then k.2 else if k.1 = 1 then 1000 + k.2 else 1998 + k.1
def okT (k : Tok) : Prop := (k.1 = 0 ∧ k.2 ≤ 999) ∨ (k.1 = 1 ∧ k.2 < 9) ∨ (2 ≤ k.1 ∧ k.1 ≤ 8)
def jn (k : Nat) (a b : Int32) : Int32 := if k = 2 then a + b else if k = 3 then a - b else if k = 4 then a * b else if k = 5 then (if b = 0 then 0 else a / b) else if k = 6 then (if b = 0 then 0 else am_rem a b) else if k = 7 then (if b < a then b else a) else (if a < b then b else a)
def upI (f : Nat → Int32) (k : Nat) (v : Int32) : Nat → Int32 := fun j => if j = k then v else f j
abbrev Stk : Type := (Nat → Int32) × Nat
def stp (kn : Nat → Int32) (k : Tok) (q : Stk) : Stk :=
  if k.1 = 0 then (upI q.1 q.2 (wn k.2), q.2 + 1) else if k.1 = 1 then (upI q.1 q.2 (kn k.2), q.2 + 1) else (upI q.1 (q.2 - 2) (jn k.1 (q.1 (q.2 - 2)) (q.1 (q.2 - 1))), q.2 - 1)
def evl (kn : Nat → Int32) : List Tok → Stk → Stk
  | [], q => q
  | k :: r, q => evl kn r (stp kn k q)
/-- how high the stack is behind the signs, if they go -/
def dz : List Tok → Nat → Option Nat
  | [], n => some n
  | k :: r, n => if k.1 < 2 then dz r (n + 1) else if 2 ≤ n then dz r (n - 1) else none
theorem dz_app (l r : List Tok) (n : Nat) : dz (l ++ r) n = (dz l n).bind (dz r) := by
  induction l generalizing n with
  | nil => rfl
  | cons k l ih =>
    simp only [List.cons_append, dz]
    split
    · exact ih _
    · split
      · exact ih _
      · rfl
def CL : List Tok := [(1, 0), (1, 1), (3, 0), (1, 2), (0, 3), (4, 0), (3, 0), (1, 4), (3, 0)]
def eff (Λ : List Tok) : List Tok := if Λ = [] then CL else Λ
def okL (Λ : List Tok) : Prop := Λ.length ≤ 150 ∧ (∀ k ∈ Λ, okT k) ∧ dz Λ 0 = some 1
def okΛ (Λ : List Tok) : Prop := Λ = [] ∨ okL Λ
theorem okCL : okL CL := ⟨by decide, by intro k hk; simp only [CL, List.mem_cons, List.not_mem_nil, or_false] at hk; unfold okT; rcases hk with rfl | rfl | rfl | rfl | rfl | rfl | rfl | rfl | rfl <;> decide, by decide⟩
theorem okΛ_eff {Λ : List Tok} (h : okΛ Λ) : okL (eff Λ) := by
  unfold eff
  split
  · exact okCL
  · rcases h with h | h
    · contradiction
    · exact h
theorem wn_nat {x : Int32} (h : ¬ x < 0) : wn x.toNatClampNeg = x := by
  have h0 : ¬ x.toInt < 0 := by
    intro q
    apply h
    rw [Int32.lt_iff_toInt_lt]
    exact q
  have h1 : x.toInt < 2147483648 := x.toInt_lt
  apply Int32.toInt_inj.mp
  have h2 : x.toNatClampNeg = x.toInt.toNat := rfl
  rw [h2, wn_toInt (by omega)]
  omega
/-- 0 at least, 99 at most -/
def clp (x : Int32) : Nat := if x < 0 then 0 else if 99 < x then 99 else x.toNatClampNeg
theorem clp_le (x : Int32) : clp x ≤ 99 := by
  unfold clp
  split
  · omega
  · rename_i h
    split
    · omega
    · rename_i h2
      have e := wn_nat h
      rw [← e, show (99 : Int32) = wn 99 from rfl] at h2
      have h1 : x.toInt < 2147483648 := x.toInt_lt
      have h3 : x.toNatClampNeg = x.toInt.toNat := rfl
      rw [wn_lt (by decide) (by omega)] at h2
      omega
theorem clpC (x : Int32) : (if wn 0 < (if wn 99 < x then wn 99 else x) then (if wn 99 < x then wn 99 else x) else wn 0) = wn (clp x) := by
  unfold clp
  rw [show (99 : Int32) = wn 99 from rfl]
  by_cases h : x < 0
  · rw [if_pos h]
    have h2 : ¬ wn 99 < x := by
      rw [Int32.lt_iff_toInt_lt] at h ⊢
      rw [wn_toInt (by decide)]
      have : (0 : Int32).toInt = 0 := rfl
      omega
    rw [if_neg h2, if_neg]
    rw [Int32.lt_iff_toInt_lt] at h ⊢
    rw [wn_toInt (by decide)]
    have : (0 : Int32).toInt = 0 := rfl
    omega
  · rw [if_neg h]
    by_cases h2 : wn 99 < x
    · rw [if_pos h2, if_pos h2, if_pos]
      rw [wn_lt (by decide) (by decide)]
      decide
    · rw [if_neg h2, if_neg h2, wn_nat h]
      by_cases h3 : wn 0 < x
      · rw [if_pos h3]
      · rw [if_neg h3]
        apply Int32.toInt_inj.mp
        rw [Int32.lt_iff_toInt_lt] at h h3
        rw [wn_toInt (by decide)] at h3 ⊢
        have : (0 : Int32).toInt = 0 := rfl
        omega
theorem clpM (x : Int32) : (if (if wn 0 ≤ x then x else wn 0) ≤ wn 99 then (if wn 0 ≤ x then x else wn 0) else wn 99) = wn (clp x) := by
  rw [← clpC x]
  have e0 : (wn 0).toInt = 0 := rfl
  have e9 : (wn 99).toInt = 99 := rfl
  by_cases h1 : wn 0 ≤ x
  · rw [if_pos h1]
    by_cases h2 : wn 99 < x
    · have h3 : ¬ x ≤ wn 99 := by
        rw [Int32.le_iff_toInt_le]; rw [Int32.lt_iff_toInt_lt] at h2; omega
      rw [if_neg h3, if_pos h2, if_pos (by decide)]
    · have h3 : x ≤ wn 99 := by
        rw [Int32.le_iff_toInt_le]; rw [Int32.lt_iff_toInt_lt] at h2; omega
      rw [if_pos h3, if_neg h2]
      by_cases h4 : wn 0 < x
      · rw [if_pos h4]
      · rw [if_neg h4]
        apply Int32.toInt_inj.mp
        rw [Int32.le_iff_toInt_le] at h1
        rw [Int32.lt_iff_toInt_lt] at h4
        omega
  · have h2 : ¬ wn 99 < x := by
      rw [Int32.lt_iff_toInt_lt]; rw [Int32.le_iff_toInt_le] at h1; omega
    have h3 : ¬ wn 0 < x := by
      rw [Int32.lt_iff_toInt_lt]; rw [Int32.le_iff_toInt_le] at h1; omega
    rw [if_neg h1, if_neg h2, if_neg h3, if_pos (by decide)]
/-- what is heard by the law -/
def hl (Λ : List Tok) (kn : Nat → Int32) : Nat := clp ((evl kn (eff Λ) (fun _ => 0, 0)).1 0)
theorem hl_le (Λ : List Tok) (kn : Nat → Int32) : hl Λ kn ≤ 99 := clp_le _
theorem hl_nil (kn : Nat → Int32) : hl [] kn = clp (kn 0 - kn 1 - wn 3 * kn 2 - kn 4) := by
  have e : hl [] kn = clp (kn 0 - kn 1 - kn 2 * wn 3 - kn 4) := rfl
  rw [e, Int32.mul_comm]
section
variable {G : am_G} {d : Nat} {post : am_O → am_G → Prop}
theorem sw_at {x lo : Int32} {ts : List Nat} {dd : Nat} {k : Nat → Prop} (h : k (am_swt x lo ts dd)) : am_swc x lo ts dd k := (am_swc_iff x k ts lo dd).mpr h
theorem ct30 {k : Nat} (h2 : 2 ≤ k) (h8 : k ≤ 8) (a b : Int32) : am_C am_T (d + 2) 30 [.int (wn (1998 + k)), .int a, .int b] G post ↔ post (.inl (some (.int (jn k a b)))) G := by
  have hc := am_C_one am_T (d + 1)
  rw [we30, wb30_0 hc]
  simp only [am_swc_iff]
  have hk : k = 2 ∨ k = 3 ∨ k = 4 ∨ k = 5 ∨ k = 6 ∨ k = 7 ∨ k = 8 := by omega
  rcases hk with rfl | rfl | rfl | rfl | rfl | rfl | rfl
  · rw [show am_swt (wn (1998 + 2)) 2000 [40, 44, 48, 52, 64, 76] 82 = 40 from by decide +kernel, wb30_40 hc]; simp [jn]
  · rw [show am_swt (wn (1998 + 3)) 2000 [40, 44, 48, 52, 64, 76] 82 = 44 from by decide +kernel, wb30_44 hc]; simp [jn]
  · rw [show am_swt (wn (1998 + 4)) 2000 [40, 44, 48, 52, 64, 76] 82 = 48 from by decide +kernel, wb30_48 hc]; simp [jn]
  · rw [show am_swt (wn (1998 + 5)) 2000 [40, 44, 48, 52, 64, 76] 82 = 52 from by decide +kernel, wb30_52 hc]
    by_cases c : b = 0
    · simp [jn, c, wb30_56 hc, wb30_63 hc]
    · simp [jn, c, wb30_60 hc, wb30_63 hc]
  · rw [show am_swt (wn (1998 + 6)) 2000 [40, 44, 48, 52, 64, 76] 82 = 64 from by decide +kernel, wb30_64 hc]
    by_cases c : b = 0
    · simp [jn, c, wb30_68 hc, wb30_75 hc]
    · simp [jn, c, wb30_72 hc, wb30_75 hc]
  · rw [show am_swt (wn (1998 + 7)) 2000 [40, 44, 48, 52, 64, 76] 82 = 76 from by decide +kernel, wb30_76 hc, ct272]; simp [jn, wb30_81 hc, am_kt, am_rt]
  · rw [show am_swt (wn (1998 + 8)) 2000 [40, 44, 48, 52, 64, 76] 82 = 82 from by decide +kernel, wb30_82 hc, ct271]; simp [jn, wb30_87 hc, am_kt, am_rt]
theorem div_m1 (a : Int32) : a / (-1) = -a := by
  apply Int32.toInt_inj.mp
  rw [Int32.toInt_div, show (-1 : Int32).toInt = -1 from rfl, Int.tdiv_neg, Int.tdiv_one, Int32.toInt_neg]
theorem rem_m1 (a : Int32) : am_rem a (-1) = 0 := by
  unfold am_rem
  rw [div_m1]
  apply Int32.toInt_inj.mp
  simp [Int32.neg_mul, Int32.mul_neg]
theorem le_min (a b : Int32) : (if b ≤ a then b else a) = (if b < a then b else a) := by
  by_cases h : b < a
  · rw [if_pos h, if_pos (Int32.le_of_lt h)]
  · rw [if_neg h]
    by_cases h2 : b ≤ a
    · rw [if_pos h2]
      exact Int32.le_antisymm h2 (Int32.not_lt.mp h)
    · rw [if_neg h2]
theorem le_max (a b : Int32) : (if a ≤ b then b else a) = (if a < b then b else a) := by
  by_cases h : a < b
  · rw [if_pos h, if_pos (Int32.le_of_lt h)]
  · rw [if_neg h]
    by_cases h2 : a ≤ b
    · rw [if_pos h2]
      exact (Int32.le_antisymm h2 (Int32.not_lt.mp h)).symm
    · rw [if_neg h2]
theorem ct187 {k : Nat} (h2 : 2 ≤ k) (h8 : k ≤ 8) (a b : Int32) : am_C am_T (d + 2) 187 [.int (wn k), .int a, .int b] G post ↔ post (.inl (some (.int (jn k a b)))) G := by
  have hc := am_C_one am_T (d + 1)
  rw [we187, wb187_0 hc]
  simp only [am_swc_iff]
  have hk : k = 2 ∨ k = 3 ∨ k = 4 ∨ k = 5 ∨ k = 6 ∨ k = 7 ∨ k = 8 := by omega
  rcases hk with rfl | rfl | rfl | rfl | rfl | rfl | rfl
  · rw [show am_swt (wn 2) 2 [40, 44, 48, 52, 74, 91] 97 = 40 from by decide +kernel, wb187_40 hc]; simp [jn]
  · rw [show am_swt (wn 3) 2 [40, 44, 48, 52, 74, 91] 97 = 44 from by decide +kernel, wb187_44 hc]; simp [jn]
  · rw [show am_swt (wn 4) 2 [40, 44, 48, 52, 74, 91] 97 = 48 from by decide +kernel, wb187_48 hc]; simp [jn]
  · rw [show am_swt (wn 5) 2 [40, 44, 48, 52, 74, 91] 97 = 52 from by decide +kernel, wb187_52 hc]
    by_cases c : b = 0
    · simp [jn, c, wb187_56 hc, wb187_73 hc]
    · by_cases c2 : b = -1
      · subst c2
        simp [jn, wb187_60 hc, wb187_65 hc, wb187_73 hc, div_m1]
      · simp [jn, c, c2, wb187_60 hc, wb187_70 hc, wb187_73 hc]
  · rw [show am_swt (wn 6) 2 [40, 44, 48, 52, 74, 91] 97 = 74 from by decide +kernel, wb187_74 hc]
    by_cases c : b = 0
    · simp [jn, c, wb187_83 hc, wb187_90 hc]
    · by_cases c2 : b = -1
      · subst c2
        simp [jn, wb187_78 hc, wb187_83 hc, wb187_90 hc, rem_m1]
      · simp [jn, c, c2, wb187_78 hc, wb187_87 hc, wb187_90 hc]
  · rw [show am_swt (wn 7) 2 [40, 44, 48, 52, 74, 91] 97 = 91 from by decide +kernel, wb187_91 hc, ct154]; simp [jn, wb187_96 hc, am_kt, am_rt, le_min]
  · rw [show am_swt (wn 8) 2 [40, 44, 48, 52, 74, 91] 97 = 97 from by decide +kernel, wb187_97 hc, ct155]; simp [jn, wb187_102 hc, am_kt, am_rt, le_max]
end
