/-! THE CLAIM OUT OF MY MACHINE: the law's entry. -/
def R_law : String := "MoodBelfriesLaw"
def lw_P (b : Addr) (xs : List Int32) (args : Array Value) (s : State) : Prop := args = #[.ref b] ∧ s.IntsAt b xs ∧ xs.length ≤ 5120 ∧ (Jvm.Cond.and given_1 narrow_1).before args s = true
def lw_Q (_ : Array Value) (s : State) (o : Outcome) (t : State) : Prop := o = .returned (some (.int 1)) ∧ Framed s o t [] 601024 7293034
def lw_Z (below : List Frame) (a : Array Value) (s : State) : State → Prop := fun t => ∃ o, t.status = .running ∧ Ended t below o ∧ lw_Q a s o t
/-- what holds at the law's entry -/
def lw_At (p : Program) (s : State) (m : MethodId) (meth : Method) (c : Code) (b L : Nat) (xs : Nat → Int32) : Prop :=
  p.tables.exec = Jvm.exec ∧ c.code = code ∧ meth.sig.returnType = ret ∧ c.maxLocals = 8 ∧ s.vm.findClass R_law = some m.cls ∧ (∀ w ∈ lw_tbl, w.before #[Value.ref b] s = true) ∧ va_X b L xs s s.heap ∧ b < s.heap.size ∧ meth.locks = false ∧ (Jvm.Cond.and given_1 narrow_1).before #[Value.ref b] s = true ∧
    c.exceptionTable.toList = [] ∧ meth.name = "law"
def am_many : List Int32 := [1, 1, 2, 6, 24, 120, 720]
def am_first : List Int32 := [0, 0, 1, 3, 9, 33, 153]
def am_by0 : List Int32 := [98, 101, 108, 108, 32, 104, 111, 117, 115, 101, 32, 100, 101, 101, 100, 32, 100, 97, 109, 112]
def am_by1 : List Int32 := [112, 117, 108, 108, 32, 99, 114, 97, 99, 107, 32, 103, 97, 103, 32, 115, 116, 101, 97, 108, 32, 98, 114, 105, 110, 103, 32, 100, 97, 109, 112, 32, 104, 111, 117, 114, 32, 97, 103, 97, 105, 110]
def am_by2 : List Int32 := [108, 111, 117, 100, 32, 102, 97, 114, 32, 97, 112, 97, 114, 116, 32, 99, 114, 97, 99, 107, 115, 32, 100, 97, 109, 112, 32, 112, 117, 108, 108, 101, 100, 32, 104, 111, 117, 114, 32, 98, 101, 108, 108, 32, 104, 111, 117, 115, 101, 32, 108, 101, 97, 115, 116, 32, 109, 111, 115, 116]
/-- what the old arrays hold: 0 the script, 1 and 2 the tables of Rows, 8 to 10 the bytes of the texts -/
def am_oc (xs : Nat → Int32) (j i : Nat) : Int32 := match j with
  | 0 => xs i
  | 1 => am_many.getD i 0
  | 2 => am_first.getD i 0
  | 8 => am_by0.getD i 0
  | 9 => am_by1.getD i 0
  | 10 => am_by2.getD i 0
  | _ => 0
/-- the memory at the law's entry -/
def am_G0 (L : Nat) (xs : Nat → Int32) : am_G := (fun a i => if a = 100000 then xs i else if a = 100001 then am_many.getD i 0 else if a = 100002 then am_first.getD i 0 else if a = 100008 then am_by0.getD i 0 else if a = 100009 then am_by1.getD i 0 else if a = 100010 then am_by2.getD i 0 else 0, fun _ _ => am_null, fun _ _ => 0, [], 0, L)
theorem ap_g0I (L : Nat) (xs : Nat → Int32) (j i : Nat) (h : i < am_ol L j) : am_gI (am_G0 L xs) (100000 + j) i = am_oc xs j i := by
  unfold am_ol at h
  split at h
  · simp [am_gI, am_G0, am_oc]
  · simp [am_gI, am_G0, am_oc]
  · simp [am_gI, am_G0, am_oc]
  · simp [am_gI, am_G0, am_oc]
  · simp [am_gI, am_G0, am_oc]
  · simp [am_gI, am_G0, am_oc]
  · exact absurd h (Nat.not_lt_zero _)
def ap_tm (i : Nat) : Term := match i with
  | 0 => .string "MoodBelfries$District" 52
  | 1 => .string "MoodBelfries$Work" 46
  | _ => .string "MoodBelfries$Law" 69
def ap_len : List Nat := [20, 42, 60]
def ap_byt : List (List Int32) := [am_by0, am_by1, am_by2]
/-- where the words of a text begin -/
def ap_at (i : Nat) : Nat := match i with
  | 0 => 124
  | 1 => 215
  | _ => 149
def ap_F : List Jvm.Cond := flatC (Jvm.Cond.and given_1 narrow_1)
set_option maxRecDepth 100000 in
theorem ap_w0 : ∀ i, i < 3 → ap_F[ap_at i]? = some (Cond.exactly (ap_tm i) "java/lang/String") ∧ ap_F[ap_at i + 1]? = some (Cond.eq (.field (ap_tm i) "java/lang/String" "coder" "B") (.int 0)) ∧ ap_F[ap_at i + 2]? = some (Cond.arrayOf (.field (ap_tm i) "java/lang/String" "value" "[B") .byte) ∧
    ap_F[ap_at i + 3]? = some (Cond.eq (.length (.field (ap_tm i) "java/lang/String" "value" "[B")) (.int (Int32.ofNat (ap_len.getD i 0)))) := by decide +kernel
set_option maxRecDepth 100000 in
theorem ap_w1 : ∀ i, i < 3 → ∀ j, j < ap_len.getD i 0 → ap_F[ap_at i + 4 + j]? = some (Cond.eq (.elem (.field (ap_tm i) "java/lang/String" "value" "[B") (.int (Int32.ofNat j))) (.int ((ap_byt.getD i []).getD j 0))) := by decide +kernel
def ap_st (k : Nat) : Term := match k with
  | 0 => .static "MoodBelfries$Rows" "MANY" "[I"
  | _ => .static "MoodBelfries$Rows" "FIRST" "[I"
def ap_sv (k : Nat) : List Int32 := match k with
  | 0 => am_many
  | _ => am_first
set_option maxRecDepth 100000 in
theorem ap_w2 : ∀ k, k < 2 → ap_F[12 + 10 * k]? = some (Cond.arrayOf (ap_st k) .int) ∧ ap_F[13 + 10 * k]? = some (Cond.eq (.length (ap_st k)) (.int 7)) ∧ ∀ j, j < 7 → ap_F[14 + 10 * k + j]? = some (Cond.eq (.elem (ap_st k) (.int (Int32.ofNat j))) (.int ((ap_sv k).getD j 0))) := by decide +kernel
set_option maxRecDepth 100000 in
theorem ap_w3 : ap_F[148]? = some (Cond.not (Cond.eq (.string "MoodBelfries" 384) (ap_tm 0))) ∧ ap_F[214]? = some (Cond.not (Cond.eq (ap_tm 0) (ap_tm 2))) ∧ ap_F[262]? = some (Cond.not (Cond.eq (ap_tm 0) (ap_tm 1))) ∧ ap_F[263]? = some (Cond.not (Cond.eq (ap_tm 2) (ap_tm 1))) := by decide +kernel
set_option maxRecDepth 100000 in
theorem ap_w4 : ap_F[4]? = some (Cond.isRef (.static Bundle.tN "UNASSIGNED_STACK" Bundle.steD)) ∧ ap_F[5]? = some (Cond.isRef (.static Bundle.tN "SUPPRESSED_SENTINEL" Bundle.listD)) ∧ ap_F[6]? = some (Cond.eq (.static "java/lang/String" "COMPACT_STRINGS" "Z") (.int 1)) ∧ ap_F[7]? = some (Cond.isRef (.static "jdk/internal/util/Preconditions" "SIOOBE_FORMATTER" "Ljava/util/function/BiFunction;")) ∧
    ap_F[44]? = some (Cond.not (Cond.castable "java/util/NoSuchElementException" "java/lang/IllegalArgumentException")) ∧ ap_F[58]? = some (Cond.not (Cond.castable "java/lang/IllegalArgumentException" "java/util/NoSuchElementException")) ∧ ap_F[91]? = some (Cond.exactly (.string "MoodBelfries" 384) "java/lang/String") ∧ ap_F[264]? = some (Cond.exactly (.string "MoodBelfries" 391) "java/lang/String") := by decide +kernel
set_option maxRecDepth 100000 in
theorem ap_w5 : Cond.laysStatic "MoodBelfries$Rows" "MANY" "[I" ∈ tables_1 ∧ Cond.laysStatic "MoodBelfries$Rows" "FIRST" "[I" ∈ tables_1 ∧ Cond.initialized "MoodBelfries$Rows" ∈ tables_1 ∧ Cond.laysStatic "java/lang/String" "COMPACT_STRINGS" "Z" ∈ tables_1 ∧ Cond.initialized "java/lang/String" ∈ tables_1 ∧ Cond.laysStatic "jdk/internal/util/Preconditions" "SIOOBE_FORMATTER" "Ljava/util/function/BiFunction;" ∈ tables_1 ∧ Cond.initialized "jdk/internal/util/Preconditions" ∈ tables_1 ∧
    Cond.laysStatic Bundle.tN "UNASSIGNED_STACK" Bundle.steD ∈ tables_1 ∧ Cond.laysStatic Bundle.tN "SUPPRESSED_SENTINEL" Bundle.listD ∈ tables_1 ∧ Cond.initialized Bundle.tN ∈ tables_1 ∧ Cond.castable "java/lang/IllegalArgumentException" "java/lang/IllegalArgumentException" ∈ tables_1 ∧ Cond.castable "java/util/NoSuchElementException" "java/util/NoSuchElementException" ∈ tables_1 ∧ Cond.stringRef RX11 384 "an argument out of its bounds" ∈ tables_1 ∧ Cond.stringRef RX11 391 "no such bell, house or deed" ∈ tables_1 := by decide +kernel
section
variable {s : State} {b L : Nat} {xs : Nat → Int32}
theorem ap_cls (hts : ∀ w ∈ lw_tbl, w.before #[Value.ref b] s = true) : ∃ D : va_G, ∀ (c : Nat) (q : vw_C), vwCl[c]? = some q → u_Kn s q.1 q.2.1 q.2.2 (D.1 c) (D.2 c) := by
  have h0 : ∀ c : Nat, ∃ r : ClassId × (Nat → Nat), ∀ q : vw_C, vwCl[c]? = some q → u_Kn s q.1 q.2.1 q.2.2 r.1 r.2 := by
    intro c
    by_cases hc : c < 13
    · cases hq : vwCl[c]? with
      | none => exact ⟨(0, fun _ => 0), fun q h => by cases h⟩
      | some q =>
        obtain ⟨⟨i, hi⟩, -⟩ := sm_icok hq hc
        have hin : ∀ w ∈ u_ws q.1 q.2.1 q.2.2, w ∈ lw_tbl := by
          intro w hw
          refine List.mem_append_right _ ?_
          match c, hq with
          | 0, hv => cases hv; exact inT0 _ hw
          | 1, hv => cases hv; exact inT1 _ hw
          | 2, hv => cases hv; exact inT2 _ hw
          | 3, hv => cases hv; exact inT3 _ hw
          | 4, hv => cases hv; exact inT4 _ hw
          | 5, hv => cases hv; exact inT5 _ hw
          | 6, hv => cases hv; exact inT6 _ hw
          | 7, hv => cases hv; exact inT7 _ hw
          | 8, hv => cases hv; exact inT8 _ hw
          | 9, hv => cases hv; exact inT9 _ hw
          | 10, hv => cases hv; exact inT10 _ hw
          | 11, hv => cases hv; exact inT11 _ hw
          | 12, hv => cases hv; exact inT12 _ hw
          | k + 13, hv => simp [vwCl] at hv
        obtain ⟨cC, iS, hK⟩ := u_known hts hin (hts _ (List.mem_append_right _ (List.mem_of_getElem? hi)))
        exact ⟨(cC, iS), fun q' h => by cases h; exact hK⟩
    · refine ⟨(0, fun _ => 0), fun q h => ?_⟩
      exfalso
      have := (List.getElem?_eq_some_iff.mp h).1
      exact hc this
  obtain ⟨D, hD⟩ := Classical.axiomOfChoice h0
  exact ⟨(fun c => (D c).1, fun c => (D c).2), hD⟩
theorem ap_arr1 {ty : FieldType} (h : (Cond.arrayClass ty).before #[Value.ref b] s = true) : ∃ cA, ArrOfT s cA ty ∧ s.vm.findClass ("[" ++ ty.toString) = some cA := by
  obtain ⟨c, k, comp, h1, h2, h3⟩ := Cond.arrayClass_spec h
  exact ⟨c, fun n z => ⟨(fun q h => by cases h), k, h2, comp, h3⟩, h1⟩
theorem ap_arr2 {n : String} (h : (Cond.arrayOver (.object n)).before #[Value.ref b] s = true) : ∃ cA, ArrOfT s cA (.object n) ∧ va_RA s cA (.object n) := by
  obtain ⟨comp, c, k, h1, -, h3, h4, h5⟩ := Cond.arrayOver_spec h
  exact ⟨c, fun n z => ⟨(fun q h => by cases h), k, h3, comp, h4⟩, k, comp, h3, h4, h1, h5⟩
theorem ap_arr3 (h : (Cond.arrayOver (.array .int)).before #[Value.ref b] s = true) : ∃ cA, ArrOfT s cA (.array .int) ∧ va_RA s cA (.array .int) := by
  obtain ⟨comp, c, k, h1, h3, h4, h5⟩ := Cond.arrayOver_specA h
  exact ⟨c, fun n z => ⟨(fun q h => by cases h), k, h3, comp, h4⟩, h5⟩
theorem ap_arrs (hts : ∀ w ∈ lw_tbl, w.before #[Value.ref b] s = true) : ∃ cs : Nat → ClassId, ∀ (k : Nat) (ty : FieldType), sm_aty k = some ty → ArrOfT s (cs k) ty ∧ va_RA s (cs k) ty := by
  have hw : ∀ {i : Nat} {w : Jvm.Cond}, tables_1[i]? = some w → w.before #[Value.ref b] s = true := fun h => hts _ (List.mem_append_right _ (List.mem_of_getElem? h))
  obtain ⟨c0, a0, b0⟩ := ap_arr1 (b := b) (s := s) (ty := .int) (hw (i := 143) (by decide +kernel))
  obtain ⟨c1, a1, b1⟩ := ap_arr1 (b := b) (s := s) (ty := .long) (hw (i := 1431) (by decide +kernel))
  obtain ⟨c5, a5, b5⟩ := ap_arr1 (b := b) (s := s) (ty := .byte) (hw (i := 71) (by decide +kernel))
  obtain ⟨c2, a2, b2⟩ := ap_arr3 (b := b) (s := s) (hw (i := 1271) (by decide +kernel))
  obtain ⟨c3, a3, b3⟩ := ap_arr2 (b := b) (s := s) (n := "MoodBelfries$Diary") (hw (i := 284) (by decide +kernel))
  obtain ⟨c4, a4, b4⟩ := ap_arr2 (b := b) (s := s) (n := "MoodBelfries$State") (hw (i := 271) (by decide +kernel))
  refine ⟨fun k => match k with | 100 => c0 | 101 => c1 | 102 => c2 | 103 => c3 | 104 => c4 | _ => c5, fun k ty h => ?_⟩
  unfold sm_aty at h
  split at h <;> cases h
  · exact ⟨a0, b0⟩
  · exact ⟨a1, b1⟩
  · exact ⟨a2, b2⟩
  · exact ⟨a3, b3⟩
  · exact ⟨a4, b4⟩
  · exact ⟨a5, b5⟩
def ap_od (b : Nat) (t0 t1 : Nat) (adK adV : Nat → Nat) (j : Nat) : Nat := match j with
  | 0 => b
  | 1 => t0
  | 2 => t1
  | 3 => adK 0
  | 4 => adK 1
  | 5 => adK 2
  | 8 => adV 0
  | 9 => adV 1
  | 10 => adV 2
  | _ => 0
theorem ap_of_T {ty : FieldType} {t n : Nat} {f : Nat → Int32} {A : Nat → Prop} (h : va_T ty t n (fun j => .int (f j)) A s s.heap) : ∃ cell : Cell, s.heap[t]? = some cell ∧ s.isArrayOf cell ty ∧ cell.vm ≠ .unknown ∧ n ≤ cell.slots.size ∧ cell.slots.size.toInt32 = Int32.ofNat n ∧ ∀ i, i < n → cell.slots[i]? = some (.int (f i)) := by
  obtain ⟨cell, h1, h2, h3, h4, h5, h6, -⟩ := h
  exact ⟨cell, h1, h2, h3, h4, h5, h6⟩
/-- the world that the law's entry gives -/
theorem ap_world (hts : ∀ w ∈ lw_tbl, w.before #[Value.ref b] s = true) (hX : va_X b L xs s s.heap) (hgv : (Jvm.Cond.and given_1 narrow_1).before #[Value.ref b] s = true) :
    ∃ N : sm_N, sm_env N ∧ sm_env2 N ∧ sm_s0 N = s ∧ sm_base N = s.heap.size ∧ sm_len N = L ∧ sm_oc N = am_oc xs ∧ sm_od N 0 = b := by
  have hF : ∀ {i : Nat} {w : Jvm.Cond}, ap_F[i]? = some w → w.before #[Value.ref b] s = true := fun h => flat_of_before _ hgv _ (List.mem_of_getElem? h)
  have hT : ∀ {w : Jvm.Cond}, w ∈ tables_1 → w.before #[Value.ref b] s = true := fun h => hts _ (List.mem_append_right _ h)
  have hA : ∀ a : Nat, a < s.heap.size → ¬ s.heap.size ≤ a := fun a h1 h2 => Nat.not_lt.mpr h2 h1
  obtain ⟨D, hD⟩ := ap_cls hts
  obtain ⟨cs, hcs⟩ := ap_arrs hts
  obtain ⟨l1, l2, i2, l3, i3, l4, i4, l5, l6, i6, c1, c2, r1, r2⟩ := ap_w5
  obtain ⟨u1, u2, u3, u4, u5, u6, u7, u8⟩ := ap_w4
  obtain ⟨adK, adV, hS, hev⟩ := vk_Sof (args := #[Value.ref b]) (s := s) (N := 3) (tm := ap_tm) (len := ap_len) (byt := ap_byt) (A := fun q => s.heap.size ≤ q) (by decide) (fun i hi => hF (ap_w0 i hi).1) (fun i hi => hF (ap_w0 i hi).2.1) (fun i hi => hF (ap_w0 i hi).2.2.1) (fun i hi => hF (ap_w0 i hi).2.2.2) (fun i hi j hj => hF (ap_w1 i hi j hj)) (by
    intro i j hi hj hne
    obtain ⟨-, w1, w2, w3⟩ := ap_w3
    have e : (i = 0 ∧ j = 1) ∨ (i = 0 ∧ j = 2) ∨ (i = 1 ∧ j = 0) ∨ (i = 1 ∧ j = 2) ∨ (i = 2 ∧ j = 0) ∨ (i = 2 ∧ j = 1) := by omega
    rcases e with ⟨rfl, rfl⟩ | ⟨rfl, rfl⟩ | ⟨rfl, rfl⟩ | ⟨rfl, rfl⟩ | ⟨rfl, rfl⟩ | ⟨rfl, rfl⟩
    · exact Or.inl (hF w2)
    · exact Or.inl (hF w1)
    · exact Or.inr (hF w2)
    · exact Or.inr (hF w3)
    · exact Or.inr (hF w1)
    · exact Or.inl (hF w3)) hA
  obtain ⟨t0, e0, T0⟩ := va_Tof (args := #[Value.ref b]) (s := s) (tm := ap_st 0) (ty := .int) (N := 7) (f := fun j => .int (am_many.getD j 0)) (A := fun q => s.heap.size ≤ q) (by decide) (hF (ap_w2 0 (by decide)).1) (va_eqt (hF (ap_w2 0 (by decide)).2.1)) (fun j hj => va_eqt (hF ((ap_w2 0 (by decide)).2.2 j hj))) hA
  obtain ⟨t1, e1, T1⟩ := va_Tof (args := #[Value.ref b]) (s := s) (tm := ap_st 1) (ty := .int) (N := 7) (f := fun j => .int (am_first.getD j 0)) (A := fun q => s.heap.size ≤ q) (by decide) (hF (ap_w2 1 (by decide)).1) (va_eqt (hF (ap_w2 1 (by decide)).2.1)) (fun j hj => va_eqt (hF ((ap_w2 1 (by decide)).2.2 j hj))) hA
  have Z0 := va_Zof (A := fun q => s.heap.size ≤ q) (hT l1) (hT i2) e0 hA
  have Z1 := va_Zof (A := fun q => s.heap.size ≤ q) (hT l2) (hT i2) e1 hA
  have Z2 := va_Zof (A := fun q => s.heap.size ≤ q) (hT l3) (hT i3) (va_eqt (hF u3)) hA
  obtain ⟨sv, hsv, Z3⟩ : ∃ sv, sm_rn sv ∧ va_Z "jdk/internal/util/Preconditions" "SIOOBE_FORMATTER" "Ljava/util/function/BiFunction;" sv (fun q => s.heap.size ≤ q) s s.heap := by
    rcases va_Zqof (A := fun q => s.heap.size ≤ q) (hT l4) (hT i4) (hF u4) hA with h | ⟨t, h⟩
    · exact ⟨_, Or.inl rfl, h⟩
    · exact ⟨_, Or.inr ⟨t, rfl⟩, h⟩
  have U0 := vx_Zqof (A := fun q => s.heap.size ≤ q) (hT l5) (hT i6) (hF u1) hA
  have U1 := vx_Zqof (A := fun q => s.heap.size ≤ q) (hT l6) (hT i6) (hF u2) hA
  obtain ⟨sa1, -, -, -, hsa1, -⟩ := Cond.exactly_spec (hF u7)
  obtain ⟨sa2, -, -, -, hsa2, -⟩ := Cond.exactly_spec (hF u8)
  refine ⟨(s, D, cs, ap_od b t0 t1 adK adV, sv, s.heap.size, L, am_oc xs), ⟨rfl, hD, hcs, hsv, ?_, ?_⟩, ⟨⟨_, hts⟩, ?_, ?_, ?_, U0, U1, ⟨sa1, vk_R.of (hT r1) hsa1⟩, ⟨sa2, vk_R.of (hT r2) hsa2⟩⟩, rfl, rfl, rfl, rfl, rfl⟩
  · intro j ty hj
    unfold sm_oty at hj
    split at hj <;> cases hj
    · obtain ⟨scr, x1, x2, x3, x4, x5⟩ := hX
      exact ⟨scr, x1, x2, x3, Nat.le_of_eq x4.symm, by rw [x4]; rfl, x5⟩
    · exact ap_of_T T0
    · exact ap_of_T T1
    · exact ap_of_T (hS.1 0 (by decide)).2.2.2
    · exact ap_of_T (hS.1 1 (by decide)).2.2.2
    · exact ap_of_T (hS.1 2 (by decide)).2.2.2
  · intro j h3 h5
    have key : ∀ i, i < 3 → (∃ cell : Cell, s.heap[adK i]? = some cell ∧ cell.vm.isStatics = false ∧ s.vm.findClass "java/lang/String" = some cell.cls) ∧ va_OF "java/lang/String" "value" "[B" (.ref (adV i)) (adK i) (fun q => s.heap.size ≤ q) s s.heap ∧ va_OF "java/lang/String" "coder" "B" (.int 0) (adK i) (fun q => s.heap.size ≤ q) s s.heap := by
      intro i hi
      obtain ⟨⟨cell, g1, g2, g3, -⟩, g4, g5, -⟩ := hS.1 i hi
      exact ⟨⟨cell, g1, g2, g3⟩, g5, g4⟩
    have e : j = 3 ∨ j = 4 ∨ j = 5 := by omega
    rcases e with rfl | rfl | rfl
    · exact key 0 (by decide)
    · exact key 1 (by decide)
    · exact key 2 (by decide)
  · intro k k' hk hk'
    obtain ⟨p1, p2, g1, g2, g3⟩ := Cond.castable_spec (hT c1)
    obtain ⟨p3, p4, g4, g5, g6⟩ := Cond.castable_spec (hT c2)
    obtain ⟨p5, p6, g7, g8, g9⟩ := va_Nc.of (hF u5)
    obtain ⟨p7, p8, g10, g11, g12⟩ := va_Nc.of (hF u6)
    rcases hk with rfl | rfl <;> rcases hk' with rfl | rfl
    · exact ⟨p1, p2, g1, g2, g3⟩
    · exact ⟨p7, p8, g10, g11, g12⟩
    · exact ⟨p5, p6, g7, g8, g9⟩
    · exact ⟨p3, p4, g4, g5, g6⟩
  · intro k hk
    rcases hk with rfl | rfl | rfl | rfl
    · exact Z2
    · exact Z0
    · exact Z1
    · exact Z3
  · intro r hr
    have hc := List.all_eq_true.mp tl_ok r hr
    have hw := hT (List.mem_of_getElem? (of_decide_eq_true hc))
    refine vk_R.of hw ?_
    have hcase : r = (2, 52, 100003, 622) ∨ r = (4, 69, 100005, 780) ∨ r = (10, 46, 100004, 809) := by simpa [tl_l] using hr
    rcases hcase with rfl | rfl | rfl
    · exact hev 0 (by decide)
    · exact hev 2 (by decide)
    · exact hev 1 (by decide)
/-- the law's start, out of what my machine says -/
theorem whole_of {p : Program} {e : Env} {m : MethodId} {below : List Frame} {meth : Method} {c : Code} (l : Launch) (hflags : l.flags = flags0) (C0 : lw_At p s m meth c b L xs) (hp : am_C am_T 100 311 [.ref 100000] (am_G0 L xs) (fun o _ => o = .inl (some (.int 1)))) :
    W p l e room_1 s m #[Value.ref b] below meth c s.heap [] 0 0 (lw_Z below #[Value.ref b] s) (entryFrame m ([Value.ref b] : List Value).toArray 8) := by
  obtain ⟨hx, hb, hr, hml, hown, hts, hX, hbl, hlocks, hgv, hexc, hnm⟩ := C0
  obtain ⟨N, E, E2, n1, n2, n3, n4, n5⟩ := ap_world hts hX hgv
  have hq : mi_l[311]? = some (yL_law_, cL_law_, 8, some .boolean, [], 0) := rfl
  have hok := sm_sound E E2 100 311 _ _ _ _ hq hp
  have htv : sm_tv N (.ref 100000) = .ref b := by
    rw [sm_tv_ref N (by decide), show (100000 : Nat) = 100000 + 0 from rfl, sm_ad_old, n5]
  have hl : l.stackTraces = false := by
    unfold Launch.stackTraces
    rw [hflags]
    decide +kernel
  have F : sm_fx N p l room_1 s m meth c (yL_law_, cL_law_, 8, some .boolean, [], 0) 100 (am_G0 L xs) := by
    refine ⟨hx, hl, by rw [n1]; exact State.WarmedH.refl s, hown, hb, hml, hr, hlocks, hnm, ?_, by decide, by decide, (show 90000 ≤ 601024 + 0 from by decide), (show 7200000 ≤ 7293034 + 0 from by decide)⟩
    rw [hexc]
    rfl
  have hrep : sm_rep N (am_G0 L xs) s.heap := by
    refine ⟨by rw [n2]; rfl, ⟨Nat.zero_le _, Nat.zero_le _⟩, by rw [n3]; rfl, fun a k n h => by simp [am_K, am_G0] at h, fun q hq => by rw [n1], fun j i hi => ?_⟩
    rw [n3] at hi
    rw [n4, ap_g0I L xs j i hi]
  have hw := hok p l e room_1 s m below meth c F hrep
  rw [hml] at hw
  have has : ([Value.ref 100000].map (sm_tv N)) = [Value.ref b] := by rw [List.map_cons, htv]; rfl
  rw [has] at hw
  refine sm_mono (fun t ht => ?_) hw
  obtain ⟨o, G', Ls, k, n, h1, h2, h3, h4, h5, h6⟩ := ht
  subst h6
  refine ⟨.returned (some (.int 1)), h1, h2, rfl, ⟨_, rfl⟩, h3, h4.weaken (fun y hy hlt => ?_) ?_ ?_⟩
  · have h9 := h5.2.1 y hy
    rw [n2] at h9
    exact absurd hlt (Nat.not_lt.mpr h9)
  · have h9 := h5.2.2.1
    have h10 := h5.1.2.1.1
    have h11 : (am_K (am_G0 L xs)).length = 0 := rfl
    omega
  · have h9 := h5.2.2.2
    have h10 := h5.1.2.1.2
    have h11 : am_us (am_G0 L xs) = 0 := rfl
    omega
end
