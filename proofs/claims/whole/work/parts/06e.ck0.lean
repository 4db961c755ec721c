/-! Each method's table is the real code: the frame of the check. -/
def mh_c : List (Nat × Nat × Nat × Nat) → List (Nat × Nat × Nat × Nat) → Bool
  | [], [] => true
  | a :: r, b :: r' => Nat.beq a.1 b.1 && (Nat.beq a.2.1 b.2.1 && (Nat.beq a.2.2.1 b.2.2.1 && (((Nat.beq a.2.2.2 13 && Nat.beq b.2.2.2 200) || (Nat.beq a.2.2.2 31 && Nat.beq b.2.2.2 201)) && mh_c r r')))
  | _, _ => false
def am_mok2 (y : Nat) (M : am_M) (q : mi_T) : Prop := am_mok y M q ∧ mh_c q.2.2.2.2.1 M.2.2 = true ∧ (q.2.2.2.2.1 = [] ∨ q.1.cls = RL)
theorem am_mok_of {y : Nat} {M : am_M} {q : mi_T} {o : Nat} (h1 : M.1 = q.2.2.1) (ho : ow o = q.1.cls) (h : ∀ c ∈ M.2.1, c.2.all (am_ck y o (am_tg q.2.2.2.1) (q.2.2.2.2.2 == 2) q.2.2.1 q.2.1) = true) (h2 : mh_c q.2.2.2.2.1 M.2.2 = true) (h3 : q.2.2.2.2.1 = [] ∨ q.1.cls = RL) : am_mok2 y M q := by
  refine ⟨⟨h1, o, ho, fun pc e he => ?_⟩, h2, h3⟩
  obtain ⟨c, hc, hm⟩ := am_at_mem _ _ _ he
  exact List.all_eq_true.mp (h c hc) _ hm
def mk_all : Nat → List am_M → List mi_T → Prop
  | _, [], [] => True
  | n, M :: r, q :: r' => am_mok2 n M q ∧ mk_all (n + 1) r r'
  | _, _, _ => False
theorem ck_0_0 : (ac_0_0.all (am_ck 0 0 0 true 1 cX0_init)) = true := by decide +kernel
theorem mk_0 : am_mok2 0 am_0 (yX0_init, cX0_init, 1, none, [], 2) := am_mok_of (o := 0) rfl rfl (List.forall_mem_cons.mpr ⟨ck_0_0, List.forall_mem_nil _⟩) rfl (Or.inl rfl)
theorem ck_1_0 : (ac_1_0.all (am_ck 1 0 0 false 7 cX0_live)) = true := by decide +kernel
theorem ck_1_1 : (ac_1_1.all (am_ck 1 0 0 false 7 cX0_live)) = true := by decide +kernel
theorem mk_1 : am_mok2 1 am_1 (yX0_live, cX0_live, 7, none, [], 1) := am_mok_of (o := 0) rfl rfl (List.forall_mem_cons.mpr ⟨ck_1_0, List.forall_mem_cons.mpr ⟨ck_1_1, List.forall_mem_nil _⟩⟩) rfl (Or.inl rfl)
theorem ck_2_0 : (ac_2_0.all (am_ck 2 0 0 false 4 cX0_draw)) = true := by decide +kernel
theorem ck_2_1 : (ac_2_1.all (am_ck 2 0 0 false 4 cX0_draw)) = true := by decide +kernel
theorem mk_2 : am_mok2 2 am_2 (yX0_draw, cX0_draw, 4, none, [], 1) := am_mok_of (o := 0) rfl rfl (List.forall_mem_cons.mpr ⟨ck_2_0, List.forall_mem_cons.mpr ⟨ck_2_1, List.forall_mem_nil _⟩⟩) rfl (Or.inl rfl)
theorem ck_3_0 : (ac_3_0.all (am_ck 3 0 1 false 2 cX0_drawBelow)) = true := by decide +kernel
theorem mk_3 : am_mok2 3 am_3 (yX0_drawBelow, cX0_drawBelow, 2, some .int, [], 1) := am_mok_of (o := 0) rfl rfl (List.forall_mem_cons.mpr ⟨ck_3_0, List.forall_mem_nil _⟩) rfl (Or.inl rfl)
theorem ck_4_0 : (ac_4_0.all (am_ck 4 1 0 true 2 cX1_init)) = true := by decide +kernel
theorem ck_4_1 : (ac_4_1.all (am_ck 4 1 0 true 2 cX1_init)) = true := by decide +kernel
theorem mk_4 : am_mok2 4 am_4 (yX1_init, cX1_init, 2, none, [], 2) := am_mok_of (o := 1) rfl rfl (List.forall_mem_cons.mpr ⟨ck_4_0, List.forall_mem_cons.mpr ⟨ck_4_1, List.forall_mem_nil _⟩⟩) rfl (Or.inl rfl)
theorem ck_5_0 : (ac_5_0.all (am_ck 5 1 0 false 2 cX1_clear)) = true := by decide +kernel
theorem mk_5 : am_mok2 5 am_5 (yX1_clear, cX1_clear, 2, none, [], 1) := am_mok_of (o := 1) rfl rfl (List.forall_mem_cons.mpr ⟨ck_5_0, List.forall_mem_nil _⟩) rfl (Or.inl rfl)
theorem ck_6_0 : (ac_6_0.all (am_ck 6 1 0 false 1 cX1_keep)) = true := by decide +kernel
theorem mk_6 : am_mok2 6 am_6 (yX1_keep, cX1_keep, 1, none, [], 1) := am_mok_of (o := 1) rfl rfl (List.forall_mem_cons.mpr ⟨ck_6_0, List.forall_mem_nil _⟩) rfl (Or.inl rfl)
theorem ck_7_0 : (ac_7_0.all (am_ck 7 1 5 false 1 cX1_takeBack)) = true := by decide +kernel
theorem mk_7 : am_mok2 7 am_7 (yX1_takeBack, cX1_takeBack, 1, some .boolean, [], 1) := am_mok_of (o := 1) rfl rfl (List.forall_mem_cons.mpr ⟨ck_7_0, List.forall_mem_nil _⟩) rfl (Or.inl rfl)
theorem ck_8_0 : (ac_8_0.all (am_ck 8 1 0 false 3 cX1_copyFrom)) = true := by decide +kernel
theorem ck_8_1 : (ac_8_1.all (am_ck 8 1 0 false 3 cX1_copyFrom)) = true := by decide +kernel
theorem mk_8 : am_mok2 8 am_8 (yX1_copyFrom, cX1_copyFrom, 3, none, [], 1) := am_mok_of (o := 1) rfl rfl (List.forall_mem_cons.mpr ⟨ck_8_0, List.forall_mem_cons.mpr ⟨ck_8_1, List.forall_mem_nil _⟩⟩) rfl (Or.inl rfl)
theorem ck_9_0 : (ac_9_0.all (am_ck 9 2 0 true 1 cX2_init)) = true := by decide +kernel
theorem ck_9_1 : (ac_9_1.all (am_ck 9 2 0 true 1 cX2_init)) = true := by decide +kernel
theorem mk_9 : am_mok2 9 am_9 (yX2_init, cX2_init, 1, none, [], 2) := am_mok_of (o := 2) rfl rfl (List.forall_mem_cons.mpr ⟨ck_9_0, List.forall_mem_cons.mpr ⟨ck_9_1, List.forall_mem_nil _⟩⟩) rfl (Or.inl rfl)
theorem ck_10_0 : (ac_10_0.all (am_ck 10 2 5 false 4 cX2_read)) = true := by decide +kernel
theorem ck_10_1 : (ac_10_1.all (am_ck 10 2 5 false 4 cX2_read)) = true := by decide +kernel
theorem ck_10_2 : (ac_10_2.all (am_ck 10 2 5 false 4 cX2_read)) = true := by decide +kernel
theorem mk_10 : am_mok2 10 am_10 (yX2_read, cX2_read, 4, some .boolean, [], 1) := am_mok_of (o := 2) rfl rfl (List.forall_mem_cons.mpr ⟨ck_10_0, List.forall_mem_cons.mpr ⟨ck_10_1, List.forall_mem_cons.mpr ⟨ck_10_2, List.forall_mem_nil _⟩⟩⟩) rfl (Or.inl rfl)
theorem ck_11_0 : (ac_11_0.all (am_ck 11 2 5 false 3 cX2_readClause)) = true := by decide +kernel
theorem ck_11_1 : (ac_11_1.all (am_ck 11 2 5 false 3 cX2_readClause)) = true := by decide +kernel
theorem mk_11 : am_mok2 11 am_11 (yX2_readClause, cX2_readClause, 3, some .boolean, [], 1) := am_mok_of (o := 2) rfl rfl (List.forall_mem_cons.mpr ⟨ck_11_0, List.forall_mem_cons.mpr ⟨ck_11_1, List.forall_mem_nil _⟩⟩) rfl (Or.inl rfl)
theorem ck_12_0 : (ac_12_0.all (am_ck 12 2 5 false 2 cX2_readBell)) = true := by decide +kernel
theorem ck_12_1 : (ac_12_1.all (am_ck 12 2 5 false 2 cX2_readBell)) = true := by decide +kernel
theorem mk_12 : am_mok2 12 am_12 (yX2_readBell, cX2_readBell, 2, some .boolean, [], 1) := am_mok_of (o := 2) rfl rfl (List.forall_mem_cons.mpr ⟨ck_12_0, List.forall_mem_cons.mpr ⟨ck_12_1, List.forall_mem_nil _⟩⟩) rfl (Or.inl rfl)
theorem ck_13_0 : (ac_13_0.all (am_ck 13 2 5 false 2 cX2_readHouse)) = true := by decide +kernel
theorem ck_13_1 : (ac_13_1.all (am_ck 13 2 5 false 2 cX2_readHouse)) = true := by decide +kernel
theorem mk_13 : am_mok2 13 am_13 (yX2_readHouse, cX2_readHouse, 2, some .boolean, [], 1) := am_mok_of (o := 2) rfl rfl (List.forall_mem_cons.mpr ⟨ck_13_0, List.forall_mem_cons.mpr ⟨ck_13_1, List.forall_mem_nil _⟩⟩) rfl (Or.inl rfl)
theorem ck_14_0 : (ac_14_0.all (am_ck 14 2 5 false 2 cX2_readDeed)) = true := by decide +kernel
theorem ck_14_1 : (ac_14_1.all (am_ck 14 2 5 false 2 cX2_readDeed)) = true := by decide +kernel
theorem ck_14_2 : (ac_14_2.all (am_ck 14 2 5 false 2 cX2_readDeed)) = true := by decide +kernel
theorem mk_14 : am_mok2 14 am_14 (yX2_readDeed, cX2_readDeed, 2, some .boolean, [], 1) := am_mok_of (o := 2) rfl rfl (List.forall_mem_cons.mpr ⟨ck_14_0, List.forall_mem_cons.mpr ⟨ck_14_1, List.forall_mem_cons.mpr ⟨ck_14_2, List.forall_mem_nil _⟩⟩⟩) rfl (Or.inl rfl)
theorem ck_15_0 : (ac_15_0.all (am_ck 15 3 0 true 1 cX3_init)) = true := by decide +kernel
theorem mk_15 : am_mok2 15 am_15 (yX3_init, cX3_init, 1, none, [], 2) := am_mok_of (o := 3) rfl rfl (List.forall_mem_cons.mpr ⟨ck_15_0, List.forall_mem_nil _⟩) rfl (Or.inl rfl)
theorem ck_16_0 : (ac_16_0.all (am_ck 16 3 0 false 1 cX3_clear)) = true := by decide +kernel
theorem mk_16 : am_mok2 16 am_16 (yX3_clear, cX3_clear, 1, none, [], 1) := am_mok_of (o := 3) rfl rfl (List.forall_mem_cons.mpr ⟨ck_16_0, List.forall_mem_nil _⟩) rfl (Or.inl rfl)
theorem ck_17_0 : (ac_17_0.all (am_ck 17 3 5 false 5 cX3_read)) = true := by decide +kernel
theorem ck_17_1 : (ac_17_1.all (am_ck 17 3 5 false 5 cX3_read)) = true := by decide +kernel
theorem ck_17_2 : (ac_17_2.all (am_ck 17 3 5 false 5 cX3_read)) = true := by decide +kernel
theorem mk_17 : am_mok2 17 am_17 (yX3_read, cX3_read, 5, some .boolean, [], 1) := am_mok_of (o := 3) rfl rfl (List.forall_mem_cons.mpr ⟨ck_17_0, List.forall_mem_cons.mpr ⟨ck_17_1, List.forall_mem_cons.mpr ⟨ck_17_2, List.forall_mem_nil _⟩⟩⟩) rfl (Or.inl rfl)
theorem ck_18_0 : (ac_18_0.all (am_ck 18 3 0 false 5 cX3_guess)) = true := by decide +kernel
theorem ck_18_1 : (ac_18_1.all (am_ck 18 3 0 false 5 cX3_guess)) = true := by decide +kernel
theorem ck_18_2 : (ac_18_2.all (am_ck 18 3 0 false 5 cX3_guess)) = true := by decide +kernel
theorem mk_18 : am_mok2 18 am_18 (yX3_guess, cX3_guess, 5, none, [], 1) := am_mok_of (o := 3) rfl rfl (List.forall_mem_cons.mpr ⟨ck_18_0, List.forall_mem_cons.mpr ⟨ck_18_1, List.forall_mem_cons.mpr ⟨ck_18_2, List.forall_mem_nil _⟩⟩⟩) rfl (Or.inl rfl)
theorem ck_19_0 : (ac_19_0.all (am_ck 19 3 5 false 6 cX3_fits)) = true := by decide +kernel
theorem ck_19_1 : (ac_19_1.all (am_ck 19 3 5 false 6 cX3_fits)) = true := by decide +kernel
theorem mk_19 : am_mok2 19 am_19 (yX3_fits, cX3_fits, 6, some .boolean, [], 1) := am_mok_of (o := 3) rfl rfl (List.forall_mem_cons.mpr ⟨ck_19_0, List.forall_mem_cons.mpr ⟨ck_19_1, List.forall_mem_nil _⟩⟩) rfl (Or.inl rfl)
theorem ck_20_0 : (ac_20_0.all (am_ck 20 3 0 false 6 cX3_sort)) = true := by decide +kernel
theorem ck_20_1 : (ac_20_1.all (am_ck 20 3 0 false 6 cX3_sort)) = true := by decide +kernel
theorem mk_20 : am_mok2 20 am_20 (yX3_sort, cX3_sort, 6, none, [], 1) := am_mok_of (o := 3) rfl rfl (List.forall_mem_cons.mpr ⟨ck_20_0, List.forall_mem_cons.mpr ⟨ck_20_1, List.forall_mem_nil _⟩⟩) rfl (Or.inl rfl)
theorem ck_21_0 : (ac_21_0.all (am_ck 21 3 0 false 5 cX3_choose)) = true := by decide +kernel
theorem ck_21_1 : (ac_21_1.all (am_ck 21 3 0 false 5 cX3_choose)) = true := by decide +kernel
theorem ck_21_2 : (ac_21_2.all (am_ck 21 3 0 false 5 cX3_choose)) = true := by decide +kernel
theorem mk_21 : am_mok2 21 am_21 (yX3_choose, cX3_choose, 5, none, [], 1) := am_mok_of (o := 3) rfl rfl (List.forall_mem_cons.mpr ⟨ck_21_0, List.forall_mem_cons.mpr ⟨ck_21_1, List.forall_mem_cons.mpr ⟨ck_21_2, List.forall_mem_nil _⟩⟩⟩) rfl (Or.inl rfl)
theorem ck_22_0 : (ac_22_0.all (am_ck 22 4 0 true 1 cX4_init)) = true := by decide +kernel
theorem mk_22 : am_mok2 22 am_22 (yX4_init, cX4_init, 1, none, [], 2) := am_mok_of (o := 4) rfl rfl (List.forall_mem_cons.mpr ⟨ck_22_0, List.forall_mem_nil _⟩) rfl (Or.inl rfl)
theorem ck_23_0 : (ac_23_0.all (am_ck 23 4 0 false 1 cX4_beCommon)) = true := by decide +kernel
theorem ck_23_1 : (ac_23_1.all (am_ck 23 4 0 false 1 cX4_beCommon)) = true := by decide +kernel
theorem mk_23 : am_mok2 23 am_23 (yX4_beCommon, cX4_beCommon, 1, none, [], 1) := am_mok_of (o := 4) rfl rfl (List.forall_mem_cons.mpr ⟨ck_23_0, List.forall_mem_cons.mpr ⟨ck_23_1, List.forall_mem_nil _⟩⟩) rfl (Or.inl rfl)
theorem ck_24_0 : (ac_24_0.all (am_ck 24 4 0 false 2 cX4_add)) = true := by decide +kernel
theorem mk_24 : am_mok2 24 am_24 (yX4_add, cX4_add, 2, none, [], 1) := am_mok_of (o := 4) rfl rfl (List.forall_mem_cons.mpr ⟨ck_24_0, List.forall_mem_nil _⟩) rfl (Or.inl rfl)
theorem ck_25_0 : (ac_25_0.all (am_ck 25 4 5 false 2 cX4_read)) = true := by decide +kernel
theorem mk_25 : am_mok2 25 am_25 (yX4_read, cX4_read, 2, some .boolean, [], 1) := am_mok_of (o := 4) rfl rfl (List.forall_mem_cons.mpr ⟨ck_25_0, List.forall_mem_nil _⟩) rfl (Or.inl rfl)
theorem ck_26_0 : (ac_26_0.all (am_ck 26 4 5 false 4 cX4_readSum)) = true := by decide +kernel
theorem ck_26_1 : (ac_26_1.all (am_ck 26 4 5 false 4 cX4_readSum)) = true := by decide +kernel
theorem mk_26 : am_mok2 26 am_26 (yX4_readSum, cX4_readSum, 4, some .boolean, [], 1) := am_mok_of (o := 4) rfl rfl (List.forall_mem_cons.mpr ⟨ck_26_0, List.forall_mem_cons.mpr ⟨ck_26_1, List.forall_mem_nil _⟩⟩) rfl (Or.inl rfl)
theorem ck_27_0 : (ac_27_0.all (am_ck 27 4 5 false 4 cX4_readProduct)) = true := by decide +kernel
theorem ck_27_1 : (ac_27_1.all (am_ck 27 4 5 false 4 cX4_readProduct)) = true := by decide +kernel
theorem ck_27_2 : (ac_27_2.all (am_ck 27 4 5 false 4 cX4_readProduct)) = true := by decide +kernel
theorem mk_27 : am_mok2 27 am_27 (yX4_readProduct, cX4_readProduct, 4, some .boolean, [], 1) := am_mok_of (o := 4) rfl rfl (List.forall_mem_cons.mpr ⟨ck_27_0, List.forall_mem_cons.mpr ⟨ck_27_1, List.forall_mem_cons.mpr ⟨ck_27_2, List.forall_mem_nil _⟩⟩⟩) rfl (Or.inl rfl)
theorem ck_28_0 : (ac_28_0.all (am_ck 28 4 5 false 4 cX4_readUnit)) = true := by decide +kernel
theorem ck_28_1 : (ac_28_1.all (am_ck 28 4 5 false 4 cX4_readUnit)) = true := by decide +kernel
theorem ck_28_2 : (ac_28_2.all (am_ck 28 4 5 false 4 cX4_readUnit)) = true := by decide +kernel
theorem ck_28_3 : (ac_28_3.all (am_ck 28 4 5 false 4 cX4_readUnit)) = true := by decide +kernel
theorem ck_28_4 : (ac_28_4.all (am_ck 28 4 5 false 4 cX4_readUnit)) = true := by decide +kernel
theorem mk_28 : am_mok2 28 am_28 (yX4_readUnit, cX4_readUnit, 4, some .boolean, [], 1) := am_mok_of (o := 4) rfl rfl (List.forall_mem_cons.mpr ⟨ck_28_0, List.forall_mem_cons.mpr ⟨ck_28_1, List.forall_mem_cons.mpr ⟨ck_28_2, List.forall_mem_cons.mpr ⟨ck_28_3, List.forall_mem_cons.mpr ⟨ck_28_4, List.forall_mem_nil _⟩⟩⟩⟩⟩) rfl (Or.inl rfl)
theorem ck_29_0 : (ac_29_0.all (am_ck 29 4 1 false 6 cX4_heardBy)) = true := by decide +kernel
theorem ck_29_1 : (ac_29_1.all (am_ck 29 4 1 false 6 cX4_heardBy)) = true := by decide +kernel
theorem ck_29_2 : (ac_29_2.all (am_ck 29 4 1 false 6 cX4_heardBy)) = true := by decide +kernel
theorem ck_29_3 : (ac_29_3.all (am_ck 29 4 1 false 6 cX4_heardBy)) = true := by decide +kernel
theorem mk_29 : am_mok2 29 am_29 (yX4_heardBy, cX4_heardBy, 6, some .int, [], 1) := am_mok_of (o := 4) rfl rfl (List.forall_mem_cons.mpr ⟨ck_29_0, List.forall_mem_cons.mpr ⟨ck_29_1, List.forall_mem_cons.mpr ⟨ck_29_2, List.forall_mem_cons.mpr ⟨ck_29_3, List.forall_mem_nil _⟩⟩⟩⟩) rfl (Or.inl rfl)
theorem ck_30_0 : (ac_30_0.all (am_ck 30 4 1 false 3 cX4_join)) = true := by decide +kernel
theorem ck_30_1 : (ac_30_1.all (am_ck 30 4 1 false 3 cX4_join)) = true := by decide +kernel
theorem mk_30 : am_mok2 30 am_30 (yX4_join, cX4_join, 3, some .int, [], 0) := am_mok_of (o := 4) rfl rfl (List.forall_mem_cons.mpr ⟨ck_30_0, List.forall_mem_cons.mpr ⟨ck_30_1, List.forall_mem_nil _⟩⟩) rfl (Or.inl rfl)
theorem ck_31_0 : (ac_31_0.all (am_ck 31 5 0 true 1 cX5_init)) = true := by decide +kernel
theorem mk_31 : am_mok2 31 am_31 (yX5_init, cX5_init, 1, none, [], 2) := am_mok_of (o := 5) rfl rfl (List.forall_mem_cons.mpr ⟨ck_31_0, List.forall_mem_nil _⟩) rfl (Or.inl rfl)
theorem ck_32_0 : (ac_32_0.all (am_ck 32 5 1 false 7 cX5_best)) = true := by decide +kernel
theorem ck_32_1 : (ac_32_1.all (am_ck 32 5 1 false 7 cX5_best)) = true := by decide +kernel
theorem ck_32_2 : (ac_32_2.all (am_ck 32 5 1 false 7 cX5_best)) = true := by decide +kernel
theorem ck_32_3 : (ac_32_3.all (am_ck 32 5 1 false 7 cX5_best)) = true := by decide +kernel
theorem mk_32 : am_mok2 32 am_32 (yX5_best, cX5_best, 7, some .int, [], 1) := am_mok_of (o := 5) rfl rfl (List.forall_mem_cons.mpr ⟨ck_32_0, List.forall_mem_cons.mpr ⟨ck_32_1, List.forall_mem_cons.mpr ⟨ck_32_2, List.forall_mem_cons.mpr ⟨ck_32_3, List.forall_mem_nil _⟩⟩⟩⟩) rfl (Or.inl rfl)
theorem ck_33_0 : (ac_33_0.all (am_ck 33 5 1 false 6 cX5_mostBy)) = true := by decide +kernel
theorem ck_33_1 : (ac_33_1.all (am_ck 33 5 1 false 6 cX5_mostBy)) = true := by decide +kernel
theorem mk_33 : am_mok2 33 am_33 (yX5_mostBy, cX5_mostBy, 6, some .int, [], 1) := am_mok_of (o := 5) rfl rfl (List.forall_mem_cons.mpr ⟨ck_33_0, List.forall_mem_cons.mpr ⟨ck_33_1, List.forall_mem_nil _⟩⟩) rfl (Or.inl rfl)
theorem ck_34_0 : (ac_34_0.all (am_ck 34 5 1 false 5 cX5_mostWith)) = true := by decide +kernel
theorem ck_34_1 : (ac_34_1.all (am_ck 34 5 1 false 5 cX5_mostWith)) = true := by decide +kernel
theorem mk_34 : am_mok2 34 am_34 (yX5_mostWith, cX5_mostWith, 5, some .int, [], 1) := am_mok_of (o := 5) rfl rfl (List.forall_mem_cons.mpr ⟨ck_34_0, List.forall_mem_cons.mpr ⟨ck_34_1, List.forall_mem_nil _⟩⟩) rfl (Or.inl rfl)
theorem ck_35_0 : (ac_35_0.all (am_ck 35 5 0 false 6 cX5_give)) = true := by decide +kernel
theorem ck_35_1 : (ac_35_1.all (am_ck 35 5 0 false 6 cX5_give)) = true := by decide +kernel
theorem ck_35_2 : (ac_35_2.all (am_ck 35 5 0 false 6 cX5_give)) = true := by decide +kernel
theorem mk_35 : am_mok2 35 am_35 (yX5_give, cX5_give, 6, none, [], 1) := am_mok_of (o := 5) rfl rfl (List.forall_mem_cons.mpr ⟨ck_35_0, List.forall_mem_cons.mpr ⟨ck_35_1, List.forall_mem_cons.mpr ⟨ck_35_2, List.forall_mem_nil _⟩⟩⟩) rfl (Or.inl rfl)
theorem ck_36_0 : (ac_36_0.all (am_ck 36 6 0 true 1 cX6_init)) = true := by decide +kernel
theorem mk_36 : am_mok2 36 am_36 (yX6_init, cX6_init, 1, none, [], 2) := am_mok_of (o := 6) rfl rfl (List.forall_mem_cons.mpr ⟨ck_36_0, List.forall_mem_nil _⟩) rfl (Or.inl rfl)
theorem ck_37_0 : (ac_37_0.all (am_ck 37 6 1 false 3 cX6_longOf)) = true := by decide +kernel
theorem mk_37 : am_mok2 37 am_37 (yX6_longOf, cX6_longOf, 3, some .int, [], 1) := am_mok_of (o := 6) rfl rfl (List.forall_mem_cons.mpr ⟨ck_37_0, List.forall_mem_nil _⟩) rfl (Or.inl rfl)
theorem ck_38_0 : (ac_38_0.all (am_ck 38 6 0 false 7 cX6_findLongs)) = true := by decide +kernel
theorem ck_38_1 : (ac_38_1.all (am_ck 38 6 0 false 7 cX6_findLongs)) = true := by decide +kernel
theorem ck_38_2 : (ac_38_2.all (am_ck 38 6 0 false 7 cX6_findLongs)) = true := by decide +kernel
theorem ck_38_3 : (ac_38_3.all (am_ck 38 6 0 false 7 cX6_findLongs)) = true := by decide +kernel
theorem mk_38 : am_mok2 38 am_38 (yX6_findLongs, cX6_findLongs, 7, none, [], 1) := am_mok_of (o := 6) rfl rfl (List.forall_mem_cons.mpr ⟨ck_38_0, List.forall_mem_cons.mpr ⟨ck_38_1, List.forall_mem_cons.mpr ⟨ck_38_2, List.forall_mem_cons.mpr ⟨ck_38_3, List.forall_mem_nil _⟩⟩⟩⟩) rfl (Or.inl rfl)
theorem ck_39_0 : (ac_39_0.all (am_ck 39 6 1 false 8 cX6_nearer)) = true := by decide +kernel
theorem ck_39_1 : (ac_39_1.all (am_ck 39 6 1 false 8 cX6_nearer)) = true := by decide +kernel
theorem ck_39_2 : (ac_39_2.all (am_ck 39 6 1 false 8 cX6_nearer)) = true := by decide +kernel
theorem mk_39 : am_mok2 39 am_39 (yX6_nearer, cX6_nearer, 8, some .int, [], 1) := am_mok_of (o := 6) rfl rfl (List.forall_mem_cons.mpr ⟨ck_39_0, List.forall_mem_cons.mpr ⟨ck_39_1, List.forall_mem_cons.mpr ⟨ck_39_2, List.forall_mem_nil _⟩⟩⟩) rfl (Or.inl rfl)
theorem mka_0 : mk_all 0 [am_0, am_1, am_2, am_3, am_4, am_5, am_6, am_7, am_8, am_9, am_10, am_11, am_12, am_13, am_14, am_15, am_16, am_17, am_18, am_19, am_20, am_21, am_22, am_23, am_24, am_25, am_26, am_27, am_28, am_29, am_30, am_31, am_32, am_33, am_34, am_35, am_36, am_37, am_38, am_39] mi_l0 := ⟨mk_0, mk_1, mk_2, mk_3, mk_4, mk_5, mk_6, mk_7, mk_8, mk_9, mk_10, mk_11, mk_12, mk_13, mk_14, mk_15, mk_16, mk_17, mk_18, mk_19, mk_20, mk_21, mk_22, mk_23, mk_24, mk_25, mk_26, mk_27, mk_28, mk_29, mk_30, mk_31, mk_32, mk_33, mk_34, mk_35, mk_36, mk_37, mk_38, mk_39, trivial⟩
