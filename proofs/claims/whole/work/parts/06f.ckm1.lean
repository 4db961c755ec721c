/-! The checks of the law itself, on. -/
theorem ck_311_33 : (ac_311_33.all (am_ck 311 13 5 false 8 cL_law_)) = true := by decide +kernel
theorem ck_311_34 : (ac_311_34.all (am_ck 311 13 5 false 8 cL_law_)) = true := by decide +kernel
theorem ck_311_35 : (ac_311_35.all (am_ck 311 13 5 false 8 cL_law_)) = true := by decide +kernel
theorem ck_311_36 : (ac_311_36.all (am_ck 311 13 5 false 8 cL_law_)) = true := by decide +kernel
theorem ck_311_37 : (ac_311_37.all (am_ck 311 13 5 false 8 cL_law_)) = true := by decide +kernel
theorem ck_311_38 : (ac_311_38.all (am_ck 311 13 5 false 8 cL_law_)) = true := by decide +kernel
theorem ck_311_39 : (ac_311_39.all (am_ck 311 13 5 false 8 cL_law_)) = true := by decide +kernel
theorem ck_311_40 : (ac_311_40.all (am_ck 311 13 5 false 8 cL_law_)) = true := by decide +kernel
theorem ck_311_41 : (ac_311_41.all (am_ck 311 13 5 false 8 cL_law_)) = true := by decide +kernel
theorem ck_311_42 : (ac_311_42.all (am_ck 311 13 5 false 8 cL_law_)) = true := by decide +kernel
theorem ck_311_43 : (ac_311_43.all (am_ck 311 13 5 false 8 cL_law_)) = true := by decide +kernel
theorem ck_311_44 : (ac_311_44.all (am_ck 311 13 5 false 8 cL_law_)) = true := by decide +kernel
theorem ck_311_45 : (ac_311_45.all (am_ck 311 13 5 false 8 cL_law_)) = true := by decide +kernel
theorem ck_311_46 : (ac_311_46.all (am_ck 311 13 5 false 8 cL_law_)) = true := by decide +kernel
theorem ck_311_47 : (ac_311_47.all (am_ck 311 13 5 false 8 cL_law_)) = true := by decide +kernel
theorem ck_311_48 : (ac_311_48.all (am_ck 311 13 5 false 8 cL_law_)) = true := by decide +kernel
theorem ck_311_49 : (ac_311_49.all (am_ck 311 13 5 false 8 cL_law_)) = true := by decide +kernel
theorem ck_311_50 : (ac_311_50.all (am_ck 311 13 5 false 8 cL_law_)) = true := by decide +kernel
theorem ck_311_51 : (ac_311_51.all (am_ck 311 13 5 false 8 cL_law_)) = true := by decide +kernel
theorem ck_311_52 : (ac_311_52.all (am_ck 311 13 5 false 8 cL_law_)) = true := by decide +kernel
theorem ck_311_53 : (ac_311_53.all (am_ck 311 13 5 false 8 cL_law_)) = true := by decide +kernel
theorem ck_311_54 : (ac_311_54.all (am_ck 311 13 5 false 8 cL_law_)) = true := by decide +kernel
theorem ck_311_55 : (ac_311_55.all (am_ck 311 13 5 false 8 cL_law_)) = true := by decide +kernel
theorem ck_311_56 : (ac_311_56.all (am_ck 311 13 5 false 8 cL_law_)) = true := by decide +kernel
theorem ck_311_57 : (ac_311_57.all (am_ck 311 13 5 false 8 cL_law_)) = true := by decide +kernel
theorem ck_311_58 : (ac_311_58.all (am_ck 311 13 5 false 8 cL_law_)) = true := by decide +kernel
theorem ck_311_59 : (ac_311_59.all (am_ck 311 13 5 false 8 cL_law_)) = true := by decide +kernel
theorem ck_311_60 : (ac_311_60.all (am_ck 311 13 5 false 8 cL_law_)) = true := by decide +kernel
theorem ck_311_61 : (ac_311_61.all (am_ck 311 13 5 false 8 cL_law_)) = true := by decide +kernel
theorem ck_311_62 : (ac_311_62.all (am_ck 311 13 5 false 8 cL_law_)) = true := by decide +kernel
theorem ck_311_63 : (ac_311_63.all (am_ck 311 13 5 false 8 cL_law_)) = true := by decide +kernel
theorem ck_311_64 : (ac_311_64.all (am_ck 311 13 5 false 8 cL_law_)) = true := by decide +kernel
theorem ck_311_65 : (ac_311_65.all (am_ck 311 13 5 false 8 cL_law_)) = true := by decide +kernel
theorem mk_311 : am_mok2 311 am_311 (yL_law_, cL_law_, 8, some .boolean, [], 0) := am_mok_of (o := 13) rfl rfl (List.forall_mem_cons.mpr ⟨ck_311_0, List.forall_mem_cons.mpr ⟨ck_311_1, List.forall_mem_cons.mpr ⟨ck_311_2, List.forall_mem_cons.mpr ⟨ck_311_3, List.forall_mem_cons.mpr ⟨ck_311_4, List.forall_mem_cons.mpr ⟨ck_311_5, List.forall_mem_cons.mpr ⟨ck_311_6, List.forall_mem_cons.mpr ⟨ck_311_7, List.forall_mem_cons.mpr ⟨ck_311_8, List.forall_mem_cons.mpr ⟨ck_311_9, List.forall_mem_cons.mpr ⟨ck_311_10, List.forall_mem_cons.mpr ⟨ck_311_11, List.forall_mem_cons.mpr ⟨ck_311_12, List.forall_mem_cons.mpr ⟨ck_311_13, List.forall_mem_cons.mpr ⟨ck_311_14, List.forall_mem_cons.mpr ⟨ck_311_15, List.forall_mem_cons.mpr ⟨ck_311_16, List.forall_mem_cons.mpr ⟨ck_311_17, List.forall_mem_cons.mpr ⟨ck_311_18, List.forall_mem_cons.mpr ⟨ck_311_19, List.forall_mem_cons.mpr ⟨ck_311_20, List.forall_mem_cons.mpr ⟨ck_311_21, List.forall_mem_cons.mpr ⟨ck_311_22, List.forall_mem_cons.mpr ⟨ck_311_23, List.forall_mem_cons.mpr ⟨ck_311_24, List.forall_mem_cons.mpr ⟨ck_311_25, List.forall_mem_cons.mpr ⟨ck_311_26, List.forall_mem_cons.mpr ⟨ck_311_27, List.forall_mem_cons.mpr ⟨ck_311_28, List.forall_mem_cons.mpr ⟨ck_311_29, List.forall_mem_cons.mpr ⟨ck_311_30, List.forall_mem_cons.mpr ⟨ck_311_31, List.forall_mem_cons.mpr ⟨ck_311_32, List.forall_mem_cons.mpr ⟨ck_311_33, List.forall_mem_cons.mpr ⟨ck_311_34, List.forall_mem_cons.mpr ⟨ck_311_35, List.forall_mem_cons.mpr ⟨ck_311_36, List.forall_mem_cons.mpr ⟨ck_311_37, List.forall_mem_cons.mpr ⟨ck_311_38, List.forall_mem_cons.mpr ⟨ck_311_39, List.forall_mem_cons.mpr ⟨ck_311_40, List.forall_mem_cons.mpr ⟨ck_311_41, List.forall_mem_cons.mpr ⟨ck_311_42, List.forall_mem_cons.mpr ⟨ck_311_43, List.forall_mem_cons.mpr ⟨ck_311_44, List.forall_mem_cons.mpr ⟨ck_311_45, List.forall_mem_cons.mpr ⟨ck_311_46, List.forall_mem_cons.mpr ⟨ck_311_47, List.forall_mem_cons.mpr ⟨ck_311_48, List.forall_mem_cons.mpr ⟨ck_311_49, List.forall_mem_cons.mpr ⟨ck_311_50, List.forall_mem_cons.mpr ⟨ck_311_51, List.forall_mem_cons.mpr ⟨ck_311_52, List.forall_mem_cons.mpr ⟨ck_311_53, List.forall_mem_cons.mpr ⟨ck_311_54, List.forall_mem_cons.mpr ⟨ck_311_55, List.forall_mem_cons.mpr ⟨ck_311_56, List.forall_mem_cons.mpr ⟨ck_311_57, List.forall_mem_cons.mpr ⟨ck_311_58, List.forall_mem_cons.mpr ⟨ck_311_59, List.forall_mem_cons.mpr ⟨ck_311_60, List.forall_mem_cons.mpr ⟨ck_311_61, List.forall_mem_cons.mpr ⟨ck_311_62, List.forall_mem_cons.mpr ⟨ck_311_63, List.forall_mem_cons.mpr ⟨ck_311_64, List.forall_mem_cons.mpr ⟨ck_311_65, List.forall_mem_nil _⟩⟩⟩⟩⟩⟩⟩⟩⟩⟩⟩⟩⟩⟩⟩⟩⟩⟩⟩⟩⟩⟩⟩⟩⟩⟩⟩⟩⟩⟩⟩⟩⟩⟩⟩⟩⟩⟩⟩⟩⟩⟩⟩⟩⟩⟩⟩⟩⟩⟩⟩⟩⟩⟩⟩⟩⟩⟩⟩⟩⟩⟩⟩⟩⟩⟩) rfl (Or.inl rfl)
theorem mka_7 : mk_all 280 [am_280, am_281, am_282, am_283, am_284, am_285, am_286, am_287, am_288, am_289, am_290, am_291, am_292, am_293, am_294, am_295, am_296, am_297, am_298, am_299, am_300, am_301, am_302, am_303, am_304, am_305, am_306, am_307, am_308, am_309, am_310, am_311] mi_l7 := ⟨mk_280, mk_281, mk_282, mk_283, mk_284, mk_285, mk_286, mk_287, mk_288, mk_289, mk_290, mk_291, mk_292, mk_293, mk_294, mk_295, mk_296, mk_297, mk_298, mk_299, mk_300, mk_301, mk_302, mk_303, mk_304, mk_305, mk_306, mk_307, mk_308, mk_309, mk_310, mk_311, trivial⟩
