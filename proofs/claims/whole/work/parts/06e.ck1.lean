/-! The checks of my code tables, on. -/
theorem ck_40_0 : (ac_40_0.all (am_ck 40 6 1 false 4 cX6_bellAt)) = true := by decide +kernel
theorem mk_40 : am_mok2 40 am_40 (yX6_bellAt, cX6_bellAt, 4, some .int, [], 1) := am_mok_of (o := 6) rfl rfl (List.forall_mem_cons.mpr ⟨ck_40_0, List.forall_mem_nil _⟩) rfl (Or.inl rfl)
theorem ck_41_0 : (ac_41_0.all (am_ck 41 6 5 false 1 cX6_isChange)) = true := by decide +kernel
theorem mk_41 : am_mok2 41 am_41 (yX6_isChange, cX6_isChange, 1, some .boolean, [], 0) := am_mok_of (o := 6) rfl rfl (List.forall_mem_cons.mpr ⟨ck_41_0, List.forall_mem_nil _⟩) rfl (Or.inl rfl)
theorem ck_42_0 : (ac_42_0.all (am_ck 42 6 0 false 7 cX6_lay)) = true := by decide +kernel
theorem ck_42_1 : (ac_42_1.all (am_ck 42 6 0 false 7 cX6_lay)) = true := by decide +kernel
theorem mk_42 : am_mok2 42 am_42 (yX6_lay, cX6_lay, 7, none, [], 1) := am_mok_of (o := 6) rfl rfl (List.forall_mem_cons.mpr ⟨ck_42_0, List.forall_mem_cons.mpr ⟨ck_42_1, List.forall_mem_nil _⟩⟩) rfl (Or.inl rfl)
theorem ck_43_0 : (ac_43_0.all (am_ck 43 6 1 false 4 cX6_unusedAt)) = true := by decide +kernel
theorem mk_43 : am_mok2 43 am_43 (yX6_unusedAt, cX6_unusedAt, 4, some .int, [], 0) := am_mok_of (o := 6) rfl rfl (List.forall_mem_cons.mpr ⟨ck_43_0, List.forall_mem_nil _⟩) rfl (Or.inl rfl)
theorem ck_44_0 : (ac_44_0.all (am_ck 44 6 1 false 7 cX6_rowBy)) = true := by decide +kernel
theorem ck_44_1 : (ac_44_1.all (am_ck 44 6 1 false 7 cX6_rowBy)) = true := by decide +kernel
theorem ck_44_2 : (ac_44_2.all (am_ck 44 6 1 false 7 cX6_rowBy)) = true := by decide +kernel
theorem ck_44_3 : (ac_44_3.all (am_ck 44 6 1 false 7 cX6_rowBy)) = true := by decide +kernel
theorem mk_44 : am_mok2 44 am_44 (yX6_rowBy, cX6_rowBy, 7, some .int, [], 1) := am_mok_of (o := 6) rfl rfl (List.forall_mem_cons.mpr ⟨ck_44_0, List.forall_mem_cons.mpr ⟨ck_44_1, List.forall_mem_cons.mpr ⟨ck_44_2, List.forall_mem_cons.mpr ⟨ck_44_3, List.forall_mem_nil _⟩⟩⟩⟩) rfl (Or.inl rfl)
theorem ck_45_0 : (ac_45_0.all (am_ck 45 7 0 true 1 cX7_init)) = true := by decide +kernel
theorem mk_45 : am_mok2 45 am_45 (yX7_init, cX7_init, 1, none, [], 2) := am_mok_of (o := 7) rfl rfl (List.forall_mem_cons.mpr ⟨ck_45_0, List.forall_mem_nil _⟩) rfl (Or.inl rfl)
theorem ck_46_0 : (ac_46_0.all (am_ck 46 7 0 false 2 cX7_clear)) = true := by decide +kernel
theorem ck_46_1 : (ac_46_1.all (am_ck 46 7 0 false 2 cX7_clear)) = true := by decide +kernel
theorem mk_46 : am_mok2 46 am_46 (yX7_clear, cX7_clear, 2, none, [], 1) := am_mok_of (o := 7) rfl rfl (List.forall_mem_cons.mpr ⟨ck_46_0, List.forall_mem_cons.mpr ⟨ck_46_1, List.forall_mem_nil _⟩⟩) rfl (Or.inl rfl)
theorem ck_47_0 : (ac_47_0.all (am_ck 47 7 0 false 2 cX7_copyFrom)) = true := by decide +kernel
theorem ck_47_1 : (ac_47_1.all (am_ck 47 7 0 false 2 cX7_copyFrom)) = true := by decide +kernel
theorem mk_47 : am_mok2 47 am_47 (yX7_copyFrom, cX7_copyFrom, 2, none, [], 1) := am_mok_of (o := 7) rfl rfl (List.forall_mem_cons.mpr ⟨ck_47_0, List.forall_mem_cons.mpr ⟨ck_47_1, List.forall_mem_nil _⟩⟩) rfl (Or.inl rfl)
theorem ck_48_0 : (ac_48_0.all (am_ck 48 7 5 false 2 cX7_canSpeak)) = true := by decide +kernel
theorem mk_48 : am_mok2 48 am_48 (yX7_canSpeak, cX7_canSpeak, 2, some .boolean, [], 1) := am_mok_of (o := 7) rfl rfl (List.forall_mem_cons.mpr ⟨ck_48_0, List.forall_mem_nil _⟩) rfl (Or.inl rfl)
theorem ck_49_0 : (ac_49_0.all (am_ck 49 7 5 false 2 cX7_isStolen)) = true := by decide +kernel
theorem mk_49 : am_mok2 49 am_49 (yX7_isStolen, cX7_isStolen, 2, some .boolean, [], 1) := am_mok_of (o := 7) rfl rfl (List.forall_mem_cons.mpr ⟨ck_49_0, List.forall_mem_nil _⟩) rfl (Or.inl rfl)
theorem ck_50_0 : (ac_50_0.all (am_ck 50 7 5 false 2 cX7_crackBell)) = true := by decide +kernel
theorem mk_50 : am_mok2 50 am_50 (yX7_crackBell, cX7_crackBell, 2, some .boolean, [], 1) := am_mok_of (o := 7) rfl rfl (List.forall_mem_cons.mpr ⟨ck_50_0, List.forall_mem_nil _⟩) rfl (Or.inl rfl)
theorem ck_51_0 : (ac_51_0.all (am_ck 51 7 5 false 2 cX7_turnGag)) = true := by decide +kernel
theorem mk_51 : am_mok2 51 am_51 (yX7_turnGag, cX7_turnGag, 2, some .boolean, [], 1) := am_mok_of (o := 7) rfl rfl (List.forall_mem_cons.mpr ⟨ck_51_0, List.forall_mem_nil _⟩) rfl (Or.inl rfl)
theorem ck_52_0 : (ac_52_0.all (am_ck 52 7 5 false 2 cX7_takeAway)) = true := by decide +kernel
theorem mk_52 : am_mok2 52 am_52 (yX7_takeAway, cX7_takeAway, 2, some .boolean, [], 1) := am_mok_of (o := 7) rfl rfl (List.forall_mem_cons.mpr ⟨ck_52_0, List.forall_mem_nil _⟩) rfl (Or.inl rfl)
theorem ck_53_0 : (ac_53_0.all (am_ck 53 7 5 false 2 cX7_bringBack)) = true := by decide +kernel
theorem mk_53 : am_mok2 53 am_53 (yX7_bringBack, cX7_bringBack, 2, some .boolean, [], 1) := am_mok_of (o := 7) rfl rfl (List.forall_mem_cons.mpr ⟨ck_53_0, List.forall_mem_nil _⟩) rfl (Or.inl rfl)
theorem ck_54_0 : (ac_54_0.all (am_ck 54 7 5 false 2 cX7_setDamp)) = true := by decide +kernel
theorem mk_54 : am_mok2 54 am_54 (yX7_setDamp, cX7_setDamp, 2, some .boolean, [], 1) := am_mok_of (o := 7) rfl rfl (List.forall_mem_cons.mpr ⟨ck_54_0, List.forall_mem_nil _⟩) rfl (Or.inl rfl)
theorem ck_55_0 : (ac_55_0.all (am_ck 55 7 0 false 2 cX7_passHour)) = true := by decide +kernel
theorem ck_55_1 : (ac_55_1.all (am_ck 55 7 0 false 2 cX7_passHour)) = true := by decide +kernel
theorem mk_55 : am_mok2 55 am_55 (yX7_passHour, cX7_passHour, 2, none, [], 1) := am_mok_of (o := 7) rfl rfl (List.forall_mem_cons.mpr ⟨ck_55_0, List.forall_mem_cons.mpr ⟨ck_55_1, List.forall_mem_nil _⟩⟩) rfl (Or.inl rfl)
theorem ck_56_0 : (ac_56_0.all (am_ck 56 7 5 false 1 cX7_passHourInWork)) = true := by decide +kernel
theorem mk_56 : am_mok2 56 am_56 (yX7_passHourInWork, cX7_passHourInWork, 1, some .boolean, [], 1) := am_mok_of (o := 7) rfl rfl (List.forall_mem_cons.mpr ⟨ck_56_0, List.forall_mem_nil _⟩) rfl (Or.inl rfl)
theorem ck_57_0 : (ac_57_0.all (am_ck 57 7 1 false 4 cX7_temperIn)) = true := by decide +kernel
theorem mk_57 : am_mok2 57 am_57 (yX7_temperIn, cX7_temperIn, 4, some .int, [], 1) := am_mok_of (o := 7) rfl rfl (List.forall_mem_cons.mpr ⟨ck_57_0, List.forall_mem_nil _⟩) rfl (Or.inl rfl)
theorem ck_58_0 : (ac_58_0.all (am_ck 58 7 1 false 3 cX7_temperOfAll)) = true := by decide +kernel
theorem mk_58 : am_mok2 58 am_58 (yX7_temperOfAll, cX7_temperOfAll, 3, some .int, [], 1) := am_mok_of (o := 7) rfl rfl (List.forall_mem_cons.mpr ⟨ck_58_0, List.forall_mem_nil _⟩) rfl (Or.inl rfl)
theorem ck_59_0 : (ac_59_0.all (am_ck 59 7 1 false 3 cX7_pullsOfAll)) = true := by decide +kernel
theorem mk_59 : am_mok2 59 am_59 (yX7_pullsOfAll, cX7_pullsOfAll, 3, some .int, [], 1) := am_mok_of (o := 7) rfl rfl (List.forall_mem_cons.mpr ⟨ck_59_0, List.forall_mem_nil _⟩) rfl (Or.inl rfl)
theorem ck_60_0 : (ac_60_0.all (am_ck 60 7 1 false 5 cX7_moodIn)) = true := by decide +kernel
theorem ck_60_1 : (ac_60_1.all (am_ck 60 7 1 false 5 cX7_moodIn)) = true := by decide +kernel
theorem mk_60 : am_mok2 60 am_60 (yX7_moodIn, cX7_moodIn, 5, some .int, [], 1) := am_mok_of (o := 7) rfl rfl (List.forall_mem_cons.mpr ⟨ck_60_0, List.forall_mem_cons.mpr ⟨ck_60_1, List.forall_mem_nil _⟩⟩) rfl (Or.inl rfl)
theorem ck_61_0 : (ac_61_0.all (am_ck 61 7 1 false 3 cX7_housesWithMood)) = true := by decide +kernel
theorem mk_61 : am_mok2 61 am_61 (yX7_housesWithMood, cX7_housesWithMood, 3, some .int, [], 1) := am_mok_of (o := 7) rfl rfl (List.forall_mem_cons.mpr ⟨ck_61_0, List.forall_mem_nil _⟩) rfl (Or.inl rfl)
theorem ck_62_0 : (ac_62_0.all (am_ck 62 8 0 true 1 cX8_init)) = true := by decide +kernel
theorem mk_62 : am_mok2 62 am_62 (yX8_init, cX8_init, 1, none, [], 2) := am_mok_of (o := 8) rfl rfl (List.forall_mem_cons.mpr ⟨ck_62_0, List.forall_mem_nil _⟩) rfl (Or.inl rfl)
theorem ck_63_0 : (ac_63_0.all (am_ck 63 8 0 false 3 cX8_put)) = true := by decide +kernel
theorem ck_63_1 : (ac_63_1.all (am_ck 63 8 0 false 3 cX8_put)) = true := by decide +kernel
theorem mk_63 : am_mok2 63 am_63 (yX8_put, cX8_put, 3, none, [], 1) := am_mok_of (o := 8) rfl rfl (List.forall_mem_cons.mpr ⟨ck_63_0, List.forall_mem_cons.mpr ⟨ck_63_1, List.forall_mem_nil _⟩⟩) rfl (Or.inl rfl)
theorem ck_64_0 : (ac_64_0.all (am_ck 64 8 0 false 2 cX8_begin)) = true := by decide +kernel
theorem ck_64_1 : (ac_64_1.all (am_ck 64 8 0 false 2 cX8_begin)) = true := by decide +kernel
theorem mk_64 : am_mok2 64 am_64 (yX8_begin, cX8_begin, 2, none, [], 1) := am_mok_of (o := 8) rfl rfl (List.forall_mem_cons.mpr ⟨ck_64_0, List.forall_mem_cons.mpr ⟨ck_64_1, List.forall_mem_nil _⟩⟩) rfl (Or.inl rfl)
theorem ck_65_0 : (ac_65_0.all (am_ck 65 8 0 false 2 cX8_goOn)) = true := by decide +kernel
theorem mk_65 : am_mok2 65 am_65 (yX8_goOn, cX8_goOn, 2, none, [], 1) := am_mok_of (o := 8) rfl rfl (List.forall_mem_cons.mpr ⟨ck_65_0, List.forall_mem_nil _⟩) rfl (Or.inl rfl)
theorem ck_66_0 : (ac_66_0.all (am_ck 66 8 5 false 3 cX8_fail)) = true := by decide +kernel
theorem mk_66 : am_mok2 66 am_66 (yX8_fail, cX8_fail, 3, some .boolean, [], 1) := am_mok_of (o := 8) rfl rfl (List.forall_mem_cons.mpr ⟨ck_66_0, List.forall_mem_nil _⟩) rfl (Or.inl rfl)
theorem ck_67_0 : (ac_67_0.all (am_ck 67 8 1 false 1 cX8_faultAnswer)) = true := by decide +kernel
theorem mk_67 : am_mok2 67 am_67 (yX8_faultAnswer, cX8_faultAnswer, 1, some .int, [], 1) := am_mok_of (o := 8) rfl rfl (List.forall_mem_cons.mpr ⟨ck_67_0, List.forall_mem_nil _⟩) rfl (Or.inl rfl)
theorem ck_68_0 : (ac_68_0.all (am_ck 68 8 5 false 1 cX8_ended)) = true := by decide +kernel
theorem mk_68 : am_mok2 68 am_68 (yX8_ended, cX8_ended, 1, some .boolean, [], 1) := am_mok_of (o := 8) rfl rfl (List.forall_mem_cons.mpr ⟨ck_68_0, List.forall_mem_nil _⟩) rfl (Or.inl rfl)
theorem ck_69_0 : (ac_69_0.all (am_ck 69 8 5 false 2 cX8_sees)) = true := by decide +kernel
theorem mk_69 : am_mok2 69 am_69 (yX8_sees, cX8_sees, 2, some .boolean, [], 1) := am_mok_of (o := 8) rfl rfl (List.forall_mem_cons.mpr ⟨ck_69_0, List.forall_mem_nil _⟩) rfl (Or.inl rfl)
theorem ck_70_0 : (ac_70_0.all (am_ck 70 8 5 false 1 cX8_seesDigit)) = true := by decide +kernel
theorem mk_70 : am_mok2 70 am_70 (yX8_seesDigit, cX8_seesDigit, 1, some .boolean, [], 1) := am_mok_of (o := 8) rfl rfl (List.forall_mem_cons.mpr ⟨ck_70_0, List.forall_mem_nil _⟩) rfl (Or.inl rfl)
theorem ck_71_0 : (ac_71_0.all (am_ck 71 8 5 false 2 cX8_take)) = true := by decide +kernel
theorem mk_71 : am_mok2 71 am_71 (yX8_take, cX8_take, 2, some .boolean, [], 1) := am_mok_of (o := 8) rfl rfl (List.forall_mem_cons.mpr ⟨ck_71_0, List.forall_mem_nil _⟩) rfl (Or.inl rfl)
theorem ck_72_0 : (ac_72_0.all (am_ck 72 8 5 false 2 cX8_must)) = true := by decide +kernel
theorem mk_72 : am_mok2 72 am_72 (yX8_must, cX8_must, 2, some .boolean, [], 1) := am_mok_of (o := 8) rfl rfl (List.forall_mem_cons.mpr ⟨ck_72_0, List.forall_mem_nil _⟩) rfl (Or.inl rfl)
theorem ck_73_0 : (ac_73_0.all (am_ck 73 8 1 false 5 cX8_number)) = true := by decide +kernel
theorem ck_73_1 : (ac_73_1.all (am_ck 73 8 1 false 5 cX8_number)) = true := by decide +kernel
theorem ck_73_2 : (ac_73_2.all (am_ck 73 8 1 false 5 cX8_number)) = true := by decide +kernel
theorem mk_73 : am_mok2 73 am_73 (yX8_number, cX8_number, 5, some .int, [], 1) := am_mok_of (o := 8) rfl rfl (List.forall_mem_cons.mpr ⟨ck_73_0, List.forall_mem_cons.mpr ⟨ck_73_1, List.forall_mem_cons.mpr ⟨ck_73_2, List.forall_mem_nil _⟩⟩⟩) rfl (Or.inl rfl)
theorem ck_74_0 : (ac_74_0.all (am_ck 74 8 5 false 6 cX8_numberInto)) = true := by decide +kernel
theorem mk_74 : am_mok2 74 am_74 (yX8_numberInto, cX8_numberInto, 6, some .boolean, [], 1) := am_mok_of (o := 8) rfl rfl (List.forall_mem_cons.mpr ⟨ck_74_0, List.forall_mem_nil _⟩) rfl (Or.inl rfl)
theorem ck_75_0 : (ac_75_0.all (am_ck 75 8 1 false 6 cX8_word)) = true := by decide +kernel
theorem ck_75_1 : (ac_75_1.all (am_ck 75 8 1 false 6 cX8_word)) = true := by decide +kernel
theorem ck_75_2 : (ac_75_2.all (am_ck 75 8 1 false 6 cX8_word)) = true := by decide +kernel
theorem mk_75 : am_mok2 75 am_75 (yX8_word, cX8_word, 6, some .int, [], 1) := am_mok_of (o := 8) rfl rfl (List.forall_mem_cons.mpr ⟨ck_75_0, List.forall_mem_cons.mpr ⟨ck_75_1, List.forall_mem_cons.mpr ⟨ck_75_2, List.forall_mem_nil _⟩⟩⟩) rfl (Or.inl rfl)
theorem ck_76_0 : (ac_76_0.all (am_ck 76 8 5 false 6 cX8_isWord)) = true := by decide +kernel
theorem ck_76_1 : (ac_76_1.all (am_ck 76 8 5 false 6 cX8_isWord)) = true := by decide +kernel
theorem mk_76 : am_mok2 76 am_76 (yX8_isWord, cX8_isWord, 6, some .boolean, [], 1) := am_mok_of (o := 8) rfl rfl (List.forall_mem_cons.mpr ⟨ck_76_0, List.forall_mem_cons.mpr ⟨ck_76_1, List.forall_mem_nil _⟩⟩) rfl (Or.inl rfl)
theorem ck_77_0 : (ac_77_0.all (am_ck 77 8 5 false 1 cX8_opens)) = true := by decide +kernel
theorem mk_77 : am_mok2 77 am_77 (yX8_opens, cX8_opens, 1, some .boolean, [], 1) := am_mok_of (o := 8) rfl rfl (List.forall_mem_cons.mpr ⟨ck_77_0, List.forall_mem_nil _⟩) rfl (Or.inl rfl)
theorem ck_78_0 : (ac_78_0.all (am_ck 78 8 5 false 1 cX8_closes)) = true := by decide +kernel
theorem mk_78 : am_mok2 78 am_78 (yX8_closes, cX8_closes, 1, some .boolean, [], 1) := am_mok_of (o := 8) rfl rfl (List.forall_mem_cons.mpr ⟨ck_78_0, List.forall_mem_nil _⟩) rfl (Or.inl rfl)
theorem ck_79_0 : (ac_79_0.all (am_ck 79 9 0 true 1 cX9_init)) = true := by decide +kernel
theorem ck_79_1 : (ac_79_1.all (am_ck 79 9 0 true 1 cX9_init)) = true := by decide +kernel
theorem mk_79 : am_mok2 79 am_79 (yX9_init, cX9_init, 1, none, [], 2) := am_mok_of (o := 9) rfl rfl (List.forall_mem_cons.mpr ⟨ck_79_0, List.forall_mem_cons.mpr ⟨ck_79_1, List.forall_mem_nil _⟩⟩) rfl (Or.inl rfl)
theorem mka_1 : mk_all 40 [am_40, am_41, am_42, am_43, am_44, am_45, am_46, am_47, am_48, am_49, am_50, am_51, am_52, am_53, am_54, am_55, am_56, am_57, am_58, am_59, am_60, am_61, am_62, am_63, am_64, am_65, am_66, am_67, am_68, am_69, am_70, am_71, am_72, am_73, am_74, am_75, am_76, am_77, am_78, am_79] mi_l1 := ⟨mk_40, mk_41, mk_42, mk_43, mk_44, mk_45, mk_46, mk_47, mk_48, mk_49, mk_50, mk_51, mk_52, mk_53, mk_54, mk_55, mk_56, mk_57, mk_58, mk_59, mk_60, mk_61, mk_62, mk_63, mk_64, mk_65, mk_66, mk_67, mk_68, mk_69, mk_70, mk_71, mk_72, mk_73, mk_74, mk_75, mk_76, mk_77, mk_78, mk_79, trivial⟩
