/-! The checks of my code tables, on. -/
theorem ck_80_0 : (ac_80_0.all (am_ck 80 9 0 false 2 cX9_takeDistrict)) = true := by decide +kernel
theorem mk_80 : am_mok2 80 am_80 (yX9_takeDistrict, cX9_takeDistrict, 2, none, [], 1) := am_mok_of (o := 9) rfl rfl (List.forall_mem_cons.mpr ⟨ck_80_0, List.forall_mem_nil _⟩) rfl (Or.inl rfl)
theorem ck_81_0 : (ac_81_0.all (am_ck 81 9 0 false 2 cX9_takeLaw)) = true := by decide +kernel
theorem mk_81 : am_mok2 81 am_81 (yX9_takeLaw, cX9_takeLaw, 2, none, [], 1) := am_mok_of (o := 9) rfl rfl (List.forall_mem_cons.mpr ⟨ck_81_0, List.forall_mem_nil _⟩) rfl (Or.inl rfl)
theorem ck_82_0 : (ac_82_0.all (am_ck 82 9 1 false 4 cX9_reach)) = true := by decide +kernel
theorem ck_82_1 : (ac_82_1.all (am_ck 82 9 1 false 4 cX9_reach)) = true := by decide +kernel
theorem mk_82 : am_mok2 82 am_82 (yX9_reach, cX9_reach, 4, some .int, [], 1) := am_mok_of (o := 9) rfl rfl (List.forall_mem_cons.mpr ⟨ck_82_0, List.forall_mem_cons.mpr ⟨ck_82_1, List.forall_mem_nil _⟩⟩) rfl (Or.inl rfl)
theorem ck_83_0 : (ac_83_0.all (am_ck 83 9 1 false 5 cX9_reachOfUnknown)) = true := by decide +kernel
theorem ck_83_1 : (ac_83_1.all (am_ck 83 9 1 false 5 cX9_reachOfUnknown)) = true := by decide +kernel
theorem mk_83 : am_mok2 83 am_83 (yX9_reachOfUnknown, cX9_reachOfUnknown, 5, some .int, [], 1) := am_mok_of (o := 9) rfl rfl (List.forall_mem_cons.mpr ⟨ck_83_0, List.forall_mem_cons.mpr ⟨ck_83_1, List.forall_mem_nil _⟩⟩) rfl (Or.inl rfl)
theorem ck_84_0 : (ac_84_0.all (am_ck 84 9 0 false 4 cX9_knowHouse)) = true := by decide +kernel
theorem ck_84_1 : (ac_84_1.all (am_ck 84 9 0 false 4 cX9_knowHouse)) = true := by decide +kernel
theorem mk_84 : am_mok2 84 am_84 (yX9_knowHouse, cX9_knowHouse, 4, none, [], 1) := am_mok_of (o := 9) rfl rfl (List.forall_mem_cons.mpr ⟨ck_84_0, List.forall_mem_cons.mpr ⟨ck_84_1, List.forall_mem_nil _⟩⟩) rfl (Or.inl rfl)
theorem ck_85_0 : (ac_85_0.all (am_ck 85 9 5 false 6 cX9_pullBell)) = true := by decide +kernel
theorem ck_85_1 : (ac_85_1.all (am_ck 85 9 5 false 6 cX9_pullBell)) = true := by decide +kernel
theorem ck_85_2 : (ac_85_2.all (am_ck 85 9 5 false 6 cX9_pullBell)) = true := by decide +kernel
theorem mk_85 : am_mok2 85 am_85 (yX9_pullBell, cX9_pullBell, 6, some .boolean, [], 1) := am_mok_of (o := 9) rfl rfl (List.forall_mem_cons.mpr ⟨ck_85_0, List.forall_mem_cons.mpr ⟨ck_85_1, List.forall_mem_cons.mpr ⟨ck_85_2, List.forall_mem_nil _⟩⟩⟩) rfl (Or.inl rfl)
theorem ck_86_0 : (ac_86_0.all (am_ck 86 9 5 false 4 cX9_doStep)) = true := by decide +kernel
theorem ck_86_1 : (ac_86_1.all (am_ck 86 9 5 false 4 cX9_doStep)) = true := by decide +kernel
theorem mk_86 : am_mok2 86 am_86 (yX9_doStep, cX9_doStep, 4, some .boolean, [], 1) := am_mok_of (o := 9) rfl rfl (List.forall_mem_cons.mpr ⟨ck_86_0, List.forall_mem_cons.mpr ⟨ck_86_1, List.forall_mem_nil _⟩⟩) rfl (Or.inl rfl)
theorem ck_87_0 : (ac_87_0.all (am_ck 87 9 1 false 2 cX9_speaking)) = true := by decide +kernel
theorem mk_87 : am_mok2 87 am_87 (yX9_speaking, cX9_speaking, 2, some .int, [], 1) := am_mok_of (o := 9) rfl rfl (List.forall_mem_cons.mpr ⟨ck_87_0, List.forall_mem_nil _⟩) rfl (Or.inl rfl)
theorem ck_88_0 : (ac_88_0.all (am_ck 88 9 1 false 5 cX9_deedsDone)) = true := by decide +kernel
theorem ck_88_1 : (ac_88_1.all (am_ck 88 9 1 false 5 cX9_deedsDone)) = true := by decide +kernel
theorem mk_88 : am_mok2 88 am_88 (yX9_deedsDone, cX9_deedsDone, 5, some .int, [], 1) := am_mok_of (o := 9) rfl rfl (List.forall_mem_cons.mpr ⟨ck_88_0, List.forall_mem_cons.mpr ⟨ck_88_1, List.forall_mem_nil _⟩⟩) rfl (Or.inl rfl)
theorem ck_89_0 : (ac_89_0.all (am_ck 89 9 1 false 8 cX9_fewestHeard)) = true := by decide +kernel
theorem ck_89_1 : (ac_89_1.all (am_ck 89 9 1 false 8 cX9_fewestHeard)) = true := by decide +kernel
theorem mk_89 : am_mok2 89 am_89 (yX9_fewestHeard, cX9_fewestHeard, 8, some .int, [], 1) := am_mok_of (o := 9) rfl rfl (List.forall_mem_cons.mpr ⟨ck_89_0, List.forall_mem_cons.mpr ⟨ck_89_1, List.forall_mem_nil _⟩⟩) rfl (Or.inl rfl)
theorem ck_90_0 : (ac_90_0.all (am_ck 90 9 1 false 6 cX9_heardTogether)) = true := by decide +kernel
theorem ck_90_1 : (ac_90_1.all (am_ck 90 9 1 false 6 cX9_heardTogether)) = true := by decide +kernel
theorem mk_90 : am_mok2 90 am_90 (yX9_heardTogether, cX9_heardTogether, 6, some .int, [], 1) := am_mok_of (o := 9) rfl rfl (List.forall_mem_cons.mpr ⟨ck_90_0, List.forall_mem_cons.mpr ⟨ck_90_1, List.forall_mem_nil _⟩⟩) rfl (Or.inl rfl)
theorem ck_91_0 : (ac_91_0.all (am_ck 91 9 1 false 6 cX9_pullsFor)) = true := by decide +kernel
theorem ck_91_1 : (ac_91_1.all (am_ck 91 9 1 false 6 cX9_pullsFor)) = true := by decide +kernel
theorem mk_91 : am_mok2 91 am_91 (yX9_pullsFor, cX9_pullsFor, 6, some .int, [], 1) := am_mok_of (o := 9) rfl rfl (List.forall_mem_cons.mpr ⟨ck_91_0, List.forall_mem_cons.mpr ⟨ck_91_1, List.forall_mem_nil _⟩⟩) rfl (Or.inl rfl)
theorem ck_92_0 : (ac_92_0.all (am_ck 92 9 1 false 6 cX9_level)) = true := by decide +kernel
theorem ck_92_1 : (ac_92_1.all (am_ck 92 9 1 false 6 cX9_level)) = true := by decide +kernel
theorem mk_92 : am_mok2 92 am_92 (yX9_level, cX9_level, 6, some .int, [], 1) := am_mok_of (o := 9) rfl rfl (List.forall_mem_cons.mpr ⟨ck_92_0, List.forall_mem_cons.mpr ⟨ck_92_1, List.forall_mem_nil _⟩⟩) rfl (Or.inl rfl)
theorem ck_93_0 : (ac_93_0.all (am_ck 93 10 0 true 1 cX10_init)) = true := by decide +kernel
theorem mk_93 : am_mok2 93 am_93 (yX10_init, cX10_init, 1, none, [], 2) := am_mok_of (o := 10) rfl rfl (List.forall_mem_cons.mpr ⟨ck_93_0, List.forall_mem_nil _⟩) rfl (Or.inl rfl)
theorem ck_94_0 : (ac_94_0.all (am_ck 94 10 5 false 3 cX10_read)) = true := by decide +kernel
theorem mk_94 : am_mok2 94 am_94 (yX10_read, cX10_read, 3, some .boolean, [], 1) := am_mok_of (o := 10) rfl rfl (List.forall_mem_cons.mpr ⟨ck_94_0, List.forall_mem_nil _⟩) rfl (Or.inl rfl)
theorem ck_95_0 : (ac_95_0.all (am_ck 95 10 5 false 5 cX10_readSteps)) = true := by decide +kernel
theorem ck_95_1 : (ac_95_1.all (am_ck 95 10 5 false 5 cX10_readSteps)) = true := by decide +kernel
theorem mk_95 : am_mok2 95 am_95 (yX10_readSteps, cX10_readSteps, 5, some .boolean, [], 1) := am_mok_of (o := 10) rfl rfl (List.forall_mem_cons.mpr ⟨ck_95_0, List.forall_mem_cons.mpr ⟨ck_95_1, List.forall_mem_nil _⟩⟩) rfl (Or.inl rfl)
theorem ck_96_0 : (ac_96_0.all (am_ck 96 10 5 false 5 cX10_readStep)) = true := by decide +kernel
theorem ck_96_1 : (ac_96_1.all (am_ck 96 10 5 false 5 cX10_readStep)) = true := by decide +kernel
theorem ck_96_2 : (ac_96_2.all (am_ck 96 10 5 false 5 cX10_readStep)) = true := by decide +kernel
theorem mk_96 : am_mok2 96 am_96 (yX10_readStep, cX10_readStep, 5, some .boolean, [], 1) := am_mok_of (o := 10) rfl rfl (List.forall_mem_cons.mpr ⟨ck_96_0, List.forall_mem_cons.mpr ⟨ck_96_1, List.forall_mem_cons.mpr ⟨ck_96_2, List.forall_mem_nil _⟩⟩⟩) rfl (Or.inl rfl)
theorem ck_97_0 : (ac_97_0.all (am_ck 97 10 5 false 4 cX10_readAgain)) = true := by decide +kernel
theorem ck_97_1 : (ac_97_1.all (am_ck 97 10 5 false 4 cX10_readAgain)) = true := by decide +kernel
theorem mk_97 : am_mok2 97 am_97 (yX10_readAgain, cX10_readAgain, 4, some .boolean, [], 1) := am_mok_of (o := 10) rfl rfl (List.forall_mem_cons.mpr ⟨ck_97_0, List.forall_mem_cons.mpr ⟨ck_97_1, List.forall_mem_nil _⟩⟩) rfl (Or.inl rfl)
theorem ck_98_0 : (ac_98_0.all (am_ck 98 10 0 false 1 cX10_start)) = true := by decide +kernel
theorem mk_98 : am_mok2 98 am_98 (yX10_start, cX10_start, 1, none, [], 1) := am_mok_of (o := 10) rfl rfl (List.forall_mem_cons.mpr ⟨ck_98_0, List.forall_mem_nil _⟩) rfl (Or.inl rfl)
theorem ck_99_0 : (ac_99_0.all (am_ck 99 10 0 false 7 cX10_run)) = true := by decide +kernel
theorem ck_99_1 : (ac_99_1.all (am_ck 99 10 0 false 7 cX10_run)) = true := by decide +kernel
theorem ck_99_2 : (ac_99_2.all (am_ck 99 10 0 false 7 cX10_run)) = true := by decide +kernel
theorem ck_99_3 : (ac_99_3.all (am_ck 99 10 0 false 7 cX10_run)) = true := by decide +kernel
theorem mk_99 : am_mok2 99 am_99 (yX10_run, cX10_run, 7, none, [], 1) := am_mok_of (o := 10) rfl rfl (List.forall_mem_cons.mpr ⟨ck_99_0, List.forall_mem_cons.mpr ⟨ck_99_1, List.forall_mem_cons.mpr ⟨ck_99_2, List.forall_mem_cons.mpr ⟨ck_99_3, List.forall_mem_nil _⟩⟩⟩⟩) rfl (Or.inl rfl)
theorem ck_100_0 : (ac_100_0.all (am_ck 100 11 0 true 2 cX11_init)) = true := by decide +kernel
theorem ck_100_1 : (ac_100_1.all (am_ck 100 11 0 true 2 cX11_init)) = true := by decide +kernel
theorem ck_100_2 : (ac_100_2.all (am_ck 100 11 0 true 2 cX11_init)) = true := by decide +kernel
theorem mk_100 : am_mok2 100 am_100 (yX11_init, cX11_init, 2, none, [], 2) := am_mok_of (o := 11) rfl rfl (List.forall_mem_cons.mpr ⟨ck_100_0, List.forall_mem_cons.mpr ⟨ck_100_1, List.forall_mem_cons.mpr ⟨ck_100_2, List.forall_mem_nil _⟩⟩⟩) rfl (Or.inl rfl)
theorem ck_101_0 : (ac_101_0.all (am_ck 101 11 1 false 6 cX11_feed)) = true := by decide +kernel
theorem ck_101_1 : (ac_101_1.all (am_ck 101 11 1 false 6 cX11_feed)) = true := by decide +kernel
theorem mk_101 : am_mok2 101 am_101 (yX11_feed, cX11_feed, 6, some .int, [], 1) := am_mok_of (o := 11) rfl rfl (List.forall_mem_cons.mpr ⟨ck_101_0, List.forall_mem_cons.mpr ⟨ck_101_1, List.forall_mem_nil _⟩⟩) rfl (Or.inl rfl)
theorem ck_102_0 : (ac_102_0.all (am_ck 102 11 1 false 2 cX11_district)) = true := by decide +kernel
theorem ck_102_1 : (ac_102_1.all (am_ck 102 11 1 false 2 cX11_district)) = true := by decide +kernel
theorem mk_102 : am_mok2 102 am_102 (yX11_district, cX11_district, 2, some .int, [], 1) := am_mok_of (o := 11) rfl rfl (List.forall_mem_cons.mpr ⟨ck_102_0, List.forall_mem_cons.mpr ⟨ck_102_1, List.forall_mem_nil _⟩⟩) rfl (Or.inl rfl)
theorem ck_103_0 : (ac_103_0.all (am_ck 103 11 1 false 2 cX11_law)) = true := by decide +kernel
theorem mk_103 : am_mok2 103 am_103 (yX11_law, cX11_law, 2, some .int, [], 1) := am_mok_of (o := 11) rfl rfl (List.forall_mem_cons.mpr ⟨ck_103_0, List.forall_mem_nil _⟩) rfl (Or.inl rfl)
theorem ck_104_0 : (ac_104_0.all (am_ck 104 11 1 false 2 cX11_work)) = true := by decide +kernel
theorem ck_104_1 : (ac_104_1.all (am_ck 104 11 1 false 2 cX11_work)) = true := by decide +kernel
theorem ck_104_2 : (ac_104_2.all (am_ck 104 11 1 false 2 cX11_work)) = true := by decide +kernel
theorem mk_104 : am_mok2 104 am_104 (yX11_work, cX11_work, 2, some .int, [], 1) := am_mok_of (o := 11) rfl rfl (List.forall_mem_cons.mpr ⟨ck_104_0, List.forall_mem_cons.mpr ⟨ck_104_1, List.forall_mem_cons.mpr ⟨ck_104_2, List.forall_mem_nil _⟩⟩⟩) rfl (Or.inl rfl)
theorem ck_105_0 : (ac_105_0.all (am_ck 105 11 1 false 2 cX11_book)) = true := by decide +kernel
theorem ck_105_1 : (ac_105_1.all (am_ck 105 11 1 false 2 cX11_book)) = true := by decide +kernel
theorem mk_105 : am_mok2 105 am_105 (yX11_book, cX11_book, 2, some .int, [], 1) := am_mok_of (o := 11) rfl rfl (List.forall_mem_cons.mpr ⟨ck_105_0, List.forall_mem_cons.mpr ⟨ck_105_1, List.forall_mem_nil _⟩⟩) rfl (Or.inl rfl)
theorem ck_106_0 : (ac_106_0.all (am_ck 106 11 1 false 1 cX11_fault)) = true := by decide +kernel
theorem mk_106 : am_mok2 106 am_106 (yX11_fault, cX11_fault, 1, some .int, [], 1) := am_mok_of (o := 11) rfl rfl (List.forall_mem_cons.mpr ⟨ck_106_0, List.forall_mem_nil _⟩) rfl (Or.inl rfl)
theorem ck_107_0 : (ac_107_0.all (am_ck 107 11 1 false 1 cX11_undo)) = true := by decide +kernel
theorem mk_107 : am_mok2 107 am_107 (yX11_undo, cX11_undo, 1, some .int, [], 1) := am_mok_of (o := 11) rfl rfl (List.forall_mem_cons.mpr ⟨ck_107_0, List.forall_mem_nil _⟩) rfl (Or.inl rfl)
theorem ck_108_0 : (ac_108_0.all (am_ck 108 11 1 false 2 cX11_told)) = true := by decide +kernel
theorem ck_108_1 : (ac_108_1.all (am_ck 108 11 1 false 2 cX11_told)) = true := by decide +kernel
theorem ck_108_2 : (ac_108_2.all (am_ck 108 11 1 false 2 cX11_told)) = true := by decide +kernel
theorem ck_108_3 : (ac_108_3.all (am_ck 108 11 1 false 2 cX11_told)) = true := by decide +kernel
theorem mk_108 : am_mok2 108 am_108 (yX11_told, cX11_told, 2, some .int, [], 1) := am_mok_of (o := 11) rfl rfl (List.forall_mem_cons.mpr ⟨ck_108_0, List.forall_mem_cons.mpr ⟨ck_108_1, List.forall_mem_cons.mpr ⟨ck_108_2, List.forall_mem_cons.mpr ⟨ck_108_3, List.forall_mem_nil _⟩⟩⟩⟩) rfl (Or.inl rfl)
theorem ck_109_0 : (ac_109_0.all (am_ck 109 11 1 false 3 cX11_bell)) = true := by decide +kernel
theorem ck_109_1 : (ac_109_1.all (am_ck 109 11 1 false 3 cX11_bell)) = true := by decide +kernel
theorem ck_109_2 : (ac_109_2.all (am_ck 109 11 1 false 3 cX11_bell)) = true := by decide +kernel
theorem mk_109 : am_mok2 109 am_109 (yX11_bell, cX11_bell, 3, some .int, [], 1) := am_mok_of (o := 11) rfl rfl (List.forall_mem_cons.mpr ⟨ck_109_0, List.forall_mem_cons.mpr ⟨ck_109_1, List.forall_mem_cons.mpr ⟨ck_109_2, List.forall_mem_nil _⟩⟩⟩) rfl (Or.inl rfl)
theorem ck_110_0 : (ac_110_0.all (am_ck 110 11 1 false 3 cX11_house)) = true := by decide +kernel
theorem ck_110_1 : (ac_110_1.all (am_ck 110 11 1 false 3 cX11_house)) = true := by decide +kernel
theorem mk_110 : am_mok2 110 am_110 (yX11_house, cX11_house, 3, some .int, [], 1) := am_mok_of (o := 11) rfl rfl (List.forall_mem_cons.mpr ⟨ck_110_0, List.forall_mem_cons.mpr ⟨ck_110_1, List.forall_mem_nil _⟩⟩) rfl (Or.inl rfl)
theorem ck_111_0 : (ac_111_0.all (am_ck 111 11 1 false 3 cX11_deed)) = true := by decide +kernel
theorem ck_111_1 : (ac_111_1.all (am_ck 111 11 1 false 3 cX11_deed)) = true := by decide +kernel
theorem mk_111 : am_mok2 111 am_111 (yX11_deed, cX11_deed, 3, some .int, [], 1) := am_mok_of (o := 11) rfl rfl (List.forall_mem_cons.mpr ⟨ck_111_0, List.forall_mem_cons.mpr ⟨ck_111_1, List.forall_mem_nil _⟩⟩) rfl (Or.inl rfl)
theorem ck_112_0 : (ac_112_0.all (am_ck 112 11 1 false 3 cX11_temper)) = true := by decide +kernel
theorem mk_112 : am_mok2 112 am_112 (yX11_temper, cX11_temper, 3, some .int, [], 1) := am_mok_of (o := 11) rfl rfl (List.forall_mem_cons.mpr ⟨ck_112_0, List.forall_mem_nil _⟩) rfl (Or.inl rfl)
theorem ck_113_0 : (ac_113_0.all (am_ck 113 11 1 false 3 cX11_heard)) = true := by decide +kernel
theorem mk_113 : am_mok2 113 am_113 (yX11_heard, cX11_heard, 3, some .int, [], 1) := am_mok_of (o := 11) rfl rfl (List.forall_mem_cons.mpr ⟨ck_113_0, List.forall_mem_nil _⟩) rfl (Or.inl rfl)
theorem ck_114_0 : (ac_114_0.all (am_ck 114 11 1 false 11 cX11_would)) = true := by decide +kernel
theorem ck_114_1 : (ac_114_1.all (am_ck 114 11 1 false 11 cX11_would)) = true := by decide +kernel
theorem ck_114_2 : (ac_114_2.all (am_ck 114 11 1 false 11 cX11_would)) = true := by decide +kernel
theorem ck_114_3 : (ac_114_3.all (am_ck 114 11 1 false 11 cX11_would)) = true := by decide +kernel
theorem ck_114_4 : (ac_114_4.all (am_ck 114 11 1 false 11 cX11_would)) = true := by decide +kernel
theorem ck_114_5 : (ac_114_5.all (am_ck 114 11 1 false 11 cX11_would)) = true := by decide +kernel
theorem mk_114 : am_mok2 114 am_114 (yX11_would, cX11_would, 11, some .int, [], 1) := am_mok_of (o := 11) rfl rfl (List.forall_mem_cons.mpr ⟨ck_114_0, List.forall_mem_cons.mpr ⟨ck_114_1, List.forall_mem_cons.mpr ⟨ck_114_2, List.forall_mem_cons.mpr ⟨ck_114_3, List.forall_mem_cons.mpr ⟨ck_114_4, List.forall_mem_cons.mpr ⟨ck_114_5, List.forall_mem_nil _⟩⟩⟩⟩⟩⟩) rfl (Or.inl rfl)
theorem ck_115_0 : (ac_115_0.all (am_ck 115 11 1 false 4 cX11_ahead)) = true := by decide +kernel
theorem ck_115_1 : (ac_115_1.all (am_ck 115 11 1 false 4 cX11_ahead)) = true := by decide +kernel
theorem ck_115_2 : (ac_115_2.all (am_ck 115 11 1 false 4 cX11_ahead)) = true := by decide +kernel
theorem mk_115 : am_mok2 115 am_115 (yX11_ahead, cX11_ahead, 4, some .int, [], 1) := am_mok_of (o := 11) rfl rfl (List.forall_mem_cons.mpr ⟨ck_115_0, List.forall_mem_cons.mpr ⟨ck_115_1, List.forall_mem_cons.mpr ⟨ck_115_2, List.forall_mem_nil _⟩⟩⟩) rfl (Or.inl rfl)
theorem ck_116_0 : (ac_116_0.all (am_ck 116 11 1 false 3 cX11_sleeps)) = true := by decide +kernel
theorem ck_116_1 : (ac_116_1.all (am_ck 116 11 1 false 3 cX11_sleeps)) = true := by decide +kernel
theorem mk_116 : am_mok2 116 am_116 (yX11_sleeps, cX11_sleeps, 3, some .int, [], 1) := am_mok_of (o := 11) rfl rfl (List.forall_mem_cons.mpr ⟨ck_116_0, List.forall_mem_cons.mpr ⟨ck_116_1, List.forall_mem_nil _⟩⟩) rfl (Or.inl rfl)
theorem ck_117_0 : (ac_117_0.all (am_ck 117 11 1 false 3 cX11_rouse)) = true := by decide +kernel
theorem mk_117 : am_mok2 117 am_117 (yX11_rouse, cX11_rouse, 3, some .int, [], 1) := am_mok_of (o := 11) rfl rfl (List.forall_mem_cons.mpr ⟨ck_117_0, List.forall_mem_nil _⟩) rfl (Or.inl rfl)
theorem ck_118_0 : (ac_118_0.all (am_ck 118 11 1 false 1 cX11_suit)) = true := by decide +kernel
theorem mk_118 : am_mok2 118 am_118 (yX11_suit, cX11_suit, 1, some .int, [], 1) := am_mok_of (o := 11) rfl rfl (List.forall_mem_cons.mpr ⟨ck_118_0, List.forall_mem_nil _⟩) rfl (Or.inl rfl)
theorem ck_119_0 : (ac_119_0.all (am_ck 119 11 1 false 2 cX11_suited)) = true := by decide +kernel
theorem mk_119 : am_mok2 119 am_119 (yX11_suited, cX11_suited, 2, some .int, [], 1) := am_mok_of (o := 11) rfl rfl (List.forall_mem_cons.mpr ⟨ck_119_0, List.forall_mem_nil _⟩) rfl (Or.inl rfl)
theorem mka_2 : mk_all 80 [am_80, am_81, am_82, am_83, am_84, am_85, am_86, am_87, am_88, am_89, am_90, am_91, am_92, am_93, am_94, am_95, am_96, am_97, am_98, am_99, am_100, am_101, am_102, am_103, am_104, am_105, am_106, am_107, am_108, am_109, am_110, am_111, am_112, am_113, am_114, am_115, am_116, am_117, am_118, am_119] mi_l2 := ⟨mk_80, mk_81, mk_82, mk_83, mk_84, mk_85, mk_86, mk_87, mk_88, mk_89, mk_90, mk_91, mk_92, mk_93, mk_94, mk_95, mk_96, mk_97, mk_98, mk_99, mk_100, mk_101, mk_102, mk_103, mk_104, mk_105, mk_106, mk_107, mk_108, mk_109, mk_110, mk_111, mk_112, mk_113, mk_114, mk_115, mk_116, mk_117, mk_118, mk_119, trivial⟩
