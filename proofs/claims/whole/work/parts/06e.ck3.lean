/-! The checks of my code tables, on. -/
theorem ck_120_0 : (ac_120_0.all (am_ck 120 11 1 false 7 cX11_pulls)) = true := by decide +kernel
theorem ck_120_1 : (ac_120_1.all (am_ck 120 11 1 false 7 cX11_pulls)) = true := by decide +kernel
theorem ck_120_2 : (ac_120_2.all (am_ck 120 11 1 false 7 cX11_pulls)) = true := by decide +kernel
theorem ck_120_3 : (ac_120_3.all (am_ck 120 11 1 false 7 cX11_pulls)) = true := by decide +kernel
theorem mk_120 : am_mok2 120 am_120 (yX11_pulls, cX11_pulls, 7, some .int, [], 1) := am_mok_of (o := 11) rfl rfl (List.forall_mem_cons.mpr ⟨ck_120_0, List.forall_mem_cons.mpr ⟨ck_120_1, List.forall_mem_cons.mpr ⟨ck_120_2, List.forall_mem_cons.mpr ⟨ck_120_3, List.forall_mem_nil _⟩⟩⟩⟩) rfl (Or.inl rfl)
theorem ck_121_0 : (ac_121_0.all (am_ck 121 11 1 false 2 cX11_cast)) = true := by decide +kernel
theorem ck_121_1 : (ac_121_1.all (am_ck 121 11 1 false 2 cX11_cast)) = true := by decide +kernel
theorem mk_121 : am_mok2 121 am_121 (yX11_cast, cX11_cast, 2, some .int, [], 1) := am_mok_of (o := 11) rfl rfl (List.forall_mem_cons.mpr ⟨ck_121_0, List.forall_mem_cons.mpr ⟨ck_121_1, List.forall_mem_nil _⟩⟩) rfl (Or.inl rfl)
theorem ck_122_0 : (ac_122_0.all (am_ck 122 11 1 false 2 cX11_ask)) = true := by decide +kernel
theorem ck_122_1 : (ac_122_1.all (am_ck 122 11 1 false 2 cX11_ask)) = true := by decide +kernel
theorem mk_122 : am_mok2 122 am_122 (yX11_ask, cX11_ask, 2, some .int, [], 1) := am_mok_of (o := 11) rfl rfl (List.forall_mem_cons.mpr ⟨ck_122_0, List.forall_mem_cons.mpr ⟨ck_122_1, List.forall_mem_nil _⟩⟩) rfl (Or.inl rfl)
theorem ck_123_0 : (ac_123_0.all (am_ck 123 11 1 false 3 cX11_changes)) = true := by decide +kernel
theorem mk_123 : am_mok2 123 am_123 (yX11_changes, cX11_changes, 3, some .int, [], 1) := am_mok_of (o := 11) rfl rfl (List.forall_mem_cons.mpr ⟨ck_123_0, List.forall_mem_nil _⟩) rfl (Or.inl rfl)
theorem ck_124_0 : (ac_124_0.all (am_ck 124 11 1 false 3 cX11_next)) = true := by decide +kernel
theorem mk_124 : am_mok2 124 am_124 (yX11_next, cX11_next, 3, some .int, [], 1) := am_mok_of (o := 11) rfl rfl (List.forall_mem_cons.mpr ⟨ck_124_0, List.forall_mem_nil _⟩) rfl (Or.inl rfl)
theorem ck_125_0 : (ac_125_0.all (am_ck 125 11 1 false 5 cX11_within)) = true := by decide +kernel
theorem ck_125_1 : (ac_125_1.all (am_ck 125 11 1 false 5 cX11_within)) = true := by decide +kernel
theorem mk_125 : am_mok2 125 am_125 (yX11_within, cX11_within, 5, some .int, [], 1) := am_mok_of (o := 11) rfl rfl (List.forall_mem_cons.mpr ⟨ck_125_0, List.forall_mem_cons.mpr ⟨ck_125_1, List.forall_mem_nil _⟩⟩) rfl (Or.inl rfl)
theorem ck_126_0 : (ac_126_0.all (am_ck 126 11 1 false 4 cX11_place)) = true := by decide +kernel
theorem mk_126 : am_mok2 126 am_126 (yX11_place, cX11_place, 4, some .int, [], 1) := am_mok_of (o := 11) rfl rfl (List.forall_mem_cons.mpr ⟨ck_126_0, List.forall_mem_nil _⟩) rfl (Or.inl rfl)
theorem ck_127_0 : (ac_127_0.all (am_ck 127 11 1 false 9 cX11_ringers)) = true := by decide +kernel
theorem ck_127_1 : (ac_127_1.all (am_ck 127 11 1 false 9 cX11_ringers)) = true := by decide +kernel
theorem ck_127_2 : (ac_127_2.all (am_ck 127 11 1 false 9 cX11_ringers)) = true := by decide +kernel
theorem ck_127_3 : (ac_127_3.all (am_ck 127 11 1 false 9 cX11_ringers)) = true := by decide +kernel
theorem mk_127 : am_mok2 127 am_127 (yX11_ringers, cX11_ringers, 9, some .int, [], 1) := am_mok_of (o := 11) rfl rfl (List.forall_mem_cons.mpr ⟨ck_127_0, List.forall_mem_cons.mpr ⟨ck_127_1, List.forall_mem_cons.mpr ⟨ck_127_2, List.forall_mem_cons.mpr ⟨ck_127_3, List.forall_mem_nil _⟩⟩⟩⟩) rfl (Or.inl rfl)
theorem ck_128_0 : (ac_128_0.all (am_ck 128 11 2 false 10 cX11_sounds)) = true := by decide +kernel
theorem ck_128_1 : (ac_128_1.all (am_ck 128 11 2 false 10 cX11_sounds)) = true := by decide +kernel
theorem ck_128_2 : (ac_128_2.all (am_ck 128 11 2 false 10 cX11_sounds)) = true := by decide +kernel
theorem ck_128_3 : (ac_128_3.all (am_ck 128 11 2 false 10 cX11_sounds)) = true := by decide +kernel
theorem mk_128 : am_mok2 128 am_128 (yX11_sounds, cX11_sounds, 10, some .long, [], 1) := am_mok_of (o := 11) rfl rfl (List.forall_mem_cons.mpr ⟨ck_128_0, List.forall_mem_cons.mpr ⟨ck_128_1, List.forall_mem_cons.mpr ⟨ck_128_2, List.forall_mem_cons.mpr ⟨ck_128_3, List.forall_mem_nil _⟩⟩⟩⟩) rfl (Or.inl rfl)
theorem ck_129_0 : (ac_129_0.all (am_ck 129 11 1 false 4 cX11_metal)) = true := by decide +kernel
theorem ck_129_1 : (ac_129_1.all (am_ck 129 11 1 false 4 cX11_metal)) = true := by decide +kernel
theorem ck_129_2 : (ac_129_2.all (am_ck 129 11 1 false 4 cX11_metal)) = true := by decide +kernel
theorem mk_129 : am_mok2 129 am_129 (yX11_metal, cX11_metal, 4, some .int, [], 1) := am_mok_of (o := 11) rfl rfl (List.forall_mem_cons.mpr ⟨ck_129_0, List.forall_mem_cons.mpr ⟨ck_129_1, List.forall_mem_cons.mpr ⟨ck_129_2, List.forall_mem_nil _⟩⟩⟩) rfl (Or.inl rfl)
theorem ck_130_0 : (ac_130_0.all (am_ck 130 11 1 false 6 cX11_loudest)) = true := by decide +kernel
theorem ck_130_1 : (ac_130_1.all (am_ck 130 11 1 false 6 cX11_loudest)) = true := by decide +kernel
theorem mk_130 : am_mok2 130 am_130 (yX11_loudest, cX11_loudest, 6, some .int, [], 1) := am_mok_of (o := 11) rfl rfl (List.forall_mem_cons.mpr ⟨ck_130_0, List.forall_mem_cons.mpr ⟨ck_130_1, List.forall_mem_nil _⟩⟩) rfl (Or.inl rfl)
theorem ck_131_0 : (ac_131_0.all (am_ck 131 11 1 false 4 cX11_deaf)) = true := by decide +kernel
theorem ck_131_1 : (ac_131_1.all (am_ck 131 11 1 false 4 cX11_deaf)) = true := by decide +kernel
theorem mk_131 : am_mok2 131 am_131 (yX11_deaf, cX11_deaf, 4, some .int, [], 1) := am_mok_of (o := 11) rfl rfl (List.forall_mem_cons.mpr ⟨ck_131_0, List.forall_mem_cons.mpr ⟨ck_131_1, List.forall_mem_nil _⟩⟩) rfl (Or.inl rfl)
theorem ck_132_0 : (ac_132_0.all (am_ck 132 11 1 false 4 cX11_kin)) = true := by decide +kernel
theorem ck_132_1 : (ac_132_1.all (am_ck 132 11 1 false 4 cX11_kin)) = true := by decide +kernel
theorem mk_132 : am_mok2 132 am_132 (yX11_kin, cX11_kin, 4, some .int, [], 1) := am_mok_of (o := 11) rfl rfl (List.forall_mem_cons.mpr ⟨ck_132_0, List.forall_mem_cons.mpr ⟨ck_132_1, List.forall_mem_nil _⟩⟩) rfl (Or.inl rfl)
theorem ck_133_0 : (ac_133_0.all (am_ck 133 11 1 false 5 cX11_century)) = true := by decide +kernel
theorem ck_133_1 : (ac_133_1.all (am_ck 133 11 1 false 5 cX11_century)) = true := by decide +kernel
theorem ck_133_2 : (ac_133_2.all (am_ck 133 11 1 false 5 cX11_century)) = true := by decide +kernel
theorem mk_133 : am_mok2 133 am_133 (yX11_century, cX11_century, 5, some .int, [], 1) := am_mok_of (o := 11) rfl rfl (List.forall_mem_cons.mpr ⟨ck_133_0, List.forall_mem_cons.mpr ⟨ck_133_1, List.forall_mem_cons.mpr ⟨ck_133_2, List.forall_mem_nil _⟩⟩⟩) rfl (Or.inl rfl)
theorem ck_134_0 : (ac_134_0.all (am_ck 134 11 1 false 11 cX11_span)) = true := by decide +kernel
theorem ck_134_1 : (ac_134_1.all (am_ck 134 11 1 false 11 cX11_span)) = true := by decide +kernel
theorem ck_134_2 : (ac_134_2.all (am_ck 134 11 1 false 11 cX11_span)) = true := by decide +kernel
theorem ck_134_3 : (ac_134_3.all (am_ck 134 11 1 false 11 cX11_span)) = true := by decide +kernel
theorem ck_134_4 : (ac_134_4.all (am_ck 134 11 1 false 11 cX11_span)) = true := by decide +kernel
theorem mk_134 : am_mok2 134 am_134 (yX11_span, cX11_span, 11, some .int, [], 1) := am_mok_of (o := 11) rfl rfl (List.forall_mem_cons.mpr ⟨ck_134_0, List.forall_mem_cons.mpr ⟨ck_134_1, List.forall_mem_cons.mpr ⟨ck_134_2, List.forall_mem_cons.mpr ⟨ck_134_3, List.forall_mem_cons.mpr ⟨ck_134_4, List.forall_mem_nil _⟩⟩⟩⟩⟩) rfl (Or.inl rfl)
theorem ck_135_0 : (ac_135_0.all (am_ck 135 11 1 false 1 cX11_image)) = true := by decide +kernel
theorem mk_135 : am_mok2 135 am_135 (yX11_image, cX11_image, 1, some .int, [], 1) := am_mok_of (o := 11) rfl rfl (List.forall_mem_cons.mpr ⟨ck_135_0, List.forall_mem_nil _⟩) rfl (Or.inl rfl)
theorem ck_136_0 : (ac_136_0.all (am_ck 136 11 1 false 1 cX11_restore)) = true := by decide +kernel
theorem ck_136_1 : (ac_136_1.all (am_ck 136 11 1 false 1 cX11_restore)) = true := by decide +kernel
theorem mk_136 : am_mok2 136 am_136 (yX11_restore, cX11_restore, 1, some .int, [], 1) := am_mok_of (o := 11) rfl rfl (List.forall_mem_cons.mpr ⟨ck_136_0, List.forall_mem_cons.mpr ⟨ck_136_1, List.forall_mem_nil _⟩⟩) rfl (Or.inl rfl)
theorem ck_137_0 : (ac_137_0.all (am_ck 137 11 1 false 2 cX11_status)) = true := by decide +kernel
theorem mk_137 : am_mok2 137 am_137 (yX11_status, cX11_status, 2, some .int, [], 1) := am_mok_of (o := 11) rfl rfl (List.forall_mem_cons.mpr ⟨ck_137_0, List.forall_mem_nil _⟩) rfl (Or.inl rfl)
theorem ck_138_0 : (ac_138_0.all (am_ck 138 11 1 false 2 cX11_count)) = true := by decide +kernel
theorem mk_138 : am_mok2 138 am_138 (yX11_count, cX11_count, 2, some .int, [], 1) := am_mok_of (o := 11) rfl rfl (List.forall_mem_cons.mpr ⟨ck_138_0, List.forall_mem_nil _⟩) rfl (Or.inl rfl)
theorem ck_139_0 : (ac_139_0.all (am_ck 139 11 0 false 2 cX11_need)) = true := by decide +kernel
theorem mk_139 : am_mok2 139 am_139 (yX11_need, cX11_need, 2, none, [], 1) := am_mok_of (o := 11) rfl rfl (List.forall_mem_cons.mpr ⟨ck_139_0, List.forall_mem_nil _⟩) rfl (Or.inl rfl)
theorem ck_140_0 : (ac_140_0.all (am_ck 140 11 0 false 3 cX11_needThere)) = true := by decide +kernel
theorem mk_140 : am_mok2 140 am_140 (yX11_needThere, cX11_needThere, 3, none, [], 1) := am_mok_of (o := 11) rfl rfl (List.forall_mem_cons.mpr ⟨ck_140_0, List.forall_mem_nil _⟩) rfl (Or.inl rfl)
theorem ck_141_0 : (ac_141_0.all (am_ck 141 11 0 false 2 cX11_needBell)) = true := by decide +kernel
theorem mk_141 : am_mok2 141 am_141 (yX11_needBell, cX11_needBell, 2, none, [], 1) := am_mok_of (o := 11) rfl rfl (List.forall_mem_cons.mpr ⟨ck_141_0, List.forall_mem_nil _⟩) rfl (Or.inl rfl)
theorem ck_142_0 : (ac_142_0.all (am_ck 142 11 0 false 2 cX11_needHouse)) = true := by decide +kernel
theorem mk_142 : am_mok2 142 am_142 (yX11_needHouse, cX11_needHouse, 2, none, [], 1) := am_mok_of (o := 11) rfl rfl (List.forall_mem_cons.mpr ⟨ck_142_0, List.forall_mem_nil _⟩) rfl (Or.inl rfl)
theorem ck_143_0 : (ac_143_0.all (am_ck 143 11 0 false 2 cX11_needDeed)) = true := by decide +kernel
theorem mk_143 : am_mok2 143 am_143 (yX11_needDeed, cX11_needDeed, 2, none, [], 1) := am_mok_of (o := 11) rfl rfl (List.forall_mem_cons.mpr ⟨ck_143_0, List.forall_mem_nil _⟩) rfl (Or.inl rfl)
theorem ck_144_0 : (ac_144_0.all (am_ck 144 11 0 false 3 cX11_needText)) = true := by decide +kernel
theorem mk_144 : am_mok2 144 am_144 (yX11_needText, cX11_needText, 3, none, [], 1) := am_mok_of (o := 11) rfl rfl (List.forall_mem_cons.mpr ⟨ck_144_0, List.forall_mem_nil _⟩) rfl (Or.inl rfl)
theorem ck_145_0 : (ac_145_0.all (am_ck 145 11 0 false 3 cX11_needRow)) = true := by decide +kernel
theorem mk_145 : am_mok2 145 am_145 (yX11_needRow, cX11_needRow, 3, none, [], 1) := am_mok_of (o := 11) rfl rfl (List.forall_mem_cons.mpr ⟨ck_145_0, List.forall_mem_nil _⟩) rfl (Or.inl rfl)
theorem ck_146_0 : (ac_146_0.all (am_ck 146 11 1 false 4 cX11_gain)) = true := by decide +kernel
theorem mk_146 : am_mok2 146 am_146 (yX11_gain, cX11_gain, 4, some .int, [], 0) := am_mok_of (o := 11) rfl rfl (List.forall_mem_cons.mpr ⟨ck_146_0, List.forall_mem_nil _⟩) rfl (Or.inl rfl)
theorem ck_147_0 : (ac_147_0.all (am_ck 147 11 5 false 4 cX11_rests)) = true := by decide +kernel
theorem ck_147_1 : (ac_147_1.all (am_ck 147 11 5 false 4 cX11_rests)) = true := by decide +kernel
theorem mk_147 : am_mok2 147 am_147 (yX11_rests, cX11_rests, 4, some .boolean, [], 0) := am_mok_of (o := 11) rfl rfl (List.forall_mem_cons.mpr ⟨ck_147_0, List.forall_mem_cons.mpr ⟨ck_147_1, List.forall_mem_nil _⟩⟩) rfl (Or.inl rfl)
theorem ck_148_0 : (ac_148_0.all (am_ck 148 11 2 false 5 cX11_waysToChoose)) = true := by decide +kernel
theorem mk_148 : am_mok2 148 am_148 (yX11_waysToChoose, cX11_waysToChoose, 5, some .long, [], 0) := am_mok_of (o := 11) rfl rfl (List.forall_mem_cons.mpr ⟨ck_148_0, List.forall_mem_nil _⟩) rfl (Or.inl rfl)
theorem ck_149_0 : (ac_149_0.all (am_ck 149 12 0 true 1 cX12_init)) = true := by decide +kernel
theorem ck_149_1 : (ac_149_1.all (am_ck 149 12 0 true 1 cX12_init)) = true := by decide +kernel
theorem ck_149_2 : (ac_149_2.all (am_ck 149 12 0 true 1 cX12_init)) = true := by decide +kernel
theorem ck_149_3 : (ac_149_3.all (am_ck 149 12 0 true 1 cX12_init)) = true := by decide +kernel
theorem ck_149_4 : (ac_149_4.all (am_ck 149 12 0 true 1 cX12_init)) = true := by decide +kernel
theorem ck_149_5 : (ac_149_5.all (am_ck 149 12 0 true 1 cX12_init)) = true := by decide +kernel
theorem mk_149 : am_mok2 149 am_149 (yX12_init, cX12_init, 1, none, [], 2) := am_mok_of (o := 12) rfl rfl (List.forall_mem_cons.mpr ⟨ck_149_0, List.forall_mem_cons.mpr ⟨ck_149_1, List.forall_mem_cons.mpr ⟨ck_149_2, List.forall_mem_cons.mpr ⟨ck_149_3, List.forall_mem_cons.mpr ⟨ck_149_4, List.forall_mem_cons.mpr ⟨ck_149_5, List.forall_mem_nil _⟩⟩⟩⟩⟩⟩) rfl (Or.inl rfl)
theorem ck_150_0 : (ac_150_0.all (am_ck 150 12 0 false 2 cX12_tellsNothing)) = true := by decide +kernel
theorem mk_150 : am_mok2 150 am_150 (yX12_tellsNothing, cX12_tellsNothing, 2, none, [], 1) := am_mok_of (o := 12) rfl rfl (List.forall_mem_cons.mpr ⟨ck_150_0, List.forall_mem_nil _⟩) rfl (Or.inl rfl)
theorem ck_151_0 : (ac_151_0.all (am_ck 151 12 1 false 1 cX12_thrown)) = true := by decide +kernel
theorem mk_151 : am_mok2 151 am_151 (yX12_thrown, cX12_thrown, 1, some .int, [], 1) := am_mok_of (o := 12) rfl rfl (List.forall_mem_cons.mpr ⟨ck_151_0, List.forall_mem_nil _⟩) rfl (Or.inl rfl)
theorem ck_152_0 : (ac_152_0.all (am_ck 152 12 5 false 4 cX12_bad)) = true := by decide +kernel
theorem mk_152 : am_mok2 152 am_152 (yX12_bad, cX12_bad, 4, some .boolean, [], 1) := am_mok_of (o := 12) rfl rfl (List.forall_mem_cons.mpr ⟨ck_152_0, List.forall_mem_nil _⟩) rfl (Or.inl rfl)
theorem ck_153_0 : (ac_153_0.all (am_ck 153 12 5 false 3 cX12_in)) = true := by decide +kernel
theorem mk_153 : am_mok2 153 am_153 (yX12_in, cX12_in, 3, some .boolean, [], 0) := am_mok_of (o := 12) rfl rfl (List.forall_mem_cons.mpr ⟨ck_153_0, List.forall_mem_nil _⟩) rfl (Or.inl rfl)
theorem ck_154_0 : (ac_154_0.all (am_ck 154 12 1 false 2 cX12_less)) = true := by decide +kernel
theorem mk_154 : am_mok2 154 am_154 (yX12_less, cX12_less, 2, some .int, [], 0) := am_mok_of (o := 12) rfl rfl (List.forall_mem_cons.mpr ⟨ck_154_0, List.forall_mem_nil _⟩) rfl (Or.inl rfl)
theorem ck_155_0 : (ac_155_0.all (am_ck 155 12 1 false 2 cX12_more)) = true := by decide +kernel
theorem mk_155 : am_mok2 155 am_155 (yX12_more, cX12_more, 2, some .int, [], 0) := am_mok_of (o := 12) rfl rfl (List.forall_mem_cons.mpr ⟨ck_155_0, List.forall_mem_nil _⟩) rfl (Or.inl rfl)
theorem ck_156_0 : (ac_156_0.all (am_ck 156 12 5 false 2 cX12_has)) = true := by decide +kernel
theorem mk_156 : am_mok2 156 am_156 (yX12_has, cX12_has, 2, some .boolean, [], 0) := am_mok_of (o := 12) rfl rfl (List.forall_mem_cons.mpr ⟨ck_156_0, List.forall_mem_nil _⟩) rfl (Or.inl rfl)
theorem ck_157_0 : (ac_157_0.all (am_ck 157 12 1 false 8 cX12_feed)) = true := by decide +kernel
theorem ck_157_1 : (ac_157_1.all (am_ck 157 12 1 false 8 cX12_feed)) = true := by decide +kernel
theorem ck_157_2 : (ac_157_2.all (am_ck 157 12 1 false 8 cX12_feed)) = true := by decide +kernel
theorem mk_157 : am_mok2 157 am_157 (yX12_feed, cX12_feed, 8, some .int, [], 1) := am_mok_of (o := 12) rfl rfl (List.forall_mem_cons.mpr ⟨ck_157_0, List.forall_mem_cons.mpr ⟨ck_157_1, List.forall_mem_cons.mpr ⟨ck_157_2, List.forall_mem_nil _⟩⟩⟩) rfl (Or.inl rfl)
theorem ck_158_0 : (ac_158_0.all (am_ck 158 12 1 false 2 cX12_byteAt)) = true := by decide +kernel
theorem mk_158 : am_mok2 158 am_158 (yX12_byteAt, cX12_byteAt, 2, some .int, [], 1) := am_mok_of (o := 12) rfl rfl (List.forall_mem_cons.mpr ⟨ck_158_0, List.forall_mem_nil _⟩) rfl (Or.inl rfl)
theorem ck_159_0 : (ac_159_0.all (am_ck 159 12 0 false 1 cX12_blanks)) = true := by decide +kernel
theorem mk_159 : am_mok2 159 am_159 (yX12_blanks, cX12_blanks, 1, none, [], 1) := am_mok_of (o := 12) rfl rfl (List.forall_mem_cons.mpr ⟨ck_159_0, List.forall_mem_nil _⟩) rfl (Or.inl rfl)
theorem mka_3 : mk_all 120 [am_120, am_121, am_122, am_123, am_124, am_125, am_126, am_127, am_128, am_129, am_130, am_131, am_132, am_133, am_134, am_135, am_136, am_137, am_138, am_139, am_140, am_141, am_142, am_143, am_144, am_145, am_146, am_147, am_148, am_149, am_150, am_151, am_152, am_153, am_154, am_155, am_156, am_157, am_158, am_159] mi_l3 := ⟨mk_120, mk_121, mk_122, mk_123, mk_124, mk_125, mk_126, mk_127, mk_128, mk_129, mk_130, mk_131, mk_132, mk_133, mk_134, mk_135, mk_136, mk_137, mk_138, mk_139, mk_140, mk_141, mk_142, mk_143, mk_144, mk_145, mk_146, mk_147, mk_148, mk_149, mk_150, mk_151, mk_152, mk_153, mk_154, mk_155, mk_156, mk_157, mk_158, mk_159, trivial⟩
