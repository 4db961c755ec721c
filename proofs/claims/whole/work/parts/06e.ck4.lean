/-! The checks of my code tables, on. -/
theorem ck_160_0 : (ac_160_0.all (am_ck 160 12 0 false 3 cX12_wrong)) = true := by decide +kernel
theorem mk_160 : am_mok2 160 am_160 (yX12_wrong, cX12_wrong, 3, none, [], 1) := am_mok_of (o := 12) rfl rfl (List.forall_mem_cons.mpr ⟨ck_160_0, List.forall_mem_nil _⟩) rfl (Or.inl rfl)
theorem ck_161_0 : (ac_161_0.all (am_ck 161 12 5 false 1 cX12_isDigit)) = true := by decide +kernel
theorem mk_161 : am_mok2 161 am_161 (yX12_isDigit, cX12_isDigit, 1, some .boolean, [], 0) := am_mok_of (o := 12) rfl rfl (List.forall_mem_cons.mpr ⟨ck_161_0, List.forall_mem_nil _⟩) rfl (Or.inl rfl)
theorem ck_162_0 : (ac_162_0.all (am_ck 162 12 5 false 1 cX12_isSmall)) = true := by decide +kernel
theorem mk_162 : am_mok2 162 am_162 (yX12_isSmall, cX12_isSmall, 1, some .boolean, [], 0) := am_mok_of (o := 12) rfl rfl (List.forall_mem_cons.mpr ⟨ck_162_0, List.forall_mem_nil _⟩) rfl (Or.inl rfl)
theorem ck_163_0 : (ac_163_0.all (am_ck 163 12 1 false 5 cX12_number)) = true := by decide +kernel
theorem ck_163_1 : (ac_163_1.all (am_ck 163 12 1 false 5 cX12_number)) = true := by decide +kernel
theorem ck_163_2 : (ac_163_2.all (am_ck 163 12 1 false 5 cX12_number)) = true := by decide +kernel
theorem mk_163 : am_mok2 163 am_163 (yX12_number, cX12_number, 5, some .int, [], 1) := am_mok_of (o := 12) rfl rfl (List.forall_mem_cons.mpr ⟨ck_163_0, List.forall_mem_cons.mpr ⟨ck_163_1, List.forall_mem_cons.mpr ⟨ck_163_2, List.forall_mem_nil _⟩⟩⟩) rfl (Or.inl rfl)
theorem ck_164_0 : (ac_164_0.all (am_ck 164 12 1 false 3 cX12_wordHere)) = true := by decide +kernel
theorem ck_164_1 : (ac_164_1.all (am_ck 164 12 1 false 3 cX12_wordHere)) = true := by decide +kernel
theorem mk_164 : am_mok2 164 am_164 (yX12_wordHere, cX12_wordHere, 3, some .int, [], 1) := am_mok_of (o := 12) rfl rfl (List.forall_mem_cons.mpr ⟨ck_164_0, List.forall_mem_cons.mpr ⟨ck_164_1, List.forall_mem_nil _⟩⟩) rfl (Or.inl rfl)
theorem ck_165_0 : (ac_165_0.all (am_ck 165 12 1 false 7 cX12_six)) = true := by decide +kernel
theorem ck_165_1 : (ac_165_1.all (am_ck 165 12 1 false 7 cX12_six)) = true := by decide +kernel
theorem mk_165 : am_mok2 165 am_165 (yX12_six, cX12_six, 7, some .int, [], 0) := am_mok_of (o := 12) rfl rfl (List.forall_mem_cons.mpr ⟨ck_165_0, List.forall_mem_cons.mpr ⟨ck_165_1, List.forall_mem_nil _⟩⟩) rfl (Or.inl rfl)
theorem ck_166_0 : (ac_166_0.all (am_ck 166 12 5 false 7 cX12_isWord)) = true := by decide +kernel
theorem mk_166 : am_mok2 166 am_166 (yX12_isWord, cX12_isWord, 7, some .boolean, [], 1) := am_mok_of (o := 12) rfl rfl (List.forall_mem_cons.mpr ⟨ck_166_0, List.forall_mem_nil _⟩) rfl (Or.inl rfl)
theorem ck_167_0 : (ac_167_0.all (am_ck 167 12 0 false 1 cX12_skipWord)) = true := by decide +kernel
theorem mk_167 : am_mok2 167 am_167 (yX12_skipWord, cX12_skipWord, 1, none, [], 1) := am_mok_of (o := 12) rfl rfl (List.forall_mem_cons.mpr ⟨ck_167_0, List.forall_mem_nil _⟩) rfl (Or.inl rfl)
theorem ck_168_0 : (ac_168_0.all (am_ck 168 12 5 false 8 cX12_takes)) = true := by decide +kernel
theorem mk_168 : am_mok2 168 am_168 (yX12_takes, cX12_takes, 8, some .boolean, [], 1) := am_mok_of (o := 12) rfl rfl (List.forall_mem_cons.mpr ⟨ck_168_0, List.forall_mem_nil _⟩) rfl (Or.inl rfl)
theorem ck_169_0 : (ac_169_0.all (am_ck 169 12 0 false 2 cX12_sign)) = true := by decide +kernel
theorem ck_169_1 : (ac_169_1.all (am_ck 169 12 0 false 2 cX12_sign)) = true := by decide +kernel
theorem mk_169 : am_mok2 169 am_169 (yX12_sign, cX12_sign, 2, none, [], 1) := am_mok_of (o := 12) rfl rfl (List.forall_mem_cons.mpr ⟨ck_169_0, List.forall_mem_cons.mpr ⟨ck_169_1, List.forall_mem_nil _⟩⟩) rfl (Or.inl rfl)
theorem ck_170_0 : (ac_170_0.all (am_ck 170 12 5 false 3 cX12_takesSign)) = true := by decide +kernel
theorem ck_170_1 : (ac_170_1.all (am_ck 170 12 5 false 3 cX12_takesSign)) = true := by decide +kernel
theorem mk_170 : am_mok2 170 am_170 (yX12_takesSign, cX12_takesSign, 3, some .boolean, [], 1) := am_mok_of (o := 12) rfl rfl (List.forall_mem_cons.mpr ⟨ck_170_0, List.forall_mem_cons.mpr ⟨ck_170_1, List.forall_mem_nil _⟩⟩) rfl (Or.inl rfl)
theorem ck_171_0 : (ac_171_0.all (am_ck 171 12 0 false 2 cX12_starts)) = true := by decide +kernel
theorem mk_171 : am_mok2 171 am_171 (yX12_starts, cX12_starts, 2, none, [], 1) := am_mok_of (o := 12) rfl rfl (List.forall_mem_cons.mpr ⟨ck_171_0, List.forall_mem_nil _⟩) rfl (Or.inl rfl)
theorem ck_172_0 : (ac_172_0.all (am_ck 172 12 1 false 1 cX12_ends)) = true := by decide +kernel
theorem mk_172 : am_mok2 172 am_172 (yX12_ends, cX12_ends, 1, some .int, [], 1) := am_mok_of (o := 12) rfl rfl (List.forall_mem_cons.mpr ⟨ck_172_0, List.forall_mem_nil _⟩) rfl (Or.inl rfl)
theorem ck_173_0 : (ac_173_0.all (am_ck 173 12 1 false 1 cX12_kindHere)) = true := by decide +kernel
theorem ck_173_1 : (ac_173_1.all (am_ck 173 12 1 false 1 cX12_kindHere)) = true := by decide +kernel
theorem mk_173 : am_mok2 173 am_173 (yX12_kindHere, cX12_kindHere, 1, some .int, [], 1) := am_mok_of (o := 12) rfl rfl (List.forall_mem_cons.mpr ⟨ck_173_0, List.forall_mem_cons.mpr ⟨ck_173_1, List.forall_mem_nil _⟩⟩) rfl (Or.inl rfl)
theorem ck_174_0 : (ac_174_0.all (am_ck 174 12 1 false 1 cX12_mostOf)) = true := by decide +kernel
theorem mk_174 : am_mok2 174 am_174 (yX12_mostOf, cX12_mostOf, 1, some .int, [], 0) := am_mok_of (o := 12) rfl rfl (List.forall_mem_cons.mpr ⟨ck_174_0, List.forall_mem_nil _⟩) rfl (Or.inl rfl)
theorem ck_175_0 : (ac_175_0.all (am_ck 175 12 0 false 4 cX12_clause)) = true := by decide +kernel
theorem ck_175_1 : (ac_175_1.all (am_ck 175 12 0 false 4 cX12_clause)) = true := by decide +kernel
theorem ck_175_2 : (ac_175_2.all (am_ck 175 12 0 false 4 cX12_clause)) = true := by decide +kernel
theorem ck_175_3 : (ac_175_3.all (am_ck 175 12 0 false 4 cX12_clause)) = true := by decide +kernel
theorem ck_175_4 : (ac_175_4.all (am_ck 175 12 0 false 4 cX12_clause)) = true := by decide +kernel
theorem ck_175_5 : (ac_175_5.all (am_ck 175 12 0 false 4 cX12_clause)) = true := by decide +kernel
theorem ck_175_6 : (ac_175_6.all (am_ck 175 12 0 false 4 cX12_clause)) = true := by decide +kernel
theorem mk_175 : am_mok2 175 am_175 (yX12_clause, cX12_clause, 4, none, [], 1) := am_mok_of (o := 12) rfl rfl (List.forall_mem_cons.mpr ⟨ck_175_0, List.forall_mem_cons.mpr ⟨ck_175_1, List.forall_mem_cons.mpr ⟨ck_175_2, List.forall_mem_cons.mpr ⟨ck_175_3, List.forall_mem_cons.mpr ⟨ck_175_4, List.forall_mem_cons.mpr ⟨ck_175_5, List.forall_mem_cons.mpr ⟨ck_175_6, List.forall_mem_nil _⟩⟩⟩⟩⟩⟩⟩) rfl (Or.inl rfl)
theorem ck_176_0 : (ac_176_0.all (am_ck 176 12 1 false 2 cX12_district)) = true := by decide +kernel
theorem ck_176_1 : (ac_176_1.all (am_ck 176 12 1 false 2 cX12_district)) = true := by decide +kernel
theorem ck_176_2 : (ac_176_2.all (am_ck 176 12 1 false 2 cX12_district)) = true := by decide +kernel
theorem mk_176 : am_mok2 176 am_176 (yX12_district, cX12_district, 2, some .int, [], 1) := am_mok_of (o := 12) rfl rfl (List.forall_mem_cons.mpr ⟨ck_176_0, List.forall_mem_cons.mpr ⟨ck_176_1, List.forall_mem_cons.mpr ⟨ck_176_2, List.forall_mem_nil _⟩⟩⟩) rfl (Or.inl rfl)
theorem ck_177_0 : (ac_177_0.all (am_ck 177 12 0 false 5 cX12_lays)) = true := by decide +kernel
theorem ck_177_1 : (ac_177_1.all (am_ck 177 12 0 false 5 cX12_lays)) = true := by decide +kernel
theorem mk_177 : am_mok2 177 am_177 (yX12_lays, cX12_lays, 5, none, [], 0) := am_mok_of (o := 12) rfl rfl (List.forall_mem_cons.mpr ⟨ck_177_0, List.forall_mem_cons.mpr ⟨ck_177_1, List.forall_mem_nil _⟩⟩) rfl (Or.inl rfl)
theorem ck_178_0 : (ac_178_0.all (am_ck 178 12 0 false 3 cX12_copies)) = true := by decide +kernel
theorem mk_178 : am_mok2 178 am_178 (yX12_copies, cX12_copies, 3, none, [], 0) := am_mok_of (o := 12) rfl rfl (List.forall_mem_cons.mpr ⟨ck_178_0, List.forall_mem_nil _⟩) rfl (Or.inl rfl)
theorem ck_179_0 : (ac_179_0.all (am_ck 179 12 0 false 2 cX12_beginsAnew)) = true := by decide +kernel
theorem ck_179_1 : (ac_179_1.all (am_ck 179 12 0 false 2 cX12_beginsAnew)) = true := by decide +kernel
theorem ck_179_2 : (ac_179_2.all (am_ck 179 12 0 false 2 cX12_beginsAnew)) = true := by decide +kernel
theorem ck_179_3 : (ac_179_3.all (am_ck 179 12 0 false 2 cX12_beginsAnew)) = true := by decide +kernel
theorem mk_179 : am_mok2 179 am_179 (yX12_beginsAnew, cX12_beginsAnew, 2, none, [], 1) := am_mok_of (o := 12) rfl rfl (List.forall_mem_cons.mpr ⟨ck_179_0, List.forall_mem_cons.mpr ⟨ck_179_1, List.forall_mem_cons.mpr ⟨ck_179_2, List.forall_mem_cons.mpr ⟨ck_179_3, List.forall_mem_nil _⟩⟩⟩⟩) rfl (Or.inl rfl)
theorem ck_180_0 : (ac_180_0.all (am_ck 180 12 0 false 3 cX12_notes)) = true := by decide +kernel
theorem ck_180_1 : (ac_180_1.all (am_ck 180 12 0 false 3 cX12_notes)) = true := by decide +kernel
theorem mk_180 : am_mok2 180 am_180 (yX12_notes, cX12_notes, 3, none, [], 1) := am_mok_of (o := 12) rfl rfl (List.forall_mem_cons.mpr ⟨ck_180_0, List.forall_mem_cons.mpr ⟨ck_180_1, List.forall_mem_nil _⟩⟩) rfl (Or.inl rfl)
theorem ck_181_0 : (ac_181_0.all (am_ck 181 12 5 false 1 cX12_opensOne)) = true := by decide +kernel
theorem ck_181_1 : (ac_181_1.all (am_ck 181 12 5 false 1 cX12_opensOne)) = true := by decide +kernel
theorem mk_181 : am_mok2 181 am_181 (yX12_opensOne, cX12_opensOne, 1, some .boolean, [], 1) := am_mok_of (o := 12) rfl rfl (List.forall_mem_cons.mpr ⟨ck_181_0, List.forall_mem_cons.mpr ⟨ck_181_1, List.forall_mem_nil _⟩⟩) rfl (Or.inl rfl)
theorem ck_182_0 : (ac_182_0.all (am_ck 182 12 0 false 2 cX12_sum)) = true := by decide +kernel
theorem ck_182_1 : (ac_182_1.all (am_ck 182 12 0 false 2 cX12_sum)) = true := by decide +kernel
theorem mk_182 : am_mok2 182 am_182 (yX12_sum, cX12_sum, 2, none, [], 1) := am_mok_of (o := 12) rfl rfl (List.forall_mem_cons.mpr ⟨ck_182_0, List.forall_mem_cons.mpr ⟨ck_182_1, List.forall_mem_nil _⟩⟩) rfl (Or.inl rfl)
theorem ck_183_0 : (ac_183_0.all (am_ck 183 12 0 false 2 cX12_product)) = true := by decide +kernel
theorem ck_183_1 : (ac_183_1.all (am_ck 183 12 0 false 2 cX12_product)) = true := by decide +kernel
theorem mk_183 : am_mok2 183 am_183 (yX12_product, cX12_product, 2, none, [], 1) := am_mok_of (o := 12) rfl rfl (List.forall_mem_cons.mpr ⟨ck_183_0, List.forall_mem_cons.mpr ⟨ck_183_1, List.forall_mem_nil _⟩⟩) rfl (Or.inl rfl)
theorem ck_184_0 : (ac_184_0.all (am_ck 184 12 1 false 1 cX12_knownHere)) = true := by decide +kernel
theorem ck_184_1 : (ac_184_1.all (am_ck 184 12 1 false 1 cX12_knownHere)) = true := by decide +kernel
theorem ck_184_2 : (ac_184_2.all (am_ck 184 12 1 false 1 cX12_knownHere)) = true := by decide +kernel
theorem ck_184_3 : (ac_184_3.all (am_ck 184 12 1 false 1 cX12_knownHere)) = true := by decide +kernel
theorem ck_184_4 : (ac_184_4.all (am_ck 184 12 1 false 1 cX12_knownHere)) = true := by decide +kernel
theorem mk_184 : am_mok2 184 am_184 (yX12_knownHere, cX12_knownHere, 1, some .int, [], 1) := am_mok_of (o := 12) rfl rfl (List.forall_mem_cons.mpr ⟨ck_184_0, List.forall_mem_cons.mpr ⟨ck_184_1, List.forall_mem_cons.mpr ⟨ck_184_2, List.forall_mem_cons.mpr ⟨ck_184_3, List.forall_mem_cons.mpr ⟨ck_184_4, List.forall_mem_nil _⟩⟩⟩⟩⟩) rfl (Or.inl rfl)
theorem ck_185_0 : (ac_185_0.all (am_ck 185 12 0 false 3 cX12_one)) = true := by decide +kernel
theorem ck_185_1 : (ac_185_1.all (am_ck 185 12 0 false 3 cX12_one)) = true := by decide +kernel
theorem ck_185_2 : (ac_185_2.all (am_ck 185 12 0 false 3 cX12_one)) = true := by decide +kernel
theorem ck_185_3 : (ac_185_3.all (am_ck 185 12 0 false 3 cX12_one)) = true := by decide +kernel
theorem ck_185_4 : (ac_185_4.all (am_ck 185 12 0 false 3 cX12_one)) = true := by decide +kernel
theorem mk_185 : am_mok2 185 am_185 (yX12_one, cX12_one, 3, none, [], 1) := am_mok_of (o := 12) rfl rfl (List.forall_mem_cons.mpr ⟨ck_185_0, List.forall_mem_cons.mpr ⟨ck_185_1, List.forall_mem_cons.mpr ⟨ck_185_2, List.forall_mem_cons.mpr ⟨ck_185_3, List.forall_mem_cons.mpr ⟨ck_185_4, List.forall_mem_nil _⟩⟩⟩⟩⟩) rfl (Or.inl rfl)
theorem ck_186_0 : (ac_186_0.all (am_ck 186 12 1 false 2 cX12_law)) = true := by decide +kernel
theorem ck_186_1 : (ac_186_1.all (am_ck 186 12 1 false 2 cX12_law)) = true := by decide +kernel
theorem ck_186_2 : (ac_186_2.all (am_ck 186 12 1 false 2 cX12_law)) = true := by decide +kernel
theorem mk_186 : am_mok2 186 am_186 (yX12_law, cX12_law, 2, some .int, [], 1) := am_mok_of (o := 12) rfl rfl (List.forall_mem_cons.mpr ⟨ck_186_0, List.forall_mem_cons.mpr ⟨ck_186_1, List.forall_mem_cons.mpr ⟨ck_186_2, List.forall_mem_nil _⟩⟩⟩) rfl (Or.inl rfl)
theorem ck_187_0 : (ac_187_0.all (am_ck 187 12 1 false 3 cX12_by)) = true := by decide +kernel
theorem ck_187_1 : (ac_187_1.all (am_ck 187 12 1 false 3 cX12_by)) = true := by decide +kernel
theorem mk_187 : am_mok2 187 am_187 (yX12_by, cX12_by, 3, some .int, [], 0) := am_mok_of (o := 12) rfl rfl (List.forall_mem_cons.mpr ⟨ck_187_0, List.forall_mem_cons.mpr ⟨ck_187_1, List.forall_mem_nil _⟩⟩) rfl (Or.inl rfl)
theorem ck_188_0 : (ac_188_0.all (am_ck 188 12 1 false 3 cX12_byLaw)) = true := by decide +kernel
theorem ck_188_1 : (ac_188_1.all (am_ck 188 12 1 false 3 cX12_byLaw)) = true := by decide +kernel
theorem ck_188_2 : (ac_188_2.all (am_ck 188 12 1 false 3 cX12_byLaw)) = true := by decide +kernel
theorem ck_188_3 : (ac_188_3.all (am_ck 188 12 1 false 3 cX12_byLaw)) = true := by decide +kernel
theorem ck_188_4 : (ac_188_4.all (am_ck 188 12 1 false 3 cX12_byLaw)) = true := by decide +kernel
theorem mk_188 : am_mok2 188 am_188 (yX12_byLaw, cX12_byLaw, 3, some .int, [], 1) := am_mok_of (o := 12) rfl rfl (List.forall_mem_cons.mpr ⟨ck_188_0, List.forall_mem_cons.mpr ⟨ck_188_1, List.forall_mem_cons.mpr ⟨ck_188_2, List.forall_mem_cons.mpr ⟨ck_188_3, List.forall_mem_cons.mpr ⟨ck_188_4, List.forall_mem_nil _⟩⟩⟩⟩⟩) rfl (Or.inl rfl)
theorem ck_189_0 : (ac_189_0.all (am_ck 189 12 1 false 1 cX12_stepHere)) = true := by decide +kernel
theorem ck_189_1 : (ac_189_1.all (am_ck 189 12 1 false 1 cX12_stepHere)) = true := by decide +kernel
theorem ck_189_2 : (ac_189_2.all (am_ck 189 12 1 false 1 cX12_stepHere)) = true := by decide +kernel
theorem ck_189_3 : (ac_189_3.all (am_ck 189 12 1 false 1 cX12_stepHere)) = true := by decide +kernel
theorem mk_189 : am_mok2 189 am_189 (yX12_stepHere, cX12_stepHere, 1, some .int, [], 1) := am_mok_of (o := 12) rfl rfl (List.forall_mem_cons.mpr ⟨ck_189_0, List.forall_mem_cons.mpr ⟨ck_189_1, List.forall_mem_cons.mpr ⟨ck_189_2, List.forall_mem_cons.mpr ⟨ck_189_3, List.forall_mem_nil _⟩⟩⟩⟩) rfl (Or.inl rfl)
theorem ck_190_0 : (ac_190_0.all (am_ck 190 12 0 false 3 cX12_readsStep)) = true := by decide +kernel
theorem ck_190_1 : (ac_190_1.all (am_ck 190 12 0 false 3 cX12_readsStep)) = true := by decide +kernel
theorem ck_190_2 : (ac_190_2.all (am_ck 190 12 0 false 3 cX12_readsStep)) = true := by decide +kernel
theorem ck_190_3 : (ac_190_3.all (am_ck 190 12 0 false 3 cX12_readsStep)) = true := by decide +kernel
theorem ck_190_4 : (ac_190_4.all (am_ck 190 12 0 false 3 cX12_readsStep)) = true := by decide +kernel
theorem mk_190 : am_mok2 190 am_190 (yX12_readsStep, cX12_readsStep, 3, none, [], 1) := am_mok_of (o := 12) rfl rfl (List.forall_mem_cons.mpr ⟨ck_190_0, List.forall_mem_cons.mpr ⟨ck_190_1, List.forall_mem_cons.mpr ⟨ck_190_2, List.forall_mem_cons.mpr ⟨ck_190_3, List.forall_mem_cons.mpr ⟨ck_190_4, List.forall_mem_nil _⟩⟩⟩⟩⟩) rfl (Or.inl rfl)
theorem ck_191_0 : (ac_191_0.all (am_ck 191 12 1 false 7 cX12_book)) = true := by decide +kernel
theorem ck_191_1 : (ac_191_1.all (am_ck 191 12 1 false 7 cX12_book)) = true := by decide +kernel
theorem ck_191_2 : (ac_191_2.all (am_ck 191 12 1 false 7 cX12_book)) = true := by decide +kernel
theorem ck_191_3 : (ac_191_3.all (am_ck 191 12 1 false 7 cX12_book)) = true := by decide +kernel
theorem ck_191_4 : (ac_191_4.all (am_ck 191 12 1 false 7 cX12_book)) = true := by decide +kernel
theorem mk_191 : am_mok2 191 am_191 (yX12_book, cX12_book, 7, some .int, [], 1) := am_mok_of (o := 12) rfl rfl (List.forall_mem_cons.mpr ⟨ck_191_0, List.forall_mem_cons.mpr ⟨ck_191_1, List.forall_mem_cons.mpr ⟨ck_191_2, List.forall_mem_cons.mpr ⟨ck_191_3, List.forall_mem_cons.mpr ⟨ck_191_4, List.forall_mem_nil _⟩⟩⟩⟩⟩) rfl (Or.inl rfl)
theorem ck_192_0 : (ac_192_0.all (am_ck 192 12 1 false 1 cX12_fault)) = true := by decide +kernel
theorem mk_192 : am_mok2 192 am_192 (yX12_fault, cX12_fault, 1, some .int, [], 1) := am_mok_of (o := 12) rfl rfl (List.forall_mem_cons.mpr ⟨ck_192_0, List.forall_mem_nil _⟩) rfl (Or.inl rfl)
theorem ck_193_0 : (ac_193_0.all (am_ck 193 12 1 false 10 cX12_heardBy)) = true := by decide +kernel
theorem ck_193_1 : (ac_193_1.all (am_ck 193 12 1 false 10 cX12_heardBy)) = true := by decide +kernel
theorem mk_193 : am_mok2 193 am_193 (yX12_heardBy, cX12_heardBy, 10, some .int, [], 1) := am_mok_of (o := 12) rfl rfl (List.forall_mem_cons.mpr ⟨ck_193_0, List.forall_mem_cons.mpr ⟨ck_193_1, List.forall_mem_nil _⟩⟩) rfl (Or.inl rfl)
theorem ck_194_0 : (ac_194_0.all (am_ck 194 12 1 false 3 cX12_ones)) = true := by decide +kernel
theorem mk_194 : am_mok2 194 am_194 (yX12_ones, cX12_ones, 3, some .int, [], 0) := am_mok_of (o := 12) rfl rfl (List.forall_mem_cons.mpr ⟨ck_194_0, List.forall_mem_nil _⟩) rfl (Or.inl rfl)
theorem ck_195_0 : (ac_195_0.all (am_ck 195 12 1 false 9 cX12_heardOf)) = true := by decide +kernel
theorem ck_195_1 : (ac_195_1.all (am_ck 195 12 1 false 9 cX12_heardOf)) = true := by decide +kernel
theorem mk_195 : am_mok2 195 am_195 (yX12_heardOf, cX12_heardOf, 9, some .int, [], 1) := am_mok_of (o := 12) rfl rfl (List.forall_mem_cons.mpr ⟨ck_195_0, List.forall_mem_cons.mpr ⟨ck_195_1, List.forall_mem_nil _⟩⟩) rfl (Or.inl rfl)
theorem ck_196_0 : (ac_196_0.all (am_ck 196 12 1 false 4 cX12_heardIn)) = true := by decide +kernel
theorem ck_196_1 : (ac_196_1.all (am_ck 196 12 1 false 4 cX12_heardIn)) = true := by decide +kernel
theorem mk_196 : am_mok2 196 am_196 (yX12_heardIn, cX12_heardIn, 4, some .int, [], 1) := am_mok_of (o := 12) rfl rfl (List.forall_mem_cons.mpr ⟨ck_196_0, List.forall_mem_cons.mpr ⟨ck_196_1, List.forall_mem_nil _⟩⟩) rfl (Or.inl rfl)
theorem ck_197_0 : (ac_197_0.all (am_ck 197 12 5 false 2 cX12_isSpeaking)) = true := by decide +kernel
theorem mk_197 : am_mok2 197 am_197 (yX12_isSpeaking, cX12_isSpeaking, 2, some .boolean, [], 0) := am_mok_of (o := 12) rfl rfl (List.forall_mem_cons.mpr ⟨ck_197_0, List.forall_mem_nil _⟩) rfl (Or.inl rfl)
theorem ck_198_0 : (ac_198_0.all (am_ck 198 12 1 false 4 cX12_speaking)) = true := by decide +kernel
theorem ck_198_1 : (ac_198_1.all (am_ck 198 12 1 false 4 cX12_speaking)) = true := by decide +kernel
theorem mk_198 : am_mok2 198 am_198 (yX12_speaking, cX12_speaking, 4, some .int, [], 1) := am_mok_of (o := 12) rfl rfl (List.forall_mem_cons.mpr ⟨ck_198_0, List.forall_mem_cons.mpr ⟨ck_198_1, List.forall_mem_nil _⟩⟩) rfl (Or.inl rfl)
theorem ck_199_0 : (ac_199_0.all (am_ck 199 12 1 false 2 cX12_temperAt)) = true := by decide +kernel
theorem mk_199 : am_mok2 199 am_199 (yX12_temperAt, cX12_temperAt, 2, some .int, [], 0) := am_mok_of (o := 12) rfl rfl (List.forall_mem_cons.mpr ⟨ck_199_0, List.forall_mem_nil _⟩) rfl (Or.inl rfl)
theorem mka_4 : mk_all 160 [am_160, am_161, am_162, am_163, am_164, am_165, am_166, am_167, am_168, am_169, am_170, am_171, am_172, am_173, am_174, am_175, am_176, am_177, am_178, am_179, am_180, am_181, am_182, am_183, am_184, am_185, am_186, am_187, am_188, am_189, am_190, am_191, am_192, am_193, am_194, am_195, am_196, am_197, am_198, am_199] mi_l4 := ⟨mk_160, mk_161, mk_162, mk_163, mk_164, mk_165, mk_166, mk_167, mk_168, mk_169, mk_170, mk_171, mk_172, mk_173, mk_174, mk_175, mk_176, mk_177, mk_178, mk_179, mk_180, mk_181, mk_182, mk_183, mk_184, mk_185, mk_186, mk_187, mk_188, mk_189, mk_190, mk_191, mk_192, mk_193, mk_194, mk_195, mk_196, mk_197, mk_198, mk_199, trivial⟩
