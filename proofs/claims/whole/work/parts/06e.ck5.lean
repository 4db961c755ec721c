/-! The checks of my code tables, on. -/
theorem ck_200_0 : (ac_200_0.all (am_ck 200 12 5 false 5 cX12_rings)) = true := by decide +kernel
theorem ck_200_1 : (ac_200_1.all (am_ck 200 12 5 false 5 cX12_rings)) = true := by decide +kernel
theorem ck_200_2 : (ac_200_2.all (am_ck 200 12 5 false 5 cX12_rings)) = true := by decide +kernel
theorem mk_200 : am_mok2 200 am_200 (yX12_rings, cX12_rings, 5, some .boolean, [], 1) := am_mok_of (o := 12) rfl rfl (List.forall_mem_cons.mpr ⟨ck_200_0, List.forall_mem_cons.mpr ⟨ck_200_1, List.forall_mem_cons.mpr ⟨ck_200_2, List.forall_mem_nil _⟩⟩⟩) rfl (Or.inl rfl)
theorem ck_201_0 : (ac_201_0.all (am_ck 201 12 0 false 2 cX12_hourEnds)) = true := by decide +kernel
theorem ck_201_1 : (ac_201_1.all (am_ck 201 12 0 false 2 cX12_hourEnds)) = true := by decide +kernel
theorem mk_201 : am_mok2 201 am_201 (yX12_hourEnds, cX12_hourEnds, 2, none, [], 0) := am_mok_of (o := 12) rfl rfl (List.forall_mem_cons.mpr ⟨ck_201_0, List.forall_mem_cons.mpr ⟨ck_201_1, List.forall_mem_nil _⟩⟩) rfl (Or.inl rfl)
theorem ck_202_0 : (ac_202_0.all (am_ck 202 12 5 false 3 cX12_becomes)) = true := by decide +kernel
theorem mk_202 : am_mok2 202 am_202 (yX12_becomes, cX12_becomes, 3, some .boolean, [], 0) := am_mok_of (o := 12) rfl rfl (List.forall_mem_cons.mpr ⟨ck_202_0, List.forall_mem_nil _⟩) rfl (Or.inl rfl)
theorem ck_203_0 : (ac_203_0.all (am_ck 203 12 5 false 4 cX12_does)) = true := by decide +kernel
theorem ck_203_1 : (ac_203_1.all (am_ck 203 12 5 false 4 cX12_does)) = true := by decide +kernel
theorem ck_203_2 : (ac_203_2.all (am_ck 203 12 5 false 4 cX12_does)) = true := by decide +kernel
theorem ck_203_3 : (ac_203_3.all (am_ck 203 12 5 false 4 cX12_does)) = true := by decide +kernel
theorem mk_203 : am_mok2 203 am_203 (yX12_does, cX12_does, 4, some .boolean, [], 1) := am_mok_of (o := 12) rfl rfl (List.forall_mem_cons.mpr ⟨ck_203_0, List.forall_mem_cons.mpr ⟨ck_203_1, List.forall_mem_cons.mpr ⟨ck_203_2, List.forall_mem_cons.mpr ⟨ck_203_3, List.forall_mem_nil _⟩⟩⟩⟩) rfl (Or.inl rfl)
theorem ck_204_0 : (ac_204_0.all (am_ck 204 12 0 false 5 cX12_goes)) = true := by decide +kernel
theorem ck_204_1 : (ac_204_1.all (am_ck 204 12 0 false 5 cX12_goes)) = true := by decide +kernel
theorem ck_204_2 : (ac_204_2.all (am_ck 204 12 0 false 5 cX12_goes)) = true := by decide +kernel
theorem ck_204_3 : (ac_204_3.all (am_ck 204 12 0 false 5 cX12_goes)) = true := by decide +kernel
theorem mk_204 : am_mok2 204 am_204 (yX12_goes, cX12_goes, 5, none, [], 1) := am_mok_of (o := 12) rfl rfl (List.forall_mem_cons.mpr ⟨ck_204_0, List.forall_mem_cons.mpr ⟨ck_204_1, List.forall_mem_cons.mpr ⟨ck_204_2, List.forall_mem_cons.mpr ⟨ck_204_3, List.forall_mem_nil _⟩⟩⟩⟩) rfl (Or.inl rfl)
theorem ck_205_0 : (ac_205_0.all (am_ck 205 12 1 false 2 cX12_work)) = true := by decide +kernel
theorem ck_205_1 : (ac_205_1.all (am_ck 205 12 1 false 2 cX12_work)) = true := by decide +kernel
theorem ck_205_2 : (ac_205_2.all (am_ck 205 12 1 false 2 cX12_work)) = true := by decide +kernel
theorem ck_205_3 : (ac_205_3.all (am_ck 205 12 1 false 2 cX12_work)) = true := by decide +kernel
theorem mk_205 : am_mok2 205 am_205 (yX12_work, cX12_work, 2, some .int, [], 1) := am_mok_of (o := 12) rfl rfl (List.forall_mem_cons.mpr ⟨ck_205_0, List.forall_mem_cons.mpr ⟨ck_205_1, List.forall_mem_cons.mpr ⟨ck_205_2, List.forall_mem_cons.mpr ⟨ck_205_3, List.forall_mem_nil _⟩⟩⟩⟩) rfl (Or.inl rfl)
theorem ck_206_0 : (ac_206_0.all (am_ck 206 12 1 false 1 cX12_undo)) = true := by decide +kernel
theorem ck_206_1 : (ac_206_1.all (am_ck 206 12 1 false 1 cX12_undo)) = true := by decide +kernel
theorem mk_206 : am_mok2 206 am_206 (yX12_undo, cX12_undo, 1, some .int, [], 1) := am_mok_of (o := 12) rfl rfl (List.forall_mem_cons.mpr ⟨ck_206_0, List.forall_mem_cons.mpr ⟨ck_206_1, List.forall_mem_nil _⟩⟩) rfl (Or.inl rfl)
theorem ck_207_0 : (ac_207_0.all (am_ck 207 12 1 false 5 cX12_temperIn)) = true := by decide +kernel
theorem mk_207 : am_mok2 207 am_207 (yX12_temperIn, cX12_temperIn, 5, some .int, [], 1) := am_mok_of (o := 12) rfl rfl (List.forall_mem_cons.mpr ⟨ck_207_0, List.forall_mem_nil _⟩) rfl (Or.inl rfl)
theorem ck_208_0 : (ac_208_0.all (am_ck 208 12 1 false 4 cX12_allTemper)) = true := by decide +kernel
theorem mk_208 : am_mok2 208 am_208 (yX12_allTemper, cX12_allTemper, 4, some .int, [], 1) := am_mok_of (o := 12) rfl rfl (List.forall_mem_cons.mpr ⟨ck_208_0, List.forall_mem_nil _⟩) rfl (Or.inl rfl)
theorem ck_209_0 : (ac_209_0.all (am_ck 209 12 1 false 4 cX12_moody)) = true := by decide +kernel
theorem ck_209_1 : (ac_209_1.all (am_ck 209 12 1 false 4 cX12_moody)) = true := by decide +kernel
theorem mk_209 : am_mok2 209 am_209 (yX12_moody, cX12_moody, 4, some .int, [], 1) := am_mok_of (o := 12) rfl rfl (List.forall_mem_cons.mpr ⟨ck_209_0, List.forall_mem_cons.mpr ⟨ck_209_1, List.forall_mem_nil _⟩⟩) rfl (Or.inl rfl)
theorem ck_210_0 : (ac_210_0.all (am_ck 210 12 5 false 3 cX12_isDone)) = true := by decide +kernel
theorem ck_210_1 : (ac_210_1.all (am_ck 210 12 5 false 3 cX12_isDone)) = true := by decide +kernel
theorem mk_210 : am_mok2 210 am_210 (yX12_isDone, cX12_isDone, 3, some .boolean, [], 1) := am_mok_of (o := 12) rfl rfl (List.forall_mem_cons.mpr ⟨ck_210_0, List.forall_mem_cons.mpr ⟨ck_210_1, List.forall_mem_nil _⟩⟩) rfl (Or.inl rfl)
theorem ck_211_0 : (ac_211_0.all (am_ck 211 12 1 false 4 cX12_done)) = true := by decide +kernel
theorem ck_211_1 : (ac_211_1.all (am_ck 211 12 1 false 4 cX12_done)) = true := by decide +kernel
theorem mk_211 : am_mok2 211 am_211 (yX12_done, cX12_done, 4, some .int, [], 1) := am_mok_of (o := 12) rfl rfl (List.forall_mem_cons.mpr ⟨ck_211_0, List.forall_mem_cons.mpr ⟨ck_211_1, List.forall_mem_nil _⟩⟩) rfl (Or.inl rfl)
theorem ck_212_0 : (ac_212_0.all (am_ck 212 12 1 false 4 cX12_pullsIn)) = true := by decide +kernel
theorem mk_212 : am_mok2 212 am_212 (yX12_pullsIn, cX12_pullsIn, 4, some .int, [], 1) := am_mok_of (o := 12) rfl rfl (List.forall_mem_cons.mpr ⟨ck_212_0, List.forall_mem_nil _⟩) rfl (Or.inl rfl)
theorem ck_213_0 : (ac_213_0.all (am_ck 213 12 1 false 4 cX12_told)) = true := by decide +kernel
theorem ck_213_1 : (ac_213_1.all (am_ck 213 12 1 false 4 cX12_told)) = true := by decide +kernel
theorem ck_213_2 : (ac_213_2.all (am_ck 213 12 1 false 4 cX12_told)) = true := by decide +kernel
theorem ck_213_3 : (ac_213_3.all (am_ck 213 12 1 false 4 cX12_told)) = true := by decide +kernel
theorem mk_213 : am_mok2 213 am_213 (yX12_told, cX12_told, 4, some .int, [], 1) := am_mok_of (o := 12) rfl rfl (List.forall_mem_cons.mpr ⟨ck_213_0, List.forall_mem_cons.mpr ⟨ck_213_1, List.forall_mem_cons.mpr ⟨ck_213_2, List.forall_mem_cons.mpr ⟨ck_213_3, List.forall_mem_nil _⟩⟩⟩⟩) rfl (Or.inl rfl)
theorem ck_214_0 : (ac_214_0.all (am_ck 214 12 5 false 2 cX12_isBell)) = true := by decide +kernel
theorem mk_214 : am_mok2 214 am_214 (yX12_isBell, cX12_isBell, 2, some .boolean, [], 1) := am_mok_of (o := 12) rfl rfl (List.forall_mem_cons.mpr ⟨ck_214_0, List.forall_mem_nil _⟩) rfl (Or.inl rfl)
theorem ck_215_0 : (ac_215_0.all (am_ck 215 12 5 false 2 cX12_isHouse)) = true := by decide +kernel
theorem mk_215 : am_mok2 215 am_215 (yX12_isHouse, cX12_isHouse, 2, some .boolean, [], 1) := am_mok_of (o := 12) rfl rfl (List.forall_mem_cons.mpr ⟨ck_215_0, List.forall_mem_nil _⟩) rfl (Or.inl rfl)
theorem ck_216_0 : (ac_216_0.all (am_ck 216 12 1 false 3 cX12_bell)) = true := by decide +kernel
theorem ck_216_1 : (ac_216_1.all (am_ck 216 12 1 false 3 cX12_bell)) = true := by decide +kernel
theorem ck_216_2 : (ac_216_2.all (am_ck 216 12 1 false 3 cX12_bell)) = true := by decide +kernel
theorem mk_216 : am_mok2 216 am_216 (yX12_bell, cX12_bell, 3, some .int, [], 1) := am_mok_of (o := 12) rfl rfl (List.forall_mem_cons.mpr ⟨ck_216_0, List.forall_mem_cons.mpr ⟨ck_216_1, List.forall_mem_cons.mpr ⟨ck_216_2, List.forall_mem_nil _⟩⟩⟩) rfl (Or.inl rfl)
theorem ck_217_0 : (ac_217_0.all (am_ck 217 12 1 false 5 cX12_moodOf)) = true := by decide +kernel
theorem ck_217_1 : (ac_217_1.all (am_ck 217 12 1 false 5 cX12_moodOf)) = true := by decide +kernel
theorem mk_217 : am_mok2 217 am_217 (yX12_moodOf, cX12_moodOf, 5, some .int, [], 1) := am_mok_of (o := 12) rfl rfl (List.forall_mem_cons.mpr ⟨ck_217_0, List.forall_mem_cons.mpr ⟨ck_217_1, List.forall_mem_nil _⟩⟩) rfl (Or.inl rfl)
theorem ck_218_0 : (ac_218_0.all (am_ck 218 12 1 false 3 cX12_house)) = true := by decide +kernel
theorem ck_218_1 : (ac_218_1.all (am_ck 218 12 1 false 3 cX12_house)) = true := by decide +kernel
theorem ck_218_2 : (ac_218_2.all (am_ck 218 12 1 false 3 cX12_house)) = true := by decide +kernel
theorem mk_218 : am_mok2 218 am_218 (yX12_house, cX12_house, 3, some .int, [], 1) := am_mok_of (o := 12) rfl rfl (List.forall_mem_cons.mpr ⟨ck_218_0, List.forall_mem_cons.mpr ⟨ck_218_1, List.forall_mem_cons.mpr ⟨ck_218_2, List.forall_mem_nil _⟩⟩⟩) rfl (Or.inl rfl)
theorem ck_219_0 : (ac_219_0.all (am_ck 219 12 1 false 3 cX12_deed)) = true := by decide +kernel
theorem ck_219_1 : (ac_219_1.all (am_ck 219 12 1 false 3 cX12_deed)) = true := by decide +kernel
theorem ck_219_2 : (ac_219_2.all (am_ck 219 12 1 false 3 cX12_deed)) = true := by decide +kernel
theorem mk_219 : am_mok2 219 am_219 (yX12_deed, cX12_deed, 3, some .int, [], 1) := am_mok_of (o := 12) rfl rfl (List.forall_mem_cons.mpr ⟨ck_219_0, List.forall_mem_cons.mpr ⟨ck_219_1, List.forall_mem_cons.mpr ⟨ck_219_2, List.forall_mem_nil _⟩⟩⟩) rfl (Or.inl rfl)
theorem ck_220_0 : (ac_220_0.all (am_ck 220 12 5 false 1 cX12_isMood)) = true := by decide +kernel
theorem mk_220 : am_mok2 220 am_220 (yX12_isMood, cX12_isMood, 1, some .boolean, [], 0) := am_mok_of (o := 12) rfl rfl (List.forall_mem_cons.mpr ⟨ck_220_0, List.forall_mem_nil _⟩) rfl (Or.inl rfl)
theorem ck_221_0 : (ac_221_0.all (am_ck 221 12 1 false 3 cX12_temper)) = true := by decide +kernel
theorem ck_221_1 : (ac_221_1.all (am_ck 221 12 1 false 3 cX12_temper)) = true := by decide +kernel
theorem mk_221 : am_mok2 221 am_221 (yX12_temper, cX12_temper, 3, some .int, [], 1) := am_mok_of (o := 12) rfl rfl (List.forall_mem_cons.mpr ⟨ck_221_0, List.forall_mem_cons.mpr ⟨ck_221_1, List.forall_mem_nil _⟩⟩) rfl (Or.inl rfl)
theorem ck_222_0 : (ac_222_0.all (am_ck 222 12 1 false 3 cX12_heard)) = true := by decide +kernel
theorem ck_222_1 : (ac_222_1.all (am_ck 222 12 1 false 3 cX12_heard)) = true := by decide +kernel
theorem mk_222 : am_mok2 222 am_222 (yX12_heard, cX12_heard, 3, some .int, [], 1) := am_mok_of (o := 12) rfl rfl (List.forall_mem_cons.mpr ⟨ck_222_0, List.forall_mem_cons.mpr ⟨ck_222_1, List.forall_mem_nil _⟩⟩) rfl (Or.inl rfl)
theorem ck_223_0 : (ac_223_0.all (am_ck 223 12 1 false 10 cX12_would)) = true := by decide +kernel
theorem ck_223_1 : (ac_223_1.all (am_ck 223 12 1 false 10 cX12_would)) = true := by decide +kernel
theorem ck_223_2 : (ac_223_2.all (am_ck 223 12 1 false 10 cX12_would)) = true := by decide +kernel
theorem mk_223 : am_mok2 223 am_223 (yX12_would, cX12_would, 10, some .int, [], 1) := am_mok_of (o := 12) rfl rfl (List.forall_mem_cons.mpr ⟨ck_223_0, List.forall_mem_cons.mpr ⟨ck_223_1, List.forall_mem_cons.mpr ⟨ck_223_2, List.forall_mem_nil _⟩⟩⟩) rfl (Or.inl rfl)
theorem ck_224_0 : (ac_224_0.all (am_ck 224 12 1 false 4 cX12_ahead)) = true := by decide +kernel
theorem ck_224_1 : (ac_224_1.all (am_ck 224 12 1 false 4 cX12_ahead)) = true := by decide +kernel
theorem ck_224_2 : (ac_224_2.all (am_ck 224 12 1 false 4 cX12_ahead)) = true := by decide +kernel
theorem mk_224 : am_mok2 224 am_224 (yX12_ahead, cX12_ahead, 4, some .int, [], 1) := am_mok_of (o := 12) rfl rfl (List.forall_mem_cons.mpr ⟨ck_224_0, List.forall_mem_cons.mpr ⟨ck_224_1, List.forall_mem_cons.mpr ⟨ck_224_2, List.forall_mem_nil _⟩⟩⟩) rfl (Or.inl rfl)
theorem ck_225_0 : (ac_225_0.all (am_ck 225 12 1 false 3 cX12_sleeps)) = true := by decide +kernel
theorem ck_225_1 : (ac_225_1.all (am_ck 225 12 1 false 3 cX12_sleeps)) = true := by decide +kernel
theorem mk_225 : am_mok2 225 am_225 (yX12_sleeps, cX12_sleeps, 3, some .int, [], 1) := am_mok_of (o := 12) rfl rfl (List.forall_mem_cons.mpr ⟨ck_225_0, List.forall_mem_cons.mpr ⟨ck_225_1, List.forall_mem_nil _⟩⟩) rfl (Or.inl rfl)
theorem ck_226_0 : (ac_226_0.all (am_ck 226 12 1 false 8 cX12_rouse)) = true := by decide +kernel
theorem ck_226_1 : (ac_226_1.all (am_ck 226 12 1 false 8 cX12_rouse)) = true := by decide +kernel
theorem ck_226_2 : (ac_226_2.all (am_ck 226 12 1 false 8 cX12_rouse)) = true := by decide +kernel
theorem ck_226_3 : (ac_226_3.all (am_ck 226 12 1 false 8 cX12_rouse)) = true := by decide +kernel
theorem ck_226_4 : (ac_226_4.all (am_ck 226 12 1 false 8 cX12_rouse)) = true := by decide +kernel
theorem mk_226 : am_mok2 226 am_226 (yX12_rouse, cX12_rouse, 8, some .int, [], 1) := am_mok_of (o := 12) rfl rfl (List.forall_mem_cons.mpr ⟨ck_226_0, List.forall_mem_cons.mpr ⟨ck_226_1, List.forall_mem_cons.mpr ⟨ck_226_2, List.forall_mem_cons.mpr ⟨ck_226_3, List.forall_mem_cons.mpr ⟨ck_226_4, List.forall_mem_nil _⟩⟩⟩⟩⟩) rfl (Or.inl rfl)
theorem ck_227_0 : (ac_227_0.all (am_ck 227 12 0 false 5 cX12_suitsFrom)) = true := by decide +kernel
theorem ck_227_1 : (ac_227_1.all (am_ck 227 12 0 false 5 cX12_suitsFrom)) = true := by decide +kernel
theorem ck_227_2 : (ac_227_2.all (am_ck 227 12 0 false 5 cX12_suitsFrom)) = true := by decide +kernel
theorem ck_227_3 : (ac_227_3.all (am_ck 227 12 0 false 5 cX12_suitsFrom)) = true := by decide +kernel
theorem mk_227 : am_mok2 227 am_227 (yX12_suitsFrom, cX12_suitsFrom, 5, none, [], 1) := am_mok_of (o := 12) rfl rfl (List.forall_mem_cons.mpr ⟨ck_227_0, List.forall_mem_cons.mpr ⟨ck_227_1, List.forall_mem_cons.mpr ⟨ck_227_2, List.forall_mem_cons.mpr ⟨ck_227_3, List.forall_mem_nil _⟩⟩⟩⟩) rfl (Or.inl rfl)
theorem ck_228_0 : (ac_228_0.all (am_ck 228 12 0 false 1 cX12_suits)) = true := by decide +kernel
theorem mk_228 : am_mok2 228 am_228 (yX12_suits, cX12_suits, 1, none, [], 1) := am_mok_of (o := 12) rfl rfl (List.forall_mem_cons.mpr ⟨ck_228_0, List.forall_mem_nil _⟩) rfl (Or.inl rfl)
theorem ck_229_0 : (ac_229_0.all (am_ck 229 12 1 false 1 cX12_suit)) = true := by decide +kernel
theorem mk_229 : am_mok2 229 am_229 (yX12_suit, cX12_suit, 1, some .int, [], 1) := am_mok_of (o := 12) rfl rfl (List.forall_mem_cons.mpr ⟨ck_229_0, List.forall_mem_nil _⟩) rfl (Or.inl rfl)
theorem ck_230_0 : (ac_230_0.all (am_ck 230 12 1 false 2 cX12_suited)) = true := by decide +kernel
theorem mk_230 : am_mok2 230 am_230 (yX12_suited, cX12_suited, 2, some .int, [], 1) := am_mok_of (o := 12) rfl rfl (List.forall_mem_cons.mpr ⟨ck_230_0, List.forall_mem_nil _⟩) rfl (Or.inl rfl)
theorem ck_231_0 : (ac_231_0.all (am_ck 231 12 1 false 4 cX12_oftenFor)) = true := by decide +kernel
theorem ck_231_1 : (ac_231_1.all (am_ck 231 12 1 false 4 cX12_oftenFor)) = true := by decide +kernel
theorem mk_231 : am_mok2 231 am_231 (yX12_oftenFor, cX12_oftenFor, 4, some .int, [], 1) := am_mok_of (o := 12) rfl rfl (List.forall_mem_cons.mpr ⟨ck_231_0, List.forall_mem_cons.mpr ⟨ck_231_1, List.forall_mem_nil _⟩⟩) rfl (Or.inl rfl)
theorem ck_232_0 : (ac_232_0.all (am_ck 232 12 1 false 7 cX12_pulls)) = true := by decide +kernel
theorem ck_232_1 : (ac_232_1.all (am_ck 232 12 1 false 7 cX12_pulls)) = true := by decide +kernel
theorem ck_232_2 : (ac_232_2.all (am_ck 232 12 1 false 7 cX12_pulls)) = true := by decide +kernel
theorem ck_232_3 : (ac_232_3.all (am_ck 232 12 1 false 7 cX12_pulls)) = true := by decide +kernel
theorem mk_232 : am_mok2 232 am_232 (yX12_pulls, cX12_pulls, 7, some .int, [], 1) := am_mok_of (o := 12) rfl rfl (List.forall_mem_cons.mpr ⟨ck_232_0, List.forall_mem_cons.mpr ⟨ck_232_1, List.forall_mem_cons.mpr ⟨ck_232_2, List.forall_mem_cons.mpr ⟨ck_232_3, List.forall_mem_nil _⟩⟩⟩⟩) rfl (Or.inl rfl)
theorem ck_233_0 : (ac_233_0.all (am_ck 233 12 1 false 3 cX12_castIn)) = true := by decide +kernel
theorem mk_233 : am_mok2 233 am_233 (yX12_castIn, cX12_castIn, 3, some .int, [], 1) := am_mok_of (o := 12) rfl rfl (List.forall_mem_cons.mpr ⟨ck_233_0, List.forall_mem_nil _⟩) rfl (Or.inl rfl)
theorem ck_234_0 : (ac_234_0.all (am_ck 234 12 5 false 3 cX12_isCast)) = true := by decide +kernel
theorem ck_234_1 : (ac_234_1.all (am_ck 234 12 5 false 3 cX12_isCast)) = true := by decide +kernel
theorem mk_234 : am_mok2 234 am_234 (yX12_isCast, cX12_isCast, 3, some .boolean, [], 1) := am_mok_of (o := 12) rfl rfl (List.forall_mem_cons.mpr ⟨ck_234_0, List.forall_mem_cons.mpr ⟨ck_234_1, List.forall_mem_nil _⟩⟩) rfl (Or.inl rfl)
theorem ck_235_0 : (ac_235_0.all (am_ck 235 12 1 false 5 cX12_cast)) = true := by decide +kernel
theorem ck_235_1 : (ac_235_1.all (am_ck 235 12 1 false 5 cX12_cast)) = true := by decide +kernel
theorem ck_235_2 : (ac_235_2.all (am_ck 235 12 1 false 5 cX12_cast)) = true := by decide +kernel
theorem mk_235 : am_mok2 235 am_235 (yX12_cast, cX12_cast, 5, some .int, [], 1) := am_mok_of (o := 12) rfl rfl (List.forall_mem_cons.mpr ⟨ck_235_0, List.forall_mem_cons.mpr ⟨ck_235_1, List.forall_mem_cons.mpr ⟨ck_235_2, List.forall_mem_nil _⟩⟩⟩) rfl (Or.inl rfl)
theorem ck_236_0 : (ac_236_0.all (am_ck 236 12 5 false 3 cX12_isTold)) = true := by decide +kernel
theorem mk_236 : am_mok2 236 am_236 (yX12_isTold, cX12_isTold, 3, some .boolean, [], 1) := am_mok_of (o := 12) rfl rfl (List.forall_mem_cons.mpr ⟨ck_236_0, List.forall_mem_nil _⟩) rfl (Or.inl rfl)
theorem ck_237_0 : (ac_237_0.all (am_ck 237 12 1 false 5 cX12_worstAt)) = true := by decide +kernel
theorem ck_237_1 : (ac_237_1.all (am_ck 237 12 1 false 5 cX12_worstAt)) = true := by decide +kernel
theorem mk_237 : am_mok2 237 am_237 (yX12_worstAt, cX12_worstAt, 5, some .int, [], 1) := am_mok_of (o := 12) rfl rfl (List.forall_mem_cons.mpr ⟨ck_237_0, List.forall_mem_cons.mpr ⟨ck_237_1, List.forall_mem_nil _⟩⟩) rfl (Or.inl rfl)
theorem ck_238_0 : (ac_238_0.all (am_ck 238 12 1 false 6 cX12_ask)) = true := by decide +kernel
theorem ck_238_1 : (ac_238_1.all (am_ck 238 12 1 false 6 cX12_ask)) = true := by decide +kernel
theorem ck_238_2 : (ac_238_2.all (am_ck 238 12 1 false 6 cX12_ask)) = true := by decide +kernel
theorem mk_238 : am_mok2 238 am_238 (yX12_ask, cX12_ask, 6, some .int, [], 1) := am_mok_of (o := 12) rfl rfl (List.forall_mem_cons.mpr ⟨ck_238_0, List.forall_mem_cons.mpr ⟨ck_238_1, List.forall_mem_cons.mpr ⟨ck_238_2, List.forall_mem_nil _⟩⟩⟩) rfl (Or.inl rfl)
theorem ck_239_0 : (ac_239_0.all (am_ck 239 12 1 false 3 cX12_rows)) = true := by decide +kernel
theorem mk_239 : am_mok2 239 am_239 (yX12_rows, cX12_rows, 3, some .int, [], 0) := am_mok_of (o := 12) rfl rfl (List.forall_mem_cons.mpr ⟨ck_239_0, List.forall_mem_nil _⟩) rfl (Or.inl rfl)
theorem mka_5 : mk_all 200 [am_200, am_201, am_202, am_203, am_204, am_205, am_206, am_207, am_208, am_209, am_210, am_211, am_212, am_213, am_214, am_215, am_216, am_217, am_218, am_219, am_220, am_221, am_222, am_223, am_224, am_225, am_226, am_227, am_228, am_229, am_230, am_231, am_232, am_233, am_234, am_235, am_236, am_237, am_238, am_239] mi_l5 := ⟨mk_200, mk_201, mk_202, mk_203, mk_204, mk_205, mk_206, mk_207, mk_208, mk_209, mk_210, mk_211, mk_212, mk_213, mk_214, mk_215, mk_216, mk_217, mk_218, mk_219, mk_220, mk_221, mk_222, mk_223, mk_224, mk_225, mk_226, mk_227, mk_228, mk_229, mk_230, mk_231, mk_232, mk_233, mk_234, mk_235, mk_236, mk_237, mk_238, mk_239, trivial⟩
