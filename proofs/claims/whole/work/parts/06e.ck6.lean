/-! The checks of my code tables, on. -/
theorem ck_240_0 : (ac_240_0.all (am_ck 240 12 0 false 9 cX12_laysRow)) = true := by decide +kernel
theorem ck_240_1 : (ac_240_1.all (am_ck 240 12 0 false 9 cX12_laysRow)) = true := by decide +kernel
theorem ck_240_2 : (ac_240_2.all (am_ck 240 12 0 false 9 cX12_laysRow)) = true := by decide +kernel
theorem mk_240 : am_mok2 240 am_240 (yX12_laysRow, cX12_laysRow, 9, none, [], 1) := am_mok_of (o := 12) rfl rfl (List.forall_mem_cons.mpr ⟨ck_240_0, List.forall_mem_cons.mpr ⟨ck_240_1, List.forall_mem_cons.mpr ⟨ck_240_2, List.forall_mem_nil _⟩⟩⟩) rfl (Or.inl rfl)
theorem ck_241_0 : (ac_241_0.all (am_ck 241 12 1 false 7 cX12_rowOf)) = true := by decide +kernel
theorem ck_241_1 : (ac_241_1.all (am_ck 241 12 1 false 7 cX12_rowOf)) = true := by decide +kernel
theorem ck_241_2 : (ac_241_2.all (am_ck 241 12 1 false 7 cX12_rowOf)) = true := by decide +kernel
theorem ck_241_3 : (ac_241_3.all (am_ck 241 12 1 false 7 cX12_rowOf)) = true := by decide +kernel
theorem ck_241_4 : (ac_241_4.all (am_ck 241 12 1 false 7 cX12_rowOf)) = true := by decide +kernel
theorem mk_241 : am_mok2 241 am_241 (yX12_rowOf, cX12_rowOf, 7, some .int, [], 1) := am_mok_of (o := 12) rfl rfl (List.forall_mem_cons.mpr ⟨ck_241_0, List.forall_mem_cons.mpr ⟨ck_241_1, List.forall_mem_cons.mpr ⟨ck_241_2, List.forall_mem_cons.mpr ⟨ck_241_3, List.forall_mem_cons.mpr ⟨ck_241_4, List.forall_mem_nil _⟩⟩⟩⟩⟩) rfl (Or.inl rfl)
theorem ck_242_0 : (ac_242_0.all (am_ck 242 12 5 false 1 cX12_isChange)) = true := by decide +kernel
theorem mk_242 : am_mok2 242 am_242 (yX12_isChange, cX12_isChange, 1, some .boolean, [], 0) := am_mok_of (o := 12) rfl rfl (List.forall_mem_cons.mpr ⟨ck_242_0, List.forall_mem_nil _⟩) rfl (Or.inl rfl)
theorem ck_243_0 : (ac_243_0.all (am_ck 243 12 0 false 8 cX12_laysDistances)) = true := by decide +kernel
theorem ck_243_1 : (ac_243_1.all (am_ck 243 12 0 false 8 cX12_laysDistances)) = true := by decide +kernel
theorem ck_243_2 : (ac_243_2.all (am_ck 243 12 0 false 8 cX12_laysDistances)) = true := by decide +kernel
theorem ck_243_3 : (ac_243_3.all (am_ck 243 12 0 false 8 cX12_laysDistances)) = true := by decide +kernel
theorem mk_243 : am_mok2 243 am_243 (yX12_laysDistances, cX12_laysDistances, 8, none, [], 1) := am_mok_of (o := 12) rfl rfl (List.forall_mem_cons.mpr ⟨ck_243_0, List.forall_mem_cons.mpr ⟨ck_243_1, List.forall_mem_cons.mpr ⟨ck_243_2, List.forall_mem_cons.mpr ⟨ck_243_3, List.forall_mem_nil _⟩⟩⟩⟩) rfl (Or.inl rfl)
theorem ck_244_0 : (ac_244_0.all (am_ck 244 12 5 false 2 cX12_isRow)) = true := by decide +kernel
theorem mk_244 : am_mok2 244 am_244 (yX12_isRow, cX12_isRow, 2, some .boolean, [], 0) := am_mok_of (o := 12) rfl rfl (List.forall_mem_cons.mpr ⟨ck_244_0, List.forall_mem_nil _⟩) rfl (Or.inl rfl)
theorem ck_245_0 : (ac_245_0.all (am_ck 245 12 1 false 3 cX12_changes)) = true := by decide +kernel
theorem ck_245_1 : (ac_245_1.all (am_ck 245 12 1 false 3 cX12_changes)) = true := by decide +kernel
theorem mk_245 : am_mok2 245 am_245 (yX12_changes, cX12_changes, 3, some .int, [], 1) := am_mok_of (o := 12) rfl rfl (List.forall_mem_cons.mpr ⟨ck_245_0, List.forall_mem_cons.mpr ⟨ck_245_1, List.forall_mem_nil _⟩⟩) rfl (Or.inl rfl)
theorem ck_246_0 : (ac_246_0.all (am_ck 246 12 1 false 6 cX12_next)) = true := by decide +kernel
theorem ck_246_1 : (ac_246_1.all (am_ck 246 12 1 false 6 cX12_next)) = true := by decide +kernel
theorem ck_246_2 : (ac_246_2.all (am_ck 246 12 1 false 6 cX12_next)) = true := by decide +kernel
theorem mk_246 : am_mok2 246 am_246 (yX12_next, cX12_next, 6, some .int, [], 1) := am_mok_of (o := 12) rfl rfl (List.forall_mem_cons.mpr ⟨ck_246_0, List.forall_mem_cons.mpr ⟨ck_246_1, List.forall_mem_cons.mpr ⟨ck_246_2, List.forall_mem_nil _⟩⟩⟩) rfl (Or.inl rfl)
theorem ck_247_0 : (ac_247_0.all (am_ck 247 12 1 false 5 cX12_within)) = true := by decide +kernel
theorem ck_247_1 : (ac_247_1.all (am_ck 247 12 1 false 5 cX12_within)) = true := by decide +kernel
theorem ck_247_2 : (ac_247_2.all (am_ck 247 12 1 false 5 cX12_within)) = true := by decide +kernel
theorem mk_247 : am_mok2 247 am_247 (yX12_within, cX12_within, 5, some .int, [], 1) := am_mok_of (o := 12) rfl rfl (List.forall_mem_cons.mpr ⟨ck_247_0, List.forall_mem_cons.mpr ⟨ck_247_1, List.forall_mem_cons.mpr ⟨ck_247_2, List.forall_mem_nil _⟩⟩⟩) rfl (Or.inl rfl)
theorem ck_248_0 : (ac_248_0.all (am_ck 248 12 1 false 4 cX12_place)) = true := by decide +kernel
theorem ck_248_1 : (ac_248_1.all (am_ck 248 12 1 false 4 cX12_place)) = true := by decide +kernel
theorem mk_248 : am_mok2 248 am_248 (yX12_place, cX12_place, 4, some .int, [], 1) := am_mok_of (o := 12) rfl rfl (List.forall_mem_cons.mpr ⟨ck_248_0, List.forall_mem_cons.mpr ⟨ck_248_1, List.forall_mem_nil _⟩⟩) rfl (Or.inl rfl)
theorem ck_249_0 : (ac_249_0.all (am_ck 249 12 1 false 4 cX12_hasBy)) = true := by decide +kernel
theorem mk_249 : am_mok2 249 am_249 (yX12_hasBy, cX12_hasBy, 4, some .int, [], 0) := am_mok_of (o := 12) rfl rfl (List.forall_mem_cons.mpr ⟨ck_249_0, List.forall_mem_nil _⟩) rfl (Or.inl rfl)
theorem ck_250_0 : (ac_250_0.all (am_ck 250 12 5 false 4 cX12_isBest)) = true := by decide +kernel
theorem mk_250 : am_mok2 250 am_250 (yX12_isBest, cX12_isBest, 4, some .boolean, [], 0) := am_mok_of (o := 12) rfl rfl (List.forall_mem_cons.mpr ⟨ck_250_0, List.forall_mem_nil _⟩) rfl (Or.inl rfl)
theorem ck_251_0 : (ac_251_0.all (am_ck 251 12 1 false 9 cX12_ringers)) = true := by decide +kernel
theorem ck_251_1 : (ac_251_1.all (am_ck 251 12 1 false 9 cX12_ringers)) = true := by decide +kernel
theorem ck_251_2 : (ac_251_2.all (am_ck 251 12 1 false 9 cX12_ringers)) = true := by decide +kernel
theorem ck_251_3 : (ac_251_3.all (am_ck 251 12 1 false 9 cX12_ringers)) = true := by decide +kernel
theorem ck_251_4 : (ac_251_4.all (am_ck 251 12 1 false 9 cX12_ringers)) = true := by decide +kernel
theorem mk_251 : am_mok2 251 am_251 (yX12_ringers, cX12_ringers, 9, some .int, [], 1) := am_mok_of (o := 12) rfl rfl (List.forall_mem_cons.mpr ⟨ck_251_0, List.forall_mem_cons.mpr ⟨ck_251_1, List.forall_mem_cons.mpr ⟨ck_251_2, List.forall_mem_cons.mpr ⟨ck_251_3, List.forall_mem_cons.mpr ⟨ck_251_4, List.forall_mem_nil _⟩⟩⟩⟩⟩) rfl (Or.inl rfl)
theorem ck_252_0 : (ac_252_0.all (am_ck 252 12 2 false 13 cX12_sounds)) = true := by decide +kernel
theorem ck_252_1 : (ac_252_1.all (am_ck 252 12 2 false 13 cX12_sounds)) = true := by decide +kernel
theorem ck_252_2 : (ac_252_2.all (am_ck 252 12 2 false 13 cX12_sounds)) = true := by decide +kernel
theorem ck_252_3 : (ac_252_3.all (am_ck 252 12 2 false 13 cX12_sounds)) = true := by decide +kernel
theorem ck_252_4 : (ac_252_4.all (am_ck 252 12 2 false 13 cX12_sounds)) = true := by decide +kernel
theorem ck_252_5 : (ac_252_5.all (am_ck 252 12 2 false 13 cX12_sounds)) = true := by decide +kernel
theorem mk_252 : am_mok2 252 am_252 (yX12_sounds, cX12_sounds, 13, some .long, [], 1) := am_mok_of (o := 12) rfl rfl (List.forall_mem_cons.mpr ⟨ck_252_0, List.forall_mem_cons.mpr ⟨ck_252_1, List.forall_mem_cons.mpr ⟨ck_252_2, List.forall_mem_cons.mpr ⟨ck_252_3, List.forall_mem_cons.mpr ⟨ck_252_4, List.forall_mem_cons.mpr ⟨ck_252_5, List.forall_mem_nil _⟩⟩⟩⟩⟩⟩) rfl (Or.inl rfl)
theorem ck_253_0 : (ac_253_0.all (am_ck 253 12 1 false 5 cX12_givenBy)) = true := by decide +kernel
theorem ck_253_1 : (ac_253_1.all (am_ck 253 12 1 false 5 cX12_givenBy)) = true := by decide +kernel
theorem mk_253 : am_mok2 253 am_253 (yX12_givenBy, cX12_givenBy, 5, some .int, [], 1) := am_mok_of (o := 12) rfl rfl (List.forall_mem_cons.mpr ⟨ck_253_0, List.forall_mem_cons.mpr ⟨ck_253_1, List.forall_mem_nil _⟩⟩) rfl (Or.inl rfl)
theorem ck_254_0 : (ac_254_0.all (am_ck 254 12 1 false 5 cX12_metal)) = true := by decide +kernel
theorem ck_254_1 : (ac_254_1.all (am_ck 254 12 1 false 5 cX12_metal)) = true := by decide +kernel
theorem ck_254_2 : (ac_254_2.all (am_ck 254 12 1 false 5 cX12_metal)) = true := by decide +kernel
theorem mk_254 : am_mok2 254 am_254 (yX12_metal, cX12_metal, 5, some .int, [], 1) := am_mok_of (o := 12) rfl rfl (List.forall_mem_cons.mpr ⟨ck_254_0, List.forall_mem_cons.mpr ⟨ck_254_1, List.forall_mem_cons.mpr ⟨ck_254_2, List.forall_mem_nil _⟩⟩⟩) rfl (Or.inl rfl)
theorem ck_255_0 : (ac_255_0.all (am_ck 255 12 1 false 5 cX12_loudest)) = true := by decide +kernel
theorem ck_255_1 : (ac_255_1.all (am_ck 255 12 1 false 5 cX12_loudest)) = true := by decide +kernel
theorem ck_255_2 : (ac_255_2.all (am_ck 255 12 1 false 5 cX12_loudest)) = true := by decide +kernel
theorem mk_255 : am_mok2 255 am_255 (yX12_loudest, cX12_loudest, 5, some .int, [], 1) := am_mok_of (o := 12) rfl rfl (List.forall_mem_cons.mpr ⟨ck_255_0, List.forall_mem_cons.mpr ⟨ck_255_1, List.forall_mem_cons.mpr ⟨ck_255_2, List.forall_mem_nil _⟩⟩⟩) rfl (Or.inl rfl)
theorem ck_256_0 : (ac_256_0.all (am_ck 256 12 1 false 4 cX12_deaf)) = true := by decide +kernel
theorem ck_256_1 : (ac_256_1.all (am_ck 256 12 1 false 4 cX12_deaf)) = true := by decide +kernel
theorem mk_256 : am_mok2 256 am_256 (yX12_deaf, cX12_deaf, 4, some .int, [], 1) := am_mok_of (o := 12) rfl rfl (List.forall_mem_cons.mpr ⟨ck_256_0, List.forall_mem_cons.mpr ⟨ck_256_1, List.forall_mem_nil _⟩⟩) rfl (Or.inl rfl)
theorem ck_257_0 : (ac_257_0.all (am_ck 257 12 1 false 4 cX12_kin)) = true := by decide +kernel
theorem ck_257_1 : (ac_257_1.all (am_ck 257 12 1 false 4 cX12_kin)) = true := by decide +kernel
theorem ck_257_2 : (ac_257_2.all (am_ck 257 12 1 false 4 cX12_kin)) = true := by decide +kernel
theorem mk_257 : am_mok2 257 am_257 (yX12_kin, cX12_kin, 4, some .int, [], 1) := am_mok_of (o := 12) rfl rfl (List.forall_mem_cons.mpr ⟨ck_257_0, List.forall_mem_cons.mpr ⟨ck_257_1, List.forall_mem_cons.mpr ⟨ck_257_2, List.forall_mem_nil _⟩⟩⟩) rfl (Or.inl rfl)
theorem ck_258_0 : (ac_258_0.all (am_ck 258 12 1 false 2 cX12_draw)) = true := by decide +kernel
theorem mk_258 : am_mok2 258 am_258 (yX12_draw, cX12_draw, 2, some .int, [], 1) := am_mok_of (o := 12) rfl rfl (List.forall_mem_cons.mpr ⟨ck_258_0, List.forall_mem_nil _⟩) rfl (Or.inl rfl)
theorem ck_259_0 : (ac_259_0.all (am_ck 259 12 0 false 6 cX12_centuryBy)) = true := by decide +kernel
theorem ck_259_1 : (ac_259_1.all (am_ck 259 12 0 false 6 cX12_centuryBy)) = true := by decide +kernel
theorem ck_259_2 : (ac_259_2.all (am_ck 259 12 0 false 6 cX12_centuryBy)) = true := by decide +kernel
theorem mk_259 : am_mok2 259 am_259 (yX12_centuryBy, cX12_centuryBy, 6, none, [], 1) := am_mok_of (o := 12) rfl rfl (List.forall_mem_cons.mpr ⟨ck_259_0, List.forall_mem_cons.mpr ⟨ck_259_1, List.forall_mem_cons.mpr ⟨ck_259_2, List.forall_mem_nil _⟩⟩⟩) rfl (Or.inl rfl)
theorem ck_260_0 : (ac_260_0.all (am_ck 260 12 5 false 2 cX12_isCentury)) = true := by decide +kernel
theorem mk_260 : am_mok2 260 am_260 (yX12_isCentury, cX12_isCentury, 2, some .boolean, [], 0) := am_mok_of (o := 12) rfl rfl (List.forall_mem_cons.mpr ⟨ck_260_0, List.forall_mem_nil _⟩) rfl (Or.inl rfl)
theorem ck_261_0 : (ac_261_0.all (am_ck 261 12 1 false 5 cX12_century)) = true := by decide +kernel
theorem ck_261_1 : (ac_261_1.all (am_ck 261 12 1 false 5 cX12_century)) = true := by decide +kernel
theorem ck_261_2 : (ac_261_2.all (am_ck 261 12 1 false 5 cX12_century)) = true := by decide +kernel
theorem mk_261 : am_mok2 261 am_261 (yX12_century, cX12_century, 5, some .int, [], 1) := am_mok_of (o := 12) rfl rfl (List.forall_mem_cons.mpr ⟨ck_261_0, List.forall_mem_cons.mpr ⟨ck_261_1, List.forall_mem_cons.mpr ⟨ck_261_2, List.forall_mem_nil _⟩⟩⟩) rfl (Or.inl rfl)
theorem ck_262_0 : (ac_262_0.all (am_ck 262 12 1 false 12 cX12_span)) = true := by decide +kernel
theorem ck_262_1 : (ac_262_1.all (am_ck 262 12 1 false 12 cX12_span)) = true := by decide +kernel
theorem ck_262_2 : (ac_262_2.all (am_ck 262 12 1 false 12 cX12_span)) = true := by decide +kernel
theorem ck_262_3 : (ac_262_3.all (am_ck 262 12 1 false 12 cX12_span)) = true := by decide +kernel
theorem ck_262_4 : (ac_262_4.all (am_ck 262 12 1 false 12 cX12_span)) = true := by decide +kernel
theorem mk_262 : am_mok2 262 am_262 (yX12_span, cX12_span, 12, some .int, [], 1) := am_mok_of (o := 12) rfl rfl (List.forall_mem_cons.mpr ⟨ck_262_0, List.forall_mem_cons.mpr ⟨ck_262_1, List.forall_mem_cons.mpr ⟨ck_262_2, List.forall_mem_cons.mpr ⟨ck_262_3, List.forall_mem_cons.mpr ⟨ck_262_4, List.forall_mem_nil _⟩⟩⟩⟩⟩) rfl (Or.inl rfl)
theorem ck_263_0 : (ac_263_0.all (am_ck 263 12 1 false 4 cX12_puts)) = true := by decide +kernel
theorem mk_263 : am_mok2 263 am_263 (yX12_puts, cX12_puts, 4, some .int, [], 1) := am_mok_of (o := 12) rfl rfl (List.forall_mem_cons.mpr ⟨ck_263_0, List.forall_mem_nil _⟩) rfl (Or.inl rfl)
theorem ck_264_0 : (ac_264_0.all (am_ck 264 12 0 false 5 cX12_putsAll)) = true := by decide +kernel
theorem ck_264_1 : (ac_264_1.all (am_ck 264 12 0 false 5 cX12_putsAll)) = true := by decide +kernel
theorem ck_264_2 : (ac_264_2.all (am_ck 264 12 0 false 5 cX12_putsAll)) = true := by decide +kernel
theorem mk_264 : am_mok2 264 am_264 (yX12_putsAll, cX12_putsAll, 5, none, [], 1) := am_mok_of (o := 12) rfl rfl (List.forall_mem_cons.mpr ⟨ck_264_0, List.forall_mem_cons.mpr ⟨ck_264_1, List.forall_mem_cons.mpr ⟨ck_264_2, List.forall_mem_nil _⟩⟩⟩) rfl (Or.inl rfl)
theorem ck_265_0 : (ac_265_0.all (am_ck 265 12 1 false 1 cX12_image)) = true := by decide +kernel
theorem ck_265_1 : (ac_265_1.all (am_ck 265 12 1 false 1 cX12_image)) = true := by decide +kernel
theorem mk_265 : am_mok2 265 am_265 (yX12_image, cX12_image, 1, some .int, [], 1) := am_mok_of (o := 12) rfl rfl (List.forall_mem_cons.mpr ⟨ck_265_0, List.forall_mem_cons.mpr ⟨ck_265_1, List.forall_mem_nil _⟩⟩) rfl (Or.inl rfl)
theorem ck_266_0 : (ac_266_0.all (am_ck 266 12 1 false 1 cX12_restore)) = true := by decide +kernel
theorem ck_266_1 : (ac_266_1.all (am_ck 266 12 1 false 1 cX12_restore)) = true := by decide +kernel
theorem mk_266 : am_mok2 266 am_266 (yX12_restore, cX12_restore, 1, some .int, [], 1) := am_mok_of (o := 12) rfl rfl (List.forall_mem_cons.mpr ⟨ck_266_0, List.forall_mem_cons.mpr ⟨ck_266_1, List.forall_mem_nil _⟩⟩) rfl (Or.inl rfl)
theorem ck_267_0 : (ac_267_0.all (am_ck 267 12 1 false 2 cX12_status)) = true := by decide +kernel
theorem mk_267 : am_mok2 267 am_267 (yX12_status, cX12_status, 2, some .int, [], 1) := am_mok_of (o := 12) rfl rfl (List.forall_mem_cons.mpr ⟨ck_267_0, List.forall_mem_nil _⟩) rfl (Or.inl rfl)
theorem ck_268_0 : (ac_268_0.all (am_ck 268 12 1 false 2 cX12_count)) = true := by decide +kernel
theorem mk_268 : am_mok2 268 am_268 (yX12_count, cX12_count, 2, some .int, [], 1) := am_mok_of (o := 12) rfl rfl (List.forall_mem_cons.mpr ⟨ck_268_0, List.forall_mem_nil _⟩) rfl (Or.inl rfl)
theorem ck_269_0 : (ac_269_0.all (am_ck 269 15 1 false 1 cJ6_bitCount_0f7a4)) = true := by decide +kernel
theorem ck_269_1 : (ac_269_1.all (am_ck 269 15 1 false 1 cJ6_bitCount_0f7a4)) = true := by decide +kernel
theorem mk_269 : am_mok2 269 am_269 (yJ6_bitCount_0f7a4, cJ6_bitCount_0f7a4, 1, some .int, [], 0) := am_mok_of (o := 15) rfl rfl (List.forall_mem_cons.mpr ⟨ck_269_0, List.forall_mem_cons.mpr ⟨ck_269_1, List.forall_mem_nil _⟩⟩) rfl (Or.inl rfl)
theorem ck_270_0 : (ac_270_0.all (am_ck 270 14 1 false 1 cJ9_abs_0f7a4)) = true := by decide +kernel
theorem mk_270 : am_mok2 270 am_270 (yJ9_abs_0f7a4, cJ9_abs_0f7a4, 1, some .int, [], 0) := am_mok_of (o := 14) rfl rfl (List.forall_mem_cons.mpr ⟨ck_270_0, List.forall_mem_nil _⟩) rfl (Or.inl rfl)
theorem ck_271_0 : (ac_271_0.all (am_ck 271 14 1 false 2 cJ9_max_7cf53)) = true := by decide +kernel
theorem mk_271 : am_mok2 271 am_271 (yJ9_max_7cf53, cJ9_max_7cf53, 2, some .int, [], 0) := am_mok_of (o := 14) rfl rfl (List.forall_mem_cons.mpr ⟨ck_271_0, List.forall_mem_nil _⟩) rfl (Or.inl rfl)
theorem ck_272_0 : (ac_272_0.all (am_ck 272 14 1 false 2 cJ9_min_7cf53)) = true := by decide +kernel
theorem mk_272 : am_mok2 272 am_272 (yJ9_min_7cf53, cJ9_min_7cf53, 2, some .int, [], 0) := am_mok_of (o := 14) rfl rfl (List.forall_mem_cons.mpr ⟨ck_272_0, List.forall_mem_nil _⟩) rfl (Or.inl rfl)
theorem ck_273_0 : (ac_273_0.all (am_ck 273 17 1 false 1 cJ0_length_8abf5)) = true := by decide +kernel
theorem mk_273 : am_mok2 273 am_273 (yJ0_length_8abf5, cJ0_length_8abf5, 1, some .int, [], 1) := am_mok_of (o := 17) rfl rfl (List.forall_mem_cons.mpr ⟨ck_273_0, List.forall_mem_nil _⟩) rfl (Or.inl rfl)
theorem ck_274_0 : (ac_274_0.all (am_ck 274 17 6 false 2 cJ0_charAt_5068e)) = true := by decide +kernel
theorem mk_274 : am_mok2 274 am_274 (yJ0_charAt_5068e, cJ0_charAt_5068e, 2, some .char, [], 1) := am_mok_of (o := 17) rfl rfl (List.forall_mem_cons.mpr ⟨ck_274_0, List.forall_mem_nil _⟩) rfl (Or.inl rfl)
theorem ck_275_0 : (ac_275_0.all (am_ck 275 17 7 false 1 cJ0_coder_7d493)) = true := by decide +kernel
theorem mk_275 : am_mok2 275 am_275 (yJ0_coder_7d493, cJ0_coder_7d493, 1, some .byte, [], 1) := am_mok_of (o := 17) rfl rfl (List.forall_mem_cons.mpr ⟨ck_275_0, List.forall_mem_nil _⟩) rfl (Or.inl rfl)
theorem ck_276_0 : (ac_276_0.all (am_ck 276 17 5 false 1 cJ0_isLatin1_aae02)) = true := by decide +kernel
theorem mk_276 : am_mok2 276 am_276 (yJ0_isLatin1_aae02, cJ0_isLatin1_aae02, 1, some .boolean, [], 1) := am_mok_of (o := 17) rfl rfl (List.forall_mem_cons.mpr ⟨ck_276_0, List.forall_mem_nil _⟩) rfl (Or.inl rfl)
theorem ck_277_0 : (ac_277_0.all (am_ck 277 17 0 false 2 cJ0_checkIndex_df160)) = true := by decide +kernel
theorem mk_277 : am_mok2 277 am_277 (yJ0_checkIndex_df160, cJ0_checkIndex_df160, 2, none, [], 0) := am_mok_of (o := 17) rfl rfl (List.forall_mem_cons.mpr ⟨ck_277_0, List.forall_mem_nil _⟩) rfl (Or.inl rfl)
theorem ck_278_0 : (ac_278_0.all (am_ck 278 18 6 false 2 cJ1_charAt_3b067)) = true := by decide +kernel
theorem mk_278 : am_mok2 278 am_278 (yJ1_charAt_3b067, cJ1_charAt_3b067, 2, some .char, [], 0) := am_mok_of (o := 18) rfl rfl (List.forall_mem_cons.mpr ⟨ck_278_0, List.forall_mem_nil _⟩) rfl (Or.inl rfl)
theorem ck_279_0 : (ac_279_0.all (am_ck 279 16 0 false 4 cJ7_fill_53178)) = true := by decide +kernel
theorem mk_279 : am_mok2 279 am_279 (yJ7_fill_53178, cJ7_fill_53178, 4, none, [], 0) := am_mok_of (o := 16) rfl rfl (List.forall_mem_cons.mpr ⟨ck_279_0, List.forall_mem_nil _⟩) rfl (Or.inl rfl)
theorem mka_6 : mk_all 240 [am_240, am_241, am_242, am_243, am_244, am_245, am_246, am_247, am_248, am_249, am_250, am_251, am_252, am_253, am_254, am_255, am_256, am_257, am_258, am_259, am_260, am_261, am_262, am_263, am_264, am_265, am_266, am_267, am_268, am_269, am_270, am_271, am_272, am_273, am_274, am_275, am_276, am_277, am_278, am_279] mi_l6 := ⟨mk_240, mk_241, mk_242, mk_243, mk_244, mk_245, mk_246, mk_247, mk_248, mk_249, mk_250, mk_251, mk_252, mk_253, mk_254, mk_255, mk_256, mk_257, mk_258, mk_259, mk_260, mk_261, mk_262, mk_263, mk_264, mk_265, mk_266, mk_267, mk_268, mk_269, mk_270, mk_271, mk_272, mk_273, mk_274, mk_275, mk_276, mk_277, mk_278, mk_279, trivial⟩
