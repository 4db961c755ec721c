/-! The checks of my code tables, on. -/
theorem ck_280_0 : (ac_280_0.all (am_ck 280 19 1 false 3 cJ3_checkIndex_8e157)) = true := by decide +kernel
theorem mk_280 : am_mok2 280 am_280 (yJ3_checkIndex_8e157, cJ3_checkIndex_8e157, 3, some .int, [], 0) := am_mok_of (o := 19) rfl rfl (List.forall_mem_cons.mpr ⟨ck_280_0, List.forall_mem_nil _⟩) rfl (Or.inl rfl)
theorem ck_281_0 : (ac_281_0.all (am_ck 281 13 1 false 4 cL_district)) = true := by decide +kernel
theorem mk_281 : am_mok2 281 am_281 (yL_district, cL_district, 4, some .int, [(0, 9, 12, 13)], 0) := am_mok_of (o := 13) rfl rfl (List.forall_mem_cons.mpr ⟨ck_281_0, List.forall_mem_nil _⟩) rfl (Or.inr rfl)
theorem ck_282_0 : (ac_282_0.all (am_ck 282 13 1 false 4 cL_law)) = true := by decide +kernel
theorem mk_282 : am_mok2 282 am_282 (yL_law, cL_law, 4, some .int, [(0, 9, 12, 13)], 0) := am_mok_of (o := 13) rfl rfl (List.forall_mem_cons.mpr ⟨ck_282_0, List.forall_mem_nil _⟩) rfl (Or.inr rfl)
theorem ck_283_0 : (ac_283_0.all (am_ck 283 13 1 false 4 cL_work)) = true := by decide +kernel
theorem mk_283 : am_mok2 283 am_283 (yL_work, cL_work, 4, some .int, [(0, 9, 12, 13)], 0) := am_mok_of (o := 13) rfl rfl (List.forall_mem_cons.mpr ⟨ck_283_0, List.forall_mem_nil _⟩) rfl (Or.inr rfl)
theorem ck_284_0 : (ac_284_0.all (am_ck 284 13 1 false 4 cL_book)) = true := by decide +kernel
theorem mk_284 : am_mok2 284 am_284 (yL_book, cL_book, 4, some .int, [(0, 9, 12, 13)], 0) := am_mok_of (o := 13) rfl rfl (List.forall_mem_cons.mpr ⟨ck_284_0, List.forall_mem_nil _⟩) rfl (Or.inr rfl)
theorem ck_285_0 : (ac_285_0.all (am_ck 285 13 1 false 4 cL_told)) = true := by decide +kernel
theorem mk_285 : am_mok2 285 am_285 (yL_told, cL_told, 4, some .int, [(0, 9, 12, 13)], 0) := am_mok_of (o := 13) rfl rfl (List.forall_mem_cons.mpr ⟨ck_285_0, List.forall_mem_nil _⟩) rfl (Or.inr rfl)
theorem ck_286_0 : (ac_286_0.all (am_ck 286 13 1 false 5 cL_bell)) = true := by decide +kernel
theorem mk_286 : am_mok2 286 am_286 (yL_bell, cL_bell, 5, some .int, [(0, 10, 13, 31), (0, 10, 17, 13)], 0) := am_mok_of (o := 13) rfl rfl (List.forall_mem_cons.mpr ⟨ck_286_0, List.forall_mem_nil _⟩) rfl (Or.inr rfl)
theorem ck_287_0 : (ac_287_0.all (am_ck 287 13 1 false 5 cL_house)) = true := by decide +kernel
theorem mk_287 : am_mok2 287 am_287 (yL_house, cL_house, 5, some .int, [(0, 10, 13, 31), (0, 10, 17, 13)], 0) := am_mok_of (o := 13) rfl rfl (List.forall_mem_cons.mpr ⟨ck_287_0, List.forall_mem_nil _⟩) rfl (Or.inr rfl)
theorem ck_288_0 : (ac_288_0.all (am_ck 288 13 1 false 5 cL_deed)) = true := by decide +kernel
theorem mk_288 : am_mok2 288 am_288 (yL_deed, cL_deed, 5, some .int, [(0, 10, 13, 31), (0, 10, 17, 13)], 0) := am_mok_of (o := 13) rfl rfl (List.forall_mem_cons.mpr ⟨ck_288_0, List.forall_mem_nil _⟩) rfl (Or.inr rfl)
theorem ck_289_0 : (ac_289_0.all (am_ck 289 13 1 false 5 cL_temper)) = true := by decide +kernel
theorem mk_289 : am_mok2 289 am_289 (yL_temper, cL_temper, 5, some .int, [(0, 10, 13, 31), (0, 10, 17, 13)], 0) := am_mok_of (o := 13) rfl rfl (List.forall_mem_cons.mpr ⟨ck_289_0, List.forall_mem_nil _⟩) rfl (Or.inr rfl)
theorem ck_290_0 : (ac_290_0.all (am_ck 290 13 1 false 5 cL_heard)) = true := by decide +kernel
theorem mk_290 : am_mok2 290 am_290 (yL_heard, cL_heard, 5, some .int, [(0, 10, 13, 31)], 0) := am_mok_of (o := 13) rfl rfl (List.forall_mem_cons.mpr ⟨ck_290_0, List.forall_mem_nil _⟩) rfl (Or.inr rfl)
theorem ck_291_0 : (ac_291_0.all (am_ck 291 13 1 false 12 cL_would)) = true := by decide +kernel
theorem mk_291 : am_mok2 291 am_291 (yL_would, cL_would, 12, some .int, [(0, 24, 27, 13)], 0) := am_mok_of (o := 13) rfl rfl (List.forall_mem_cons.mpr ⟨ck_291_0, List.forall_mem_nil _⟩) rfl (Or.inr rfl)
theorem ck_292_0 : (ac_292_0.all (am_ck 292 13 1 false 5 cL_ahead)) = true := by decide +kernel
theorem mk_292 : am_mok2 292 am_292 (yL_ahead, cL_ahead, 5, some .int, [(0, 10, 13, 13)], 0) := am_mok_of (o := 13) rfl rfl (List.forall_mem_cons.mpr ⟨ck_292_0, List.forall_mem_nil _⟩) rfl (Or.inr rfl)
theorem ck_293_0 : (ac_293_0.all (am_ck 293 13 1 false 4 cL_sleeps)) = true := by decide +kernel
theorem mk_293 : am_mok2 293 am_293 (yL_sleeps, cL_sleeps, 4, some .int, [(0, 9, 12, 31)], 0) := am_mok_of (o := 13) rfl rfl (List.forall_mem_cons.mpr ⟨ck_293_0, List.forall_mem_nil _⟩) rfl (Or.inr rfl)
theorem ck_294_0 : (ac_294_0.all (am_ck 294 13 1 false 5 cL_rouse)) = true := by decide +kernel
theorem mk_294 : am_mok2 294 am_294 (yL_rouse, cL_rouse, 5, some .int, [(0, 10, 13, 31), (0, 10, 17, 13)], 0) := am_mok_of (o := 13) rfl rfl (List.forall_mem_cons.mpr ⟨ck_294_0, List.forall_mem_nil _⟩) rfl (Or.inr rfl)
theorem ck_295_0 : (ac_295_0.all (am_ck 295 13 1 false 4 cL_suited)) = true := by decide +kernel
theorem mk_295 : am_mok2 295 am_295 (yL_suited, cL_suited, 4, some .int, [(0, 9, 12, 31)], 0) := am_mok_of (o := 13) rfl rfl (List.forall_mem_cons.mpr ⟨ck_295_0, List.forall_mem_nil _⟩) rfl (Or.inr rfl)
theorem ck_296_0 : (ac_296_0.all (am_ck 296 13 1 false 5 cL_pulls)) = true := by decide +kernel
theorem mk_296 : am_mok2 296 am_296 (yL_pulls, cL_pulls, 5, some .int, [(0, 10, 13, 31), (0, 10, 17, 13)], 0) := am_mok_of (o := 13) rfl rfl (List.forall_mem_cons.mpr ⟨ck_296_0, List.forall_mem_nil _⟩) rfl (Or.inr rfl)
theorem ck_297_0 : (ac_297_0.all (am_ck 297 13 1 false 4 cL_cast)) = true := by decide +kernel
theorem mk_297 : am_mok2 297 am_297 (yL_cast, cL_cast, 4, some .int, [(0, 9, 12, 13)], 0) := am_mok_of (o := 13) rfl rfl (List.forall_mem_cons.mpr ⟨ck_297_0, List.forall_mem_nil _⟩) rfl (Or.inr rfl)
theorem ck_298_0 : (ac_298_0.all (am_ck 298 13 1 false 4 cL_ask)) = true := by decide +kernel
theorem mk_298 : am_mok2 298 am_298 (yL_ask, cL_ask, 4, some .int, [(0, 9, 12, 13)], 0) := am_mok_of (o := 13) rfl rfl (List.forall_mem_cons.mpr ⟨ck_298_0, List.forall_mem_nil _⟩) rfl (Or.inr rfl)
theorem ck_299_0 : (ac_299_0.all (am_ck 299 13 1 false 5 cL_changes)) = true := by decide +kernel
theorem mk_299 : am_mok2 299 am_299 (yL_changes, cL_changes, 5, some .int, [(0, 10, 13, 13)], 0) := am_mok_of (o := 13) rfl rfl (List.forall_mem_cons.mpr ⟨ck_299_0, List.forall_mem_nil _⟩) rfl (Or.inr rfl)
theorem ck_300_0 : (ac_300_0.all (am_ck 300 13 1 false 5 cL_next)) = true := by decide +kernel
theorem mk_300 : am_mok2 300 am_300 (yL_next, cL_next, 5, some .int, [(0, 10, 13, 13)], 0) := am_mok_of (o := 13) rfl rfl (List.forall_mem_cons.mpr ⟨ck_300_0, List.forall_mem_nil _⟩) rfl (Or.inr rfl)
theorem ck_301_0 : (ac_301_0.all (am_ck 301 13 1 false 5 cL_within)) = true := by decide +kernel
theorem mk_301 : am_mok2 301 am_301 (yL_within, cL_within, 5, some .int, [(0, 10, 13, 13)], 0) := am_mok_of (o := 13) rfl rfl (List.forall_mem_cons.mpr ⟨ck_301_0, List.forall_mem_nil _⟩) rfl (Or.inr rfl)
theorem ck_302_0 : (ac_302_0.all (am_ck 302 13 1 false 6 cL_place)) = true := by decide +kernel
theorem mk_302 : am_mok2 302 am_302 (yL_place, cL_place, 6, some .int, [(0, 12, 15, 13)], 0) := am_mok_of (o := 13) rfl rfl (List.forall_mem_cons.mpr ⟨ck_302_0, List.forall_mem_nil _⟩) rfl (Or.inr rfl)
theorem ck_303_0 : (ac_303_0.all (am_ck 303 13 1 false 6 cL_ringers)) = true := by decide +kernel
theorem mk_303 : am_mok2 303 am_303 (yL_ringers, cL_ringers, 6, some .int, [(0, 12, 15, 13)], 0) := am_mok_of (o := 13) rfl rfl (List.forall_mem_cons.mpr ⟨ck_303_0, List.forall_mem_nil _⟩) rfl (Or.inr rfl)
theorem ck_304_0 : (ac_304_0.all (am_ck 304 13 1 false 7 cL_sounds)) = true := by decide +kernel
theorem mk_304 : am_mok2 304 am_304 (yL_sounds, cL_sounds, 7, some .int, [(0, 13, 16, 13)], 0) := am_mok_of (o := 13) rfl rfl (List.forall_mem_cons.mpr ⟨ck_304_0, List.forall_mem_nil _⟩) rfl (Or.inr rfl)
theorem ck_305_0 : (ac_305_0.all (am_ck 305 13 1 false 6 cL_metal)) = true := by decide +kernel
theorem mk_305 : am_mok2 305 am_305 (yL_metal, cL_metal, 6, some .int, [(0, 12, 15, 31), (0, 12, 19, 13)], 0) := am_mok_of (o := 13) rfl rfl (List.forall_mem_cons.mpr ⟨ck_305_0, List.forall_mem_nil _⟩) rfl (Or.inr rfl)
theorem ck_306_0 : (ac_306_0.all (am_ck 306 13 1 false 4 cL_loudest)) = true := by decide +kernel
theorem mk_306 : am_mok2 306 am_306 (yL_loudest, cL_loudest, 4, some .int, [(0, 9, 12, 13)], 0) := am_mok_of (o := 13) rfl rfl (List.forall_mem_cons.mpr ⟨ck_306_0, List.forall_mem_nil _⟩) rfl (Or.inr rfl)
theorem ck_307_0 : (ac_307_0.all (am_ck 307 13 1 false 4 cL_deaf)) = true := by decide +kernel
theorem mk_307 : am_mok2 307 am_307 (yL_deaf, cL_deaf, 4, some .int, [(0, 9, 12, 31)], 0) := am_mok_of (o := 13) rfl rfl (List.forall_mem_cons.mpr ⟨ck_307_0, List.forall_mem_nil _⟩) rfl (Or.inr rfl)
theorem ck_308_0 : (ac_308_0.all (am_ck 308 13 1 false 4 cL_kin)) = true := by decide +kernel
theorem mk_308 : am_mok2 308 am_308 (yL_kin, cL_kin, 4, some .int, [(0, 9, 12, 13)], 0) := am_mok_of (o := 13) rfl rfl (List.forall_mem_cons.mpr ⟨ck_308_0, List.forall_mem_nil _⟩) rfl (Or.inr rfl)
theorem ck_309_0 : (ac_309_0.all (am_ck 309 13 1 false 7 cL_century)) = true := by decide +kernel
theorem mk_309 : am_mok2 309 am_309 (yL_century, cL_century, 7, some .int, [(0, 14, 17, 13)], 0) := am_mok_of (o := 13) rfl rfl (List.forall_mem_cons.mpr ⟨ck_309_0, List.forall_mem_nil _⟩) rfl (Or.inr rfl)
theorem ck_310_0 : (ac_310_0.all (am_ck 310 13 1 false 9 cL_span)) = true := by decide +kernel
theorem mk_310 : am_mok2 310 am_310 (yL_span, cL_span, 9, some .int, [(0, 18, 21, 13)], 0) := am_mok_of (o := 13) rfl rfl (List.forall_mem_cons.mpr ⟨ck_310_0, List.forall_mem_nil _⟩) rfl (Or.inr rfl)
