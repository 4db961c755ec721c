/-! The rows of the reference that lie in rows. -/
theorem kr339 : kk0[339]? = some (102, 6) ∧ ∀ i, i < 6 → kk0[340 + i]? = some (100, 2) ∧ (339, i, 340 + i) ∈ pp0 := by decide +kernel
theorem fr339 {G : am_G} (h : Sh G) : (∀ i, i < 6 → am_ra G 339 (wn i)) ∧ (∀ i, i < 6 → am_gP G 339 i = 340 + i) ∧ (∀ i, i < 6 → 340 + i < 90000) ∧ (∀ i j, i < 6 → j < 2 → am_ia G (340 + i) (wn j)) ∧ ∀ i j, i < 6 → j < 2 → am_ow G (340 + i) (wn j) 100 :=
  ⟨fun i hi => h.ra kr339.1 hi (by decide), fun i hi => h.2 _ (kr339.2 i hi).2, fun i hi => by omega, fun i j hi hj => h.ia (kr339.2 i hi).1 hj (by decide), fun i j hi hj => h.ow (kr339.2 i hi).1 hj (by decide)⟩
theorem kr346 : kk0[346]? = some (102, 6) ∧ ∀ i, i < 6 → kk0[347 + i]? = some (100, 2) ∧ (346, i, 347 + i) ∈ pp0 := by decide +kernel
theorem fr346 {G : am_G} (h : Sh G) : (∀ i, i < 6 → am_ra G 346 (wn i)) ∧ (∀ i, i < 6 → am_gP G 346 i = 347 + i) ∧ (∀ i, i < 6 → 347 + i < 90000) ∧ (∀ i j, i < 6 → j < 2 → am_ia G (347 + i) (wn j)) ∧ ∀ i j, i < 6 → j < 2 → am_ow G (347 + i) (wn j) 100 :=
  ⟨fun i hi => h.ra kr346.1 hi (by decide), fun i hi => h.2 _ (kr346.2 i hi).2, fun i hi => by omega, fun i j hi hj => h.ia (kr346.2 i hi).1 hj (by decide), fun i j hi hj => h.ow (kr346.2 i hi).1 hj (by decide)⟩
theorem kr353 : kk0[353]? = some (102, 7) ∧ ∀ i, i < 7 → kk0[354 + i]? = some (100, 2) ∧ (353, i, 354 + i) ∈ pp0 := by decide +kernel
theorem fr353 {G : am_G} (h : Sh G) : (∀ i, i < 7 → am_ra G 353 (wn i)) ∧ (∀ i, i < 7 → am_gP G 353 i = 354 + i) ∧ (∀ i, i < 7 → 354 + i < 90000) ∧ (∀ i j, i < 7 → j < 2 → am_ia G (354 + i) (wn j)) ∧ ∀ i j, i < 7 → j < 2 → am_ow G (354 + i) (wn j) 100 :=
  ⟨fun i hi => h.ra kr353.1 hi (by decide), fun i hi => h.2 _ (kr353.2 i hi).2, fun i hi => by omega, fun i j hi hj => h.ia (kr353.2 i hi).1 hj (by decide), fun i j hi hj => h.ow (kr353.2 i hi).1 hj (by decide)⟩
theorem kr361 : kk0[361]? = some (102, 7) ∧ ∀ i, i < 7 → kk0[362 + i]? = some (100, 2) ∧ (361, i, 362 + i) ∈ pp0 := by decide +kernel
theorem fr361 {G : am_G} (h : Sh G) : (∀ i, i < 7 → am_ra G 361 (wn i)) ∧ (∀ i, i < 7 → am_gP G 361 i = 362 + i) ∧ (∀ i, i < 7 → 362 + i < 90000) ∧ (∀ i j, i < 7 → j < 2 → am_ia G (362 + i) (wn j)) ∧ ∀ i j, i < 7 → j < 2 → am_ow G (362 + i) (wn j) 100 :=
  ⟨fun i hi => h.ra kr361.1 hi (by decide), fun i hi => h.2 _ (kr361.2 i hi).2, fun i hi => by omega, fun i j hi hj => h.ia (kr361.2 i hi).1 hj (by decide), fun i j hi hj => h.ow (kr361.2 i hi).1 hj (by decide)⟩
theorem kr369 : kk0[369]? = some (102, 8) ∧ ∀ i, i < 8 → kk0[370 + i]? = some (100, 3) ∧ (369, i, 370 + i) ∈ pp0 := by decide +kernel
theorem fr369 {G : am_G} (h : Sh G) : (∀ i, i < 8 → am_ra G 369 (wn i)) ∧ (∀ i, i < 8 → am_gP G 369 i = 370 + i) ∧ (∀ i, i < 8 → 370 + i < 90000) ∧ (∀ i j, i < 8 → j < 3 → am_ia G (370 + i) (wn j)) ∧ ∀ i j, i < 8 → j < 3 → am_ow G (370 + i) (wn j) 100 :=
  ⟨fun i hi => h.ra kr369.1 hi (by decide), fun i hi => h.2 _ (kr369.2 i hi).2, fun i hi => by omega, fun i j hi hj => h.ia (kr369.2 i hi).1 hj (by decide), fun i j hi hj => h.ow (kr369.2 i hi).1 hj (by decide)⟩
theorem kr378 : kk0[378]? = some (102, 8) ∧ ∀ i, i < 8 → kk0[379 + i]? = some (100, 3) ∧ (378, i, 379 + i) ∈ pp0 := by decide +kernel
theorem fr378 {G : am_G} (h : Sh G) : (∀ i, i < 8 → am_ra G 378 (wn i)) ∧ (∀ i, i < 8 → am_gP G 378 i = 379 + i) ∧ (∀ i, i < 8 → 379 + i < 90000) ∧ (∀ i j, i < 8 → j < 3 → am_ia G (379 + i) (wn j)) ∧ ∀ i j, i < 8 → j < 3 → am_ow G (379 + i) (wn j) 100 :=
  ⟨fun i hi => h.ra kr378.1 hi (by decide), fun i hi => h.2 _ (kr378.2 i hi).2, fun i hi => by omega, fun i j hi hj => h.ia (kr378.2 i hi).1 hj (by decide), fun i j hi hj => h.ow (kr378.2 i hi).1 hj (by decide)⟩
theorem kr387 : kk0[387]? = some (102, 160) ∧ ∀ i, i < 160 → kk0[388 + i]? = some (100, 2) ∧ (387, i, 388 + i) ∈ pp0 := by decide +kernel
theorem fr387 {G : am_G} (h : Sh G) : (∀ i, i < 160 → am_ra G 387 (wn i)) ∧ (∀ i, i < 160 → am_gP G 387 i = 388 + i) ∧ (∀ i, i < 160 → 388 + i < 90000) ∧ (∀ i j, i < 160 → j < 2 → am_ia G (388 + i) (wn j)) ∧ ∀ i j, i < 160 → j < 2 → am_ow G (388 + i) (wn j) 100 :=
  ⟨fun i hi => h.ra kr387.1 hi (by decide), fun i hi => h.2 _ (kr387.2 i hi).2, fun i hi => by omega, fun i j hi hj => h.ia (kr387.2 i hi).1 hj (by decide), fun i j hi hj => h.ow (kr387.2 i hi).1 hj (by decide)⟩
theorem kr548 : kk0[548]? = some (102, 160) ∧ ∀ i, i < 160 → kk0[549 + i]? = some (100, 2) ∧ (548, i, 549 + i) ∈ pp0 := by decide +kernel
theorem fr548 {G : am_G} (h : Sh G) : (∀ i, i < 160 → am_ra G 548 (wn i)) ∧ (∀ i, i < 160 → am_gP G 548 i = 549 + i) ∧ (∀ i, i < 160 → 549 + i < 90000) ∧ (∀ i j, i < 160 → j < 2 → am_ia G (549 + i) (wn j)) ∧ ∀ i j, i < 160 → j < 2 → am_ow G (549 + i) (wn j) 100 :=
  ⟨fun i hi => h.ra kr548.1 hi (by decide), fun i hi => h.2 _ (kr548.2 i hi).2, fun i hi => by omega, fun i j hi hj => h.ia (kr548.2 i hi).1 hj (by decide), fun i j hi hj => h.ow (kr548.2 i hi).1 hj (by decide)⟩
theorem kr709 : kk0[709]? = some (102, 7) ∧ ∀ i, i < 7 → kk0[710 + i]? = some (100, 2) ∧ (709, i, 710 + i) ∈ pp0 := by decide +kernel
theorem fr709 {G : am_G} (h : Sh G) : (∀ i, i < 7 → am_ra G 709 (wn i)) ∧ (∀ i, i < 7 → am_gP G 709 i = 710 + i) ∧ (∀ i, i < 7 → 710 + i < 90000) ∧ (∀ i j, i < 7 → j < 2 → am_ia G (710 + i) (wn j)) ∧ ∀ i j, i < 7 → j < 2 → am_ow G (710 + i) (wn j) 100 :=
  ⟨fun i hi => h.ra kr709.1 hi (by decide), fun i hi => h.2 _ (kr709.2 i hi).2, fun i hi => by omega, fun i j hi hj => h.ia (kr709.2 i hi).1 hj (by decide), fun i j hi hj => h.ow (kr709.2 i hi).1 hj (by decide)⟩
theorem kr717 : kk0[717]? = some (102, 7) ∧ ∀ i, i < 7 → kk0[718 + i]? = some (100, 2) ∧ (717, i, 718 + i) ∈ pp0 := by decide +kernel
theorem fr717 {G : am_G} (h : Sh G) : (∀ i, i < 7 → am_ra G 717 (wn i)) ∧ (∀ i, i < 7 → am_gP G 717 i = 718 + i) ∧ (∀ i, i < 7 → 718 + i < 90000) ∧ (∀ i j, i < 7 → j < 2 → am_ia G (718 + i) (wn j)) ∧ ∀ i j, i < 7 → j < 2 → am_ow G (718 + i) (wn j) 100 :=
  ⟨fun i hi => h.ra kr717.1 hi (by decide), fun i hi => h.2 _ (kr717.2 i hi).2, fun i hi => by omega, fun i j hi hj => h.ia (kr717.2 i hi).1 hj (by decide), fun i j hi hj => h.ow (kr717.2 i hi).1 hj (by decide)⟩
theorem kr727 : kk0[727]? = some (102, 80) ∧ ∀ i, i < 80 → kk0[728 + i]? = some (100, 3) ∧ (727, i, 728 + i) ∈ pp0 := by decide +kernel
theorem fr727 {G : am_G} (h : Sh G) : (∀ i, i < 80 → am_ra G 727 (wn i)) ∧ (∀ i, i < 80 → am_gP G 727 i = 728 + i) ∧ (∀ i, i < 80 → 728 + i < 90000) ∧ (∀ i j, i < 80 → j < 3 → am_ia G (728 + i) (wn j)) ∧ ∀ i j, i < 80 → j < 3 → am_ow G (728 + i) (wn j) 100 :=
  ⟨fun i hi => h.ra kr727.1 hi (by decide), fun i hi => h.2 _ (kr727.2 i hi).2, fun i hi => by omega, fun i j hi hj => h.ia (kr727.2 i hi).1 hj (by decide), fun i j hi hj => h.ow (kr727.2 i hi).1 hj (by decide)⟩
theorem fr810 {G : am_G} (h : Sh G) : (∀ i, i < 16 → am_ra G 810 (wn i)) ∧ (∀ i, i < 16 → am_gP G 810 i = 811 + i) ∧ ∀ i, i < 16 → 811 + i < 90000 :=
  ⟨fun i hi => h.ra (n := 16) (by decide +kernel) hi (by decide), fun i hi => qR h (n := 16) (by decide) hi, fun i hi => by omega⟩
theorem mrw {i : Nat} (h : i < 16) : 811 + i ∈ rws := by
  have : ∀ i, i < 16 → 811 + i ∈ rws := by decide
  exact this i h
