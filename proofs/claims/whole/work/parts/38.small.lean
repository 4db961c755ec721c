/-! What the fixed cells give; small functions; the rows of the reference. -/
set_option maxRecDepth 100000 in
theorem ia26 {G : am_G} (h : Sh G) : ∀ j, j < 9 → am_ia G 26 (wn j) := fun j hj => h.ia (n := 9) rfl hj (by decide)
set_option maxRecDepth 100000 in
theorem ow26 {G : am_G} (h : Sh G) : ∀ j, j < 9 → am_ow G 26 (wn j) 100 := fun j hj => h.ow (n := 9) rfl hj (by decide)
set_option maxRecDepth 100000 in
theorem ia28 {G : am_G} (h : Sh G) : ∀ j, j < 150 → am_ia G 28 (wn j) := fun j hj => h.ia (n := 150) rfl hj (by decide)
set_option maxRecDepth 100000 in
theorem ow28 {G : am_G} (h : Sh G) : ∀ j, j < 150 → am_ow G 28 (wn j) 100 := fun j hj => h.ow (n := 150) rfl hj (by decide)
set_option maxRecDepth 100000 in
theorem ia29 {G : am_G} (h : Sh G) : ∀ j, j < 150 → am_ia G 29 (wn j) := fun j hj => h.ia (n := 150) rfl hj (by decide)
set_option maxRecDepth 100000 in
theorem ow29 {G : am_G} (h : Sh G) : ∀ j, j < 150 → am_ow G 29 (wn j) 100 := fun j hj => h.ow (n := 150) rfl hj (by decide)
set_option maxRecDepth 100000 in
theorem ia30 {G : am_G} (h : Sh G) : ∀ j, j < 150 → am_ia G 30 (wn j) := fun j hj => h.ia (n := 150) rfl hj (by decide)
set_option maxRecDepth 100000 in
theorem ow30 {G : am_G} (h : Sh G) : ∀ j, j < 150 → am_ow G 30 (wn j) 100 := fun j hj => h.ow (n := 150) rfl hj (by decide)
set_option maxRecDepth 100000 in
theorem ia107 {G : am_G} (h : Sh G) : ∀ j, j < 7 → am_ia G 107 (wn j) := fun j hj => h.ia (n := 7) rfl hj (by decide)
set_option maxRecDepth 100000 in
theorem ow107 {G : am_G} (h : Sh G) : ∀ j, j < 7 → am_ow G 107 (wn j) 100 := fun j hj => h.ow (n := 7) rfl hj (by decide)
set_option maxRecDepth 100000 in
theorem ia108 {G : am_G} (h : Sh G) : ∀ j, j < 7 → am_ia G 108 (wn j) := fun j hj => h.ia (n := 7) rfl hj (by decide)
set_option maxRecDepth 100000 in
theorem ow108 {G : am_G} (h : Sh G) : ∀ j, j < 7 → am_ow G 108 (wn j) 100 := fun j hj => h.ow (n := 7) rfl hj (by decide)
set_option maxRecDepth 100000 in
theorem ia109 {G : am_G} (h : Sh G) : ∀ j, j < 700 → am_ia G 109 (wn j) := fun j hj => h.ia (n := 700) rfl hj (by decide)
set_option maxRecDepth 100000 in
theorem ow109 {G : am_G} (h : Sh G) : ∀ j, j < 700 → am_ow G 109 (wn j) 100 := fun j hj => h.ow (n := 700) rfl hj (by decide)
set_option maxRecDepth 100000 in
theorem ia111 {G : am_G} (h : Sh G) : ∀ j, j < 873 → am_ia G 111 (wn j) := fun j hj => h.ia (n := 873) rfl hj (by decide)
set_option maxRecDepth 100000 in
theorem ow111 {G : am_G} (h : Sh G) : ∀ j, j < 873 → am_ow G 111 (wn j) 100 := fun j hj => h.ow (n := 873) rfl hj (by decide)
set_option maxRecDepth 100000 in
theorem ia112 {G : am_G} (h : Sh G) : ∀ j, j < 720 → am_ia G 112 (wn j) := fun j hj => h.ia (n := 720) rfl hj (by decide)
set_option maxRecDepth 100000 in
theorem ow112 {G : am_G} (h : Sh G) : ∀ j, j < 720 → am_ow G 112 (wn j) 100 := fun j hj => h.ow (n := 720) rfl hj (by decide)
set_option maxRecDepth 100000 in
theorem ia113 {G : am_G} (h : Sh G) : ∀ j, j < 6 → am_ia G 113 (wn j) := fun j hj => h.ia (n := 6) rfl hj (by decide)
set_option maxRecDepth 100000 in
theorem ow113 {G : am_G} (h : Sh G) : ∀ j, j < 6 → am_ow G 113 (wn j) 100 := fun j hj => h.ow (n := 6) rfl hj (by decide)
set_option maxRecDepth 100000 in
theorem ia114 {G : am_G} (h : Sh G) : ∀ j, j < 6 → am_ia G 114 (wn j) := fun j hj => h.ia (n := 6) rfl hj (by decide)
set_option maxRecDepth 100000 in
theorem ow114 {G : am_G} (h : Sh G) : ∀ j, j < 6 → am_ow G 114 (wn j) 100 := fun j hj => h.ow (n := 6) rfl hj (by decide)
set_option maxRecDepth 100000 in
theorem ia116 {G : am_G} (h : Sh G) : ∀ j, j < 896 → am_ia G 116 (wn j) := fun j hj => h.ia (n := 896) rfl hj (by decide)
set_option maxRecDepth 100000 in
theorem ow116 {G : am_G} (h : Sh G) : ∀ j, j < 896 → am_ow G 116 (wn j) 100 := fun j hj => h.ow (n := 896) rfl hj (by decide)
set_option maxRecDepth 100000 in
theorem ia117 {G : am_G} (h : Sh G) : ∀ j, j < 42 → am_ia G 117 (wn j) := fun j hj => h.ia (n := 42) rfl hj (by decide)
set_option maxRecDepth 100000 in
theorem ow117 {G : am_G} (h : Sh G) : ∀ j, j < 42 → am_ow G 117 (wn j) 100 := fun j hj => h.ow (n := 42) rfl hj (by decide)
set_option maxRecDepth 100000 in
theorem ia118 {G : am_G} (h : Sh G) : ∀ j, j < 6 → am_ia G 118 (wn j) := fun j hj => h.ia (n := 6) rfl hj (by decide)
set_option maxRecDepth 100000 in
theorem ow118 {G : am_G} (h : Sh G) : ∀ j, j < 6 → am_ow G 118 (wn j) 100 := fun j hj => h.ow (n := 6) rfl hj (by decide)
set_option maxRecDepth 100000 in
theorem ia335 {G : am_G} (h : Sh G) : ∀ j, j < 600 → am_ia G 335 (wn j) := fun j hj => h.ia (n := 600) rfl hj (by decide)
set_option maxRecDepth 100000 in
theorem ow335 {G : am_G} (h : Sh G) : ∀ j, j < 600 → am_ow G 335 (wn j) 100 := fun j hj => h.ow (n := 600) rfl hj (by decide)
set_option maxRecDepth 100000 in
theorem ia336 {G : am_G} (h : Sh G) : ∀ j, j < 2 → am_ia G 336 (wn j) := fun j hj => h.ia (n := 2) rfl hj (by decide)
set_option maxRecDepth 100000 in
theorem ow336 {G : am_G} (h : Sh G) : ∀ j, j < 2 → am_ow G 336 (wn j) 100 := fun j hj => h.ow (n := 2) rfl hj (by decide)
set_option maxRecDepth 100000 in
theorem ia337 {G : am_G} (h : Sh G) : ∀ j, j < 4 → am_ia G 337 (wn j) := fun j hj => h.ia (n := 4) rfl hj (by decide)
set_option maxRecDepth 100000 in
theorem ow337 {G : am_G} (h : Sh G) : ∀ j, j < 4 → am_ow G 337 (wn j) 100 := fun j hj => h.ow (n := 4) rfl hj (by decide)
set_option maxRecDepth 100000 in
theorem ia338 {G : am_G} (h : Sh G) : ∀ j, j < 4 → am_ia G 338 (wn j) := fun j hj => h.ia (n := 4) rfl hj (by decide)
set_option maxRecDepth 100000 in
theorem ow338 {G : am_G} (h : Sh G) : ∀ j, j < 4 → am_ow G 338 (wn j) 100 := fun j hj => h.ow (n := 4) rfl hj (by decide)
set_option maxRecDepth 100000 in
theorem ia725 {G : am_G} (h : Sh G) : ∀ j, j < 160 → am_ia G 725 (wn j) := fun j hj => h.ia (n := 160) rfl hj (by decide)
set_option maxRecDepth 100000 in
theorem ow725 {G : am_G} (h : Sh G) : ∀ j, j < 160 → am_ow G 725 (wn j) 100 := fun j hj => h.ow (n := 160) rfl hj (by decide)
set_option maxRecDepth 100000 in
theorem ia726 {G : am_G} (h : Sh G) : ∀ j, j < 9 → am_ia G 726 (wn j) := fun j hj => h.ia (n := 9) rfl hj (by decide)
set_option maxRecDepth 100000 in
theorem ow726 {G : am_G} (h : Sh G) : ∀ j, j < 9 → am_ow G 726 (wn j) 100 := fun j hj => h.ow (n := 9) rfl hj (by decide)
set_option maxRecDepth 100000 in
theorem ia808 {G : am_G} (h : Sh G) : ∀ j, j < 96 → am_ia G 808 (wn j) := fun j hj => h.ia (n := 96) rfl hj (by decide)
set_option maxRecDepth 100000 in
theorem ow808 {G : am_G} (h : Sh G) : ∀ j, j < 96 → am_ow G 808 (wn j) 100 := fun j hj => h.ow (n := 96) rfl hj (by decide)
set_option maxRecDepth 100000 in
theorem ia809 {G : am_G} (h : Sh G) : ∀ j, j < 96 → am_ia G 809 (wn j) := fun j hj => h.ia (n := 96) rfl hj (by decide)
set_option maxRecDepth 100000 in
theorem ow809 {G : am_G} (h : Sh G) : ∀ j, j < 96 → am_ow G 809 (wn j) 100 := fun j hj => h.ow (n := 96) rfl hj (by decide)
set_option maxRecDepth 100000 in
theorem ia831 {G : am_G} (h : Sh G) : ∀ j, j < 6 → am_ia G 831 (wn j) := fun j hj => h.ia (n := 6) rfl hj (by decide)
set_option maxRecDepth 100000 in
theorem ow831 {G : am_G} (h : Sh G) : ∀ j, j < 6 → am_ow G 831 (wn j) 100 := fun j hj => h.ow (n := 6) rfl hj (by decide)
set_option maxRecDepth 100000 in
theorem ia832 {G : am_G} (h : Sh G) : ∀ j, j < 6 → am_ia G 832 (wn j) := fun j hj => h.ia (n := 6) rfl hj (by decide)
set_option maxRecDepth 100000 in
theorem ow832 {G : am_G} (h : Sh G) : ∀ j, j < 6 → am_ow G 832 (wn j) 100 := fun j hj => h.ow (n := 6) rfl hj (by decide)
set_option maxRecDepth 100000 in
theorem ia833 {G : am_G} (h : Sh G) : ∀ j, j < 100 → am_ia G 833 (wn j) := fun j hj => h.ia (n := 100) rfl hj (by decide)
set_option maxRecDepth 100000 in
theorem ow833 {G : am_G} (h : Sh G) : ∀ j, j < 100 → am_ow G 833 (wn j) 100 := fun j hj => h.ow (n := 100) rfl hj (by decide)
set_option maxRecDepth 100000 in
theorem ia834 {G : am_G} (h : Sh G) : ∀ j, j < 6 → am_ia G 834 (wn j) := fun j hj => h.ia (n := 6) rfl hj (by decide)
set_option maxRecDepth 100000 in
theorem ow834 {G : am_G} (h : Sh G) : ∀ j, j < 6 → am_ow G 834 (wn j) 100 := fun j hj => h.ow (n := 6) rfl hj (by decide)
set_option maxRecDepth 100000 in
theorem ia835 {G : am_G} (h : Sh G) : ∀ j, j < 6 → am_ia G 835 (wn j) := fun j hj => h.ia (n := 6) rfl hj (by decide)
set_option maxRecDepth 100000 in
theorem ow835 {G : am_G} (h : Sh G) : ∀ j, j < 6 → am_ow G 835 (wn j) 100 := fun j hj => h.ow (n := 6) rfl hj (by decide)
set_option maxRecDepth 100000 in
theorem ia836 {G : am_G} (h : Sh G) : ∀ j, j < 720 → am_ia G 836 (wn j) := fun j hj => h.ia (n := 720) rfl hj (by decide)
set_option maxRecDepth 100000 in
theorem ow836 {G : am_G} (h : Sh G) : ∀ j, j < 720 → am_ow G 836 (wn j) 100 := fun j hj => h.ow (n := 720) rfl hj (by decide)
theorem fD {G : am_G} {d : Nat} (h : Sh G) (hd : d = 4 ∨ d = 12) : am_is G d 2 ∧ am_gP G d 1 = d + 1 ∧ am_gP G d 2 = d + 2 ∧ am_gP G d 4 = d + 3 ∧ am_gP G d 5 = d + 4 ∧ am_gP G d 7 = d + 5 ∧ am_gP G d 8 = d + 6 ∧ am_gP G d 9 = d + 7 ∧ d < 90000 ∧ d + 1 < 90000 ∧ d + 2 < 90000 ∧ d + 3 < 90000 ∧ d + 4 < 90000 ∧ d + 5 < 90000 ∧ d + 6 < 90000 ∧ d + 7 < 90000 ∧
    (∀ j, j < 6 → am_ia G (d + 1) (wn j)) ∧ (∀ j, j < 6 → am_ia G (d + 2) (wn j)) ∧ (∀ j, j < 7 → am_ia G (d + 3) (wn j)) ∧ (∀ j, j < 7 → am_ia G (d + 4) (wn j)) ∧ (∀ j, j < 8 → am_ia G (d + 5) (wn j)) ∧ (∀ j, j < 8 → am_ia G (d + 6) (wn j)) ∧ ∀ j, j < 8 → am_ia G (d + 7) (wn j) := by
  have hq := qD h hd
  rcases hd with rfl | rfl
  · exact ⟨i4 h, hq.1, hq.2.1, hq.2.2.1, hq.2.2.2.1, hq.2.2.2.2.1, hq.2.2.2.2.2.1, hq.2.2.2.2.2.2, by decide, by decide, by decide, by decide, by decide, by decide, by decide, by decide, fun j hj => h.ia (n := 6) rfl hj (by decide), fun j hj => h.ia (n := 6) rfl hj (by decide), fun j hj => h.ia (n := 7) rfl hj (by decide), fun j hj => h.ia (n := 7) rfl hj (by decide), fun j hj => h.ia (n := 8) rfl hj (by decide), fun j hj => h.ia (n := 8) rfl hj (by decide), fun j hj => h.ia (n := 8) rfl hj (by decide)⟩
  · exact ⟨i12 h, hq.1, hq.2.1, hq.2.2.1, hq.2.2.2.1, hq.2.2.2.2.1, hq.2.2.2.2.2.1, hq.2.2.2.2.2.2, by decide, by decide, by decide, by decide, by decide, by decide, by decide, by decide, fun j hj => h.ia (n := 6) rfl hj (by decide), fun j hj => h.ia (n := 6) rfl hj (by decide), fun j hj => h.ia (n := 7) rfl hj (by decide), fun j hj => h.ia (n := 7) rfl hj (by decide), fun j hj => h.ia (n := 8) rfl hj (by decide), fun j hj => h.ia (n := 8) rfl hj (by decide), fun j hj => h.ia (n := 8) rfl hj (by decide)⟩
theorem oD {G : am_G} {d : Nat} (h : Sh G) (hd : d = 4 ∨ d = 12) : (∀ j, j < 6 → am_ow G (d + 1) (wn j) 100) ∧ (∀ j, j < 6 → am_ow G (d + 2) (wn j) 100) ∧ (∀ j, j < 7 → am_ow G (d + 3) (wn j) 100) ∧ (∀ j, j < 7 → am_ow G (d + 4) (wn j) 100) ∧ (∀ j, j < 8 → am_ow G (d + 5) (wn j) 100) ∧ (∀ j, j < 8 → am_ow G (d + 6) (wn j) 100) ∧ ∀ j, j < 8 → am_ow G (d + 7) (wn j) 100 := by
  rcases hd with rfl | rfl
  · exact ⟨fun j hj => h.ow (n := 6) rfl hj (by decide), fun j hj => h.ow (n := 6) rfl hj (by decide), fun j hj => h.ow (n := 7) rfl hj (by decide), fun j hj => h.ow (n := 7) rfl hj (by decide), fun j hj => h.ow (n := 8) rfl hj (by decide), fun j hj => h.ow (n := 8) rfl hj (by decide), fun j hj => h.ow (n := 8) rfl hj (by decide)⟩
  · exact ⟨fun j hj => h.ow (n := 6) rfl hj (by decide), fun j hj => h.ow (n := 6) rfl hj (by decide), fun j hj => h.ow (n := 7) rfl hj (by decide), fun j hj => h.ow (n := 7) rfl hj (by decide), fun j hj => h.ow (n := 8) rfl hj (by decide), fun j hj => h.ow (n := 8) rfl hj (by decide), fun j hj => h.ow (n := 8) rfl hj (by decide)⟩
theorem fL {G : am_G} {l : Nat} (h : Sh G) (hl : l = 20 ∨ l = 23) : am_is G l 4 ∧ am_gP G l 0 = l + 1 ∧ am_gP G l 1 = l + 2 ∧ l < 90000 ∧ l + 1 < 90000 ∧ l + 2 < 90000 ∧ (∀ j, j < 150 → am_ia G (l + 1) (wn j)) ∧ (∀ j, j < 150 → am_ia G (l + 2) (wn j)) ∧ (∀ j, j < 150 → am_ow G (l + 1) (wn j) 100) ∧ ∀ j, j < 150 → am_ow G (l + 2) (wn j) 100 := by
  have hq := qL h hl
  rcases hl with rfl | rfl
  · exact ⟨i20 h, hq.1, hq.2, by decide, by decide, by decide, fun j hj => h.ia (n := 150) rfl hj (by decide), fun j hj => h.ia (n := 150) rfl hj (by decide), fun j hj => h.ow (n := 150) rfl hj (by decide), fun j hj => h.ow (n := 150) rfl hj (by decide)⟩
  · exact ⟨i23 h, hq.1, hq.2, by decide, by decide, by decide, fun j hj => h.ia (n := 150) rfl hj (by decide), fun j hj => h.ia (n := 150) rfl hj (by decide), fun j hj => h.ow (n := 150) rfl hj (by decide), fun j hj => h.ow (n := 150) rfl hj (by decide)⟩
/-- the reference's rows of 96 -/
def rws : List Nat := [808, 809, 811, 812, 813, 814, 815, 816, 817, 818, 819, 820, 821, 822, 823, 824, 825, 826]
theorem kRw : ∀ r ∈ rws, kk0[r]? = some (100, 96) ∧ 334 < r ∧ r < 828 := by decide +kernel
theorem fR {G : am_G} {r : Nat} (h : Sh G) (hr : r ∈ rws) : r < 90000 ∧ (∀ j, j < 96 → am_ia G r (wn j)) ∧ ∀ j, j < 96 → am_ow G r (wn j) 100 := by
  have hk := kRw r hr
  exact ⟨by omega, fun j hj => h.ia hk.1 hj (by decide), fun j hj => h.ow hk.1 hj (by decide)⟩
theorem fM {G : am_G} (h : Sh G) : am_is G 334 12 ∧ am_gP G 334 9 = 335 ∧ am_gP G 334 10 = 336 ∧ am_gP G 334 11 = 337 ∧ am_gP G 334 12 = 338 ∧ am_gP G 334 13 = 339 ∧ am_gP G 334 14 = 346 ∧ am_gP G 334 15 = 353 ∧ am_gP G 334 16 = 361 ∧ am_gP G 334 17 = 369 ∧ am_gP G 334 18 = 378 ∧ am_gP G 334 21 = 387 ∧ am_gP G 334 22 = 548 ∧ am_gP G 334 23 = 709 ∧ am_gP G 334 24 = 717 ∧ am_gP G 334 25 = 725 ∧ am_gP G 334 26 = 726 ∧ am_gP G 334 27 = 727 ∧ am_gP G 334 29 = 808 ∧ am_gP G 334 30 = 809 ∧ am_gP G 334 31 = 810 ∧ am_gP G 334 32 = 827 ∧ am_gP G 334 40 = 831 ∧ am_gP G 334 41 = 832 ∧ am_gP G 334 43 = 833 ∧ am_gP G 334 44 = 834 ∧ am_gP G 334 45 = 835 ∧ am_gP G 334 46 = 836 ∧ am_gP G 334 47 = 837 := ⟨i334 h, q334_9 h, q334_10 h, q334_11 h, q334_12 h, q334_13 h, q334_14 h, q334_15 h, q334_16 h, q334_17 h, q334_18 h, q334_21 h, q334_22 h, q334_23 h, q334_24 h, q334_25 h, q334_26 h, q334_27 h, q334_29 h, q334_30 h, q334_31 h, q334_32 h, q334_40 h, q334_41 h, q334_43 h, q334_44 h, q334_45 h, q334_46 h, q334_47 h⟩
section
variable {G : am_G} {d : Nat} {post : am_O → am_G → Prop}
theorem ct271 (x y : Int32) : am_C am_T (d + 1) 271 [.int x, .int y] G post ↔ post (.inl (some (.int (if x < y then y else x)))) G := by
  have hc := am_C_one am_T d
  rw [we271]
  simp only [wb271_0 hc, wb271_5 hc, wb271_9 hc, wb271_10 hc]
  by_cases h : x < y <;> simp [h]
theorem ct272 (x y : Int32) : am_C am_T (d + 1) 272 [.int x, .int y] G post ↔ post (.inl (some (.int (if y < x then y else x)))) G := by
  have hc := am_C_one am_T d
  rw [we272]
  simp only [wb272_0 hc, wb272_5 hc, wb272_9 hc, wb272_10 hc]
  by_cases h : y < x <;> simp [h]
theorem ct154 (x y : Int32) : am_C am_T (d + 1) 154 [.int x, .int y] G post ↔ post (.inl (some (.int (if y ≤ x then y else x)))) G := by
  have hc := am_C_one am_T d
  rw [we154]
  simp only [wb154_0 hc, wb154_5 hc, wb154_9 hc, wb154_10 hc]
  by_cases h : y ≤ x <;> simp [h]
theorem ct155 (x y : Int32) : am_C am_T (d + 1) 155 [.int x, .int y] G post ↔ post (.inl (some (.int (if x ≤ y then y else x)))) G := by
  have hc := am_C_one am_T d
  rw [we155]
  simp only [wb155_0 hc, wb155_5 hc, wb155_9 hc, wb155_10 hc]
  by_cases h : x ≤ y <;> simp [h]
theorem ct271n {a b : Nat} (ha : a < 2147483648) (hb : b < 2147483648) : am_C am_T (d + 1) 271 [.int (wn a), .int (wn b)] G post ↔ post (.inl (some (.int (wn (max a b))))) G := by
  rw [ct271]
  by_cases h : a < b
  · rw [if_pos ((wn_lt ha hb).mpr h), Nat.max_eq_right (by omega)]
  · rw [if_neg (fun q => h ((wn_lt ha hb).mp q)), Nat.max_eq_left (by omega)]
theorem ct272n {a b : Nat} (ha : a < 2147483648) (hb : b < 2147483648) : am_C am_T (d + 1) 272 [.int (wn a), .int (wn b)] G post ↔ post (.inl (some (.int (wn (min a b))))) G := by
  rw [ct272]
  by_cases h : b < a
  · rw [if_pos ((wn_lt hb ha).mpr h), Nat.min_eq_right (by omega)]
  · rw [if_neg (fun q => h ((wn_lt hb ha).mp q)), Nat.min_eq_left (by omega)]
theorem ct154n {a b : Nat} (ha : a < 2147483648) (hb : b < 2147483648) : am_C am_T (d + 1) 154 [.int (wn a), .int (wn b)] G post ↔ post (.inl (some (.int (wn (min a b))))) G := by
  rw [ct154]
  by_cases h : b ≤ a
  · rw [if_pos ((wn_le hb ha).mpr h), Nat.min_eq_right (by omega)]
  · rw [if_neg (fun q => h ((wn_le hb ha).mp q)), Nat.min_eq_left (by omega)]
theorem ct155n {a b : Nat} (ha : a < 2147483648) (hb : b < 2147483648) : am_C am_T (d + 1) 155 [.int (wn a), .int (wn b)] G post ↔ post (.inl (some (.int (wn (max a b))))) G := by
  rw [ct155]
  by_cases h : a ≤ b
  · rw [if_pos ((wn_le ha hb).mpr h), Nat.max_eq_right (by omega)]
  · rw [if_neg (fun q => h ((wn_le ha hb).mp q)), Nat.max_eq_left (by omega)]
theorem ct153 (x l h : Int32) : am_C am_T (d + 1) 153 [.int x, .int l, .int h] G post ↔ post (.inl (some (.int (wn (b01 (decide (¬ x < l ∧ ¬ h < x))))))) G := by
  have hc := am_C_one am_T d
  rw [we153]
  by_cases c1 : x < l
  · simp +decide (disch := omega) only [↓wm1, wb153_0 hc, wb153_5 hc, wb153_10 hc, wb153_14 hc, wb153_15 hc, w0, w1, rI_wI, rP_wI, rL_wI, rI_wR, rP_wR, is_wI, is_wR, ia_wI, ia_wR, ow_wI, ow_wR, wn_add, wn_mul, wn_cl, wn_le, wn_lt, wn_inj, wn_ne1, wn_1ne, wn_gt1, wn_le1, nb0, nb1, am_kt, am_rt, List.cons_append, List.nil_append, true_and, and_true, not_true_eq_false, not_false_eq_true, imp_f, imp_t, implies_true, c1, b01, not_true_eq_false, false_and, decide_false, Bool.false_eq_true, if_false]
  · by_cases c2 : h < x
    · simp +decide (disch := omega) only [↓wm1, wb153_0 hc, wb153_5 hc, wb153_10 hc, wb153_14 hc, wb153_15 hc, w0, w1, rI_wI, rP_wI, rL_wI, rI_wR, rP_wR, is_wI, is_wR, ia_wI, ia_wR, ow_wI, ow_wR, wn_add, wn_mul, wn_cl, wn_le, wn_lt, wn_inj, wn_ne1, wn_1ne, wn_gt1, wn_le1, nb0, nb1, am_kt, am_rt, List.cons_append, List.nil_append, true_and, and_true, not_true_eq_false, not_false_eq_true, imp_f, imp_t, implies_true, c1, c2, b01, and_false, decide_false, Bool.false_eq_true, if_false]
    · simp +decide (disch := omega) only [↓wm1, wb153_0 hc, wb153_5 hc, wb153_10 hc, wb153_14 hc, wb153_15 hc, w0, w1, rI_wI, rP_wI, rL_wI, rI_wR, rP_wR, is_wI, is_wR, ia_wI, ia_wR, ow_wI, ow_wR, wn_add, wn_mul, wn_cl, wn_le, wn_lt, wn_inj, wn_ne1, wn_1ne, wn_gt1, wn_le1, nb0, nb1, am_kt, am_rt, List.cons_append, List.nil_append, true_and, and_true, not_true_eq_false, not_false_eq_true, imp_f, imp_t, implies_true, c1, c2, b01, and_self, decide_true, if_true]
theorem ct156 {m b : Nat} (hm : m < 256) (hb : b < 8) : am_C am_T (d + 1) 156 [.int (wn m), .int (wn b)] G post ↔ post (.inl (some (.int (wn (bt m b))))) G := by
  have hc := am_C_one am_T d
  have e := bsr m hm b hb
  have e1 := bt_01 m b
  rw [we156]
  by_cases c1 : bt m b = 1
  · simp +decide (disch := omega) only [↓wm1, wb156_0 hc, wb156_9 hc, wb156_13 hc, wb156_14 hc, w0, w1, rI_wI, rP_wI, rL_wI, rI_wR, rP_wR, is_wI, is_wR, ia_wI, ia_wR, ow_wI, ow_wR, wn_add, wn_mul, wn_cl, wn_le, wn_lt, wn_inj, wn_ne1, wn_1ne, wn_gt1, wn_le1, nb0, nb1, am_kt, am_rt, List.cons_append, List.nil_append, true_and, and_true, not_true_eq_false, not_false_eq_true, imp_f, imp_t, implies_true, e, c1]
  · have c0 : bt m b = 0 := by omega
    simp +decide (disch := omega) only [↓wm1, wb156_0 hc, wb156_9 hc, wb156_13 hc, wb156_14 hc, w0, w1, rI_wI, rP_wI, rL_wI, rI_wR, rP_wR, is_wI, is_wR, ia_wI, ia_wR, ow_wI, ow_wR, wn_add, wn_mul, wn_cl, wn_le, wn_lt, wn_inj, wn_ne1, wn_1ne, wn_gt1, wn_le1, nb0, nb1, am_kt, am_rt, List.cons_append, List.nil_append, true_and, and_true, not_true_eq_false, not_false_eq_true, imp_f, imp_t, implies_true, e, c0]
theorem ct199 (h m : Nat) : am_C am_T (d + 1) 199 [.int (wn h), .int (wn m)] G post ↔ post (.inl (some (.int (wn (24 + 10 * h + m))))) G := by
  have hc := am_C_one am_T d
  rw [we199]
  simp +decide (disch := omega) only [↓wm1, wb199_0 hc, w0, w1, w10, w24, rI_wI, rP_wI, rL_wI, rI_wR, rP_wR, is_wI, is_wR, ia_wI, ia_wR, ow_wI, ow_wR, wn_add, wn_mul, wn_cl, wn_le, wn_lt, wn_inj, wn_ne1, wn_1ne, wn_gt1, wn_le1, nb0, nb1, am_kt, am_rt, List.cons_append, List.nil_append, true_and, and_true, not_true_eq_false, not_false_eq_true, imp_f, imp_t, implies_true]
theorem ps_ok : ∀ t, t < 1000 → (if wn 0 < wn t - wn t / wn 4 - wn 1 then wn t - wn t / wn 4 - wn 1 else wn 0) = wn (t - t / 4 - 1) := by decide +kernel
theorem ps_ok2 : ∀ t, t < 1000 → (if wn 0 ≤ wn t - wn t / wn 4 - wn 1 then wn t - wn t / wn 4 - wn 1 else wn 0) = wn (t - t / 4 - 1) := by decide +kernel
/-! 279 Arrays.fill -/
theorem ct279 {a n : Nat} (hsh : Sh G) (hk : kk0[a]? = some (100, n)) (hn : n < 100000) (v : Int32) (k : ∀ G', (∀ i, i < n → am_gI G' a i = v) → Kp (fun b _ => b = a) G G' → post (.inl none) G') : am_C am_T (d + 1) 279 [.ref a, .int v] G post := by
  have hc := am_C_one am_T d
  have hK := hsh.k hk
  have hln : am_ln G a = n := by unfold am_ln; rw [hK]
  refine (we279 _ _ _).mpr ((wb279_0 hc _ _ _).mpr ⟨Or.inl ⟨100, n, hK, by decide, by decide⟩, ?_⟩)
  rw [hln]
  refine am_for n (fun j ls G' => ls = [some (.ref a), some (.int v), some (.int (wn j)), some (.int (wn n))] ∧ Kp (fun b _ => b = a) G G' ∧ ∀ i, i < j → am_gI G' a i = v) ?_ ?_ n 0 (by omega) _ _ ⟨rfl, Kp.refl G, fun i hi => by omega⟩
  · rintro j hj _ G1 ⟨rfl, kp, hf⟩ nx
    have c1 : ¬ n ≤ j := by omega
    have hs1 := hsh.kp kp
    rw [wb279_5 hc]
    simp +decide (disch := omega) only [↓wm1, wb279_10 hc, w0, w1, rI_wI, rP_wI, rL_wI, rI_wR, rP_wR, is_wI, is_wR, ia_wI, ia_wR, ow_wI, ow_wR, wn_add, wn_mul, wn_cl, wn_le, wn_lt, wn_inj, wn_ne1, wn_1ne, wn_gt1, wn_le1, nb0, nb1, am_kt, am_rt, List.cons_append, List.nil_append, true_and, and_true, not_true_eq_false, not_false_eq_true, imp_f, imp_t, implies_true, c1]
    refine ⟨hs1.ow hk hj (by omega), nx _ _ ⟨rfl, kp.wI rfl _, fun i hi => ?_⟩⟩
    rw [rI_wI]
    by_cases e : i = j
    · rw [if_pos ⟨rfl, e⟩]
    · rw [if_neg (fun q => e q.2)]
      exact hf i (by omega)
  · rintro _ G1 ⟨rfl, kp, hf⟩
    rw [wb279_5 hc]
    simp +decide (disch := omega) only [↓wm1, wb279_20 hc, w0, w1, rI_wI, rP_wI, rL_wI, rI_wR, rP_wR, is_wI, is_wR, ia_wI, ia_wR, ow_wI, ow_wR, wn_add, wn_mul, wn_cl, wn_le, wn_lt, wn_inj, wn_ne1, wn_1ne, wn_gt1, wn_le1, nb0, nb1, am_kt, am_rt, List.cons_append, List.nil_append, true_and, and_true, not_true_eq_false, not_false_eq_true, imp_f, imp_t, implies_true, Nat.le_refl]
    exact k G1 hf kp
/-! the state's loops -/
/-- the mood that is most, and how much -/
def mf (f : Nat → Nat) : Nat → Int32 × Nat
  | 0 => (mm, 0)
  | n + 1 => if (mf f n).2 < f n then (wn n, f n) else mf f n
theorem mf_le {f : Nat → Nat} (hf : ∀ j, f j ≤ 999) : ∀ n, (mf f n).2 ≤ 999 := by
  intro n
  induction n with
  | zero => simp [mf]
  | succ n ih =>
    simp only [mf]
    split
    · exact hf n
    · exact ih
def tIn (σ : St) (h : Nat) : Nat := tsum (fun m => sM σ (h * 10 + m)) 10
theorem tsum_le {f : Nat → Nat} {c : Nat} (hf : ∀ j, f j ≤ c) : ∀ n, tsum f n ≤ n * c := by
  intro n
  induction n with
  | zero => simp [tsum]
  | succ n ih =>
    simp only [tsum]
    have := hf n
    have e : (n + 1) * c = n * c + c := Nat.succ_mul n c
    omega
theorem tIn_le {σ : St} (hv : ∀ j, sM σ j ≤ 999) (h : Nat) : tIn σ h ≤ 9990 := tsum_le (c := 999) (fun j => hv _) 10
/-- a number of bits -/
def tb (p : Nat → Bool) : Nat → Nat
  | 0 => 0
  | n + 1 => if p n then tb p n + 2 ^ n else tb p n
theorem tb_lt (p : Nat → Bool) : ∀ n, tb p n < 2 ^ n := by
  intro n
  induction n with
  | zero => simp [tb]
  | succ n ih =>
    simp only [tb]
    have e : 2 ^ (n + 1) = 2 ^ n + 2 ^ n := by rw [Nat.pow_succ]; omega
    split <;> omega
variable {s : Nat} {σ : St}
/-! 60 moodIn -/
theorem ct60 {h : Nat} (hsh : Sh G) (hs : s ∈ sts) (hr : rS G s σ) (hv : ∀ j, sM σ j ≤ 999) (hh : h < 7) (k : post (.inl (some (.int (mf (fun m => sM σ (h * 10 + m)) 10).1))) G) : am_C am_T (d + 1) 60 [.ref s, .int (wn h)] G post := by
  have hc := am_C_one am_T d
  obtain ⟨r0, r1, r2, r3, r4, r5, r6⟩ := hr
  refine (we60 _ _ _).mpr ((wb60_0 hc _ _ _).mpr ?_)
  refine am_for 10 (fun j ls G' => G' = G ∧ ls = [some (.ref s), some (.int (wn h)), some (.int (mf (fun m => sM σ (h * 10 + m)) j).1), some (.int (wn (mf (fun m => sM σ (h * 10 + m)) j).2)), some (.int (wn j))]) ?_ ?_ 10 0 rfl _ _ ⟨rfl, rfl⟩
  · rintro j hj _ _ ⟨rfl, rfl⟩ nx
    have c1 : ¬ 10 ≤ j := by omega
    have b1 := mf_le (f := fun m => sM σ (h * 10 + m)) (fun j => hv _) j
    have b2 := hv (h * 10 + j)
    rw [wb60_7 hc]
    by_cases c2 : sM σ (h * 10 + j) ≤ (mf (fun m => sM σ (h * 10 + m)) j).2
    · simp +decide (disch := omega) only [↓wm1, wb60_14 hc, wb60_30 hc, wb60_46 hc, w0, w1, w10, rI_wI, rP_wI, rL_wI, rI_wR, rP_wR, is_wI, is_wR, ia_wI, ia_wR, ow_wI, ow_wR, wn_add, wn_mul, wn_cl, wn_le, wn_lt, wn_inj, wn_ne1, wn_1ne, wn_gt1, wn_le1, nb0, nb1, am_kt, am_rt, List.cons_append, List.nil_append, true_and, and_true, not_true_eq_false, not_false_eq_true, imp_f, imp_t, implies_true, fS hsh hs, r6, c1, c2]
      refine nx _ _ ⟨rfl, ?_⟩
      simp only [mf]
      rw [if_neg (by omega)]
    · simp +decide (disch := omega) only [↓wm1, wb60_14 hc, wb60_30 hc, wb60_46 hc, w0, w1, w10, rI_wI, rP_wI, rL_wI, rI_wR, rP_wR, is_wI, is_wR, ia_wI, ia_wR, ow_wI, ow_wR, wn_add, wn_mul, wn_cl, wn_le, wn_lt, wn_inj, wn_ne1, wn_1ne, wn_gt1, wn_le1, nb0, nb1, am_kt, am_rt, List.cons_append, List.nil_append, true_and, and_true, not_true_eq_false, not_false_eq_true, imp_f, imp_t, implies_true, fS hsh hs, r6, c1, c2]
      refine nx _ _ ⟨rfl, ?_⟩
      simp only [mf]
      rw [if_pos (by omega)]
  · rintro _ _ ⟨rfl, rfl⟩
    rw [wb60_7 hc]
    simp +decide (disch := omega) only [↓wm1, wb60_52 hc, w0, w1, w10, rI_wI, rP_wI, rL_wI, rI_wR, rP_wR, is_wI, is_wR, ia_wI, ia_wR, ow_wI, ow_wR, wn_add, wn_mul, wn_cl, wn_le, wn_lt, wn_inj, wn_ne1, wn_1ne, wn_gt1, wn_le1, nb0, nb1, am_kt, am_rt, List.cons_append, List.nil_append, true_and, and_true, not_true_eq_false, not_false_eq_true, imp_f, imp_t, implies_true, Nat.le_refl]
    exact k
/-! 58 temperOfAll, 59 pullsOfAll, 61 housesWithMood -/
theorem ct58 (hsh : Sh G) (hs : s ∈ sts) (hr : rS G s σ) (k : post (.inl (some (.int (wn (tsum (tIn σ) 7))))) G) : am_C am_T (d + 2) 58 [.ref s] G post := by
  have hc := am_C_one am_T (d + 1)
  refine (we58 _ _).mpr ((wb58_0 hc _ _).mpr ?_)
  refine am_for 7 (fun j ls G' => G' = G ∧ ls = [some (.ref s), some (.int (wn (tsum (tIn σ) j))), some (.int (wn j))]) ?_ ?_ 7 0 rfl _ _ ⟨rfl, rfl⟩
  · rintro j hj _ _ ⟨rfl, rfl⟩ nx
    have c1 : ¬ 7 ≤ j := by omega
    rw [wb58_4 hc]
    simp +decide (disch := omega) only [↓wm1, wb58_10 hc, w0, w1, w7, rI_wI, rP_wI, rL_wI, rI_wR, rP_wR, is_wI, is_wR, ia_wI, ia_wR, ow_wI, ow_wR, wn_add, wn_mul, wn_cl, wn_le, wn_lt, wn_inj, wn_ne1, wn_1ne, wn_gt1, wn_le1, nb0, nb1, am_kt, am_rt, List.cons_append, List.nil_append, true_and, and_true, not_true_eq_false, not_false_eq_true, imp_f, imp_t, implies_true, fS hsh hs, c1]
    refine ct57 hsh hs hr hj ?_
    simp +decide (disch := omega) only [↓wm1, wb58_16 hc, w0, w1, w7, rI_wI, rP_wI, rL_wI, rI_wR, rP_wR, is_wI, is_wR, ia_wI, ia_wR, ow_wI, ow_wR, wn_add, wn_mul, wn_cl, wn_le, wn_lt, wn_inj, wn_ne1, wn_1ne, wn_gt1, wn_le1, nb0, nb1, am_kt, am_rt, List.cons_append, List.nil_append, true_and, and_true, not_true_eq_false, not_false_eq_true, imp_f, imp_t, implies_true]
    exact nx _ _ ⟨rfl, rfl⟩
  · rintro _ _ ⟨rfl, rfl⟩
    rw [wb58_4 hc]
    simp +decide (disch := omega) only [↓wm1, wb58_24 hc, w0, w1, w7, rI_wI, rP_wI, rL_wI, rI_wR, rP_wR, is_wI, is_wR, ia_wI, ia_wR, ow_wI, ow_wR, wn_add, wn_mul, wn_cl, wn_le, wn_lt, wn_inj, wn_ne1, wn_1ne, wn_gt1, wn_le1, nb0, nb1, am_kt, am_rt, List.cons_append, List.nil_append, true_and, and_true, not_true_eq_false, not_false_eq_true, imp_f, imp_t, implies_true, Nat.le_refl]
    exact k
theorem ct59 (hsh : Sh G) (hs : s ∈ sts) (hr : rS G s σ) (k : post (.inl (some (.int (wn (tsum (sP σ) 6))))) G) : am_C am_T (d + 1) 59 [.ref s] G post := by
  have hc := am_C_one am_T d
  refine (we59 _ _).mpr ((wb59_0 hc _ _).mpr ?_)
  refine am_for 6 (fun j ls G' => G' = G ∧ ls = [some (.ref s), some (.int (wn (tsum (sP σ) j))), some (.int (wn j))]) ?_ ?_ 6 0 rfl _ _ ⟨rfl, rfl⟩
  · rintro j hj _ _ ⟨rfl, rfl⟩ nx
    have c1 : ¬ 6 ≤ j := by omega
    rw [wb59_4 hc]
    simp +decide (disch := omega) only [↓wm1, wb59_10 hc, w0, w1, w6, rI_wI, rP_wI, rL_wI, rI_wR, rP_wR, is_wI, is_wR, ia_wI, ia_wR, ow_wI, ow_wR, wn_add, wn_mul, wn_cl, wn_le, wn_lt, wn_inj, wn_ne1, wn_1ne, wn_gt1, wn_le1, nb0, nb1, am_kt, am_rt, List.cons_append, List.nil_append, true_and, and_true, not_true_eq_false, not_false_eq_true, imp_f, imp_t, implies_true, fS hsh hs, hr.2.2.2.2.2.1, c1]
    exact nx _ _ ⟨rfl, rfl⟩
  · rintro _ _ ⟨rfl, rfl⟩
    rw [wb59_4 hc]
    simp +decide (disch := omega) only [↓wm1, wb59_25 hc, w0, w1, w6, rI_wI, rP_wI, rL_wI, rI_wR, rP_wR, is_wI, is_wR, ia_wI, ia_wR, ow_wI, ow_wR, wn_add, wn_mul, wn_cl, wn_le, wn_lt, wn_inj, wn_ne1, wn_1ne, wn_gt1, wn_le1, nb0, nb1, am_kt, am_rt, List.cons_append, List.nil_append, true_and, and_true, not_true_eq_false, not_false_eq_true, imp_f, imp_t, implies_true, Nat.le_refl]
    exact k
/-- which houses have a mood -/
def hm1 (σ : St) (h : Nat) : Bool := decide (¬ (mf (fun m => sM σ (h * 10 + m)) 10).1 = mm)
theorem ct61 (hsh : Sh G) (hs : s ∈ sts) (hr : rS G s σ) (hv : ∀ j, sM σ j ≤ 999) (k : post (.inl (some (.int (wn (tb (hm1 σ) 7))))) G) : am_C am_T (d + 2) 61 [.ref s] G post := by
  have hc := am_C_one am_T (d + 1)
  refine (we61 _ _).mpr ((wb61_0 hc _ _).mpr ?_)
  refine am_for 7 (fun j ls G' => G' = G ∧ ls = [some (.ref s), some (.int (wn (tb (hm1 σ) j))), some (.int (wn j))]) ?_ ?_ 7 0 rfl _ _ ⟨rfl, rfl⟩
  · rintro j hj _ _ ⟨rfl, rfl⟩ nx
    have c1 : ¬ 7 ≤ j := by omega
    have b1 := tb_lt (hm1 σ) j
    have b2 : 2 ^ j ≤ 2 ^ 6 := Nat.pow_le_pow_right (by decide) (by omega)
    rw [wb61_4 hc]
    simp +decide (disch := omega) only [↓wm1, wb61_10 hc, w0, w1, w7, rI_wI, rP_wI, rL_wI, rI_wR, rP_wR, is_wI, is_wR, ia_wI, ia_wR, ow_wI, ow_wR, wn_add, wn_mul, wn_cl, wn_le, wn_lt, wn_inj, wn_ne1, wn_1ne, wn_gt1, wn_le1, nb0, nb1, am_kt, am_rt, List.cons_append, List.nil_append, true_and, and_true, not_true_eq_false, not_false_eq_true, imp_f, imp_t, implies_true, fS hsh hs, c1]
    refine ct60 hsh hs hr hv hj ?_
    by_cases c2 : (mf (fun m => sM σ (j * 10 + m)) 10).1 = mm
    · simp +decide (disch := omega) only [↓wm1, wb61_15 hc, wb61_19 hc, wb61_25 hc, w0, w1, w7, rI_wI, rP_wI, rL_wI, rI_wR, rP_wR, is_wI, is_wR, ia_wI, ia_wR, ow_wI, ow_wR, wn_add, wn_mul, wn_cl, wn_le, wn_lt, wn_inj, wn_ne1, wn_1ne, wn_gt1, wn_le1, nb0, nb1, am_kt, am_rt, List.cons_append, List.nil_append, true_and, and_true, not_true_eq_false, not_false_eq_true, imp_f, imp_t, implies_true, c2]
      refine nx _ _ ⟨rfl, ?_⟩
      have : hm1 σ j = false := by simp [hm1, c2]
      simp [tb, this]
    · have e1 := bs1 j (by omega)
      have e2 := bor (tb (hm1 σ) j) (by omega) j (by omega) b1
      simp +decide (disch := omega) only [↓wm1, wb61_15 hc, wb61_19 hc, wb61_25 hc, w0, w1, w7, rI_wI, rP_wI, rL_wI, rI_wR, rP_wR, is_wI, is_wR, ia_wI, ia_wR, ow_wI, ow_wR, wn_add, wn_mul, wn_cl, wn_le, wn_lt, wn_inj, wn_ne1, wn_1ne, wn_gt1, wn_le1, nb0, nb1, am_kt, am_rt, List.cons_append, List.nil_append, true_and, and_true, not_true_eq_false, not_false_eq_true, imp_f, imp_t, implies_true, c2, e1, e2]
      refine nx _ _ ⟨rfl, ?_⟩
      have : hm1 σ j = true := by simp [hm1, c2]
      simp [tb, this]
  · rintro _ _ ⟨rfl, rfl⟩
    rw [wb61_4 hc]
    simp +decide (disch := omega) only [↓wm1, wb61_31 hc, w0, w1, w7, rI_wI, rP_wI, rL_wI, rI_wR, rP_wR, is_wI, is_wR, ia_wI, ia_wR, ow_wI, ow_wR, wn_add, wn_mul, wn_cl, wn_le, wn_lt, wn_inj, wn_ne1, wn_1ne, wn_gt1, wn_le1, nb0, nb1, am_kt, am_rt, List.cons_append, List.nil_append, true_and, and_true, not_true_eq_false, not_false_eq_true, imp_f, imp_t, implies_true, Nat.le_refl]
    exact k
end
