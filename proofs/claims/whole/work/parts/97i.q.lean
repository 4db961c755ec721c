/-! Rows of six. -/
theorem lyc_6_0 : allr (fun j => allr (lyc 6 (0 + j)) 6) 60 = true := by decide +kernel
theorem nbc_6_0 : allr (fun j => allr (nbc 6 (0 + j)) 32) 60 = true := by decide +kernel
theorem prc_6_0 : allr (fun j => prc 6 (0 + j)) 60 = true := by decide +kernel
theorem lyc_6_1 : allr (fun j => allr (lyc 6 (60 + j)) 6) 60 = true := by decide +kernel
theorem nbc_6_1 : allr (fun j => allr (nbc 6 (60 + j)) 32) 60 = true := by decide +kernel
theorem prc_6_1 : allr (fun j => prc 6 (60 + j)) 60 = true := by decide +kernel
theorem lyc_6_2 : allr (fun j => allr (lyc 6 (120 + j)) 6) 60 = true := by decide +kernel
theorem nbc_6_2 : allr (fun j => allr (nbc 6 (120 + j)) 32) 60 = true := by decide +kernel
theorem prc_6_2 : allr (fun j => prc 6 (120 + j)) 60 = true := by decide +kernel
theorem lyc_6_3 : allr (fun j => allr (lyc 6 (180 + j)) 6) 60 = true := by decide +kernel
theorem nbc_6_3 : allr (fun j => allr (nbc 6 (180 + j)) 32) 60 = true := by decide +kernel
theorem prc_6_3 : allr (fun j => prc 6 (180 + j)) 60 = true := by decide +kernel
theorem lyc_6_4 : allr (fun j => allr (lyc 6 (240 + j)) 6) 60 = true := by decide +kernel
theorem nbc_6_4 : allr (fun j => allr (nbc 6 (240 + j)) 32) 60 = true := by decide +kernel
theorem prc_6_4 : allr (fun j => prc 6 (240 + j)) 60 = true := by decide +kernel
theorem lyc_6_5 : allr (fun j => allr (lyc 6 (300 + j)) 6) 60 = true := by decide +kernel
theorem nbc_6_5 : allr (fun j => allr (nbc 6 (300 + j)) 32) 60 = true := by decide +kernel
theorem prc_6_5 : allr (fun j => prc 6 (300 + j)) 60 = true := by decide +kernel
theorem lyc_6_6 : allr (fun j => allr (lyc 6 (360 + j)) 6) 60 = true := by decide +kernel
theorem nbc_6_6 : allr (fun j => allr (nbc 6 (360 + j)) 32) 60 = true := by decide +kernel
theorem prc_6_6 : allr (fun j => prc 6 (360 + j)) 60 = true := by decide +kernel
theorem lyc_6_7 : allr (fun j => allr (lyc 6 (420 + j)) 6) 60 = true := by decide +kernel
theorem nbc_6_7 : allr (fun j => allr (nbc 6 (420 + j)) 32) 60 = true := by decide +kernel
theorem prc_6_7 : allr (fun j => prc 6 (420 + j)) 60 = true := by decide +kernel
theorem lyc_6_8 : allr (fun j => allr (lyc 6 (480 + j)) 6) 60 = true := by decide +kernel
theorem nbc_6_8 : allr (fun j => allr (nbc 6 (480 + j)) 32) 60 = true := by decide +kernel
theorem prc_6_8 : allr (fun j => prc 6 (480 + j)) 60 = true := by decide +kernel
theorem lyc_6_9 : allr (fun j => allr (lyc 6 (540 + j)) 6) 60 = true := by decide +kernel
theorem nbc_6_9 : allr (fun j => allr (nbc 6 (540 + j)) 32) 60 = true := by decide +kernel
theorem prc_6_9 : allr (fun j => prc 6 (540 + j)) 60 = true := by decide +kernel
theorem lyc_6_10 : allr (fun j => allr (lyc 6 (600 + j)) 6) 60 = true := by decide +kernel
theorem nbc_6_10 : allr (fun j => allr (nbc 6 (600 + j)) 32) 60 = true := by decide +kernel
theorem prc_6_10 : allr (fun j => prc 6 (600 + j)) 60 = true := by decide +kernel
theorem lyc_6_11 : allr (fun j => allr (lyc 6 (660 + j)) 6) 60 = true := by decide +kernel
theorem nbc_6_11 : allr (fun j => allr (nbc 6 (660 + j)) 32) 60 = true := by decide +kernel
theorem prc_6_11 : allr (fun j => prc 6 (660 + j)) 60 = true := by decide +kernel
theorem r60 {row : Nat} (c : Nat) (h : row / 60 = c) : row = 60 * c + row % 60 ∧ row % 60 < 60 := by omega
theorem lyc_6 {row k : Nat} (hr : row < 720) (hk : k < 6) : lyc 6 row k = true := by
  have : row / 60 = 0 ∨ row / 60 = 1 ∨ row / 60 = 2 ∨ row / 60 = 3 ∨ row / 60 = 4 ∨ row / 60 = 5 ∨ row / 60 = 6 ∨ row / 60 = 7 ∨ row / 60 = 8 ∨ row / 60 = 9 ∨ row / 60 = 10 ∨ row / 60 = 11 := by omega
  rcases this with h | h | h | h | h | h | h | h | h | h | h | h
  · obtain ⟨e, l⟩ := r60 0 h; rw [e]; exact allr_ok _ (allr_ok _ lyc_6_0 _ l) k hk
  · obtain ⟨e, l⟩ := r60 1 h; rw [e]; exact allr_ok _ (allr_ok _ lyc_6_1 _ l) k hk
  · obtain ⟨e, l⟩ := r60 2 h; rw [e]; exact allr_ok _ (allr_ok _ lyc_6_2 _ l) k hk
  · obtain ⟨e, l⟩ := r60 3 h; rw [e]; exact allr_ok _ (allr_ok _ lyc_6_3 _ l) k hk
  · obtain ⟨e, l⟩ := r60 4 h; rw [e]; exact allr_ok _ (allr_ok _ lyc_6_4 _ l) k hk
  · obtain ⟨e, l⟩ := r60 5 h; rw [e]; exact allr_ok _ (allr_ok _ lyc_6_5 _ l) k hk
  · obtain ⟨e, l⟩ := r60 6 h; rw [e]; exact allr_ok _ (allr_ok _ lyc_6_6 _ l) k hk
  · obtain ⟨e, l⟩ := r60 7 h; rw [e]; exact allr_ok _ (allr_ok _ lyc_6_7 _ l) k hk
  · obtain ⟨e, l⟩ := r60 8 h; rw [e]; exact allr_ok _ (allr_ok _ lyc_6_8 _ l) k hk
  · obtain ⟨e, l⟩ := r60 9 h; rw [e]; exact allr_ok _ (allr_ok _ lyc_6_9 _ l) k hk
  · obtain ⟨e, l⟩ := r60 10 h; rw [e]; exact allr_ok _ (allr_ok _ lyc_6_10 _ l) k hk
  · obtain ⟨e, l⟩ := r60 11 h; rw [e]; exact allr_ok _ (allr_ok _ lyc_6_11 _ l) k hk
theorem nbc_6 {row t : Nat} (hr : row < 720) (ht : t < 32) : nbc 6 row t = true := by
  have : row / 60 = 0 ∨ row / 60 = 1 ∨ row / 60 = 2 ∨ row / 60 = 3 ∨ row / 60 = 4 ∨ row / 60 = 5 ∨ row / 60 = 6 ∨ row / 60 = 7 ∨ row / 60 = 8 ∨ row / 60 = 9 ∨ row / 60 = 10 ∨ row / 60 = 11 := by omega
  rcases this with h | h | h | h | h | h | h | h | h | h | h | h
  · obtain ⟨e, l⟩ := r60 0 h; rw [e]; exact allr_ok _ (allr_ok _ nbc_6_0 _ l) t ht
  · obtain ⟨e, l⟩ := r60 1 h; rw [e]; exact allr_ok _ (allr_ok _ nbc_6_1 _ l) t ht
  · obtain ⟨e, l⟩ := r60 2 h; rw [e]; exact allr_ok _ (allr_ok _ nbc_6_2 _ l) t ht
  · obtain ⟨e, l⟩ := r60 3 h; rw [e]; exact allr_ok _ (allr_ok _ nbc_6_3 _ l) t ht
  · obtain ⟨e, l⟩ := r60 4 h; rw [e]; exact allr_ok _ (allr_ok _ nbc_6_4 _ l) t ht
  · obtain ⟨e, l⟩ := r60 5 h; rw [e]; exact allr_ok _ (allr_ok _ nbc_6_5 _ l) t ht
  · obtain ⟨e, l⟩ := r60 6 h; rw [e]; exact allr_ok _ (allr_ok _ nbc_6_6 _ l) t ht
  · obtain ⟨e, l⟩ := r60 7 h; rw [e]; exact allr_ok _ (allr_ok _ nbc_6_7 _ l) t ht
  · obtain ⟨e, l⟩ := r60 8 h; rw [e]; exact allr_ok _ (allr_ok _ nbc_6_8 _ l) t ht
  · obtain ⟨e, l⟩ := r60 9 h; rw [e]; exact allr_ok _ (allr_ok _ nbc_6_9 _ l) t ht
  · obtain ⟨e, l⟩ := r60 10 h; rw [e]; exact allr_ok _ (allr_ok _ nbc_6_10 _ l) t ht
  · obtain ⟨e, l⟩ := r60 11 h; rw [e]; exact allr_ok _ (allr_ok _ nbc_6_11 _ l) t ht
theorem prc_6 {row : Nat} (hr : row < 720) : prc 6 row = true := by
  have : row / 60 = 0 ∨ row / 60 = 1 ∨ row / 60 = 2 ∨ row / 60 = 3 ∨ row / 60 = 4 ∨ row / 60 = 5 ∨ row / 60 = 6 ∨ row / 60 = 7 ∨ row / 60 = 8 ∨ row / 60 = 9 ∨ row / 60 = 10 ∨ row / 60 = 11 := by omega
  rcases this with h | h | h | h | h | h | h | h | h | h | h | h
  · obtain ⟨e, l⟩ := r60 0 h; rw [e]; exact allr_ok _ prc_6_0 _ l
  · obtain ⟨e, l⟩ := r60 1 h; rw [e]; exact allr_ok _ prc_6_1 _ l
  · obtain ⟨e, l⟩ := r60 2 h; rw [e]; exact allr_ok _ prc_6_2 _ l
  · obtain ⟨e, l⟩ := r60 3 h; rw [e]; exact allr_ok _ prc_6_3 _ l
  · obtain ⟨e, l⟩ := r60 4 h; rw [e]; exact allr_ok _ prc_6_4 _ l
  · obtain ⟨e, l⟩ := r60 5 h; rw [e]; exact allr_ok _ prc_6_5 _ l
  · obtain ⟨e, l⟩ := r60 6 h; rw [e]; exact allr_ok _ prc_6_6 _ l
  · obtain ⟨e, l⟩ := r60 7 h; rw [e]; exact allr_ok _ prc_6_7 _ l
  · obtain ⟨e, l⟩ := r60 8 h; rw [e]; exact allr_ok _ prc_6_8 _ l
  · obtain ⟨e, l⟩ := r60 9 h; rw [e]; exact allr_ok _ prc_6_9 _ l
  · obtain ⟨e, l⟩ := r60 10 h; rw [e]; exact allr_ok _ prc_6_10 _ l
  · obtain ⟨e, l⟩ := r60 11 h; rw [e]; exact allr_ok _ prc_6_11 _ l
theorem lyc_ok {n row k : Nat} (h1 : 1 ≤ n) (h6 : n ≤ 6) (hr : row < mny n) (hk : k < n) : lyc n row k = true := by
  have : n = 1 ∨ n = 2 ∨ n = 3 ∨ n = 4 ∨ n = 5 ∨ n = 6 := by omega
  rcases this with rfl | rfl | rfl | rfl | rfl | rfl
  · exact allr_ok _ (allr_ok _ lyc_1 row hr) k hk
  · exact allr_ok _ (allr_ok _ lyc_2 row hr) k hk
  · exact allr_ok _ (allr_ok _ lyc_3 row hr) k hk
  · exact allr_ok _ (allr_ok _ lyc_4 row hr) k hk
  · exact allr_ok _ (allr_ok _ lyc_5 row hr) k hk
  · exact lyc_6 hr hk
theorem nbc_ok {n row t : Nat} (h1 : 1 ≤ n) (h6 : n ≤ 6) (hr : row < mny n) (ht : t < 2 ^ (n - 1)) : nbc n row t = true := by
  have : n = 1 ∨ n = 2 ∨ n = 3 ∨ n = 4 ∨ n = 5 ∨ n = 6 := by omega
  rcases this with rfl | rfl | rfl | rfl | rfl | rfl
  · exact allr_ok _ (allr_ok _ nbc_1 row hr) t ht
  · exact allr_ok _ (allr_ok _ nbc_2 row hr) t ht
  · exact allr_ok _ (allr_ok _ nbc_3 row hr) t ht
  · exact allr_ok _ (allr_ok _ nbc_4 row hr) t ht
  · exact allr_ok _ (allr_ok _ nbc_5 row hr) t ht
  · exact nbc_6 hr ht
theorem prc_ok {n row : Nat} (h1 : 1 ≤ n) (h6 : n ≤ 6) (hr : row < mny n) : prc n row = true := by
  have : n = 1 ∨ n = 2 ∨ n = 3 ∨ n = 4 ∨ n = 5 ∨ n = 6 := by omega
  rcases this with rfl | rfl | rfl | rfl | rfl | rfl
  · exact allr_ok _ prc_1 row hr
  · exact allr_ok _ prc_2 row hr
  · exact allr_ok _ prc_3 row hr
  · exact allr_ok _ prc_4 row hr
  · exact allr_ok _ prc_5 row hr
  · exact prc_6 hr
theorem dlv_ok {n row : Nat} (h1 : 1 ≤ n) (h6 : n ≤ 6) (hr : row < mny n) : dls n row = dlv n row := by
  have : n = 1 ∨ n = 2 ∨ n = 3 ∨ n = 4 ∨ n = 5 ∨ n = 6 := by omega
  rcases this with rfl | rfl | rfl | rfl | rfl | rfl
  · exact eq_of_beq (allr_ok _ dle_1 row hr)
  · exact eq_of_beq (allr_ok _ dle_2 row hr)
  · exact eq_of_beq (allr_ok _ dle_3 row hr)
  · exact eq_of_beq (allr_ok _ dle_4 row hr)
  · exact eq_of_beq (allr_ok _ dle_5 row hr)
  · exact eq_of_beq (allr_ok _ dle_6 row hr)
