/-! The law's own methods that call and catch (gen97q.py). -/
def ecd (cd : Nat) (r : Res) : Nat := match r with
  | .inl _ => 0
  | .inr 0 => 1
  | .inr _ => cd
def Fw (G G' : am_G) : Prop := am_sl G' = am_sl G ∧ (am_K G').length ≤ (am_K G).length + 1 ∧ am_us G' ≤ am_us G + 6 ∧ ∀ a i, Hi a → am_gI G' a i = am_gI G a i
def WC (G : am_G) (V : Vt) (cd : Nat) (r : Res) (o : am_O) (G' : am_G) : Prop := RepC G' V ∧ Fw G G' ∧ o = .inl (some (.int (wn (ecd cd r)))) ∧ ∀ v, r = .inl v → am_gL G' 838 0 = v.toInt64
theorem Fc.w {G G' : am_G} (h : Fc G G') : Fw G G' := ⟨h.1, h.2.1, h.2.2.1, h.2.2.2.1⟩
theorem RepC.wL {G : am_G} {V : Vt} (h : RepC G V) (v : Int64) : RepC (am_wL G 838 0 v) V := h.eq (h.1.wL _ _ _) (fun _ _ _ => rfl) (fun _ => rfl)
theorem WC_ok {G G1 : am_G} {V : Vt} {cd : Nat} {v : Int32} (a : RepC G1 V) (b : Fc G G1) : WC G V cd (.inl v) (.inl (some (.int (wn 0)))) (am_wL G1 838 0 v.toInt64) := by
  refine ⟨a.wL _, ⟨b.1, b.2.1, b.2.2.1, b.2.2.2.1⟩, rfl, fun v' h => ?_⟩
  cases h
  rw [rL_wL, if_pos ⟨rfl, rfl⟩]
theorem WC_0 {G G1 : am_G} {V : Vt} {cd : Nat} (a : RepC G1 V) (b : Fc G G1) : WC G V cd (.inr 0) (.inl (some (.int (wn 1)))) G1 := ⟨a, b.w, rfl, fun v' h => by cases h⟩
theorem WC_1 {G G1 : am_G} {V : Vt} {cd k : Nat} (a : RepC G1 V) (b : Fc G G1) : WC G V cd (.inr (k + 1)) (.inl (some (.int (wn cd)))) G1 := ⟨a, b.w, rfl, fun v' h => by cases h⟩
theorem cat_1 {G : am_G} {q pc b h k n : Nat} (hb : Nat.blt pc b = true) (hk : (am_K G)[q]? = some (k, n)) : am_cat G q pc [(0, b, h, k)] = some (some h) := by
  have h0 : Nat.ble 0 pc = true := by cases pc <;> rfl
  simp [am_cat, hb, hk, h0]
theorem cat_2a {G : am_G} {q pc b h h2 n : Nat} (hb : Nat.blt pc b = true) (hk : (am_K G)[q]? = some (201, n)) : am_cat G q pc [(0, b, h, 201), (0, b, h2, 200)] = some (some h) := by
  have h0 : Nat.ble 0 pc = true := by cases pc <;> rfl
  simp [am_cat, hb, hk, h0]
theorem cat_2b {G : am_G} {q pc b h h2 n : Nat} (hb : Nat.blt pc b = true) (hk : (am_K G)[q]? = some (200, n)) : am_cat G q pc [(0, b, h, 201), (0, b, h2, 200)] = some (some h2) := by
  have h0 : Nat.ble 0 pc = true := by cases pc <;> rfl
  simp [am_cat, hb, hk, h0]
theorem ow838 {G : am_G} (h : Sh G) : am_ow G 838 (0 : Int32) 101 := h.ow (k := 101) (n := 1) (j := 0) (by decide +kernel) (by decide) (by decide)
section
variable {G : am_G} {d : Nat} {V : Vt}
theorem k_dist (V : Vt) (x1 : Int32) : ∀ k, q_dist V x1 = .inr k → k ≠ 0 := by
  intro k h
  unfold q_dist at h
  (repeat' split at h) <;> (cases h) <;> decide
theorem w_dist (hR : RepC G V) (hB : am_rm G 1 6) (hcs : Cs G) (x1 : Int32) : am_C am_T (d + 13) 281 [.ref 0, .int x1, .ref 838] G (WC G (s_dist V x1) 1 (q_dist V x1)) := by
  have hc := am_C_one am_T (d + 12)
  rw [we281, wb281_0 hc]
  refine ⟨(fC hR.1).1, hc.mono (cl_dist hR hB hcs x1) (fun o G1 q => ?_)⟩
  have kk := k_dist V x1
  generalize hV : s_dist V x1 = V1 at q ⊢
  generalize q_dist V x1 = r at q kk ⊢
  rcases r with v | k
  · obtain ⟨a, b, rfl⟩ := q
    show am_W (am_C am_T (d + 12)) am_281 _ 7 _ [.int v, .int (0 : Int32), .ref 838] G1
    rw [wb281_7 hc]
    refine ⟨ow838 a.1, ?_⟩
    rw [wb281_15 hc]
    exact WC_ok a b
  · obtain ⟨k, rfl⟩ : ∃ j, k = j + 1 := ⟨k - 1, by have := kk k rfl; omega⟩
    obtain ⟨a, b, q0, rfl, hk⟩ := q
    have e : am_cat G1 q0 4 am_281.2.2 = some (some 12) := cat_1 rfl hk
    simp only [am_kt, e]
    rw [wb281_12 hc]
    exact WC_1 a b
theorem k_law (V : Vt) (x1 : Int32) : ∀ k, q_law V x1 = .inr k → k ≠ 0 := by
  intro k h
  unfold q_law at h
  (repeat' split at h) <;> (cases h) <;> decide
theorem w_law (hR : RepC G V) (hB : am_rm G 1 6) (hcs : Cs G) (x1 : Int32) : am_C am_T (d + 41) 282 [.ref 0, .int x1, .ref 838] G (WC G (s_law V x1) 1 (q_law V x1)) := by
  have hc := am_C_one am_T (d + 40)
  rw [we282, wb282_0 hc]
  refine ⟨(fC hR.1).1, hc.mono (cl_law hR hB hcs x1) (fun o G1 q => ?_)⟩
  have kk := k_law V x1
  generalize hV : s_law V x1 = V1 at q ⊢
  generalize q_law V x1 = r at q kk ⊢
  rcases r with v | k
  · obtain ⟨a, b, rfl⟩ := q
    show am_W (am_C am_T (d + 40)) am_282 _ 7 _ [.int v, .int (0 : Int32), .ref 838] G1
    rw [wb282_7 hc]
    refine ⟨ow838 a.1, ?_⟩
    rw [wb282_15 hc]
    exact WC_ok a b
  · obtain ⟨k, rfl⟩ : ∃ j, k = j + 1 := ⟨k - 1, by have := kk k rfl; omega⟩
    obtain ⟨a, b, q0, rfl, hk⟩ := q
    have e : am_cat G1 q0 4 am_282.2.2 = some (some 12) := cat_1 rfl hk
    simp only [am_kt, e]
    rw [wb282_12 hc]
    exact WC_1 a b
theorem k_work (V : Vt) (x1 : Int32) : ∀ k, q_work V x1 = .inr k → k ≠ 0 := by
  intro k h
  unfold q_work at h
  (repeat' split at h) <;> (cases h) <;> decide
theorem w_work (hR : RepC G V) (hB : am_rm G 1 6) (hcs : Cs G) (x1 : Int32) : am_C am_T (d + 81) 283 [.ref 0, .int x1, .ref 838] G (WC G (s_work V x1) 1 (q_work V x1)) := by
  have hc := am_C_one am_T (d + 80)
  rw [we283, wb283_0 hc]
  refine ⟨(fC hR.1).1, hc.mono (cl_work hR hB hcs x1) (fun o G1 q => ?_)⟩
  have kk := k_work V x1
  generalize hV : s_work V x1 = V1 at q ⊢
  generalize q_work V x1 = r at q kk ⊢
  rcases r with v | k
  · obtain ⟨a, b, rfl⟩ := q
    show am_W (am_C am_T (d + 80)) am_283 _ 7 _ [.int v, .int (0 : Int32), .ref 838] G1
    rw [wb283_7 hc]
    refine ⟨ow838 a.1, ?_⟩
    rw [wb283_15 hc]
    exact WC_ok a b
  · obtain ⟨k, rfl⟩ : ∃ j, k = j + 1 := ⟨k - 1, by have := kk k rfl; omega⟩
    obtain ⟨a, b, q0, rfl, hk⟩ := q
    have e : am_cat G1 q0 4 am_283.2.2 = some (some 12) := cat_1 rfl hk
    simp only [am_kt, e]
    rw [wb283_12 hc]
    exact WC_1 a b
theorem k_book (V : Vt) (x1 : Int32) : ∀ k, q_book V x1 = .inr k → k ≠ 0 := by
  intro k h
  unfold q_book at h
  (repeat' split at h) <;> (cases h) <;> decide
theorem w_book (hR : RepC G V) (hB : am_rm G 1 6) (x1 : Int32) : am_C am_T (d + 13) 284 [.ref 0, .int x1, .ref 838] G (WC G (s_book V x1) 1 (q_book V x1)) := by
  have hc := am_C_one am_T (d + 12)
  rw [we284, wb284_0 hc]
  refine ⟨(fC hR.1).1, hc.mono (cl_book hR hB x1) (fun o G1 q => ?_)⟩
  have kk := k_book V x1
  generalize hV : s_book V x1 = V1 at q ⊢
  generalize q_book V x1 = r at q kk ⊢
  rcases r with v | k
  · obtain ⟨a, b, rfl⟩ := q
    show am_W (am_C am_T (d + 12)) am_284 _ 7 _ [.int v, .int (0 : Int32), .ref 838] G1
    rw [wb284_7 hc]
    refine ⟨ow838 a.1, ?_⟩
    rw [wb284_15 hc]
    exact WC_ok a b
  · obtain ⟨k, rfl⟩ : ∃ j, k = j + 1 := ⟨k - 1, by have := kk k rfl; omega⟩
    obtain ⟨a, b, q0, rfl, hk⟩ := q
    have e : am_cat G1 q0 4 am_284.2.2 = some (some 12) := cat_1 rfl hk
    simp only [am_kt, e]
    rw [wb284_12 hc]
    exact WC_1 a b
theorem k_told (V : Vt) (x1 : Int32) : ∀ k, sp_told V x1 = .inr k → k ≠ 0 := by
  intro k h
  unfold sp_told at h
  (repeat' split at h) <;> (cases h) <;> decide
theorem w_told (hR : RepC G V) (hB : am_rm G 1 6) (x1 : Int32) : am_C am_T (d + 13) 285 [.ref 0, .int x1, .ref 838] G (WC G (rfV V (sp_told V x1)) 1 (sp_told V x1)) := by
  have hc := am_C_one am_T (d + 12)
  rw [we285, wb285_0 hc]
  refine ⟨(fC hR.1).1, hc.mono (cl_told hR hB x1) (fun o G1 q => ?_)⟩
  have kk := k_told V x1
  generalize hV : rfV V (sp_told V x1) = V1 at q ⊢
  generalize sp_told V x1 = r at q kk ⊢
  rcases r with v | k
  · obtain ⟨a, b, rfl⟩ := q
    show am_W (am_C am_T (d + 12)) am_285 _ 7 _ [.int v, .int (0 : Int32), .ref 838] G1
    rw [wb285_7 hc]
    refine ⟨ow838 a.1, ?_⟩
    rw [wb285_15 hc]
    exact WC_ok a b
  · obtain ⟨k, rfl⟩ : ∃ j, k = j + 1 := ⟨k - 1, by have := kk k rfl; omega⟩
    obtain ⟨a, b, q0, rfl, hk⟩ := q
    have e : am_cat G1 q0 4 am_285.2.2 = some (some 12) := cat_1 rfl hk
    simp only [am_kt, e]
    rw [wb285_12 hc]
    exact WC_1 a b
theorem w_bell (hR : RepC G V) (hB : am_rm G 1 6) (x1 x2 : Int32) : am_C am_T (d + 13) 286 [.ref 0, .int x1, .int x2, .ref 838] G (WC G (rfV V (sp_bell V x1 x2)) 2 (sp_bell V x1 x2)) := by
  have hc := am_C_one am_T (d + 12)
  rw [we286, wb286_0 hc]
  refine ⟨(fC hR.1).1, hc.mono (cl_bell hR hB x1 x2) (fun o G1 q => ?_)⟩
  generalize hV : rfV V (sp_bell V x1 x2) = V1 at q ⊢
  generalize sp_bell V x1 x2 = r at q ⊢
  rcases r with v | k
  · obtain ⟨a, b, rfl⟩ := q
    show am_W (am_C am_T (d + 12)) am_286 _ 8 _ [.int v, .int (0 : Int32), .ref 838] G1
    rw [wb286_8 hc]
    refine ⟨ow838 a.1, ?_⟩
    rw [wb286_21 hc]
    exact WC_ok a b
  · rcases k with _ | k
    · obtain ⟨a, b, q0, rfl, hk⟩ := q
      have e : am_cat G1 q0 5 am_286.2.2 = some (some 13) := cat_2a rfl hk
      simp only [am_kt, e]
      rw [wb286_13 hc]
      exact WC_0 a b
    · obtain ⟨a, b, q0, rfl, hk⟩ := q
      have e : am_cat G1 q0 5 am_286.2.2 = some (some 17) := cat_2b rfl hk
      simp only [am_kt, e]
      rw [wb286_17 hc]
      exact WC_1 a b
theorem w_house (hR : RepC G V) (hB : am_rm G 1 6) (x1 x2 : Int32) : am_C am_T (d + 13) 287 [.ref 0, .int x1, .int x2, .ref 838] G (WC G (rfV V (sp_house V x1 x2)) 2 (sp_house V x1 x2)) := by
  have hc := am_C_one am_T (d + 12)
  rw [we287, wb287_0 hc]
  refine ⟨(fC hR.1).1, hc.mono (cl_house hR hB x1 x2) (fun o G1 q => ?_)⟩
  generalize hV : rfV V (sp_house V x1 x2) = V1 at q ⊢
  generalize sp_house V x1 x2 = r at q ⊢
  rcases r with v | k
  · obtain ⟨a, b, rfl⟩ := q
    show am_W (am_C am_T (d + 12)) am_287 _ 8 _ [.int v, .int (0 : Int32), .ref 838] G1
    rw [wb287_8 hc]
    refine ⟨ow838 a.1, ?_⟩
    rw [wb287_21 hc]
    exact WC_ok a b
  · rcases k with _ | k
    · obtain ⟨a, b, q0, rfl, hk⟩ := q
      have e : am_cat G1 q0 5 am_287.2.2 = some (some 13) := cat_2a rfl hk
      simp only [am_kt, e]
      rw [wb287_13 hc]
      exact WC_0 a b
    · obtain ⟨a, b, q0, rfl, hk⟩ := q
      have e : am_cat G1 q0 5 am_287.2.2 = some (some 17) := cat_2b rfl hk
      simp only [am_kt, e]
      rw [wb287_17 hc]
      exact WC_1 a b
theorem w_deed (hR : RepC G V) (hB : am_rm G 1 6) (x1 x2 : Int32) : am_C am_T (d + 13) 288 [.ref 0, .int x1, .int x2, .ref 838] G (WC G (rfV V (sp_deed V x1 x2)) 2 (sp_deed V x1 x2)) := by
  have hc := am_C_one am_T (d + 12)
  rw [we288, wb288_0 hc]
  refine ⟨(fC hR.1).1, hc.mono (cl_deed hR hB x1 x2) (fun o G1 q => ?_)⟩
  generalize hV : rfV V (sp_deed V x1 x2) = V1 at q ⊢
  generalize sp_deed V x1 x2 = r at q ⊢
  rcases r with v | k
  · obtain ⟨a, b, rfl⟩ := q
    show am_W (am_C am_T (d + 12)) am_288 _ 8 _ [.int v, .int (0 : Int32), .ref 838] G1
    rw [wb288_8 hc]
    refine ⟨ow838 a.1, ?_⟩
    rw [wb288_21 hc]
    exact WC_ok a b
  · rcases k with _ | k
    · obtain ⟨a, b, q0, rfl, hk⟩ := q
      have e : am_cat G1 q0 5 am_288.2.2 = some (some 13) := cat_2a rfl hk
      simp only [am_kt, e]
      rw [wb288_13 hc]
      exact WC_0 a b
    · obtain ⟨a, b, q0, rfl, hk⟩ := q
      have e : am_cat G1 q0 5 am_288.2.2 = some (some 17) := cat_2b rfl hk
      simp only [am_kt, e]
      rw [wb288_17 hc]
      exact WC_1 a b
theorem w_temper (hR : RepC G V) (hB : am_rm G 1 6) (x1 x2 : Int32) : am_C am_T (d + 13) 289 [.ref 0, .int x1, .int x2, .ref 838] G (WC G (rfV V (sp_temper V x1 x2)) 2 (sp_temper V x1 x2)) := by
  have hc := am_C_one am_T (d + 12)
  rw [we289, wb289_0 hc]
  refine ⟨(fC hR.1).1, hc.mono (cl_temper hR hB x1 x2) (fun o G1 q => ?_)⟩
  generalize hV : rfV V (sp_temper V x1 x2) = V1 at q ⊢
  generalize sp_temper V x1 x2 = r at q ⊢
  rcases r with v | k
  · obtain ⟨a, b, rfl⟩ := q
    show am_W (am_C am_T (d + 12)) am_289 _ 8 _ [.int v, .int (0 : Int32), .ref 838] G1
    rw [wb289_8 hc]
    refine ⟨ow838 a.1, ?_⟩
    rw [wb289_21 hc]
    exact WC_ok a b
  · rcases k with _ | k
    · obtain ⟨a, b, q0, rfl, hk⟩ := q
      have e : am_cat G1 q0 5 am_289.2.2 = some (some 13) := cat_2a rfl hk
      simp only [am_kt, e]
      rw [wb289_13 hc]
      exact WC_0 a b
    · obtain ⟨a, b, q0, rfl, hk⟩ := q
      have e : am_cat G1 q0 5 am_289.2.2 = some (some 17) := cat_2b rfl hk
      simp only [am_kt, e]
      rw [wb289_17 hc]
      exact WC_1 a b
theorem k_heard (V : Vt) (x1 x2 : Int32) : ∀ k, sp_heard V x1 x2 = .inr k → k = 0 := by
  intro k h
  unfold sp_heard at h
  (repeat' split at h) <;> (cases h) <;> decide
theorem w_heard (hR : RepC G V) (hB : am_rm G 1 6) (x1 x2 : Int32) : am_C am_T (d + 13) 290 [.ref 0, .int x1, .int x2, .ref 838] G (WC G (rfV V (sp_heard V x1 x2)) 1 (sp_heard V x1 x2)) := by
  have hc := am_C_one am_T (d + 12)
  rw [we290, wb290_0 hc]
  refine ⟨(fC hR.1).1, hc.mono (cl_heard hR hB x1 x2) (fun o G1 q => ?_)⟩
  have kk := k_heard V x1 x2
  generalize hV : rfV V (sp_heard V x1 x2) = V1 at q ⊢
  generalize sp_heard V x1 x2 = r at q kk ⊢
  rcases r with v | k
  · obtain ⟨a, b, rfl⟩ := q
    show am_W (am_C am_T (d + 12)) am_290 _ 8 _ [.int v, .int (0 : Int32), .ref 838] G1
    rw [wb290_8 hc]
    refine ⟨ow838 a.1, ?_⟩
    rw [wb290_17 hc]
    exact WC_ok a b
  · obtain rfl : k = 0 := kk k rfl
    obtain ⟨a, b, q0, rfl, hk⟩ := q
    have e : am_cat G1 q0 5 am_290.2.2 = some (some 13) := cat_1 rfl hk
    simp only [am_kt, e]
    rw [wb290_13 hc]
    exact WC_0 a b
theorem k_would (V : Vt) (x1 x2 x3 x4 x5 x6 x7 x8 x9 : Int32) : ∀ k, sp_would V x1 x2 x3 x4 x5 x6 x7 x8 x9 = .inr k → k ≠ 0 := by
  intro k h
  unfold sp_would at h
  (repeat' split at h) <;> (cases h) <;> decide
theorem w_would (hR : RepC G V) (hB : am_rm G 1 6) (x1 x2 x3 x4 x5 x6 x7 x8 x9 : Int32) : am_C am_T (d + 13) 291 [.ref 0, .int x1, .int x2, .int x3, .int x4, .int x5, .int x6, .int x7, .int x8, .int x9, .ref 838] G (WC G (rfV V (sp_would V x1 x2 x3 x4 x5 x6 x7 x8 x9)) 1 (sp_would V x1 x2 x3 x4 x5 x6 x7 x8 x9)) := by
  have hc := am_C_one am_T (d + 12)
  rw [we291, wb291_0 hc]
  refine ⟨(fC hR.1).1, hc.mono (cl_would hR hB x1 x2 x3 x4 x5 x6 x7 x8 x9) (fun o G1 q => ?_)⟩
  have kk := k_would V x1 x2 x3 x4 x5 x6 x7 x8 x9
  generalize hV : rfV V (sp_would V x1 x2 x3 x4 x5 x6 x7 x8 x9) = V1 at q ⊢
  generalize sp_would V x1 x2 x3 x4 x5 x6 x7 x8 x9 = r at q kk ⊢
  rcases r with v | k
  · obtain ⟨a, b, rfl⟩ := q
    show am_W (am_C am_T (d + 12)) am_291 _ 22 _ [.int v, .int (0 : Int32), .ref 838] G1
    rw [wb291_22 hc]
    refine ⟨ow838 a.1, ?_⟩
    rw [wb291_31 hc]
    exact WC_ok a b
  · obtain ⟨k, rfl⟩ : ∃ j, k = j + 1 := ⟨k - 1, by have := kk k rfl; omega⟩
    obtain ⟨a, b, q0, rfl, hk⟩ := q
    have e : am_cat G1 q0 19 am_291.2.2 = some (some 27) := cat_1 rfl hk
    simp only [am_kt, e]
    rw [wb291_27 hc]
    exact WC_1 a b
theorem k_ahead (V : Vt) (x1 x2 : Int32) : ∀ k, sp_ahead V x1 x2 = .inr k → k ≠ 0 := by
  intro k h
  unfold sp_ahead at h
  (repeat' split at h) <;> (cases h) <;> decide
theorem w_ahead (hR : RepC G V) (hB : am_rm G 1 6) (x1 x2 : Int32) : am_C am_T (d + 13) 292 [.ref 0, .int x1, .int x2, .ref 838] G (WC G (rfV V (sp_ahead V x1 x2)) 1 (sp_ahead V x1 x2)) := by
  have hc := am_C_one am_T (d + 12)
  rw [we292, wb292_0 hc]
  refine ⟨(fC hR.1).1, hc.mono (cl_ahead hR hB x1 x2) (fun o G1 q => ?_)⟩
  have kk := k_ahead V x1 x2
  generalize hV : rfV V (sp_ahead V x1 x2) = V1 at q ⊢
  generalize sp_ahead V x1 x2 = r at q kk ⊢
  rcases r with v | k
  · obtain ⟨a, b, rfl⟩ := q
    show am_W (am_C am_T (d + 12)) am_292 _ 8 _ [.int v, .int (0 : Int32), .ref 838] G1
    rw [wb292_8 hc]
    refine ⟨ow838 a.1, ?_⟩
    rw [wb292_17 hc]
    exact WC_ok a b
  · obtain ⟨k, rfl⟩ : ∃ j, k = j + 1 := ⟨k - 1, by have := kk k rfl; omega⟩
    obtain ⟨a, b, q0, rfl, hk⟩ := q
    have e : am_cat G1 q0 5 am_292.2.2 = some (some 13) := cat_1 rfl hk
    simp only [am_kt, e]
    rw [wb292_13 hc]
    exact WC_1 a b
theorem k_sleeps (V : Vt) (x1 : Int32) : ∀ k, sp_sleeps V x1 = .inr k → k = 0 := by
  intro k h
  unfold sp_sleeps at h
  (repeat' split at h) <;> (cases h) <;> decide
theorem w_sleeps (hR : RepC G V) (hB : am_rm G 1 6) (x1 : Int32) : am_C am_T (d + 13) 293 [.ref 0, .int x1, .ref 838] G (WC G (rfV V (sp_sleeps V x1)) 1 (sp_sleeps V x1)) := by
  have hc := am_C_one am_T (d + 12)
  rw [we293, wb293_0 hc]
  refine ⟨(fC hR.1).1, hc.mono (cl_sleeps hR hB x1) (fun o G1 q => ?_)⟩
  have kk := k_sleeps V x1
  generalize hV : rfV V (sp_sleeps V x1) = V1 at q ⊢
  generalize sp_sleeps V x1 = r at q kk ⊢
  rcases r with v | k
  · obtain ⟨a, b, rfl⟩ := q
    show am_W (am_C am_T (d + 12)) am_293 _ 7 _ [.int v, .int (0 : Int32), .ref 838] G1
    rw [wb293_7 hc]
    refine ⟨ow838 a.1, ?_⟩
    rw [wb293_15 hc]
    exact WC_ok a b
  · obtain rfl : k = 0 := kk k rfl
    obtain ⟨a, b, q0, rfl, hk⟩ := q
    have e : am_cat G1 q0 4 am_293.2.2 = some (some 12) := cat_1 rfl hk
    simp only [am_kt, e]
    rw [wb293_12 hc]
    exact WC_0 a b
theorem w_rouse (hR : RepC G V) (hB : am_rm G 1 6) (x1 x2 : Int32) : am_C am_T (d + 13) 294 [.ref 0, .int x1, .int x2, .ref 838] G (WC G (rfV V (sp_rouse V x1 x2)) 2 (sp_rouse V x1 x2)) := by
  have hc := am_C_one am_T (d + 12)
  rw [we294, wb294_0 hc]
  refine ⟨(fC hR.1).1, hc.mono (cl_rouse hR hB x1 x2) (fun o G1 q => ?_)⟩
  generalize hV : rfV V (sp_rouse V x1 x2) = V1 at q ⊢
  generalize sp_rouse V x1 x2 = r at q ⊢
  rcases r with v | k
  · obtain ⟨a, b, rfl⟩ := q
    show am_W (am_C am_T (d + 12)) am_294 _ 8 _ [.int v, .int (0 : Int32), .ref 838] G1
    rw [wb294_8 hc]
    refine ⟨ow838 a.1, ?_⟩
    rw [wb294_21 hc]
    exact WC_ok a b
  · rcases k with _ | k
    · obtain ⟨a, b, q0, rfl, hk⟩ := q
      have e : am_cat G1 q0 5 am_294.2.2 = some (some 13) := cat_2a rfl hk
      simp only [am_kt, e]
      rw [wb294_13 hc]
      exact WC_0 a b
    · obtain ⟨a, b, q0, rfl, hk⟩ := q
      have e : am_cat G1 q0 5 am_294.2.2 = some (some 17) := cat_2b rfl hk
      simp only [am_kt, e]
      rw [wb294_17 hc]
      exact WC_1 a b
theorem k_suited (V : Vt) (x1 : Int32) : ∀ k, sp_suited V x1 = .inr k → k = 0 := by
  intro k h
  unfold sp_suited at h
  (repeat' split at h) <;> (cases h) <;> decide
theorem w_suited (hR : RepC G V) (hB : am_rm G 1 6) (x1 : Int32) : am_C am_T (d + 13) 295 [.ref 0, .int x1, .ref 838] G (WC G (rfV V (sp_suited V x1)) 1 (sp_suited V x1)) := by
  have hc := am_C_one am_T (d + 12)
  rw [we295, wb295_0 hc]
  refine ⟨(fC hR.1).1, hc.mono (cl_suited hR hB x1) (fun o G1 q => ?_)⟩
  have kk := k_suited V x1
  generalize hV : rfV V (sp_suited V x1) = V1 at q ⊢
  generalize sp_suited V x1 = r at q kk ⊢
  rcases r with v | k
  · obtain ⟨a, b, rfl⟩ := q
    show am_W (am_C am_T (d + 12)) am_295 _ 7 _ [.int v, .int (0 : Int32), .ref 838] G1
    rw [wb295_7 hc]
    refine ⟨ow838 a.1, ?_⟩
    rw [wb295_15 hc]
    exact WC_ok a b
  · obtain rfl : k = 0 := kk k rfl
    obtain ⟨a, b, q0, rfl, hk⟩ := q
    have e : am_cat G1 q0 4 am_295.2.2 = some (some 12) := cat_1 rfl hk
    simp only [am_kt, e]
    rw [wb295_12 hc]
    exact WC_0 a b
theorem w_pulls (hR : RepC G V) (hB : am_rm G 1 6) (x1 x2 : Int32) : am_C am_T (d + 13) 296 [.ref 0, .int x1, .int x2, .ref 838] G (WC G (rfV V (sp_pulls V x1 x2)) 2 (sp_pulls V x1 x2)) := by
  have hc := am_C_one am_T (d + 12)
  rw [we296, wb296_0 hc]
  refine ⟨(fC hR.1).1, hc.mono (cl_pulls hR hB x1 x2) (fun o G1 q => ?_)⟩
  generalize hV : rfV V (sp_pulls V x1 x2) = V1 at q ⊢
  generalize sp_pulls V x1 x2 = r at q ⊢
  rcases r with v | k
  · obtain ⟨a, b, rfl⟩ := q
    show am_W (am_C am_T (d + 12)) am_296 _ 8 _ [.int v, .int (0 : Int32), .ref 838] G1
    rw [wb296_8 hc]
    refine ⟨ow838 a.1, ?_⟩
    rw [wb296_21 hc]
    exact WC_ok a b
  · rcases k with _ | k
    · obtain ⟨a, b, q0, rfl, hk⟩ := q
      have e : am_cat G1 q0 5 am_296.2.2 = some (some 13) := cat_2a rfl hk
      simp only [am_kt, e]
      rw [wb296_13 hc]
      exact WC_0 a b
    · obtain ⟨a, b, q0, rfl, hk⟩ := q
      have e : am_cat G1 q0 5 am_296.2.2 = some (some 17) := cat_2b rfl hk
      simp only [am_kt, e]
      rw [wb296_17 hc]
      exact WC_1 a b
theorem k_cast (V : Vt) (x1 : Int32) : ∀ k, sp_cast V x1 = .inr k → k ≠ 0 := by
  intro k h
  unfold sp_cast at h
  (repeat' split at h) <;> (cases h) <;> decide
theorem w_cast (hR : RepC G V) (hB : am_rm G 1 6) (x1 : Int32) : am_C am_T (d + 13) 297 [.ref 0, .int x1, .ref 838] G (WC G (rfV V (sp_cast V x1)) 1 (sp_cast V x1)) := by
  have hc := am_C_one am_T (d + 12)
  rw [we297, wb297_0 hc]
  refine ⟨(fC hR.1).1, hc.mono (cl_cast hR hB x1) (fun o G1 q => ?_)⟩
  have kk := k_cast V x1
  generalize hV : rfV V (sp_cast V x1) = V1 at q ⊢
  generalize sp_cast V x1 = r at q kk ⊢
  rcases r with v | k
  · obtain ⟨a, b, rfl⟩ := q
    show am_W (am_C am_T (d + 12)) am_297 _ 7 _ [.int v, .int (0 : Int32), .ref 838] G1
    rw [wb297_7 hc]
    refine ⟨ow838 a.1, ?_⟩
    rw [wb297_15 hc]
    exact WC_ok a b
  · obtain ⟨k, rfl⟩ : ∃ j, k = j + 1 := ⟨k - 1, by have := kk k rfl; omega⟩
    obtain ⟨a, b, q0, rfl, hk⟩ := q
    have e : am_cat G1 q0 4 am_297.2.2 = some (some 12) := cat_1 rfl hk
    simp only [am_kt, e]
    rw [wb297_12 hc]
    exact WC_1 a b
theorem k_ask (V : Vt) (x1 : Int32) : ∀ k, sp_ask V x1 = .inr k → k ≠ 0 := by
  intro k h
  unfold sp_ask at h
  (repeat' split at h) <;> (cases h) <;> decide
theorem w_ask (hR : RepC G V) (hB : am_rm G 1 6) (x1 : Int32) : am_C am_T (d + 13) 298 [.ref 0, .int x1, .ref 838] G (WC G (rfV V (sp_ask V x1)) 1 (sp_ask V x1)) := by
  have hc := am_C_one am_T (d + 12)
  rw [we298, wb298_0 hc]
  refine ⟨(fC hR.1).1, hc.mono (cl_ask hR hB x1) (fun o G1 q => ?_)⟩
  have kk := k_ask V x1
  generalize hV : rfV V (sp_ask V x1) = V1 at q ⊢
  generalize sp_ask V x1 = r at q kk ⊢
  rcases r with v | k
  · obtain ⟨a, b, rfl⟩ := q
    show am_W (am_C am_T (d + 12)) am_298 _ 7 _ [.int v, .int (0 : Int32), .ref 838] G1
    rw [wb298_7 hc]
    refine ⟨ow838 a.1, ?_⟩
    rw [wb298_15 hc]
    exact WC_ok a b
  · obtain ⟨k, rfl⟩ : ∃ j, k = j + 1 := ⟨k - 1, by have := kk k rfl; omega⟩
    obtain ⟨a, b, q0, rfl, hk⟩ := q
    have e : am_cat G1 q0 4 am_298.2.2 = some (some 12) := cat_1 rfl hk
    simp only [am_kt, e]
    rw [wb298_12 hc]
    exact WC_1 a b
theorem k_changes (V : Vt) (x1 x2 : Int32) : ∀ k, sp_changes x1 x2 = .inr k → k ≠ 0 := by
  intro k h
  unfold sp_changes rwR at h
  (repeat' split at h) <;> (cases h) <;> decide
theorem w_changes (hR : RepC G V) (hB : am_rm G 1 6) (hcs : Cs G) (x1 x2 : Int32) : am_C am_T (d + 13) 299 [.ref 0, .int x1, .int x2, .ref 838] G (WC G (rfV V (sp_changes x1 x2)) 1 (sp_changes x1 x2)) := by
  have hc := am_C_one am_T (d + 12)
  rw [we299, wb299_0 hc]
  refine ⟨(fC hR.1).1, hc.mono (cl_changes hR hB hcs x1 x2) (fun o G1 q => ?_)⟩
  have kk := k_changes V x1 x2
  generalize hV : rfV V (sp_changes x1 x2) = V1 at q ⊢
  generalize sp_changes x1 x2 = r at q kk ⊢
  rcases r with v | k
  · obtain ⟨a, b, rfl⟩ := q
    show am_W (am_C am_T (d + 12)) am_299 _ 8 _ [.int v, .int (0 : Int32), .ref 838] G1
    rw [wb299_8 hc]
    refine ⟨ow838 a.1, ?_⟩
    rw [wb299_17 hc]
    exact WC_ok a b
  · obtain ⟨k, rfl⟩ : ∃ j, k = j + 1 := ⟨k - 1, by have := kk k rfl; omega⟩
    obtain ⟨a, b, q0, rfl, hk⟩ := q
    have e : am_cat G1 q0 5 am_299.2.2 = some (some 13) := cat_1 rfl hk
    simp only [am_kt, e]
    rw [wb299_13 hc]
    exact WC_1 a b
theorem k_next (V : Vt) (x1 x2 : Int32) : ∀ k, sp_next x1 x2 = .inr k → k ≠ 0 := by
  intro k h
  unfold sp_next rwR at h
  (repeat' split at h) <;> (cases h) <;> decide
theorem w_next (hR : RepC G V) (hB : am_rm G 1 6) (hcs : Cs G) (x1 x2 : Int32) : am_C am_T (d + 13) 300 [.ref 0, .int x1, .int x2, .ref 838] G (WC G (rfV V (sp_next x1 x2)) 1 (sp_next x1 x2)) := by
  have hc := am_C_one am_T (d + 12)
  rw [we300, wb300_0 hc]
  refine ⟨(fC hR.1).1, hc.mono (cl_next hR hB hcs x1 x2) (fun o G1 q => ?_)⟩
  have kk := k_next V x1 x2
  generalize hV : rfV V (sp_next x1 x2) = V1 at q ⊢
  generalize sp_next x1 x2 = r at q kk ⊢
  rcases r with v | k
  · obtain ⟨a, b, rfl⟩ := q
    show am_W (am_C am_T (d + 12)) am_300 _ 8 _ [.int v, .int (0 : Int32), .ref 838] G1
    rw [wb300_8 hc]
    refine ⟨ow838 a.1, ?_⟩
    rw [wb300_17 hc]
    exact WC_ok a b
  · obtain ⟨k, rfl⟩ : ∃ j, k = j + 1 := ⟨k - 1, by have := kk k rfl; omega⟩
    obtain ⟨a, b, q0, rfl, hk⟩ := q
    have e : am_cat G1 q0 5 am_300.2.2 = some (some 13) := cat_1 rfl hk
    simp only [am_kt, e]
    rw [wb300_13 hc]
    exact WC_1 a b
theorem k_within (V : Vt) (x1 x2 : Int32) : ∀ k, sp_within x1 x2 = .inr k → k ≠ 0 := by
  intro k h
  unfold sp_within at h
  (repeat' split at h) <;> (cases h) <;> decide
theorem w_within (hR : RepC G V) (hB : am_rm G 1 6) (hcs : Cs G) (x1 x2 : Int32) : am_C am_T (d + 13) 301 [.ref 0, .int x1, .int x2, .ref 838] G (WC G (rfV V (sp_within x1 x2)) 1 (sp_within x1 x2)) := by
  have hc := am_C_one am_T (d + 12)
  rw [we301, wb301_0 hc]
  refine ⟨(fC hR.1).1, hc.mono (cl_within hR hB hcs x1 x2) (fun o G1 q => ?_)⟩
  have kk := k_within V x1 x2
  generalize hV : rfV V (sp_within x1 x2) = V1 at q ⊢
  generalize sp_within x1 x2 = r at q kk ⊢
  rcases r with v | k
  · obtain ⟨a, b, rfl⟩ := q
    show am_W (am_C am_T (d + 12)) am_301 _ 8 _ [.int v, .int (0 : Int32), .ref 838] G1
    rw [wb301_8 hc]
    refine ⟨ow838 a.1, ?_⟩
    rw [wb301_17 hc]
    exact WC_ok a b
  · obtain ⟨k, rfl⟩ : ∃ j, k = j + 1 := ⟨k - 1, by have := kk k rfl; omega⟩
    obtain ⟨a, b, q0, rfl, hk⟩ := q
    have e : am_cat G1 q0 5 am_301.2.2 = some (some 13) := cat_1 rfl hk
    simp only [am_kt, e]
    rw [wb301_13 hc]
    exact WC_1 a b
theorem k_place (V : Vt) (x1 x2 x3 : Int32) : ∀ k, sp_place x1 x2 x3 = .inr k → k ≠ 0 := by
  intro k h
  unfold sp_place at h
  (repeat' split at h) <;> (cases h) <;> decide
theorem w_place (hR : RepC G V) (hB : am_rm G 1 6) (hcs : Cs G) (x1 x2 x3 : Int32) : am_C am_T (d + 13) 302 [.ref 0, .int x1, .int x2, .int x3, .ref 838] G (WC G (rfV V (sp_place x1 x2 x3)) 1 (sp_place x1 x2 x3)) := by
  have hc := am_C_one am_T (d + 12)
  rw [we302, wb302_0 hc]
  refine ⟨(fC hR.1).1, hc.mono (cl_place hR hB hcs x1 x2 x3) (fun o G1 q => ?_)⟩
  have kk := k_place V x1 x2 x3
  generalize hV : rfV V (sp_place x1 x2 x3) = V1 at q ⊢
  generalize sp_place x1 x2 x3 = r at q kk ⊢
  rcases r with v | k
  · obtain ⟨a, b, rfl⟩ := q
    show am_W (am_C am_T (d + 12)) am_302 _ 10 _ [.int v, .int (0 : Int32), .ref 838] G1
    rw [wb302_10 hc]
    refine ⟨ow838 a.1, ?_⟩
    rw [wb302_19 hc]
    exact WC_ok a b
  · obtain ⟨k, rfl⟩ : ∃ j, k = j + 1 := ⟨k - 1, by have := kk k rfl; omega⟩
    obtain ⟨a, b, q0, rfl, hk⟩ := q
    have e : am_cat G1 q0 7 am_302.2.2 = some (some 15) := cat_1 rfl hk
    simp only [am_kt, e]
    rw [wb302_15 hc]
    exact WC_1 a b
theorem k_ringers (V : Vt) (x1 x2 x3 : Int32) : ∀ k, sp_ringers V x1 x2 x3 = .inr k → k ≠ 0 := by
  intro k h
  unfold sp_ringers at h
  (repeat' split at h) <;> (cases h) <;> decide
theorem w_ringers (hR : RepC G V) (hB : am_rm G 1 6) (x1 x2 x3 : Int32) : am_C am_T (d + 13) 303 [.ref 0, .int x1, .int x2, .int x3, .ref 838] G (WC G (rfV V (sp_ringers V x1 x2 x3)) 1 (sp_ringers V x1 x2 x3)) := by
  have hc := am_C_one am_T (d + 12)
  rw [we303, wb303_0 hc]
  refine ⟨(fC hR.1).1, hc.mono (cl_ringers hR hB x1 x2 x3) (fun o G1 q => ?_)⟩
  have kk := k_ringers V x1 x2 x3
  generalize hV : rfV V (sp_ringers V x1 x2 x3) = V1 at q ⊢
  generalize sp_ringers V x1 x2 x3 = r at q kk ⊢
  rcases r with v | k
  · obtain ⟨a, b, rfl⟩ := q
    show am_W (am_C am_T (d + 12)) am_303 _ 10 _ [.int v, .int (0 : Int32), .ref 838] G1
    rw [wb303_10 hc]
    refine ⟨ow838 a.1, ?_⟩
    rw [wb303_19 hc]
    exact WC_ok a b
  · obtain ⟨k, rfl⟩ : ∃ j, k = j + 1 := ⟨k - 1, by have := kk k rfl; omega⟩
    obtain ⟨a, b, q0, rfl, hk⟩ := q
    have e : am_cat G1 q0 7 am_303.2.2 = some (some 15) := cat_1 rfl hk
    simp only [am_kt, e]
    rw [wb303_15 hc]
    exact WC_1 a b
theorem w_metal (hR : RepC G V) (hB : am_rm G 1 6) (x1 x2 x3 : Int32) : am_C am_T (d + 13) 305 [.ref 0, .int x1, .int x2, .int x3, .ref 838] G (WC G (rfV V (sp_metal V x1 x2 x3)) 2 (sp_metal V x1 x2 x3)) := by
  have hc := am_C_one am_T (d + 12)
  rw [we305, wb305_0 hc]
  refine ⟨(fC hR.1).1, hc.mono (cl_metal hR hB x1 x2 x3) (fun o G1 q => ?_)⟩
  generalize hV : rfV V (sp_metal V x1 x2 x3) = V1 at q ⊢
  generalize sp_metal V x1 x2 x3 = r at q ⊢
  rcases r with v | k
  · obtain ⟨a, b, rfl⟩ := q
    show am_W (am_C am_T (d + 12)) am_305 _ 10 _ [.int v, .int (0 : Int32), .ref 838] G1
    rw [wb305_10 hc]
    refine ⟨ow838 a.1, ?_⟩
    rw [wb305_23 hc]
    exact WC_ok a b
  · rcases k with _ | k
    · obtain ⟨a, b, q0, rfl, hk⟩ := q
      have e : am_cat G1 q0 7 am_305.2.2 = some (some 15) := cat_2a rfl hk
      simp only [am_kt, e]
      rw [wb305_15 hc]
      exact WC_0 a b
    · obtain ⟨a, b, q0, rfl, hk⟩ := q
      have e : am_cat G1 q0 7 am_305.2.2 = some (some 19) := cat_2b rfl hk
      simp only [am_kt, e]
      rw [wb305_19 hc]
      exact WC_1 a b
theorem k_loudest (V : Vt) (x1 : Int32) : ∀ k, sp_loudest V x1 = .inr k → k ≠ 0 := by
  intro k h
  unfold sp_loudest at h
  (repeat' split at h) <;> (cases h) <;> decide
theorem w_loudest (hR : RepC G V) (hB : am_rm G 1 6) (x1 : Int32) : am_C am_T (d + 13) 306 [.ref 0, .int x1, .ref 838] G (WC G (rfV V (sp_loudest V x1)) 1 (sp_loudest V x1)) := by
  have hc := am_C_one am_T (d + 12)
  rw [we306, wb306_0 hc]
  refine ⟨(fC hR.1).1, hc.mono (cl_loudest hR hB x1) (fun o G1 q => ?_)⟩
  have kk := k_loudest V x1
  generalize hV : rfV V (sp_loudest V x1) = V1 at q ⊢
  generalize sp_loudest V x1 = r at q kk ⊢
  rcases r with v | k
  · obtain ⟨a, b, rfl⟩ := q
    show am_W (am_C am_T (d + 12)) am_306 _ 7 _ [.int v, .int (0 : Int32), .ref 838] G1
    rw [wb306_7 hc]
    refine ⟨ow838 a.1, ?_⟩
    rw [wb306_15 hc]
    exact WC_ok a b
  · obtain ⟨k, rfl⟩ : ∃ j, k = j + 1 := ⟨k - 1, by have := kk k rfl; omega⟩
    obtain ⟨a, b, q0, rfl, hk⟩ := q
    have e : am_cat G1 q0 4 am_306.2.2 = some (some 12) := cat_1 rfl hk
    simp only [am_kt, e]
    rw [wb306_12 hc]
    exact WC_1 a b
theorem k_deaf (V : Vt) (x1 : Int32) : ∀ k, sp_deaf V x1 = .inr k → k = 0 := by
  intro k h
  unfold sp_deaf at h
  (repeat' split at h) <;> (cases h) <;> decide
theorem w_deaf (hR : RepC G V) (hB : am_rm G 1 6) (x1 : Int32) : am_C am_T (d + 13) 307 [.ref 0, .int x1, .ref 838] G (WC G (rfV V (sp_deaf V x1)) 1 (sp_deaf V x1)) := by
  have hc := am_C_one am_T (d + 12)
  rw [we307, wb307_0 hc]
  refine ⟨(fC hR.1).1, hc.mono (cl_deaf hR hB x1) (fun o G1 q => ?_)⟩
  have kk := k_deaf V x1
  generalize hV : rfV V (sp_deaf V x1) = V1 at q ⊢
  generalize sp_deaf V x1 = r at q kk ⊢
  rcases r with v | k
  · obtain ⟨a, b, rfl⟩ := q
    show am_W (am_C am_T (d + 12)) am_307 _ 7 _ [.int v, .int (0 : Int32), .ref 838] G1
    rw [wb307_7 hc]
    refine ⟨ow838 a.1, ?_⟩
    rw [wb307_15 hc]
    exact WC_ok a b
  · obtain rfl : k = 0 := kk k rfl
    obtain ⟨a, b, q0, rfl, hk⟩ := q
    have e : am_cat G1 q0 4 am_307.2.2 = some (some 12) := cat_1 rfl hk
    simp only [am_kt, e]
    rw [wb307_12 hc]
    exact WC_0 a b
theorem k_kin (V : Vt) (x1 : Int32) : ∀ k, sp_kin V x1 = .inr k → k ≠ 0 := by
  intro k h
  unfold sp_kin at h
  (repeat' split at h) <;> (cases h) <;> decide
theorem w_kin (hR : RepC G V) (hB : am_rm G 1 6) (x1 : Int32) : am_C am_T (d + 13) 308 [.ref 0, .int x1, .ref 838] G (WC G (rfV V (sp_kin V x1)) 1 (sp_kin V x1)) := by
  have hc := am_C_one am_T (d + 12)
  rw [we308, wb308_0 hc]
  refine ⟨(fC hR.1).1, hc.mono (cl_kin hR hB x1) (fun o G1 q => ?_)⟩
  have kk := k_kin V x1
  generalize hV : rfV V (sp_kin V x1) = V1 at q ⊢
  generalize sp_kin V x1 = r at q kk ⊢
  rcases r with v | k
  · obtain ⟨a, b, rfl⟩ := q
    show am_W (am_C am_T (d + 12)) am_308 _ 7 _ [.int v, .int (0 : Int32), .ref 838] G1
    rw [wb308_7 hc]
    refine ⟨ow838 a.1, ?_⟩
    rw [wb308_15 hc]
    exact WC_ok a b
  · obtain ⟨k, rfl⟩ : ∃ j, k = j + 1 := ⟨k - 1, by have := kk k rfl; omega⟩
    obtain ⟨a, b, q0, rfl, hk⟩ := q
    have e : am_cat G1 q0 4 am_308.2.2 = some (some 12) := cat_1 rfl hk
    simp only [am_kt, e]
    rw [wb308_12 hc]
    exact WC_1 a b
theorem k_century (V : Vt) (x1 x2 x3 x4 : Int32) : ∀ k, sp_century V x1 x2 x3 x4 = .inr k → k ≠ 0 := by
  intro k h
  unfold sp_century at h
  (repeat' split at h) <;> (cases h) <;> decide
theorem w_century (hR : RepC G V) (hB : am_rm G 1 6) (x1 x2 x3 x4 : Int32) : am_C am_T (d + 13) 309 [.ref 0, .int x1, .int x2, .int x3, .int x4, .ref 838] G (WC G (rfV V (sp_century V x1 x2 x3 x4)) 1 (sp_century V x1 x2 x3 x4)) := by
  have hc := am_C_one am_T (d + 12)
  rw [we309, wb309_0 hc]
  refine ⟨(fC hR.1).1, hc.mono (cl_century hR hB x1 x2 x3 x4) (fun o G1 q => ?_)⟩
  have kk := k_century V x1 x2 x3 x4
  generalize hV : rfV V (sp_century V x1 x2 x3 x4) = V1 at q ⊢
  generalize sp_century V x1 x2 x3 x4 = r at q kk ⊢
  rcases r with v | k
  · obtain ⟨a, b, rfl⟩ := q
    show am_W (am_C am_T (d + 12)) am_309 _ 12 _ [.int v, .int (0 : Int32), .ref 838] G1
    rw [wb309_12 hc]
    refine ⟨ow838 a.1, ?_⟩
    rw [wb309_21 hc]
    exact WC_ok a b
  · obtain ⟨k, rfl⟩ : ∃ j, k = j + 1 := ⟨k - 1, by have := kk k rfl; omega⟩
    obtain ⟨a, b, q0, rfl, hk⟩ := q
    have e : am_cat G1 q0 9 am_309.2.2 = some (some 17) := cat_1 rfl hk
    simp only [am_kt, e]
    rw [wb309_17 hc]
    exact WC_1 a b
theorem k_span (V : Vt) (x1 x2 x3 x4 x5 x6 : Int32) : ∀ k, sp_span V x1 x2 x3 x4 x5 x6 = .inr k → k ≠ 0 := by
  intro k h
  unfold sp_span at h
  (repeat' split at h) <;> (cases h) <;> decide
theorem w_span (hR : RepC G V) (hB : am_rm G 1 6) (x1 x2 x3 x4 x5 x6 : Int32) : am_C am_T (d + 13) 310 [.ref 0, .int x1, .int x2, .int x3, .int x4, .int x5, .int x6, .ref 838] G (WC G (rfV V (sp_span V x1 x2 x3 x4 x5 x6)) 1 (sp_span V x1 x2 x3 x4 x5 x6)) := by
  have hc := am_C_one am_T (d + 12)
  rw [we310, wb310_0 hc]
  refine ⟨(fC hR.1).1, hc.mono (cl_span hR hB x1 x2 x3 x4 x5 x6) (fun o G1 q => ?_)⟩
  have kk := k_span V x1 x2 x3 x4 x5 x6
  generalize hV : rfV V (sp_span V x1 x2 x3 x4 x5 x6) = V1 at q ⊢
  generalize sp_span V x1 x2 x3 x4 x5 x6 = r at q kk ⊢
  rcases r with v | k
  · obtain ⟨a, b, rfl⟩ := q
    show am_W (am_C am_T (d + 12)) am_310 _ 16 _ [.int v, .int (0 : Int32), .ref 838] G1
    rw [wb310_16 hc]
    refine ⟨ow838 a.1, ?_⟩
    rw [wb310_25 hc]
    exact WC_ok a b
  · obtain ⟨k, rfl⟩ : ∃ j, k = j + 1 := ⟨k - 1, by have := kk k rfl; omega⟩
    obtain ⟨a, b, q0, rfl, hk⟩ := q
    have e : am_cat G1 q0 13 am_310.2.2 = some (some 21) := cat_1 rfl hk
    simp only [am_kt, e]
    rw [wb310_21 hc]
    exact WC_1 a b
end
/-! sounds: a long -/
def ecl (r : Int64 ⊕ Nat) : Nat := match r with
  | .inl _ => 0
  | .inr _ => 1
def WL (G : am_G) (V : Vt) (r : Int64 ⊕ Nat) (o : am_O) (G' : am_G) : Prop := RepC G' V ∧ Fw G G' ∧ o = .inl (some (.int (wn (ecl r)))) ∧ ∀ v, r = .inl v → am_gL G' 838 0 = v
section
variable {G : am_G} {d : Nat} {V : Vt}
theorem w_sounds (hR : RepC G V) (hB : am_rm G 1 6) (x1 x2 x3 x4 : Int32) : am_C am_T (d + 13) 304 [.ref 0, .int x1, .int x2, .int x3, .int x4, .ref 838] G (WL G (rfL V (sp_sounds x1 x2 x3 x4)) (sp_sounds x1 x2 x3 x4)) := by
  have hc := am_C_one am_T (d + 12)
  rw [we304, wb304_0 hc]
  refine ⟨(fC hR.1).1, hc.mono (cl_sounds hR hB x1 x2 x3 x4) (fun o G1 q => ?_)⟩
  generalize hV : rfL V (sp_sounds x1 x2 x3 x4) = V1 at q ⊢
  generalize sp_sounds x1 x2 x3 x4 = r at q ⊢
  rcases r with v | k
  · obtain ⟨a, b, rfl⟩ := q
    show am_W (am_C am_T (d + 12)) am_304 _ 12 _ [.long v, .int (0 : Int32), .ref 838] G1
    rw [wb304_12 hc]
    refine ⟨ow838 a.1, ?_⟩
    rw [wb304_20 hc]
    refine ⟨a.wL _, ⟨b.1, b.2.1, b.2.2.1, b.2.2.2.1⟩, rfl, fun v' h => ?_⟩
    cases h
    rw [rL_wL]
    exact if_pos ⟨rfl, rfl⟩
  · obtain ⟨a, b, q0, rfl, hk⟩ := q
    have e : am_cat G1 q0 9 am_304.2.2 = some (some 16) := cat_1 rfl hk
    simp only [am_kt, e]
    rw [wb304_16 hc]
    exact ⟨a, b.w, rfl, fun v' h => by cases h⟩
end
