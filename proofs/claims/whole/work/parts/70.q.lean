/-! Questions, both sides: centuries. -/
theorem w2147483647 : (2147483647 : Int32) = wn 2147483647 := rfl
theorem dr_bv (x : BitVec 32) : (x >>> 16) &&& 32767#32 = (x.sshiftRight 16) &&& 32767#32 := by
  apply BitVec.eq_of_getLsbD_eq
  intro i hi
  simp only [BitVec.getLsbD_and, BitVec.getLsbD_ushiftRight, BitVec.getLsbD_sshiftRight]
  by_cases h : i < 15
  · have h2 : 16 + i < 32 := by omega
    have h3 : ¬ 32 ≤ i := by omega
    simp [h2, hi, h3]
  · have h2 : (32767#32).getLsbD i = false := by
      have : ∀ i, i < 32 → ¬ i < 15 → (32767#32).getLsbD i = false := by decide
      exact this i hi h
    simp [h2]
def dv0 (x : Int32) : Nat := (x.toBitVec >>> 16 &&& 32767#32).toNat
theorem dv0_lt (x : Int32) : dv0 x < 32768 := by
  unfold dv0
  rw [BitVec.toNat_and]
  have : (x.toBitVec >>> 16).toNat &&& (32767#32).toNat ≤ (32767#32).toNat := Nat.and_le_right
  have e : (32767#32).toNat = 32767 := rfl
  omega
theorem of_bv (z : Int32) : z = wn z.toBitVec.toNat := by
  apply Int32.toBitVec_inj.mp
  show z.toBitVec = BitVec.ofNat 32 z.toBitVec.toNat
  rw [BitVec.ofNat_toNat]
  simp
theorem dr_c0 (x : Int32) : am_ushr x (wn 16) &&& wn 32767 = wn (dv0 x) := by
  have := of_bv (am_ushr x (wn 16) &&& wn 32767)
  rw [this]
  rfl
theorem dr_m0 (x : Int32) : (x >>> (wn 16 &&& 31)) &&& wn 32767 = wn (dv0 x) := by
  have := of_bv ((x >>> (wn 16 &&& 31)) &&& wn 32767)
  rw [this]
  congr 1
  unfold dv0
  rw [dr_bv]
  rfl
theorem dv_ex (x : Int32) : ∃ n, n < 32768 ∧ am_ushr x (wn 16) &&& wn 32767 = wn n ∧ (x >>> (wn 16 &&& 31)) &&& wn 32767 = wn n := ⟨dv0 x, dv0_lt x, dr_c0 x, dr_m0 x⟩
/-- what is drawn, kept shut: only what dv_ex says of it is used -/
noncomputable def dv (x : Int32) : Nat := Classical.choose (dv_ex x)
theorem dv_lt (x : Int32) : dv x < 32768 := (Classical.choose_spec (dv_ex x)).1
theorem dr_c (x : Int32) : am_ushr x (wn 16) &&& wn 32767 = wn (dv x) := (Classical.choose_spec (dv_ex x)).2.1
theorem dr_m (x : Int32) : (x >>> (wn 16 &&& 31)) &&& wn 32767 = wn (dv x) := (Classical.choose_spec (dv_ex x)).2.2
theorem nxt_ex (s : Int32) : ∃ y : Int32, y = s * 1103515245 + wn 12345 := ⟨_, rfl⟩
noncomputable def nxt (s : Int32) : Int32 := Classical.choose (nxt_ex s)
theorem nxt_eq (s : Int32) : nxt s = s * 1103515245 + wn 12345 := Classical.choose_spec (nxt_ex s)
def tgl (σ : St) (b : Nat) : St := if bt (sT σ) b = 1 then (stBring σ b).2 else (stSteal σ b).2
def sDm (σ : St) (n : Nat) : St := mkS (sH σ) n (sG σ) (sT σ) (sC σ) (sP σ) (sM σ)
theorem stDamp_eq (σ : St) (n : Nat) : (stDamp σ n).2 = sDm σ n := by
  unfold stDamp
  split
  · rename_i h; subst h; rfl
  · rfl
/-- an hour of a century without its end: the state, the seed, how many pulls -/
abbrev Ct : Type := St × Int32 × Nat
def cd2 (q : Nat) (σ1 : St) (b r : Nat) : St := if r < q then tgl σ1 b else σ1
def cd3 (q : Nat) (σ2 : St) (p r : Nat) (s3 : Int32) (w : Nat) (s4 : Int32) : Ct := if r < q then (sDm σ2 w, s4, p) else (σ2, s3, p)
noncomputable def cdb (δ : Dt) (s : Int32) : Nat := dv (nxt s) % dB δ
noncomputable def cdr (δ : Dt) (Λ : List Tok) (q : Nat) (x : Ct) : Ct :=
  cd3 q (cd2 q (stPull δ Λ x.1 (cdb δ x.2.1)).2 (cdb δ x.2.1) (dv (nxt (nxt x.2.1)) % 16)) (x.2.2 + (stPull δ Λ x.1 (cdb δ x.2.1)).1) (dv (nxt (nxt (nxt x.2.1))) % 16) (nxt (nxt (nxt x.2.1))) (dv (nxt (nxt (nxt (nxt x.2.1)))) % 10) (nxt (nxt (nxt (nxt x.2.1))))
theorem cdr_eq {δ : Dt} {Λ : List Tok} {q : Nat} {x : Ct} {s1 s2 s3 s4 : Int32} {b r2 r3 r4 : Nat} (e1 : nxt x.2.1 = s1) (e2 : nxt s1 = s2) (e3 : nxt s2 = s3) (e4 : nxt s3 = s4) (eb : dv s1 % dB δ = b) (er2 : dv s2 % 16 = r2) (er3 : dv s3 % 16 = r3) (er4 : dv s4 % 10 = r4) :
    cdr δ Λ q x = cd3 q (cd2 q (stPull δ Λ x.1 b).2 b r2) (x.2.2 + (stPull δ Λ x.1 b).1) r3 s3 r4 s4 := by
  subst e1 e2 e3 e4 eb er2 er3 er4
  rfl
noncomputable def chr (δ : Dt) (Λ : List Tok) (q : Nat) (x : Ct) : Ct := if dB δ = 0 then (sPass x.1, x.2.1, x.2.2) else (sPass (cdr δ Λ q x).1, (cdr δ Λ q x).2)
noncomputable def cen (δ : Dt) (Λ : List Tok) (q : Nat) : Nat → Ct → Ct
  | 0, x => x
  | n + 1, x => chr δ Λ q (cen δ Λ q n x)
theorem vS_tgl {δ : Dt} {σ : St} {b : Nat} (hB : dB δ ≤ 6) (hv : vS (dB δ) (dH δ) σ) (hb : b < dB δ) : vS (dB δ) (dH δ) (tgl σ b) := by
  unfold tgl
  split
  · exact vS_doS (Λ := []) (k := 4) (n := b) hB hv ⟨by decide, fun _ => hb, fun z => by omega⟩
  · exact vS_doS (Λ := []) (k := 3) (n := b) hB hv ⟨by decide, fun _ => hb, fun z => by omega⟩
theorem vS_sDm {δ : Dt} {σ : St} {n : Nat} (hv : vS (dB δ) (dH δ) σ) (hn : n ≤ 9) : vS (dB δ) (dH δ) (sDm σ n) := by
  obtain ⟨v0, v1, v2, v3, v4, v5, v6, v7⟩ := hv
  exact ⟨v0, hn, v2, v3, v4, v5, v6, v7⟩
theorem sH_pull (δ : Dt) (Λ : List Tok) (σ : St) (b : Nat) : sH (stPull δ Λ σ b).2 = sH σ := by
  unfold stPull; split <;> rfl
theorem sH_tgl (σ : St) (b : Nat) : sH (tgl σ b) = sH σ := by
  unfold tgl stBring stSteal
  split <;> rfl
theorem tsum_congr {f g : Nat → Nat} : ∀ n, (∀ j, j < n → f j = g j) → tsum f n = tsum g n := by
  intro n
  induction n with
  | zero => intro _; rfl
  | succ n ih => intro h; simp only [tsum]; rw [ih (fun j hj => h j (by omega)), h n (by omega)]
theorem tsum_up {f : Nat → Nat} {b : Nat} : ∀ n, b < n → tsum (up1 f b (f b + 1)) n = tsum f n + 1 := by
  intro n
  induction n with
  | zero => intro h; omega
  | succ n ih =>
    intro h
    simp only [tsum]
    by_cases e : b = n
    · subst e
      rw [tsum_congr (g := f) b (fun j hj => up1_o _ _ (by omega)), up1_s]
      omega
    · rw [ih (by omega), up1_o _ _ (by omega)]
      omega
theorem sP_pull (δ : Dt) (Λ : List Tok) (σ : St) (b n : Nat) (hb : b < n) : tsum (sP (stPull δ Λ σ b).2) n = tsum (sP σ) n + (stPull δ Λ σ b).1 := by
  unfold stPull
  split
  · exact tsum_up n hb
  · rfl
theorem sP_tgl (σ : St) (b : Nat) : sP (tgl σ b) = sP σ := by
  unfold tgl stBring stSteal
  split <;> rfl
theorem stP_01 (δ : Dt) (Λ : List Tok) (σ : St) (b : Nat) : (stPull δ Λ σ b).1 ≤ 1 := by
  unfold stPull; split
  · exact Nat.le_refl _
  · exact Nat.zero_le _
theorem cd3_ok {δ : Dt} {q p r w : Nat} {σ2 : St} {s3 s4 : Int32} (hv : vS (dB δ) (dH δ) σ2) (hw : w ≤ 9) : vS (dB δ) (dH δ) (cd3 q σ2 p r s3 w s4).1 ∧ sH (cd3 q σ2 p r s3 w s4).1 = sH σ2 ∧ (cd3 q σ2 p r s3 w s4).2.2 = p ∧ sP (cd3 q σ2 p r s3 w s4).1 = sP σ2 := by
  unfold cd3
  split
  · exact ⟨vS_sDm hv hw, rfl, rfl, rfl⟩
  · exact ⟨hv, rfl, rfl, rfl⟩
theorem cd2_ok {δ : Dt} {q b r : Nat} {σ1 : St} (hB : dB δ ≤ 6) (hv : vS (dB δ) (dH δ) σ1) (hb : b < dB δ) : vS (dB δ) (dH δ) (cd2 q σ1 b r) ∧ sH (cd2 q σ1 b r) = sH σ1 ∧ sP (cd2 q σ1 b r) = sP σ1 := by
  unfold cd2
  split
  · exact ⟨vS_tgl hB hv hb, sH_tgl _ _, sP_tgl _ _⟩
  · exact ⟨hv, rfl, rfl⟩
theorem cdr_ok {δ : Dt} {Λ : List Tok} {q : Nat} {x : Ct} (hB : dB δ ≤ 6) (h0 : dB δ ≠ 0) (hv : vS (dB δ) (dH δ) x.1) : vS (dB δ) (dH δ) (cdr δ Λ q x).1 ∧ sH (cdr δ Λ q x).1 = sH x.1 ∧ (cdr δ Λ q x).2.2 ≤ x.2.2 + 1 ∧ tsum (sP (cdr δ Λ q x).1) (dB δ) + x.2.2 = tsum (sP x.1) (dB δ) + (cdr δ Λ q x).2.2 := by
  obtain ⟨s1, e1⟩ : ∃ s, nxt x.2.1 = s := ⟨_, rfl⟩
  obtain ⟨s2, e2⟩ : ∃ s, nxt s1 = s := ⟨_, rfl⟩
  obtain ⟨s3, e3⟩ : ∃ s, nxt s2 = s := ⟨_, rfl⟩
  obtain ⟨s4, e4⟩ : ∃ s, nxt s3 = s := ⟨_, rfl⟩
  obtain ⟨b, eb⟩ : ∃ b, dv s1 % dB δ = b := ⟨_, rfl⟩
  obtain ⟨r2, er2⟩ : ∃ b, dv s2 % 16 = b := ⟨_, rfl⟩
  obtain ⟨r3, er3⟩ : ∃ b, dv s3 % 16 = b := ⟨_, rfl⟩
  obtain ⟨r4, er4⟩ : ∃ b, dv s4 % 10 = b := ⟨_, rfl⟩
  have hb : b < dB δ := by rw [← eb]; exact Nat.mod_lt _ (by omega)
  have hr4 : r4 ≤ 9 := by rw [← er4]; have := Nat.mod_lt (dv s4) (show 0 < 10 by decide); omega
  rw [cdr_eq e1 e2 e3 e4 eb er2 er3 er4]
  have v1 := vS_pull (Λ := Λ) hv hb
  have p1 := sP_pull δ Λ x.1 b (dB δ) hb
  have q1 := stP_01 δ Λ x.1 b
  have h1 := sH_pull δ Λ x.1 b
  generalize stPull δ Λ x.1 b = y at *
  obtain ⟨c1, c2, c3⟩ := cd2_ok (q := q) (r := r2) hB v1 hb
  obtain ⟨d1, d2, d3, d4⟩ := cd3_ok (q := q) (p := x.2.2 + y.1) (r := r3) (s3 := s3) (s4 := s4) c1 hr4
  refine ⟨d1, by rw [d2, c2, h1], by rw [d3]; omega, ?_⟩
  rw [d3, d4, c3, p1]
  omega
theorem sP_pass (σ : St) : sP (sPass σ) = sP σ := rfl
theorem sH_pass (σ : St) : sH (sPass σ) = sH σ + 1 := rfl
theorem chr_0 {δ : Dt} {Λ : List Tok} {q : Nat} {x : Ct} (c : dB δ = 0) : (chr δ Λ q x).1 = sPass x.1 ∧ (chr δ Λ q x).2.1 = x.2.1 ∧ (chr δ Λ q x).2.2 = x.2.2 := by
  unfold chr
  rw [if_pos c]
  exact ⟨rfl, rfl, rfl⟩
theorem chr_1 {δ : Dt} {Λ : List Tok} {q : Nat} {x : Ct} (c : dB δ ≠ 0) : (chr δ Λ q x).1 = sPass (cdr δ Λ q x).1 ∧ (chr δ Λ q x).2.1 = (cdr δ Λ q x).2.1 ∧ (chr δ Λ q x).2.2 = (cdr δ Λ q x).2.2 := by
  unfold chr
  rw [if_neg c]
  generalize cdr δ Λ q x = z
  exact ⟨rfl, rfl, rfl⟩
theorem chz_ok {δ : Dt} {Λ : List Tok} {q : Nat} {x : Ct} (hB : dB δ ≤ 6) (hv : vS (dB δ) (dH δ) x.1) (hh : sH x.1 < 2000) : vS (dB δ) (dH δ) (chr δ Λ q x).1 ∧ sH (chr δ Λ q x).1 = sH x.1 + 1 ∧ (chr δ Λ q x).2.2 ≤ x.2.2 + 1 ∧ tsum (sP (chr δ Λ q x).1) (dB δ) + x.2.2 = tsum (sP x.1) (dB δ) + (chr δ Λ q x).2.2 := by
  by_cases c : dB δ = 0
  · obtain ⟨a, b, e⟩ := chr_0 (Λ := Λ) (q := q) (x := x) c
    rw [a, e, sP_pass, sH_pass]
    exact ⟨vS_pass hv hh, rfl, Nat.le_succ _, rfl⟩
  · obtain ⟨a, b, e⟩ := chr_1 (Λ := Λ) (q := q) (x := x) c
    obtain ⟨a1, a2, a3, a4⟩ := cdr_ok (Λ := Λ) (q := q) hB c hv
    rw [a, e, sP_pass, sH_pass, a2]
    exact ⟨vS_pass a1 (by rw [a2]; exact hh), rfl, a3, a4⟩
theorem cen_s (δ : Dt) (Λ : List Tok) (q n : Nat) (x : Ct) : cen δ Λ q (n + 1) x = chr δ Λ q (cen δ Λ q n x) := rfl
theorem cen_ok {δ : Dt} {Λ : List Tok} {q : Nat} {σ : St} {s : Int32} (hB : dB δ ≤ 6) (hv : vS9 (dB δ) (dH δ) σ) (n : Nat) (hn : n ≤ 96) : vS (dB δ) (dH δ) (cen δ Λ q n (σ, s, 0)).1 ∧ sH (cen δ Λ q n (σ, s, 0)).1 = sH σ + n ∧ (cen δ Λ q n (σ, s, 0)).2.2 ≤ n ∧ tsum (sP (cen δ Λ q n (σ, s, 0)).1) (dB δ) = tsum (sP σ) (dB δ) + (cen δ Λ q n (σ, s, 0)).2.2 := by
  induction n with
  | zero => exact ⟨hv.1, rfl, Nat.le_refl _, rfl⟩
  | succ n ih =>
    obtain ⟨i1, i2, i3, i4⟩ := ih (by omega)
    have h9 := hv.2
    rw [cen_s]
    generalize cen δ Λ q n (σ, s, 0) = y at i1 i2 i3 i4 ⊢
    obtain ⟨a1, a2, a3, a4⟩ := chz_ok (Λ := Λ) (q := q) hB i1 (by omega)
    generalize chr δ Λ q y = z at a1 a2 a3 a4 ⊢
    exact ⟨a1, by omega, by omega, by omega⟩
