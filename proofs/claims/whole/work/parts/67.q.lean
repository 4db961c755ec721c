/-! Questions, both sides: deaf, kin, loudest, rouse. -/
def CI (G : am_G) (q l : Nat) (δ : Dt) (Λ : List Tok) (σ : St) : Prop := Sh G ∧ Tw G q l δ Λ ∧ rS G 32 σ
def RI (G : am_G) (δ : Dt) (Λ : List Tok) (σ : St) : Prop := Sh G ∧ Tm G δ Λ ∧ rW G 808 0 σ
theorem CI.hs {G G' : am_G} {q l : Nat} {δ : Dt} {Λ : List Tok} {σ : St} (h : CI G q l δ Λ σ) (k : Kp HS G G') : CI G' q l δ Λ σ :=
  ⟨h.1.kp k, h.2.1.kp k (by intro a i z; unfold HS at z; omega), h.2.2.kp k (by intro a i z1 z2 z; unfold HS at z; omega)⟩
theorem RI.hm {G G' : am_G} {δ : Dt} {Λ : List Tok} {σ : St} (h : RI G δ Λ σ) (k : Kp HM G G') : RI G' δ Λ σ :=
  ⟨h.1.kp k, h.2.1.kp k (by intro a i z; unfold HM at z; exact ⟨by omega, by omega⟩), h.2.2.kp k (by intro i z; unfold HM at z; omega)⟩
def dfb (δ : Dt) (Λ : List Tok) (σ : St) (b : Nat) : Nat → Bool := fun h => hear δ Λ σ b h == 0
def knb (δ : Dt) (σ : St) (m : Nat) : Nat → Bool := fun b => decide (bM δ b = m) && spk σ b
def q_loud (V : Vt) (w : Nat) : Int32 := if w = 0 then (mf (tIn (vσ V)) (dH (vδ V))).1 else if (mf (tIn (vσ V)) (dH (vδ V))).1 = mm then mm else wn (mf (tIn (vσ V)) (dH (vδ V))).2
theorem mf_le2 {f : Nat → Nat} {c : Nat} (hf : ∀ j, f j ≤ c) : ∀ n, (mf f n).2 ≤ c := by
  intro n
  induction n with
  | zero => simp [mf]
  | succ n ih =>
    simp only [mf]
    split
    · exact hf n
    · exact ih
/-! rouse: the fewest -/
def ones (m : Nat) : Nat := tsum (bt m) 6
theorem ones_le (m : Nat) : ones m ≤ 6 := by
  have := tsum_le (f := bt m) (c := 1) (fun j => by have := bt_01 m j; omega) 6
  unfold ones; omega
def ra (P : Nat → Bool) : Nat → Option Nat
  | 0 => none
  | m + 1 => match ra P m with
    | none => if P m then some m else none
    | some f => if P m && decide (ones m < ones f) then some m else some f
def rd (P : Nat → Bool) (N : Nat) : Nat → Option Nat
  | 0 => none
  | k + 1 => match rd P N k with
    | none => if P (N - 1 - k) then some (N - 1 - k) else none
    | some f => if P (N - 1 - k) && decide (ones (N - 1 - k) ≤ ones f) then some (N - 1 - k) else some f
/-- the best of a stretch: the fewest, of these the least -/
def IsB (P : Nat → Bool) (lo hi x : Nat) : Prop := lo ≤ x ∧ x < hi ∧ P x = true ∧ ∀ y, lo ≤ y → y < hi → P y = true → ones x < ones y ∨ (ones x = ones y ∧ x ≤ y)
theorem ra_spec (P : Nat → Bool) : ∀ m, (ra P m = none → ∀ y, y < m → P y = false) ∧ ∀ x, ra P m = some x → IsB P 0 m x := by
  intro m
  induction m with
  | zero => exact ⟨fun _ y hy => by omega, fun x h => by cases h⟩
  | succ m ih =>
    obtain ⟨i1, i2⟩ := ih
    simp only [ra]
    cases h : ra P m with
    | none =>
      have n1 := i1 h
      simp only
      cases hp : P m with
      | true =>
        refine ⟨(fun z => by simp at z), fun x z => ?_⟩
        simp only [if_true, Option.some.injEq] at z
        subst z
        refine ⟨Nat.zero_le _, by omega, hp, fun y _ hy py => ?_⟩
        by_cases e : y = m
        · subst e; exact Or.inr ⟨rfl, Nat.le_refl _⟩
        · have := n1 y (by omega); rw [this] at py; cases py
      | false =>
        refine ⟨fun _ y hy => ?_, fun x z => by simp at z⟩
        by_cases e : y = m
        · subst e; exact hp
        · exact n1 y (by omega)
    | some f =>
      obtain ⟨b1, b2, b3, b4⟩ := i2 f h
      simp only
      by_cases hc : (P m && decide (ones m < ones f)) = true
      · rw [if_pos hc]
        simp only [Bool.and_eq_true, decide_eq_true_eq] at hc
        refine ⟨(fun z => by cases z), fun x z => ?_⟩
        simp only [Option.some.injEq] at z
        subst z
        refine ⟨Nat.zero_le _, by omega, hc.1, fun y hy0 hy py => ?_⟩
        by_cases e : y = m
        · subst e; exact Or.inr ⟨rfl, Nat.le_refl _⟩
        · have := b4 y hy0 (by omega) py; omega
      · rw [if_neg hc]
        refine ⟨(fun z => by cases z), fun x z => ?_⟩
        simp only [Option.some.injEq] at z
        subst z
        refine ⟨b1, by omega, b3, fun y hy0 hy py => ?_⟩
        by_cases e : y = m
        · subst e
          have : ¬ ones y < ones f := fun q => hc (by rw [py, decide_eq_true q]; rfl)
          omega
        · exact b4 y hy0 (by omega) py
theorem rd_spec (P : Nat → Bool) (N : Nat) : ∀ k, k ≤ N → (rd P N k = none → ∀ y, N - k ≤ y → y < N → P y = false) ∧ ∀ x, rd P N k = some x → IsB P (N - k) N x := by
  intro k
  induction k with
  | zero => intro _; exact ⟨fun _ y h1 h2 => by omega, fun x h => by cases h⟩
  | succ k ih =>
    intro hk
    obtain ⟨i1, i2⟩ := ih (by omega)
    have eN : N - 1 - k = N - (k + 1) := by omega
    simp only [rd, eN]
    generalize hs : N - (k + 1) = s
    have e1 : N - k = s + 1 := by omega
    rw [e1] at i1 i2
    cases h : rd P N k with
    | none =>
      have n1 := i1 h
      simp only
      cases hp : P s with
      | true =>
        refine ⟨(fun z => by simp at z), fun x z => ?_⟩
        simp only [if_true, Option.some.injEq] at z
        subst z
        refine ⟨Nat.le_refl _, by omega, hp, fun y h1 hy py => ?_⟩
        by_cases e : y = s
        · subst e; exact Or.inr ⟨rfl, Nat.le_refl _⟩
        · have := n1 y (by omega) hy; rw [this] at py; cases py
      | false =>
        refine ⟨fun _ y h1 hy => ?_, fun x z => by simp at z⟩
        by_cases e : y = s
        · subst e; exact hp
        · exact n1 y (by omega) hy
    | some f =>
      obtain ⟨b1, b2, b3, b4⟩ := i2 f h
      simp only
      by_cases hc : (P s && decide (ones s ≤ ones f)) = true
      · rw [if_pos hc]
        simp only [Bool.and_eq_true, decide_eq_true_eq] at hc
        refine ⟨(fun z => by cases z), fun x z => ?_⟩
        simp only [Option.some.injEq] at z
        subst z
        refine ⟨Nat.le_refl _, by omega, hc.1, fun y h1 hy py => ?_⟩
        by_cases e : y = s
        · subst e; exact Or.inr ⟨rfl, Nat.le_refl _⟩
        · have := b4 y (by omega) hy py; omega
      · rw [if_neg hc]
        refine ⟨(fun z => by cases z), fun x z => ?_⟩
        simp only [Option.some.injEq] at z
        subst z
        refine ⟨by omega, by omega, b3, fun y h1 hy py => ?_⟩
        by_cases e : y = s
        · subst e
          have : ¬ ones y ≤ ones f := fun q => hc (by rw [py, decide_eq_true q]; rfl)
          omega
        · exact b4 y (by omega) hy py
theorem ra_rd (P : Nat → Bool) (N : Nat) : rd P N N = ra P N := by
  obtain ⟨a1, a2⟩ := ra_spec P N
  obtain ⟨b1, b2⟩ := rd_spec P N N (Nat.le_refl N)
  rw [Nat.sub_self] at b1 b2
  cases ha : ra P N with
  | none =>
    cases hb : rd P N N with
    | none => rfl
    | some y =>
      have := b2 y hb
      have h2 := a1 ha y this.2.1
      rw [this.2.2.1] at h2; cases h2
  | some x =>
    have hx := a2 x ha
    cases hb : rd P N N with
    | none =>
      have h2 := b1 hb x (Nat.zero_le _) hx.2.1
      rw [hx.2.2.1] at h2; cases h2
    | some y =>
      have hy := b2 y hb
      have q1 := hx.2.2.2 y (Nat.zero_le _) hy.2.1 hy.2.2.1
      have q2 := hy.2.2.2 x (Nat.zero_le _) hx.2.1 hx.2.2.1
      congr 1
      omega
def hsum (δ : Dt) (Λ : List Tok) (σ : St) (h m : Nat) : Nat → Nat := tsum (fun b => if bt m b = 1 then hear δ Λ σ b h else 0)
def rP (δ : Dt) (Λ : List Tok) (σ : St) (S h n : Nat) : Nat → Bool := fun m => decide (wn m &&& (wn S ^^^ mm) = wn 0) && decide (n ≤ hsum δ Λ σ h m (dB δ))
theorem hsum_le (δ : Dt) (Λ : List Tok) (σ : St) (h m B : Nat) : hsum δ Λ σ h m B ≤ B * 99 := tsum_le (fun b => by split; exact hear_le _ _ _ _ _; omega) B
def q_rouse (V : Vt) (h n : Nat) : Int32 := oI (ra (rP (vδ V) (vΛ V) (vσ V) (tb (spk (vσ V)) (dB (vδ V))) h n) (2 ^ dB (vδ V)))
theorem lv_s (k : Nat) : wn (k + 1) + mm = wn k := by
  rw [← wn_add k 1, Int32.add_assoc]
  have : wn 1 + mm = 0 := by decide
  rw [this, Int32.add_zero]
theorem bc_ok : ∀ m, m < 64 → (((((((((wn m) - ((am_ushr (wn m) (1 : Int32)) &&& (1431655765 : Int32))) &&& (858993459 : Int32)) + ((am_ushr ((wn m) - ((am_ushr (wn m) (1 : Int32)) &&& (1431655765 : Int32))) (2 : Int32)) &&& (858993459 : Int32))) + (am_ushr ((((wn m) - ((am_ushr (wn m) (1 : Int32)) &&& (1431655765 : Int32))) &&& (858993459 : Int32)) + ((am_ushr ((wn m) - ((am_ushr (wn m) (1 : Int32)) &&& (1431655765 : Int32))) (2 : Int32)) &&& (858993459 : Int32))) (4 : Int32))) &&& (252645135 : Int32)) + (am_ushr ((((((wn m) - ((am_ushr (wn m) (1 : Int32)) &&& (1431655765 : Int32))) &&& (858993459 : Int32)) + ((am_ushr ((wn m) - ((am_ushr (wn m) (1 : Int32)) &&& (1431655765 : Int32))) (2 : Int32)) &&& (858993459 : Int32))) + (am_ushr ((((wn m) - ((am_ushr (wn m) (1 : Int32)) &&& (1431655765 : Int32))) &&& (858993459 : Int32)) + ((am_ushr ((wn m) - ((am_ushr (wn m) (1 : Int32)) &&& (1431655765 : Int32))) (2 : Int32)) &&& (858993459 : Int32))) (4 : Int32))) &&& (252645135 : Int32)) (8 : Int32))) + (am_ushr (((((((wn m) - ((am_ushr (wn m) (1 : Int32)) &&& (1431655765 : Int32))) &&& (858993459 : Int32)) + ((am_ushr ((wn m) - ((am_ushr (wn m) (1 : Int32)) &&& (1431655765 : Int32))) (2 : Int32)) &&& (858993459 : Int32))) + (am_ushr ((((wn m) - ((am_ushr (wn m) (1 : Int32)) &&& (1431655765 : Int32))) &&& (858993459 : Int32)) + ((am_ushr ((wn m) - ((am_ushr (wn m) (1 : Int32)) &&& (1431655765 : Int32))) (2 : Int32)) &&& (858993459 : Int32))) (4 : Int32))) &&& (252645135 : Int32)) + (am_ushr ((((((wn m) - ((am_ushr (wn m) (1 : Int32)) &&& (1431655765 : Int32))) &&& (858993459 : Int32)) + ((am_ushr ((wn m) - ((am_ushr (wn m) (1 : Int32)) &&& (1431655765 : Int32))) (2 : Int32)) &&& (858993459 : Int32))) + (am_ushr ((((wn m) - ((am_ushr (wn m) (1 : Int32)) &&& (1431655765 : Int32))) &&& (858993459 : Int32)) + ((am_ushr ((wn m) - ((am_ushr (wn m) (1 : Int32)) &&& (1431655765 : Int32))) (2 : Int32)) &&& (858993459 : Int32))) (4 : Int32))) &&& (252645135 : Int32)) (8 : Int32))) (16 : Int32))) &&& (63 : Int32)) = wn (ones m) := by decide +kernel
section
variable {G : am_G} {d : Nat} {V : Vt} {post : am_O → am_G → Prop}
theorem ct269 {m : Nat} (hm : m < 64) : am_C am_T (d + 1) 269 [.int (wn m)] G post ↔ post (.inl (some (.int (wn (ones m))))) G := by
  have hc := am_C_one am_T d
  rw [we269, wb269_0 hc, bc_ok m hm]
theorem ct194 {m : Nat} (hm : m < 64) : am_C am_T (d + 1) 194 [.int (wn m)] G post ↔ post (.inl (some (.int (wn (ones m))))) G := by
  have hc := am_C_one am_T d
  refine am_iff (fun post k => ?_) post
  refine (we194 _ _).mpr ((wb194_0 hc _ _).mpr ?_)
  refine am_for 6 (fun j ls G' => G' = G ∧ ls = [some (.int (wn m)), some (.int (wn (tsum (bt m) j))), some (.int (wn j))]) ?_ ?_ 6 0 rfl _ _ ⟨rfl, rfl⟩
  · rintro j hj _ _ ⟨rfl, rfl⟩ nx
    have c1 : ¬ 6 ≤ j := by omega
    have e := bsr m (by omega) j (by omega)
    rw [wb194_4 hc]
    simp +decide (disch := omega) only [↓wm1, wb194_10 hc, w0, w1, w6, rI_wI, rP_wI, rL_wI, rI_wR, rP_wR, is_wI, is_wR, ia_wI, ia_wR, ow_wI, ow_wR, wn_add, wn_mul, wn_cl, wn_le, wn_lt, wn_inj, wn_ne1, wn_1ne, wn_gt1, wn_le1, nb0, nb1, am_kt, am_rt, List.cons_append, List.nil_append, true_and, and_true, not_true_eq_false, not_false_eq_true, imp_f, imp_t, implies_true, Nat.zero_add, if_true, if_false, false_and, and_false, c1, e]
    exact nx _ _ ⟨rfl, rfl⟩
  · rintro _ _ ⟨rfl, rfl⟩
    rw [wb194_4 hc]
    simp +decide (disch := omega) only [↓wm1, wb194_24 hc, w0, w1, w6, rI_wI, rP_wI, rL_wI, rI_wR, rP_wR, is_wI, is_wR, ia_wI, ia_wR, ow_wI, ow_wR, wn_add, wn_mul, wn_cl, wn_le, wn_lt, wn_inj, wn_ne1, wn_1ne, wn_gt1, wn_le1, nb0, nb1, am_kt, am_rt, List.cons_append, List.nil_append, true_and, and_true, not_true_eq_false, not_false_eq_true, imp_f, imp_t, implies_true, Nat.zero_add, if_true, if_false, false_and, and_false, Nat.le_refl]
    exact k
theorem ct90 {q l m h : Nat} {δ : Dt} {Λ : List Tok} {σ : St} (hI : CI G q l δ Λ σ) (hm : m < 64) (hh : h < dH δ) (hH : sH σ < 2147483648) (k : ∀ G', Kp HS G G' → post (.inl (some (.int (wn (hsum δ Λ σ h m (dB δ)))))) G') : am_C am_T (d + 5) 90 [.ref 3, .ref 32, .int (wn m), .int (wn h)] G post := by
  have hc := am_C_one am_T (d + 4)
  have v6 := hI.2.1.2.2.2.2.2.1.1
  refine (we90 _ _ _ _ _).mpr ((wb90_0 hc _ _ _ _ _).mpr ?_)
  refine am_for (dB δ) (fun j ls G' => CI G' q l δ Λ σ ∧ Kp HS G G' ∧ ls = [some (.ref 3), some (.ref 32), some (.int (wn m)), some (.int (wn h)), some (.int (wn (hsum δ Λ σ h m j))), some (.int (wn j))]) ?_ ?_ (dB δ) 0 (by omega) _ _ ⟨hI, Kp.refl G, rfl⟩
  · rintro j hj _ G1 ⟨i1, k1, rfl⟩ nx
    have c1 : ¬ dB δ ≤ j := by omega
    have e := bsr m (by omega) j (by omega)
    have b1 := bt_01 m j
    rw [wb90_6 hc]
    by_cases c2 : bt m j = 1
    · simp +decide (disch := omega) only [↓wm1, wb90_18 hc, wb90_28 hc, w0, w1, rI_wI, rP_wI, rL_wI, rI_wR, rP_wR, is_wI, is_wR, ia_wI, ia_wR, ow_wI, ow_wR, wn_add, wn_mul, wn_cl, wn_le, wn_lt, wn_inj, wn_ne1, wn_1ne, wn_gt1, wn_le1, nb0, nb1, am_kt, am_rt, List.cons_append, List.nil_append, true_and, and_true, not_true_eq_false, not_false_eq_true, imp_f, imp_t, implies_true, Nat.zero_add, if_true, if_false, false_and, and_false, fC i1.1, fW2 i1.1 i1.2.1, fD i1.1 i1.2.1.2.2.1, c1, e, c2]
      refine ct82 i1.1 i1.2.1 h32 i1.2.2 hj hh hH (fun G2 k2 => ?_)
      simp +decide (disch := omega) only [↓wm1, wb90_38 hc, wb90_41 hc, w0, w1, rI_wI, rP_wI, rL_wI, rI_wR, rP_wR, is_wI, is_wR, ia_wI, ia_wR, ow_wI, ow_wR, wn_add, wn_mul, wn_cl, wn_le, wn_lt, wn_inj, wn_ne1, wn_1ne, wn_gt1, wn_le1, nb0, nb1, am_kt, am_rt, List.cons_append, List.nil_append, true_and, and_true, not_true_eq_false, not_false_eq_true, imp_f, imp_t, implies_true, Nat.zero_add, if_true, if_false, false_and, and_false]
      refine nx _ _ ⟨i1.hs k2, k1.trans k2, ?_⟩
      simp only [hsum, tsum, c2, if_true]
    · have c3 : bt m j = 0 := by omega
      simp +decide (disch := omega) only [↓wm1, wb90_18 hc, wb90_41 hc, w0, w1, rI_wI, rP_wI, rL_wI, rI_wR, rP_wR, is_wI, is_wR, ia_wI, ia_wR, ow_wI, ow_wR, wn_add, wn_mul, wn_cl, wn_le, wn_lt, wn_inj, wn_ne1, wn_1ne, wn_gt1, wn_le1, nb0, nb1, am_kt, am_rt, List.cons_append, List.nil_append, true_and, and_true, not_true_eq_false, not_false_eq_true, imp_f, imp_t, implies_true, Nat.zero_add, if_true, if_false, false_and, and_false, fC i1.1, fW2 i1.1 i1.2.1, fD i1.1 i1.2.1.2.2.1, c1, e, c3]
      refine nx _ _ ⟨i1, k1, ?_⟩
      simp [hsum, tsum, c3]
  · rintro _ G1 ⟨i1, k1, rfl⟩
    rw [wb90_6 hc]
    simp +decide (disch := omega) only [↓wm1, wb90_47 hc, w0, w1, rI_wI, rP_wI, rL_wI, rI_wR, rP_wR, is_wI, is_wR, ia_wI, ia_wR, ow_wI, ow_wR, wn_add, wn_mul, wn_cl, wn_le, wn_lt, wn_inj, wn_ne1, wn_1ne, wn_gt1, wn_le1, nb0, nb1, am_kt, am_rt, List.cons_append, List.nil_append, true_and, and_true, not_true_eq_false, not_false_eq_true, imp_f, imp_t, implies_true, Nat.zero_add, if_true, if_false, false_and, and_false, fC i1.1, fW2 i1.1 i1.2.1, fD i1.1 i1.2.1.2.2.1, Nat.le_refl]
    exact k G1 k1
theorem ct89 {q l h n : Nat} {δ : Dt} {Λ : List Tok} {σ : St} (hI : CI G q l δ Λ σ) (hg : sG σ < 64) (ht : sT σ < 64) (hn : n < 1000) (hh : h < dH δ) (hH : sH σ < 2147483648) (k : ∀ G', Kp HS G G' → post (.inl (some (.int (oI (ra (rP δ Λ σ (tb (spk σ) (dB δ)) h n) (2 ^ dB δ)))))) G') : am_C am_T (d + 6) 89 [.ref 3, .ref 32, .int (wn h), .int (wn n)] G post := by
  have hc := am_C_one am_T (d + 5)
  have v6 := hI.2.1.2.2.2.2.2.1.1
  have p6 : 2 ^ dB δ ≤ 64 := Nat.pow_le_pow_right (n := 2) (by decide) v6
  have e6 := bs1 (dB δ) (by omega)
  rw [we89]
  simp +decide (disch := omega) only [↓wm1, wb89_0 hc, wb89_5 hc, w0, w1, rI_wI, rP_wI, rL_wI, rI_wR, rP_wR, is_wI, is_wR, ia_wI, ia_wR, ow_wI, ow_wR, wn_add, wn_mul, wn_cl, wn_le, wn_lt, wn_inj, wn_ne1, wn_1ne, wn_gt1, wn_le1, nb0, nb1, am_kt, am_rt, List.cons_append, List.nil_append, true_and, and_true, not_true_eq_false, not_false_eq_true, imp_f, imp_t, implies_true, Nat.zero_add, if_true, if_false, false_and, and_false, fC hI.1, ct87 hI.1 hI.2.1 h32 hI.2.2 hg ht]
  generalize hS : tb (spk σ) (dB δ) = S at k ⊢
  refine am_for (2 ^ dB δ) (fun j ls G' => CI G' q l δ Λ σ ∧ Kp HS G G' ∧ ls = [some (.ref 3), some (.ref 32), some (.int (wn h)), some (.int (wn n)), some (.int (wn S)), some (.int (oI (ra (rP δ Λ σ S h n) j))), some (.int (wn j)), none]) ?_ ?_ (2 ^ dB δ) 0 (by omega) _ _ ⟨hI, Kp.refl G, rfl⟩
  · rintro j hj _ G1 ⟨i1, k1, rfl⟩ nx
    have c1 : ¬ 2 ^ dB δ ≤ j := by omega
    have hs := hsum_le δ Λ σ h j (dB δ)
    have sp := ra_spec (rP δ Λ σ S h n) j
    have done : ∀ (x : Option Nat), x = ra (rP δ Λ σ S h n) (j + 1) → ∀ G2, CI G2 q l δ Λ σ → Kp HS G G2 → am_W (am_C am_T (d + 5)) am_89 post 13 [some (.ref 3), some (.ref 32), some (.int (wn h)), some (.int (wn n)), some (.int (wn S)), some (.int (oI x)), some (.int (wn (j + 1))), none] [] G2 := fun x hx G2 a b => nx _ _ ⟨a, b, by rw [hx]⟩
    rw [wb89_13 hc]
    by_cases c3 : wn j &&& (wn S ^^^ mm) = wn 0
    · by_cases c4 : n ≤ hsum δ Λ σ h j (dB δ)
      · have hP : rP δ Λ σ S h n j = true := by simp only [rP, c3, c4, decide_true, Bool.and_self]
        have c5 : ¬ hsum δ Λ σ h j (dB δ) < n := by omega
        cases hf : ra (rP δ Λ σ S h n) j with
        | none =>
          simp +decide (disch := omega) only [↓wm1, wb89_27 hc, wb89_46 hc, wb89_51 hc, wb89_63 hc, wb89_68 hc, w0, w1, rI_wI, rP_wI, rL_wI, rI_wR, rP_wR, is_wI, is_wR, ia_wI, ia_wR, ow_wI, ow_wR, wn_add, wn_mul, wn_cl, wn_le, wn_lt, wn_inj, wn_ne1, wn_1ne, wn_gt1, wn_le1, nb0, nb1, am_kt, am_rt, List.cons_append, List.nil_append, true_and, and_true, not_true_eq_false, not_false_eq_true, imp_f, imp_t, implies_true, Nat.zero_add, if_true, if_false, false_and, and_false, fC i1.1, fW2 i1.1 i1.2.1, fD i1.1 i1.2.1.2.2.1, e6, c1, oI, c3]
          refine ct90 i1 (by omega) hh hH (fun G2 k2 => ?_)
          simp +decide (disch := omega) only [↓wm1, wb89_76 hc, wb89_80 hc, wb89_84 hc, w0, w1, rI_wI, rP_wI, rL_wI, rI_wR, rP_wR, is_wI, is_wR, ia_wI, ia_wR, ow_wI, ow_wR, wn_add, wn_mul, wn_cl, wn_le, wn_lt, wn_inj, wn_ne1, wn_1ne, wn_gt1, wn_le1, nb0, nb1, am_kt, am_rt, List.cons_append, List.nil_append, true_and, and_true, not_true_eq_false, not_false_eq_true, imp_f, imp_t, implies_true, Nat.zero_add, if_true, if_false, false_and, and_false, c5]
          exact done (some j) (by simp only [ra, hf, hP, if_true]) G2 (i1.hs k2) (k1.trans k2)
        | some f =>
          have hfj := (sp.2 f hf).2.1
          have o1 := ones_le j
          have o2 := ones_le f
          by_cases c6 : ones f ≤ ones j
          · simp +decide (disch := omega) only [↓wm1, wb89_27 hc, wb89_33 hc, wb89_38 hc, wb89_43 hc, wb89_50 hc, wb89_51 hc, wb89_63 hc, wb89_84 hc, w0, w1, rI_wI, rP_wI, rL_wI, rI_wR, rP_wR, is_wI, is_wR, ia_wI, ia_wR, ow_wI, ow_wR, wn_add, wn_mul, wn_cl, wn_le, wn_lt, wn_inj, wn_ne1, wn_1ne, wn_gt1, wn_le1, nb0, nb1, am_kt, am_rt, List.cons_append, List.nil_append, true_and, and_true, not_true_eq_false, not_false_eq_true, imp_f, imp_t, implies_true, Nat.zero_add, if_true, if_false, false_and, and_false, fC i1.1, fW2 i1.1 i1.2.1, fD i1.1 i1.2.1.2.2.1, e6, c1, oI, c3, ct269, c6]
            exact done (some f) (by simp only [ra, hf]; rw [if_neg]; simp only [Bool.and_eq_true, decide_eq_true_eq]; omega) G1 i1 k1
          · simp +decide (disch := omega) only [↓wm1, wb89_27 hc, wb89_33 hc, wb89_38 hc, wb89_43 hc, wb89_46 hc, wb89_51 hc, wb89_63 hc, wb89_68 hc, w0, w1, rI_wI, rP_wI, rL_wI, rI_wR, rP_wR, is_wI, is_wR, ia_wI, ia_wR, ow_wI, ow_wR, wn_add, wn_mul, wn_cl, wn_le, wn_lt, wn_inj, wn_ne1, wn_1ne, wn_gt1, wn_le1, nb0, nb1, am_kt, am_rt, List.cons_append, List.nil_append, true_and, and_true, not_true_eq_false, not_false_eq_true, imp_f, imp_t, implies_true, Nat.zero_add, if_true, if_false, false_and, and_false, fC i1.1, fW2 i1.1 i1.2.1, fD i1.1 i1.2.1.2.2.1, e6, c1, oI, c3, ct269, c6]
            refine ct90 i1 (by omega) hh hH (fun G2 k2 => ?_)
            simp +decide (disch := omega) only [↓wm1, wb89_76 hc, wb89_80 hc, wb89_84 hc, w0, w1, rI_wI, rP_wI, rL_wI, rI_wR, rP_wR, is_wI, is_wR, ia_wI, ia_wR, ow_wI, ow_wR, wn_add, wn_mul, wn_cl, wn_le, wn_lt, wn_inj, wn_ne1, wn_1ne, wn_gt1, wn_le1, nb0, nb1, am_kt, am_rt, List.cons_append, List.nil_append, true_and, and_true, not_true_eq_false, not_false_eq_true, imp_f, imp_t, implies_true, Nat.zero_add, if_true, if_false, false_and, and_false, c5]
            exact done (some j) (by simp only [ra, hf]; rw [if_pos]; rw [hP, decide_eq_true (by omega)]; rfl) G2 (i1.hs k2) (k1.trans k2)
      · have hP : rP δ Λ σ S h n j = false := by simp only [rP, c4, decide_false, Bool.and_false]
        have c5 : hsum δ Λ σ h j (dB δ) < n := by omega
        cases hf : ra (rP δ Λ σ S h n) j with
        | none =>
          simp +decide (disch := omega) only [↓wm1, wb89_27 hc, wb89_46 hc, wb89_51 hc, wb89_63 hc, wb89_68 hc, w0, w1, rI_wI, rP_wI, rL_wI, rI_wR, rP_wR, is_wI, is_wR, ia_wI, ia_wR, ow_wI, ow_wR, wn_add, wn_mul, wn_cl, wn_le, wn_lt, wn_inj, wn_ne1, wn_1ne, wn_gt1, wn_le1, nb0, nb1, am_kt, am_rt, List.cons_append, List.nil_append, true_and, and_true, not_true_eq_false, not_false_eq_true, imp_f, imp_t, implies_true, Nat.zero_add, if_true, if_false, false_and, and_false, fC i1.1, fW2 i1.1 i1.2.1, fD i1.1 i1.2.1.2.2.1, e6, c1, oI, c3]
          refine ct90 i1 (by omega) hh hH (fun G2 k2 => ?_)
          simp +decide (disch := omega) only [↓wm1, wb89_76 hc, wb89_84 hc, w0, w1, rI_wI, rP_wI, rL_wI, rI_wR, rP_wR, is_wI, is_wR, ia_wI, ia_wR, ow_wI, ow_wR, wn_add, wn_mul, wn_cl, wn_le, wn_lt, wn_inj, wn_ne1, wn_1ne, wn_gt1, wn_le1, nb0, nb1, am_kt, am_rt, List.cons_append, List.nil_append, true_and, and_true, not_true_eq_false, not_false_eq_true, imp_f, imp_t, implies_true, Nat.zero_add, if_true, if_false, false_and, and_false, c5]
          exact done none (by simp [ra, hf, hP]) G2 (i1.hs k2) (k1.trans k2)
        | some f =>
          have hfj := (sp.2 f hf).2.1
          have o1 := ones_le j
          have o2 := ones_le f
          by_cases c6 : ones f ≤ ones j
          · simp +decide (disch := omega) only [↓wm1, wb89_27 hc, wb89_33 hc, wb89_38 hc, wb89_43 hc, wb89_50 hc, wb89_51 hc, wb89_63 hc, wb89_84 hc, w0, w1, rI_wI, rP_wI, rL_wI, rI_wR, rP_wR, is_wI, is_wR, ia_wI, ia_wR, ow_wI, ow_wR, wn_add, wn_mul, wn_cl, wn_le, wn_lt, wn_inj, wn_ne1, wn_1ne, wn_gt1, wn_le1, nb0, nb1, am_kt, am_rt, List.cons_append, List.nil_append, true_and, and_true, not_true_eq_false, not_false_eq_true, imp_f, imp_t, implies_true, Nat.zero_add, if_true, if_false, false_and, and_false, fC i1.1, fW2 i1.1 i1.2.1, fD i1.1 i1.2.1.2.2.1, e6, c1, oI, c3, ct269, c6]
            exact done (some f) (by simp [ra, hf, hP]) G1 i1 k1
          · simp +decide (disch := omega) only [↓wm1, wb89_27 hc, wb89_33 hc, wb89_38 hc, wb89_43 hc, wb89_46 hc, wb89_51 hc, wb89_63 hc, wb89_68 hc, w0, w1, rI_wI, rP_wI, rL_wI, rI_wR, rP_wR, is_wI, is_wR, ia_wI, ia_wR, ow_wI, ow_wR, wn_add, wn_mul, wn_cl, wn_le, wn_lt, wn_inj, wn_ne1, wn_1ne, wn_gt1, wn_le1, nb0, nb1, am_kt, am_rt, List.cons_append, List.nil_append, true_and, and_true, not_true_eq_false, not_false_eq_true, imp_f, imp_t, implies_true, Nat.zero_add, if_true, if_false, false_and, and_false, fC i1.1, fW2 i1.1 i1.2.1, fD i1.1 i1.2.1.2.2.1, e6, c1, oI, c3, ct269, c6]
            refine ct90 i1 (by omega) hh hH (fun G2 k2 => ?_)
            simp +decide (disch := omega) only [↓wm1, wb89_76 hc, wb89_84 hc, w0, w1, rI_wI, rP_wI, rL_wI, rI_wR, rP_wR, is_wI, is_wR, ia_wI, ia_wR, ow_wI, ow_wR, wn_add, wn_mul, wn_cl, wn_le, wn_lt, wn_inj, wn_ne1, wn_1ne, wn_gt1, wn_le1, nb0, nb1, am_kt, am_rt, List.cons_append, List.nil_append, true_and, and_true, not_true_eq_false, not_false_eq_true, imp_f, imp_t, implies_true, Nat.zero_add, if_true, if_false, false_and, and_false, c5]
            exact done (some f) (by simp [ra, hf, hP]) G2 (i1.hs k2) (k1.trans k2)
    · have hP : rP δ Λ σ S h n j = false := by simp only [rP, c3, decide_false, Bool.false_and]
      cases hf : ra (rP δ Λ σ S h n) j with
      | none =>
        simp +decide (disch := omega) only [↓wm1, wb89_27 hc, wb89_46 hc, wb89_51 hc, wb89_84 hc, w0, w1, rI_wI, rP_wI, rL_wI, rI_wR, rP_wR, is_wI, is_wR, ia_wI, ia_wR, ow_wI, ow_wR, wn_add, wn_mul, wn_cl, wn_le, wn_lt, wn_inj, wn_ne1, wn_1ne, wn_gt1, wn_le1, nb0, nb1, am_kt, am_rt, List.cons_append, List.nil_append, true_and, and_true, not_true_eq_false, not_false_eq_true, imp_f, imp_t, implies_true, Nat.zero_add, if_true, if_false, false_and, and_false, fC i1.1, fW2 i1.1 i1.2.1, fD i1.1 i1.2.1.2.2.1, e6, c1, oI, c3]
        exact done none (by simp [ra, hf, hP]) G1 i1 k1
      | some f =>
        have hfj := (sp.2 f hf).2.1
        have o1 := ones_le j
        have o2 := ones_le f
        by_cases c6 : ones f ≤ ones j
        · simp +decide (disch := omega) only [↓wm1, wb89_27 hc, wb89_33 hc, wb89_38 hc, wb89_43 hc, wb89_50 hc, wb89_51 hc, wb89_84 hc, w0, w1, rI_wI, rP_wI, rL_wI, rI_wR, rP_wR, is_wI, is_wR, ia_wI, ia_wR, ow_wI, ow_wR, wn_add, wn_mul, wn_cl, wn_le, wn_lt, wn_inj, wn_ne1, wn_1ne, wn_gt1, wn_le1, nb0, nb1, am_kt, am_rt, List.cons_append, List.nil_append, true_and, and_true, not_true_eq_false, not_false_eq_true, imp_f, imp_t, implies_true, Nat.zero_add, if_true, if_false, false_and, and_false, fC i1.1, fW2 i1.1 i1.2.1, fD i1.1 i1.2.1.2.2.1, e6, c1, oI, c3, ct269, c6]
          exact done (some f) (by simp [ra, hf, hP]) G1 i1 k1
        · simp +decide (disch := omega) only [↓wm1, wb89_27 hc, wb89_33 hc, wb89_38 hc, wb89_43 hc, wb89_46 hc, wb89_51 hc, wb89_84 hc, w0, w1, rI_wI, rP_wI, rL_wI, rI_wR, rP_wR, is_wI, is_wR, ia_wI, ia_wR, ow_wI, ow_wR, wn_add, wn_mul, wn_cl, wn_le, wn_lt, wn_inj, wn_ne1, wn_1ne, wn_gt1, wn_le1, nb0, nb1, am_kt, am_rt, List.cons_append, List.nil_append, true_and, and_true, not_true_eq_false, not_false_eq_true, imp_f, imp_t, implies_true, Nat.zero_add, if_true, if_false, false_and, and_false, fC i1.1, fW2 i1.1 i1.2.1, fD i1.1 i1.2.1.2.2.1, e6, c1, oI, c3, ct269, c6]
          exact done (some f) (by simp [ra, hf, hP]) G1 i1 k1
  · rintro _ G1 ⟨i1, k1, rfl⟩
    rw [wb89_13 hc]
    simp +decide (disch := omega) only [↓wm1, wb89_90 hc, w0, w1, rI_wI, rP_wI, rL_wI, rI_wR, rP_wR, is_wI, is_wR, ia_wI, ia_wR, ow_wI, ow_wR, wn_add, wn_mul, wn_cl, wn_le, wn_lt, wn_inj, wn_ne1, wn_1ne, wn_gt1, wn_le1, nb0, nb1, am_kt, am_rt, List.cons_append, List.nil_append, true_and, and_true, not_true_eq_false, not_false_eq_true, imp_f, imp_t, implies_true, Nat.zero_add, if_true, if_false, false_and, and_false, fC i1.1, fW2 i1.1 i1.2.1, fD i1.1 i1.2.1.2.2.1, e6, Nat.le_refl]
    exact k G1 k1
/-! the reference -/
theorem ct226_s {h n m : Nat} {x3 x4 : Int32} {δ : Dt} {Λ : List Tok} {σ : St} (hI : RI G δ Λ σ) (hm : m < 64) (hh : h < dH δ) (hH : sH σ < 2147483648) (k : ∀ G', RI G' δ Λ σ → Kp HM G G' → am_W (am_C am_T (d + 7)) am_226 post 149 [some (.ref 334), some (.int (wn h)), some (.int (wn n)), some (.int x3), some (.int x4), some (.int (wn m)), some (.int (wn (hsum δ Λ σ h m (dB δ)))), some (.int (wn (dB δ)))] [] G') :
    am_W (am_C am_T (d + 7)) am_226 post 102 [some (.ref 334), some (.int (wn h)), some (.int (wn n)), some (.int x3), some (.int x4), some (.int (wn m)), some (.int (wn 0)), some (.int (wn 0))] [] G := by
  have hc := am_C_one am_T (d + 7)
  have v6 := hI.2.1.2.1.1
  refine am_for (dB δ) (fun j ls G' => RI G' δ Λ σ ∧ Kp HM G G' ∧ ls = [some (.ref 334), some (.int (wn h)), some (.int (wn n)), some (.int x3), some (.int x4), some (.int (wn m)), some (.int (wn (hsum δ Λ σ h m j))), some (.int (wn j))]) ?_ ?_ (dB δ) 0 (by omega) _ _ ⟨hI, Kp.refl G, rfl⟩
  · rintro j hj _ G1 ⟨i1, k1, rfl⟩ nx
    have c1 : ¬ dB δ ≤ j := by omega
    have b1 := bt_01 m j
    rw [wb226_102 hc]
    by_cases c2 : bt m j = 1
    · simp +decide (disch := omega) only [↓wm1, wb226_113 hc, wb226_122 hc, wb226_125 hc, w0, w1, w2, w999, rI_wI, rP_wI, rL_wI, rI_wR, rP_wR, is_wI, is_wR, ia_wI, ia_wR, ow_wI, ow_wR, wn_add, wn_mul, wn_cl, wn_le, wn_lt, wn_inj, wn_ne1, wn_1ne, wn_gt1, wn_le1, nb0, nb1, am_kt, am_rt, List.cons_append, List.nil_append, true_and, and_true, not_true_eq_false, not_false_eq_true, imp_f, imp_t, implies_true, Nat.zero_add, if_true, if_false, false_and, and_false, fM i1.1, fE2 i1.2.1, ia338 i1.1, c1, ct156 (show m < 256 by omega) (show j < 8 by omega), c2]
      refine ct196 i1.1 i1.2.1 h808 i1.2.2 hj hh hH (fun G2 k2 => ?_)
      simp +decide (disch := omega) only [↓wm1, wb226_136 hc, wb226_140 hc, w0, w1, w2, w999, rI_wI, rP_wI, rL_wI, rI_wR, rP_wR, is_wI, is_wR, ia_wI, ia_wR, ow_wI, ow_wR, wn_add, wn_mul, wn_cl, wn_le, wn_lt, wn_inj, wn_ne1, wn_1ne, wn_gt1, wn_le1, nb0, nb1, am_kt, am_rt, List.cons_append, List.nil_append, true_and, and_true, not_true_eq_false, not_false_eq_true, imp_f, imp_t, implies_true, Nat.zero_add, if_true, if_false, false_and, and_false]
      refine nx _ _ ⟨i1.hm k2, k1.trans k2, ?_⟩
      simp only [hsum, tsum, c2, if_true]
    · have c3 : bt m j = 0 := by omega
      simp +decide (disch := omega) only [↓wm1, wb226_113 hc, wb226_122 hc, wb226_139 hc, wb226_140 hc, w0, w1, w2, w999, rI_wI, rP_wI, rL_wI, rI_wR, rP_wR, is_wI, is_wR, ia_wI, ia_wR, ow_wI, ow_wR, wn_add, wn_mul, wn_cl, wn_le, wn_lt, wn_inj, wn_ne1, wn_1ne, wn_gt1, wn_le1, nb0, nb1, am_kt, am_rt, List.cons_append, List.nil_append, true_and, and_true, not_true_eq_false, not_false_eq_true, imp_f, imp_t, implies_true, Nat.zero_add, if_true, if_false, false_and, and_false, fM i1.1, fE2 i1.2.1, ia338 i1.1, c1, ct156 (show m < 256 by omega) (show j < 8 by omega), c3]
      refine nx _ _ ⟨i1, k1, ?_⟩
      simp [hsum, tsum, c3]
  · rintro _ G1 ⟨i1, k1, rfl⟩
    rw [wb226_102 hc]
    simp +decide (disch := omega) only [↓wm1, w0, w1, rI_wI, rP_wI, rL_wI, rI_wR, rP_wR, is_wI, is_wR, ia_wI, ia_wR, ow_wI, ow_wR, wn_add, wn_mul, wn_cl, wn_le, wn_lt, wn_inj, wn_ne1, wn_1ne, wn_gt1, wn_le1, nb0, nb1, am_kt, am_rt, List.cons_append, List.nil_append, true_and, and_true, not_true_eq_false, not_false_eq_true, imp_f, imp_t, implies_true, Nat.zero_add, if_true, if_false, false_and, and_false, fM i1.1, fE2 i1.2.1, ia338 i1.1, Nat.le_refl]
    exact k G1 i1 k1
theorem ct226_l {h n S : Nat} {δ : Dt} {Λ : List Tok} {σ : St} (hI : RI G δ Λ σ) (hn : n < 1000) (hh : h < dH δ) (hH : sH σ < 2147483648) (k : ∀ G', Kp HM G G' → post (.inl (some (.int (oI (rd (rP δ Λ σ S h n) (2 ^ dB δ) (2 ^ dB δ)))))) G') :
    am_W (am_C am_T (d + 7)) am_226 post 78 [some (.ref 334), some (.int (wn h)), some (.int (wn n)), some (.int mm), some (.int (wn S)), some (.int (wn (2 ^ dB δ) - wn 1)), none, none] [] G := by
  have hc := am_C_one am_T (d + 7)
  have v6 := hI.2.1.2.1.1
  have p6 : 2 ^ dB δ ≤ 64 := Nat.pow_le_pow_right (n := 2) (by decide) v6
  have p0 : 0 < 2 ^ dB δ := Nat.two_pow_pos _
  generalize hN : 2 ^ dB δ = N at k p6 p0 ⊢
  refine am_for N (fun j ls G' => RI G' δ Λ σ ∧ Kp HM G G' ∧ ls = [some (.ref 334), some (.int (wn h)), some (.int (wn n)), some (.int (oI (rd (rP δ Λ σ S h n) N j))), some (.int (wn S)), some (.int (wn (N - j) + mm)), none, none]) ?_ ?_ N 0 (by omega) _ _ ⟨hI, Kp.refl G, by rw [Nat.sub_zero, show wn N + mm = wn N - wn 1 from by rw [Int32.sub_eq_add_neg]; rfl]; rfl⟩
  · rintro j hj _ G1 ⟨i1, k1, rfl⟩ nx
    obtain ⟨m, hm⟩ : ∃ m, N - j = m + 1 := ⟨N - j - 1, by omega⟩
    have eN : N - 1 - j = m := by omega
    have em : wn (N - j) + mm = wn m := by rw [hm, lv_s]
    have em2 : wn m + mm = wn (N - (j + 1)) + mm := by rw [show N - (j + 1) = m by omega]
    have hm64 : m < 64 := by omega
    have hs := hsum_le δ Λ σ h m (dB δ)
    have sp := rd_spec (rP δ Λ σ S h n) N j (by omega)
    have done : ∀ (x : Option Nat), x = rd (rP δ Λ σ S h n) N (j + 1) → ∀ G2, RI G2 δ Λ σ → Kp HM G G2 → am_W (am_C am_T (d + 7)) am_226 post 78 [some (.ref 334), some (.int (wn h)), some (.int (wn n)), some (.int (oI x)), some (.int (wn S)), some (.int (wn m + mm)), none, none] [] G2 := fun x hx G2 a b => nx _ _ ⟨a, b, by rw [hx, em2]⟩
    rw [em, wb226_78 hc]
    by_cases c3 : wn m &&& (wn S ^^^ mm) = wn 0
    · simp +decide (disch := omega) only [↓wm1, wb226_83 hc, wb226_96 hc, w0, w1, w2, w999, rI_wI, rP_wI, rL_wI, rI_wR, rP_wR, is_wI, is_wR, ia_wI, ia_wR, ow_wI, ow_wR, wn_add, wn_mul, wn_cl, wn_le, wn_lt, wn_inj, wn_ne1, wn_1ne, wn_gt1, wn_le1, nb0, nb1, am_kt, am_rt, List.cons_append, List.nil_append, true_and, and_true, not_true_eq_false, not_false_eq_true, imp_f, imp_t, implies_true, Nat.zero_add, if_true, if_false, false_and, and_false, c3, Nat.not_lt_zero]
      refine ct226_s i1 hm64 hh hH (fun G2 i2 k2 => ?_)
      by_cases c4 : n ≤ hsum δ Λ σ h m (dB δ)
      · have hP : rP δ Λ σ S h n m = true := by simp only [rP, c3, c4, decide_true, Bool.and_self]
        have c5 : ¬ hsum δ Λ σ h m (dB δ) < n := by omega
        cases hf : rd (rP δ Λ σ S h n) N j with
        | none =>
          simp +decide (disch := omega) only [↓wm1, wb226_149 hc, wb226_155 hc, wb226_172 hc, wb226_178 hc, wb226_179 hc, w0, w1, w2, w999, rI_wI, rP_wI, rL_wI, rI_wR, rP_wR, is_wI, is_wR, ia_wI, ia_wR, ow_wI, ow_wR, wn_add, wn_mul, wn_cl, wn_le, wn_lt, wn_inj, wn_ne1, wn_1ne, wn_gt1, wn_le1, nb0, nb1, am_kt, am_rt, List.cons_append, List.nil_append, true_and, and_true, not_true_eq_false, not_false_eq_true, imp_f, imp_t, implies_true, Nat.zero_add, if_true, if_false, false_and, and_false, c5, oI]
          exact done (some m) (by simp only [rd, hf, eN, hP, if_true]) G2 i2 (k1.trans k2)
        | some f =>
          have hfj := (sp.2 f hf).2.1
          have o1 := ones_le m
          have o2 := ones_le f
          by_cases c6 : ones f < ones m
          · simp +decide (disch := omega) only [↓wm1, wb226_149 hc, wb226_155 hc, wb226_160 hc, wb226_165 hc, wb226_169 hc, wb226_177 hc, wb226_178 hc, wb226_179 hc, w0, w1, w2, w999, rI_wI, rP_wI, rL_wI, rI_wR, rP_wR, is_wI, is_wR, ia_wI, ia_wR, ow_wI, ow_wR, wn_add, wn_mul, wn_cl, wn_le, wn_lt, wn_inj, wn_ne1, wn_1ne, wn_gt1, wn_le1, nb0, nb1, am_kt, am_rt, List.cons_append, List.nil_append, true_and, and_true, not_true_eq_false, not_false_eq_true, imp_f, imp_t, implies_true, Nat.zero_add, if_true, if_false, false_and, and_false, c5, oI, ct194, c6]
            exact done (some f) (by simp only [rd, hf, eN]; rw [if_neg]; simp only [Bool.and_eq_true, decide_eq_true_eq]; omega) G2 i2 (k1.trans k2)
          · simp +decide (disch := omega) only [↓wm1, wb226_149 hc, wb226_155 hc, wb226_160 hc, wb226_165 hc, wb226_169 hc, wb226_172 hc, wb226_178 hc, wb226_179 hc, w0, w1, w2, w999, rI_wI, rP_wI, rL_wI, rI_wR, rP_wR, is_wI, is_wR, ia_wI, ia_wR, ow_wI, ow_wR, wn_add, wn_mul, wn_cl, wn_le, wn_lt, wn_inj, wn_ne1, wn_1ne, wn_gt1, wn_le1, nb0, nb1, am_kt, am_rt, List.cons_append, List.nil_append, true_and, and_true, not_true_eq_false, not_false_eq_true, imp_f, imp_t, implies_true, Nat.zero_add, if_true, if_false, false_and, and_false, c5, oI, ct194, c6]
            exact done (some m) (by simp only [rd, hf, eN]; rw [if_pos]; rw [hP, decide_eq_true (by omega)]; rfl) G2 i2 (k1.trans k2)
      · have hP : rP δ Λ σ S h n m = false := by simp only [rP, c4, decide_false, Bool.and_false]
        have c5 : hsum δ Λ σ h m (dB δ) < n := by omega
        simp +decide (disch := omega) only [↓wm1, wb226_149 hc, wb226_177 hc, wb226_178 hc, wb226_179 hc, w0, w1, w2, w999, rI_wI, rP_wI, rL_wI, rI_wR, rP_wR, is_wI, is_wR, ia_wI, ia_wR, ow_wI, ow_wR, wn_add, wn_mul, wn_cl, wn_le, wn_lt, wn_inj, wn_ne1, wn_1ne, wn_gt1, wn_le1, nb0, nb1, am_kt, am_rt, List.cons_append, List.nil_append, true_and, and_true, not_true_eq_false, not_false_eq_true, imp_f, imp_t, implies_true, Nat.zero_add, if_true, if_false, false_and, and_false, c5]
        refine done _ ?_ G2 i2 (k1.trans k2)
        simp only [rd, eN, hP]
        cases rd (rP δ Λ σ S h n) N j <;> simp
    · have hP : rP δ Λ σ S h n m = false := by simp only [rP, c3, decide_false, Bool.false_and]
      simp +decide (disch := omega) only [↓wm1, wb226_83 hc, wb226_93 hc, wb226_179 hc, w0, w1, w2, w999, rI_wI, rP_wI, rL_wI, rI_wR, rP_wR, is_wI, is_wR, ia_wI, ia_wR, ow_wI, ow_wR, wn_add, wn_mul, wn_cl, wn_le, wn_lt, wn_inj, wn_ne1, wn_1ne, wn_gt1, wn_le1, nb0, nb1, am_kt, am_rt, List.cons_append, List.nil_append, true_and, and_true, not_true_eq_false, not_false_eq_true, imp_f, imp_t, implies_true, Nat.zero_add, if_true, if_false, false_and, and_false, c3, Nat.not_lt_zero]
      refine done _ ?_ G1 i1 k1
      simp only [rd, eN, hP]
      cases rd (rP δ Λ σ S h n) N j <;> simp
  · rintro _ G1 ⟨i1, k1, rfl⟩
    have e : wn (N - N) + mm = mm := by rw [Nat.sub_self]; decide
    have e2 : mm < wn 0 := by decide
    rw [e, wb226_78 hc]
    simp +decide (disch := omega) only [↓wm1, wb226_185 hc, w0, w1, w2, w999, rI_wI, rP_wI, rL_wI, rI_wR, rP_wR, is_wI, is_wR, ia_wI, ia_wR, ow_wI, ow_wR, wn_add, wn_mul, wn_cl, wn_le, wn_lt, wn_inj, wn_ne1, wn_1ne, wn_gt1, wn_le1, nb0, nb1, am_kt, am_rt, List.cons_append, List.nil_append, true_and, and_true, not_true_eq_false, not_false_eq_true, imp_f, imp_t, implies_true, Nat.zero_add, if_true, if_false, false_and, and_false, e2]
    exact k G1 k1
def sp_deaf (V : Vt) (x1 : Int32) : Res := if vin2 x1 0 (dB (vδ V)) = true then .inl (wn (tb (dfb (vδ V) (vΛ V) (vσ V) (u x1)) (dH (vδ V)))) else .inr 0
theorem cl_deaf (hR : RepC G V) (hB : am_rm G 1 6) (x1 : Int32) : am_C am_T (d + 12) 131 [.ref 0, .int x1] G (OC G (rfV V (sp_deaf V x1)) (sp_deaf V x1)) := by
  have hc := am_C_one am_T (d + 11)
  have hsh := hR.1
  have hv := hR.2.1
  obtain ⟨q, l, hT, -, -⟩ := hR.2.2.2.1
  have hr := hR.2.2.2.2.1.1
  have vd := hv.2.2.2.1
  have bB := vd.1
  have bH := vd.2.1
  have bD := vd.2.2.1
  have hs9 := hv.2.2.2.2.2.1
  have hvs := hs9.1
  have hg := hvs.g6 bB
  have ht := hvs.t6 bB
  have hm := hvs.2.2.2.2.2.1
  have h9 := hs9.2
  have p6 : 2 ^ dB (vδ V) ≤ 64 := Nat.pow_le_pow_right (n := 2) (by decide) bB
  have e6 := bs1 (dB (vδ V)) (by omega)
  unfold sp_deaf
  rw [we131]
  rcases vin2_or x1 0 (dB (vδ V)) (by omega) (by omega) with ⟨b1, hl1, hh1, rfl⟩ | hx1
  · rw [if_pos (vin2_t hl1 hh1 (by omega))]
    simp only [u_wn (show b1 < 2147483648 by omega)]
    generalize hP : OC G (rfV V (.inl (wn (tb (dfb (vδ V) (vΛ V) (vσ V) b1) (dH (vδ V)))))) (.inl (wn (tb (dfb (vδ V) (vΛ V) (vσ V) b1) (dH (vδ V))))) = P
    simp +decide (disch := omega) only [↓wm1, wb131_0 hc, wb131_5 hc, wb131_23 hc, wb131_39 hc, wb131_42 hc, wb131_48 hc, wb131_54 hc, w0, w1, rI_wI, rP_wI, rL_wI, rI_wR, rP_wR, is_wI, is_wR, ia_wI, ia_wR, ow_wI, ow_wR, wn_add, wn_mul, wn_cl, wn_le, wn_lt, wn_inj, wn_ne1, wn_1ne, wn_gt1, wn_le1, nb0, nb1, am_kt, am_rt, List.cons_append, List.nil_append, true_and, and_true, not_true_eq_false, not_false_eq_true, imp_f, imp_t, implies_true, Nat.zero_add, if_true, if_false, false_and, and_false, cn131, fC hsh, fW2 hsh hT, fD hsh hT.2.2.1, e6, ct141y hsh hT hh1]
    refine am_for (dH (vδ V)) (fun j ls G2 => CI G2 q l (vδ V) (vΛ V) (vσ V) ∧ Kp HS G G2 ∧ ls = [some (.ref 0), some (.int (wn b1)), some (.int (wn (tb (dfb (vδ V) (vΛ V) (vσ V) b1) j))), some (.int (wn j))]) ?_ ?_ (dH (vδ V)) 0 (by omega) _ _ ⟨⟨hsh, hT, hr⟩, Kp.refl G, rfl⟩
    · rintro j hj _ G1 ⟨i1, k1, rfl⟩ nx
      have c1 : ¬ dH (vδ V) ≤ j := by omega
      have t1 := tb_lt (dfb (vδ V) (vΛ V) (vσ V) b1) j
      have t2 : 2 ^ j ≤ 2 ^ 6 := Nat.pow_le_pow_right (by decide) (by omega)
      have t3 := bs1 j (by omega)
      have t4 := bor (tb (dfb (vδ V) (vΛ V) (vσ V) b1) j) (by omega) j (by omega) t1
      have t5 := or0 (tb (dfb (vδ V) (vΛ V) (vσ V) b1) j) (by omega)
      have hhl := hear_le (vδ V) (vΛ V) (vσ V) b1 j
      rw [wb131_9 hc]
      simp +decide (disch := omega) only [↓wm1, wb131_23 hc, w0, w1, rI_wI, rP_wI, rL_wI, rI_wR, rP_wR, is_wI, is_wR, ia_wI, ia_wR, ow_wI, ow_wR, wn_add, wn_mul, wn_cl, wn_le, wn_lt, wn_inj, wn_ne1, wn_1ne, wn_gt1, wn_le1, nb0, nb1, am_kt, am_rt, List.cons_append, List.nil_append, true_and, and_true, not_true_eq_false, not_false_eq_true, imp_f, imp_t, implies_true, Nat.zero_add, if_true, if_false, false_and, and_false, cn131, fC i1.1, fW2 i1.1 i1.2.1, fD i1.1 i1.2.1.2.2.1, fS i1.1 h32, c1]
      refine ct82 i1.1 i1.2.1 h32 i1.2.2 hh1 hj (by omega) (fun G2 k2 => ?_)
      by_cases c2 : hear (vδ V) (vΛ V) (vσ V) b1 j = 0
      · simp +decide (disch := omega) only [↓wm1, wb131_39 hc, wb131_42 hc, wb131_48 hc, w0, w1, rI_wI, rP_wI, rL_wI, rI_wR, rP_wR, is_wI, is_wR, ia_wI, ia_wR, ow_wI, ow_wR, wn_add, wn_mul, wn_cl, wn_le, wn_lt, wn_inj, wn_ne1, wn_1ne, wn_gt1, wn_le1, nb0, nb1, am_kt, am_rt, List.cons_append, List.nil_append, true_and, and_true, not_true_eq_false, not_false_eq_true, imp_f, imp_t, implies_true, Nat.zero_add, if_true, if_false, false_and, and_false, cn131, c2, t3, t4]
        refine nx _ _ ⟨i1.hs k2, k1.trans k2, ?_⟩
        have : dfb (vδ V) (vΛ V) (vσ V) b1 j = true := by simp [dfb, c2]
        simp [tb, this]
      · simp +decide (disch := omega) only [↓wm1, wb131_39 hc, wb131_48 hc, w0, w1, rI_wI, rP_wI, rL_wI, rI_wR, rP_wR, is_wI, is_wR, ia_wI, ia_wR, ow_wI, ow_wR, wn_add, wn_mul, wn_cl, wn_le, wn_lt, wn_inj, wn_ne1, wn_1ne, wn_gt1, wn_le1, nb0, nb1, am_kt, am_rt, List.cons_append, List.nil_append, true_and, and_true, not_true_eq_false, not_false_eq_true, imp_f, imp_t, implies_true, Nat.zero_add, if_true, if_false, false_and, and_false, cn131, c2]
        refine nx _ _ ⟨i1.hs k2, k1.trans k2, ?_⟩
        have : dfb (vδ V) (vΛ V) (vσ V) b1 j = false := by simp [dfb, c2]
        simp [tb, this]
    · rintro _ G1 ⟨i1, k1, rfl⟩
      rw [wb131_9 hc]
      simp +decide (disch := omega) only [↓wm1, wb131_54 hc, w0, w1, rI_wI, rP_wI, rL_wI, rI_wR, rP_wR, is_wI, is_wR, ia_wI, ia_wR, ow_wI, ow_wR, wn_add, wn_mul, wn_cl, wn_le, wn_lt, wn_inj, wn_ne1, wn_1ne, wn_gt1, wn_le1, nb0, nb1, am_kt, am_rt, List.cons_append, List.nil_append, true_and, and_true, not_true_eq_false, not_false_eq_true, imp_f, imp_t, implies_true, Nat.zero_add, if_true, if_false, false_and, and_false, cn131, fC i1.1, fW2 i1.1 i1.2.1, fD i1.1 i1.2.1.2.2.1, Nat.le_refl]
      rw [← hP]; exact OC_ok hR (HS_q k1)
  · rw [if_neg (vin2_nf hx1)]
    generalize hP : OC G (rfV V (.inr 0)) (.inr 0) = P
    simp +decide (disch := omega) only [↓wm1, wb131_0 hc, wb131_5 hc, wb131_23 hc, wb131_39 hc, wb131_42 hc, wb131_48 hc, wb131_54 hc, w0, w1, rI_wI, rP_wI, rL_wI, rI_wR, rP_wR, is_wI, is_wR, ia_wI, ia_wR, ow_wI, ow_wR, wn_add, wn_mul, wn_cl, wn_le, wn_lt, wn_inj, wn_ne1, wn_1ne, wn_gt1, wn_le1, nb0, nb1, am_kt, am_rt, List.cons_append, List.nil_append, true_and, and_true, not_true_eq_false, not_false_eq_true, imp_f, imp_t, implies_true, Nat.zero_add, if_true, if_false, false_and, and_false, cn131, fC hsh, fW2 hsh hT, fD hsh hT.2.2.1, e6, ct141n hx1 hsh hT hB]
    rw [← hP]; exact OC_7 hR hB
theorem rf_deaf (hR : RepR G V) (x1 : Int32) : am_C am_T (d + 12) 256 [.ref 334, .int x1] G (OR G (rfV V (sp_deaf V x1)) 1 (sp_deaf V x1)) := by
  have hc := am_C_one am_T (d + 11)
  have k0 : Kp QSR G (am_wI G 334 0 (wn 0)) := (Kp.refl G).wI (Or.inl ⟨rfl, Or.inl rfl⟩) _
  have e0 : am_gI (am_wI G 334 0 (wn 0)) 334 0 = wn 0 := by rw [rI_wI, if_pos ⟨rfl, rfl⟩]
  have hR0 := hR.q k0
  have hshG := hR.1
  unfold sp_deaf
  rw [we256]
  generalize hOR : OR G = OG
  simp +decide (disch := omega) only [↓wm1, wb256_0 hc, w0, w1, rI_wI, rP_wI, rL_wI, rI_wR, rP_wR, is_wI, is_wR, ia_wI, ia_wR, ow_wI, ow_wR, wn_add, wn_mul, wn_cl, wn_le, wn_lt, wn_inj, wn_ne1, wn_1ne, wn_gt1, wn_le1, nb0, nb1, am_kt, am_rt, List.cons_append, List.nil_append, true_and, and_true, not_true_eq_false, not_false_eq_true, imp_f, imp_t, implies_true, Nat.zero_add, if_true, if_false, false_and, and_false, fM hshG, fE2 hR.2.2.2.1, ia338 hshG]
  generalize am_wI G 334 0 (wn 0) = G0 at k0 e0 hR0 ⊢
  subst hOR
  have hsh := hR0.1
  have hv := hR0.2.1
  have hT := hR0.2.2.2.1
  have hr := hR0.2.2.2.2.1.1
  have vd := hv.2.2.2.1
  have bB := vd.1
  have bH := vd.2.1
  have bD := vd.2.2.1
  have hs9 := hv.2.2.2.2.2.1
  have hvs := hs9.1
  have hg := hvs.g6 bB
  have ht := hvs.t6 bB
  have hm := hvs.2.2.2.2.2.1
  have h9 := hs9.2
  have p6 : 2 ^ dB (vδ V) ≤ 64 := Nat.pow_le_pow_right (n := 2) (by decide) bB
  have e6 := bs1 (dB (vδ V)) (by omega)
  rcases vin2_or x1 0 (dB (vδ V)) (by omega) (by omega) with ⟨b1, hl1, hh1, rfl⟩ | hx1
  · rw [if_pos (vin2_t hl1 hh1 (by omega))]
    simp only [u_wn (show b1 < 2147483648 by omega)]
    generalize hP : OR G (rfV V (.inl (wn (tb (dfb (vδ V) (vΛ V) (vσ V) b1) (dH (vδ V)))))) 1 (.inl (wn (tb (dfb (vδ V) (vΛ V) (vσ V) b1) (dH (vδ V))))) = P
    simp +decide (disch := omega) only [↓wm1, wb256_0 hc, wb256_11 hc, wb256_14 hc, wb256_18 hc, wb256_19 hc, wb256_24 hc, wb256_27 hc, wb256_29 hc, wb256_43 hc, wb256_54 hc, wb256_57 hc, wb256_63 hc, wb256_64 hc, wb256_72 hc, w0, w1, rI_wI, rP_wI, rL_wI, rI_wR, rP_wR, is_wI, is_wR, ia_wI, ia_wR, ow_wI, ow_wR, wn_add, wn_mul, wn_cl, wn_le, wn_lt, wn_inj, wn_ne1, wn_1ne, wn_gt1, wn_le1, nb0, nb1, am_kt, am_rt, List.cons_append, List.nil_append, true_and, and_true, not_true_eq_false, not_false_eq_true, imp_f, imp_t, implies_true, Nat.zero_add, if_true, if_false, false_and, and_false, fM hsh, fE2 hT, ia338 hsh, e6, b01, if_true, Bool.false_eq_true, ct214 hsh hT, ct215 hsh hT, ct220, ct153c, ct153v, ct152n hsh e0, vin2_t hl1 hh1 (by omega)]
    refine am_for (dH (vδ V)) (fun j ls G2 => RI G2 (vδ V) (vΛ V) (vσ V) ∧ Kp HM G0 G2 ∧ ls = [some (.ref 334), some (.int (wn b1)), some (.int (wn (tb (dfb (vδ V) (vΛ V) (vσ V) b1) j))), some (.int (wn j))]) ?_ ?_ (dH (vδ V)) 0 (by omega) _ _ ⟨⟨hsh, hT, hr⟩, Kp.refl G0, rfl⟩
    · rintro j hj _ G1 ⟨i1, k1, rfl⟩ nx
      have c1 : ¬ dH (vδ V) ≤ j := by omega
      have t1 := tb_lt (dfb (vδ V) (vΛ V) (vσ V) b1) j
      have t2 : 2 ^ j ≤ 2 ^ 6 := Nat.pow_le_pow_right (by decide) (by omega)
      have t3 := bs1 j (by omega)
      have t4 := bor (tb (dfb (vδ V) (vΛ V) (vσ V) b1) j) (by omega) j (by omega) t1
      have t5 := or0 (tb (dfb (vδ V) (vΛ V) (vσ V) b1) j) (by omega)
      have hhl := hear_le (vδ V) (vΛ V) (vσ V) b1 j
      rw [wb256_33 hc]
      simp +decide (disch := omega) only [↓wm1, wb256_43 hc, w0, w1, rI_wI, rP_wI, rL_wI, rI_wR, rP_wR, is_wI, is_wR, ia_wI, ia_wR, ow_wI, ow_wR, wn_add, wn_mul, wn_cl, wn_le, wn_lt, wn_inj, wn_ne1, wn_1ne, wn_gt1, wn_le1, nb0, nb1, am_kt, am_rt, List.cons_append, List.nil_append, true_and, and_true, not_true_eq_false, not_false_eq_true, imp_f, imp_t, implies_true, Nat.zero_add, if_true, if_false, false_and, and_false, fM i1.1, fE2 i1.2.1, ia338 i1.1, c1]
      refine ct196 i1.1 i1.2.1 h808 i1.2.2 hh1 hj (by omega) (fun G2 k2 => ?_)
      by_cases c2 : hear (vδ V) (vΛ V) (vσ V) b1 j = 0
      · simp +decide (disch := omega) only [↓wm1, wb256_54 hc, wb256_57 hc, wb256_64 hc, w0, w1, rI_wI, rP_wI, rL_wI, rI_wR, rP_wR, is_wI, is_wR, ia_wI, ia_wR, ow_wI, ow_wR, wn_add, wn_mul, wn_cl, wn_le, wn_lt, wn_inj, wn_ne1, wn_1ne, wn_gt1, wn_le1, nb0, nb1, am_kt, am_rt, List.cons_append, List.nil_append, true_and, and_true, not_true_eq_false, not_false_eq_true, imp_f, imp_t, implies_true, Nat.zero_add, if_true, if_false, false_and, and_false, c2, t3, t4]
        refine nx _ _ ⟨i1.hm k2, k1.trans k2, ?_⟩
        have : dfb (vδ V) (vΛ V) (vσ V) b1 j = true := by simp [dfb, c2]
        simp [tb, this]
      · simp +decide (disch := omega) only [↓wm1, wb256_54 hc, wb256_63 hc, wb256_64 hc, w0, w1, rI_wI, rP_wI, rL_wI, rI_wR, rP_wR, is_wI, is_wR, ia_wI, ia_wR, ow_wI, ow_wR, wn_add, wn_mul, wn_cl, wn_le, wn_lt, wn_inj, wn_ne1, wn_1ne, wn_gt1, wn_le1, nb0, nb1, am_kt, am_rt, List.cons_append, List.nil_append, true_and, and_true, not_true_eq_false, not_false_eq_true, imp_f, imp_t, implies_true, Nat.zero_add, if_true, if_false, false_and, and_false, c2, t5]
        refine nx _ _ ⟨i1.hm k2, k1.trans k2, ?_⟩
        have : dfb (vδ V) (vΛ V) (vσ V) b1 j = false := by simp [dfb, c2]
        simp [tb, this]
    · rintro _ G1 ⟨i1, k1, rfl⟩
      rw [wb256_33 hc]
      simp +decide (disch := omega) only [↓wm1, wb256_72 hc, w0, w1, rI_wI, rP_wI, rL_wI, rI_wR, rP_wR, is_wI, is_wR, ia_wI, ia_wR, ow_wI, ow_wR, wn_add, wn_mul, wn_cl, wn_le, wn_lt, wn_inj, wn_ne1, wn_1ne, wn_gt1, wn_le1, nb0, nb1, am_kt, am_rt, List.cons_append, List.nil_append, true_and, and_true, not_true_eq_false, not_false_eq_true, imp_f, imp_t, implies_true, Nat.zero_add, if_true, if_false, false_and, and_false, fM i1.1, fE2 i1.2.1, ia338 i1.1, Nat.le_refl]
      rw [← hP]; exact OR_ok hR (k0.trans (HM_q k1)) (k1.thr (by unfold HM; omega) e0)
  · rw [if_neg (vin2_nf hx1)]
    generalize hP : OR G (rfV V (.inr 0)) 1 (.inr 0) = P
    simp +decide (disch := omega) only [↓wm1, wb256_0 hc, wb256_11 hc, wb256_14 hc, wb256_18 hc, wb256_19 hc, wb256_24 hc, wb256_27 hc, wb256_29 hc, wb256_43 hc, wb256_54 hc, wb256_57 hc, wb256_63 hc, wb256_64 hc, wb256_72 hc, w0, w1, rI_wI, rP_wI, rL_wI, rI_wR, rP_wR, is_wI, is_wR, ia_wI, ia_wR, ow_wI, ow_wR, wn_add, wn_mul, wn_cl, wn_le, wn_lt, wn_inj, wn_ne1, wn_1ne, wn_gt1, wn_le1, nb0, nb1, am_kt, am_rt, List.cons_append, List.nil_append, true_and, and_true, not_true_eq_false, not_false_eq_true, imp_f, imp_t, implies_true, Nat.zero_add, if_true, if_false, false_and, and_false, fM hsh, fE2 hT, ia338 hsh, e6, b01, if_true, Bool.false_eq_true, ct214 hsh hT, ct215 hsh hT, ct220, ct153c, ct153v, ct152n hsh e0, vin2_f hx1, ct152y (c := 1) (r := 0) (by decide) (by decide) (by decide) hsh e0]
    rw [← hP]; exact OR_7 hR k0
def sp_kin (V : Vt) (x1 : Int32) : Res := if vin2 x1 0 (10) = true then .inl (wn (tb (knb (vδ V) (vσ V) (u x1)) (dB (vδ V)))) else .inr 1
theorem cl_kin (hR : RepC G V) (hB : am_rm G 1 6) (x1 : Int32) : am_C am_T (d + 12) 132 [.ref 0, .int x1] G (OC G (rfV V (sp_kin V x1)) (sp_kin V x1)) := by
  have hc := am_C_one am_T (d + 11)
  have hsh := hR.1
  have hv := hR.2.1
  obtain ⟨q, l, hT, -, -⟩ := hR.2.2.2.1
  have hr := hR.2.2.2.2.1.1
  have vd := hv.2.2.2.1
  have bB := vd.1
  have bH := vd.2.1
  have bD := vd.2.2.1
  have hs9 := hv.2.2.2.2.2.1
  have hvs := hs9.1
  have hg := hvs.g6 bB
  have ht := hvs.t6 bB
  have hm := hvs.2.2.2.2.2.1
  have h9 := hs9.2
  have p6 : 2 ^ dB (vδ V) ≤ 64 := Nat.pow_le_pow_right (n := 2) (by decide) bB
  have e6 := bs1 (dB (vδ V)) (by omega)
  unfold sp_kin
  rw [we132]
  rcases vin2_or x1 0 (10) (by omega) (by omega) with ⟨b1, hl1, hh1, rfl⟩ | hx1
  · rw [if_pos (vin2_t hl1 hh1 (by omega))]
    have na1 : ¬ b1 < 0 := by omega
    have nb1 : ¬ 10 ≤ b1 := by omega
    have nc1 : ¬ 9 < b1 := by omega
    simp only [u_wn (show b1 < 2147483648 by omega)]
    generalize hP : OC G (rfV V (.inl (wn (tb (knb (vδ V) (vσ V) b1) (dB (vδ V)))))) (.inl (wn (tb (knb (vδ V) (vσ V) b1) (dB (vδ V))))) = P
    simp +decide (disch := omega) only [↓wm1, wb132_0 hc, wb132_5 hc, wb132_11 hc, wb132_15 hc, wb132_16 hc, wb132_19 hc, wb132_37 hc, wb132_53 hc, wb132_64 hc, wb132_67 hc, wb132_73 hc, wb132_79 hc, w0, w1, w10, rI_wI, rP_wI, rL_wI, rI_wR, rP_wR, is_wI, is_wR, ia_wI, ia_wR, ow_wI, ow_wR, wn_add, wn_mul, wn_cl, wn_le, wn_lt, wn_inj, wn_ne1, wn_1ne, wn_gt1, wn_le1, nb0, nb1, am_kt, am_rt, List.cons_append, List.nil_append, true_and, and_true, not_true_eq_false, not_false_eq_true, imp_f, imp_t, implies_true, Nat.zero_add, if_true, if_false, false_and, and_false, cn132, fC hsh, fW2 hsh hT, fD hsh hT.2.2.1, e6, na1, nb1, hh1, nc1, ct139y (v := 1) (by decide) (by decide)]
    refine am_for (dB (vδ V)) (fun j ls G2 => G2 = G ∧ ls = [some (.ref 0), some (.int (wn b1)), some (.int (wn (tb (knb (vδ V) (vσ V) b1) j))), some (.int (wn j))]) ?_ ?_ (dB (vδ V)) 0 (by omega) _ _ ⟨rfl, rfl⟩
    · rintro j hj _ _ ⟨rfl, rfl⟩ nx
      have c1 : ¬ dB (vδ V) ≤ j := by omega
      have t1 := tb_lt (knb (vδ V) (vσ V) b1) j
      have t2 : 2 ^ j ≤ 2 ^ 6 := Nat.pow_le_pow_right (by decide) (by omega)
      have t3 := bs1 j (by omega)
      have t4 := bor (tb (knb (vδ V) (vσ V) b1) j) (by omega) j (by omega) t1
      have t5 := or0 (tb (knb (vδ V) (vσ V) b1) j) (by omega)
      have rb := hT.2.2.2.2.1.2.2.2.2.1 j hj
      have vb := vd.2.2.2.2.1 j hj
      rw [wb132_23 hc]
      by_cases c2 : bM (vδ V) j = b1
      · cases c3 : spk (vσ V) j with
        | true =>
          simp +decide (disch := omega) only [↓wm1, wb132_37 hc, wb132_53 hc, wb132_64 hc, wb132_67 hc, wb132_73 hc, w0, w1, w10, rI_wI, rP_wI, rL_wI, rI_wR, rP_wR, is_wI, is_wR, ia_wI, ia_wR, ow_wI, ow_wR, wn_add, wn_mul, wn_cl, wn_le, wn_lt, wn_inj, wn_ne1, wn_1ne, wn_gt1, wn_le1, nb0, nb1, am_kt, am_rt, List.cons_append, List.nil_append, true_and, and_true, not_true_eq_false, not_false_eq_true, imp_f, imp_t, implies_true, Nat.zero_add, if_true, if_false, false_and, and_false, cn132, fC hsh, fW2 hsh hT, fD hsh hT.2.2.1, fS hsh h32, c1, rb.1, c2, ct48i hsh h32 hr hg ht (show j < 6 by omega), c3, b01, t3, t4]
          refine nx _ _ ⟨rfl, ?_⟩
          have : knb (vδ V) (vσ V) b1 j = true := by simp [knb, c2, c3]
          simp [tb, this]
        | false =>
          simp +decide (disch := omega) only [↓wm1, wb132_37 hc, wb132_53 hc, wb132_64 hc, wb132_73 hc, w0, w1, w10, rI_wI, rP_wI, rL_wI, rI_wR, rP_wR, is_wI, is_wR, ia_wI, ia_wR, ow_wI, ow_wR, wn_add, wn_mul, wn_cl, wn_le, wn_lt, wn_inj, wn_ne1, wn_1ne, wn_gt1, wn_le1, nb0, nb1, am_kt, am_rt, List.cons_append, List.nil_append, true_and, and_true, not_true_eq_false, not_false_eq_true, imp_f, imp_t, implies_true, Nat.zero_add, if_true, if_false, false_and, and_false, cn132, fC hsh, fW2 hsh hT, fD hsh hT.2.2.1, fS hsh h32, c1, rb.1, c2, ct48i hsh h32 hr hg ht (show j < 6 by omega), c3, b01, Bool.false_eq_true]
          refine nx _ _ ⟨rfl, ?_⟩
          have : knb (vδ V) (vσ V) b1 j = false := by simp [knb, c3]
          simp [tb, this]
      · simp +decide (disch := omega) only [↓wm1, wb132_37 hc, wb132_73 hc, w0, w1, w10, rI_wI, rP_wI, rL_wI, rI_wR, rP_wR, is_wI, is_wR, ia_wI, ia_wR, ow_wI, ow_wR, wn_add, wn_mul, wn_cl, wn_le, wn_lt, wn_inj, wn_ne1, wn_1ne, wn_gt1, wn_le1, nb0, nb1, am_kt, am_rt, List.cons_append, List.nil_append, true_and, and_true, not_true_eq_false, not_false_eq_true, imp_f, imp_t, implies_true, Nat.zero_add, if_true, if_false, false_and, and_false, cn132, fC hsh, fW2 hsh hT, fD hsh hT.2.2.1, fS hsh h32, c1, rb.1, c2]
        refine nx _ _ ⟨rfl, ?_⟩
        have : knb (vδ V) (vσ V) b1 j = false := by simp [knb, c2]
        simp [tb, this]
    · rintro _ _ ⟨rfl, rfl⟩
      rw [wb132_23 hc]
      simp +decide (disch := omega) only [↓wm1, wb132_79 hc, w0, w1, w10, rI_wI, rP_wI, rL_wI, rI_wR, rP_wR, is_wI, is_wR, ia_wI, ia_wR, ow_wI, ow_wR, wn_add, wn_mul, wn_cl, wn_le, wn_lt, wn_inj, wn_ne1, wn_1ne, wn_gt1, wn_le1, nb0, nb1, am_kt, am_rt, List.cons_append, List.nil_append, true_and, and_true, not_true_eq_false, not_false_eq_true, imp_f, imp_t, implies_true, Nat.zero_add, if_true, if_false, false_and, and_false, cn132, fC hsh, fW2 hsh hT, fD hsh hT.2.2.1, fS hsh h32, Nat.le_refl]
      rw [← hP]; exact OC_ok hR (Kp.refl _)
  · rw [if_neg (vin2_nf hx1)]
    generalize hP : OC G (rfV V (.inr 1)) (.inr 1) = P
    by_cases hxa : x1 < wn 0
    · simp +decide (disch := omega) only [↓wm1, wb132_0 hc, wb132_5 hc, wb132_11 hc, wb132_15 hc, wb132_16 hc, wb132_19 hc, wb132_37 hc, wb132_53 hc, wb132_64 hc, wb132_67 hc, wb132_73 hc, wb132_79 hc, w0, w1, w10, rI_wI, rP_wI, rL_wI, rI_wR, rP_wR, is_wI, is_wR, ia_wI, ia_wR, ow_wI, ow_wR, wn_add, wn_mul, wn_cl, wn_le, wn_lt, wn_inj, wn_ne1, wn_1ne, wn_gt1, wn_le1, nb0, nb1, am_kt, am_rt, List.cons_append, List.nil_append, true_and, and_true, not_true_eq_false, not_false_eq_true, imp_f, imp_t, implies_true, Nat.zero_add, if_true, if_false, false_and, and_false, cn132, fC hsh, fW2 hsh hT, fD hsh hT.2.2.1, e6, hxa, ct139n hsh hB]
      rw [← hP]; exact OC_8 hR hB
    · have hxb : ¬ x1 < wn (10) := by rcases hx1 with z | z; exact absurd z hxa; exact z
      have hxc : wn (10) ≤ x1 := Int32.not_lt.mp hxb
      have hxd : wn 9 < x1 := out3 (by decide) hxb
      simp +decide (disch := omega) only [↓wm1, wb132_0 hc, wb132_5 hc, wb132_11 hc, wb132_15 hc, wb132_16 hc, wb132_19 hc, wb132_37 hc, wb132_53 hc, wb132_64 hc, wb132_67 hc, wb132_73 hc, wb132_79 hc, w0, w1, w10, rI_wI, rP_wI, rL_wI, rI_wR, rP_wR, is_wI, is_wR, ia_wI, ia_wR, ow_wI, ow_wR, wn_add, wn_mul, wn_cl, wn_le, wn_lt, wn_inj, wn_ne1, wn_1ne, wn_gt1, wn_le1, nb0, nb1, am_kt, am_rt, List.cons_append, List.nil_append, true_and, and_true, not_true_eq_false, not_false_eq_true, imp_f, imp_t, implies_true, Nat.zero_add, if_true, if_false, false_and, and_false, cn132, fC hsh, fW2 hsh hT, fD hsh hT.2.2.1, e6, hxa, hxb, hxc, hxd, ct139n hsh hB]
      rw [← hP]; exact OC_8 hR hB
theorem rf_kin (hR : RepR G V) (x1 : Int32) : am_C am_T (d + 12) 257 [.ref 334, .int x1] G (OR G (rfV V (sp_kin V x1)) 1 (sp_kin V x1)) := by
  have hc := am_C_one am_T (d + 11)
  have k0 : Kp QSR G (am_wI G 334 0 (wn 0)) := (Kp.refl G).wI (Or.inl ⟨rfl, Or.inl rfl⟩) _
  have e0 : am_gI (am_wI G 334 0 (wn 0)) 334 0 = wn 0 := by rw [rI_wI, if_pos ⟨rfl, rfl⟩]
  have hR0 := hR.q k0
  have hshG := hR.1
  unfold sp_kin
  rw [we257]
  generalize hOR : OR G = OG
  simp +decide (disch := omega) only [↓wm1, wb257_0 hc, w0, w1, rI_wI, rP_wI, rL_wI, rI_wR, rP_wR, is_wI, is_wR, ia_wI, ia_wR, ow_wI, ow_wR, wn_add, wn_mul, wn_cl, wn_le, wn_lt, wn_inj, wn_ne1, wn_1ne, wn_gt1, wn_le1, nb0, nb1, am_kt, am_rt, List.cons_append, List.nil_append, true_and, and_true, not_true_eq_false, not_false_eq_true, imp_f, imp_t, implies_true, Nat.zero_add, if_true, if_false, false_and, and_false, fM hshG, fE2 hR.2.2.2.1, ia338 hshG]
  generalize am_wI G 334 0 (wn 0) = G0 at k0 e0 hR0 ⊢
  subst hOR
  have hsh := hR0.1
  have hv := hR0.2.1
  have hT := hR0.2.2.2.1
  have hr := hR0.2.2.2.2.1.1
  have vd := hv.2.2.2.1
  have bB := vd.1
  have bH := vd.2.1
  have bD := vd.2.2.1
  have hs9 := hv.2.2.2.2.2.1
  have hvs := hs9.1
  have hg := hvs.g6 bB
  have ht := hvs.t6 bB
  have hm := hvs.2.2.2.2.2.1
  have h9 := hs9.2
  have p6 : 2 ^ dB (vδ V) ≤ 64 := Nat.pow_le_pow_right (n := 2) (by decide) bB
  have e6 := bs1 (dB (vδ V)) (by omega)
  rcases vin2_or x1 0 (10) (by omega) (by omega) with ⟨b1, hl1, hh1, rfl⟩ | hx1
  · rw [if_pos (vin2_t hl1 hh1 (by omega))]
    simp only [u_wn (show b1 < 2147483648 by omega)]
    generalize hP : OR G (rfV V (.inl (wn (tb (knb (vδ V) (vσ V) b1) (dB (vδ V)))))) 1 (.inl (wn (tb (knb (vδ V) (vσ V) b1) (dB (vδ V))))) = P
    simp +decide (disch := omega) only [↓wm1, wb257_0 hc, wb257_10 hc, wb257_13 hc, wb257_17 hc, wb257_18 hc, wb257_23 hc, wb257_26 hc, wb257_28 hc, wb257_42 hc, wb257_51 hc, wb257_54 hc, wb257_66 hc, wb257_72 hc, wb257_73 hc, wb257_81 hc, w0, w1, rI_wI, rP_wI, rL_wI, rI_wR, rP_wR, is_wI, is_wR, ia_wI, ia_wR, ow_wI, ow_wR, wn_add, wn_mul, wn_cl, wn_le, wn_lt, wn_inj, wn_ne1, wn_1ne, wn_gt1, wn_le1, nb0, nb1, am_kt, am_rt, List.cons_append, List.nil_append, true_and, and_true, not_true_eq_false, not_false_eq_true, imp_f, imp_t, implies_true, Nat.zero_add, if_true, if_false, false_and, and_false, fM hsh, fE2 hT, ia338 hsh, e6, b01, if_true, Bool.false_eq_true, ct214 hsh hT, ct215 hsh hT, ct220, ct153c, ct153v, ct152n hsh e0, vin2_t hl1 hh1 (by omega)]
    refine am_for (dB (vδ V)) (fun j ls G2 => G2 = G0 ∧ ls = [some (.ref 334), some (.int (wn b1)), some (.int (wn (tb (knb (vδ V) (vσ V) b1) j))), some (.int (wn j))]) ?_ ?_ (dB (vδ V)) 0 (by omega) _ _ ⟨rfl, rfl⟩
    · rintro j hj _ _ ⟨rfl, rfl⟩ nx
      have c1 : ¬ dB (vδ V) ≤ j := by omega
      have t1 := tb_lt (knb (vδ V) (vσ V) b1) j
      have t2 : 2 ^ j ≤ 2 ^ 6 := Nat.pow_le_pow_right (by decide) (by omega)
      have t3 := bs1 j (by omega)
      have t4 := bor (tb (knb (vδ V) (vσ V) b1) j) (by omega) j (by omega) t1
      have t5 := or0 (tb (knb (vδ V) (vσ V) b1) j) (by omega)
      have rb := hT.1.2.2.2.2.1 j hj
      have vb := vd.2.2.2.2.1 j hj
      rw [wb257_32 hc]
      cases c3 : spk (vσ V) j with
      | true =>
        by_cases c2 : bM (vδ V) j = b1
        · simp +decide (disch := omega) only [↓wm1, wb257_42 hc, wb257_51 hc, wb257_54 hc, wb257_66 hc, wb257_73 hc, w0, w1, rI_wI, rP_wI, rL_wI, rI_wR, rP_wR, is_wI, is_wR, ia_wI, ia_wR, ow_wI, ow_wR, wn_add, wn_mul, wn_cl, wn_le, wn_lt, wn_inj, wn_ne1, wn_1ne, wn_gt1, wn_le1, nb0, nb1, am_kt, am_rt, List.cons_append, List.nil_append, true_and, and_true, not_true_eq_false, not_false_eq_true, imp_f, imp_t, implies_true, Nat.zero_add, if_true, if_false, false_and, and_false, fM hsh, fE2 hT, ia338 hsh, fr346 hsh, c1, rb.1, c2, ct197 hsh h808 hr (show j < 6 by omega), c3, b01, t3, t4]
          refine nx _ _ ⟨rfl, ?_⟩
          have : knb (vδ V) (vσ V) b1 j = true := by simp [knb, c2, c3]
          simp [tb, this]
        · simp +decide (disch := omega) only [↓wm1, wb257_42 hc, wb257_51 hc, wb257_54 hc, wb257_72 hc, wb257_73 hc, w0, w1, rI_wI, rP_wI, rL_wI, rI_wR, rP_wR, is_wI, is_wR, ia_wI, ia_wR, ow_wI, ow_wR, wn_add, wn_mul, wn_cl, wn_le, wn_lt, wn_inj, wn_ne1, wn_1ne, wn_gt1, wn_le1, nb0, nb1, am_kt, am_rt, List.cons_append, List.nil_append, true_and, and_true, not_true_eq_false, not_false_eq_true, imp_f, imp_t, implies_true, Nat.zero_add, if_true, if_false, false_and, and_false, fM hsh, fE2 hT, ia338 hsh, fr346 hsh, c1, rb.1, c2, ct197 hsh h808 hr (show j < 6 by omega), c3, b01, t5]
          refine nx _ _ ⟨rfl, ?_⟩
          have : knb (vδ V) (vσ V) b1 j = false := by simp [knb, c2]
          simp [tb, this]
      | false =>
        simp +decide (disch := omega) only [↓wm1, wb257_42 hc, wb257_51 hc, wb257_72 hc, wb257_73 hc, w0, w1, rI_wI, rP_wI, rL_wI, rI_wR, rP_wR, is_wI, is_wR, ia_wI, ia_wR, ow_wI, ow_wR, wn_add, wn_mul, wn_cl, wn_le, wn_lt, wn_inj, wn_ne1, wn_1ne, wn_gt1, wn_le1, nb0, nb1, am_kt, am_rt, List.cons_append, List.nil_append, true_and, and_true, not_true_eq_false, not_false_eq_true, imp_f, imp_t, implies_true, Nat.zero_add, if_true, if_false, false_and, and_false, fM hsh, fE2 hT, ia338 hsh, c1, ct197 hsh h808 hr (show j < 6 by omega), c3, b01, t5, Bool.false_eq_true]
        refine nx _ _ ⟨rfl, ?_⟩
        have : knb (vδ V) (vσ V) b1 j = false := by simp [knb, c3]
        simp [tb, this]
    · rintro _ _ ⟨rfl, rfl⟩
      rw [wb257_32 hc]
      simp +decide (disch := omega) only [↓wm1, wb257_81 hc, w0, w1, rI_wI, rP_wI, rL_wI, rI_wR, rP_wR, is_wI, is_wR, ia_wI, ia_wR, ow_wI, ow_wR, wn_add, wn_mul, wn_cl, wn_le, wn_lt, wn_inj, wn_ne1, wn_1ne, wn_gt1, wn_le1, nb0, nb1, am_kt, am_rt, List.cons_append, List.nil_append, true_and, and_true, not_true_eq_false, not_false_eq_true, imp_f, imp_t, implies_true, Nat.zero_add, if_true, if_false, false_and, and_false, fM hsh, fE2 hT, ia338 hsh, Nat.le_refl]
      rw [← hP]; exact OR_ok hR k0 e0
  · rw [if_neg (vin2_nf hx1)]
    generalize hP : OR G (rfV V (.inr 1)) 1 (.inr 1) = P
    simp +decide (disch := omega) only [↓wm1, wb257_0 hc, wb257_10 hc, wb257_13 hc, wb257_17 hc, wb257_18 hc, wb257_23 hc, wb257_26 hc, wb257_28 hc, wb257_42 hc, wb257_51 hc, wb257_54 hc, wb257_66 hc, wb257_72 hc, wb257_73 hc, wb257_81 hc, w0, w1, rI_wI, rP_wI, rL_wI, rI_wR, rP_wR, is_wI, is_wR, ia_wI, ia_wR, ow_wI, ow_wR, wn_add, wn_mul, wn_cl, wn_le, wn_lt, wn_inj, wn_ne1, wn_1ne, wn_gt1, wn_le1, nb0, nb1, am_kt, am_rt, List.cons_append, List.nil_append, true_and, and_true, not_true_eq_false, not_false_eq_true, imp_f, imp_t, implies_true, Nat.zero_add, if_true, if_false, false_and, and_false, fM hsh, fE2 hT, ia338 hsh, e6, b01, if_true, Bool.false_eq_true, ct214 hsh hT, ct215 hsh hT, ct220, ct153c, ct153v, ct152n hsh e0, vin2_f hx1, ct152y (c := 1) (r := 1) (by decide) (by decide) (by decide) hsh e0]
    rw [← hP]; exact OR_8 hR k0
def sp_loudest (V : Vt) (x1 : Int32) : Res := if vin2 x1 0 (2) = true then .inl (q_loud V (u x1)) else .inr 1
theorem cl_loudest (hR : RepC G V) (hB : am_rm G 1 6) (x1 : Int32) : am_C am_T (d + 12) 130 [.ref 0, .int x1] G (OC G (rfV V (sp_loudest V x1)) (sp_loudest V x1)) := by
  have hc := am_C_one am_T (d + 11)
  have hsh := hR.1
  have hv := hR.2.1
  obtain ⟨q, l, hT, -, -⟩ := hR.2.2.2.1
  have hr := hR.2.2.2.2.1.1
  have vd := hv.2.2.2.1
  have bB := vd.1
  have bH := vd.2.1
  have bD := vd.2.2.1
  have hs9 := hv.2.2.2.2.2.1
  have hvs := hs9.1
  have hg := hvs.g6 bB
  have ht := hvs.t6 bB
  have hm := hvs.2.2.2.2.2.1
  have h9 := hs9.2
  have p6 : 2 ^ dB (vδ V) ≤ 64 := Nat.pow_le_pow_right (n := 2) (by decide) bB
  have e6 := bs1 (dB (vδ V)) (by omega)
  unfold sp_loudest
  rw [we130]
  rcases vin2_or x1 0 (2) (by omega) (by omega) with ⟨b1, hl1, hh1, rfl⟩ | hx1
  · rw [if_pos (vin2_t hl1 hh1 (by omega))]
    have na1 : ¬ b1 < 0 := by omega
    have nb1 : ¬ 2 ≤ b1 := by omega
    have nc1 : ¬ 1 < b1 := by omega
    simp only [u_wn (show b1 < 2147483648 by omega)]
    generalize hP : OC G (rfV V (.inl (q_loud V b1))) (.inl (q_loud V b1)) = P
    simp +decide (disch := omega) only [↓wm1, wb130_0 hc, wb130_5 hc, wb130_10 hc, wb130_14 hc, wb130_15 hc, wb130_18 hc, wb130_40 hc, wb130_52 hc, wb130_60 hc, wb130_66 hc, wb130_72 hc, wb130_76 hc, wb130_81 hc, wb130_85 hc, wb130_86 hc, w0, w1, rI_wI, rP_wI, rL_wI, rI_wR, rP_wR, is_wI, is_wR, ia_wI, ia_wR, ow_wI, ow_wR, wn_add, wn_mul, wn_cl, wn_le, wn_lt, wn_inj, wn_ne1, wn_1ne, wn_gt1, wn_le1, nb0, nb1, am_kt, am_rt, List.cons_append, List.nil_append, true_and, and_true, not_true_eq_false, not_false_eq_true, imp_f, imp_t, implies_true, Nat.zero_add, if_true, if_false, false_and, and_false, cn130, fC hsh, fW2 hsh hT, fD hsh hT.2.2.1, e6, na1, nb1, hh1, nc1, ct139y (v := 1) (by decide) (by decide)]
    refine am_for (dH (vδ V)) (fun j ls G2 => G2 = G ∧ ls = [some (.ref 0), some (.int (wn b1)), some (.int (mf (tIn (vσ V)) j).1), some (.int (wn (mf (tIn (vσ V)) j).2)), some (.int (wn j)), none]) ?_ ?_ (dH (vδ V)) 0 (by omega) _ _ ⟨rfl, rfl⟩
    · rintro j hj _ _ ⟨rfl, rfl⟩ nx
      have c1 : ¬ dH (vδ V) ≤ j := by omega
      have m1 := tIn_le hm j
      have m2 := mf_le2 (f := tIn (vσ V)) (c := 9990) (fun h => tIn_le hm h) j
      rw [wb130_25 hc]
      by_cases c2 : tIn (vσ V) j ≤ (mf (tIn (vσ V)) j).2
      · simp +decide (disch := omega) only [↓wm1, wb130_40 hc, wb130_52 hc, wb130_66 hc, w0, w1, rI_wI, rP_wI, rL_wI, rI_wR, rP_wR, is_wI, is_wR, ia_wI, ia_wR, ow_wI, ow_wR, wn_add, wn_mul, wn_cl, wn_le, wn_lt, wn_inj, wn_ne1, wn_1ne, wn_gt1, wn_le1, nb0, nb1, am_kt, am_rt, List.cons_append, List.nil_append, true_and, and_true, not_true_eq_false, not_false_eq_true, imp_f, imp_t, implies_true, Nat.zero_add, if_true, if_false, false_and, and_false, cn130, fC hsh, fW2 hsh hT, fD hsh hT.2.2.1, fS hsh h32, c1, ct57i hsh h32 hr (show j < 7 by omega), c2]
        refine nx _ _ ⟨rfl, ?_⟩
        simp only [mf]
        rw [if_neg (by omega)]
      · simp +decide (disch := omega) only [↓wm1, wb130_40 hc, wb130_52 hc, wb130_60 hc, wb130_66 hc, w0, w1, rI_wI, rP_wI, rL_wI, rI_wR, rP_wR, is_wI, is_wR, ia_wI, ia_wR, ow_wI, ow_wR, wn_add, wn_mul, wn_cl, wn_le, wn_lt, wn_inj, wn_ne1, wn_1ne, wn_gt1, wn_le1, nb0, nb1, am_kt, am_rt, List.cons_append, List.nil_append, true_and, and_true, not_true_eq_false, not_false_eq_true, imp_f, imp_t, implies_true, Nat.zero_add, if_true, if_false, false_and, and_false, cn130, fC hsh, fW2 hsh hT, fD hsh hT.2.2.1, fS hsh h32, c1, ct57i hsh h32 hr (show j < 7 by omega), c2]
        refine nx _ _ ⟨rfl, ?_⟩
        simp only [mf]
        rw [if_pos (by omega)]
    · rintro _ _ ⟨rfl, rfl⟩
      have m2 := mf_le2 (f := tIn (vσ V)) (c := 9990) (fun h => tIn_le hm h) (dH (vδ V))
      rw [wb130_25 hc]
      unfold q_loud at hP
      by_cases z0 : b1 = 0
      · rw [if_pos z0] at hP
        simp +decide (disch := omega) only [↓wm1, wb130_72 hc, wb130_81 hc, wb130_86 hc, w0, w1, rI_wI, rP_wI, rL_wI, rI_wR, rP_wR, is_wI, is_wR, ia_wI, ia_wR, ow_wI, ow_wR, wn_add, wn_mul, wn_cl, wn_le, wn_lt, wn_inj, wn_ne1, wn_1ne, wn_gt1, wn_le1, nb0, nb1, am_kt, am_rt, List.cons_append, List.nil_append, true_and, and_true, not_true_eq_false, not_false_eq_true, imp_f, imp_t, implies_true, Nat.zero_add, if_true, if_false, false_and, and_false, cn130, fC hsh, fW2 hsh hT, fD hsh hT.2.2.1, fS hsh h32, Nat.le_refl, z0]
        rw [← hP]; exact OC_ok hR (Kp.refl _)
      · rw [if_neg z0] at hP
        by_cases z1 : (mf (tIn (vσ V)) (dH (vδ V))).1 = mm
        · rw [if_pos z1] at hP
          simp +decide (disch := omega) only [↓wm1, wb130_72 hc, wb130_76 hc, wb130_81 hc, wb130_86 hc, w0, w1, rI_wI, rP_wI, rL_wI, rI_wR, rP_wR, is_wI, is_wR, ia_wI, ia_wR, ow_wI, ow_wR, wn_add, wn_mul, wn_cl, wn_le, wn_lt, wn_inj, wn_ne1, wn_1ne, wn_gt1, wn_le1, nb0, nb1, am_kt, am_rt, List.cons_append, List.nil_append, true_and, and_true, not_true_eq_false, not_false_eq_true, imp_f, imp_t, implies_true, Nat.zero_add, if_true, if_false, false_and, and_false, cn130, fC hsh, fW2 hsh hT, fD hsh hT.2.2.1, fS hsh h32, Nat.le_refl, z0, z1]
          rw [← hP]; exact OC_ok hR (Kp.refl _)
        · rw [if_neg z1] at hP
          simp +decide (disch := omega) only [↓wm1, wb130_72 hc, wb130_76 hc, wb130_85 hc, wb130_86 hc, w0, w1, rI_wI, rP_wI, rL_wI, rI_wR, rP_wR, is_wI, is_wR, ia_wI, ia_wR, ow_wI, ow_wR, wn_add, wn_mul, wn_cl, wn_le, wn_lt, wn_inj, wn_ne1, wn_1ne, wn_gt1, wn_le1, nb0, nb1, am_kt, am_rt, List.cons_append, List.nil_append, true_and, and_true, not_true_eq_false, not_false_eq_true, imp_f, imp_t, implies_true, Nat.zero_add, if_true, if_false, false_and, and_false, cn130, fC hsh, fW2 hsh hT, fD hsh hT.2.2.1, fS hsh h32, Nat.le_refl, z0, z1]
          rw [← hP]; exact OC_ok hR (Kp.refl _)
  · rw [if_neg (vin2_nf hx1)]
    generalize hP : OC G (rfV V (.inr 1)) (.inr 1) = P
    by_cases hxa : x1 < wn 0
    · simp +decide (disch := omega) only [↓wm1, wb130_0 hc, wb130_5 hc, wb130_10 hc, wb130_14 hc, wb130_15 hc, wb130_18 hc, wb130_40 hc, wb130_52 hc, wb130_60 hc, wb130_66 hc, wb130_72 hc, wb130_76 hc, wb130_81 hc, wb130_85 hc, wb130_86 hc, w0, w1, rI_wI, rP_wI, rL_wI, rI_wR, rP_wR, is_wI, is_wR, ia_wI, ia_wR, ow_wI, ow_wR, wn_add, wn_mul, wn_cl, wn_le, wn_lt, wn_inj, wn_ne1, wn_1ne, wn_gt1, wn_le1, nb0, nb1, am_kt, am_rt, List.cons_append, List.nil_append, true_and, and_true, not_true_eq_false, not_false_eq_true, imp_f, imp_t, implies_true, Nat.zero_add, if_true, if_false, false_and, and_false, cn130, fC hsh, fW2 hsh hT, fD hsh hT.2.2.1, e6, hxa, ct139n hsh hB]
      rw [← hP]; exact OC_8 hR hB
    · have hxb : ¬ x1 < wn (2) := by rcases hx1 with z | z; exact absurd z hxa; exact z
      have hxc : wn (2) ≤ x1 := Int32.not_lt.mp hxb
      have hxd : wn 1 < x1 := out3 (by decide) hxb
      simp +decide (disch := omega) only [↓wm1, wb130_0 hc, wb130_5 hc, wb130_10 hc, wb130_14 hc, wb130_15 hc, wb130_18 hc, wb130_40 hc, wb130_52 hc, wb130_60 hc, wb130_66 hc, wb130_72 hc, wb130_76 hc, wb130_81 hc, wb130_85 hc, wb130_86 hc, w0, w1, rI_wI, rP_wI, rL_wI, rI_wR, rP_wR, is_wI, is_wR, ia_wI, ia_wR, ow_wI, ow_wR, wn_add, wn_mul, wn_cl, wn_le, wn_lt, wn_inj, wn_ne1, wn_1ne, wn_gt1, wn_le1, nb0, nb1, am_kt, am_rt, List.cons_append, List.nil_append, true_and, and_true, not_true_eq_false, not_false_eq_true, imp_f, imp_t, implies_true, Nat.zero_add, if_true, if_false, false_and, and_false, cn130, fC hsh, fW2 hsh hT, fD hsh hT.2.2.1, e6, hxa, hxb, hxc, hxd, ct139n hsh hB]
      rw [← hP]; exact OC_8 hR hB
theorem rf_loudest (hR : RepR G V) (x1 : Int32) : am_C am_T (d + 12) 255 [.ref 334, .int x1] G (OR G (rfV V (sp_loudest V x1)) 1 (sp_loudest V x1)) := by
  have hc := am_C_one am_T (d + 11)
  have k0 : Kp QSR G (am_wI G 334 0 (wn 0)) := (Kp.refl G).wI (Or.inl ⟨rfl, Or.inl rfl⟩) _
  have e0 : am_gI (am_wI G 334 0 (wn 0)) 334 0 = wn 0 := by rw [rI_wI, if_pos ⟨rfl, rfl⟩]
  have hR0 := hR.q k0
  have hshG := hR.1
  unfold sp_loudest
  rw [we255]
  generalize hOR : OR G = OG
  simp +decide (disch := omega) only [↓wm1, wb255_0 hc, w0, w1, rI_wI, rP_wI, rL_wI, rI_wR, rP_wR, is_wI, is_wR, ia_wI, ia_wR, ow_wI, ow_wR, wn_add, wn_mul, wn_cl, wn_le, wn_lt, wn_inj, wn_ne1, wn_1ne, wn_gt1, wn_le1, nb0, nb1, am_kt, am_rt, List.cons_append, List.nil_append, true_and, and_true, not_true_eq_false, not_false_eq_true, imp_f, imp_t, implies_true, Nat.zero_add, if_true, if_false, false_and, and_false, fM hshG, fE2 hR.2.2.2.1, ia338 hshG]
  generalize am_wI G 334 0 (wn 0) = G0 at k0 e0 hR0 ⊢
  subst hOR
  have hsh := hR0.1
  have hv := hR0.2.1
  have hT := hR0.2.2.2.1
  have hr := hR0.2.2.2.2.1.1
  have vd := hv.2.2.2.1
  have bB := vd.1
  have bH := vd.2.1
  have bD := vd.2.2.1
  have hs9 := hv.2.2.2.2.2.1
  have hvs := hs9.1
  have hg := hvs.g6 bB
  have ht := hvs.t6 bB
  have hm := hvs.2.2.2.2.2.1
  have h9 := hs9.2
  have p6 : 2 ^ dB (vδ V) ≤ 64 := Nat.pow_le_pow_right (n := 2) (by decide) bB
  have e6 := bs1 (dB (vδ V)) (by omega)
  rcases vin2_or x1 0 (2) (by omega) (by omega) with ⟨b1, hl1, hh1, rfl⟩ | hx1
  · rw [if_pos (vin2_t hl1 hh1 (by omega))]
    simp only [u_wn (show b1 < 2147483648 by omega)]
    generalize hP : OR G (rfV V (.inl (q_loud V b1))) 1 (.inl (q_loud V b1)) = P
    simp +decide (disch := omega) only [↓wm1, wb255_0 hc, wb255_12 hc, wb255_15 hc, wb255_19 hc, wb255_20 hc, wb255_25 hc, wb255_28 hc, wb255_30 hc, wb255_48 hc, wb255_58 hc, wb255_62 hc, wb255_65 hc, wb255_78 hc, wb255_79 hc, wb255_85 hc, wb255_89 hc, wb255_94 hc, wb255_98 hc, wb255_99 hc, w0, w1, rI_wI, rP_wI, rL_wI, rI_wR, rP_wR, is_wI, is_wR, ia_wI, ia_wR, ow_wI, ow_wR, wn_add, wn_mul, wn_cl, wn_le, wn_lt, wn_inj, wn_ne1, wn_1ne, wn_gt1, wn_le1, nb0, nb1, am_kt, am_rt, List.cons_append, List.nil_append, true_and, and_true, not_true_eq_false, not_false_eq_true, imp_f, imp_t, implies_true, Nat.zero_add, if_true, if_false, false_and, and_false, fM hsh, fE2 hT, ia338 hsh, e6, b01, if_true, Bool.false_eq_true, ct214 hsh hT, ct215 hsh hT, ct220, ct153c, ct153v, ct152n hsh e0, vin2_t hl1 hh1 (by omega)]
    refine am_for (dH (vδ V)) (fun j ls G2 => G2 = G0 ∧ ls = [some (.ref 334), some (.int (wn b1)), some (.int (mf (tIn (vσ V)) j).1), some (.int (wn (mf (tIn (vσ V)) j).2)), some (.int (wn j))]) ?_ ?_ (dH (vδ V)) 0 (by omega) _ _ ⟨rfl, rfl⟩
    · rintro j hj _ _ ⟨rfl, rfl⟩ nx
      have c1 : ¬ dH (vδ V) ≤ j := by omega
      have m1 := tIn_le hm j
      have m2 := mf_le2 (f := tIn (vσ V)) (c := 9990) (fun h => tIn_le hm h) j
      rw [wb255_37 hc]
      by_cases c2 : (mf (tIn (vσ V)) j).2 < tIn (vσ V) j
      · simp +decide (disch := omega) only [↓wm1, wb255_48 hc, wb255_58 hc, wb255_65 hc, wb255_78 hc, wb255_79 hc, w0, w1, rI_wI, rP_wI, rL_wI, rI_wR, rP_wR, is_wI, is_wR, ia_wI, ia_wR, ow_wI, ow_wR, wn_add, wn_mul, wn_cl, wn_le, wn_lt, wn_inj, wn_ne1, wn_1ne, wn_gt1, wn_le1, nb0, nb1, am_kt, am_rt, List.cons_append, List.nil_append, true_and, and_true, not_true_eq_false, not_false_eq_true, imp_f, imp_t, implies_true, Nat.zero_add, if_true, if_false, false_and, and_false, fM hsh, fE2 hT, ia338 hsh, c1, ct207 hsh h808 hr (show j < 7 by omega), c2]
        refine nx _ _ ⟨rfl, ?_⟩
        simp only [mf]
        rw [if_pos (by omega)]
      · simp +decide (disch := omega) only [↓wm1, wb255_48 hc, wb255_58 hc, wb255_62 hc, wb255_79 hc, w0, w1, rI_wI, rP_wI, rL_wI, rI_wR, rP_wR, is_wI, is_wR, ia_wI, ia_wR, ow_wI, ow_wR, wn_add, wn_mul, wn_cl, wn_le, wn_lt, wn_inj, wn_ne1, wn_1ne, wn_gt1, wn_le1, nb0, nb1, am_kt, am_rt, List.cons_append, List.nil_append, true_and, and_true, not_true_eq_false, not_false_eq_true, imp_f, imp_t, implies_true, Nat.zero_add, if_true, if_false, false_and, and_false, fM hsh, fE2 hT, ia338 hsh, c1, ct207 hsh h808 hr (show j < 7 by omega), c2]
        refine nx _ _ ⟨rfl, ?_⟩
        simp only [mf]
        rw [if_neg (by omega)]
    · rintro _ _ ⟨rfl, rfl⟩
      have m2 := mf_le2 (f := tIn (vσ V)) (c := 9990) (fun h => tIn_le hm h) (dH (vδ V))
      rw [wb255_37 hc]
      unfold q_loud at hP
      by_cases z0 : b1 = 0
      · rw [if_pos z0] at hP
        simp +decide (disch := omega) only [↓wm1, wb255_85 hc, wb255_94 hc, wb255_99 hc, w0, w1, rI_wI, rP_wI, rL_wI, rI_wR, rP_wR, is_wI, is_wR, ia_wI, ia_wR, ow_wI, ow_wR, wn_add, wn_mul, wn_cl, wn_le, wn_lt, wn_inj, wn_ne1, wn_1ne, wn_gt1, wn_le1, nb0, nb1, am_kt, am_rt, List.cons_append, List.nil_append, true_and, and_true, not_true_eq_false, not_false_eq_true, imp_f, imp_t, implies_true, Nat.zero_add, if_true, if_false, false_and, and_false, fM hsh, fE2 hT, ia338 hsh, Nat.le_refl, z0]
        rw [← hP]; exact OR_ok hR k0 e0
      · rw [if_neg z0] at hP
        by_cases z1 : (mf (tIn (vσ V)) (dH (vδ V))).1 = mm
        · rw [if_pos z1] at hP
          simp +decide (disch := omega) only [↓wm1, wb255_85 hc, wb255_89 hc, wb255_94 hc, wb255_99 hc, w0, w1, rI_wI, rP_wI, rL_wI, rI_wR, rP_wR, is_wI, is_wR, ia_wI, ia_wR, ow_wI, ow_wR, wn_add, wn_mul, wn_cl, wn_le, wn_lt, wn_inj, wn_ne1, wn_1ne, wn_gt1, wn_le1, nb0, nb1, am_kt, am_rt, List.cons_append, List.nil_append, true_and, and_true, not_true_eq_false, not_false_eq_true, imp_f, imp_t, implies_true, Nat.zero_add, if_true, if_false, false_and, and_false, fM hsh, fE2 hT, ia338 hsh, Nat.le_refl, z0, z1]
          rw [← hP]; exact OR_ok hR k0 e0
        · rw [if_neg z1] at hP
          simp +decide (disch := omega) only [↓wm1, wb255_85 hc, wb255_89 hc, wb255_98 hc, wb255_99 hc, w0, w1, rI_wI, rP_wI, rL_wI, rI_wR, rP_wR, is_wI, is_wR, ia_wI, ia_wR, ow_wI, ow_wR, wn_add, wn_mul, wn_cl, wn_le, wn_lt, wn_inj, wn_ne1, wn_1ne, wn_gt1, wn_le1, nb0, nb1, am_kt, am_rt, List.cons_append, List.nil_append, true_and, and_true, not_true_eq_false, not_false_eq_true, imp_f, imp_t, implies_true, Nat.zero_add, if_true, if_false, false_and, and_false, fM hsh, fE2 hT, ia338 hsh, Nat.le_refl, z0, z1]
          rw [← hP]; exact OR_ok hR k0 e0
  · rw [if_neg (vin2_nf hx1)]
    generalize hP : OR G (rfV V (.inr 1)) 1 (.inr 1) = P
    simp +decide (disch := omega) only [↓wm1, wb255_0 hc, wb255_12 hc, wb255_15 hc, wb255_19 hc, wb255_20 hc, wb255_25 hc, wb255_28 hc, wb255_30 hc, wb255_48 hc, wb255_58 hc, wb255_62 hc, wb255_65 hc, wb255_78 hc, wb255_79 hc, wb255_85 hc, wb255_89 hc, wb255_94 hc, wb255_98 hc, wb255_99 hc, w0, w1, rI_wI, rP_wI, rL_wI, rI_wR, rP_wR, is_wI, is_wR, ia_wI, ia_wR, ow_wI, ow_wR, wn_add, wn_mul, wn_cl, wn_le, wn_lt, wn_inj, wn_ne1, wn_1ne, wn_gt1, wn_le1, nb0, nb1, am_kt, am_rt, List.cons_append, List.nil_append, true_and, and_true, not_true_eq_false, not_false_eq_true, imp_f, imp_t, implies_true, Nat.zero_add, if_true, if_false, false_and, and_false, fM hsh, fE2 hT, ia338 hsh, e6, b01, if_true, Bool.false_eq_true, ct214 hsh hT, ct215 hsh hT, ct220, ct153c, ct153v, ct152n hsh e0, vin2_f hx1, ct152y (c := 1) (r := 1) (by decide) (by decide) (by decide) hsh e0]
    rw [← hP]; exact OR_8 hR k0
def sp_rouse (V : Vt) (x1 x2 : Int32) : Res := if vin2 x1 0 (dH (vδ V)) = true then if vin2 x2 0 (1000) = true then .inl (q_rouse V (u x1) (u x2)) else .inr 1 else .inr 0
theorem cl_rouse (hR : RepC G V) (hB : am_rm G 1 6) (x1 x2 : Int32) : am_C am_T (d + 12) 117 [.ref 0, .int x1, .int x2] G (OC G (rfV V (sp_rouse V x1 x2)) (sp_rouse V x1 x2)) := by
  have hc := am_C_one am_T (d + 11)
  have hsh := hR.1
  have hv := hR.2.1
  obtain ⟨q, l, hT, -, -⟩ := hR.2.2.2.1
  have hr := hR.2.2.2.2.1.1
  have vd := hv.2.2.2.1
  have bB := vd.1
  have bH := vd.2.1
  have bD := vd.2.2.1
  have hs9 := hv.2.2.2.2.2.1
  have hvs := hs9.1
  have hg := hvs.g6 bB
  have ht := hvs.t6 bB
  have hm := hvs.2.2.2.2.2.1
  have h9 := hs9.2
  have p6 : 2 ^ dB (vδ V) ≤ 64 := Nat.pow_le_pow_right (n := 2) (by decide) bB
  have e6 := bs1 (dB (vδ V)) (by omega)
  unfold sp_rouse
  rw [we117]
  rcases vin2_or x1 0 (dH (vδ V)) (by omega) (by omega) with ⟨b1, hl1, hh1, rfl⟩ | hx1
  · rw [if_pos (vin2_t hl1 hh1 (by omega))]
    rcases vin2_or x2 0 (1000) (by omega) (by omega) with ⟨b2, hl2, hh2, rfl⟩ | hx2
    · rw [if_pos (vin2_t hl2 hh2 (by omega))]
      have na2 : ¬ b2 < 0 := by omega
      have nb2 : ¬ 1000 ≤ b2 := by omega
      have nc2 : ¬ 999 < b2 := by omega
      simp only [u_wn (show b1 < 2147483648 by omega), u_wn (show b2 < 2147483648 by omega)]
      generalize hP : OC G (rfV V (.inl (q_rouse V b1 b2))) (.inl (q_rouse V b1 b2)) = P
      simp +decide (disch := omega) only [↓wm1, wb117_0 hc, wb117_5 hc, wb117_10 hc, wb117_17 hc, wb117_21 hc, wb117_22 hc, wb117_25 hc, wb117_41 hc, w0, w1, w999, rI_wI, rP_wI, rL_wI, rI_wR, rP_wR, is_wI, is_wR, ia_wI, ia_wR, ow_wI, ow_wR, wn_add, wn_mul, wn_cl, wn_le, wn_lt, wn_inj, wn_ne1, wn_1ne, wn_gt1, wn_le1, nb0, nb1, am_kt, am_rt, List.cons_append, List.nil_append, true_and, and_true, not_true_eq_false, not_false_eq_true, imp_f, imp_t, implies_true, Nat.zero_add, if_true, if_false, false_and, and_false, cn117, fC hsh, fW2 hsh hT, fD hsh hT.2.2.1, e6, ct142y hsh hT hh1, na2, nb2, hh2, nc2, ct139y (v := 1) (by decide) (by decide), fS hsh h32]
      refine ct89 ⟨hsh, hT, hr⟩ hg ht hh2 hh1 (by omega) (fun G1 k1 => ?_)
      simp +decide (disch := omega) only [↓wm1, wb117_41 hc, w0, w1, w999, rI_wI, rP_wI, rL_wI, rI_wR, rP_wR, is_wI, is_wR, ia_wI, ia_wR, ow_wI, ow_wR, wn_add, wn_mul, wn_cl, wn_le, wn_lt, wn_inj, wn_ne1, wn_1ne, wn_gt1, wn_le1, nb0, nb1, am_kt, am_rt, List.cons_append, List.nil_append, true_and, and_true, not_true_eq_false, not_false_eq_true, imp_f, imp_t, implies_true, Nat.zero_add, if_true, if_false, false_and, and_false, cn117]
      rw [← hP]; exact OC_ok hR (HS_q k1)
    · rw [if_neg (vin2_nf hx2)]
      generalize hP : OC G (rfV V (.inr 1)) (.inr 1) = P
      by_cases hxa : x2 < wn 0
      · simp +decide (disch := omega) only [↓wm1, wb117_0 hc, wb117_5 hc, wb117_10 hc, wb117_17 hc, wb117_21 hc, wb117_22 hc, wb117_25 hc, wb117_41 hc, w0, w1, w999, rI_wI, rP_wI, rL_wI, rI_wR, rP_wR, is_wI, is_wR, ia_wI, ia_wR, ow_wI, ow_wR, wn_add, wn_mul, wn_cl, wn_le, wn_lt, wn_inj, wn_ne1, wn_1ne, wn_gt1, wn_le1, nb0, nb1, am_kt, am_rt, List.cons_append, List.nil_append, true_and, and_true, not_true_eq_false, not_false_eq_true, imp_f, imp_t, implies_true, Nat.zero_add, if_true, if_false, false_and, and_false, cn117, fC hsh, fW2 hsh hT, fD hsh hT.2.2.1, e6, ct142y hsh hT hh1, hxa, ct139n hsh hB]
        rw [← hP]; exact OC_8 hR hB
      · have hxb : ¬ x2 < wn (1000) := by rcases hx2 with z | z; exact absurd z hxa; exact z
        have hxc : wn (1000) ≤ x2 := Int32.not_lt.mp hxb
        have hxd : wn 999 < x2 := out3 (by decide) hxb
        simp +decide (disch := omega) only [↓wm1, wb117_0 hc, wb117_5 hc, wb117_10 hc, wb117_17 hc, wb117_21 hc, wb117_22 hc, wb117_25 hc, wb117_41 hc, w0, w1, w999, rI_wI, rP_wI, rL_wI, rI_wR, rP_wR, is_wI, is_wR, ia_wI, ia_wR, ow_wI, ow_wR, wn_add, wn_mul, wn_cl, wn_le, wn_lt, wn_inj, wn_ne1, wn_1ne, wn_gt1, wn_le1, nb0, nb1, am_kt, am_rt, List.cons_append, List.nil_append, true_and, and_true, not_true_eq_false, not_false_eq_true, imp_f, imp_t, implies_true, Nat.zero_add, if_true, if_false, false_and, and_false, cn117, fC hsh, fW2 hsh hT, fD hsh hT.2.2.1, e6, ct142y hsh hT hh1, hxa, hxb, hxc, hxd, ct139n hsh hB]
        rw [← hP]; exact OC_8 hR hB
  · rw [if_neg (vin2_nf hx1)]
    generalize hP : OC G (rfV V (.inr 0)) (.inr 0) = P
    simp +decide (disch := omega) only [↓wm1, wb117_0 hc, wb117_5 hc, wb117_10 hc, wb117_17 hc, wb117_21 hc, wb117_22 hc, wb117_25 hc, wb117_41 hc, w0, w1, w999, rI_wI, rP_wI, rL_wI, rI_wR, rP_wR, is_wI, is_wR, ia_wI, ia_wR, ow_wI, ow_wR, wn_add, wn_mul, wn_cl, wn_le, wn_lt, wn_inj, wn_ne1, wn_1ne, wn_gt1, wn_le1, nb0, nb1, am_kt, am_rt, List.cons_append, List.nil_append, true_and, and_true, not_true_eq_false, not_false_eq_true, imp_f, imp_t, implies_true, Nat.zero_add, if_true, if_false, false_and, and_false, cn117, fC hsh, fW2 hsh hT, fD hsh hT.2.2.1, e6, ct142n hx1 hsh hT hB]
    rw [← hP]; exact OC_7 hR hB
theorem rf_rouse (hR : RepR G V) (x1 x2 : Int32) : am_C am_T (d + 12) 226 [.ref 334, .int x1, .int x2] G (OR G (rfV V (sp_rouse V x1 x2)) 2 (sp_rouse V x1 x2)) := by
  have hc := am_C_one am_T (d + 11)
  have k0 : Kp QSR G (am_wI G 334 0 (wn 0)) := (Kp.refl G).wI (Or.inl ⟨rfl, Or.inl rfl⟩) _
  have e0 : am_gI (am_wI G 334 0 (wn 0)) 334 0 = wn 0 := by rw [rI_wI, if_pos ⟨rfl, rfl⟩]
  have hR0 := hR.q k0
  have hshG := hR.1
  unfold sp_rouse
  rw [we226]
  generalize hOR : OR G = OG
  simp +decide (disch := omega) only [↓wm1, wb226_0 hc, w0, w1, w2, w999, rI_wI, rP_wI, rL_wI, rI_wR, rP_wR, is_wI, is_wR, ia_wI, ia_wR, ow_wI, ow_wR, wn_add, wn_mul, wn_cl, wn_le, wn_lt, wn_inj, wn_ne1, wn_1ne, wn_gt1, wn_le1, nb0, nb1, am_kt, am_rt, List.cons_append, List.nil_append, true_and, and_true, not_true_eq_false, not_false_eq_true, imp_f, imp_t, implies_true, Nat.zero_add, if_true, if_false, false_and, and_false, fM hshG, fE2 hR.2.2.2.1, ia338 hshG]
  generalize am_wI G 334 0 (wn 0) = G0 at k0 e0 hR0 ⊢
  subst hOR
  have hsh := hR0.1
  have hv := hR0.2.1
  have hT := hR0.2.2.2.1
  have hr := hR0.2.2.2.2.1.1
  have vd := hv.2.2.2.1
  have bB := vd.1
  have bH := vd.2.1
  have bD := vd.2.2.1
  have hs9 := hv.2.2.2.2.2.1
  have hvs := hs9.1
  have hg := hvs.g6 bB
  have ht := hvs.t6 bB
  have hm := hvs.2.2.2.2.2.1
  have h9 := hs9.2
  have p6 : 2 ^ dB (vδ V) ≤ 64 := Nat.pow_le_pow_right (n := 2) (by decide) bB
  have e6 := bs1 (dB (vδ V)) (by omega)
  rcases vin2_or x1 0 (dH (vδ V)) (by omega) (by omega) with ⟨b1, hl1, hh1, rfl⟩ | hx1
  · rw [if_pos (vin2_t hl1 hh1 (by omega))]
    rcases vin2_or x2 0 (1000) (by omega) (by omega) with ⟨b2, hl2, hh2, rfl⟩ | hx2
    · rw [if_pos (vin2_t hl2 hh2 (by omega))]
      simp only [u_wn (show b1 < 2147483648 by omega), u_wn (show b2 < 2147483648 by omega)]
      generalize hP : OR G (rfV V (.inl (q_rouse V b1 b2))) 2 (.inl (q_rouse V b1 b2)) = P
      simp +decide (disch := omega) only [↓wm1, wb226_0 hc, wb226_11 hc, wb226_14 hc, wb226_18 hc, wb226_19 hc, wb226_24 hc, wb226_27 hc, wb226_36 hc, wb226_39 hc, wb226_43 hc, wb226_44 hc, wb226_49 hc, wb226_52 hc, wb226_54 hc, wb226_64 hc, wb226_83 hc, wb226_93 hc, wb226_96 hc, wb226_113 hc, wb226_122 hc, wb226_125 hc, wb226_136 hc, wb226_139 hc, wb226_140 hc, wb226_149 hc, wb226_155 hc, wb226_160 hc, wb226_165 hc, wb226_169 hc, wb226_172 hc, wb226_177 hc, wb226_178 hc, wb226_179 hc, wb226_185 hc, w0, w1, w2, w999, rI_wI, rP_wI, rL_wI, rI_wR, rP_wR, is_wI, is_wR, ia_wI, ia_wR, ow_wI, ow_wR, wn_add, wn_mul, wn_cl, wn_le, wn_lt, wn_inj, wn_ne1, wn_1ne, wn_gt1, wn_le1, nb0, nb1, am_kt, am_rt, List.cons_append, List.nil_append, true_and, and_true, not_true_eq_false, not_false_eq_true, imp_f, imp_t, implies_true, Nat.zero_add, if_true, if_false, false_and, and_false, fM hsh, fE2 hT, ia338 hsh, e6, b01, if_true, Bool.false_eq_true, ct214 hsh hT, ct215 hsh hT, ct220, ct153c, ct153v, ct152n hsh e0, vin2_t hl1 hh1 (by omega), vin2_t hl2 hh2 (by omega), ct198 hsh hT h808 hr]
      refine ct226_l (d := d + 4) ⟨hsh, hT, hr⟩ hh2 hh1 (by omega) (fun G1 k1 => ?_)
      rw [ra_rd]
      rw [← hP]; exact OR_ok hR (k0.trans (HM_q k1)) (k1.thr (by unfold HM; omega) e0)
    · rw [if_neg (vin2_nf hx2)]
      generalize hP : OR G (rfV V (.inr 1)) 2 (.inr 1) = P
      simp +decide (disch := omega) only [↓wm1, wb226_0 hc, wb226_11 hc, wb226_14 hc, wb226_18 hc, wb226_19 hc, wb226_24 hc, wb226_27 hc, wb226_36 hc, wb226_39 hc, wb226_43 hc, wb226_44 hc, wb226_49 hc, wb226_52 hc, wb226_54 hc, wb226_64 hc, wb226_83 hc, wb226_93 hc, wb226_96 hc, wb226_113 hc, wb226_122 hc, wb226_125 hc, wb226_136 hc, wb226_139 hc, wb226_140 hc, wb226_149 hc, wb226_155 hc, wb226_160 hc, wb226_165 hc, wb226_169 hc, wb226_172 hc, wb226_177 hc, wb226_178 hc, wb226_179 hc, wb226_185 hc, w0, w1, w2, w999, rI_wI, rP_wI, rL_wI, rI_wR, rP_wR, is_wI, is_wR, ia_wI, ia_wR, ow_wI, ow_wR, wn_add, wn_mul, wn_cl, wn_le, wn_lt, wn_inj, wn_ne1, wn_1ne, wn_gt1, wn_le1, nb0, nb1, am_kt, am_rt, List.cons_append, List.nil_append, true_and, and_true, not_true_eq_false, not_false_eq_true, imp_f, imp_t, implies_true, Nat.zero_add, if_true, if_false, false_and, and_false, fM hsh, fE2 hT, ia338 hsh, e6, b01, if_true, Bool.false_eq_true, ct214 hsh hT, ct215 hsh hT, ct220, ct153c, ct153v, ct152n hsh e0, vin2_t hl1 hh1 (by omega), vin2_f hx2, ct152y (c := 2) (r := 1) (by decide) (by decide) (by decide) hsh e0]
      rw [← hP]; exact OR_8 hR k0
  · rw [if_neg (vin2_nf hx1)]
    generalize hP : OR G (rfV V (.inr 0)) 2 (.inr 0) = P
    simp +decide (disch := omega) only [↓wm1, wb226_0 hc, wb226_11 hc, wb226_14 hc, wb226_18 hc, wb226_19 hc, wb226_24 hc, wb226_27 hc, wb226_36 hc, wb226_39 hc, wb226_43 hc, wb226_44 hc, wb226_49 hc, wb226_52 hc, wb226_54 hc, wb226_64 hc, wb226_83 hc, wb226_93 hc, wb226_96 hc, wb226_113 hc, wb226_122 hc, wb226_125 hc, wb226_136 hc, wb226_139 hc, wb226_140 hc, wb226_149 hc, wb226_155 hc, wb226_160 hc, wb226_165 hc, wb226_169 hc, wb226_172 hc, wb226_177 hc, wb226_178 hc, wb226_179 hc, wb226_185 hc, w0, w1, w2, w999, rI_wI, rP_wI, rL_wI, rI_wR, rP_wR, is_wI, is_wR, ia_wI, ia_wR, ow_wI, ow_wR, wn_add, wn_mul, wn_cl, wn_le, wn_lt, wn_inj, wn_ne1, wn_1ne, wn_gt1, wn_le1, nb0, nb1, am_kt, am_rt, List.cons_append, List.nil_append, true_and, and_true, not_true_eq_false, not_false_eq_true, imp_f, imp_t, implies_true, Nat.zero_add, if_true, if_false, false_and, and_false, fM hsh, fE2 hT, ia338 hsh, e6, b01, if_true, Bool.false_eq_true, ct214 hsh hT, ct215 hsh hT, ct220, ct153c, ct153v, ct152n hsh e0, vin2_f hx1, ct152y (c := 1) (r := 0) (by decide) (by decide) (by decide) hsh e0]
    rw [← hP]; exact OR_7 hR k0
end
