/-! Words on the object's tape: the texts of words, which word stands there. -/
/-- a text of words, at A, its bytes behind -/
def Wt (G : am_G) (A N : Nat) (c : Nat → Nat) : Prop := am_os A ∧ am_al G (A + 5) ∧ am_ln G (A + 5) = N ∧ N ≤ 60 ∧ (∀ i, i < N → am_gI G (A + 5) i = wn (c i) ∧ c i < 128 ∧ am_ba G (A + 5) (wn i)) ∧ 839 ≤ A
theorem Wt.kp {Sc : Nat → Nat → Prop} {G G' : am_G} {A N : Nat} {c : Nat → Nat} (h : Wt G A N c) (k : Kp Sc G G') (hn : ∀ a i, Sc a i → a < 839) : Wt G' A N c := by
  obtain ⟨h1, h2, h3, h4, h5, h6⟩ := h
  have eK : am_K G' = am_K G := k.1
  have eS : am_sl G' = am_sl G := k.2.2.1
  refine ⟨h1, ?_, ?_, h4, fun i hi => ?_, h6⟩
  · unfold am_al at h2 ⊢
    rw [eK]; exact h2
  · unfold am_ln at h3 ⊢
    rw [eK, eS]; exact h3
  · obtain ⟨q1, q2, q3⟩ := h5 i hi
    refine ⟨by rw [k.i (fun z => by have := hn _ _ z; omega)]; exact q1, q2, ?_⟩
    unfold am_ba am_ow at q3 ⊢
    rw [eK, eS]; exact q3
theorem shr0 : ∀ N, N < 128 → wn N >>> (wn 0 &&& 31) = wn N := by decide +kernel
theorem chr_ok : ∀ c, c < 128 → UInt32.toInt32 (Int32.toUInt32 (wn c &&& wn 255) % 65536) = wn c := by decide +kernel
theorem nb6c : ∀ c, c < 128 → (wn c).toUInt32.toUInt16.toUInt32.toInt32 = wn c := by decide +kernel
theorem nb6 {c : Nat} (h : c < 128) : am_nb 6 (wn c) = True := eq_true (congrArg Value.int (nb6c c h))
theorem nb7 : am_nb 7 (wn 0) = True := eq_true (congrArg Value.int (by decide))
section
variable {G : am_G} {d n p o A N : Nat} {t c : Nat → Nat} {post : am_O → am_G → Prop}
theorem ct275 (h : am_os A) : am_C am_T (d + 1) 275 [.ref A] G post ↔ post (.inl (some (.int (wn 0)))) G := by
  have hc := am_C_one am_T d
  rw [we275]
  simp +decide (disch := omega) only [↓wm1, wb275_0 hc, wb275_6 hc, wb275_13 hc, wb275_14 hc, w0, w1, rI_wI, rP_wI, rL_wI, rI_wR, rP_wR, is_wI, is_wR, ia_wI, ia_wR, ow_wI, ow_wR, wn_add, wn_mul, wn_cl, wn_le, wn_lt, wn_inj, wn_ne1, wn_1ne, wn_gt1, wn_le1, nb0, nb1, am_kt, am_rt, List.cons_append, List.nil_append, true_and, and_true, not_true_eq_false, not_false_eq_true, imp_f, imp_t, implies_true, Nat.zero_add, if_true, if_false, h, nb7]
theorem ct276 (h : am_os A) : am_C am_T (d + 1) 276 [.ref A] G post ↔ post (.inl (some (.int (wn 1)))) G := by
  have hc := am_C_one am_T d
  rw [we276]
  simp +decide (disch := omega) only [↓wm1, wb276_0 hc, wb276_6 hc, wb276_13 hc, wb276_17 hc, wb276_18 hc, w0, w1, rI_wI, rP_wI, rL_wI, rI_wR, rP_wR, is_wI, is_wR, ia_wI, ia_wR, ow_wI, ow_wR, wn_add, wn_mul, wn_cl, wn_le, wn_lt, wn_inj, wn_ne1, wn_1ne, wn_gt1, wn_le1, nb0, nb1, am_kt, am_rt, List.cons_append, List.nil_append, true_and, and_true, not_true_eq_false, not_false_eq_true, imp_f, imp_t, implies_true, Nat.zero_add, if_true, if_false, h]
theorem ct273 (h : Wt G A N c) : am_C am_T (d + 2) 273 [.ref A] G post ↔ post (.inl (some (.int (wn N)))) G := by
  have hc := am_C_one am_T (d + 1)
  obtain ⟨h1, h2, h3, h4, h5, h6⟩ := h
  have e : Int32.ofNat N = wn N := rfl
  rw [we273]
  simp +decide (disch := omega) only [↓wm1, wb273_0 hc, wb273_9 hc, w0, w1, rI_wI, rP_wI, rL_wI, rI_wR, rP_wR, is_wI, is_wR, ia_wI, ia_wR, ow_wI, ow_wR, wn_add, wn_mul, wn_cl, wn_le, wn_lt, wn_inj, wn_ne1, wn_1ne, wn_gt1, wn_le1, nb0, nb1, am_kt, am_rt, List.cons_append, List.nil_append, true_and, and_true, not_true_eq_false, not_false_eq_true, imp_f, imp_t, implies_true, Nat.zero_add, if_true, if_false, h1, h2, h3, ct275 h1, e, shr0]
theorem ct280 {i : Nat} (hi : i < N) (hN : N ≤ 60) (x : Nat) : am_C am_T (d + 1) 280 [.int (wn i), .int (wn N), .ref x] G post ↔ post (.inl (some (.int (wn i)))) G := by
  have hc := am_C_one am_T d
  rw [we280]
  simp +decide (disch := omega) only [↓wm1, wb280_0 hc, wb280_4 hc, wb280_16 hc, w0, w1, rI_wI, rP_wI, rL_wI, rI_wR, rP_wR, is_wI, is_wR, ia_wI, ia_wR, ow_wI, ow_wR, wn_add, wn_mul, wn_cl, wn_le, wn_lt, wn_inj, wn_ne1, wn_1ne, wn_gt1, wn_le1, nb0, nb1, am_kt, am_rt, List.cons_append, List.nil_append, true_and, and_true, not_true_eq_false, not_false_eq_true, imp_f, imp_t, implies_true, Nat.zero_add, if_true, if_false, hi, wn_nn i (by omega), Nat.not_lt_zero]
theorem ct274 {i : Nat} (h : Wt G A N c) (hi : i < N) : am_C am_T (d + 4) 274 [.ref A, .int (wn i)] G post ↔ post (.inl (some (.int (wn (c i))))) G := by
  have hc := am_C_one am_T (d + 3)
  have hc2 := am_C_one am_T (d + 2)
  have hc1 := am_C_one am_T (d + 1)
  obtain ⟨h1, h2, h3, h4, h5, h6⟩ := h
  obtain ⟨q1, q2, q3⟩ := h5 i hi
  have e : Int32.ofNat N = wn N := rfl
  rw [we274]
  simp +decide (disch := omega) only [↓wm1, wb274_0 hc, wb274_4 hc, wb274_7 hc, w0, w1, rI_wI, rP_wI, rL_wI, rI_wR, rP_wR, is_wI, is_wR, ia_wI, ia_wR, ow_wI, ow_wR, wn_add, wn_mul, wn_cl, wn_le, wn_lt, wn_inj, wn_ne1, wn_1ne, wn_gt1, wn_le1, nb0, nb1, am_kt, am_rt, List.cons_append, List.nil_append, true_and, and_true, not_true_eq_false, not_false_eq_true, imp_f, imp_t, implies_true, Nat.zero_add, if_true, if_false, h1, ct276 h1]
  rw [we278]
  simp only [wb278_0 hc2, h2, h3, e, true_and]
  rw [we277]
  simp only [wb277_0 hc1, ct280 hi h4, am_kt, am_rt, List.cons_append, List.nil_append, wb277_8 hc1, wb278_6 hc2]
  simp +decide (disch := omega) only [↓wm1, w0, w1, rI_wI, rP_wI, rL_wI, rI_wR, rP_wR, is_wI, is_wR, ia_wI, ia_wR, ow_wI, ow_wR, wn_add, wn_mul, wn_cl, wn_le, wn_lt, wn_inj, wn_ne1, wn_1ne, wn_gt1, wn_le1, nb0, nb1, am_kt, am_rt, List.cons_append, List.nil_append, true_and, and_true, not_true_eq_false, not_false_eq_true, imp_f, imp_t, implies_true, Nat.zero_add, if_true, if_false, q1, q2, q3, w255, chr_ok, nb6]
  simp +decide (disch := omega) only [↓wm1, wb274_15 hc, w0, w1, rI_wI, rP_wI, rL_wI, rI_wR, rP_wR, is_wI, is_wR, ia_wI, ia_wR, ow_wI, ow_wR, wn_add, wn_mul, wn_cl, wn_le, wn_lt, wn_inj, wn_ne1, wn_1ne, wn_gt1, wn_le1, nb0, nb1, am_kt, am_rt, List.cons_append, List.nil_append, true_and, and_true, not_true_eq_false, not_false_eq_true, imp_f, imp_t, implies_true, Nat.zero_add, if_true, if_false, nb6]
/-- whether a stretch of the text of words is the word from p to e -/
def Mt (c t : Nat → Nat) (p e f b : Nat) : Prop := b - f = e - p ∧ ∀ j, j < b - f → c (f + j) = t (p + j)
theorem ct76 {e f b : Nat} (hsh : Sh G) (hb : Bt G t) (hW : Wt G A N c) (hn : n ≤ 600) (hs : am_gI G 1 4 = wn p) (hp : p ≤ e) (he : e ≤ n) (hf : f ≤ b) (hbN : b ≤ N) (k1 : Mt c t p e f b → post (.inl (some (.int (wn 1)))) G) (k0 : ¬ Mt c t p e f b → post (.inl (some (.int (wn 0)))) G) : am_C am_T (d + 5) 76 [.ref 1, .int (wn e), .ref A, .int (wn f), .int (wn b)] G post := by
  have hc := am_C_one am_T (d + 4)
  have hN := hW.2.2.2.1
  have hos := hW.1
  have d1 : wn b - wn f = wn (b - f) := wn_sub hf
  have d2 : wn e - wn p = wn (e - p) := wn_sub hp
  rw [we76]
  by_cases c1 : b - f = e - p
  · simp +decide (disch := omega) only [↓wm1, wb76_0 hc, wb76_15 hc, w0, w1, rI_wI, rP_wI, rL_wI, rI_wR, rP_wR, is_wI, is_wR, ia_wI, ia_wR, ow_wI, ow_wR, wn_add, wn_mul, wn_cl, wn_le, wn_lt, wn_inj, wn_ne1, wn_1ne, wn_gt1, wn_le1, nb0, nb1, am_kt, am_rt, List.cons_append, List.nil_append, true_and, and_true, not_true_eq_false, not_false_eq_true, imp_f, imp_t, implies_true, Nat.zero_add, if_true, if_false, i1 hsh, hs, d1, d2, c1]
    have key : ∀ g j, b - f - j = g → j ≤ b - f → (∀ i, i < j → c (f + i) = t (p + i)) → am_W (am_C am_T (d + 4)) am_76 post 18 [some (.ref 1), none, some (.ref A), some (.int (wn f)), some (.int (wn b)), some (.int (wn j))] [] G := by
      intro g
      induction g with
      | zero =>
        intro j hg hj hall
        have c2 : b - f ≤ j := by omega
        rw [wb76_18 hc]
        simp +decide (disch := omega) only [↓wm1, wb76_58 hc, w0, w1, rI_wI, rP_wI, rL_wI, rI_wR, rP_wR, is_wI, is_wR, ia_wI, ia_wR, ow_wI, ow_wR, wn_add, wn_mul, wn_cl, wn_le, wn_lt, wn_inj, wn_ne1, wn_1ne, wn_gt1, wn_le1, nb0, nb1, am_kt, am_rt, List.cons_append, List.nil_append, true_and, and_true, not_true_eq_false, not_false_eq_true, imp_f, imp_t, implies_true, Nat.zero_add, if_true, if_false, d1, c2]
        exact k1 ⟨c1, fun i hi => hall i (by omega)⟩
      | succ g ih =>
        intro j hg hj hall
        have c2 : ¬ b - f ≤ j := by omega
        have hx := hb.1 (p + j)
        have e4 := hb.2 (p + j) (by omega)
        have hcj := (hW.2.2.2.2.1 (f + j) (by omega)).2.1
        rw [wb76_18 hc]
        simp +decide (disch := omega) only [↓wm1, wb76_27 hc, w0, w1, rI_wI, rP_wI, rL_wI, rI_wR, rP_wR, is_wI, is_wR, ia_wI, ia_wR, ow_wI, ow_wR, wn_add, wn_mul, wn_cl, wn_le, wn_lt, wn_inj, wn_ne1, wn_1ne, wn_gt1, wn_le1, nb0, nb1, am_kt, am_rt, List.cons_append, List.nil_append, true_and, and_true, not_true_eq_false, not_false_eq_true, imp_f, imp_t, implies_true, Nat.zero_add, if_true, if_false, d1, c2, hos, ct274 hW (show f + j < N by omega)]
        by_cases c3 : c (f + j) = t (p + j)
        · have c4 : wn (c (f + j)) = sb (t (p + j)) := ((sb_eq hx hcj).mpr c3.symm).symm
          simp +decide (disch := omega) only [↓wm1, wb76_35 hc, wb76_52 hc, w0, w1, rI_wI, rP_wI, rL_wI, rI_wR, rP_wR, is_wI, is_wR, ia_wI, ia_wR, ow_wI, ow_wR, wn_add, wn_mul, wn_cl, wn_le, wn_lt, wn_inj, wn_ne1, wn_1ne, wn_gt1, wn_le1, nb0, nb1, am_kt, am_rt, List.cons_append, List.nil_append, true_and, and_true, not_true_eq_false, not_false_eq_true, imp_f, imp_t, implies_true, Nat.zero_add, if_true, if_false, i1 hsh, q1_0 hsh, ba2 hsh, hs, e4, c4]
          exact ih (j + 1) (by omega) (by omega) (fun i hi => by
            by_cases q : i = j
            · rw [q]; exact c3
            · exact hall i (by omega))
        · have c4 : ¬ wn (c (f + j)) = sb (t (p + j)) := fun z => c3 ((sb_eq hx hcj).mp z.symm).symm
          simp +decide (disch := omega) only [↓wm1, wb76_35 hc, wb76_50 hc, w0, w1, rI_wI, rP_wI, rL_wI, rI_wR, rP_wR, is_wI, is_wR, ia_wI, ia_wR, ow_wI, ow_wR, wn_add, wn_mul, wn_cl, wn_le, wn_lt, wn_inj, wn_ne1, wn_1ne, wn_gt1, wn_le1, nb0, nb1, am_kt, am_rt, List.cons_append, List.nil_append, true_and, and_true, not_true_eq_false, not_false_eq_true, imp_f, imp_t, implies_true, Nat.zero_add, if_true, if_false, i1 hsh, q1_0 hsh, ba2 hsh, hs, e4, c4]
          exact k0 (fun z => c3 (z.2 j (by omega)))
    exact key _ 0 rfl (by omega) (fun i hi => by omega)
  · simp +decide (disch := omega) only [↓wm1, wb76_0 hc, wb76_13 hc, w0, w1, rI_wI, rP_wI, rL_wI, rI_wR, rP_wR, is_wI, is_wR, ia_wI, ia_wR, ow_wI, ow_wR, wn_add, wn_mul, wn_cl, wn_le, wn_lt, wn_inj, wn_ne1, wn_1ne, wn_gt1, wn_le1, nb0, nb1, am_kt, am_rt, List.cons_append, List.nil_append, true_and, and_true, not_true_eq_false, not_false_eq_true, imp_f, imp_t, implies_true, Nat.zero_add, if_true, if_false, i1 hsh, hs, d1, d2, c1]
    exact k0 (fun z => c1 z.1)
/-- the search for a word -/
def ws1 (c : Nat → Nat) (N : Nat) (M : Nat → Nat → Bool) : Nat → Nat → Nat → Nat → Option Nat
  | 0, _, _, _ => none
  | g + 1, i, w, f => if i = N ∨ c i = 32 then (if M f i then some w else ws1 c N M g (i + 1) (w + 1) (i + 1)) else ws1 c N M g (i + 1) w f
noncomputable def Mb (c t : Nat → Nat) (p e : Nat) (f b : Nat) : Bool := @decide (Mt c t p e f b) (Classical.propDecidable _)
theorem Mb_iff {c t : Nat → Nat} {p e f b : Nat} : Mb c t p e f b = true ↔ Mt c t p e f b := by
  unfold Mb
  exact @decide_eq_true_iff _ (Classical.propDecidable _)
theorem ct75_l2 {e : Nat} {R : Option Nat} (hn : n ≤ 600) (hp : p ≤ e) (he : e ≤ n) (hsh : Sh G) (hb : Bt G t) (hW : Wt G A N c) (h1 : am_gI G 1 1 = wn 0) (h2 : am_gI G 1 2 = wn n) (hs : am_gI G 1 4 = wn p)
    (kok : ∀ w G', R = some w → am_gI G' 1 3 = wn (skb t n e) → Kp T13 G G' → post (.inl (some (.int (wn w)))) G')
    (kbad : ∀ G', R = none → fT G' 1 p → Kp T1 G G' → post (.inl (some (.int mm))) G') :
    ∀ (g i w f : Nat), N + 1 - i = g → i ≤ N + 1 → f ≤ i → R = ws1 c N (Mb c t p e) g i w f →
      am_W (am_C am_T (d + 6)) am_75 post 57 [some (.ref 1), some (.ref A), some (.int (wn e)), some (.int (wn w)), some (.int (wn f)), some (.int (wn i))] [] G := by
  have hc := am_C_one am_T (d + 6)
  have hN := hW.2.2.2.1
  have hos := hW.1
  intro g
  induction g with
  | zero =>
    intro i w f hg hi hf hw
    have c1 : N < i := by omega
    simp only [ws1] at hw
    rw [wb75_57 hc]
    simp +decide (disch := omega) only [↓wm1, wb75_63 hc, wb75_121 hc, wb75_130 hc, w0, w1, w32, w97, w122, rI_wI, rP_wI, rL_wI, rI_wR, rP_wR, is_wI, is_wR, ia_wI, ia_wR, ow_wI, ow_wR, wn_add, wn_mul, wn_cl, wn_le, wn_lt, wn_inj, wn_ne1, wn_1ne, wn_gt1, wn_le1, nb0, nb1, am_kt, am_rt, List.cons_append, List.nil_append, true_and, and_true, not_true_eq_false, not_false_eq_true, imp_f, imp_t, implies_true, Nat.zero_add, if_true, if_false, hos, ct273 hW, c1, i1 hsh, hs, ct66 hsh]
    exact kbad _ hw (fT_of h1 1 p) (kp_f G 1 p)
  | succ g ih =>
    intro i w f hg hi hf hw
    have c1 : ¬ N < i := by omega
    have tail : R = (if Mb c t p e f i then some w else ws1 c N (Mb c t p e) g (i + 1) (w + 1) (i + 1)) → am_W (am_C am_T (d + 6)) am_75 post 86 [some (.ref 1), some (.ref A), some (.int (wn e)), some (.int (wn w)), some (.int (wn f)), some (.int (wn i))] [] G := by
      intro hw
      rw [wb75_86 hc]
      refine ⟨i1 hsh, ct76 hsh hb hW hn hs hp he hf (by omega) (fun hm => ?_) (fun hm => ?_)⟩
      · rw [if_pos (Mb_iff.mpr hm)] at hw
        simp +decide (disch := omega) only [↓wm1, wb75_96 hc, wb75_99 hc, w0, w1, w32, w97, w122, rI_wI, rP_wI, rL_wI, rI_wR, rP_wR, is_wI, is_wR, ia_wI, ia_wR, ow_wI, ow_wR, wn_add, wn_mul, wn_cl, wn_le, wn_lt, wn_inj, wn_ne1, wn_1ne, wn_gt1, wn_le1, nb0, nb1, am_kt, am_rt, List.cons_append, List.nil_append, true_and, and_true, not_true_eq_false, not_false_eq_true, imp_f, imp_t, implies_true, Nat.zero_add, if_true, if_false, i1 hsh]
        refine ct65 (t := t) (n := n) hsh hb hn he h2 (fun G' e' k' => ?_)
        simp +decide (disch := omega) only [↓wm1, wb75_104 hc, w0, w1, w32, w97, w122, rI_wI, rP_wI, rL_wI, rI_wR, rP_wR, is_wI, is_wR, ia_wI, ia_wR, ow_wI, ow_wR, wn_add, wn_mul, wn_cl, wn_le, wn_lt, wn_inj, wn_ne1, wn_1ne, wn_gt1, wn_le1, nb0, nb1, am_kt, am_rt, List.cons_append, List.nil_append, true_and, and_true, not_true_eq_false, not_false_eq_true, imp_f, imp_t, implies_true, Nat.zero_add, if_true, if_false]
        exact kok w G' hw e' k'
      · have : Mb c t p e f i = false := by
          cases q : Mb c t p e f i with
          | false => rfl
          | true => exact absurd (Mb_iff.mp q) hm
        rw [this] at hw
        simp +decide (disch := omega) only [↓wm1, wb75_96 hc, wb75_106 hc, wb75_115 hc, w0, w1, w32, w97, w122, rI_wI, rP_wI, rL_wI, rI_wR, rP_wR, is_wI, is_wR, ia_wI, ia_wR, ow_wI, ow_wR, wn_add, wn_mul, wn_cl, wn_le, wn_lt, wn_inj, wn_ne1, wn_1ne, wn_gt1, wn_le1, nb0, nb1, am_kt, am_rt, List.cons_append, List.nil_append, true_and, and_true, not_true_eq_false, not_false_eq_true, imp_f, imp_t, implies_true, Nat.zero_add, if_true, if_false]
        exact ih (i + 1) (w + 1) (i + 1) (by omega) (by omega) (by omega) (by simpa using hw)
    simp only [ws1] at hw
    rw [wb75_57 hc]
    by_cases c2 : i = N
    · rw [if_pos (Or.inl c2)] at hw
      simp +decide (disch := omega) only [↓wm1, wb75_63 hc, wb75_66 hc, wb75_72 hc, w0, w1, w32, w97, w122, rI_wI, rP_wI, rL_wI, rI_wR, rP_wR, is_wI, is_wR, ia_wI, ia_wR, ow_wI, ow_wR, wn_add, wn_mul, wn_cl, wn_le, wn_lt, wn_inj, wn_ne1, wn_1ne, wn_gt1, wn_le1, nb0, nb1, am_kt, am_rt, List.cons_append, List.nil_append, true_and, and_true, not_true_eq_false, not_false_eq_true, imp_f, imp_t, implies_true, Nat.zero_add, if_true, if_false, hos, ct273 hW, c1, c2, Nat.lt_irrefl]
      rw [c2] at tail hw
      exact tail hw
    · by_cases c3 : c i = 32
      · rw [if_pos (Or.inr c3)] at hw
        simp +decide (disch := omega) only [↓wm1, wb75_63 hc, wb75_66 hc, wb75_72 hc, wb75_75 hc, wb75_81 hc, w0, w1, w32, w97, w122, rI_wI, rP_wI, rL_wI, rI_wR, rP_wR, is_wI, is_wR, ia_wI, ia_wR, ow_wI, ow_wR, wn_add, wn_mul, wn_cl, wn_le, wn_lt, wn_inj, wn_ne1, wn_1ne, wn_gt1, wn_le1, nb0, nb1, am_kt, am_rt, List.cons_append, List.nil_append, true_and, and_true, not_true_eq_false, not_false_eq_true, imp_f, imp_t, implies_true, Nat.zero_add, if_true, if_false, hos, ct273 hW, ct274 hW (show i < N by omega), c1, c2, c3]
        exact tail hw
      · rw [if_neg (by omega)] at hw
        have hci := (hW.2.2.2.2.1 i (by omega)).2.1
        simp +decide (disch := omega) only [↓wm1, wb75_63 hc, wb75_66 hc, wb75_72 hc, wb75_75 hc, wb75_81 hc, wb75_115 hc, w0, w1, w32, w97, w122, rI_wI, rP_wI, rL_wI, rI_wR, rP_wR, is_wI, is_wR, ia_wI, ia_wR, ow_wI, ow_wR, wn_add, wn_mul, wn_cl, wn_le, wn_lt, wn_inj, wn_ne1, wn_1ne, wn_gt1, wn_le1, nb0, nb1, am_kt, am_rt, List.cons_append, List.nil_append, true_and, and_true, not_true_eq_false, not_false_eq_true, imp_f, imp_t, implies_true, Nat.zero_add, if_true, if_false, hos, ct273 hW, ct274 hW (show i < N by omega), c1, c2, c3]
        exact ih (i + 1) w f (by omega) (by omega) (by omega) hw
theorem ct75_l1 (hn : n ≤ 600) (hsh : Sh G) (hb : Bt G t) (e2 : am_gI G 1 2 = wn n) : ∀ (f q : Nat), n - q = f → q ≤ n →
    am_W (am_C am_T (d + 6)) am_75 post 49 [some (.ref 1), some (.ref A), some (.int (wn (lte t n q))), none, none, none] [] G →
    am_W (am_C am_T (d + 6)) am_75 post 13 [some (.ref 1), some (.ref A), some (.int (wn q)), none, none, none] [] G := by
  have hc := am_C_one am_T (d + 6)
  intro f
  induction f with
  | zero =>
    intro q hf hq k
    have c1 : n ≤ q := by omega
    rw [show lte t n q = q from rnn_end c1] at k
    rw [wb75_13 hc]
    simp +decide (disch := omega) only [↓wm1, w0, w1, rI_wI, rP_wI, rL_wI, rI_wR, rP_wR, is_wI, is_wR, ia_wI, ia_wR, ow_wI, ow_wR, wn_add, wn_mul, wn_cl, wn_le, wn_lt, wn_inj, wn_ne1, wn_1ne, wn_gt1, wn_le1, nb0, nb1, am_kt, am_rt, List.cons_append, List.nil_append, true_and, and_true, not_true_eq_false, not_false_eq_true, imp_f, imp_t, implies_true, Nat.zero_add, if_true, if_false, i1 hsh, e2, c1]
    exact k
  | succ f ih =>
    intro q hf hq k
    have c1 : ¬ n ≤ q := by omega
    have hx := hb.1 q
    have e4 := hb.2 q (by omega)
    have l1 := sb_lt hx (show 97 < 128 by decide)
    have l2 := sb_gt hx (show 122 < 128 by decide)
    rw [wb75_13 hc]
    by_cases a0 : isL (t q) = true
    · have a1 : 97 ≤ t q ∧ t q ≤ 122 := by simpa only [isL, decide_eq_true_eq] using a0
      have a2 : ¬ (128 ≤ t q ∨ t q < 97) := by omega
      have a3 : ¬ (122 < t q ∧ t q < 128) := by omega
      rw [show lte t n q = lte t n (q + 1) from rnn_go (by omega) a0] at k
      have := ih (q + 1) (by omega) (by omega) k
      simp +decide (disch := omega) only [↓wm1, wb75_21 hc, wb75_32 hc, wb75_43 hc, w0, w1, w32, w97, w122, rI_wI, rP_wI, rL_wI, rI_wR, rP_wR, is_wI, is_wR, ia_wI, ia_wR, ow_wI, ow_wR, wn_add, wn_mul, wn_cl, wn_le, wn_lt, wn_inj, wn_ne1, wn_1ne, wn_gt1, wn_le1, nb0, nb1, am_kt, am_rt, List.cons_append, List.nil_append, true_and, and_true, not_true_eq_false, not_false_eq_true, imp_f, imp_t, implies_true, Nat.zero_add, if_true, if_false, i1 hsh, q1_0 hsh, ba2 hsh, e2, c1, e4, l1, l2, a2, a3]
      exact this
    · have a0' : isL (t q) = false := by simpa using a0
      rw [show lte t n q = q from rnn_no a0'] at k
      by_cases a1 : 128 ≤ t q ∨ t q < 97
      · simp +decide (disch := omega) only [↓wm1, wb75_21 hc, w0, w1, w32, w97, w122, rI_wI, rP_wI, rL_wI, rI_wR, rP_wR, is_wI, is_wR, ia_wI, ia_wR, ow_wI, ow_wR, wn_add, wn_mul, wn_cl, wn_le, wn_lt, wn_inj, wn_ne1, wn_1ne, wn_gt1, wn_le1, nb0, nb1, am_kt, am_rt, List.cons_append, List.nil_append, true_and, and_true, not_true_eq_false, not_false_eq_true, imp_f, imp_t, implies_true, Nat.zero_add, if_true, if_false, i1 hsh, q1_0 hsh, ba2 hsh, e2, c1, e4, l1, a1]
        exact k
      · have a2 : 122 < t q ∧ t q < 128 := by
          simp only [isL, decide_eq_false_iff_not] at a0'
          omega
        simp +decide (disch := omega) only [↓wm1, wb75_21 hc, wb75_32 hc, w0, w1, w32, w97, w122, rI_wI, rP_wI, rL_wI, rI_wR, rP_wR, is_wI, is_wR, ia_wI, ia_wR, ow_wI, ow_wR, wn_add, wn_mul, wn_cl, wn_le, wn_lt, wn_inj, wn_ne1, wn_1ne, wn_gt1, wn_le1, nb0, nb1, am_kt, am_rt, List.cons_append, List.nil_append, true_and, and_true, not_true_eq_false, not_false_eq_true, imp_f, imp_t, implies_true, Nat.zero_add, if_true, if_false, i1 hsh, q1_0 hsh, ba2 hsh, e2, c1, e4, l1, l2, a1, a2]
        exact k
theorem ct75 (hsh : Sh G) (h : rT G t n p o) (hW : Wt G A N c)
    (kok : ∀ w G', ws1 c N (Mb c t p (lte t n p)) (N + 1) 0 0 0 = some w → rT G' t n (skb t n (lte t n p)) o → am_gI G' 1 4 = wn p → Kp T1 G G' → post (.inl (some (.int (wn w)))) G')
    (kbad : ∀ G', ws1 c N (Mb c t p (lte t n p)) (N + 1) 0 0 0 = none → fT G' 1 p → Kp T1 G G' → post (.inl (some (.int mm))) G') : am_C am_T (d + 7) 75 [.ref 1, .ref A] G post := by
  have hc := am_C_one am_T (d + 6)
  have h0 := h
  obtain ⟨h1, h2, h3, h4, h5, h6, h7, h8, h9, h10⟩ := h
  rw [we75]
  simp +decide (disch := omega) only [↓wm1, wb75_0 hc, w0, w1, w32, w97, w122, rI_wI, rP_wI, rL_wI, rI_wR, rP_wR, is_wI, is_wR, ia_wI, ia_wR, ow_wI, ow_wR, wn_add, wn_mul, wn_cl, wn_le, wn_lt, wn_inj, wn_ne1, wn_1ne, wn_gt1, wn_le1, nb0, nb1, am_kt, am_rt, List.cons_append, List.nil_append, true_and, and_true, not_true_eq_false, not_false_eq_true, imp_f, imp_t, implies_true, Nat.zero_add, if_true, if_false, i1 hsh, h8]
  have k1 : Kp (fun a i => a = 1 ∧ (i = 3 ∨ i = 4)) G (am_wI G 1 4 (wn p)) := (Kp.refl G).wI ⟨rfl, Or.inr rfl⟩ _
  have hb1 := h1.kp k1 (by rintro i ⟨z, -⟩; omega)
  have e21 : am_gI (am_wI G 1 4 (wn p)) 1 2 = wn n := by rw [rI_wI, if_neg (by omega)]; exact h7
  have e11 : am_gI (am_wI G 1 4 (wn p)) 1 1 = wn 0 := by rw [rI_wI, if_neg (by omega)]; exact h6
  have e41 : am_gI (am_wI G 1 4 (wn p)) 1 4 = wn p := by rw [rI_wI, if_pos ⟨rfl, rfl⟩]
  have hW1 := hW.kp k1 (by rintro a i ⟨z, -⟩; omega)
  have g2 := lte_le (t := t) h3
  refine ct75_l1 (G := am_wI G 1 4 (wn p)) h2 hsh hb1 e21 (n - p) p rfl h3 ?_
  rw [wb75_49 hc]
  refine ct75_l2 (R := ws1 c N (Mb c t p (lte t n p)) (N + 1) 0 0 0) (G := am_wI G 1 4 (wn p)) h2 (lte_ge t n p) g2 hsh hb1 hW1 e11 e21 e41 (fun w G' e e' k' => ?_) (fun G' e hf k' => ?_) (N + 1) 0 0 0 rfl (by omega) (Nat.le_refl 0) rfl
  · have k2 := k1.trans (k'.mono (Sd := fun a i => a = 1 ∧ (i = 3 ∨ i = 4)) (fun _ _ z => ⟨z.1, Or.inl z.2⟩))
    refine kok w G' e (h0.at (skb_le g2) (skb_idem g2) e' k2) ?_ (k2.mono (fun _ _ z => z.1))
    rw [k'.i (by rintro ⟨-, z⟩; omega)]; exact e41
  · exact kbad G' e hf ((k1.mono (fun _ _ z => z.1)).trans k')
end
/-! which word -/
def wi0 (w : List Nat) : Option Nat := if w = [98, 101, 108, 108] then some 0 else if w = [104, 111, 117, 115, 101] then some 1 else if w = [100, 101, 101, 100] then some 2 else if w = [100, 97, 109, 112] then some 3 else none
def wi1 (w : List Nat) : Option Nat := if w = [112, 117, 108, 108] then some 0 else if w = [99, 114, 97, 99, 107] then some 1 else if w = [103, 97, 103] then some 2 else if w = [115, 116, 101, 97, 108] then some 3 else if w = [98, 114, 105, 110, 103] then some 4 else if w = [100, 97, 109, 112] then some 5 else if w = [104, 111, 117, 114] then some 6 else if w = [97, 103, 97, 105, 110] then some 7 else none
def wi2 (w : List Nat) : Option Nat := if w = [108, 111, 117, 100] then some 0 else if w = [102, 97, 114] then some 1 else if w = [97, 112, 97, 114, 116] then some 2 else if w = [99, 114, 97, 99, 107, 115] then some 3 else if w = [100, 97, 109, 112] then some 4 else if w = [112, 117, 108, 108, 101, 100] then some 5 else if w = [104, 111, 117, 114] then some 6 else if w = [98, 101, 108, 108] then some 7 else if w = [104, 111, 117, 115, 101] then some 8 else if w = [108, 101, 97, 115, 116] then some 9 else if w = [109, 111, 115, 116] then some 10 else none
def tx0 : List Nat := [98, 101, 108, 108, 32, 104, 111, 117, 115, 101, 32, 100, 101, 101, 100, 32, 100, 97, 109, 112]
def tx1 : List Nat := [112, 117, 108, 108, 32, 99, 114, 97, 99, 107, 32, 103, 97, 103, 32, 115, 116, 101, 97, 108, 32, 98, 114, 105, 110, 103, 32, 100, 97, 109, 112, 32, 104, 111, 117, 114, 32, 97, 103, 97, 105, 110]
def tx2 : List Nat := [108, 111, 117, 100, 32, 102, 97, 114, 32, 97, 112, 97, 114, 116, 32, 99, 114, 97, 99, 107, 115, 32, 100, 97, 109, 112, 32, 112, 117, 108, 108, 101, 100, 32, 104, 111, 117, 114, 32, 98, 101, 108, 108, 32, 104, 111, 117, 115, 101, 32, 108, 101, 97, 115, 116, 32, 109, 111, 115, 116]
def cx (l : List Nat) (i : Nat) : Nat := l.getD i 0
theorem Mt_iff {c t : Nat → Nat} {n p f b : Nat} (w : List Nat) (hw : (List.range (b - f)).map (fun j => c (f + j)) = w) : Mt c t p (lte t n p) f b ↔ wrd t n p = w := by
  subst hw
  unfold Mt wrd
  constructor
  · rintro ⟨h1, h2⟩
    rw [← h1]
    apply List.map_congr_left
    intro j hj
    exact (h2 j (List.mem_range.mp hj)).symm
  · intro h
    have hl : lte t n p - p = b - f := by
      have := congrArg List.length h
      simpa using this
    refine ⟨hl.symm, fun j hj => ?_⟩
    rw [hl] at h
    have := congrArg (fun l => l[j]?) h
    simp [hj] at this
    exact this.symm
theorem Mb_eq {c t : Nat → Nat} {n p f b : Nat} (w : List Nat) (hw : (List.range (b - f)).map (fun j => c (f + j)) = w) : (Mb c t p (lte t n p) f b = true) = (wrd t n p = w) := propext (Mb_iff.trans (Mt_iff w hw))
theorem ws_0 (t : Nat → Nat) (n p : Nat) : ws1 (cx tx0) 20 (Mb (cx tx0) t p (lte t n p)) 21 0 0 0 = wi0 (wrd t n p) := by
  have e : ∀ M : Nat → Nat → Bool, ws1 (cx tx0) 20 M 21 0 0 0 = if M 0 4 then some 0 else if M 5 10 then some 1 else if M 11 15 then some 2 else if M 16 20 then some 3 else none := fun M => rfl
  rw [e]
  unfold wi0
  simp only [Mb_eq [98, 101, 108, 108] (show (List.range (4 - 0)).map (fun j => cx tx0 (0 + j)) = [98, 101, 108, 108] from rfl), Mb_eq [104, 111, 117, 115, 101] (show (List.range (10 - 5)).map (fun j => cx tx0 (5 + j)) = [104, 111, 117, 115, 101] from rfl), Mb_eq [100, 101, 101, 100] (show (List.range (15 - 11)).map (fun j => cx tx0 (11 + j)) = [100, 101, 101, 100] from rfl), Mb_eq [100, 97, 109, 112] (show (List.range (20 - 16)).map (fun j => cx tx0 (16 + j)) = [100, 97, 109, 112] from rfl)]
theorem ws_1 (t : Nat → Nat) (n p : Nat) : ws1 (cx tx1) 42 (Mb (cx tx1) t p (lte t n p)) 43 0 0 0 = wi1 (wrd t n p) := by
  have e : ∀ M : Nat → Nat → Bool, ws1 (cx tx1) 42 M 43 0 0 0 = if M 0 4 then some 0 else if M 5 10 then some 1 else if M 11 14 then some 2 else if M 15 20 then some 3 else if M 21 26 then some 4 else if M 27 31 then some 5 else if M 32 36 then some 6 else if M 37 42 then some 7 else none := fun M => rfl
  rw [e]
  unfold wi1
  simp only [Mb_eq [112, 117, 108, 108] (show (List.range (4 - 0)).map (fun j => cx tx1 (0 + j)) = [112, 117, 108, 108] from rfl), Mb_eq [99, 114, 97, 99, 107] (show (List.range (10 - 5)).map (fun j => cx tx1 (5 + j)) = [99, 114, 97, 99, 107] from rfl), Mb_eq [103, 97, 103] (show (List.range (14 - 11)).map (fun j => cx tx1 (11 + j)) = [103, 97, 103] from rfl), Mb_eq [115, 116, 101, 97, 108] (show (List.range (20 - 15)).map (fun j => cx tx1 (15 + j)) = [115, 116, 101, 97, 108] from rfl), Mb_eq [98, 114, 105, 110, 103] (show (List.range (26 - 21)).map (fun j => cx tx1 (21 + j)) = [98, 114, 105, 110, 103] from rfl), Mb_eq [100, 97, 109, 112] (show (List.range (31 - 27)).map (fun j => cx tx1 (27 + j)) = [100, 97, 109, 112] from rfl), Mb_eq [104, 111, 117, 114] (show (List.range (36 - 32)).map (fun j => cx tx1 (32 + j)) = [104, 111, 117, 114] from rfl), Mb_eq [97, 103, 97, 105, 110] (show (List.range (42 - 37)).map (fun j => cx tx1 (37 + j)) = [97, 103, 97, 105, 110] from rfl)]
theorem ws_2 (t : Nat → Nat) (n p : Nat) : ws1 (cx tx2) 60 (Mb (cx tx2) t p (lte t n p)) 61 0 0 0 = wi2 (wrd t n p) := by
  have e : ∀ M : Nat → Nat → Bool, ws1 (cx tx2) 60 M 61 0 0 0 = if M 0 4 then some 0 else if M 5 8 then some 1 else if M 9 14 then some 2 else if M 15 21 then some 3 else if M 22 26 then some 4 else if M 27 33 then some 5 else if M 34 38 then some 6 else if M 39 43 then some 7 else if M 44 49 then some 8 else if M 50 55 then some 9 else if M 56 60 then some 10 else none := fun M => rfl
  rw [e]
  unfold wi2
  simp only [Mb_eq [108, 111, 117, 100] (show (List.range (4 - 0)).map (fun j => cx tx2 (0 + j)) = [108, 111, 117, 100] from rfl), Mb_eq [102, 97, 114] (show (List.range (8 - 5)).map (fun j => cx tx2 (5 + j)) = [102, 97, 114] from rfl), Mb_eq [97, 112, 97, 114, 116] (show (List.range (14 - 9)).map (fun j => cx tx2 (9 + j)) = [97, 112, 97, 114, 116] from rfl), Mb_eq [99, 114, 97, 99, 107, 115] (show (List.range (21 - 15)).map (fun j => cx tx2 (15 + j)) = [99, 114, 97, 99, 107, 115] from rfl), Mb_eq [100, 97, 109, 112] (show (List.range (26 - 22)).map (fun j => cx tx2 (22 + j)) = [100, 97, 109, 112] from rfl), Mb_eq [112, 117, 108, 108, 101, 100] (show (List.range (33 - 27)).map (fun j => cx tx2 (27 + j)) = [112, 117, 108, 108, 101, 100] from rfl), Mb_eq [104, 111, 117, 114] (show (List.range (38 - 34)).map (fun j => cx tx2 (34 + j)) = [104, 111, 117, 114] from rfl), Mb_eq [98, 101, 108, 108] (show (List.range (43 - 39)).map (fun j => cx tx2 (39 + j)) = [98, 101, 108, 108] from rfl), Mb_eq [104, 111, 117, 115, 101] (show (List.range (49 - 44)).map (fun j => cx tx2 (44 + j)) = [104, 111, 117, 115, 101] from rfl), Mb_eq [108, 101, 97, 115, 116] (show (List.range (55 - 50)).map (fun j => cx tx2 (50 + j)) = [108, 101, 97, 115, 116] from rfl), Mb_eq [109, 111, 115, 116] (show (List.range (60 - 56)).map (fun j => cx tx2 (56 + j)) = [109, 111, 115, 116] from rfl)]
