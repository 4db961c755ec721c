section
variable {G : am_G} {d : Nat} {post : am_O → am_G → Prop}
theorem ct29 {l : Nat} {kn : Nat → Int32} {Λ : List Tok} (hsh : Sh G) (hl' : l = 20 ∨ l = 23) (hr : rL G l Λ) (ok : okL Λ) (hk : ∀ j, j < 9 → am_gI G 26 j = kn j) (k : ∀ G', Kp (fun a _ => a = l + 2) G G' → post (.inl (some (.int (wn (clp ((evl kn Λ (fun _ => 0, 0)).1 0)))))) G') : am_C am_T (d + 3) 29 [.ref l, .ref 26] G post := by
  have hc := am_C_one am_T (d + 2)
  refine (we29 _ _ _).mpr ((wb29_0 hc _ _ _).mpr ?_)
  exact ct29_loop hl' ok.1 ok.2.1 Λ [] (fun _ => 0) 0 G rfl hsh hr hk (fun j hj => by omega) (by simp) ok.2.2 k
theorem ct188_loop {kn : Nat → Int32} {Λ : List Tok} (hlen : Λ.length ≤ 150) (hok : ∀ k ∈ Λ, okT k) (r : List Tok) :
    ∀ (pre : List Tok) (f : Nat → Int32) (n : Nat) (G : am_G), Λ = pre ++ r → Sh G → rLm G Λ → (∀ j, j < 9 → am_gI G 726 j = kn j) → (∀ j, j < n → am_gI G 725 j = f j) → n ≤ pre.length → dz r n = some 1 →
      (∀ G', Kp (fun a _ => a = 725) G G' → post (.inl (some (.int (wn (clp ((evl kn r (f, n)).1 0)))))) G') →
      am_W (am_C am_T (d + 2)) am_188 post 39 [some (.ref 334), some (.int (wn n)), some (.int (wn pre.length))] [] G := by
  have hc := am_C_one am_T (d + 2)
  induction r with
  | nil =>
    intro pre f n G hp hsh hr hk hs hn hz k
    simp only [dz, Option.some.injEq] at hz
    subst hz
    simp only [List.append_nil] at hp
    have e := hr.1
    have e0 := hs 0 (by omega)
    have hpl : pre.length ≤ 150 := by rw [← hp]; exact hlen
    rw [wb188_39 hc, e, hp]
    simp +decide (disch := omega) only [↓wm1, wb188_148 hc, wb188_160 hc, wb188_163 hc, w0, w1, w2, w3, w4, w99, rI_wI, rP_wI, rL_wI, rI_wR, rP_wR, is_wI, is_wR, ia_wI, ia_wR, ow_wI, ow_wR, wn_add, wn_mul, wn_cl, wn_le, wn_lt, wn_inj, wn_ne1, wn_1ne, wn_gt1, wn_le1, nb0, nb1, am_kt, am_rt, List.cons_append, List.nil_append, true_and, and_true, not_true_eq_false, not_false_eq_true, imp_f, imp_t, implies_true, Nat.zero_add, if_true, if_false, fM hsh, ia725 hsh, Nat.le_refl, e0, ct154, ct155, clpM]
    exact k G (Kp.refl G)
  | cons t r ih =>
    intro pre f n G hp hsh hr hk hs hn hz k
    have e1 := hr.2 pre.length t (by rw [hp]; exact get_mid pre r t)
    have hL : Λ.length = pre.length + 1 + r.length := by rw [hp]; simp; omega
    have e := hr.1
    have ht := hok t (by rw [hp]; simp)
    have c1 : ¬ Λ.length ≤ pre.length := by omega
    have c2 : pre.length < 150 := by omega
    have c3 : n < 150 := by omega
    rw [wb188_39 hc, e]
    unfold okT at ht
    rcases ht with ⟨t1, t2⟩ | ⟨t1, t2⟩ | ⟨t1, t2⟩
    · rw [t1] at e1
      simp only [dz, t1, Nat.zero_lt_succ, if_true] at hz
      simp +decide (disch := omega) only [↓wm1, wb188_47 hc, wb188_59 hc, wb188_75 hc, wb188_99 hc, wb188_142 hc, w0, w1, w2, w3, w4, w99, rI_wI, rP_wI, rL_wI, rI_wR, rP_wR, is_wI, is_wR, ia_wI, ia_wR, ow_wI, ow_wR, wn_add, wn_mul, wn_cl, wn_le, wn_lt, wn_inj, wn_ne1, wn_1ne, wn_gt1, wn_le1, nb0, nb1, am_kt, am_rt, List.cons_append, List.nil_append, true_and, and_true, not_true_eq_false, not_false_eq_true, imp_f, imp_t, implies_true, Nat.zero_add, if_true, if_false, fM hsh, fr387 hsh, ia725 hsh, ow725 hsh, c1, e1.1, e1.2]
      have := ih (pre ++ [t]) (upI f n (wn t.2)) (n + 1) (am_wI G 725 n (wn t.2)) (by rw [hp]; simp) hsh ⟨?_, ?_⟩ ?_ ?_ ?_ hz ?_
      · simpa using this
      · rw [rI_wI, if_neg (by omega)]; exact e
      · intro i q hq
        have hi : i < Λ.length := (List.getElem?_eq_some_iff.mp hq).1
        rw [rI_wI, if_neg (by omega), rI_wI, if_neg (by omega)]; exact hr.2 i q hq
      · intro j hj; rw [rI_wI, if_neg (by omega)]; exact hk j hj
      · intro j hj
        rw [rI_wI]
        unfold upI
        by_cases q : j = n
        · rw [if_pos ⟨rfl, q⟩, if_pos q]
        · rw [if_neg (fun z => q z.2), if_neg q]; exact hs j (by omega)
      · simp; omega
      · intro G' k'
        have := k G' (kpA k')
        simpa only [evl, stp, t1, if_true] using this
    · rw [t1] at e1
      simp only [dz, t1, show (1 < 2) from by decide, if_true] at hz
      simp +decide (disch := omega) only [↓wm1, wb188_47 hc, wb188_59 hc, wb188_86 hc, wb188_99 hc, wb188_142 hc, w0, w1, w2, w3, w4, w99, rI_wI, rP_wI, rL_wI, rI_wR, rP_wR, is_wI, is_wR, ia_wI, ia_wR, ow_wI, ow_wR, wn_add, wn_mul, wn_cl, wn_le, wn_lt, wn_inj, wn_ne1, wn_1ne, wn_gt1, wn_le1, nb0, nb1, am_kt, am_rt, List.cons_append, List.nil_append, true_and, and_true, not_true_eq_false, not_false_eq_true, imp_f, imp_t, implies_true, Nat.zero_add, if_true, if_false, fM hsh, fr387 hsh, ia725 hsh, ow725 hsh, ia726 hsh, c1, e1.1, e1.2, hk t.2 t2]
      have := ih (pre ++ [t]) (upI f n (kn t.2)) (n + 1) (am_wI G 725 n (kn t.2)) (by rw [hp]; simp) hsh ⟨?_, ?_⟩ ?_ ?_ ?_ hz ?_
      · simpa using this
      · rw [rI_wI, if_neg (by omega)]; exact e
      · intro i q hq
        have hi : i < Λ.length := (List.getElem?_eq_some_iff.mp hq).1
        rw [rI_wI, if_neg (by omega), rI_wI, if_neg (by omega)]; exact hr.2 i q hq
      · intro j hj; rw [rI_wI, if_neg (by omega)]; exact hk j hj
      · intro j hj
        rw [rI_wI]
        unfold upI
        by_cases q : j = n
        · rw [if_pos ⟨rfl, q⟩, if_pos q]
        · rw [if_neg (fun z => q z.2), if_neg q]; exact hs j (by omega)
      · simp; omega
      · intro G' k'
        have := k G' (kpA k')
        simpa only [evl, stp, t1, show ¬ (1 = 0) from by decide, if_false, if_true] using this
    · simp only [dz, show ¬ t.1 < 2 by omega, if_false] at hz
      have c8 : 2 ≤ n := by
        by_cases q : 2 ≤ n
        · exact q
        · rw [if_neg q] at hz; cases hz
      rw [if_pos c8] at hz
      have d1 : wn n + mm = wn (n - 1) := by
        rw [show mm = wn 0 - wn 1 from rfl, ← wn_sub (show 1 ≤ n by omega)]
        rw [show (wn 0 : Int32) = 0 from rfl, Int32.zero_sub, ← Int32.sub_eq_add_neg]
      have d2 : wn (n - 1) - wn 1 = wn (n - 2) := by rw [wn_sub (by omega)]; congr 1
      have e3 := hs (n - 1) (by omega)
      have e4 := hs (n - 2) (by omega)
      simp +decide (disch := omega) only [↓wm1, wb188_47 hc, wb188_106 hc, wb188_141 hc, wb188_142 hc, w0, w1, w2, w3, w4, w99, rI_wI, rP_wI, rL_wI, rI_wR, rP_wR, is_wI, is_wR, ia_wI, ia_wR, ow_wI, ow_wR, wn_add, wn_mul, wn_cl, wn_le, wn_lt, wn_inj, wn_ne1, wn_1ne, wn_gt1, wn_le1, nb0, nb1, am_kt, am_rt, List.cons_append, List.nil_append, true_and, and_true, not_true_eq_false, not_false_eq_true, imp_f, imp_t, implies_true, Nat.zero_add, if_true, if_false, fM hsh, fr387 hsh, ia725 hsh, ow725 hsh, c1, e1.1, t1, d1, d2, e3, e4, ct187 t1 t2]
      have := ih (pre ++ [t]) (upI f (n - 2) (jn t.1 (f (n - 2)) (f (n - 1)))) (n - 1) (am_wI G 725 (n - 2) (jn t.1 (f (n - 2)) (f (n - 1)))) (by rw [hp]; simp) hsh ⟨?_, ?_⟩ ?_ ?_ ?_ hz ?_
      · simpa using this
      · rw [rI_wI, if_neg (by omega)]; exact e
      · intro i q hq
        have hi : i < Λ.length := (List.getElem?_eq_some_iff.mp hq).1
        rw [rI_wI, if_neg (by omega), rI_wI, if_neg (by omega)]; exact hr.2 i q hq
      · intro j hj; rw [rI_wI, if_neg (by omega)]; exact hk j hj
      · intro j hj
        rw [rI_wI]
        unfold upI
        by_cases q : j = n - 2
        · rw [if_pos ⟨rfl, q⟩, if_pos q]
        · rw [if_neg (fun z => q z.2), if_neg q]; exact hs j (by omega)
      · simp; omega
      · intro G' k'
        have := k G' (kpA k')
        simpa only [evl, stp, show ¬ t.1 = 0 by omega, show ¬ t.1 = 1 by omega, if_false] using this
theorem ct188 {kn : Nat → Int32} {Λ : List Tok} (hsh : Sh G) (hr : rLm G Λ) (ok : okΛ Λ) (hk : ∀ j, j < 9 → am_gI G 726 j = kn j) (k : ∀ G', Kp (fun a _ => a = 725) G G' → post (.inl (some (.int (wn (hl Λ kn))))) G') : am_C am_T (d + 3) 188 [.ref 334] G post := by
  have hc := am_C_one am_T (d + 2)
  rw [we188]
  simp +decide (disch := omega) only [↓wm1, wb188_0 hc, w0, w1, w2, w3, w4, w99, rI_wI, rP_wI, rL_wI, rI_wR, rP_wR, is_wI, is_wR, ia_wI, ia_wR, ow_wI, ow_wR, wn_add, wn_mul, wn_cl, wn_le, wn_lt, wn_inj, wn_ne1, wn_1ne, wn_gt1, wn_le1, nb0, nb1, am_kt, am_rt, List.cons_append, List.nil_append, true_and, and_true, not_true_eq_false, not_false_eq_true, imp_f, imp_t, implies_true, Nat.zero_add, if_true, if_false, fM hsh, ia726 hsh, ow725 hsh, hk 0 (by decide), hk 1 (by decide), hk 2 (by decide), hk 4 (by decide)]
  by_cases h0 : Λ = []
  · subst h0
    have e : am_gI G 334 19 = wn 0 := hr.1
    rw [wb188_39 hc]
    simp +decide (disch := omega) only [↓wm1, wb188_148 hc, wb188_160 hc, wb188_163 hc, w0, w1, w2, w3, w4, w99, rI_wI, rP_wI, rL_wI, rI_wR, rP_wR, is_wI, is_wR, ia_wI, ia_wR, ow_wI, ow_wR, wn_add, wn_mul, wn_cl, wn_le, wn_lt, wn_inj, wn_ne1, wn_1ne, wn_gt1, wn_le1, nb0, nb1, am_kt, am_rt, List.cons_append, List.nil_append, true_and, and_true, not_true_eq_false, not_false_eq_true, imp_f, imp_t, implies_true, Nat.zero_add, if_true, if_false, fM hsh, ia725 hsh, e, Nat.le_refl, ct154, ct155, clpM]
    have := k (am_wI G 725 0 (kn 0 - kn 1 - wn 3 * kn 2 - kn 4)) ((Kp.refl G).wI (by exact rfl) _)
    rw [hl_nil] at this
    exact this
  · have ok' : okL Λ := by
      rcases ok with h | h
      · contradiction
      · exact h
    refine ct188_loop (G := am_wI G 725 0 (kn 0 - kn 1 - wn 3 * kn 2 - kn 4)) (kn := kn) ok'.1 ok'.2.1 Λ [] (fun _ => 0) 0 rfl hsh ⟨?_, ?_⟩ ?_ (fun j hj => by omega) (by simp) ok'.2.2 ?_
    · rw [rI_wI, if_neg (by omega)]; exact hr.1
    · intro i q hq
      have hi : i < Λ.length := (List.getElem?_eq_some_iff.mp hq).1
      have := ok'.1
      rw [rI_wI, if_neg (by omega), rI_wI, if_neg (by omega)]; exact hr.2 i q hq
    · intro j hj; rw [rI_wI, if_neg (by omega)]; exact hk j hj
    · intro G' k'
      have := k G' (kpA k')
      simp only [hl, eff, h0, if_false] at this
      exact this
end
