/-! The law's reading: what it says, and the object's side. -/
abbrev PLw : Type := Nat → List Tok → PR (Nat × List Tok)
def sgs (c : Nat) : Nat := if c = 43 then 2 else if c = 45 then 3 else 0
def sgp (c : Nat) : Nat := if c = 42 then 4 else if c = 47 then 5 else if c = 37 then 6 else 0
def lop (sg t : Nat → Nat) (n : Nat) (pu : PLw) : Nat → PLw
  | 0, p, Λ => .inr (p, Λ)
  | f + 1, p, Λ => if p < n ∧ sg (t p) ≠ 0 then pb (pu (skb t n (p + 1)) Λ) (fun x => lop sg t n pu f x.1 (x.2 ++ [(sg (t p), 0)])) else .inr (p, Λ)
def pser (sg t : Nat → Nat) (n : Nat) (pu : PLw) : PLw := fun p Λ => pb (pu p Λ) (fun x => lop sg t n pu 150 x.1 x.2)
/-- one value, with lv levels to go -/
def pun (t : Nat → Nat) (n lv : Nat) (ps : PLw) : PLw := fun p Λ =>
  if p < n ∧ isD (t p) = true then pb (pnum t n p 0 1000) (fun x => .inr (x.2, Λ ++ [(0, x.1)]))
  else if p < n ∧ t p = 40 then (if lv = 0 then .inl (3, p) else pb (ps (skb t n (p + 1)) Λ) (fun x => pb (psgn t n x.1 41) (fun q => .inr (q, x.2))))
  else match wi2 (wrd t n p) with
    | none => .inl (1, p)
    | some k => if k < 9 then .inr (skb t n (lte t n p), Λ ++ [(1, k)]) else if lv = 0 then .inl (3, p) else
      pb (psgn t n (skb t n (lte t n p)) 91) (fun q1 => pb (ps q1 Λ) (fun x => pb (psgn t n x.1 44) (fun q2 => pb (ps q2 x.2) (fun y => pb (psgn t n y.1 93) (fun q3 => .inr (q3, y.2 ++ [(k - 2, 0)]))))))
def psm (t : Nat → Nat) (n : Nat) : Nat → PLw
  | 0 => pser sgs t n (pser sgp t n (pun t n 0 (fun _ _ => .inl (0, 0))))
  | L + 1 => pser sgs t n (pser sgp t n (pun t n (L + 1) (psm t n L)))
def plaw (t : Nat → Nat) (n : Nat) : PR (List Tok) := pb (psm t n 6 (skb t n 0) []) (fun x => if n ≤ x.1 then .inr x.2 else .inl (1, x.1))
/-- what a part reads -/
def Gd (t : Nat → Nat) (n : Nat) (pu : PLw) : Prop := ∀ p Λ q Λ', p ≤ n → pu p Λ = .inr (q, Λ') → p < q ∧ q ≤ n ∧ skb t n q = q ∧ ∃ r, Λ' = Λ ++ r ∧ r.length + p ≤ q ∧ (∀ k ∈ r, okT k) ∧ ∀ m, dz r m = some (m + 1)
theorem wi2_lt {w : List Nat} {k : Nat} (h : wi2 w = some k) : k < 11 := by
  unfold wi2 at h
  repeat' split at h
  all_goals first | (cases h; decide) | cases h
theorem wi2_nil : wi2 [] = none := rfl
theorem wrd_pos {t : Nat → Nat} {n p k : Nat} (h : wi2 (wrd t n p) = some k) : p < lte t n p := by
  by_cases c : p < lte t n p
  · exact c
  · have : wrd t n p = [] := by unfold wrd; rw [show lte t n p - p = 0 by omega]; rfl
    rw [this, wi2_nil] at h
    cases h
theorem psgn_in {t : Nat → Nat} {n p c q : Nat} (h : psgn t n p c = .inr q) : p < n ∧ t p = c ∧ q = skb t n (p + 1) ∧ p < q ∧ q ≤ n ∧ skb t n q = q := by
  unfold psgn at h
  split at h
  · rename_i c1
    cases h
    have := skb_ge t n (p + 1)
    exact ⟨c1.1, c1.2, rfl, by omega, skb_le (by omega), skb_idem (by omega)⟩
  · cases h
theorem psgn_no {t : Nat → Nat} {n p c : Nat} {e : Nat × Nat} (h : psgn t n p c = .inl e) : ¬ (p < n ∧ t p = c) := by
  unfold psgn at h
  split at h
  · cases h
  · assumption
theorem pb_inr {α β : Type} {x : PR α} {f : α → PR β} {y : β} (h : pb x f = .inr y) : ∃ a, x = .inr a ∧ f a = .inr y := by
  rcases x with e | a
  · cases h
  · exact ⟨a, rfl, h⟩
theorem Gd_lop {sg t : Nat → Nat} {n : Nat} {pu : PLw} (h : Gd t n pu) (hs : ∀ c, sg c = 0 ∨ (2 ≤ sg c ∧ sg c ≤ 8)) : ∀ f p Λ q Λ', p ≤ n → skb t n p = p → lop sg t n pu f p Λ = .inr (q, Λ') → p ≤ q ∧ q ≤ n ∧ skb t n q = q ∧ ∃ r, Λ' = Λ ++ r ∧ r.length + p ≤ q ∧ (∀ k ∈ r, okT k) ∧ ∀ m, dz r (m + 1) = some (m + 1) := by
  intro f
  induction f with
  | zero =>
    intro p Λ q Λ' hp hk e
    cases e
    exact ⟨Nat.le_refl _, hp, hk, [], by simp, by simp, by simp, fun m => rfl⟩
  | succ f ih =>
    intro p Λ q Λ' hp hk e
    unfold lop at e
    split at e
    · rename_i c
      obtain ⟨⟨q1, Λ1⟩, e1, e2⟩ := pb_inr e
      have g0 := skb_ge t n (p + 1)
      obtain ⟨a1, a2, a3, r1, rfl, a5, a6, a7⟩ := h _ _ _ _ (skb_le (by omega)) e1
      obtain ⟨b1, b2, b3, r2, rfl, b5, b6, b7⟩ := ih _ _ _ _ a2 a3 e2
      have hs1 := hs (t p)
      have hs2 := c.2
      refine ⟨by omega, b2, b3, r1 ++ ((sg (t p), 0) :: r2), by simp, by simp only [List.length_append, List.length_cons]; omega, fun k hk2 => ?_, fun m => ?_⟩
      · rw [List.mem_append, List.mem_cons] at hk2
        rcases hk2 with z | z | z
        · exact a6 k z
        · rw [z]; right; right; show 2 ≤ sg (t p) ∧ sg (t p) ≤ 8; omega
        · exact b6 k z
      · rw [dz_app, a7]
        show dz ((sg (t p), 0) :: r2) (m + 1 + 1) = _
        unfold dz
        rw [if_neg (by show ¬ sg (t p) < 2; omega), if_pos (by omega)]
        exact b7 m
    · cases e
      exact ⟨Nat.le_refl _, hp, hk, [], by simp, by simp, by simp, fun m => rfl⟩
theorem Gd_ser {sg t : Nat → Nat} {n : Nat} {pu : PLw} (h : Gd t n pu) (hs : ∀ c, sg c = 0 ∨ (2 ≤ sg c ∧ sg c ≤ 8)) : Gd t n (pser sg t n pu) := by
  intro p Λ q Λ' hp e
  obtain ⟨⟨q1, Λ1⟩, e1, e2⟩ := pb_inr e
  obtain ⟨a1, a2, a3, r1, rfl, a5, a6, a7⟩ := h _ _ _ _ hp e1
  obtain ⟨b1, b2, b3, r2, rfl, b5, b6, b7⟩ := Gd_lop h hs _ _ _ _ _ a2 a3 e2
  refine ⟨by omega, b2, b3, r1 ++ r2, by simp, by simp only [List.length_append]; omega, fun k hk2 => ?_, fun m => ?_⟩
  · rw [List.mem_append] at hk2
    rcases hk2 with z | z
    · exact a6 k z
    · exact b6 k z
  · rw [dz_app, a7]; exact b7 m
theorem sgs_ok (c : Nat) : sgs c = 0 ∨ (2 ≤ sgs c ∧ sgs c ≤ 8) := by unfold sgs; (repeat' split) <;> omega
theorem sgp_ok (c : Nat) : sgp c = 0 ∨ (2 ≤ sgp c ∧ sgp c ≤ 8) := by unfold sgp; (repeat' split) <;> omega
theorem Gd_un {t : Nat → Nat} {n lv : Nat} {ps : PLw} (h : lv = 0 ∨ Gd t n ps) : Gd t n (pun t n lv ps) := by
  intro p Λ q Λ' hp e
  unfold pun at e
  split at e
  · rename_i c
    obtain ⟨⟨v, q1⟩, e1, e2⟩ := pb_inr e
    cases e2
    unfold pnum at e1
    rw [if_pos c] at e1
    split at e1
    · rename_i c2
      have hd := dge_gt c.1 c.2
      have hl := dge_le (t := t) hp
      have g0 := skb_ge t n (dge t n p)
      cases e1
      refine ⟨by omega, skb_le hl, skb_idem hl, [(0, _)], rfl, by simp only [List.length_cons, List.length_nil]; omega, fun k hk => ?_, fun m => rfl⟩
      rw [List.mem_singleton] at hk
      rw [hk]; left; exact ⟨rfl, by show dvl t p (dge t n p - p) ≤ 999; omega⟩
    · cases e1
  · split at e
    · rename_i c
      split at e
      · cases e
      · rename_i c2
        have h := h.resolve_left c2
        obtain ⟨⟨q1, Λ1⟩, e1, e2⟩ := pb_inr e
        obtain ⟨q2, e3, e4⟩ := pb_inr e2
        cases e4
        have g0 := skb_ge t n (p + 1)
        obtain ⟨a1, a2, a3, r1, rfl, a5, a6, a7⟩ := h _ _ _ _ (skb_le (by omega)) e1
        obtain ⟨b1, b2, b3, b4, b5, b6⟩ := psgn_in e3
        exact ⟨by omega, b5, b6, r1, rfl, by omega, a6, a7⟩
    · split at e
      · cases e
      · rename_i k hk
        have hk11 := wi2_lt hk
        have hlt := wrd_pos hk
        have hl := lte_le (t := t) hp
        have g0 := skb_ge t n (lte t n p)
        split at e
        · rename_i c9
          cases e
          refine ⟨by omega, skb_le hl, skb_idem hl, [(1, k)], rfl, by simp only [List.length_cons, List.length_nil]; omega, fun k hk => ?_, fun m => rfl⟩
          rw [List.mem_singleton] at hk
          rw [hk]; right; left; exact ⟨rfl, c9⟩
        · split at e
          · cases e
          · rename_i c9 c2
            have h := h.resolve_left c2
            obtain ⟨q1, e1, e⟩ := pb_inr e
            obtain ⟨⟨x1, Λ1⟩, e2, e⟩ := pb_inr e
            obtain ⟨q2, e3, e⟩ := pb_inr e
            obtain ⟨⟨x2, Λ2⟩, e4, e⟩ := pb_inr e
            obtain ⟨q3, e5, e⟩ := pb_inr e
            cases e
            obtain ⟨-, -, -, b4, b5, b6⟩ := psgn_in e1
            obtain ⟨a1, a2, a3, r1, rfl, a5, a6, a7⟩ := h _ _ _ _ b5 e2
            obtain ⟨-, -, -, d4, d5, d6⟩ := psgn_in e3
            obtain ⟨f1, f2, f3, r2, rfl, f5, f6, f7⟩ := h _ _ _ _ d5 e4
            obtain ⟨-, -, -, g4, g5, g6⟩ := psgn_in e5
            refine ⟨by omega, g5, g6, r1 ++ (r2 ++ [(k - 2, 0)]), by simp, by simp only [List.length_append, List.length_cons, List.length_nil]; omega, fun j hj => ?_, fun m => ?_⟩
            · rw [List.mem_append, List.mem_append, List.mem_singleton] at hj
              rcases hj with z | z | z
              · exact a6 j z
              · exact f6 j z
              · rw [z]; right; right; show 2 ≤ k - 2 ∧ k - 2 ≤ 8; omega
            · rw [dz_app, a7]
              show dz (r2 ++ [(k - 2, 0)]) (m + 1) = _
              rw [dz_app, f7]
              show dz [(k - 2, 0)] (m + 1 + 1) = _
              unfold dz
              rw [if_neg (by show ¬ k - 2 < 2; omega), if_pos (by omega)]
              rfl
theorem Gd_sm {t : Nat → Nat} {n : Nat} (L : Nat) : Gd t n (psm t n L) := by
  induction L with
  | zero => exact Gd_ser (Gd_ser (Gd_un (Or.inl rfl)) sgp_ok) sgs_ok
  | succ L ih => exact Gd_ser (Gd_ser (Gd_un (Or.inr ih)) sgp_ok) sgs_ok
theorem plaw_ok {t : Nat → Nat} {n : Nat} {Λ : List Tok} (hn : n ≤ 150) (h : plaw t n = .inr Λ) : okL Λ := by
  obtain ⟨⟨q, Λ'⟩, e1, e2⟩ := pb_inr h
  split at e2
  · cases e2
    obtain ⟨a1, a2, a3, r1, e, a5, a6, a7⟩ := Gd_sm 6 _ _ _ _ (skb_le (Nat.zero_le n)) e1
    rw [List.nil_append] at e
    rw [e]
    exact ⟨by show r1.length ≤ 150; omega, a6, a7 0⟩
  · cases e2
/-! the object's side -/
/-- the tape and a law's signs -/
def LT (l : Nat) : Nat → Nat → Prop := fun a i => a = 1 ∨ (a = l ∧ i = 2) ∨ a = l + 1
def CP (D y l : Nat) (t : Nat → Nat) (n o : Nat) (pu : PLw) : Prop := ∀ (G : am_G) (p : Nat) (Λ : List Tok) (post : am_O → am_G → Prop), Sh G → Wt G 100005 60 (cx tx2) → rT G t n p o → rL G l Λ → Λ.length ≤ p →
  (∀ q Λ' G', pu p Λ = .inr (q, Λ') → rT G' t n q o → rL G' l Λ' → Kp (LT l) G G' → post (.inl (some (.int (wn 1)))) G') →
  (∀ k w m G', pu p Λ = .inl (k, w) → fT G' k w → am_gI G' l 2 = wn m → m ≤ 150 → Kp (LT l) G G' → post (.inl (some (.int (wn 0)))) G') → am_C am_T D y [.ref l, .ref 1] G post
section
variable {G : am_G} {d l n o p : Nat} {t : Nat → Nat} {pu : PLw} {post : am_O → am_G → Prop} {Λ : List Tok}
theorem T1.lt {G' : am_G} (k : Kp T1 G G') : Kp (LT l) G G' := k.mono (fun a i z => Or.inl z)
theorem LSc.lt {G' : am_G} (k : Kp (LSc l) G G') : Kp (LT l) G G' := k.mono (fun a i z => by unfold LSc at z; unfold LT; omega)
theorem rL.t1 {G' : am_G} (h : rL G l Λ) (hl : l = 20 ∨ l = 23) (k : Kp T1 G G') : rL G' l Λ := ⟨by rw [k.i (by unfold T1; omega)]; exact h.1, fun i t ht => by rw [k.i (by unfold T1; omega)]; exact h.2 i t ht⟩
theorem rT.ls {G' : am_G} (h : rT G t n p o) (hl : l = 20 ∨ l = 23) (k : Kp (LSc l) G G') : rT G' t n p o := h.kp k (fun a i z => by unfold LSc at z; omega)
theorem Wt.lt {G' : am_G} {A N : Nat} {c : Nat → Nat} (h : Wt G A N c) (hl : l = 20 ∨ l = 23) (k : Kp (LT l) G G') : Wt G' A N c := h.kp k (fun a i z => by unfold LT at z; omega)
/-- whatever is laid there -/
theorem ct24j {x : Int32} {m : Nat} (hsh : Sh G) (hl' : l = 20 ∨ l = 23) (e : am_gI G l 2 = wn m) (hm : m ≤ 150) (k : ∀ m' G', am_gI G' l 2 = wn m' → m' ≤ 150 → Kp (LSc l) G G' → post (.inl none) G') : am_C am_T (d + 1) 24 [.ref l, .int x] G post := by
  have hc := am_C_one am_T d
  have n1 : ¬ l = l + 1 := by omega
  rw [we24]
  by_cases c1 : 150 ≤ m
  · simp +decide (disch := omega) only [↓wm1, wb24_0 hc, wb24_10 hc, wb24_30 hc, w0, w1, w150, rI_wI, rP_wI, rL_wI, rI_wR, rP_wR, is_wI, is_wR, ia_wI, ia_wR, ow_wI, ow_wR, wn_add, wn_mul, wn_cl, wn_le, wn_lt, wn_inj, wn_ne1, wn_1ne, wn_gt1, wn_le1, nb0, nb1, am_kt, am_rt, List.cons_append, List.nil_append, true_and, and_true, not_true_eq_false, not_false_eq_true, imp_f, imp_t, implies_true, Nat.zero_add, if_true, if_false, false_and, and_false, fL hsh hl', e, c1]
    exact k m G e hm (Kp.refl G)
  · simp +decide (disch := omega) only [↓wm1, wb24_0 hc, wb24_10 hc, wb24_30 hc, w0, w1, w150, rI_wI, rP_wI, rL_wI, rI_wR, rP_wR, is_wI, is_wR, ia_wI, ia_wR, ow_wI, ow_wR, wn_add, wn_mul, wn_cl, wn_le, wn_lt, wn_inj, wn_ne1, wn_1ne, wn_gt1, wn_le1, nb0, nb1, am_kt, am_rt, List.cons_append, List.nil_append, true_and, and_true, not_true_eq_false, not_false_eq_true, imp_f, imp_t, implies_true, Nat.zero_add, if_true, if_false, false_and, and_false, fL hsh hl', e, c1, n1]
    refine k (m + 1) _ ?_ (by omega) (((Kp.refl G).wI (Or.inr rfl) _).wI (Or.inl ⟨rfl, rfl⟩) _)
    rw [rI_wI, if_pos ⟨rfl, rfl⟩]
theorem ct26_s {i : Nat} (hsh : Sh G) (h : rT G t n p o) (hi : i < 150) {o3 : Option Value}
    (kno : ¬ (p < n ∧ sgs (t p) ≠ 0) → post (.inl (some (.int (wn 1)))) G)
    (kyes : ∀ G', (p < n ∧ sgs (t p) ≠ 0) → rT G' t n (skb t n (p + 1)) o → Kp T1 G G' → am_W (am_C am_T (d + 2)) am_26 post 58 [some (.ref l), some (.ref 1), some (.int (wn i)), some (.int (wn (1998 + sgs (t p))))] [] G') :
    am_W (am_C am_T (d + 2)) am_26 post 12 [some (.ref l), some (.ref 1), some (.int (wn i)), o3] [] G := by
  have hc := am_C_one am_T (d + 2)
  have c1 : ¬ 150 ≤ i := by omega
  rw [wb26_12 hc]
  simp +decide (disch := omega) only [↓wm1, wb26_19 hc, w0, w1, w43, w45, w150, w2000, w2001, rI_wI, rP_wI, rL_wI, rI_wR, rP_wR, is_wI, is_wR, ia_wI, ia_wR, ow_wI, ow_wR, wn_add, wn_mul, wn_cl, wn_le, wn_lt, wn_inj, wn_ne1, wn_1ne, wn_gt1, wn_le1, nb0, nb1, am_kt, am_rt, List.cons_append, List.nil_append, true_and, and_true, not_true_eq_false, not_false_eq_true, imp_f, imp_t, implies_true, Nat.zero_add, if_true, if_false, false_and, and_false, c1, fC hsh]
  refine ct71 hsh h (by decide) (fun p' G1 e1 h1 q1 k1 => ?_) (fun e1 => ?_)
  · obtain ⟨a1, a2, rfl, -⟩ := psgn_in e1
    have hs : sgs (t p) = 2 := by rw [a2]; rfl
    have := kyes G1 ⟨a1, by rw [hs]; decide⟩ h1 k1
    rw [hs] at this
    simp +decide (disch := omega) only [↓wm1, wb26_25 hc, wb26_28 hc, wb26_50 hc, w0, w1, w43, w45, w150, w2000, w2001, rI_wI, rP_wI, rL_wI, rI_wR, rP_wR, is_wI, is_wR, ia_wI, ia_wR, ow_wI, ow_wR, wn_add, wn_mul, wn_cl, wn_le, wn_lt, wn_inj, wn_ne1, wn_1ne, wn_gt1, wn_le1, nb0, nb1, am_kt, am_rt, List.cons_append, List.nil_append, true_and, and_true, not_true_eq_false, not_false_eq_true, imp_f, imp_t, implies_true, Nat.zero_add, if_true, if_false, false_and, and_false]
    exact this
  · have n1 := psgn_no e1
    simp +decide (disch := omega) only [↓wm1, wb26_25 hc, wb26_34 hc, w0, w1, w43, w45, w150, w2000, w2001, rI_wI, rP_wI, rL_wI, rI_wR, rP_wR, is_wI, is_wR, ia_wI, ia_wR, ow_wI, ow_wR, wn_add, wn_mul, wn_cl, wn_le, wn_lt, wn_inj, wn_ne1, wn_1ne, wn_gt1, wn_le1, nb0, nb1, am_kt, am_rt, List.cons_append, List.nil_append, true_and, and_true, not_true_eq_false, not_false_eq_true, imp_f, imp_t, implies_true, Nat.zero_add, if_true, if_false, false_and, and_false, fC hsh]
    refine ct71 hsh h (by decide) (fun p' G1 e1 h1 q1 k1 => ?_) (fun e1 => ?_)
    · obtain ⟨a1, a2, rfl, -⟩ := psgn_in e1
      have hs : sgs (t p) = 3 := by rw [a2]; rfl
      have := kyes G1 ⟨a1, by rw [hs]; decide⟩ h1 k1
      rw [hs] at this
      simp +decide (disch := omega) only [↓wm1, wb26_40 hc, wb26_43 hc, wb26_50 hc, w0, w1, w43, w45, w150, w2000, w2001, rI_wI, rP_wI, rL_wI, rI_wR, rP_wR, is_wI, is_wR, ia_wI, ia_wR, ow_wI, ow_wR, wn_add, wn_mul, wn_cl, wn_le, wn_lt, wn_inj, wn_ne1, wn_1ne, wn_gt1, wn_le1, nb0, nb1, am_kt, am_rt, List.cons_append, List.nil_append, true_and, and_true, not_true_eq_false, not_false_eq_true, imp_f, imp_t, implies_true, Nat.zero_add, if_true, if_false, false_and, and_false]
      exact this
    · have n2 := psgn_no e1
      simp +decide (disch := omega) only [↓wm1, wb26_40 hc, wb26_49 hc, wb26_50 hc, wb26_56 hc, w0, w1, w43, w45, w150, w2000, w2001, rI_wI, rP_wI, rL_wI, rI_wR, rP_wR, is_wI, is_wR, ia_wI, ia_wR, ow_wI, ow_wR, wn_add, wn_mul, wn_cl, wn_le, wn_lt, wn_inj, wn_ne1, wn_1ne, wn_gt1, wn_le1, nb0, nb1, am_kt, am_rt, List.cons_append, List.nil_append, true_and, and_true, not_true_eq_false, not_false_eq_true, imp_f, imp_t, implies_true, Nat.zero_add, if_true, if_false, false_and, and_false]
      refine kno (fun z => z.2 ?_)
      have z1 : ¬ t p = 43 := fun y => n1 ⟨z.1, y⟩
      have z2 : ¬ t p = 45 := fun y => n2 ⟨z.1, y⟩
      unfold sgs
      rw [if_neg z1, if_neg z2]
theorem ct27_s {i : Nat} (hsh : Sh G) (h : rT G t n p o) (hi : i < 150) {o3 : Option Value}
    (kno : ¬ (p < n ∧ sgp (t p) ≠ 0) → post (.inl (some (.int (wn 1)))) G)
    (kyes : ∀ G', (p < n ∧ sgp (t p) ≠ 0) → rT G' t n (skb t n (p + 1)) o → Kp T1 G G' → am_W (am_C am_T (d + 2)) am_27 post 73 [some (.ref l), some (.ref 1), some (.int (wn i)), some (.int (wn (1998 + sgp (t p))))] [] G') :
    am_W (am_C am_T (d + 2)) am_27 post 12 [some (.ref l), some (.ref 1), some (.int (wn i)), o3] [] G := by
  have hc := am_C_one am_T (d + 2)
  have c1 : ¬ 150 ≤ i := by omega
  rw [wb27_12 hc]
  simp +decide (disch := omega) only [↓wm1, wb27_19 hc, w0, w1, w37, w42, w47, w150, w2002, w2003, w2004, rI_wI, rP_wI, rL_wI, rI_wR, rP_wR, is_wI, is_wR, ia_wI, ia_wR, ow_wI, ow_wR, wn_add, wn_mul, wn_cl, wn_le, wn_lt, wn_inj, wn_ne1, wn_1ne, wn_gt1, wn_le1, nb0, nb1, am_kt, am_rt, List.cons_append, List.nil_append, true_and, and_true, not_true_eq_false, not_false_eq_true, imp_f, imp_t, implies_true, Nat.zero_add, if_true, if_false, false_and, and_false, c1, fC hsh]
  refine ct71 hsh h (by decide) (fun p' G1 e1 h1 q1 k1 => ?_) (fun e1 => ?_)
  · obtain ⟨a1, a2, rfl, -⟩ := psgn_in e1
    have hs : sgp (t p) = 4 := by rw [a2]; rfl
    have := kyes G1 ⟨a1, by rw [hs]; decide⟩ h1 k1
    rw [hs] at this
    simp +decide (disch := omega) only [↓wm1, wb27_25 hc, wb27_28 hc, wb27_65 hc, w0, w1, w37, w42, w47, w150, w2002, w2003, w2004, rI_wI, rP_wI, rL_wI, rI_wR, rP_wR, is_wI, is_wR, ia_wI, ia_wR, ow_wI, ow_wR, wn_add, wn_mul, wn_cl, wn_le, wn_lt, wn_inj, wn_ne1, wn_1ne, wn_gt1, wn_le1, nb0, nb1, am_kt, am_rt, List.cons_append, List.nil_append, true_and, and_true, not_true_eq_false, not_false_eq_true, imp_f, imp_t, implies_true, Nat.zero_add, if_true, if_false, false_and, and_false]
    exact this
  · have n1 := psgn_no e1
    simp +decide (disch := omega) only [↓wm1, wb27_25 hc, wb27_34 hc, w0, w1, w37, w42, w47, w150, w2002, w2003, w2004, rI_wI, rP_wI, rL_wI, rI_wR, rP_wR, is_wI, is_wR, ia_wI, ia_wR, ow_wI, ow_wR, wn_add, wn_mul, wn_cl, wn_le, wn_lt, wn_inj, wn_ne1, wn_1ne, wn_gt1, wn_le1, nb0, nb1, am_kt, am_rt, List.cons_append, List.nil_append, true_and, and_true, not_true_eq_false, not_false_eq_true, imp_f, imp_t, implies_true, Nat.zero_add, if_true, if_false, false_and, and_false, fC hsh]
    refine ct71 hsh h (by decide) (fun p' G1 e1 h1 q1 k1 => ?_) (fun e1 => ?_)
    · obtain ⟨a1, a2, rfl, -⟩ := psgn_in e1
      have hs : sgp (t p) = 5 := by rw [a2]; rfl
      have := kyes G1 ⟨a1, by rw [hs]; decide⟩ h1 k1
      rw [hs] at this
      simp +decide (disch := omega) only [↓wm1, wb27_40 hc, wb27_43 hc, wb27_65 hc, w0, w1, w37, w42, w47, w150, w2002, w2003, w2004, rI_wI, rP_wI, rL_wI, rI_wR, rP_wR, is_wI, is_wR, ia_wI, ia_wR, ow_wI, ow_wR, wn_add, wn_mul, wn_cl, wn_le, wn_lt, wn_inj, wn_ne1, wn_1ne, wn_gt1, wn_le1, nb0, nb1, am_kt, am_rt, List.cons_append, List.nil_append, true_and, and_true, not_true_eq_false, not_false_eq_true, imp_f, imp_t, implies_true, Nat.zero_add, if_true, if_false, false_and, and_false]
      exact this
    · have n2 := psgn_no e1
      simp +decide (disch := omega) only [↓wm1, wb27_40 hc, wb27_49 hc, w0, w1, w37, w42, w47, w150, w2002, w2003, w2004, rI_wI, rP_wI, rL_wI, rI_wR, rP_wR, is_wI, is_wR, ia_wI, ia_wR, ow_wI, ow_wR, wn_add, wn_mul, wn_cl, wn_le, wn_lt, wn_inj, wn_ne1, wn_1ne, wn_gt1, wn_le1, nb0, nb1, am_kt, am_rt, List.cons_append, List.nil_append, true_and, and_true, not_true_eq_false, not_false_eq_true, imp_f, imp_t, implies_true, Nat.zero_add, if_true, if_false, false_and, and_false, fC hsh]
      refine ct71 hsh h (by decide) (fun p' G1 e1 h1 q1 k1 => ?_) (fun e1 => ?_)
      · obtain ⟨a1, a2, rfl, -⟩ := psgn_in e1
        have hs : sgp (t p) = 6 := by rw [a2]; rfl
        have := kyes G1 ⟨a1, by rw [hs]; decide⟩ h1 k1
        rw [hs] at this
        simp +decide (disch := omega) only [↓wm1, wb27_55 hc, wb27_58 hc, wb27_65 hc, w0, w1, w37, w42, w47, w150, w2002, w2003, w2004, rI_wI, rP_wI, rL_wI, rI_wR, rP_wR, is_wI, is_wR, ia_wI, ia_wR, ow_wI, ow_wR, wn_add, wn_mul, wn_cl, wn_le, wn_lt, wn_inj, wn_ne1, wn_1ne, wn_gt1, wn_le1, nb0, nb1, am_kt, am_rt, List.cons_append, List.nil_append, true_and, and_true, not_true_eq_false, not_false_eq_true, imp_f, imp_t, implies_true, Nat.zero_add, if_true, if_false, false_and, and_false]
        exact this
      · have n3 := psgn_no e1
        simp +decide (disch := omega) only [↓wm1, wb27_55 hc, wb27_64 hc, wb27_65 hc, wb27_71 hc, w0, w1, w37, w42, w47, w150, w2002, w2003, w2004, rI_wI, rP_wI, rL_wI, rI_wR, rP_wR, is_wI, is_wR, ia_wI, ia_wR, ow_wI, ow_wR, wn_add, wn_mul, wn_cl, wn_le, wn_lt, wn_inj, wn_ne1, wn_1ne, wn_gt1, wn_le1, nb0, nb1, am_kt, am_rt, List.cons_append, List.nil_append, true_and, and_true, not_true_eq_false, not_false_eq_true, imp_f, imp_t, implies_true, Nat.zero_add, if_true, if_false, false_and, and_false]
        refine kno (fun z => z.2 ?_)
        have z1 : ¬ t p = 42 := fun y => n1 ⟨z.1, y⟩
        have z2 : ¬ t p = 47 := fun y => n2 ⟨z.1, y⟩
        have z3 : ¬ t p = 37 := fun y => n3 ⟨z.1, y⟩
        unfold sgp
        rw [if_neg z1, if_neg z2, if_neg z3]
theorem CP26 (hl : l = 20 ∨ l = 23) (hg : Gd t n pu) (hn : n ≤ 150) (h : CP (d + 2) 27 l t n o pu) : CP (d + 3) 26 l t n o (pser sgs t n pu) := by
  intro G p Λ post hsh hW hT hL hlen kok kbad
  have hc := am_C_one am_T (d + 2)
  have hlt : ∀ x, 2 ≤ x → x ≤ 8 → tkc (x, 0) = 1998 + x := fun x h1 h2 => by
    show (if x = 0 then 0 else if x = 1 then 1000 + 0 else 1998 + x) = _
    rw [if_neg (by omega), if_neg (by omega)]
  have key : ∀ (f i p' : Nat) (Λ' : List Tok) (G1 : am_G) (o3 : Option Value), f + i = 150 → Sh G1 → rT G1 t n p' o → rL G1 l Λ' → Λ'.length ≤ p' → Kp (LT l) G G1 → pser sgs t n pu p Λ = lop sgs t n pu f p' Λ' →
      am_W (am_C am_T (d + 2)) am_26 post 12 [some (.ref l), some (.ref 1), some (.int (wn i)), o3] [] G1 := by
    intro f
    induction f with
    | zero =>
      intro i p' Λ' G1 o3 hf s1 t1 l1 len1 k1 e
      have hi : i = 150 := by omega
      subst hi
      rw [wb26_12 hc]
      simp +decide (disch := omega) only [↓wm1, wb26_79 hc, w0, w1, w43, w45, w150, w2000, w2001, rI_wI, rP_wI, rL_wI, rI_wR, rP_wR, is_wI, is_wR, ia_wI, ia_wR, ow_wI, ow_wR, wn_add, wn_mul, wn_cl, wn_le, wn_lt, wn_inj, wn_ne1, wn_1ne, wn_gt1, wn_le1, nb0, nb1, am_kt, am_rt, List.cons_append, List.nil_append, true_and, and_true, not_true_eq_false, not_false_eq_true, imp_f, imp_t, implies_true, Nat.zero_add, if_true, if_false, false_and, and_false, Nat.le_refl]
      exact kok p' Λ' G1 e t1 l1 k1
    | succ f ih =>
      intro i p' Λ' G1 o3 hf s1 t1 l1 len1 k1 e
      unfold lop at e
      refine ct26_s s1 t1 (by omega) (fun c => ?_) (fun G2 c t2 k2 => ?_)
      · rw [if_neg c] at e
        exact kok p' Λ' G1 e t1 l1 k1
      · rw [if_pos c] at e
        have s2 := s1.kp k2
        have g0 := skb_ge t n (p' + 1)
        have gn : skb t n (p' + 1) ≤ n := skb_le (by omega)
        have hs := sgs_ok (t p')
        have hs2 := c.2
        have kk2 : Kp (LT l) G G2 := k1.trans (T1.lt k2)
        simp +decide (disch := omega) only [↓wm1, wb26_58 hc, w0, w1, w43, w45, w150, w2000, w2001, rI_wI, rP_wI, rL_wI, rI_wR, rP_wR, is_wI, is_wR, ia_wI, ia_wR, ow_wI, ow_wR, wn_add, wn_mul, wn_cl, wn_le, wn_lt, wn_inj, wn_ne1, wn_1ne, wn_gt1, wn_le1, nb0, nb1, am_kt, am_rt, List.cons_append, List.nil_append, true_and, and_true, not_true_eq_false, not_false_eq_true, imp_f, imp_t, implies_true, Nat.zero_add, if_true, if_false, false_and, and_false, fL s2 hl]
        refine h G2 _ Λ' _ s2 (hW.lt hl kk2) t2 (l1.t1 hl k2) (by omega) (fun q Λ2 G3 e3 t3 l3 k3 => ?_) (fun k w m G3 e3 f3 m3 hm3 k3 => ?_)
        · have s3 := s2.kp k3
          obtain ⟨a1, a2, a3, r1, rfl, a5, a6, a7⟩ := hg _ _ _ _ gn e3
          simp only [e3, pb] at e
          have hlen2 : (Λ' ++ r1).length < q := by simp only [List.length_append]; omega
          simp +decide (disch := omega) only [↓wm1, wb26_63 hc, wb26_68 hc, w0, w1, w43, w45, w150, w2000, w2001, rI_wI, rP_wI, rL_wI, rI_wR, rP_wR, is_wI, is_wR, ia_wI, ia_wR, ow_wI, ow_wR, wn_add, wn_mul, wn_cl, wn_le, wn_lt, wn_inj, wn_ne1, wn_1ne, wn_gt1, wn_le1, nb0, nb1, am_kt, am_rt, List.cons_append, List.nil_append, true_and, and_true, not_true_eq_false, not_false_eq_true, imp_f, imp_t, implies_true, Nat.zero_add, if_true, if_false, false_and, and_false, fL s3 hl]
          rw [← hlt (sgs (t p')) (by omega) (by omega)]
          refine ct24 (sgs (t p'), 0) s3 hl l3 (by omega) (fun G4 l4 k4 => ?_)
          simp +decide (disch := omega) only [↓wm1, wb26_73 hc, w0, w1, w43, w45, w150, w2000, w2001, rI_wI, rP_wI, rL_wI, rI_wR, rP_wR, is_wI, is_wR, ia_wI, ia_wR, ow_wI, ow_wR, wn_add, wn_mul, wn_cl, wn_le, wn_lt, wn_inj, wn_ne1, wn_1ne, wn_gt1, wn_le1, nb0, nb1, am_kt, am_rt, List.cons_append, List.nil_append, true_and, and_true, not_true_eq_false, not_false_eq_true, imp_f, imp_t, implies_true, Nat.zero_add, if_true, if_false, false_and, and_false]
          exact ih (i + 1) q _ G4 _ (by omega) (s3.kp k4) (t3.ls hl k4) l4 (by simp only [List.length_append, List.length_cons, List.length_nil] at hlen2 ⊢; omega) ((kk2.trans k3).trans (LSc.lt k4)) e
        · simp only [e3, pb] at e
          simp +decide (disch := omega) only [↓wm1, wb26_63 hc, wb26_66 hc, w0, w1, w43, w45, w150, w2000, w2001, rI_wI, rP_wI, rL_wI, rI_wR, rP_wR, is_wI, is_wR, ia_wI, ia_wR, ow_wI, ow_wR, wn_add, wn_mul, wn_cl, wn_le, wn_lt, wn_inj, wn_ne1, wn_1ne, wn_gt1, wn_le1, nb0, nb1, am_kt, am_rt, List.cons_append, List.nil_append, true_and, and_true, not_true_eq_false, not_false_eq_true, imp_f, imp_t, implies_true, Nat.zero_add, if_true, if_false, false_and, and_false]
          exact kbad k w m G3 e f3 m3 hm3 (kk2.trans k3)
  have hpn := hT.2.2.1
  rw [we26]
  simp +decide (disch := omega) only [↓wm1, wb26_0 hc, w0, w1, w43, w45, w150, w2000, w2001, rI_wI, rP_wI, rL_wI, rI_wR, rP_wR, is_wI, is_wR, ia_wI, ia_wR, ow_wI, ow_wR, wn_add, wn_mul, wn_cl, wn_le, wn_lt, wn_inj, wn_ne1, wn_1ne, wn_gt1, wn_le1, nb0, nb1, am_kt, am_rt, List.cons_append, List.nil_append, true_and, and_true, not_true_eq_false, not_false_eq_true, imp_f, imp_t, implies_true, Nat.zero_add, if_true, if_false, false_and, and_false, fL hsh hl]
  refine h G p Λ _ hsh hW hT hL hlen (fun q Λ1 G1 e1 t1 l1 k1 => ?_) (fun k w m G1 e1 f1 m1 hm1 k1 => ?_)
  · obtain ⟨a1, a2, a3, r1, rfl, a5, a6, a7⟩ := hg _ _ _ _ hpn e1
    simp +decide (disch := omega) only [↓wm1, wb26_5 hc, wb26_10 hc, w0, w1, w43, w45, w150, w2000, w2001, rI_wI, rP_wI, rL_wI, rI_wR, rP_wR, is_wI, is_wR, ia_wI, ia_wR, ow_wI, ow_wR, wn_add, wn_mul, wn_cl, wn_le, wn_lt, wn_inj, wn_ne1, wn_1ne, wn_gt1, wn_le1, nb0, nb1, am_kt, am_rt, List.cons_append, List.nil_append, true_and, and_true, not_true_eq_false, not_false_eq_true, imp_f, imp_t, implies_true, Nat.zero_add, if_true, if_false, false_and, and_false]
    refine key 150 0 q _ G1 _ rfl (hsh.kp k1) t1 l1 (by simp only [List.length_append]; omega) k1 ?_
    unfold pser
    simp only [e1, pb]
  · simp +decide (disch := omega) only [↓wm1, wb26_5 hc, wb26_8 hc, w0, w1, w43, w45, w150, w2000, w2001, rI_wI, rP_wI, rL_wI, rI_wR, rP_wR, is_wI, is_wR, ia_wI, ia_wR, ow_wI, ow_wR, wn_add, wn_mul, wn_cl, wn_le, wn_lt, wn_inj, wn_ne1, wn_1ne, wn_gt1, wn_le1, nb0, nb1, am_kt, am_rt, List.cons_append, List.nil_append, true_and, and_true, not_true_eq_false, not_false_eq_true, imp_f, imp_t, implies_true, Nat.zero_add, if_true, if_false, false_and, and_false]
    refine kbad k w m G1 ?_ f1 m1 hm1 k1
    unfold pser
    simp only [e1, pb]
theorem CP27 (hl : l = 20 ∨ l = 23) (hg : Gd t n pu) (hn : n ≤ 150) (h : CP (d + 2) 28 l t n o pu) : CP (d + 3) 27 l t n o (pser sgp t n pu) := by
  intro G p Λ post hsh hW hT hL hlen kok kbad
  have hc := am_C_one am_T (d + 2)
  have hlt : ∀ x, 2 ≤ x → x ≤ 8 → tkc (x, 0) = 1998 + x := fun x h1 h2 => by
    show (if x = 0 then 0 else if x = 1 then 1000 + 0 else 1998 + x) = _
    rw [if_neg (by omega), if_neg (by omega)]
  have key : ∀ (f i p' : Nat) (Λ' : List Tok) (G1 : am_G) (o3 : Option Value), f + i = 150 → Sh G1 → rT G1 t n p' o → rL G1 l Λ' → Λ'.length ≤ p' → Kp (LT l) G G1 → pser sgp t n pu p Λ = lop sgp t n pu f p' Λ' →
      am_W (am_C am_T (d + 2)) am_27 post 12 [some (.ref l), some (.ref 1), some (.int (wn i)), o3] [] G1 := by
    intro f
    induction f with
    | zero =>
      intro i p' Λ' G1 o3 hf s1 t1 l1 len1 k1 e
      have hi : i = 150 := by omega
      subst hi
      rw [wb27_12 hc]
      simp +decide (disch := omega) only [↓wm1, wb27_94 hc, w0, w1, w37, w42, w47, w150, w2002, w2003, w2004, rI_wI, rP_wI, rL_wI, rI_wR, rP_wR, is_wI, is_wR, ia_wI, ia_wR, ow_wI, ow_wR, wn_add, wn_mul, wn_cl, wn_le, wn_lt, wn_inj, wn_ne1, wn_1ne, wn_gt1, wn_le1, nb0, nb1, am_kt, am_rt, List.cons_append, List.nil_append, true_and, and_true, not_true_eq_false, not_false_eq_true, imp_f, imp_t, implies_true, Nat.zero_add, if_true, if_false, false_and, and_false, Nat.le_refl]
      exact kok p' Λ' G1 e t1 l1 k1
    | succ f ih =>
      intro i p' Λ' G1 o3 hf s1 t1 l1 len1 k1 e
      unfold lop at e
      refine ct27_s s1 t1 (by omega) (fun c => ?_) (fun G2 c t2 k2 => ?_)
      · rw [if_neg c] at e
        exact kok p' Λ' G1 e t1 l1 k1
      · rw [if_pos c] at e
        have s2 := s1.kp k2
        have g0 := skb_ge t n (p' + 1)
        have gn : skb t n (p' + 1) ≤ n := skb_le (by omega)
        have hs := sgp_ok (t p')
        have hs2 := c.2
        have kk2 : Kp (LT l) G G2 := k1.trans (T1.lt k2)
        simp +decide (disch := omega) only [↓wm1, wb27_73 hc, w0, w1, w37, w42, w47, w150, w2002, w2003, w2004, rI_wI, rP_wI, rL_wI, rI_wR, rP_wR, is_wI, is_wR, ia_wI, ia_wR, ow_wI, ow_wR, wn_add, wn_mul, wn_cl, wn_le, wn_lt, wn_inj, wn_ne1, wn_1ne, wn_gt1, wn_le1, nb0, nb1, am_kt, am_rt, List.cons_append, List.nil_append, true_and, and_true, not_true_eq_false, not_false_eq_true, imp_f, imp_t, implies_true, Nat.zero_add, if_true, if_false, false_and, and_false, fL s2 hl]
        refine h G2 _ Λ' _ s2 (hW.lt hl kk2) t2 (l1.t1 hl k2) (by omega) (fun q Λ2 G3 e3 t3 l3 k3 => ?_) (fun k w m G3 e3 f3 m3 hm3 k3 => ?_)
        · have s3 := s2.kp k3
          obtain ⟨a1, a2, a3, r1, rfl, a5, a6, a7⟩ := hg _ _ _ _ gn e3
          simp only [e3, pb] at e
          have hlen2 : (Λ' ++ r1).length < q := by simp only [List.length_append]; omega
          simp +decide (disch := omega) only [↓wm1, wb27_78 hc, wb27_83 hc, w0, w1, w37, w42, w47, w150, w2002, w2003, w2004, rI_wI, rP_wI, rL_wI, rI_wR, rP_wR, is_wI, is_wR, ia_wI, ia_wR, ow_wI, ow_wR, wn_add, wn_mul, wn_cl, wn_le, wn_lt, wn_inj, wn_ne1, wn_1ne, wn_gt1, wn_le1, nb0, nb1, am_kt, am_rt, List.cons_append, List.nil_append, true_and, and_true, not_true_eq_false, not_false_eq_true, imp_f, imp_t, implies_true, Nat.zero_add, if_true, if_false, false_and, and_false, fL s3 hl]
          rw [← hlt (sgp (t p')) (by omega) (by omega)]
          refine ct24 (sgp (t p'), 0) s3 hl l3 (by omega) (fun G4 l4 k4 => ?_)
          simp +decide (disch := omega) only [↓wm1, wb27_88 hc, w0, w1, w37, w42, w47, w150, w2002, w2003, w2004, rI_wI, rP_wI, rL_wI, rI_wR, rP_wR, is_wI, is_wR, ia_wI, ia_wR, ow_wI, ow_wR, wn_add, wn_mul, wn_cl, wn_le, wn_lt, wn_inj, wn_ne1, wn_1ne, wn_gt1, wn_le1, nb0, nb1, am_kt, am_rt, List.cons_append, List.nil_append, true_and, and_true, not_true_eq_false, not_false_eq_true, imp_f, imp_t, implies_true, Nat.zero_add, if_true, if_false, false_and, and_false]
          exact ih (i + 1) q _ G4 _ (by omega) (s3.kp k4) (t3.ls hl k4) l4 (by simp only [List.length_append, List.length_cons, List.length_nil] at hlen2 ⊢; omega) ((kk2.trans k3).trans (LSc.lt k4)) e
        · simp only [e3, pb] at e
          simp +decide (disch := omega) only [↓wm1, wb27_78 hc, wb27_81 hc, w0, w1, w37, w42, w47, w150, w2002, w2003, w2004, rI_wI, rP_wI, rL_wI, rI_wR, rP_wR, is_wI, is_wR, ia_wI, ia_wR, ow_wI, ow_wR, wn_add, wn_mul, wn_cl, wn_le, wn_lt, wn_inj, wn_ne1, wn_1ne, wn_gt1, wn_le1, nb0, nb1, am_kt, am_rt, List.cons_append, List.nil_append, true_and, and_true, not_true_eq_false, not_false_eq_true, imp_f, imp_t, implies_true, Nat.zero_add, if_true, if_false, false_and, and_false]
          exact kbad k w m G3 e f3 m3 hm3 (kk2.trans k3)
  have hpn := hT.2.2.1
  rw [we27]
  simp +decide (disch := omega) only [↓wm1, wb27_0 hc, w0, w1, w37, w42, w47, w150, w2002, w2003, w2004, rI_wI, rP_wI, rL_wI, rI_wR, rP_wR, is_wI, is_wR, ia_wI, ia_wR, ow_wI, ow_wR, wn_add, wn_mul, wn_cl, wn_le, wn_lt, wn_inj, wn_ne1, wn_1ne, wn_gt1, wn_le1, nb0, nb1, am_kt, am_rt, List.cons_append, List.nil_append, true_and, and_true, not_true_eq_false, not_false_eq_true, imp_f, imp_t, implies_true, Nat.zero_add, if_true, if_false, false_and, and_false, fL hsh hl]
  refine h G p Λ _ hsh hW hT hL hlen (fun q Λ1 G1 e1 t1 l1 k1 => ?_) (fun k w m G1 e1 f1 m1 hm1 k1 => ?_)
  · obtain ⟨a1, a2, a3, r1, rfl, a5, a6, a7⟩ := hg _ _ _ _ hpn e1
    simp +decide (disch := omega) only [↓wm1, wb27_5 hc, wb27_10 hc, w0, w1, w37, w42, w47, w150, w2002, w2003, w2004, rI_wI, rP_wI, rL_wI, rI_wR, rP_wR, is_wI, is_wR, ia_wI, ia_wR, ow_wI, ow_wR, wn_add, wn_mul, wn_cl, wn_le, wn_lt, wn_inj, wn_ne1, wn_1ne, wn_gt1, wn_le1, nb0, nb1, am_kt, am_rt, List.cons_append, List.nil_append, true_and, and_true, not_true_eq_false, not_false_eq_true, imp_f, imp_t, implies_true, Nat.zero_add, if_true, if_false, false_and, and_false]
    refine key 150 0 q _ G1 _ rfl (hsh.kp k1) t1 l1 (by simp only [List.length_append]; omega) k1 ?_
    unfold pser
    simp only [e1, pb]
  · simp +decide (disch := omega) only [↓wm1, wb27_5 hc, wb27_8 hc, w0, w1, w37, w42, w47, w150, w2002, w2003, w2004, rI_wI, rP_wI, rL_wI, rI_wR, rP_wR, is_wI, is_wR, ia_wI, ia_wR, ow_wI, ow_wR, wn_add, wn_mul, wn_cl, wn_le, wn_lt, wn_inj, wn_ne1, wn_1ne, wn_gt1, wn_le1, nb0, nb1, am_kt, am_rt, List.cons_append, List.nil_append, true_and, and_true, not_true_eq_false, not_false_eq_true, imp_f, imp_t, implies_true, Nat.zero_add, if_true, if_false, false_and, and_false]
    refine kbad k w m G1 ?_ f1 m1 hm1 k1
    unfold pser
    simp only [e1, pb]
end
