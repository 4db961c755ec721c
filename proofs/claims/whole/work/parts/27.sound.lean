/-! What my machine says of a method, the real machine does. -/
theorem mk_app : ∀ (l : List am_M) (r : List mi_T) (n k : Nat) (l' : List am_M) (r' : List mi_T), l.length = k → mk_all n l r → mk_all (n + k) l' r' → mk_all n (l ++ l') (r ++ r') := by
  intro l
  induction l with
  | nil =>
    intro r n k l' r' hk h h'
    cases r with
    | nil => subst hk; exact h'
    | cons => exact h.elim
  | cons a l ih =>
    intro r n k l' r' hk h h'
    cases r with
    | nil => exact h.elim
    | cons b r =>
      subst hk
      refine ⟨h.1, ih r (n + 1) l.length l' r' rfl h.2 ?_⟩
      have e : n + 1 + l.length = n + (a :: l).length := by simp; omega
      rw [e]
      exact h'
theorem mk_at : ∀ (l : List am_M) (r : List mi_T) (n y : Nat) (M : am_M), mk_all n l r → l[y]? = some M → ∃ q, r[y]? = some q ∧ am_mok2 (n + y) M q := by
  intro l
  induction l with
  | nil => intro r n y M _ h; simp at h
  | cons a l ih =>
    intro r n y M h hy
    cases r with
    | nil => exact h.elim
    | cons b r =>
      cases y with
      | zero =>
        simp at hy
        subst hy
        exact ⟨b, rfl, h.1⟩
      | succ y =>
        obtain ⟨q, h1, h2⟩ := ih r (n + 1) y M h.2 (by simpa using hy)
        refine ⟨q, by simpa using h1, ?_⟩
        rw [show n + (y + 1) = n + 1 + y by omega]
        exact h2
set_option maxRecDepth 100000 in
theorem mk_whole : mk_all 0 am_T0 mi_l :=
  mk_app _ _ 0 40 _ _ rfl mka_0 (mk_app _ _ 40 40 _ _ rfl mka_1 (mk_app _ _ 80 40 _ _ rfl mka_2 (mk_app _ _ 120 40 _ _ rfl mka_3 (mk_app _ _ 160 40 _ _ rfl mka_4 (mk_app _ _ 200 40 _ _ rfl mka_5 (mk_app _ _ 240 40 _ _ rfl mka_6 mka_7))))))
theorem mk_of {y : Nat} {M : am_M} (h : am_T y = some M) : ∃ q, mi_l[y]? = some q ∧ am_mok2 y M q := by
  obtain ⟨q, h1, h2⟩ := mk_at _ _ 0 y M mk_whole h
  rw [Nat.zero_add] at h2
  exact ⟨q, h1, h2⟩
theorem am_ent_spec : ∀ (as : List Value) (n : Nat) (ls : am_L), am_ent n as = some ls → as.length ≤ n ∧ ls = as.map some ++ List.replicate (n - as.length) none ∧ ∀ v ∈ as, (∃ x, v = .int x) ∨ ∃ x, v = .ref x := by
  intro as
  induction as with
  | nil =>
    intro n ls h
    cases n <;> simp [am_ent] at h <;> subst h <;> simp
  | cons v as ih =>
    intro n ls h
    cases n with
    | zero => cases v <;> simp [am_ent] at h
    | succ n =>
      have key : ∀ w : Value, (match am_ent n as with | some ls => some (some w :: ls) | none => none) = some ls → ((∃ x, w = .int x) ∨ ∃ x, w = .ref x) → (w :: as).length ≤ n + 1 ∧ ls = (w :: as).map some ++ List.replicate (n + 1 - (w :: as).length) none ∧ ∀ v ∈ (w :: as), (∃ x, v = .int x) ∨ ∃ x, v = .ref x := by
        intro w h hw
        cases he : am_ent n as with
        | none => rw [he] at h; cases h
        | some l2 =>
          rw [he] at h
          have h := Option.some.inj h
          subst h
          obtain ⟨g1, g2, g3⟩ := ih n l2 he
          refine ⟨by simp; omega, ?_, ?_⟩
          · rw [g2]
            have : n + 1 - (w :: as).length = n - as.length := by simp
            rw [this]
            rfl
          · intro v hv
            rcases List.mem_cons.mp hv with rfl | hv
            · exact hw
            · exact g3 v hv
      cases v with
      | int x => exact key (.int x) h (Or.inl ⟨x, rfl⟩)
      | ref x => exact key (.ref x) h (Or.inr ⟨x, rfl⟩)
      | _ => simp [am_ent] at h
section
variable {N : sm_N} {p : Program} {l : Launch} {e : Env} {R : Room} {s : State} {m : MethodId} {args : Array Value} {below : List Frame} {meth : Method} {c : Code}
theorem sm_hm_of (E2 : sm_env2 N) (hW : (sm_s0 N).WarmedH s.vm) {cls : String} : ∀ (raw hs : List (Nat × Nat × Nat × Nat)), mh_c raw hs = true → (raw = [] ∨ cls = RL) → sm_hm cls args s raw hs := by
  intro raw
  induction raw with
  | nil =>
    intro hs h _
    cases hs with
    | nil => trivial
    | cons => cases h
  | cons a raw ih =>
    intro hs h hc
    cases hs with
    | nil => cases h
    | cons b hs =>
      rcases hc with hc | hc
      · cases hc
      subst hc
      obtain ⟨h1, h2⟩ := bb h
      obtain ⟨h3, h4⟩ := bb h2
      obtain ⟨h5, h6⟩ := bb h4
      obtain ⟨h7, h8⟩ := bb h6
      have w1 : (Cond.classLink RL 13 "java/lang/IllegalArgumentException").before args s = true := sm_wt (i := 525) E2 hW (by decide +kernel) rfl
      have w2 : (Cond.classLink RL 31 "java/util/NoSuchElementException").before args s = true := sm_wt (i := 923) E2 hW (by decide +kernel) rfl
      refine ⟨bn h1, bn h3, bn h5, ?_, ?_, ?_, ih hs h8 (Or.inr rfl)⟩
      · rcases bo h7 with h | h
        · rw [bn (bb h).1]; decide
        · rw [bn (bb h).1]; decide
      · rcases bo h7 with h | h
        · exact Or.inl (bn (bb h).2)
        · exact Or.inr (bn (bb h).2)
      · rcases bo h7 with h | h
        · rw [bn (bb h).1, bn (bb h).2]; exact w1
        · rw [bn (bb h).1, bn (bb h).2]; exact w2
theorem sm_entry (hv : sm_rn (sm_sv N)) {nL : Nat} {as : List Value} {ls : am_L} (h : am_ent nL as = some ls) : ∃ lsR, entryFrame m (as.map (sm_tv N)).toArray nL = F0 m 0 lsR [] ∧ sm_lr N nL ls lsR := by
  obtain ⟨h1, h2, h3⟩ := am_ent_spec _ _ _ h
  have hsl : ∀ bs : List Value, (∀ v ∈ bs, (∃ x, v = .int x) ∨ ∃ x, v = .ref x) → lg_sl (bs.map (sm_tv N)) = bs.map (fun v => Slot.val (sm_tv N v)) := by
    intro bs
    induction bs with
    | nil => intro _; rfl
    | cons v bs ih =>
      intro hb
      have hc : (sm_tv N v).category = 1 := by
        rcases hb v List.mem_cons_self with ⟨x, rfl⟩ | ⟨x, rfl⟩
        · rfl
        · exact sm_cat1 (sm_tv_rn hv x)
      have ih := ih (fun w hw => hb w (List.mem_cons_of_mem _ hw))
      unfold lg_sl at ih ⊢
      simp only [List.map_cons, List.flatMap_cons]
      rw [ih, if_neg (by rw [hc]; decide)]
      rfl
  have hs := hsl as h3
  refine ⟨_, lg_entry_eq m _ nL, ?_⟩
  have hl : (lg_sl (as.map (sm_tv N))).length ≤ nL := by rw [hs]; simpa using h1
  obtain ⟨g1, g2, -⟩ := lv_entry (as.map (sm_tv N)) hl
  refine ⟨by rw [h2]; simp; omega, g1, g2, fun i v hi => ?_⟩
  rw [h2] at hi
  by_cases hlt : i < as.length
  · rw [List.getElem?_append_left (by simpa using hlt)] at hi
    rw [hs]
    simp only [List.getElem?_toArray]
    rw [List.getElem?_append_left (by simpa using hlt)]
    rw [List.getElem?_map] at hi ⊢
    cases ha : as[i]? with
    | none => rw [ha] at hi; cases hi
    | some w =>
      rw [ha] at hi
      have := Option.some.inj (Option.some.inj hi)
      subst this
      rfl
  · rw [List.getElem?_append_right (by simpa using Nat.not_lt.mp hlt), List.getElem?_replicate] at hi
    split at hi <;> simp at hi
theorem sm_sound (E : sm_env N) (E2 : sm_env2 N) : ∀ (d y : Nat) (q : mi_T) (as : List Value) (G : am_G) (post : am_O → am_G → Prop), mi_l[y]? = some q → am_C am_T d y as G post → sm_ok N d q as G post := by
  intro d
  induction d with
  | zero => intro y q as G post _ h; exact h.elim
  | succ d ihd =>
    intro y q as Gs post hq h
    simp only [am_C] at h
    cases hT : am_T y with
    | none => rw [hT] at h; exact h.elim
    | some M =>
      rw [hT] at h
      simp only at h
      cases hE : am_ent M.1 as with
      | none => rw [hE] at h; exact h.elim
      | some ls =>
        rw [hE] at h
        simp only at h
        obtain ⟨k, h⟩ := h
        obtain ⟨q', hq', ⟨hn, o, ho, hck⟩, hmh, hRL⟩ := mk_of hT
        obtain rfl := Option.some.inj (hq.symm.trans hq')
        intro p l e R s m below meth c F hrep
        have hW := F.2.2.1
        have hhm := sm_hm_of (args := (as.map (sm_tv N)).toArray) E2 hW _ _ hmh hRL
        have main : ∀ (k pc : Nat) (ls : am_L) (st : List Value) (G : am_G), am_X (am_C am_T d) M post k pc ls st G → sm_V N Gs q.2.2.1 p l e R s m (as.map (sm_tv N)).toArray below meth c (sm_Z N Gs below s post) pc ls st G := by
          intro k
          induction k with
          | zero => intro pc ls st G h; exact h.elim
          | succ k ih =>
            intro pc ls st G h
            simp only [am_X] at h
            cases ha : am_at M.2.1 pc with
            | none => rw [ha] at h; exact h.elim
            | some e0 =>
              rw [ha] at h
              simp only at h
              cases hs : am_step e0 pc ls st G with
              | none => rw [hs] at h; exact h.elim
              | some r =>
                obtain ⟨ps, S⟩ := r
                rw [hs] at h
                simp only at h
                rw [am_all_iff] at h
                obtain ⟨hp, h⟩ := h
                refine sm_step E E2 F rfl hhm hq ho (hck pc e0 ha) hs hp ?_
                rcases S with ⟨pc', ls', st', G'⟩ | ⟨cd, a, b, ls', st', G'⟩ | ⟨x, lo, ts, dd, ls', st', G'⟩ | ⟨oo, G'⟩ | ⟨y', as', pc', rest, t, ls', G', pc0⟩
                · exact ih _ _ _ _ h
                · exact ⟨fun hc => ih _ _ _ _ (h.1 hc), fun hc => ih _ _ _ _ (h.2 hc)⟩
                · exact ih _ _ _ _ h
                · exact h
                · have hM : ∃ M', am_T y' = some M' := by
                    cases d with
                    | zero => exact h.elim
                    | succ d =>
                      simp only [am_C] at h
                      cases hT' : am_T y' with
                      | none => rw [hT'] at h; exact h.elim
                      | some M' => exact ⟨M', rfl⟩
                  obtain ⟨M', hM'⟩ := hM
                  obtain ⟨q', hq', -⟩ := mk_of hM'
                  refine ⟨q', hq', ihd y' q' as' G' _ hq' ((am_C_one am_T d).mono h ?_)⟩
                  intro oo G2 hoo
                  cases oo with
                  | inl v =>
                    simp only at hoo
                    simp only [sm_kc]
                    cases hr : am_rt t v with
                    | none => rw [hr] at hoo; exact hoo
                    | some vs => rw [hr] at hoo; exact ih _ _ _ _ hoo
                  | inr z =>
                    simp only at hoo
                    simp only [sm_kc]
                    rcases hr : am_cat G2 z pc0 M.2.2 with _ | _ | hh
                    · rw [hr] at hoo; exact hoo
                    · rw [hr] at hoo; exact hoo
                    · rw [hr] at hoo; exact ih _ _ _ _ hoo
        rw [hn] at hE
        obtain ⟨lsR, he, hl⟩ := sm_entry (m := m) E.2.2.2.1 hE
        rw [F.2.2.2.2.2.1, he]
        exact main k 0 ls [] Gs h s.heap [] 0 0 lsR ⟨hrep, (fun q hq => nomatch hq), Nat.zero_add _, Nat.zero_add _⟩ hl
end
