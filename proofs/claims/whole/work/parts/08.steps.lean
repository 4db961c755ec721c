/-! My machine's steps that stay in their frame and leave the heap alone: the real machine does them too. -/
def sm_J (N : sm_N) (Gs G : am_G) (H : Heap) (locs : List Loc) (cells slots : Nat) : Prop :=
  sm_rep N G H ∧ (∀ q ∈ locs, sm_base N ≤ q.base) ∧ cells + (am_K Gs).length = (am_K G).length ∧ slots + am_us Gs = am_us G
def sm_V (N : sm_N) (Gs : am_G) (nL : Nat) (p : Program) (l : Launch) (e : Env) (R : Room) (s : State) (m : MethodId) (args : Array Value) (below : List Frame) (meth : Method) (c : Code) (Q : State → Prop) (pc : Nat) (ls : am_L) (st : List Value) (G : am_G) : Prop :=
  ∀ (H : Heap) (locs : List Loc) (cells slots : Nat) (lsR : Array Slot), sm_J N Gs G H locs cells slots → sm_lr N nL ls lsR → W p l e R s m args below meth c H locs cells slots Q (F0 m pc lsR (st.map (sm_tv N)))
def sm_K (N : sm_N) (Gs : am_G) (nL : Nat) (p : Program) (l : Launch) (e : Env) (R : Room) (s : State) (m : MethodId) (args : Array Value) (below : List Frame) (meth : Method) (c : Code) (Q : State → Prop) (S : am_S) : Prop := match S with
  | .inl (pc', ls', st', G') => sm_V N Gs nL p l e R s m args below meth c Q pc' ls' st' G'
  | .inr (.inl (cd, a, b, ls', st', G')) => (cd → sm_V N Gs nL p l e R s m args below meth c Q a ls' st' G') ∧ (¬ cd → sm_V N Gs nL p l e R s m args below meth c Q b ls' st' G')
  | .inr (.inr (.inl (x, lo, ts, d, ls', st', G'))) => sm_V N Gs nL p l e R s m args below meth c Q (am_swt x lo ts d) ls' st' G'
  | _ => True
abbrev sm_row (p : Program) (l : Launch) (e : Env) (R : Room) (s : State) (m : MethodId) (args : Array Value) (below : List Frame) (meth : Method) (c : Code) (Q : State → Prop) (pc nx : Nat) (A B : List Value) : Prop :=
  ∀ (H : Heap) (locs : List Loc) (cells slots : Nat) (lsR : Array Slot) (rest : List Value), W p l e R s m args below meth c H locs cells slots Q (F0 m nx lsR (B ++ rest)) → W p l e R s m args below meth c H locs cells slots Q (F0 m pc lsR (A ++ rest))
section
variable {N : sm_N} {Gs : am_G} {nL : Nat} {p : Program} {l : Launch} {e : Env} {R : Room} {s : State} {m : MethodId} {args : Array Value} {below : List Frame} {meth : Method} {c : Code} {Q : State → Prop}
variable {cc : ByteArray} {pc nx : Nat} {ls : am_L} {st : List Value} {G : am_G} {ps : List Prop} {S : am_S}
theorem sv_pu {v : Value} (row : sm_row p l e R s m args below meth c Q pc nx [] [sm_tv N v]) (h : am_pu v nx ls st G = some (ps, S)) (k : sm_K N Gs nL p l e R s m args below meth c Q S) : sm_V N Gs nL p l e R s m args below meth c Q pc ls st G := by
  unfold am_pu at h
  cases h
  intro H locs cells slots lsR hJ hl
  exact row _ _ _ _ _ _ (k H locs cells slots lsR hJ hl)
theorem sv_ldI {i : Nat} (row : ∀ (H : Heap) (locs : List Loc) (cells slots : Nat) (lsR : Array Slot) (rest : List Value) (x : Int32), lsR[i]? = some (.val (.int x)) → W p l e R s m args below meth c H locs cells slots Q (F0 m nx lsR (.int x :: rest)) → W p l e R s m args below meth c H locs cells slots Q (F0 m pc lsR rest))
    (h : am_ldI i nx ls st G = some (ps, S)) (k : sm_K N Gs nL p l e R s m args below meth c Q S) : sm_V N Gs nL p l e R s m args below meth c Q pc ls st G := by
  unfold am_ldI at h
  split at h
  · next x hx =>
    cases h
    intro H locs cells slots lsR hJ hl
    exact row _ _ _ _ _ _ x (hl.at hx) (k H locs cells slots lsR hJ hl)
  · cases h
theorem sv_ldL {i : Nat} (row : ∀ (H : Heap) (locs : List Loc) (cells slots : Nat) (lsR : Array Slot) (rest : List Value) (x : Int64), lsR[i]? = some (.val (.long x)) → W p l e R s m args below meth c H locs cells slots Q (F0 m nx lsR (.long x :: rest)) → W p l e R s m args below meth c H locs cells slots Q (F0 m pc lsR rest))
    (h : am_ldL i nx ls st G = some (ps, S)) (k : sm_K N Gs nL p l e R s m args below meth c Q S) : sm_V N Gs nL p l e R s m args below meth c Q pc ls st G := by
  unfold am_ldL at h
  split at h
  · next x hx =>
    cases h
    intro H locs cells slots lsR hJ hl
    exact row _ _ _ _ _ _ x (hl.at hx) (k H locs cells slots lsR hJ hl)
  · cases h
/-- a reference, or null -/
def sm_rn (v : Value) : Prop := v = .null ∨ ∃ a, v = .ref a
theorem sm_tv_rn (hv : sm_rn (sm_sv N)) (r : Nat) : sm_rn (sm_tv N (.ref r)) := by
  simp only [sm_tv]
  split
  · exact hv
  · exact Or.inr ⟨_, rfl⟩
theorem sv_ldA {i : Nat} (hv : sm_rn (sm_sv N)) (row : ∀ (H : Heap) (locs : List Loc) (cells slots : Nat) (lsR : Array Slot) (rest : List Value) (v : Value), sm_rn v → lsR[i]? = some (.val v) → W p l e R s m args below meth c H locs cells slots Q (F0 m nx lsR (v :: rest)) → W p l e R s m args below meth c H locs cells slots Q (F0 m pc lsR rest))
    (h : am_ldA i nx ls st G = some (ps, S)) (k : sm_K N Gs nL p l e R s m args below meth c Q S) : sm_V N Gs nL p l e R s m args below meth c Q pc ls st G := by
  unfold am_ldA at h
  split at h
  · next x hx =>
    cases h
    intro H locs cells slots lsR hJ hl
    exact row _ _ _ _ _ _ _ (sm_tv_rn hv x) (hl.at hx) (k H locs cells slots lsR hJ hl)
  · cases h
theorem sv_stI {i : Nat} (hv : sm_rn (sm_sv N)) (hi : i < nL) (row : ∀ (H : Heap) (locs : List Loc) (cells slots : Nat) (lsR : Array Slot) (rest : List Value) (x : Int32) (lv : List (Nat × Value)), lv_has lsR nL lv → (∀ ls' : Array Slot, lv_has ls' nL ((i, Value.int x) :: lv.filter (fun q => !(q.1 == i) && !(q.1 + 1 == i && q.2.category == 2))) → W p l e R s m args below meth c H locs cells slots Q (F0 m nx ls' rest)) → W p l e R s m args below meth c H locs cells slots Q (F0 m pc lsR (.int x :: rest)))
    (h : am_stI i nx ls st G = some (ps, S)) (k : sm_K N Gs nL p l e R s m args below meth c Q S) : sm_V N Gs nL p l e R s m args below meth c Q pc ls st G := by
  unfold am_stI at h
  split at h
  · next x r =>
    cases h
    intro H locs cells slots lsR hJ hl
    exact row _ _ _ _ _ _ x _ hl.has (fun ls' h' => k H locs cells slots ls' hJ (hl.s1 hv hi h'))
  · cases h
theorem sv_stL {i : Nat} (hv : sm_rn (sm_sv N)) (hi : i + 1 < nL) (row : ∀ (H : Heap) (locs : List Loc) (cells slots : Nat) (lsR : Array Slot) (rest : List Value) (x : Int64) (lv : List (Nat × Value)), lv_has lsR nL lv → (∀ ls' : Array Slot, lv_has ls' nL ((i, Value.long x) :: lv.filter (fun q => !(q.1 == i) && (!(q.1 == i + 1) && !(q.1 + 1 == i && q.2.category == 2)))) → W p l e R s m args below meth c H locs cells slots Q (F0 m nx ls' rest)) → W p l e R s m args below meth c H locs cells slots Q (F0 m pc lsR (.long x :: rest)))
    (h : am_stL i nx ls st G = some (ps, S)) (k : sm_K N Gs nL p l e R s m args below meth c Q S) : sm_V N Gs nL p l e R s m args below meth c Q pc ls st G := by
  unfold am_stL at h
  split at h
  · next x r =>
    cases h
    intro H locs cells slots lsR hJ hl
    exact row _ _ _ _ _ _ x _ hl.has (fun ls' h' => k H locs cells slots ls' hJ (hl.s2 hv hi h'))
  · cases h
theorem sv_stA {i : Nat} (hv : sm_rn (sm_sv N)) (hi : i < nL) (row : ∀ (H : Heap) (locs : List Loc) (cells slots : Nat) (lsR : Array Slot) (rest : List Value) (v : Value) (lv : List (Nat × Value)), sm_rn v → lv_has lsR nL lv → (∀ ls' : Array Slot, lv_has ls' nL ((i, v) :: lv.filter (fun q => !(q.1 == i) && !(q.1 + 1 == i && q.2.category == 2))) → W p l e R s m args below meth c H locs cells slots Q (F0 m nx ls' rest)) → W p l e R s m args below meth c H locs cells slots Q (F0 m pc lsR (v :: rest)))
    (h : am_stA i nx ls st G = some (ps, S)) (k : sm_K N Gs nL p l e R s m args below meth c Q S) : sm_V N Gs nL p l e R s m args below meth c Q pc ls st G := by
  unfold am_stA at h
  split at h
  · next x r =>
    cases h
    intro H locs cells slots lsR hJ hl
    exact row _ _ _ _ _ _ _ _ (sm_tv_rn hv x) hl.has (fun ls' h' => k H locs cells slots ls' hJ (hl.s1 hv hi h'))
  · cases h
theorem sv_inc {i : Nat} {z : Int32} (hv : sm_rn (sm_sv N)) (hi : i < nL) (row : ∀ (H : Heap) (locs : List Loc) (cells slots : Nat) (lsR : Array Slot) (rest : List Value) (x : Int32) (lv : List (Nat × Value)) (j : Nat), lv_has lsR nL lv → lv[j]? = some (i, .int x) → (∀ ls' : Array Slot, lv_has ls' nL ((i, Value.int (x + z)) :: lv.filter (fun q => !(q.1 == i) && !(q.1 + 1 == i && q.2.category == 2))) → W p l e R s m args below meth c H locs cells slots Q (F0 m nx ls' rest)) → W p l e R s m args below meth c H locs cells slots Q (F0 m pc lsR rest))
    (h : am_inc i z nx ls st G = some (ps, S)) (k : sm_K N Gs nL p l e R s m args below meth c Q S) : sm_V N Gs nL p l e R s m args below meth c Q pc ls st G := by
  unfold am_inc at h
  split at h
  · next x hx =>
    cases h
    intro H locs cells slots lsR hJ hl
    obtain ⟨j, hj⟩ := List.getElem?_of_mem (sm_mem (N := N) (q := (i, .int x)).mpr ⟨.int x, sm_get hx, rfl⟩)
    exact row _ _ _ _ _ _ x _ j hl.has hj (fun ls' h' => k H locs cells slots ls' hJ (hl.s1 (v := .int (x + z)) hv hi h'))
  · cases h
theorem sv_ii {f : Int32 → Int32 → Int32} (row : ∀ x y, sm_row p l e R s m args below meth c Q pc nx [.int y, .int x] [.int (f x y)]) (h : am_ii f nx ls st G = some (ps, S)) (k : sm_K N Gs nL p l e R s m args below meth c Q S) : sm_V N Gs nL p l e R s m args below meth c Q pc ls st G := by
  unfold am_ii at h
  split at h
  · next y x r =>
    cases h
    intro H locs cells slots lsR hJ hl
    exact row x y _ _ _ _ _ _ (k H locs cells slots lsR hJ hl)
  · cases h
theorem sv_iz {f : Int32 → Int32 → Int32} (row : ∀ x y, ¬ y = 0 → sm_row p l e R s m args below meth c Q pc nx [.int y, .int x] [.int (f x y)]) (h : am_iz f nx ls st G = some (ps, S)) (hp : am_all ps True) (k : sm_K N Gs nL p l e R s m args below meth c Q S) : sm_V N Gs nL p l e R s m args below meth c Q pc ls st G := by
  unfold am_iz at h
  split at h
  · next y x r =>
    cases h
    intro H locs cells slots lsR hJ hl
    exact row x y hp.1 _ _ _ _ _ _ (k H locs cells slots lsR hJ hl)
  · cases h
theorem sv_i1 {f : Int32 → Value} (hf : ∀ x, sm_tv N (f x) = f x) (row : ∀ x, sm_row p l e R s m args below meth c Q pc nx [.int x] [f x]) (h : am_i1 f nx ls st G = some (ps, S)) (k : sm_K N Gs nL p l e R s m args below meth c Q S) : sm_V N Gs nL p l e R s m args below meth c Q pc ls st G := by
  unfold am_i1 at h
  split at h
  · next x r =>
    cases h
    intro H locs cells slots lsR hJ hl
    have k1 := k H locs cells slots lsR hJ hl
    rw [List.map_cons, hf] at k1
    exact row x _ _ _ _ _ _ k1
  · cases h
theorem sv_ll {f : Int64 → Int64 → Value} (hf : ∀ x y, sm_tv N (f x y) = f x y) (row : ∀ x y, sm_row p l e R s m args below meth c Q pc nx [.long y, .long x] [f x y]) (h : am_ll f nx ls st G = some (ps, S)) (k : sm_K N Gs nL p l e R s m args below meth c Q S) : sm_V N Gs nL p l e R s m args below meth c Q pc ls st G := by
  unfold am_ll at h
  split at h
  · next y x r =>
    cases h
    intro H locs cells slots lsR hJ hl
    have k1 := k H locs cells slots lsR hJ hl
    rw [List.map_cons, hf] at k1
    exact row x y _ _ _ _ _ _ k1
  · cases h
theorem sv_lz {f : Int64 → Int64 → Int64} (row : ∀ x y, ¬ y = 0 → sm_row p l e R s m args below meth c Q pc nx [.long y, .long x] [.long (f x y)]) (h : am_lz f nx ls st G = some (ps, S)) (hp : am_all ps True) (k : sm_K N Gs nL p l e R s m args below meth c Q S) : sm_V N Gs nL p l e R s m args below meth c Q pc ls st G := by
  unfold am_lz at h
  split at h
  · next y x r =>
    cases h
    intro H locs cells slots lsR hJ hl
    exact row x y hp.1 _ _ _ _ _ _ (k H locs cells slots lsR hJ hl)
  · cases h
theorem sv_li {f : Int64 → Int32 → Int64} (row : ∀ x y, sm_row p l e R s m args below meth c Q pc nx [.int y, .long x] [.long (f x y)]) (h : am_li f nx ls st G = some (ps, S)) (k : sm_K N Gs nL p l e R s m args below meth c Q S) : sm_V N Gs nL p l e R s m args below meth c Q pc ls st G := by
  unfold am_li at h
  split at h
  · next y x r =>
    cases h
    intro H locs cells slots lsR hJ hl
    exact row x y _ _ _ _ _ _ (k H locs cells slots lsR hJ hl)
  · cases h
theorem sm_cat1 {v : Value} (h : sm_rn v) : v.category = 1 := by
  rcases h with h | ⟨a, h⟩ <;> rw [h] <;> rfl
theorem sv_dup (hv : sm_rn (sm_sv N)) (row : ∀ v : Value, v.category = 1 → sm_row p l e R s m args below meth c Q pc nx [v] [v, v]) (h : am_dup nx ls st G = some (ps, S)) (k : sm_K N Gs nL p l e R s m args below meth c Q S) : sm_V N Gs nL p l e R s m args below meth c Q pc ls st G := by
  unfold am_dup at h
  split at h
  · next x r =>
    cases h
    intro H locs cells slots lsR hJ hl
    exact row _ rfl _ _ _ _ _ _ (k H locs cells slots lsR hJ hl)
  · next x r =>
    cases h
    intro H locs cells slots lsR hJ hl
    exact row _ (sm_cat1 (sm_tv_rn hv x)) _ _ _ _ _ _ (k H locs cells slots lsR hJ hl)
  · cases h
theorem sv_pop (hv : sm_rn (sm_sv N)) (row : ∀ v : Value, v.category = 1 → sm_row p l e R s m args below meth c Q pc nx [v] []) (h : am_pop nx ls st G = some (ps, S)) (k : sm_K N Gs nL p l e R s m args below meth c Q S) : sm_V N Gs nL p l e R s m args below meth c Q pc ls st G := by
  unfold am_pop at h
  split at h
  · next x r =>
    cases h
    intro H locs cells slots lsR hJ hl
    exact row (.int x) rfl _ _ _ _ _ _ (k H locs cells slots lsR hJ hl)
  · next x r =>
    cases h
    intro H locs cells slots lsR hJ hl
    exact row (sm_tv N (.ref x)) (sm_cat1 (sm_tv_rn hv x)) _ _ _ _ _ _ (k H locs cells slots lsR hJ hl)
  · cases h
theorem sv_dup2 (hv : sm_rn (sm_sv N)) (row : ∀ v w : Value, v.category = 1 → w.category = 1 → sm_row p l e R s m args below meth c Q pc nx [v, w] [v, w, v, w]) (h : am_dup2 nx ls st G = some (ps, S)) (k : sm_K N Gs nL p l e R s m args below meth c Q S) : sm_V N Gs nL p l e R s m args below meth c Q pc ls st G := by
  unfold am_dup2 at h
  split at h
  · next x a r =>
    cases h
    intro H locs cells slots lsR hJ hl
    exact row _ _ rfl (sm_cat1 (sm_tv_rn hv a)) _ _ _ _ _ _ (k H locs cells slots lsR hJ hl)
  · cases h
theorem sv_if1 {cd : ClassFile.Cond} {t : Nat} (row : ∀ (H : Heap) (locs : List Loc) (cells slots : Nat) (lsR : Array Slot) (rest : List Value) (x : Int32), (am_cc cd x 0 → W p l e R s m args below meth c H locs cells slots Q (F0 m t lsR rest)) → (¬ am_cc cd x 0 → W p l e R s m args below meth c H locs cells slots Q (F0 m nx lsR rest)) → W p l e R s m args below meth c H locs cells slots Q (F0 m pc lsR (.int x :: rest)))
    (h : am_if1 cd t nx ls st G = some (ps, S)) (k : sm_K N Gs nL p l e R s m args below meth c Q S) : sm_V N Gs nL p l e R s m args below meth c Q pc ls st G := by
  unfold am_if1 at h
  split at h
  · next x r =>
    cases h
    intro H locs cells slots lsR hJ hl
    exact row _ _ _ _ _ _ x (fun q => k.1 q H locs cells slots lsR hJ hl) (fun q => k.2 q H locs cells slots lsR hJ hl)
  · cases h
theorem sv_if2 {cd : ClassFile.Cond} {t : Nat} (row : ∀ (H : Heap) (locs : List Loc) (cells slots : Nat) (lsR : Array Slot) (rest : List Value) (x y : Int32), (am_cc cd x y → W p l e R s m args below meth c H locs cells slots Q (F0 m t lsR rest)) → (¬ am_cc cd x y → W p l e R s m args below meth c H locs cells slots Q (F0 m nx lsR rest)) → W p l e R s m args below meth c H locs cells slots Q (F0 m pc lsR (.int y :: .int x :: rest)))
    (h : am_if2 cd t nx ls st G = some (ps, S)) (k : sm_K N Gs nL p l e R s m args below meth c Q S) : sm_V N Gs nL p l e R s m args below meth c Q pc ls st G := by
  unfold am_if2 at h
  split at h
  · next y x r =>
    cases h
    intro H locs cells slots lsR hJ hl
    exact row _ _ _ _ _ _ x y (fun q => k.1 q H locs cells slots lsR hJ hl) (fun q => k.2 q H locs cells slots lsR hJ hl)
  · cases h
theorem sv_swi {lo : Int32} {ts : List Nat} {d : Nat} (row : ∀ (H : Heap) (locs : List Loc) (cells slots : Nat) (lsR : Array Slot) (rest : List Value) (x : Int32), W p l e R s m args below meth c H locs cells slots Q (F0 m (am_swt x lo ts d) lsR rest) → W p l e R s m args below meth c H locs cells slots Q (F0 m pc lsR (.int x :: rest)))
    (h : am_swi lo ts d ls st G = some (ps, S)) (k : sm_K N Gs nL p l e R s m args below meth c Q S) : sm_V N Gs nL p l e R s m args below meth c Q pc ls st G := by
  unfold am_swi at h
  split at h
  · next x r =>
    cases h
    intro H locs cells slots lsR hJ hl
    exact row _ _ _ _ _ _ x (k H locs cells slots lsR hJ hl)
  · cases h
theorem sv_goto {t : Nat} (row : sm_row p l e R s m args below meth c Q pc t [] []) (h : (some ([], am_go t ls st G) : am_R) = some (ps, S)) (k : sm_K N Gs nL p l e R s m args below meth c Q S) : sm_V N Gs nL p l e R s m args below meth c Q pc ls st G := by
  cases h
  intro H locs cells slots lsR hJ hl
  exact row _ _ _ _ _ _ (k H locs cells slots lsR hJ hl)
/-- dead variables are forgotten -/
theorem sv_clr {ks : List Nat} (k : sm_V N Gs nL p l e R s m args below meth c Q pc (am_clr ks ls) st G) : sm_V N Gs nL p l e R s m args below meth c Q pc ls st G :=
  fun H locs cells slots lsR hJ hl => k H locs cells slots lsR hJ (hl.clr ks)
end
