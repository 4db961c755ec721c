/-! One step of my machine, whatever it is: the real machine does it too. -/
def sm_stv (N : sm_N) (k : Nat) : Value := match k with
  | 1 => .int 1
  | k => sm_tv N (.ref k)
def sm_env2 (N : sm_N) : Prop :=
  (∃ a0, ∀ w ∈ lw_tbl, w.before a0 (sm_s0 N) = true) ∧ sm_exc N ∧
  (∀ k, (k = 1 ∨ k = 100001 ∨ k = 100002 ∨ k = 100013) → va_Z (sl_n k).1 (sl_n k).2.1 (sl_n k).2.2 (sm_stv N k) (fun q => sm_base N ≤ q) (sm_s0 N) (sm_s0 N).heap) ∧
  (∀ r ∈ tl_l, vk_R (ow r.1) r.2.1 (tl_x r.2.2.1) (sm_ad N r.2.2.1) (sm_s0 N)) ∧
  vx_Zq Bundle.tN "UNASSIGNED_STACK" Bundle.steD (fun q => sm_base N ≤ q) (sm_s0 N) (sm_s0 N).heap ∧ vx_Zq Bundle.tN "SUPPRESSED_SENTINEL" Bundle.listD (fun q => sm_base N ≤ q) (sm_s0 N) (sm_s0 N).heap ∧
  (∃ sa, vk_R RX11 384 "an argument out of its bounds" sa (sm_s0 N)) ∧ ∃ sa, vk_R RX11 391 "no such bell, house or deed" sa (sm_s0 N)
/-- what follows a step -/
def sm_KK (N : sm_N) (Gs : am_G) (nL : Nat) (p : Program) (l : Launch) (e : Env) (R : Room) (s : State) (m : MethodId) (args : Array Value) (below : List Frame) (meth : Method) (c : Code) (post : am_O → am_G → Prop) (d : Nat) (hs : List (Nat × Nat × Nat × Nat)) (S : am_S) : Prop := match S with
  | .inr (.inr (.inr (.inl (o, G')))) => post o G'
  | .inr (.inr (.inr (.inr (y', as, pc', rest, t, ls', G', pc0)))) => ∃ q', mi_l[y']? = some q' ∧ sm_ok N d q' as G' (sm_kc (sm_V N Gs nL p l e R s m args below meth c (sm_Z N Gs below s post)) hs post pc' rest t ls' pc0)
  | S => sm_K N Gs nL p l e R s m args below meth c (sm_Z N Gs below s post) S
section
variable {N : sm_N} {Gs : am_G} {nL : Nat} {p : Program} {l : Launch} {e : Env} {R : Room} {s : State} {m : MethodId} {args : Array Value} {below : List Frame} {meth : Method} {c : Code}
variable {pc : Nat} {ls : am_L} {st : List Value} {G : am_G} {ps : List Prop} {S : am_S} {post : am_O → am_G → Prop} {q : mi_T} {d : Nat} {hs : List (Nat × Nat × Nat × Nat)}
theorem sm_wd (E2 : sm_env2 N) (hW : (sm_s0 N).WarmedH s.vm) {w : Jvm.Cond} (hw : w ∈ lw_tbl) (hg : sm_okw w = true) : w.before args s = true := by
  obtain ⟨a0, h⟩ := E2.1
  exact sm_word hg hW (h w hw)
theorem sm_wt (E2 : sm_env2 N) (hW : (sm_s0 N).WarmedH s.vm) {w : Jvm.Cond} {i : Nat} (hw : tables_1[i]? = some w) (hg : sm_okw w = true) : w.before args s = true :=
  sm_wd E2 hW (List.mem_append_right _ (List.mem_of_getElem? hw)) hg
/-- a step that stays in the frame -/
theorem sm_of_go (h : ∀ pc' ls' st' G', S = am_go pc' ls' st' G' → True) (k : sm_KK N Gs nL p l e R s m args below meth c post d hs S) (hS : (∃ pc' ls' st' G', S = am_go pc' ls' st' G') ∨ (∃ c a b ls' st' G', S = am_br c a b ls' st' G') ∨ ∃ x lo ts d ls' st' G', S = am_sw x lo ts d ls' st' G') : sm_K N Gs nL p l e R s m args below meth c (sm_Z N Gs below s post) S := by
  rcases hS with ⟨pc', ls', st', G', rfl⟩ | ⟨c, a, b, ls', st', G', rfl⟩ | ⟨x, lo, ts, d, ls', st', G', rfl⟩
  · exact k
  · exact k
  · exact k
theorem sm_KK_K (k : sm_KK N Gs nL p l e R s m args below meth c post d hs S) : sm_K N Gs nL p l e R s m args below meth c (sm_Z N Gs below s post) S := by
  rcases S with S | S | S | S | S
  · exact k
  · exact k
  · exact k
  · trivial
  · trivial
theorem sm_lays (E2 : sm_env2 N) (hW : (sm_s0 N).WarmedH s.vm) {ci : Nat} {v : vw_C} (hv : vwCl[ci]? = some v) : ∀ i, i < v.2.2 → (u_lay v.1 v.2.1 i).before args s = true := by
  intro i hi
  have hin : u_lay v.1 v.2.1 i ∈ tables_1 := by
    match ci, hv with
    | 0, hv => cases hv; exact inT0 _ (u_in_lay hi)
    | 1, hv => cases hv; exact inT1 _ (u_in_lay hi)
    | 2, hv => cases hv; exact inT2 _ (u_in_lay hi)
    | 3, hv => cases hv; exact inT3 _ (u_in_lay hi)
    | 4, hv => cases hv; exact inT4 _ (u_in_lay hi)
    | 5, hv => cases hv; exact inT5 _ (u_in_lay hi)
    | 6, hv => cases hv; exact inT6 _ (u_in_lay hi)
    | 7, hv => cases hv; exact inT7 _ (u_in_lay hi)
    | 8, hv => cases hv; exact inT8 _ (u_in_lay hi)
    | 9, hv => cases hv; exact inT9 _ (u_in_lay hi)
    | 10, hv => cases hv; exact inT10 _ (u_in_lay hi)
    | 11, hv => cases hv; exact inT11 _ (u_in_lay hi)
    | 12, hv => cases hv; exact inT12 _ (u_in_lay hi)
    | k + 13, hv => simp [vwCl] at hv
  refine sm_wd E2 hW (List.mem_append_right _ hin) ?_
  unfold u_lay
  split <;> rfl
def sm_ty (ci : Nat) : Nat → FieldType := match ci with
  | 0 => tyX0
  | 1 => tyX1
  | 2 => tyX2
  | 3 => tyX3
  | 4 => tyX4
  | 5 => tyX5
  | 6 => tyX6
  | 7 => tyX7
  | 8 => tyX8
  | 9 => tyX9
  | 10 => tyX10
  | 11 => tyX11
  | _ => tyX12
theorem sm_tyok {ci : Nat} {v : vw_C} (hv : vwCl[ci]? = some v) : (∀ i, i < v.2.2 → parseFieldDescriptor (v.2.1 i).2.2.1 = some (sm_ty ci i)) ∧ (∀ a, a < v.2.2 → ∀ b, b < v.2.2 → a ≠ b → (v.2.1 a).2.1 ≠ (v.2.1 b).2.1) := by
  match ci, hv with
  | 0, hv => cases hv; exact ⟨tyX0_ok, nmX0⟩
  | 1, hv => cases hv; exact ⟨tyX1_ok, nmX1⟩
  | 2, hv => cases hv; exact ⟨tyX2_ok, nmX2⟩
  | 3, hv => cases hv; exact ⟨tyX3_ok, nmX3⟩
  | 4, hv => cases hv; exact ⟨tyX4_ok, nmX4⟩
  | 5, hv => cases hv; exact ⟨tyX5_ok, nmX5⟩
  | 6, hv => cases hv; exact ⟨tyX6_ok, nmX6⟩
  | 7, hv => cases hv; exact ⟨tyX7_ok, nmX7⟩
  | 8, hv => cases hv; exact ⟨tyX8_ok, nmX8⟩
  | 9, hv => cases hv; exact ⟨tyX9_ok, nmX9⟩
  | 10, hv => cases hv; exact ⟨tyX10_ok, nmX10⟩
  | 11, hv => cases hv; exact ⟨tyX11_ok, nmX11⟩
  | 12, hv => cases hv; exact ⟨tyX12_ok, nmX12⟩
  | k + 13, hv => simp [vwCl] at hv
/-- a field's type and my tag of it -/
def sm_tk (ci i : Nat) : Bool := match sm_ty ci i with
  | .int => Nat.beq (am_ft ci i) 0
  | .object _ => Nat.beq (am_ft ci i) 1
  | .array _ => Nat.beq (am_ft ci i) 1
  | _ => false
theorem sm_tks : ((List.range 13).all fun ci => (List.range (am_cn ci)).all fun i => sm_tk ci i) = true := by decide +kernel
theorem sm_tk_of {ci i : Nat} (hc : ci < 13) (hi : i < am_cn ci) : (am_ft ci i = 0 → sm_ty ci i = .int) ∧ (am_ft ci i = 1 → (∃ n, sm_ty ci i = .object n) ∨ ∃ t, sm_ty ci i = .array t) ∧ defaultValue (sm_ty ci i) = (match am_ft ci i with | 0 => Value.int 0 | _ => Value.null) := by
  have h := List.all_eq_true.mp (List.all_eq_true.mp sm_tks ci (List.mem_range.mpr hc)) i (List.mem_range.mpr hi)
  unfold sm_tk at h
  split at h
  · next e => have h := Nat.eq_of_beq_eq_true h; exact ⟨fun _ => e, fun q => by omega, by rw [e, h]; rfl⟩
  · next n e => have h := Nat.eq_of_beq_eq_true h; exact ⟨fun q => by omega, fun _ => Or.inl ⟨n, e⟩, by rw [e, h]; rfl⟩
  · next n e => have h := Nat.eq_of_beq_eq_true h; exact ⟨fun q => by omega, fun _ => Or.inr ⟨n, e⟩, by rw [e, h]; rfl⟩
  · cases h
theorem sm_icok {ci : Nat} {v : vw_C} (hv : vwCl[ci]? = some v) (hci : ci < 13) : (∃ i : Nat, tables_1[i]? = some (Jvm.Cond.instantiable v.1 v.2.2)) ∧ (∃ i : Nat, tables_1[i]? = some (Jvm.Cond.initialized v.1)) ∧ v.2.2 = am_cn ci ∧ ∀ i, i < v.2.2 → (v.2.1 i).1 = v.1 := by
  have hex : ∃ r ∈ ic_l, r.1 = ci := by
    have : ∀ ci, ci < 13 → ∃ r ∈ ic_l, r.1 = ci := by decide +kernel
    exact this ci hci
  obtain ⟨r, hr, rfl⟩ := hex
  have h := List.all_eq_true.mp ic_ok r hr
  unfold ic_c at h
  rw [hv] at h
  simp only [Bool.and_eq_true, decide_eq_true_eq, List.all_eq_true, List.mem_range] at h
  exact ⟨⟨_, h.1.1.1⟩, ⟨_, h.1.1.2⟩, h.1.2, fun i hi => (h.2 i hi).1.1⟩
theorem sm_hasF {o k r1 r2 : Nat} (h : am_hasF o k r1 r2 = true) : ∃ v, vwCl[r1]? = some v ∧ r2 < v.2.2 ∧ ((∃ i : Nat, tables_1[i]? = some (Jvm.Cond.fieldLink (ow o) k v.1 (v.2.1 r2).2.1 (v.2.1 r2).2.2.1)) ∨ ∃ i : Nat, tables_1[i]? = some (Jvm.Cond.fieldLinkNest (ow o) k v.1 (v.2.1 r2).2.1 (v.2.1 r2).2.2.1 RX11)) := by
  obtain ⟨r, hr, h⟩ := List.any_eq_true.mp h
  simp only [Bool.and_eq_true, Nat.beq_eq] at h
  obtain ⟨rfl, rfl, rfl, rfl⟩ := h
  have h2 := List.all_eq_true.mp fl_ok r hr
  unfold fl_c at h2
  split at h2
  · next v hv =>
    rw [Bool.and_eq_true] at h2
    refine ⟨v, hv, of_decide_eq_true h2.1, ?_⟩
    have h3 := h2.2
    split at h3
    · exact Or.inl ⟨_, of_decide_eq_true h3⟩
    · exact Or.inr ⟨_, of_decide_eq_true h3⟩
  · cases h2
theorem sm_hasF0 {o k r1 r2 : Nat} (h : am_hasF0 o k r1 r2 = true) : ∃ v, vwCl[r1]? = some v ∧ r2 < v.2.2 ∧ (∃ i : Nat, tables_1[i]? = some (Jvm.Cond.fieldLink (ow o) k v.1 (v.2.1 r2).2.1 (v.2.1 r2).2.2.1)) := by
  obtain ⟨r, hr, h⟩ := List.any_eq_true.mp h
  simp only [Bool.and_eq_true, Nat.beq_eq] at h
  obtain ⟨rfl, rfl, rfl, rfl, h0⟩ := h
  have h2 := List.all_eq_true.mp fl_ok r hr
  unfold fl_c at h2
  split at h2
  · next v hv =>
    rw [Bool.and_eq_true] at h2
    refine ⟨v, hv, of_decide_eq_true h2.1, ?_⟩
    have h3 := h2.2
    rw [h0] at h3
    exact ⟨_, of_decide_eq_true h3⟩
  · cases h2
theorem sm_hasM {o k y : Nat} (h : am_hasM o k y = true) : ∃ q', mi_l[y]? = some q' ∧ ((∃ i : Nat, tables_1[i]? = some (Jvm.Cond.methodLink (ow o) k q'.1)) ∨ ∃ i : Nat, tables_1[i]? = some (Jvm.Cond.methodLinkNest (ow o) k q'.1 RX11)) := by
  obtain ⟨r, hr, h⟩ := List.any_eq_true.mp h
  simp only [Bool.and_eq_true, Nat.beq_eq] at h
  obtain ⟨rfl, rfl, rfl⟩ := h
  have h2 := List.all_eq_true.mp ml_ok r hr
  unfold ml_c at h2
  split at h2
  · next v hv =>
    refine ⟨v, hv, ?_⟩
    split at h2
    · exact Or.inl ⟨_, of_decide_eq_true h2⟩
    · exact Or.inr ⟨_, of_decide_eq_true h2⟩
  · cases h2
theorem sm_hasM0 {o k y : Nat} (h : am_hasM0 o k y = true) : ∃ q', mi_l[y]? = some q' ∧ (∃ i : Nat, tables_1[i]? = some (Jvm.Cond.methodLink (ow o) k q'.1)) := by
  obtain ⟨r, hr, h⟩ := List.any_eq_true.mp h
  simp only [Bool.and_eq_true, Nat.beq_eq] at h
  obtain ⟨rfl, rfl, rfl, h0⟩ := h
  have h2 := List.all_eq_true.mp ml_ok r hr
  unfold ml_c at h2
  split at h2
  · next v hv =>
    refine ⟨v, hv, ?_⟩
    rw [h0] at h2
    exact ⟨_, of_decide_eq_true h2⟩
  · cases h2
theorem sm_has3c {o k ci : Nat} (h : am_has3 cl_l o k ci = true) : ∃ v, vwCl[ci]? = some v ∧ ∃ i : Nat, tables_1[i]? = some (Jvm.Cond.classLink (ow o) k v.1) := by
  obtain ⟨r, hr, h⟩ := List.any_eq_true.mp h
  simp only [Bool.and_eq_true, Nat.beq_eq] at h
  obtain ⟨rfl, rfl, rfl⟩ := h
  have h2 := List.all_eq_true.mp cl_ok r hr
  unfold cl_c at h2
  split at h2
  · next v hv => exact ⟨v, hv, _, of_decide_eq_true h2⟩
  · cases h2
theorem sm_hasK {o k : Nat} {z : Int32} (h : am_hasK kl_l o k z = true) : ∃ i : Nat, tables_1[i]? = some (Jvm.Cond.constant (ow o) k z) := by
  obtain ⟨r, hr, h⟩ := List.any_eq_true.mp h
  simp only [Bool.and_eq_true, Nat.beq_eq, decide_eq_true_eq] at h
  obtain ⟨rfl, rfl, rfl⟩ := h
  exact ⟨_, of_decide_eq_true (List.all_eq_true.mp kl_ok r hr)⟩
theorem sm_hasL {o k : Nat} {z : Int32} (h : am_hasK kL_l o k z = true) : ∃ i : Nat, tables_1[i]? = some (Jvm.Cond.constantLong (ow o) k z.toInt64) := by
  obtain ⟨r, hr, h⟩ := List.any_eq_true.mp h
  simp only [Bool.and_eq_true, Nat.beq_eq, decide_eq_true_eq] at h
  obtain ⟨rfl, rfl, rfl⟩ := h
  exact ⟨_, of_decide_eq_true (List.all_eq_true.mp kL_ok r hr)⟩
theorem sm_hasS {o k r2 : Nat} (h : am_hasS o k r2 = true) : (r2 = 1 ∨ r2 = 100001 ∨ r2 = 100002 ∨ r2 = 100013) ∧ ((∃ i : Nat, tables_1[i]? = some (Jvm.Cond.fieldLink (ow o) k (sl_n r2).1 (sl_n r2).2.1 (sl_n r2).2.2)) ∨ ∃ i : Nat, tables_1[i]? = some (Jvm.Cond.fieldLinkNest (ow o) k (sl_n r2).1 (sl_n r2).2.1 (sl_n r2).2.2 RX11)) := by
  obtain ⟨r, hr, h⟩ := List.any_eq_true.mp h
  simp only [Bool.and_eq_true, Nat.beq_eq] at h
  obtain ⟨rfl, rfl, rfl⟩ := h
  have h2 := List.all_eq_true.mp sl_ok r hr
  have h3 : ∀ r ∈ sl_l, (r.2.2.1 = 1 ∨ r.2.2.1 = 100001 ∨ r.2.2.1 = 100002 ∨ r.2.2.1 = 100013) := by decide +kernel
  refine ⟨h3 r hr, ?_⟩
  unfold sl_c at h2
  split at h2
  · exact Or.inl ⟨_, of_decide_eq_true h2⟩
  · exact Or.inr ⟨_, of_decide_eq_true h2⟩
theorem sm_hasA {l : List (Nat × Nat × Nat)} {o k : Nat} (h : am_has2 l o k = true) : ∃ r ∈ l, r.1 = o ∧ r.2.1 = k := by
  obtain ⟨r, hr, h⟩ := List.any_eq_true.mp h
  simp only [Bool.and_eq_true, Nat.beq_eq] at h
  exact ⟨r, hr, h⟩
theorem sm_has3t {o k r2 : Nat} (h : am_has3 tl_l o k r2 = true) : ∃ r ∈ tl_l, r.1 = o ∧ r.2.1 = k ∧ r.2.2.1 = r2 := by
  obtain ⟨r, hr, h⟩ := List.any_eq_true.mp h
  simp only [Bool.and_eq_true, Nat.beq_eq] at h
  exact ⟨r, hr, h⟩
end
