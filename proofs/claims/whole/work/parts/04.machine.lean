/-! MY OWN SMALL MACHINE. Its memory: ints, addresses and longs by (address, place); the kinds and sizes of the cells that the law has made, in the order of their making (an address is a place in that list); the slots that they have; the script's length. Addresses from 100000 on are cells that were there before. Kinds: 0 to 12 the classes of vwCl; 100 int[], 101 long[], 102 int[][], 103 Diary[], 104 State[], 105 byte[]; 200 IllegalArgumentException, 201 NoSuchElementException. -/
abbrev am_G : Type := (Nat → Nat → Int32) × (Nat → Nat → Nat) × (Nat → Nat → Int64) × List (Nat × Nat) × Nat × Nat
def am_gI (G : am_G) (a i : Nat) : Int32 := G.1 a i
def am_gP (G : am_G) (a i : Nat) : Nat := G.2.1 a i
def am_gL (G : am_G) (a i : Nat) : Int64 := G.2.2.1 a i
def am_K (G : am_G) : List (Nat × Nat) := G.2.2.2.1
def am_us (G : am_G) : Nat := G.2.2.2.2.1
def am_sl (G : am_G) : Nat := G.2.2.2.2.2
def am_wI (G : am_G) (a i : Nat) (v : Int32) : am_G := (fun b j => if b = a ∧ j = i then v else G.1 b j, G.2)
def am_wP (G : am_G) (a i v : Nat) : am_G := (G.1, fun b j => if b = a ∧ j = i then v else G.2.1 b j, G.2.2)
def am_wL (G : am_G) (a i : Nat) (v : Int64) : am_G := (G.1, G.2.1, fun b j => if b = a ∧ j = i then v else G.2.2.1 b j, G.2.2.2)
/-- a row of ints written whole -/
def am_wR (G : am_G) (a : Nat) (f : Nat → Int32) : am_G := (fun b j => if b = a then f j else G.1 b j, G.2)
def am_null : Nat := 999999
/-- one more cell, empty -/
def am_nw (G : am_G) (k n : Nat) : am_G :=
  (fun b j => if b = (am_K G).length then 0 else G.1 b j, fun b j => if b = (am_K G).length then am_null else G.2.1 b j, fun b j => if b = (am_K G).length then 0 else G.2.2.1 b j, am_K G ++ [(k, n)], am_us G + n, am_sl G)
/-- new int[n][k] -/
def am_n2 (G : am_G) (n k : Nat) : am_G :=
  (fun b j => if (am_K G).length ≤ b ∧ b < (am_K G).length + 1 + n then 0 else G.1 b j, fun b j => if b = (am_K G).length then (if j < n then (am_K G).length + 1 + j else am_null) else if (am_K G).length ≤ b ∧ b < (am_K G).length + 1 + n then am_null else G.2.1 b j,
    fun b j => if (am_K G).length ≤ b ∧ b < (am_K G).length + 1 + n then 0 else G.2.2.1 b j, am_K G ++ (102, n) :: List.replicate n (100, k), am_us G + n + n * k, am_sl G)
def am_rm (G : am_G) (c s : Nat) : Prop := (am_K G).length + c ≤ 90000 ∧ am_us G + s ≤ 7200000
def am_is (G : am_G) (a k : Nat) : Prop := ∃ n, (am_K G)[a]? = some (k, n)
/-- lengths of the cells that were there before: 0 the script, 1 and 2 the tables of Rows, 8 to 12 the bytes of the texts -/
def am_ol (L j : Nat) : Nat := match j with
  | 0 => L
  | 1 => 7
  | 2 => 7
  | 8 => 20
  | 9 => 42
  | 10 => 60
  | _ => 0
def am_oi (a : Nat) : Prop := a = 100000 ∨ a = 100001 ∨ a = 100002
def am_ob (a : Nat) : Prop := a = 100008 ∨ a = 100009 ∨ a = 100010
def am_os (a : Nat) : Prop := a = 100003 ∨ a = 100004 ∨ a = 100005
def am_ow (G : am_G) (a : Nat) (i : Int32) (k : Nat) : Prop := ∃ n, (am_K G)[a]? = some (k, n) ∧ vp_in i n
def am_ia (G : am_G) (a : Nat) (i : Int32) : Prop := am_ow G a i 100 ∨ (am_oi a ∧ vp_in i (am_ol (am_sl G) (a - 100000)))
def am_ba (G : am_G) (a : Nat) (i : Int32) : Prop := am_ow G a i 105 ∨ (am_ob a ∧ vp_in i (am_ol (am_sl G) (a - 100000)))
def am_ra (G : am_G) (a : Nat) (i : Int32) : Prop := am_ow G a i 102 ∨ am_ow G a i 103 ∨ am_ow G a i 104
def am_aa (G : am_G) (a : Nat) (i : Int32) (q : Nat) : Prop := (am_ow G a i 103 ∧ am_is G q 1) ∨ (am_ow G a i 104 ∧ am_is G q 7)
def am_ln (G : am_G) (a : Nat) : Nat := match (am_K G)[a]? with
  | some q => q.2
  | none => am_ol (am_sl G) (a - 100000)
def am_al (G : am_G) (a : Nat) : Prop := (∃ k n, (am_K G)[a]? = some (k, n) ∧ 100 ≤ k ∧ k ≤ 105) ∨ am_oi a ∨ am_ob a
def am_cp (G : am_G) (s : Nat) (sp : Int32) (d : Nat) (dp n : Int32) : Prop :=
  ∃ n0 n1, (am_K G)[s]? = some (100, n0) ∧ (am_K G)[d]? = some (100, n1) ∧ ¬ sp < 0 ∧ ¬ dp < 0 ∧ ¬ n < 0 ∧ sp.toNatClampNeg + n.toNatClampNeg ≤ n0 ∧ dp.toNatClampNeg + n.toNatClampNeg ≤ n1
/-- the kept part of an int that a method of this return type hands out -/
def am_nb (t : Nat) (v : Int32) : Prop := match t with
  | 1 => True
  | 5 => v = 0 ∨ v = 1
  | 6 => narrow .char (.int v) = .int v
  | _ => narrow .byte (.int v) = .int v
abbrev am_L : Type := List (Option Value)
/-- an instruction: itself, its length, three numbers, a constant, targets or what a call is, the variables that are dead here -/
abbrev am_E : Type := Instr × Nat × Nat × Nat × Nat × Int32 × List Nat × List Nat
abbrev am_O : Type := Option Value ⊕ Nat
abbrev am_S : Type := (Nat × am_L × List Value × am_G) ⊕ (Prop × Nat × Nat × am_L × List Value × am_G) ⊕ (Int32 × Int32 × List Nat × Nat × am_L × List Value × am_G) ⊕ (am_O × am_G) ⊕ (Nat × List Value × Nat × List Value × Nat × am_L × am_G × Nat)
abbrev am_go (pc : Nat) (ls : am_L) (st : List Value) (G : am_G) : am_S := .inl (pc, ls, st, G)
abbrev am_br (c : Prop) (a b : Nat) (ls : am_L) (st : List Value) (G : am_G) : am_S := .inr (.inl (c, a, b, ls, st, G))
abbrev am_sw (x lo : Int32) (ts : List Nat) (d : Nat) (ls : am_L) (st : List Value) (G : am_G) : am_S := .inr (.inr (.inl (x, lo, ts, d, ls, st, G)))
abbrev am_re (o : am_O) (G : am_G) : am_S := .inr (.inr (.inr (.inl (o, G))))
abbrev am_ca (y : Nat) (as : List Value) (pc' : Nat) (rest : List Value) (t : Nat) (ls : am_L) (G : am_G) (pc : Nat) : am_S := .inr (.inr (.inr (.inr (y, as, pc', rest, t, ls, G, pc))))
abbrev am_R : Type := Option (List Prop × am_S)
def am_get (ls : am_L) (i : Nat) : Option Value := match ls[i]? with
  | some (some v) => some v
  | _ => none
def am_kill (ls : am_L) : Nat → am_L
  | 0 => ls
  | j + 1 => match am_get ls j with
    | some (.long _) => ls.set j none
    | some (.double _) => ls.set j none
    | _ => ls
def am_s1 (ls : am_L) (i : Nat) (v : Value) : am_L := (am_kill ls i).set i (some v)
def am_s2 (ls : am_L) (i : Nat) (v : Value) : am_L := ((am_kill ls i).set i (some v)).set (i + 1) none
def am_clr : List Nat → am_L → am_L
  | [], ls => ls
  | i :: r, ls => am_clr r (ls.set i none)
def am_ushr (x y : Int32) : Int32 := (x.toUInt32 >>> (y.toUInt32 &&& Int32.toUInt32 31)).toInt32
def am_rem (x y : Int32) : Int32 := x - x / y * y
def am_reml (x y : Int64) : Int64 := x - x / y * y
def am_cc (c : ClassFile.Cond) (x y : Int32) : Prop := match c with
  | .eq => x = y
  | .ne => ¬ x = y
  | .lt => x < y
  | .ge => y ≤ x
  | .gt => y < x
  | .le => x ≤ y
def am_pu (v : Value) (nx : Nat) (ls : am_L) (st : List Value) (G : am_G) : am_R := some ([], am_go nx ls (v :: st) G)
def am_ldI (i nx : Nat) (ls : am_L) (st : List Value) (G : am_G) : am_R := match am_get ls i with
  | some (.int x) => some ([], am_go nx ls (.int x :: st) G)
  | _ => none
def am_ldL (i nx : Nat) (ls : am_L) (st : List Value) (G : am_G) : am_R := match am_get ls i with
  | some (.long x) => some ([], am_go nx ls (.long x :: st) G)
  | _ => none
def am_ldA (i nx : Nat) (ls : am_L) (st : List Value) (G : am_G) : am_R := match am_get ls i with
  | some (.ref x) => some ([], am_go nx ls (.ref x :: st) G)
  | _ => none
def am_stI (i nx : Nat) (ls : am_L) (st : List Value) (G : am_G) : am_R := match st with
  | .int x :: r => some ([], am_go nx (am_s1 ls i (.int x)) r G)
  | _ => none
def am_stL (i nx : Nat) (ls : am_L) (st : List Value) (G : am_G) : am_R := match st with
  | .long x :: r => some ([], am_go nx (am_s2 ls i (.long x)) r G)
  | _ => none
def am_stA (i nx : Nat) (ls : am_L) (st : List Value) (G : am_G) : am_R := match st with
  | .ref x :: r => some ([], am_go nx (am_s1 ls i (.ref x)) r G)
  | _ => none
def am_inc (i : Nat) (z : Int32) (nx : Nat) (ls : am_L) (st : List Value) (G : am_G) : am_R := match am_get ls i with
  | some (.int x) => some ([], am_go nx (am_s1 ls i (.int (x + z))) st G)
  | _ => none
def am_ii (f : Int32 → Int32 → Int32) (nx : Nat) (ls : am_L) (st : List Value) (G : am_G) : am_R := match st with
  | .int y :: .int x :: r => some ([], am_go nx ls (.int (f x y) :: r) G)
  | _ => none
def am_iz (f : Int32 → Int32 → Int32) (nx : Nat) (ls : am_L) (st : List Value) (G : am_G) : am_R := match st with
  | .int y :: .int x :: r => some ([¬ y = 0], am_go nx ls (.int (f x y) :: r) G)
  | _ => none
def am_i1 (f : Int32 → Value) (nx : Nat) (ls : am_L) (st : List Value) (G : am_G) : am_R := match st with
  | .int x :: r => some ([], am_go nx ls (f x :: r) G)
  | _ => none
def am_ll (f : Int64 → Int64 → Value) (nx : Nat) (ls : am_L) (st : List Value) (G : am_G) : am_R := match st with
  | .long y :: .long x :: r => some ([], am_go nx ls (f x y :: r) G)
  | _ => none
def am_lz (f : Int64 → Int64 → Int64) (nx : Nat) (ls : am_L) (st : List Value) (G : am_G) : am_R := match st with
  | .long y :: .long x :: r => some ([¬ y = 0], am_go nx ls (.long (f x y) :: r) G)
  | _ => none
def am_li (f : Int64 → Int32 → Int64) (nx : Nat) (ls : am_L) (st : List Value) (G : am_G) : am_R := match st with
  | .int y :: .long x :: r => some ([], am_go nx ls (.long (f x y) :: r) G)
  | _ => none
def am_dup (nx : Nat) (ls : am_L) (st : List Value) (G : am_G) : am_R := match st with
  | .int x :: r => some ([], am_go nx ls (.int x :: .int x :: r) G)
  | .ref x :: r => some ([], am_go nx ls (.ref x :: .ref x :: r) G)
  | _ => none
def am_pop (nx : Nat) (ls : am_L) (st : List Value) (G : am_G) : am_R := match st with
  | .int _ :: r => some ([], am_go nx ls r G)
  | .ref _ :: r => some ([], am_go nx ls r G)
  | _ => none
def am_dup2 (nx : Nat) (ls : am_L) (st : List Value) (G : am_G) : am_R := match st with
  | .int x :: .ref a :: r => some ([], am_go nx ls (.int x :: .ref a :: .int x :: .ref a :: r) G)
  | _ => none
def am_if1 (c : ClassFile.Cond) (t nx : Nat) (ls : am_L) (st : List Value) (G : am_G) : am_R := match st with
  | .int x :: r => some ([], am_br (am_cc c x 0) t nx ls r G)
  | _ => none
def am_if2 (c : ClassFile.Cond) (t nx : Nat) (ls : am_L) (st : List Value) (G : am_G) : am_R := match st with
  | .int y :: .int x :: r => some ([], am_br (am_cc c x y) t nx ls r G)
  | _ => none
def am_swi (lo : Int32) (ts : List Nat) (d : Nat) (ls : am_L) (st : List Value) (G : am_G) : am_R := match st with
  | .int x :: r => some ([], am_sw x lo ts d ls r G)
  | _ => none
def am_getf (r1 r2 r3 nx : Nat) (ls : am_L) (st : List Value) (G : am_G) : am_R := match st with
  | .ref a :: r => match r3 with
    | 0 => some ([am_is G a r1], am_go nx ls (.int (am_gI G a r2) :: r) G)
    | 1 => some ([am_is G a r1, am_gP G a r2 < 90000], am_go nx ls (.ref (am_gP G a r2) :: r) G)
    | 2 => some ([am_os a], am_go nx ls (.ref (a + 5) :: r) G)
    | _ => some ([am_os a], am_go nx ls (.int 0 :: r) G)
  | _ => none
def am_putf (r1 r2 r3 nx : Nat) (ls : am_L) (st : List Value) (G : am_G) : am_R := match st with
  | .int x :: .ref a :: r => match r3 with
    | 0 => some ([am_is G a r1], am_go nx ls r (am_wI G a r2 x))
    | _ => none
  | .ref q :: .ref a :: r => match r3 with
    | 1 => some ([am_is G a r1, q < 90000], am_go nx ls r (am_wP G a r2 q))
    | _ => none
  | _ => none
def am_iald (nx : Nat) (ls : am_L) (st : List Value) (G : am_G) : am_R := match st with
  | .int i :: .ref a :: r => some ([am_ia G a i], am_go nx ls (.int (am_gI G a i.toNatClampNeg) :: r) G)
  | _ => none
def am_bald (nx : Nat) (ls : am_L) (st : List Value) (G : am_G) : am_R := match st with
  | .int i :: .ref a :: r => some ([am_ba G a i], am_go nx ls (.int (am_gI G a i.toNatClampNeg) :: r) G)
  | _ => none
def am_lald (nx : Nat) (ls : am_L) (st : List Value) (G : am_G) : am_R := match st with
  | .int i :: .ref a :: r => some ([am_ow G a i 101], am_go nx ls (.long (am_gL G a i.toNatClampNeg) :: r) G)
  | _ => none
def am_aald (nx : Nat) (ls : am_L) (st : List Value) (G : am_G) : am_R := match st with
  | .int i :: .ref a :: r => some ([am_ra G a i, am_gP G a i.toNatClampNeg < 90000], am_go nx ls (.ref (am_gP G a i.toNatClampNeg) :: r) G)
  | _ => none
def am_iast (nx : Nat) (ls : am_L) (st : List Value) (G : am_G) : am_R := match st with
  | .int x :: .int i :: .ref a :: r => some ([am_ow G a i 100], am_go nx ls r (am_wI G a i.toNatClampNeg x))
  | _ => none
def am_bast (nx : Nat) (ls : am_L) (st : List Value) (G : am_G) : am_R := match st with
  | .int x :: .int i :: .ref a :: r => some ([am_ow G a i 105], am_go nx ls r (am_wI G a i.toNatClampNeg (vp_nar .byte x)))
  | _ => none
def am_last (nx : Nat) (ls : am_L) (st : List Value) (G : am_G) : am_R := match st with
  | .long x :: .int i :: .ref a :: r => some ([am_ow G a i 101], am_go nx ls r (am_wL G a i.toNatClampNeg x))
  | _ => none
def am_aast (nx : Nat) (ls : am_L) (st : List Value) (G : am_G) : am_R := match st with
  | .ref q :: .int i :: .ref a :: r => some ([am_aa G a i q], am_go nx ls r (am_wP G a i.toNatClampNeg q))
  | _ => none
def am_alen (nx : Nat) (ls : am_L) (st : List Value) (G : am_G) : am_R := match st with
  | .ref a :: r => some ([am_al G a], am_go nx ls (.int (Int32.ofNat (am_ln G a)) :: r) G)
  | _ => none
def am_newa (k nx : Nat) (ls : am_L) (st : List Value) (G : am_G) : am_R := match st with
  | .int n :: r => some ([¬ n < 0, n.toNatClampNeg ≤ 100000, am_rm G 1 n.toNatClampNeg], am_go nx ls (.ref (am_K G).length :: r) (am_nw G k n.toNatClampNeg))
  | _ => none
def am_mna (nx : Nat) (ls : am_L) (st : List Value) (G : am_G) : am_R := match st with
  | .int k :: .int n :: r => some ([¬ n < 0, ¬ k < 0, n.toNatClampNeg ≤ 10000, k.toNatClampNeg ≤ 10000, am_rm G (1 + n.toNatClampNeg) (n.toNatClampNeg + n.toNatClampNeg * k.toNatClampNeg)], am_go nx ls (.ref (am_K G).length :: r) (am_n2 G n.toNatClampNeg k.toNatClampNeg))
  | _ => none
def am_new (r1 r2 nx : Nat) (ls : am_L) (st : List Value) (G : am_G) : am_R := match Nat.ble 200 r1 with
  | true => match st with
    | [] => some ([am_rm G 1 6], am_re (.inr (am_K G).length) (am_nw G r1 6))
    | _ => none
  | false => some ([am_rm G 1 r2], am_go nx ls (.ref (am_K G).length :: st) (am_nw G r1 r2))
def am_ire (t : Nat) (st : List Value) (G : am_G) : am_R := match st with
  | [.int v] => match t with
    | 1 => some ([], am_re (.inl (some (.int v))) G)
    | t => some ([am_nb t v], am_re (.inl (some (.int v))) G)
  | _ => none
def am_lre (st : List Value) (G : am_G) : am_R := match st with
  | [.long v] => some ([], am_re (.inl (some (.long v))) G)
  | _ => none
def am_vre (st : List Value) (G : am_G) : am_R := match st with
  | [] => some ([], am_re (.inl none) G)
  | _ => none
def am_tk : Nat → List Value → List Value → Option (List Value × List Value)
  | 0, acc, st => some (acc, st)
  | n + 1, acc, v :: st => am_tk n (v :: acc) st
  | _ + 1, _, [] => none
def am_inv (y n kind ret cls pc nx : Nat) (ls : am_L) (st : List Value) (G : am_G) : am_R := match kind with
  | 3 => match st with
    | .int n :: .int dp :: .ref d :: .int sp :: .ref s :: r => match Nat.ble r.length 12 with
      | true => some ([am_cp G s sp d dp n], am_go nx ls r (am_wR G d (va_cpy (am_gI G s) (am_gI G d) sp.toNatClampNeg dp.toNatClampNeg n.toNatClampNeg)))
      | false => none
    | _ => none
  | 4 => match st with
    | .ref a :: r => match Nat.ble r.length 12 with
      | true => some ([a < 90000], am_go nx ls r G)
      | false => none
    | _ => none
  | kind => match am_tk n [] st with
    | some (as, rest) => match Nat.ble rest.length 12 with
      | true => match kind with
        | 1 => match as with
          | .ref a :: _ => some ([am_is G a cls], am_ca y as nx rest ret ls G pc)
          | _ => none
        | 5 => match as with
          | .ref a :: _ => some ([am_os a], am_ca y as nx rest ret ls G pc)
          | _ => none
        | 2 => match as with
          | .ref a :: _ => some ([a < 90000], am_ca y as nx rest ret ls G pc)
          | _ => none
        | _ => some ([], am_ca y as nx rest ret ls G pc)
      | false => none
    | none => none
def am_nth (l : List Nat) (k : Nat) : Nat := match l, k with
  | [], _ => 0
  | a :: _, 0 => a
  | _ :: r, k + 1 => am_nth r k
def am_op (i : Instr) (nx r1 r2 r3 : Nat) (z : Int32) (ts : List Nat) (pc : Nat) (ls : am_L) (st : List Value) (G : am_G) : am_R := match i with
  | .iconst _ => am_pu (.int z) nx ls st G
  | .bipush _ => am_pu (.int z) nx ls st G
  | .sipush _ => am_pu (.int z) nx ls st G
  | .ldc _ => match r1 with
    | 0 => am_pu (.int z) nx ls st G
    | _ => am_pu (.ref r2) nx ls st G
  | .ldc_w _ => match r1 with
    | 0 => am_pu (.int z) nx ls st G
    | _ => am_pu (.ref r2) nx ls st G
  | .getstatic _ => match r1 with
    | 0 => am_pu (.int z) nx ls st G
    | _ => am_pu (.ref r2) nx ls st G
  | .lconst _ => am_pu (.long z.toInt64) nx ls st G
  | .ldc2_w _ => am_pu (.long z.toInt64) nx ls st G
  | .iload _ => am_ldI r1 nx ls st G
  | .iload_n _ => am_ldI r1 nx ls st G
  | .lload _ => am_ldL r1 nx ls st G
  | .lload_n _ => am_ldL r1 nx ls st G
  | .aload _ => am_ldA r1 nx ls st G
  | .aload_n _ => am_ldA r1 nx ls st G
  | .istore _ => am_stI r1 nx ls st G
  | .istore_n _ => am_stI r1 nx ls st G
  | .lstore _ => am_stL r1 nx ls st G
  | .lstore_n _ => am_stL r1 nx ls st G
  | .astore _ => am_stA r1 nx ls st G
  | .astore_n _ => am_stA r1 nx ls st G
  | .iinc _ _ => am_inc r1 z nx ls st G
  | .iadd => am_ii (fun x y => x + y) nx ls st G
  | .isub => am_ii (fun x y => x - y) nx ls st G
  | .imul => am_ii (fun x y => x * y) nx ls st G
  | .iand => am_ii (fun x y => x &&& y) nx ls st G
  | .ior => am_ii (fun x y => x ||| y) nx ls st G
  | .ixor => am_ii (fun x y => x ^^^ y) nx ls st G
  | .ishl => am_ii (fun x y => x <<< (y &&& 31)) nx ls st G
  | .ishr => am_ii (fun x y => x >>> (y &&& 31)) nx ls st G
  | .iushr => am_ii am_ushr nx ls st G
  | .idiv => am_iz (fun x y => x / y) nx ls st G
  | .irem => am_iz am_rem nx ls st G
  | .ineg => am_i1 (fun x => .int (-x)) nx ls st G
  | .i2l => am_i1 (fun x => .long x.toInt64) nx ls st G
  | .i2b => am_i1 (fun x => .int x.toInt8.toInt32) nx ls st G
  | .i2c => am_i1 (fun x => .int (x.toUInt32 % 65536).toInt32) nx ls st G
  | .ladd => am_ll (fun x y => .long (x + y)) nx ls st G
  | .lmul => am_ll (fun x y => .long (x * y)) nx ls st G
  | .lcmp => am_ll (fun x y => .int (lg_cmp x y)) nx ls st G
  | .ldiv => am_lz (fun x y => x / y) nx ls st G
  | .lrem => am_lz am_reml nx ls st G
  | .lshl => am_li (fun x y => x <<< (y.toInt64 &&& 63)) nx ls st G
  | .dup => am_dup nx ls st G
  | .pop => am_pop nx ls st G
  | .dup2 => am_dup2 nx ls st G
  | .ifCond c _ => am_if1 c r1 nx ls st G
  | .if_icmp c _ => am_if2 c r1 nx ls st G
  | .goto _ => some ([], am_go r1 ls st G)
  | .tableswitch _ _ _ _ => am_swi z ts r1 ls st G
  | .lookupswitch _ _ => am_swi z ts r1 ls st G
  | .getfield _ => am_getf r1 r2 r3 nx ls st G
  | .putfield _ => am_putf r1 r2 r3 nx ls st G
  | .iaload => am_iald nx ls st G
  | .baload => am_bald nx ls st G
  | .laload => am_lald nx ls st G
  | .aaload => am_aald nx ls st G
  | .iastore => am_iast nx ls st G
  | .bastore => am_bast nx ls st G
  | .lastore => am_last nx ls st G
  | .aastore => am_aast nx ls st G
  | .arraylength => am_alen nx ls st G
  | .newarray _ => am_newa r1 nx ls st G
  | .anewarray _ => am_newa r1 nx ls st G
  | .multianewarray _ _ => am_mna nx ls st G
  | .new _ => am_new r1 r2 nx ls st G
  | .ireturn => am_ire r1 st G
  | .lreturn => am_lre st G
  | .return_ => am_vre st G
  | .invokestatic _ => am_inv r1 r2 (am_nth ts 0) (am_nth ts 1) (am_nth ts 2) pc nx ls st G
  | .invokevirtual _ => am_inv r1 r2 (am_nth ts 0) (am_nth ts 1) (am_nth ts 2) pc nx ls st G
  | .invokespecial _ => am_inv r1 r2 (am_nth ts 0) (am_nth ts 1) (am_nth ts 2) pc nx ls st G
  | _ => none
def am_step (e : am_E) (pc : Nat) (ls : am_L) (st : List Value) (G : am_G) : am_R :=
  am_op e.1 (pc + e.2.1) e.2.2.1 e.2.2.2.1 e.2.2.2.2.1 e.2.2.2.2.2.1 e.2.2.2.2.2.2.1 pc (am_clr e.2.2.2.2.2.2.2 ls) st G
/-- a method's code: pieces, each with its last place -/
abbrev am_B : Type := List (Nat × List (Nat × am_E))
def am_in : List (Nat × am_E) → Nat → Option am_E
  | [], _ => none
  | q :: l, pc => match Nat.beq q.1 pc with
    | true => some q.2
    | false => am_in l pc
def am_at : am_B → Nat → Option am_E
  | [], _ => none
  | q :: l, pc => match Nat.ble pc q.1 with
    | true => am_in q.2 pc
    | false => am_at l pc
/-- n steps that aren't branches -/
def am_n (b : am_B) : Nat → Nat → am_L → List Value → am_G → am_R
  | 0, pc, ls, st, G => some ([], am_go pc ls st G)
  | n + 1, pc, ls, st, G => match am_at b pc with
    | none => none
    | some e => match am_step e pc ls st G with
      | none => none
      | some (ps, .inl (pc', ls', st', G')) => match am_n b n pc' ls' st' G' with
        | none => none
        | some (qs, S) => some (ps ++ qs, S)
      | some (ps, S) => some (ps, S)
/-- what comes back of a call: on the stack -/
def am_rt (t : Nat) (v : Option Value) : Option (List Value) := match t with
  | 0 => match v with
    | none => some []
    | _ => none
  | 2 => match v with
    | some (.long x) => some [.long x]
    | _ => none
  | _ => match v with
    | some (.int x) => some [.int x]
    | _ => none
/-- a method: its variables, its code, its table of handlers (from, to, handler, kind) -/
abbrev am_M : Type := Nat × am_B × List (Nat × Nat × Nat × Nat)
def am_cat (G : am_G) (q pc : Nat) : List (Nat × Nat × Nat × Nat) → Option (Option Nat)
  | [] => some none
  | h :: r => match Nat.ble h.1 pc && Nat.blt pc h.2.1 with
    | true => match (am_K G)[q]? with
      | some k => match Nat.beq k.1 h.2.2.2 with
        | true => some (some h.2.2.1)
        | false => match am_cat G q pc r with
          | some (some x) => some (some x)
          | _ => none
      | none => none
    | false => am_cat G q pc r
def am_swt (x : Int32) : Int32 → List Nat → Nat → Nat
  | _, [], d => d
  | lo, t :: ts, d => if x = lo then t else am_swt x (lo + 1) ts d
def am_all : List Prop → Prop → Prop
  | [], C => C
  | p :: ps, C => p ∧ am_all ps C
section
variable (call : Nat → List Value → am_G → (am_O → am_G → Prop) → Prop) (M : am_M) (post : am_O → am_G → Prop)
/-- k steps bring an end with post -/
def am_X : Nat → Nat → am_L → List Value → am_G → Prop
  | 0, _, _, _, _ => False
  | k + 1, pc, ls, st, G => match am_at M.2.1 pc with
    | none => False
    | some e => match am_step e pc ls st G with
      | none => False
      | some (ps, S) => am_all ps (match S with
        | .inl (pc', ls', st', G') => am_X k pc' ls' st' G'
        | .inr (.inl (c, a, b, ls', st', G')) => (c → am_X k a ls' st' G') ∧ (¬ c → am_X k b ls' st' G')
        | .inr (.inr (.inl (x, lo, ts, d, ls', st', G'))) => am_X k (am_swt x lo ts d) ls' st' G'
        | .inr (.inr (.inr (.inl r))) => post r.1 r.2
        | .inr (.inr (.inr (.inr (y, as, pc', rest, t, ls', G', pc0)))) => call y as G' (fun o G2 => match o with
          | .inl v => match am_rt t v with
            | none => False
            | some vs => am_X k pc' ls' (vs ++ rest) G2
          | .inr q => match am_cat G2 q pc0 M.2.2 with
            | none => False
            | some none => post (.inr q) G2
            | some (some h) => am_X k h ls' [.ref q] G2))
def am_W (pc : Nat) (ls : am_L) (st : List Value) (G : am_G) : Prop := ∃ k, am_X call M post k pc ls st G
end
/-- behind a call -/
def am_kt (call : Nat → List Value → am_G → (am_O → am_G → Prop) → Prop) (M : am_M) (pc' : Nat) (rest : List Value) (t : Nat) (ls : am_L) (pc0 : Nat) (post : am_O → am_G → Prop) : am_O → am_G → Prop := fun o G2 => match o with
  | .inl v => match am_rt t v with
    | none => False
    | some vs => am_W call M post pc' ls (vs ++ rest) G2
  | .inr q => match am_cat G2 q pc0 M.2.2 with
    | none => False
    | some none => post (.inr q) G2
    | some (some h) => am_W call M post h ls [.ref q] G2
def am_swc (x : Int32) : Int32 → List Nat → Nat → (Nat → Prop) → Prop
  | _, [], d, k => k d
  | lo, t :: ts, d, k => (x = lo → k t) ∧ (¬ x = lo → am_swc x (lo + 1) ts d k)
def am_ct (call : Nat → List Value → am_G → (am_O → am_G → Prop) → Prop) (M : am_M) (post : am_O → am_G → Prop) (S : am_S) : Prop := match S with
  | .inl (pc', ls', st', G') => am_W call M post pc' ls' st' G'
  | .inr (.inl (c, a, b, ls', st', G')) => (c → am_W call M post a ls' st' G') ∧ (¬ c → am_W call M post b ls' st' G')
  | .inr (.inr (.inl (x, lo, ts, d, ls', st', G'))) => am_swc x lo ts d (fun pc' => am_W call M post pc' ls' st' G')
  | .inr (.inr (.inr (.inl r))) => post r.1 r.2
  | .inr (.inr (.inr (.inr (y, as, pc', rest, t, ls', G', pc0)))) => call y as G' (am_kt call M pc' rest t ls' pc0 post)
/-- the variables at a method's beginning -/
def am_ent : Nat → List Value → Option am_L
  | n, [] => some (List.replicate n none)
  | n + 1, .int x :: r => match am_ent n r with
    | some ls => some (some (.int x) :: ls)
    | none => none
  | n + 1, .ref x :: r => match am_ent n r with
    | some ls => some (some (.ref x) :: ls)
    | none => none
  | _, _ => none
/-- a call of the method y of the table T, d frames deep at the most -/
def am_C (T : Nat → Option am_M) : Nat → Nat → List Value → am_G → (am_O → am_G → Prop) → Prop
  | 0, _, _, _, _ => False
  | d + 1, y, as, G, post => match T y with
    | none => False
    | some M => match am_ent M.1 as with
      | none => False
      | some ls => am_W (am_C T d) M post 0 ls [] G
