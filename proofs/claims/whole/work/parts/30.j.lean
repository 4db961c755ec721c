/-! Blocks of the code, by program (gen3.py). -/
/-! 269 java/lang/Integer.bitCount(I)I -/
theorem we269 {d : Nat} {post : am_O → am_G → Prop} (G : am_G) (x0 : Int32) : am_C am_T (d + 1) 269 [.int x0] G post ↔ am_W (am_C am_T d) am_269 post 0 [some (.int x0)] [] G := Iff.rfl
theorem wb269_0 {cl : Nat → List Value → am_G → (am_O → am_G → Prop) → Prop} (hc : am_one cl) {post : am_O → am_G → Prop} (G : am_G) (x0 : Int32) :
    am_W cl am_269 post 0 [some (.int x0)] [] G ↔ (post (.inl (some (.int ((((((((x0 - ((am_ushr x0 (1 : Int32)) &&& (1431655765 : Int32))) &&& (858993459 : Int32)) + ((am_ushr (x0 - ((am_ushr x0 (1 : Int32)) &&& (1431655765 : Int32))) (2 : Int32)) &&& (858993459 : Int32))) + (am_ushr (((x0 - ((am_ushr x0 (1 : Int32)) &&& (1431655765 : Int32))) &&& (858993459 : Int32)) + ((am_ushr (x0 - ((am_ushr x0 (1 : Int32)) &&& (1431655765 : Int32))) (2 : Int32)) &&& (858993459 : Int32))) (4 : Int32))) &&& (252645135 : Int32)) + (am_ushr (((((x0 - ((am_ushr x0 (1 : Int32)) &&& (1431655765 : Int32))) &&& (858993459 : Int32)) + ((am_ushr (x0 - ((am_ushr x0 (1 : Int32)) &&& (1431655765 : Int32))) (2 : Int32)) &&& (858993459 : Int32))) + (am_ushr (((x0 - ((am_ushr x0 (1 : Int32)) &&& (1431655765 : Int32))) &&& (858993459 : Int32)) + ((am_ushr (x0 - ((am_ushr x0 (1 : Int32)) &&& (1431655765 : Int32))) (2 : Int32)) &&& (858993459 : Int32))) (4 : Int32))) &&& (252645135 : Int32)) (8 : Int32))) + (am_ushr ((((((x0 - ((am_ushr x0 (1 : Int32)) &&& (1431655765 : Int32))) &&& (858993459 : Int32)) + ((am_ushr (x0 - ((am_ushr x0 (1 : Int32)) &&& (1431655765 : Int32))) (2 : Int32)) &&& (858993459 : Int32))) + (am_ushr (((x0 - ((am_ushr x0 (1 : Int32)) &&& (1431655765 : Int32))) &&& (858993459 : Int32)) + ((am_ushr (x0 - ((am_ushr x0 (1 : Int32)) &&& (1431655765 : Int32))) (2 : Int32)) &&& (858993459 : Int32))) (4 : Int32))) &&& (252645135 : Int32)) + (am_ushr (((((x0 - ((am_ushr x0 (1 : Int32)) &&& (1431655765 : Int32))) &&& (858993459 : Int32)) + ((am_ushr (x0 - ((am_ushr x0 (1 : Int32)) &&& (1431655765 : Int32))) (2 : Int32)) &&& (858993459 : Int32))) + (am_ushr (((x0 - ((am_ushr x0 (1 : Int32)) &&& (1431655765 : Int32))) &&& (858993459 : Int32)) + ((am_ushr (x0 - ((am_ushr x0 (1 : Int32)) &&& (1431655765 : Int32))) (2 : Int32)) &&& (858993459 : Int32))) (4 : Int32))) &&& (252645135 : Int32)) (8 : Int32))) (16 : Int32))) &&& (63 : Int32))))) G) :=
  am_seg hc 42 [] (am_re (.inl (some (.int ((((((((x0 - ((am_ushr x0 (1 : Int32)) &&& (1431655765 : Int32))) &&& (858993459 : Int32)) + ((am_ushr (x0 - ((am_ushr x0 (1 : Int32)) &&& (1431655765 : Int32))) (2 : Int32)) &&& (858993459 : Int32))) + (am_ushr (((x0 - ((am_ushr x0 (1 : Int32)) &&& (1431655765 : Int32))) &&& (858993459 : Int32)) + ((am_ushr (x0 - ((am_ushr x0 (1 : Int32)) &&& (1431655765 : Int32))) (2 : Int32)) &&& (858993459 : Int32))) (4 : Int32))) &&& (252645135 : Int32)) + (am_ushr (((((x0 - ((am_ushr x0 (1 : Int32)) &&& (1431655765 : Int32))) &&& (858993459 : Int32)) + ((am_ushr (x0 - ((am_ushr x0 (1 : Int32)) &&& (1431655765 : Int32))) (2 : Int32)) &&& (858993459 : Int32))) + (am_ushr (((x0 - ((am_ushr x0 (1 : Int32)) &&& (1431655765 : Int32))) &&& (858993459 : Int32)) + ((am_ushr (x0 - ((am_ushr x0 (1 : Int32)) &&& (1431655765 : Int32))) (2 : Int32)) &&& (858993459 : Int32))) (4 : Int32))) &&& (252645135 : Int32)) (8 : Int32))) + (am_ushr ((((((x0 - ((am_ushr x0 (1 : Int32)) &&& (1431655765 : Int32))) &&& (858993459 : Int32)) + ((am_ushr (x0 - ((am_ushr x0 (1 : Int32)) &&& (1431655765 : Int32))) (2 : Int32)) &&& (858993459 : Int32))) + (am_ushr (((x0 - ((am_ushr x0 (1 : Int32)) &&& (1431655765 : Int32))) &&& (858993459 : Int32)) + ((am_ushr (x0 - ((am_ushr x0 (1 : Int32)) &&& (1431655765 : Int32))) (2 : Int32)) &&& (858993459 : Int32))) (4 : Int32))) &&& (252645135 : Int32)) + (am_ushr (((((x0 - ((am_ushr x0 (1 : Int32)) &&& (1431655765 : Int32))) &&& (858993459 : Int32)) + ((am_ushr (x0 - ((am_ushr x0 (1 : Int32)) &&& (1431655765 : Int32))) (2 : Int32)) &&& (858993459 : Int32))) + (am_ushr (((x0 - ((am_ushr x0 (1 : Int32)) &&& (1431655765 : Int32))) &&& (858993459 : Int32)) + ((am_ushr (x0 - ((am_ushr x0 (1 : Int32)) &&& (1431655765 : Int32))) (2 : Int32)) &&& (858993459 : Int32))) (4 : Int32))) &&& (252645135 : Int32)) (8 : Int32))) (16 : Int32))) &&& (63 : Int32))))) G) rfl
/-! 270 java/lang/Math.abs(I)I -/
theorem we270 {d : Nat} {post : am_O → am_G → Prop} (G : am_G) (x0 : Int32) : am_C am_T (d + 1) 270 [.int x0] G post ↔ am_W (am_C am_T d) am_270 post 0 [some (.int x0)] [] G := Iff.rfl
theorem wb270_0 {cl : Nat → List Value → am_G → (am_O → am_G → Prop) → Prop} (hc : am_one cl) {post : am_O → am_G → Prop} (G : am_G) (x0 : Int32) :
    am_W cl am_270 post 0 [some (.int x0)] [] G ↔ ((0 ≤ x0 → am_W cl am_270 post 9 [some (.int x0)] [] G) ∧ (¬ (0 ≤ x0) → am_W cl am_270 post 4 [some (.int x0)] [] G)) :=
  am_seg hc 2 [] (am_br (0 ≤ x0) 9 4 [some (.int x0)] [] G) rfl
theorem wb270_4 {cl : Nat → List Value → am_G → (am_O → am_G → Prop) → Prop} (hc : am_one cl) {post : am_O → am_G → Prop} (G : am_G) (x0 : Int32) :
    am_W cl am_270 post 4 [some (.int x0)] [] G ↔ (am_W cl am_270 post 10 [some (.int x0)] [.int (-x0)] G) :=
  am_seg hc 3 [] (am_go 10 [some (.int x0)] [.int (-x0)] G) rfl
theorem wb270_9 {cl : Nat → List Value → am_G → (am_O → am_G → Prop) → Prop} (hc : am_one cl) {post : am_O → am_G → Prop} (G : am_G) (x0 : Int32) :
    am_W cl am_270 post 9 [some (.int x0)] [] G ↔ (am_W cl am_270 post 10 [some (.int x0)] [.int x0] G) :=
  am_seg hc 1 [] (am_go 10 [some (.int x0)] [.int x0] G) rfl
theorem wb270_10 {cl : Nat → List Value → am_G → (am_O → am_G → Prop) → Prop} (hc : am_one cl) {post : am_O → am_G → Prop} (G : am_G) (o0 : Option Value) (s0 : Int32) :
    am_W cl am_270 post 10 [o0] [.int s0] G ↔ (post (.inl (some (.int s0))) G) :=
  am_seg hc 1 [] (am_re (.inl (some (.int s0))) G) rfl
/-! 271 java/lang/Math.max(II)I -/
theorem we271 {d : Nat} {post : am_O → am_G → Prop} (G : am_G) (x0 : Int32) (x1 : Int32) : am_C am_T (d + 1) 271 [.int x0, .int x1] G post ↔ am_W (am_C am_T d) am_271 post 0 [some (.int x0), some (.int x1)] [] G := Iff.rfl
theorem wb271_0 {cl : Nat → List Value → am_G → (am_O → am_G → Prop) → Prop} (hc : am_one cl) {post : am_O → am_G → Prop} (G : am_G) (x0 : Int32) (x1 : Int32) :
    am_W cl am_271 post 0 [some (.int x0), some (.int x1)] [] G ↔ ((x0 < x1 → am_W cl am_271 post 9 [some (.int x0), some (.int x1)] [] G) ∧ (¬ (x0 < x1) → am_W cl am_271 post 5 [some (.int x0), some (.int x1)] [] G)) :=
  am_seg hc 3 [] (am_br (x0 < x1) 9 5 [some (.int x0), some (.int x1)] [] G) rfl
theorem wb271_5 {cl : Nat → List Value → am_G → (am_O → am_G → Prop) → Prop} (hc : am_one cl) {post : am_O → am_G → Prop} (G : am_G) (x0 : Int32) (o1 : Option Value) :
    am_W cl am_271 post 5 [some (.int x0), o1] [] G ↔ (am_W cl am_271 post 10 [some (.int x0), none] [.int x0] G) :=
  am_seg hc 2 [] (am_go 10 [some (.int x0), none] [.int x0] G) rfl
theorem wb271_9 {cl : Nat → List Value → am_G → (am_O → am_G → Prop) → Prop} (hc : am_one cl) {post : am_O → am_G → Prop} (G : am_G) (o0 : Option Value) (x1 : Int32) :
    am_W cl am_271 post 9 [o0, some (.int x1)] [] G ↔ (am_W cl am_271 post 10 [none, some (.int x1)] [.int x1] G) :=
  am_seg hc 1 [] (am_go 10 [none, some (.int x1)] [.int x1] G) rfl
theorem wb271_10 {cl : Nat → List Value → am_G → (am_O → am_G → Prop) → Prop} (hc : am_one cl) {post : am_O → am_G → Prop} (G : am_G) (o0 : Option Value) (o1 : Option Value) (s0 : Int32) :
    am_W cl am_271 post 10 [o0, o1] [.int s0] G ↔ (post (.inl (some (.int s0))) G) :=
  am_seg hc 1 [] (am_re (.inl (some (.int s0))) G) rfl
/-! 272 java/lang/Math.min(II)I -/
theorem we272 {d : Nat} {post : am_O → am_G → Prop} (G : am_G) (x0 : Int32) (x1 : Int32) : am_C am_T (d + 1) 272 [.int x0, .int x1] G post ↔ am_W (am_C am_T d) am_272 post 0 [some (.int x0), some (.int x1)] [] G := Iff.rfl
theorem wb272_0 {cl : Nat → List Value → am_G → (am_O → am_G → Prop) → Prop} (hc : am_one cl) {post : am_O → am_G → Prop} (G : am_G) (x0 : Int32) (x1 : Int32) :
    am_W cl am_272 post 0 [some (.int x0), some (.int x1)] [] G ↔ ((x1 < x0 → am_W cl am_272 post 9 [some (.int x0), some (.int x1)] [] G) ∧ (¬ (x1 < x0) → am_W cl am_272 post 5 [some (.int x0), some (.int x1)] [] G)) :=
  am_seg hc 3 [] (am_br (x1 < x0) 9 5 [some (.int x0), some (.int x1)] [] G) rfl
theorem wb272_5 {cl : Nat → List Value → am_G → (am_O → am_G → Prop) → Prop} (hc : am_one cl) {post : am_O → am_G → Prop} (G : am_G) (x0 : Int32) (o1 : Option Value) :
    am_W cl am_272 post 5 [some (.int x0), o1] [] G ↔ (am_W cl am_272 post 10 [some (.int x0), none] [.int x0] G) :=
  am_seg hc 2 [] (am_go 10 [some (.int x0), none] [.int x0] G) rfl
theorem wb272_9 {cl : Nat → List Value → am_G → (am_O → am_G → Prop) → Prop} (hc : am_one cl) {post : am_O → am_G → Prop} (G : am_G) (o0 : Option Value) (x1 : Int32) :
    am_W cl am_272 post 9 [o0, some (.int x1)] [] G ↔ (am_W cl am_272 post 10 [none, some (.int x1)] [.int x1] G) :=
  am_seg hc 1 [] (am_go 10 [none, some (.int x1)] [.int x1] G) rfl
theorem wb272_10 {cl : Nat → List Value → am_G → (am_O → am_G → Prop) → Prop} (hc : am_one cl) {post : am_O → am_G → Prop} (G : am_G) (o0 : Option Value) (o1 : Option Value) (s0 : Int32) :
    am_W cl am_272 post 10 [o0, o1] [.int s0] G ↔ (post (.inl (some (.int s0))) G) :=
  am_seg hc 1 [] (am_re (.inl (some (.int s0))) G) rfl
/-! 273 java/lang/String.length()I -/
theorem we273 {d : Nat} {post : am_O → am_G → Prop} (G : am_G) (a0 : Nat) : am_C am_T (d + 1) 273 [.ref a0] G post ↔ am_W (am_C am_T d) am_273 post 0 [some (.ref a0)] [] G := Iff.rfl
theorem wb273_0 {cl : Nat → List Value → am_G → (am_O → am_G → Prop) → Prop} (hc : am_one cl) {post : am_O → am_G → Prop} (G : am_G) (a0 : Nat) :
    am_W cl am_273 post 0 [some (.ref a0)] [] G ↔ (am_os a0 ∧ am_al G (a0 + 5) ∧ am_os a0 ∧ cl 275 [.ref a0] G (am_kt cl am_273 9 [.int (Int32.ofNat (am_ln G (a0 + 5)))] 7 [some (.ref a0)] 6 post)) :=
  am_seg hc 5 [am_os a0, am_al G (a0 + 5), am_os a0] (am_ca 275 [.ref a0] 9 [.int (Int32.ofNat (am_ln G (a0 + 5)))] 7 [some (.ref a0)] G 6) rfl
theorem wb273_9 {cl : Nat → List Value → am_G → (am_O → am_G → Prop) → Prop} (hc : am_one cl) {post : am_O → am_G → Prop} (G : am_G) (o0 : Option Value) (s0 : Int32) (s1 : Int32) :
    am_W cl am_273 post 9 [o0] [.int s0, .int s1] G ↔ (post (.inl (some (.int (s1 >>> (s0 &&& 31))))) G) :=
  am_seg hc 2 [] (am_re (.inl (some (.int (s1 >>> (s0 &&& 31))))) G) rfl
/-! 274 java/lang/String.charAt(I)C -/
theorem we274 {d : Nat} {post : am_O → am_G → Prop} (G : am_G) (a0 : Nat) (x1 : Int32) : am_C am_T (d + 1) 274 [.ref a0, .int x1] G post ↔ am_W (am_C am_T d) am_274 post 0 [some (.ref a0), some (.int x1)] [] G := Iff.rfl
theorem wb274_0 {cl : Nat → List Value → am_G → (am_O → am_G → Prop) → Prop} (hc : am_one cl) {post : am_O → am_G → Prop} (G : am_G) (a0 : Nat) (x1 : Int32) :
    am_W cl am_274 post 0 [some (.ref a0), some (.int x1)] [] G ↔ (am_os a0 ∧ cl 276 [.ref a0] G (am_kt cl am_274 4 [] 5 [some (.ref a0), some (.int x1)] 1 post)) :=
  am_seg hc 2 [am_os a0] (am_ca 276 [.ref a0] 4 [] 5 [some (.ref a0), some (.int x1)] G 1) rfl
theorem wb274_4 {cl : Nat → List Value → am_G → (am_O → am_G → Prop) → Prop} (hc : am_one cl) {post : am_O → am_G → Prop} (G : am_G) (a0 : Nat) (x1 : Int32) (s0 : Int32) :
    am_W cl am_274 post 4 [some (.ref a0), some (.int x1)] [.int s0] G ↔ ((s0 = 0 → am_W cl am_274 post 16 [some (.ref a0), some (.int x1)] [] G) ∧ (¬ (s0 = 0) → am_W cl am_274 post 7 [some (.ref a0), some (.int x1)] [] G)) :=
  am_seg hc 1 [] (am_br (s0 = 0) 16 7 [some (.ref a0), some (.int x1)] [] G) rfl
theorem wb274_7 {cl : Nat → List Value → am_G → (am_O → am_G → Prop) → Prop} (hc : am_one cl) {post : am_O → am_G → Prop} (G : am_G) (a0 : Nat) (x1 : Int32) :
    am_W cl am_274 post 7 [some (.ref a0), some (.int x1)] [] G ↔ (am_os a0 ∧ cl 278 [.ref (a0 + 5), .int x1] G (am_kt cl am_274 15 [] 6 [some (.ref a0), some (.int x1)] 12 post)) :=
  am_seg hc 4 [am_os a0] (am_ca 278 [.ref (a0 + 5), .int x1] 15 [] 6 [some (.ref a0), some (.int x1)] G 12) rfl
theorem wb274_15 {cl : Nat → List Value → am_G → (am_O → am_G → Prop) → Prop} (hc : am_one cl) {post : am_O → am_G → Prop} (G : am_G) (o0 : Option Value) (o1 : Option Value) (s0 : Int32) :
    am_W cl am_274 post 15 [o0, o1] [.int s0] G ↔ (am_nb 6 s0 ∧ post (.inl (some (.int s0))) G) :=
  am_seg hc 1 [am_nb 6 s0] (am_re (.inl (some (.int s0))) G) rfl
theorem wb274_16 {cl : Nat → List Value → am_G → (am_O → am_G → Prop) → Prop} (hc : am_one cl) {post : am_O → am_G → Prop} (G : am_G) (a0 : Nat) (x1 : Int32) :
    am_W cl am_274 post 16 [some (.ref a0), some (.int x1)] [] G ↔ (am_os a0 ∧ cl 999 [.ref (a0 + 5), .int x1] G (am_kt cl am_274 24 [] 6 [some (.ref a0), some (.int x1)] 21 post)) :=
  am_seg hc 4 [am_os a0] (am_ca 999 [.ref (a0 + 5), .int x1] 24 [] 6 [some (.ref a0), some (.int x1)] G 21) rfl
theorem wb274_24 {cl : Nat → List Value → am_G → (am_O → am_G → Prop) → Prop} (hc : am_one cl) {post : am_O → am_G → Prop} (G : am_G) (o0 : Option Value) (o1 : Option Value) (s0 : Int32) :
    am_W cl am_274 post 24 [o0, o1] [.int s0] G ↔ (am_nb 6 s0 ∧ post (.inl (some (.int s0))) G) :=
  am_seg hc 1 [am_nb 6 s0] (am_re (.inl (some (.int s0))) G) rfl
/-! 275 java/lang/String.coder()B -/
theorem we275 {d : Nat} {post : am_O → am_G → Prop} (G : am_G) (a0 : Nat) : am_C am_T (d + 1) 275 [.ref a0] G post ↔ am_W (am_C am_T d) am_275 post 0 [some (.ref a0)] [] G := Iff.rfl
theorem wb275_0 {cl : Nat → List Value → am_G → (am_O → am_G → Prop) → Prop} (hc : am_one cl) {post : am_O → am_G → Prop} (G : am_G) (a0 : Nat) :
    am_W cl am_275 post 0 [some (.ref a0)] [] G ↔ (((1 : Int32) = 0 → am_W cl am_275 post 13 [some (.ref a0)] [] G) ∧ (¬ ((1 : Int32) = 0) → am_W cl am_275 post 6 [some (.ref a0)] [] G)) :=
  am_seg hc 2 [] (am_br ((1 : Int32) = 0) 13 6 [some (.ref a0)] [] G) rfl
theorem wb275_6 {cl : Nat → List Value → am_G → (am_O → am_G → Prop) → Prop} (hc : am_one cl) {post : am_O → am_G → Prop} (G : am_G) (a0 : Nat) :
    am_W cl am_275 post 6 [some (.ref a0)] [] G ↔ (am_os a0 ∧ am_W cl am_275 post 14 [some (.ref a0)] [.int (0 : Int32)] G) :=
  am_seg hc 3 [am_os a0] (am_go 14 [some (.ref a0)] [.int (0 : Int32)] G) rfl
theorem wb275_13 {cl : Nat → List Value → am_G → (am_O → am_G → Prop) → Prop} (hc : am_one cl) {post : am_O → am_G → Prop} (G : am_G) (o0 : Option Value) :
    am_W cl am_275 post 13 [o0] [] G ↔ (am_W cl am_275 post 14 [none] [.int (1 : Int32)] G) :=
  am_seg hc 1 [] (am_go 14 [none] [.int (1 : Int32)] G) rfl
theorem wb275_14 {cl : Nat → List Value → am_G → (am_O → am_G → Prop) → Prop} (hc : am_one cl) {post : am_O → am_G → Prop} (G : am_G) (o0 : Option Value) (s0 : Int32) :
    am_W cl am_275 post 14 [o0] [.int s0] G ↔ (am_nb 7 s0 ∧ post (.inl (some (.int s0))) G) :=
  am_seg hc 1 [am_nb 7 s0] (am_re (.inl (some (.int s0))) G) rfl
/-! 276 java/lang/String.isLatin1()Z -/
theorem we276 {d : Nat} {post : am_O → am_G → Prop} (G : am_G) (a0 : Nat) : am_C am_T (d + 1) 276 [.ref a0] G post ↔ am_W (am_C am_T d) am_276 post 0 [some (.ref a0)] [] G := Iff.rfl
theorem wb276_0 {cl : Nat → List Value → am_G → (am_O → am_G → Prop) → Prop} (hc : am_one cl) {post : am_O → am_G → Prop} (G : am_G) (a0 : Nat) :
    am_W cl am_276 post 0 [some (.ref a0)] [] G ↔ (((1 : Int32) = 0 → am_W cl am_276 post 17 [some (.ref a0)] [] G) ∧ (¬ ((1 : Int32) = 0) → am_W cl am_276 post 6 [some (.ref a0)] [] G)) :=
  am_seg hc 2 [] (am_br ((1 : Int32) = 0) 17 6 [some (.ref a0)] [] G) rfl
theorem wb276_6 {cl : Nat → List Value → am_G → (am_O → am_G → Prop) → Prop} (hc : am_one cl) {post : am_O → am_G → Prop} (G : am_G) (a0 : Nat) :
    am_W cl am_276 post 6 [some (.ref a0)] [] G ↔ (am_os a0 ∧ (¬ (0 : Int32) = 0 → am_W cl am_276 post 17 [some (.ref a0)] [] G) ∧ (¬ (¬ (0 : Int32) = 0) → am_W cl am_276 post 13 [some (.ref a0)] [] G)) :=
  am_seg hc 3 [am_os a0] (am_br (¬ (0 : Int32) = 0) 17 13 [some (.ref a0)] [] G) rfl
theorem wb276_13 {cl : Nat → List Value → am_G → (am_O → am_G → Prop) → Prop} (hc : am_one cl) {post : am_O → am_G → Prop} (G : am_G) (o0 : Option Value) :
    am_W cl am_276 post 13 [o0] [] G ↔ (am_W cl am_276 post 18 [none] [.int (1 : Int32)] G) :=
  am_seg hc 2 [] (am_go 18 [none] [.int (1 : Int32)] G) rfl
theorem wb276_17 {cl : Nat → List Value → am_G → (am_O → am_G → Prop) → Prop} (hc : am_one cl) {post : am_O → am_G → Prop} (G : am_G) (o0 : Option Value) :
    am_W cl am_276 post 17 [o0] [] G ↔ (am_W cl am_276 post 18 [none] [.int (0 : Int32)] G) :=
  am_seg hc 1 [] (am_go 18 [none] [.int (0 : Int32)] G) rfl
theorem wb276_18 {cl : Nat → List Value → am_G → (am_O → am_G → Prop) → Prop} (hc : am_one cl) {post : am_O → am_G → Prop} (G : am_G) (o0 : Option Value) (s0 : Int32) :
    am_W cl am_276 post 18 [o0] [.int s0] G ↔ (am_nb 5 s0 ∧ post (.inl (some (.int s0))) G) :=
  am_seg hc 1 [am_nb 5 s0] (am_re (.inl (some (.int s0))) G) rfl
/-! 277 java/lang/String.checkIndex(II)V -/
theorem we277 {d : Nat} {post : am_O → am_G → Prop} (G : am_G) (x0 : Int32) (x1 : Int32) : am_C am_T (d + 1) 277 [.int x0, .int x1] G post ↔ am_W (am_C am_T d) am_277 post 0 [some (.int x0), some (.int x1)] [] G := Iff.rfl
theorem wb277_0 {cl : Nat → List Value → am_G → (am_O → am_G → Prop) → Prop} (hc : am_one cl) {post : am_O → am_G → Prop} (G : am_G) (x0 : Int32) (x1 : Int32) :
    am_W cl am_277 post 0 [some (.int x0), some (.int x1)] [] G ↔ (cl 280 [.int x0, .int x1, .ref 100013] G (am_kt cl am_277 8 [] 1 [some (.int x0), some (.int x1)] 5 post)) :=
  am_seg hc 4 [] (am_ca 280 [.int x0, .int x1, .ref 100013] 8 [] 1 [some (.int x0), some (.int x1)] G 5) rfl
theorem wb277_8 {cl : Nat → List Value → am_G → (am_O → am_G → Prop) → Prop} (hc : am_one cl) {post : am_O → am_G → Prop} (G : am_G) (o0 : Option Value) (o1 : Option Value) (s0 : Int32) :
    am_W cl am_277 post 8 [o0, o1] [.int s0] G ↔ (post (.inl none) G) :=
  am_seg hc 2 [] (am_re (.inl none) G) rfl
/-! 278 java/lang/StringLatin1.charAt([BI)C -/
theorem we278 {d : Nat} {post : am_O → am_G → Prop} (G : am_G) (a0 : Nat) (x1 : Int32) : am_C am_T (d + 1) 278 [.ref a0, .int x1] G post ↔ am_W (am_C am_T d) am_278 post 0 [some (.ref a0), some (.int x1)] [] G := Iff.rfl
theorem wb278_0 {cl : Nat → List Value → am_G → (am_O → am_G → Prop) → Prop} (hc : am_one cl) {post : am_O → am_G → Prop} (G : am_G) (a0 : Nat) (x1 : Int32) :
    am_W cl am_278 post 0 [some (.ref a0), some (.int x1)] [] G ↔ (am_al G a0 ∧ cl 277 [.int x1, .int (Int32.ofNat (am_ln G a0))] G (am_kt cl am_278 6 [] 0 [some (.ref a0), some (.int x1)] 3 post)) :=
  am_seg hc 4 [am_al G a0] (am_ca 277 [.int x1, .int (Int32.ofNat (am_ln G a0))] 6 [] 0 [some (.ref a0), some (.int x1)] G 3) rfl
theorem wb278_6 {cl : Nat → List Value → am_G → (am_O → am_G → Prop) → Prop} (hc : am_one cl) {post : am_O → am_G → Prop} (G : am_G) (a0 : Nat) (x1 : Int32) :
    am_W cl am_278 post 6 [some (.ref a0), some (.int x1)] [] G ↔ (am_ba G a0 x1 ∧ am_nb 6 (UInt32.toInt32 (Int32.toUInt32 ((am_gI G a0 (Int32.toNatClampNeg x1)) &&& (255 : Int32)) % 65536)) ∧ post (.inl (some (.int (UInt32.toInt32 (Int32.toUInt32 ((am_gI G a0 (Int32.toNatClampNeg x1)) &&& (255 : Int32)) % 65536))))) G) :=
  am_seg hc 7 [am_ba G a0 x1, am_nb 6 (UInt32.toInt32 (Int32.toUInt32 ((am_gI G a0 (Int32.toNatClampNeg x1)) &&& (255 : Int32)) % 65536))] (am_re (.inl (some (.int (UInt32.toInt32 (Int32.toUInt32 ((am_gI G a0 (Int32.toNatClampNeg x1)) &&& (255 : Int32)) % 65536))))) G) rfl
/-! 279 java/util/Arrays.fill([II)V -/
theorem we279 {d : Nat} {post : am_O → am_G → Prop} (G : am_G) (a0 : Nat) (x1 : Int32) : am_C am_T (d + 1) 279 [.ref a0, .int x1] G post ↔ am_W (am_C am_T d) am_279 post 0 [some (.ref a0), some (.int x1), none, none] [] G := Iff.rfl
theorem wb279_0 {cl : Nat → List Value → am_G → (am_O → am_G → Prop) → Prop} (hc : am_one cl) {post : am_O → am_G → Prop} (G : am_G) (a0 : Nat) (x1 : Int32) :
    am_W cl am_279 post 0 [some (.ref a0), some (.int x1), none, none] [] G ↔ (am_al G a0 ∧ am_W cl am_279 post 5 [some (.ref a0), some (.int x1), some (.int (0 : Int32)), some (.int (Int32.ofNat (am_ln G a0)))] [] G) :=
  am_seg hc 5 [am_al G a0] (am_go 5 [some (.ref a0), some (.int x1), some (.int (0 : Int32)), some (.int (Int32.ofNat (am_ln G a0)))] [] G) rfl
theorem wb279_5 {cl : Nat → List Value → am_G → (am_O → am_G → Prop) → Prop} (hc : am_one cl) {post : am_O → am_G → Prop} (G : am_G) (a0 : Nat) (x1 : Int32) (x2 : Int32) (x3 : Int32) :
    am_W cl am_279 post 5 [some (.ref a0), some (.int x1), some (.int x2), some (.int x3)] [] G ↔ ((x3 ≤ x2 → am_W cl am_279 post 20 [some (.ref a0), some (.int x1), some (.int x2), some (.int x3)] [] G) ∧ (¬ (x3 ≤ x2) → am_W cl am_279 post 10 [some (.ref a0), some (.int x1), some (.int x2), some (.int x3)] [] G)) :=
  am_seg hc 3 [] (am_br (x3 ≤ x2) 20 10 [some (.ref a0), some (.int x1), some (.int x2), some (.int x3)] [] G) rfl
theorem wb279_10 {cl : Nat → List Value → am_G → (am_O → am_G → Prop) → Prop} (hc : am_one cl) {post : am_O → am_G → Prop} (G : am_G) (a0 : Nat) (x1 : Int32) (x2 : Int32) (x3 : Int32) :
    am_W cl am_279 post 10 [some (.ref a0), some (.int x1), some (.int x2), some (.int x3)] [] G ↔ (am_ow G a0 x2 100 ∧ am_W cl am_279 post 5 [some (.ref a0), some (.int x1), some (.int (x2 + (1 : Int32))), some (.int x3)] [] (am_wI G a0 (Int32.toNatClampNeg x2) x1)) :=
  am_seg hc 6 [am_ow G a0 x2 100] (am_go 5 [some (.ref a0), some (.int x1), some (.int (x2 + (1 : Int32))), some (.int x3)] [] (am_wI G a0 (Int32.toNatClampNeg x2) x1)) rfl
theorem wb279_20 {cl : Nat → List Value → am_G → (am_O → am_G → Prop) → Prop} (hc : am_one cl) {post : am_O → am_G → Prop} (G : am_G) (o0 : Option Value) (o1 : Option Value) (o2 : Option Value) (o3 : Option Value) :
    am_W cl am_279 post 20 [o0, o1, o2, o3] [] G ↔ (post (.inl none) G) :=
  am_seg hc 1 [] (am_re (.inl none) G) rfl
/-! 280 jdk/internal/util/Preconditions.checkIndex(IILjava/util/function/BiFunction;)I -/
theorem we280 {d : Nat} {post : am_O → am_G → Prop} (G : am_G) (x0 : Int32) (x1 : Int32) (a2 : Nat) : am_C am_T (d + 1) 280 [.int x0, .int x1, .ref a2] G post ↔ am_W (am_C am_T d) am_280 post 0 [some (.int x0), some (.int x1), some (.ref a2)] [] G := Iff.rfl
theorem wb280_0 {cl : Nat → List Value → am_G → (am_O → am_G → Prop) → Prop} (hc : am_one cl) {post : am_O → am_G → Prop} (G : am_G) (x0 : Int32) (x1 : Int32) (a2 : Nat) :
    am_W cl am_280 post 0 [some (.int x0), some (.int x1), some (.ref a2)] [] G ↔ ((x0 < 0 → am_W cl am_280 post 9 [some (.int x0), some (.int x1), some (.ref a2)] [] G) ∧ (¬ (x0 < 0) → am_W cl am_280 post 4 [some (.int x0), some (.int x1), some (.ref a2)] [] G)) :=
  am_seg hc 2 [] (am_br (x0 < 0) 9 4 [some (.int x0), some (.int x1), some (.ref a2)] [] G) rfl
theorem wb280_4 {cl : Nat → List Value → am_G → (am_O → am_G → Prop) → Prop} (hc : am_one cl) {post : am_O → am_G → Prop} (G : am_G) (x0 : Int32) (x1 : Int32) (a2 : Nat) :
    am_W cl am_280 post 4 [some (.int x0), some (.int x1), some (.ref a2)] [] G ↔ ((x0 < x1 → am_W cl am_280 post 16 [some (.int x0), some (.int x1), some (.ref a2)] [] G) ∧ (¬ (x0 < x1) → am_W cl am_280 post 9 [some (.int x0), some (.int x1), some (.ref a2)] [] G)) :=
  am_seg hc 3 [] (am_br (x0 < x1) 16 9 [some (.int x0), some (.int x1), some (.ref a2)] [] G) rfl
theorem wb280_9 {cl : Nat → List Value → am_G → (am_O → am_G → Prop) → Prop} (hc : am_one cl) {post : am_O → am_G → Prop} (G : am_G) (x0 : Int32) (x1 : Int32) (a2 : Nat) :
    am_W cl am_280 post 9 [some (.int x0), some (.int x1), some (.ref a2)] [] G ↔ (cl 999 [] G (am_kt cl am_280 15 [.int x1, .int x0, .ref a2] 0 [some (.int x0), some (.int x1), some (.ref a2)] 12 post)) :=
  am_seg hc 4 [] (am_ca 999 [] 15 [.int x1, .int x0, .ref a2] 0 [some (.int x0), some (.int x1), some (.ref a2)] G 12) rfl
theorem wb280_16 {cl : Nat → List Value → am_G → (am_O → am_G → Prop) → Prop} (hc : am_one cl) {post : am_O → am_G → Prop} (G : am_G) (x0 : Int32) (o1 : Option Value) (o2 : Option Value) :
    am_W cl am_280 post 16 [some (.int x0), o1, o2] [] G ↔ (post (.inl (some (.int x0))) G) :=
  am_seg hc 2 [] (am_re (.inl (some (.int x0))) G) rfl
