/-! Blocks of the code, by program (gen3.py). -/
/-! 281 MoodBelfriesLaw.district(LMoodBelfries;I[J)I -/
theorem we281 {d : Nat} {post : am_O → am_G → Prop} (G : am_G) (a0 : Nat) (x1 : Int32) (a2 : Nat) : am_C am_T (d + 1) 281 [.ref a0, .int x1, .ref a2] G post ↔ am_W (am_C am_T d) am_281 post 0 [some (.ref a0), some (.int x1), some (.ref a2), none] [] G := Iff.rfl
theorem wb281_0 {cl : Nat → List Value → am_G → (am_O → am_G → Prop) → Prop} (hc : am_one cl) {post : am_O → am_G → Prop} (G : am_G) (a0 : Nat) (x1 : Int32) (a2 : Nat) :
    am_W cl am_281 post 0 [some (.ref a0), some (.int x1), some (.ref a2), none] [] G ↔ (am_is G a0 11 ∧ cl 102 [.ref a0, .int x1] G (am_kt cl am_281 7 [.int (0 : Int32), .ref a2] 1 [some (.ref a0), some (.int x1), some (.ref a2), none] 4 post)) :=
  am_seg hc 5 [am_is G a0 11] (am_ca 102 [.ref a0, .int x1] 7 [.int (0 : Int32), .ref a2] 1 [some (.ref a0), some (.int x1), some (.ref a2), none] G 4) rfl
theorem wb281_7 {cl : Nat → List Value → am_G → (am_O → am_G → Prop) → Prop} (hc : am_one cl) {post : am_O → am_G → Prop} (G : am_G) (o0 : Option Value) (o1 : Option Value) (o2 : Option Value) (o3 : Option Value) (s0 : Int32) (s1 : Int32) (b2 : Nat) :
    am_W cl am_281 post 7 [o0, o1, o2, o3] [.int s0, .int s1, .ref b2] G ↔ (am_ow G b2 s1 101 ∧ am_W cl am_281 post 15 [none, none, none, none] [] (am_wL G b2 (Int32.toNatClampNeg s1) (Int32.toInt64 s0))) :=
  am_seg hc 3 [am_ow G b2 s1 101] (am_go 15 [none, none, none, none] [] (am_wL G b2 (Int32.toNatClampNeg s1) (Int32.toInt64 s0))) rfl
theorem wb281_12 {cl : Nat → List Value → am_G → (am_O → am_G → Prop) → Prop} (hc : am_one cl) {post : am_O → am_G → Prop} (G : am_G) (o0 : Option Value) (o1 : Option Value) (o2 : Option Value) (o3 : Option Value) (b0 : Nat) :
    am_W cl am_281 post 12 [o0, o1, o2, o3] [.ref b0] G ↔ (post (.inl (some (.int (1 : Int32)))) G) :=
  am_seg hc 3 [] (am_re (.inl (some (.int (1 : Int32)))) G) rfl
theorem wb281_15 {cl : Nat → List Value → am_G → (am_O → am_G → Prop) → Prop} (hc : am_one cl) {post : am_O → am_G → Prop} (G : am_G) (o0 : Option Value) (o1 : Option Value) (o2 : Option Value) (o3 : Option Value) :
    am_W cl am_281 post 15 [o0, o1, o2, o3] [] G ↔ (post (.inl (some (.int (0 : Int32)))) G) :=
  am_seg hc 2 [] (am_re (.inl (some (.int (0 : Int32)))) G) rfl
/-! 282 MoodBelfriesLaw.law(LMoodBelfries;I[J)I -/
theorem we282 {d : Nat} {post : am_O → am_G → Prop} (G : am_G) (a0 : Nat) (x1 : Int32) (a2 : Nat) : am_C am_T (d + 1) 282 [.ref a0, .int x1, .ref a2] G post ↔ am_W (am_C am_T d) am_282 post 0 [some (.ref a0), some (.int x1), some (.ref a2), none] [] G := Iff.rfl
theorem wb282_0 {cl : Nat → List Value → am_G → (am_O → am_G → Prop) → Prop} (hc : am_one cl) {post : am_O → am_G → Prop} (G : am_G) (a0 : Nat) (x1 : Int32) (a2 : Nat) :
    am_W cl am_282 post 0 [some (.ref a0), some (.int x1), some (.ref a2), none] [] G ↔ (am_is G a0 11 ∧ cl 103 [.ref a0, .int x1] G (am_kt cl am_282 7 [.int (0 : Int32), .ref a2] 1 [some (.ref a0), some (.int x1), some (.ref a2), none] 4 post)) :=
  am_seg hc 5 [am_is G a0 11] (am_ca 103 [.ref a0, .int x1] 7 [.int (0 : Int32), .ref a2] 1 [some (.ref a0), some (.int x1), some (.ref a2), none] G 4) rfl
theorem wb282_7 {cl : Nat → List Value → am_G → (am_O → am_G → Prop) → Prop} (hc : am_one cl) {post : am_O → am_G → Prop} (G : am_G) (o0 : Option Value) (o1 : Option Value) (o2 : Option Value) (o3 : Option Value) (s0 : Int32) (s1 : Int32) (b2 : Nat) :
    am_W cl am_282 post 7 [o0, o1, o2, o3] [.int s0, .int s1, .ref b2] G ↔ (am_ow G b2 s1 101 ∧ am_W cl am_282 post 15 [none, none, none, none] [] (am_wL G b2 (Int32.toNatClampNeg s1) (Int32.toInt64 s0))) :=
  am_seg hc 3 [am_ow G b2 s1 101] (am_go 15 [none, none, none, none] [] (am_wL G b2 (Int32.toNatClampNeg s1) (Int32.toInt64 s0))) rfl
theorem wb282_12 {cl : Nat → List Value → am_G → (am_O → am_G → Prop) → Prop} (hc : am_one cl) {post : am_O → am_G → Prop} (G : am_G) (o0 : Option Value) (o1 : Option Value) (o2 : Option Value) (o3 : Option Value) (b0 : Nat) :
    am_W cl am_282 post 12 [o0, o1, o2, o3] [.ref b0] G ↔ (post (.inl (some (.int (1 : Int32)))) G) :=
  am_seg hc 3 [] (am_re (.inl (some (.int (1 : Int32)))) G) rfl
theorem wb282_15 {cl : Nat → List Value → am_G → (am_O → am_G → Prop) → Prop} (hc : am_one cl) {post : am_O → am_G → Prop} (G : am_G) (o0 : Option Value) (o1 : Option Value) (o2 : Option Value) (o3 : Option Value) :
    am_W cl am_282 post 15 [o0, o1, o2, o3] [] G ↔ (post (.inl (some (.int (0 : Int32)))) G) :=
  am_seg hc 2 [] (am_re (.inl (some (.int (0 : Int32)))) G) rfl
/-! 283 MoodBelfriesLaw.work(LMoodBelfries;I[J)I -/
theorem we283 {d : Nat} {post : am_O → am_G → Prop} (G : am_G) (a0 : Nat) (x1 : Int32) (a2 : Nat) : am_C am_T (d + 1) 283 [.ref a0, .int x1, .ref a2] G post ↔ am_W (am_C am_T d) am_283 post 0 [some (.ref a0), some (.int x1), some (.ref a2), none] [] G := Iff.rfl
theorem wb283_0 {cl : Nat → List Value → am_G → (am_O → am_G → Prop) → Prop} (hc : am_one cl) {post : am_O → am_G → Prop} (G : am_G) (a0 : Nat) (x1 : Int32) (a2 : Nat) :
    am_W cl am_283 post 0 [some (.ref a0), some (.int x1), some (.ref a2), none] [] G ↔ (am_is G a0 11 ∧ cl 104 [.ref a0, .int x1] G (am_kt cl am_283 7 [.int (0 : Int32), .ref a2] 1 [some (.ref a0), some (.int x1), some (.ref a2), none] 4 post)) :=
  am_seg hc 5 [am_is G a0 11] (am_ca 104 [.ref a0, .int x1] 7 [.int (0 : Int32), .ref a2] 1 [some (.ref a0), some (.int x1), some (.ref a2), none] G 4) rfl
theorem wb283_7 {cl : Nat → List Value → am_G → (am_O → am_G → Prop) → Prop} (hc : am_one cl) {post : am_O → am_G → Prop} (G : am_G) (o0 : Option Value) (o1 : Option Value) (o2 : Option Value) (o3 : Option Value) (s0 : Int32) (s1 : Int32) (b2 : Nat) :
    am_W cl am_283 post 7 [o0, o1, o2, o3] [.int s0, .int s1, .ref b2] G ↔ (am_ow G b2 s1 101 ∧ am_W cl am_283 post 15 [none, none, none, none] [] (am_wL G b2 (Int32.toNatClampNeg s1) (Int32.toInt64 s0))) :=
  am_seg hc 3 [am_ow G b2 s1 101] (am_go 15 [none, none, none, none] [] (am_wL G b2 (Int32.toNatClampNeg s1) (Int32.toInt64 s0))) rfl
theorem wb283_12 {cl : Nat → List Value → am_G → (am_O → am_G → Prop) → Prop} (hc : am_one cl) {post : am_O → am_G → Prop} (G : am_G) (o0 : Option Value) (o1 : Option Value) (o2 : Option Value) (o3 : Option Value) (b0 : Nat) :
    am_W cl am_283 post 12 [o0, o1, o2, o3] [.ref b0] G ↔ (post (.inl (some (.int (1 : Int32)))) G) :=
  am_seg hc 3 [] (am_re (.inl (some (.int (1 : Int32)))) G) rfl
theorem wb283_15 {cl : Nat → List Value → am_G → (am_O → am_G → Prop) → Prop} (hc : am_one cl) {post : am_O → am_G → Prop} (G : am_G) (o0 : Option Value) (o1 : Option Value) (o2 : Option Value) (o3 : Option Value) :
    am_W cl am_283 post 15 [o0, o1, o2, o3] [] G ↔ (post (.inl (some (.int (0 : Int32)))) G) :=
  am_seg hc 2 [] (am_re (.inl (some (.int (0 : Int32)))) G) rfl
/-! 284 MoodBelfriesLaw.book(LMoodBelfries;I[J)I -/
theorem we284 {d : Nat} {post : am_O → am_G → Prop} (G : am_G) (a0 : Nat) (x1 : Int32) (a2 : Nat) : am_C am_T (d + 1) 284 [.ref a0, .int x1, .ref a2] G post ↔ am_W (am_C am_T d) am_284 post 0 [some (.ref a0), some (.int x1), some (.ref a2), none] [] G := Iff.rfl
theorem wb284_0 {cl : Nat → List Value → am_G → (am_O → am_G → Prop) → Prop} (hc : am_one cl) {post : am_O → am_G → Prop} (G : am_G) (a0 : Nat) (x1 : Int32) (a2 : Nat) :
    am_W cl am_284 post 0 [some (.ref a0), some (.int x1), some (.ref a2), none] [] G ↔ (am_is G a0 11 ∧ cl 105 [.ref a0, .int x1] G (am_kt cl am_284 7 [.int (0 : Int32), .ref a2] 1 [some (.ref a0), some (.int x1), some (.ref a2), none] 4 post)) :=
  am_seg hc 5 [am_is G a0 11] (am_ca 105 [.ref a0, .int x1] 7 [.int (0 : Int32), .ref a2] 1 [some (.ref a0), some (.int x1), some (.ref a2), none] G 4) rfl
theorem wb284_7 {cl : Nat → List Value → am_G → (am_O → am_G → Prop) → Prop} (hc : am_one cl) {post : am_O → am_G → Prop} (G : am_G) (o0 : Option Value) (o1 : Option Value) (o2 : Option Value) (o3 : Option Value) (s0 : Int32) (s1 : Int32) (b2 : Nat) :
    am_W cl am_284 post 7 [o0, o1, o2, o3] [.int s0, .int s1, .ref b2] G ↔ (am_ow G b2 s1 101 ∧ am_W cl am_284 post 15 [none, none, none, none] [] (am_wL G b2 (Int32.toNatClampNeg s1) (Int32.toInt64 s0))) :=
  am_seg hc 3 [am_ow G b2 s1 101] (am_go 15 [none, none, none, none] [] (am_wL G b2 (Int32.toNatClampNeg s1) (Int32.toInt64 s0))) rfl
theorem wb284_12 {cl : Nat → List Value → am_G → (am_O → am_G → Prop) → Prop} (hc : am_one cl) {post : am_O → am_G → Prop} (G : am_G) (o0 : Option Value) (o1 : Option Value) (o2 : Option Value) (o3 : Option Value) (b0 : Nat) :
    am_W cl am_284 post 12 [o0, o1, o2, o3] [.ref b0] G ↔ (post (.inl (some (.int (1 : Int32)))) G) :=
  am_seg hc 3 [] (am_re (.inl (some (.int (1 : Int32)))) G) rfl
theorem wb284_15 {cl : Nat → List Value → am_G → (am_O → am_G → Prop) → Prop} (hc : am_one cl) {post : am_O → am_G → Prop} (G : am_G) (o0 : Option Value) (o1 : Option Value) (o2 : Option Value) (o3 : Option Value) :
    am_W cl am_284 post 15 [o0, o1, o2, o3] [] G ↔ (post (.inl (some (.int (0 : Int32)))) G) :=
  am_seg hc 2 [] (am_re (.inl (some (.int (0 : Int32)))) G) rfl
/-! 285 MoodBelfriesLaw.told(LMoodBelfries;I[J)I -/
theorem we285 {d : Nat} {post : am_O → am_G → Prop} (G : am_G) (a0 : Nat) (x1 : Int32) (a2 : Nat) : am_C am_T (d + 1) 285 [.ref a0, .int x1, .ref a2] G post ↔ am_W (am_C am_T d) am_285 post 0 [some (.ref a0), some (.int x1), some (.ref a2), none] [] G := Iff.rfl
theorem wb285_0 {cl : Nat → List Value → am_G → (am_O → am_G → Prop) → Prop} (hc : am_one cl) {post : am_O → am_G → Prop} (G : am_G) (a0 : Nat) (x1 : Int32) (a2 : Nat) :
    am_W cl am_285 post 0 [some (.ref a0), some (.int x1), some (.ref a2), none] [] G ↔ (am_is G a0 11 ∧ cl 108 [.ref a0, .int x1] G (am_kt cl am_285 7 [.int (0 : Int32), .ref a2] 1 [some (.ref a0), some (.int x1), some (.ref a2), none] 4 post)) :=
  am_seg hc 5 [am_is G a0 11] (am_ca 108 [.ref a0, .int x1] 7 [.int (0 : Int32), .ref a2] 1 [some (.ref a0), some (.int x1), some (.ref a2), none] G 4) rfl
theorem wb285_7 {cl : Nat → List Value → am_G → (am_O → am_G → Prop) → Prop} (hc : am_one cl) {post : am_O → am_G → Prop} (G : am_G) (o0 : Option Value) (o1 : Option Value) (o2 : Option Value) (o3 : Option Value) (s0 : Int32) (s1 : Int32) (b2 : Nat) :
    am_W cl am_285 post 7 [o0, o1, o2, o3] [.int s0, .int s1, .ref b2] G ↔ (am_ow G b2 s1 101 ∧ am_W cl am_285 post 15 [none, none, none, none] [] (am_wL G b2 (Int32.toNatClampNeg s1) (Int32.toInt64 s0))) :=
  am_seg hc 3 [am_ow G b2 s1 101] (am_go 15 [none, none, none, none] [] (am_wL G b2 (Int32.toNatClampNeg s1) (Int32.toInt64 s0))) rfl
theorem wb285_12 {cl : Nat → List Value → am_G → (am_O → am_G → Prop) → Prop} (hc : am_one cl) {post : am_O → am_G → Prop} (G : am_G) (o0 : Option Value) (o1 : Option Value) (o2 : Option Value) (o3 : Option Value) (b0 : Nat) :
    am_W cl am_285 post 12 [o0, o1, o2, o3] [.ref b0] G ↔ (post (.inl (some (.int (1 : Int32)))) G) :=
  am_seg hc 3 [] (am_re (.inl (some (.int (1 : Int32)))) G) rfl
theorem wb285_15 {cl : Nat → List Value → am_G → (am_O → am_G → Prop) → Prop} (hc : am_one cl) {post : am_O → am_G → Prop} (G : am_G) (o0 : Option Value) (o1 : Option Value) (o2 : Option Value) (o3 : Option Value) :
    am_W cl am_285 post 15 [o0, o1, o2, o3] [] G ↔ (post (.inl (some (.int (0 : Int32)))) G) :=
  am_seg hc 2 [] (am_re (.inl (some (.int (0 : Int32)))) G) rfl
/-! 286 MoodBelfriesLaw.bell(LMoodBelfries;II[J)I -/
theorem we286 {d : Nat} {post : am_O → am_G → Prop} (G : am_G) (a0 : Nat) (x1 : Int32) (x2 : Int32) (a3 : Nat) : am_C am_T (d + 1) 286 [.ref a0, .int x1, .int x2, .ref a3] G post ↔ am_W (am_C am_T d) am_286 post 0 [some (.ref a0), some (.int x1), some (.int x2), some (.ref a3), none] [] G := Iff.rfl
theorem wb286_0 {cl : Nat → List Value → am_G → (am_O → am_G → Prop) → Prop} (hc : am_one cl) {post : am_O → am_G → Prop} (G : am_G) (a0 : Nat) (x1 : Int32) (x2 : Int32) (a3 : Nat) :
    am_W cl am_286 post 0 [some (.ref a0), some (.int x1), some (.int x2), some (.ref a3), none] [] G ↔ (am_is G a0 11 ∧ cl 109 [.ref a0, .int x1, .int x2] G (am_kt cl am_286 8 [.int (0 : Int32), .ref a3] 1 [some (.ref a0), some (.int x1), some (.int x2), some (.ref a3), none] 5 post)) :=
  am_seg hc 6 [am_is G a0 11] (am_ca 109 [.ref a0, .int x1, .int x2] 8 [.int (0 : Int32), .ref a3] 1 [some (.ref a0), some (.int x1), some (.int x2), some (.ref a3), none] G 5) rfl
theorem wb286_8 {cl : Nat → List Value → am_G → (am_O → am_G → Prop) → Prop} (hc : am_one cl) {post : am_O → am_G → Prop} (G : am_G) (o0 : Option Value) (o1 : Option Value) (o2 : Option Value) (o3 : Option Value) (o4 : Option Value) (s0 : Int32) (s1 : Int32) (b2 : Nat) :
    am_W cl am_286 post 8 [o0, o1, o2, o3, o4] [.int s0, .int s1, .ref b2] G ↔ (am_ow G b2 s1 101 ∧ am_W cl am_286 post 21 [none, none, none, none, none] [] (am_wL G b2 (Int32.toNatClampNeg s1) (Int32.toInt64 s0))) :=
  am_seg hc 3 [am_ow G b2 s1 101] (am_go 21 [none, none, none, none, none] [] (am_wL G b2 (Int32.toNatClampNeg s1) (Int32.toInt64 s0))) rfl
theorem wb286_13 {cl : Nat → List Value → am_G → (am_O → am_G → Prop) → Prop} (hc : am_one cl) {post : am_O → am_G → Prop} (G : am_G) (o0 : Option Value) (o1 : Option Value) (o2 : Option Value) (o3 : Option Value) (o4 : Option Value) (b0 : Nat) :
    am_W cl am_286 post 13 [o0, o1, o2, o3, o4] [.ref b0] G ↔ (post (.inl (some (.int (1 : Int32)))) G) :=
  am_seg hc 3 [] (am_re (.inl (some (.int (1 : Int32)))) G) rfl
theorem wb286_17 {cl : Nat → List Value → am_G → (am_O → am_G → Prop) → Prop} (hc : am_one cl) {post : am_O → am_G → Prop} (G : am_G) (o0 : Option Value) (o1 : Option Value) (o2 : Option Value) (o3 : Option Value) (o4 : Option Value) (b0 : Nat) :
    am_W cl am_286 post 17 [o0, o1, o2, o3, o4] [.ref b0] G ↔ (post (.inl (some (.int (2 : Int32)))) G) :=
  am_seg hc 3 [] (am_re (.inl (some (.int (2 : Int32)))) G) rfl
theorem wb286_21 {cl : Nat → List Value → am_G → (am_O → am_G → Prop) → Prop} (hc : am_one cl) {post : am_O → am_G → Prop} (G : am_G) (o0 : Option Value) (o1 : Option Value) (o2 : Option Value) (o3 : Option Value) (o4 : Option Value) :
    am_W cl am_286 post 21 [o0, o1, o2, o3, o4] [] G ↔ (post (.inl (some (.int (0 : Int32)))) G) :=
  am_seg hc 2 [] (am_re (.inl (some (.int (0 : Int32)))) G) rfl
/-! 287 MoodBelfriesLaw.house(LMoodBelfries;II[J)I -/
theorem we287 {d : Nat} {post : am_O → am_G → Prop} (G : am_G) (a0 : Nat) (x1 : Int32) (x2 : Int32) (a3 : Nat) : am_C am_T (d + 1) 287 [.ref a0, .int x1, .int x2, .ref a3] G post ↔ am_W (am_C am_T d) am_287 post 0 [some (.ref a0), some (.int x1), some (.int x2), some (.ref a3), none] [] G := Iff.rfl
theorem wb287_0 {cl : Nat → List Value → am_G → (am_O → am_G → Prop) → Prop} (hc : am_one cl) {post : am_O → am_G → Prop} (G : am_G) (a0 : Nat) (x1 : Int32) (x2 : Int32) (a3 : Nat) :
    am_W cl am_287 post 0 [some (.ref a0), some (.int x1), some (.int x2), some (.ref a3), none] [] G ↔ (am_is G a0 11 ∧ cl 110 [.ref a0, .int x1, .int x2] G (am_kt cl am_287 8 [.int (0 : Int32), .ref a3] 1 [some (.ref a0), some (.int x1), some (.int x2), some (.ref a3), none] 5 post)) :=
  am_seg hc 6 [am_is G a0 11] (am_ca 110 [.ref a0, .int x1, .int x2] 8 [.int (0 : Int32), .ref a3] 1 [some (.ref a0), some (.int x1), some (.int x2), some (.ref a3), none] G 5) rfl
theorem wb287_8 {cl : Nat → List Value → am_G → (am_O → am_G → Prop) → Prop} (hc : am_one cl) {post : am_O → am_G → Prop} (G : am_G) (o0 : Option Value) (o1 : Option Value) (o2 : Option Value) (o3 : Option Value) (o4 : Option Value) (s0 : Int32) (s1 : Int32) (b2 : Nat) :
    am_W cl am_287 post 8 [o0, o1, o2, o3, o4] [.int s0, .int s1, .ref b2] G ↔ (am_ow G b2 s1 101 ∧ am_W cl am_287 post 21 [none, none, none, none, none] [] (am_wL G b2 (Int32.toNatClampNeg s1) (Int32.toInt64 s0))) :=
  am_seg hc 3 [am_ow G b2 s1 101] (am_go 21 [none, none, none, none, none] [] (am_wL G b2 (Int32.toNatClampNeg s1) (Int32.toInt64 s0))) rfl
theorem wb287_13 {cl : Nat → List Value → am_G → (am_O → am_G → Prop) → Prop} (hc : am_one cl) {post : am_O → am_G → Prop} (G : am_G) (o0 : Option Value) (o1 : Option Value) (o2 : Option Value) (o3 : Option Value) (o4 : Option Value) (b0 : Nat) :
    am_W cl am_287 post 13 [o0, o1, o2, o3, o4] [.ref b0] G ↔ (post (.inl (some (.int (1 : Int32)))) G) :=
  am_seg hc 3 [] (am_re (.inl (some (.int (1 : Int32)))) G) rfl
theorem wb287_17 {cl : Nat → List Value → am_G → (am_O → am_G → Prop) → Prop} (hc : am_one cl) {post : am_O → am_G → Prop} (G : am_G) (o0 : Option Value) (o1 : Option Value) (o2 : Option Value) (o3 : Option Value) (o4 : Option Value) (b0 : Nat) :
    am_W cl am_287 post 17 [o0, o1, o2, o3, o4] [.ref b0] G ↔ (post (.inl (some (.int (2 : Int32)))) G) :=
  am_seg hc 3 [] (am_re (.inl (some (.int (2 : Int32)))) G) rfl
theorem wb287_21 {cl : Nat → List Value → am_G → (am_O → am_G → Prop) → Prop} (hc : am_one cl) {post : am_O → am_G → Prop} (G : am_G) (o0 : Option Value) (o1 : Option Value) (o2 : Option Value) (o3 : Option Value) (o4 : Option Value) :
    am_W cl am_287 post 21 [o0, o1, o2, o3, o4] [] G ↔ (post (.inl (some (.int (0 : Int32)))) G) :=
  am_seg hc 2 [] (am_re (.inl (some (.int (0 : Int32)))) G) rfl
/-! 288 MoodBelfriesLaw.deed(LMoodBelfries;II[J)I -/
theorem we288 {d : Nat} {post : am_O → am_G → Prop} (G : am_G) (a0 : Nat) (x1 : Int32) (x2 : Int32) (a3 : Nat) : am_C am_T (d + 1) 288 [.ref a0, .int x1, .int x2, .ref a3] G post ↔ am_W (am_C am_T d) am_288 post 0 [some (.ref a0), some (.int x1), some (.int x2), some (.ref a3), none] [] G := Iff.rfl
theorem wb288_0 {cl : Nat → List Value → am_G → (am_O → am_G → Prop) → Prop} (hc : am_one cl) {post : am_O → am_G → Prop} (G : am_G) (a0 : Nat) (x1 : Int32) (x2 : Int32) (a3 : Nat) :
    am_W cl am_288 post 0 [some (.ref a0), some (.int x1), some (.int x2), some (.ref a3), none] [] G ↔ (am_is G a0 11 ∧ cl 111 [.ref a0, .int x1, .int x2] G (am_kt cl am_288 8 [.int (0 : Int32), .ref a3] 1 [some (.ref a0), some (.int x1), some (.int x2), some (.ref a3), none] 5 post)) :=
  am_seg hc 6 [am_is G a0 11] (am_ca 111 [.ref a0, .int x1, .int x2] 8 [.int (0 : Int32), .ref a3] 1 [some (.ref a0), some (.int x1), some (.int x2), some (.ref a3), none] G 5) rfl
theorem wb288_8 {cl : Nat → List Value → am_G → (am_O → am_G → Prop) → Prop} (hc : am_one cl) {post : am_O → am_G → Prop} (G : am_G) (o0 : Option Value) (o1 : Option Value) (o2 : Option Value) (o3 : Option Value) (o4 : Option Value) (s0 : Int32) (s1 : Int32) (b2 : Nat) :
    am_W cl am_288 post 8 [o0, o1, o2, o3, o4] [.int s0, .int s1, .ref b2] G ↔ (am_ow G b2 s1 101 ∧ am_W cl am_288 post 21 [none, none, none, none, none] [] (am_wL G b2 (Int32.toNatClampNeg s1) (Int32.toInt64 s0))) :=
  am_seg hc 3 [am_ow G b2 s1 101] (am_go 21 [none, none, none, none, none] [] (am_wL G b2 (Int32.toNatClampNeg s1) (Int32.toInt64 s0))) rfl
theorem wb288_13 {cl : Nat → List Value → am_G → (am_O → am_G → Prop) → Prop} (hc : am_one cl) {post : am_O → am_G → Prop} (G : am_G) (o0 : Option Value) (o1 : Option Value) (o2 : Option Value) (o3 : Option Value) (o4 : Option Value) (b0 : Nat) :
    am_W cl am_288 post 13 [o0, o1, o2, o3, o4] [.ref b0] G ↔ (post (.inl (some (.int (1 : Int32)))) G) :=
  am_seg hc 3 [] (am_re (.inl (some (.int (1 : Int32)))) G) rfl
theorem wb288_17 {cl : Nat → List Value → am_G → (am_O → am_G → Prop) → Prop} (hc : am_one cl) {post : am_O → am_G → Prop} (G : am_G) (o0 : Option Value) (o1 : Option Value) (o2 : Option Value) (o3 : Option Value) (o4 : Option Value) (b0 : Nat) :
    am_W cl am_288 post 17 [o0, o1, o2, o3, o4] [.ref b0] G ↔ (post (.inl (some (.int (2 : Int32)))) G) :=
  am_seg hc 3 [] (am_re (.inl (some (.int (2 : Int32)))) G) rfl
theorem wb288_21 {cl : Nat → List Value → am_G → (am_O → am_G → Prop) → Prop} (hc : am_one cl) {post : am_O → am_G → Prop} (G : am_G) (o0 : Option Value) (o1 : Option Value) (o2 : Option Value) (o3 : Option Value) (o4 : Option Value) :
    am_W cl am_288 post 21 [o0, o1, o2, o3, o4] [] G ↔ (post (.inl (some (.int (0 : Int32)))) G) :=
  am_seg hc 2 [] (am_re (.inl (some (.int (0 : Int32)))) G) rfl
/-! 289 MoodBelfriesLaw.temper(LMoodBelfries;II[J)I -/
theorem we289 {d : Nat} {post : am_O → am_G → Prop} (G : am_G) (a0 : Nat) (x1 : Int32) (x2 : Int32) (a3 : Nat) : am_C am_T (d + 1) 289 [.ref a0, .int x1, .int x2, .ref a3] G post ↔ am_W (am_C am_T d) am_289 post 0 [some (.ref a0), some (.int x1), some (.int x2), some (.ref a3), none] [] G := Iff.rfl
theorem wb289_0 {cl : Nat → List Value → am_G → (am_O → am_G → Prop) → Prop} (hc : am_one cl) {post : am_O → am_G → Prop} (G : am_G) (a0 : Nat) (x1 : Int32) (x2 : Int32) (a3 : Nat) :
    am_W cl am_289 post 0 [some (.ref a0), some (.int x1), some (.int x2), some (.ref a3), none] [] G ↔ (am_is G a0 11 ∧ cl 112 [.ref a0, .int x1, .int x2] G (am_kt cl am_289 8 [.int (0 : Int32), .ref a3] 1 [some (.ref a0), some (.int x1), some (.int x2), some (.ref a3), none] 5 post)) :=
  am_seg hc 6 [am_is G a0 11] (am_ca 112 [.ref a0, .int x1, .int x2] 8 [.int (0 : Int32), .ref a3] 1 [some (.ref a0), some (.int x1), some (.int x2), some (.ref a3), none] G 5) rfl
theorem wb289_8 {cl : Nat → List Value → am_G → (am_O → am_G → Prop) → Prop} (hc : am_one cl) {post : am_O → am_G → Prop} (G : am_G) (o0 : Option Value) (o1 : Option Value) (o2 : Option Value) (o3 : Option Value) (o4 : Option Value) (s0 : Int32) (s1 : Int32) (b2 : Nat) :
    am_W cl am_289 post 8 [o0, o1, o2, o3, o4] [.int s0, .int s1, .ref b2] G ↔ (am_ow G b2 s1 101 ∧ am_W cl am_289 post 21 [none, none, none, none, none] [] (am_wL G b2 (Int32.toNatClampNeg s1) (Int32.toInt64 s0))) :=
  am_seg hc 3 [am_ow G b2 s1 101] (am_go 21 [none, none, none, none, none] [] (am_wL G b2 (Int32.toNatClampNeg s1) (Int32.toInt64 s0))) rfl
theorem wb289_13 {cl : Nat → List Value → am_G → (am_O → am_G → Prop) → Prop} (hc : am_one cl) {post : am_O → am_G → Prop} (G : am_G) (o0 : Option Value) (o1 : Option Value) (o2 : Option Value) (o3 : Option Value) (o4 : Option Value) (b0 : Nat) :
    am_W cl am_289 post 13 [o0, o1, o2, o3, o4] [.ref b0] G ↔ (post (.inl (some (.int (1 : Int32)))) G) :=
  am_seg hc 3 [] (am_re (.inl (some (.int (1 : Int32)))) G) rfl
theorem wb289_17 {cl : Nat → List Value → am_G → (am_O → am_G → Prop) → Prop} (hc : am_one cl) {post : am_O → am_G → Prop} (G : am_G) (o0 : Option Value) (o1 : Option Value) (o2 : Option Value) (o3 : Option Value) (o4 : Option Value) (b0 : Nat) :
    am_W cl am_289 post 17 [o0, o1, o2, o3, o4] [.ref b0] G ↔ (post (.inl (some (.int (2 : Int32)))) G) :=
  am_seg hc 3 [] (am_re (.inl (some (.int (2 : Int32)))) G) rfl
theorem wb289_21 {cl : Nat → List Value → am_G → (am_O → am_G → Prop) → Prop} (hc : am_one cl) {post : am_O → am_G → Prop} (G : am_G) (o0 : Option Value) (o1 : Option Value) (o2 : Option Value) (o3 : Option Value) (o4 : Option Value) :
    am_W cl am_289 post 21 [o0, o1, o2, o3, o4] [] G ↔ (post (.inl (some (.int (0 : Int32)))) G) :=
  am_seg hc 2 [] (am_re (.inl (some (.int (0 : Int32)))) G) rfl
/-! 290 MoodBelfriesLaw.heard(LMoodBelfries;II[J)I -/
theorem we290 {d : Nat} {post : am_O → am_G → Prop} (G : am_G) (a0 : Nat) (x1 : Int32) (x2 : Int32) (a3 : Nat) : am_C am_T (d + 1) 290 [.ref a0, .int x1, .int x2, .ref a3] G post ↔ am_W (am_C am_T d) am_290 post 0 [some (.ref a0), some (.int x1), some (.int x2), some (.ref a3), none] [] G := Iff.rfl
theorem wb290_0 {cl : Nat → List Value → am_G → (am_O → am_G → Prop) → Prop} (hc : am_one cl) {post : am_O → am_G → Prop} (G : am_G) (a0 : Nat) (x1 : Int32) (x2 : Int32) (a3 : Nat) :
    am_W cl am_290 post 0 [some (.ref a0), some (.int x1), some (.int x2), some (.ref a3), none] [] G ↔ (am_is G a0 11 ∧ cl 113 [.ref a0, .int x1, .int x2] G (am_kt cl am_290 8 [.int (0 : Int32), .ref a3] 1 [some (.ref a0), some (.int x1), some (.int x2), some (.ref a3), none] 5 post)) :=
  am_seg hc 6 [am_is G a0 11] (am_ca 113 [.ref a0, .int x1, .int x2] 8 [.int (0 : Int32), .ref a3] 1 [some (.ref a0), some (.int x1), some (.int x2), some (.ref a3), none] G 5) rfl
theorem wb290_8 {cl : Nat → List Value → am_G → (am_O → am_G → Prop) → Prop} (hc : am_one cl) {post : am_O → am_G → Prop} (G : am_G) (o0 : Option Value) (o1 : Option Value) (o2 : Option Value) (o3 : Option Value) (o4 : Option Value) (s0 : Int32) (s1 : Int32) (b2 : Nat) :
    am_W cl am_290 post 8 [o0, o1, o2, o3, o4] [.int s0, .int s1, .ref b2] G ↔ (am_ow G b2 s1 101 ∧ am_W cl am_290 post 17 [none, none, none, none, none] [] (am_wL G b2 (Int32.toNatClampNeg s1) (Int32.toInt64 s0))) :=
  am_seg hc 3 [am_ow G b2 s1 101] (am_go 17 [none, none, none, none, none] [] (am_wL G b2 (Int32.toNatClampNeg s1) (Int32.toInt64 s0))) rfl
theorem wb290_13 {cl : Nat → List Value → am_G → (am_O → am_G → Prop) → Prop} (hc : am_one cl) {post : am_O → am_G → Prop} (G : am_G) (o0 : Option Value) (o1 : Option Value) (o2 : Option Value) (o3 : Option Value) (o4 : Option Value) (b0 : Nat) :
    am_W cl am_290 post 13 [o0, o1, o2, o3, o4] [.ref b0] G ↔ (post (.inl (some (.int (1 : Int32)))) G) :=
  am_seg hc 3 [] (am_re (.inl (some (.int (1 : Int32)))) G) rfl
theorem wb290_17 {cl : Nat → List Value → am_G → (am_O → am_G → Prop) → Prop} (hc : am_one cl) {post : am_O → am_G → Prop} (G : am_G) (o0 : Option Value) (o1 : Option Value) (o2 : Option Value) (o3 : Option Value) (o4 : Option Value) :
    am_W cl am_290 post 17 [o0, o1, o2, o3, o4] [] G ↔ (post (.inl (some (.int (0 : Int32)))) G) :=
  am_seg hc 2 [] (am_re (.inl (some (.int (0 : Int32)))) G) rfl
/-! 291 MoodBelfriesLaw.would(LMoodBelfries;IIIIIIIII[J)I -/
theorem we291 {d : Nat} {post : am_O → am_G → Prop} (G : am_G) (a0 : Nat) (x1 : Int32) (x2 : Int32) (x3 : Int32) (x4 : Int32) (x5 : Int32) (x6 : Int32) (x7 : Int32) (x8 : Int32) (x9 : Int32) (a10 : Nat) : am_C am_T (d + 1) 291 [.ref a0, .int x1, .int x2, .int x3, .int x4, .int x5, .int x6, .int x7, .int x8, .int x9, .ref a10] G post ↔ am_W (am_C am_T d) am_291 post 0 [some (.ref a0), some (.int x1), some (.int x2), some (.int x3), some (.int x4), some (.int x5), some (.int x6), some (.int x7), some (.int x8), some (.int x9), some (.ref a10), none] [] G := Iff.rfl
theorem wb291_0 {cl : Nat → List Value → am_G → (am_O → am_G → Prop) → Prop} (hc : am_one cl) {post : am_O → am_G → Prop} (G : am_G) (a0 : Nat) (x1 : Int32) (x2 : Int32) (x3 : Int32) (x4 : Int32) (x5 : Int32) (x6 : Int32) (x7 : Int32) (x8 : Int32) (x9 : Int32) (a10 : Nat) :
    am_W cl am_291 post 0 [some (.ref a0), some (.int x1), some (.int x2), some (.int x3), some (.int x4), some (.int x5), some (.int x6), some (.int x7), some (.int x8), some (.int x9), some (.ref a10), none] [] G ↔ (am_is G a0 11 ∧ cl 114 [.ref a0, .int x1, .int x2, .int x3, .int x4, .int x5, .int x6, .int x7, .int x8, .int x9] G (am_kt cl am_291 22 [.int (0 : Int32), .ref a10] 1 [some (.ref a0), some (.int x1), some (.int x2), some (.int x3), some (.int x4), some (.int x5), some (.int x6), some (.int x7), some (.int x8), some (.int x9), some (.ref a10), none] 19 post)) :=
  am_seg hc 13 [am_is G a0 11] (am_ca 114 [.ref a0, .int x1, .int x2, .int x3, .int x4, .int x5, .int x6, .int x7, .int x8, .int x9] 22 [.int (0 : Int32), .ref a10] 1 [some (.ref a0), some (.int x1), some (.int x2), some (.int x3), some (.int x4), some (.int x5), some (.int x6), some (.int x7), some (.int x8), some (.int x9), some (.ref a10), none] G 19) rfl
theorem wb291_22 {cl : Nat → List Value → am_G → (am_O → am_G → Prop) → Prop} (hc : am_one cl) {post : am_O → am_G → Prop} (G : am_G) (o0 : Option Value) (o1 : Option Value) (o2 : Option Value) (o3 : Option Value) (o4 : Option Value) (o5 : Option Value) (o6 : Option Value) (o7 : Option Value) (o8 : Option Value) (o9 : Option Value) (o10 : Option Value) (o11 : Option Value) (s0 : Int32) (s1 : Int32) (b2 : Nat) :
    am_W cl am_291 post 22 [o0, o1, o2, o3, o4, o5, o6, o7, o8, o9, o10, o11] [.int s0, .int s1, .ref b2] G ↔ (am_ow G b2 s1 101 ∧ am_W cl am_291 post 31 [none, none, none, none, none, none, none, none, none, none, none, none] [] (am_wL G b2 (Int32.toNatClampNeg s1) (Int32.toInt64 s0))) :=
  am_seg hc 3 [am_ow G b2 s1 101] (am_go 31 [none, none, none, none, none, none, none, none, none, none, none, none] [] (am_wL G b2 (Int32.toNatClampNeg s1) (Int32.toInt64 s0))) rfl
theorem wb291_27 {cl : Nat → List Value → am_G → (am_O → am_G → Prop) → Prop} (hc : am_one cl) {post : am_O → am_G → Prop} (G : am_G) (o0 : Option Value) (o1 : Option Value) (o2 : Option Value) (o3 : Option Value) (o4 : Option Value) (o5 : Option Value) (o6 : Option Value) (o7 : Option Value) (o8 : Option Value) (o9 : Option Value) (o10 : Option Value) (o11 : Option Value) (b0 : Nat) :
    am_W cl am_291 post 27 [o0, o1, o2, o3, o4, o5, o6, o7, o8, o9, o10, o11] [.ref b0] G ↔ (post (.inl (some (.int (1 : Int32)))) G) :=
  am_seg hc 3 [] (am_re (.inl (some (.int (1 : Int32)))) G) rfl
theorem wb291_31 {cl : Nat → List Value → am_G → (am_O → am_G → Prop) → Prop} (hc : am_one cl) {post : am_O → am_G → Prop} (G : am_G) (o0 : Option Value) (o1 : Option Value) (o2 : Option Value) (o3 : Option Value) (o4 : Option Value) (o5 : Option Value) (o6 : Option Value) (o7 : Option Value) (o8 : Option Value) (o9 : Option Value) (o10 : Option Value) (o11 : Option Value) :
    am_W cl am_291 post 31 [o0, o1, o2, o3, o4, o5, o6, o7, o8, o9, o10, o11] [] G ↔ (post (.inl (some (.int (0 : Int32)))) G) :=
  am_seg hc 2 [] (am_re (.inl (some (.int (0 : Int32)))) G) rfl
/-! 292 MoodBelfriesLaw.ahead(LMoodBelfries;II[J)I -/
theorem we292 {d : Nat} {post : am_O → am_G → Prop} (G : am_G) (a0 : Nat) (x1 : Int32) (x2 : Int32) (a3 : Nat) : am_C am_T (d + 1) 292 [.ref a0, .int x1, .int x2, .ref a3] G post ↔ am_W (am_C am_T d) am_292 post 0 [some (.ref a0), some (.int x1), some (.int x2), some (.ref a3), none] [] G := Iff.rfl
theorem wb292_0 {cl : Nat → List Value → am_G → (am_O → am_G → Prop) → Prop} (hc : am_one cl) {post : am_O → am_G → Prop} (G : am_G) (a0 : Nat) (x1 : Int32) (x2 : Int32) (a3 : Nat) :
    am_W cl am_292 post 0 [some (.ref a0), some (.int x1), some (.int x2), some (.ref a3), none] [] G ↔ (am_is G a0 11 ∧ cl 115 [.ref a0, .int x1, .int x2] G (am_kt cl am_292 8 [.int (0 : Int32), .ref a3] 1 [some (.ref a0), some (.int x1), some (.int x2), some (.ref a3), none] 5 post)) :=
  am_seg hc 6 [am_is G a0 11] (am_ca 115 [.ref a0, .int x1, .int x2] 8 [.int (0 : Int32), .ref a3] 1 [some (.ref a0), some (.int x1), some (.int x2), some (.ref a3), none] G 5) rfl
theorem wb292_8 {cl : Nat → List Value → am_G → (am_O → am_G → Prop) → Prop} (hc : am_one cl) {post : am_O → am_G → Prop} (G : am_G) (o0 : Option Value) (o1 : Option Value) (o2 : Option Value) (o3 : Option Value) (o4 : Option Value) (s0 : Int32) (s1 : Int32) (b2 : Nat) :
    am_W cl am_292 post 8 [o0, o1, o2, o3, o4] [.int s0, .int s1, .ref b2] G ↔ (am_ow G b2 s1 101 ∧ am_W cl am_292 post 17 [none, none, none, none, none] [] (am_wL G b2 (Int32.toNatClampNeg s1) (Int32.toInt64 s0))) :=
  am_seg hc 3 [am_ow G b2 s1 101] (am_go 17 [none, none, none, none, none] [] (am_wL G b2 (Int32.toNatClampNeg s1) (Int32.toInt64 s0))) rfl
theorem wb292_13 {cl : Nat → List Value → am_G → (am_O → am_G → Prop) → Prop} (hc : am_one cl) {post : am_O → am_G → Prop} (G : am_G) (o0 : Option Value) (o1 : Option Value) (o2 : Option Value) (o3 : Option Value) (o4 : Option Value) (b0 : Nat) :
    am_W cl am_292 post 13 [o0, o1, o2, o3, o4] [.ref b0] G ↔ (post (.inl (some (.int (1 : Int32)))) G) :=
  am_seg hc 3 [] (am_re (.inl (some (.int (1 : Int32)))) G) rfl
theorem wb292_17 {cl : Nat → List Value → am_G → (am_O → am_G → Prop) → Prop} (hc : am_one cl) {post : am_O → am_G → Prop} (G : am_G) (o0 : Option Value) (o1 : Option Value) (o2 : Option Value) (o3 : Option Value) (o4 : Option Value) :
    am_W cl am_292 post 17 [o0, o1, o2, o3, o4] [] G ↔ (post (.inl (some (.int (0 : Int32)))) G) :=
  am_seg hc 2 [] (am_re (.inl (some (.int (0 : Int32)))) G) rfl
/-! 293 MoodBelfriesLaw.sleeps(LMoodBelfries;I[J)I -/
theorem we293 {d : Nat} {post : am_O → am_G → Prop} (G : am_G) (a0 : Nat) (x1 : Int32) (a2 : Nat) : am_C am_T (d + 1) 293 [.ref a0, .int x1, .ref a2] G post ↔ am_W (am_C am_T d) am_293 post 0 [some (.ref a0), some (.int x1), some (.ref a2), none] [] G := Iff.rfl
theorem wb293_0 {cl : Nat → List Value → am_G → (am_O → am_G → Prop) → Prop} (hc : am_one cl) {post : am_O → am_G → Prop} (G : am_G) (a0 : Nat) (x1 : Int32) (a2 : Nat) :
    am_W cl am_293 post 0 [some (.ref a0), some (.int x1), some (.ref a2), none] [] G ↔ (am_is G a0 11 ∧ cl 116 [.ref a0, .int x1] G (am_kt cl am_293 7 [.int (0 : Int32), .ref a2] 1 [some (.ref a0), some (.int x1), some (.ref a2), none] 4 post)) :=
  am_seg hc 5 [am_is G a0 11] (am_ca 116 [.ref a0, .int x1] 7 [.int (0 : Int32), .ref a2] 1 [some (.ref a0), some (.int x1), some (.ref a2), none] G 4) rfl
theorem wb293_7 {cl : Nat → List Value → am_G → (am_O → am_G → Prop) → Prop} (hc : am_one cl) {post : am_O → am_G → Prop} (G : am_G) (o0 : Option Value) (o1 : Option Value) (o2 : Option Value) (o3 : Option Value) (s0 : Int32) (s1 : Int32) (b2 : Nat) :
    am_W cl am_293 post 7 [o0, o1, o2, o3] [.int s0, .int s1, .ref b2] G ↔ (am_ow G b2 s1 101 ∧ am_W cl am_293 post 15 [none, none, none, none] [] (am_wL G b2 (Int32.toNatClampNeg s1) (Int32.toInt64 s0))) :=
  am_seg hc 3 [am_ow G b2 s1 101] (am_go 15 [none, none, none, none] [] (am_wL G b2 (Int32.toNatClampNeg s1) (Int32.toInt64 s0))) rfl
theorem wb293_12 {cl : Nat → List Value → am_G → (am_O → am_G → Prop) → Prop} (hc : am_one cl) {post : am_O → am_G → Prop} (G : am_G) (o0 : Option Value) (o1 : Option Value) (o2 : Option Value) (o3 : Option Value) (b0 : Nat) :
    am_W cl am_293 post 12 [o0, o1, o2, o3] [.ref b0] G ↔ (post (.inl (some (.int (1 : Int32)))) G) :=
  am_seg hc 3 [] (am_re (.inl (some (.int (1 : Int32)))) G) rfl
theorem wb293_15 {cl : Nat → List Value → am_G → (am_O → am_G → Prop) → Prop} (hc : am_one cl) {post : am_O → am_G → Prop} (G : am_G) (o0 : Option Value) (o1 : Option Value) (o2 : Option Value) (o3 : Option Value) :
    am_W cl am_293 post 15 [o0, o1, o2, o3] [] G ↔ (post (.inl (some (.int (0 : Int32)))) G) :=
  am_seg hc 2 [] (am_re (.inl (some (.int (0 : Int32)))) G) rfl
/-! 294 MoodBelfriesLaw.rouse(LMoodBelfries;II[J)I -/
theorem we294 {d : Nat} {post : am_O → am_G → Prop} (G : am_G) (a0 : Nat) (x1 : Int32) (x2 : Int32) (a3 : Nat) : am_C am_T (d + 1) 294 [.ref a0, .int x1, .int x2, .ref a3] G post ↔ am_W (am_C am_T d) am_294 post 0 [some (.ref a0), some (.int x1), some (.int x2), some (.ref a3), none] [] G := Iff.rfl
theorem wb294_0 {cl : Nat → List Value → am_G → (am_O → am_G → Prop) → Prop} (hc : am_one cl) {post : am_O → am_G → Prop} (G : am_G) (a0 : Nat) (x1 : Int32) (x2 : Int32) (a3 : Nat) :
    am_W cl am_294 post 0 [some (.ref a0), some (.int x1), some (.int x2), some (.ref a3), none] [] G ↔ (am_is G a0 11 ∧ cl 117 [.ref a0, .int x1, .int x2] G (am_kt cl am_294 8 [.int (0 : Int32), .ref a3] 1 [some (.ref a0), some (.int x1), some (.int x2), some (.ref a3), none] 5 post)) :=
  am_seg hc 6 [am_is G a0 11] (am_ca 117 [.ref a0, .int x1, .int x2] 8 [.int (0 : Int32), .ref a3] 1 [some (.ref a0), some (.int x1), some (.int x2), some (.ref a3), none] G 5) rfl
theorem wb294_8 {cl : Nat → List Value → am_G → (am_O → am_G → Prop) → Prop} (hc : am_one cl) {post : am_O → am_G → Prop} (G : am_G) (o0 : Option Value) (o1 : Option Value) (o2 : Option Value) (o3 : Option Value) (o4 : Option Value) (s0 : Int32) (s1 : Int32) (b2 : Nat) :
    am_W cl am_294 post 8 [o0, o1, o2, o3, o4] [.int s0, .int s1, .ref b2] G ↔ (am_ow G b2 s1 101 ∧ am_W cl am_294 post 21 [none, none, none, none, none] [] (am_wL G b2 (Int32.toNatClampNeg s1) (Int32.toInt64 s0))) :=
  am_seg hc 3 [am_ow G b2 s1 101] (am_go 21 [none, none, none, none, none] [] (am_wL G b2 (Int32.toNatClampNeg s1) (Int32.toInt64 s0))) rfl
theorem wb294_13 {cl : Nat → List Value → am_G → (am_O → am_G → Prop) → Prop} (hc : am_one cl) {post : am_O → am_G → Prop} (G : am_G) (o0 : Option Value) (o1 : Option Value) (o2 : Option Value) (o3 : Option Value) (o4 : Option Value) (b0 : Nat) :
    am_W cl am_294 post 13 [o0, o1, o2, o3, o4] [.ref b0] G ↔ (post (.inl (some (.int (1 : Int32)))) G) :=
  am_seg hc 3 [] (am_re (.inl (some (.int (1 : Int32)))) G) rfl
theorem wb294_17 {cl : Nat → List Value → am_G → (am_O → am_G → Prop) → Prop} (hc : am_one cl) {post : am_O → am_G → Prop} (G : am_G) (o0 : Option Value) (o1 : Option Value) (o2 : Option Value) (o3 : Option Value) (o4 : Option Value) (b0 : Nat) :
    am_W cl am_294 post 17 [o0, o1, o2, o3, o4] [.ref b0] G ↔ (post (.inl (some (.int (2 : Int32)))) G) :=
  am_seg hc 3 [] (am_re (.inl (some (.int (2 : Int32)))) G) rfl
theorem wb294_21 {cl : Nat → List Value → am_G → (am_O → am_G → Prop) → Prop} (hc : am_one cl) {post : am_O → am_G → Prop} (G : am_G) (o0 : Option Value) (o1 : Option Value) (o2 : Option Value) (o3 : Option Value) (o4 : Option Value) :
    am_W cl am_294 post 21 [o0, o1, o2, o3, o4] [] G ↔ (post (.inl (some (.int (0 : Int32)))) G) :=
  am_seg hc 2 [] (am_re (.inl (some (.int (0 : Int32)))) G) rfl
/-! 295 MoodBelfriesLaw.suited(LMoodBelfries;I[J)I -/
theorem we295 {d : Nat} {post : am_O → am_G → Prop} (G : am_G) (a0 : Nat) (x1 : Int32) (a2 : Nat) : am_C am_T (d + 1) 295 [.ref a0, .int x1, .ref a2] G post ↔ am_W (am_C am_T d) am_295 post 0 [some (.ref a0), some (.int x1), some (.ref a2), none] [] G := Iff.rfl
theorem wb295_0 {cl : Nat → List Value → am_G → (am_O → am_G → Prop) → Prop} (hc : am_one cl) {post : am_O → am_G → Prop} (G : am_G) (a0 : Nat) (x1 : Int32) (a2 : Nat) :
    am_W cl am_295 post 0 [some (.ref a0), some (.int x1), some (.ref a2), none] [] G ↔ (am_is G a0 11 ∧ cl 119 [.ref a0, .int x1] G (am_kt cl am_295 7 [.int (0 : Int32), .ref a2] 1 [some (.ref a0), some (.int x1), some (.ref a2), none] 4 post)) :=
  am_seg hc 5 [am_is G a0 11] (am_ca 119 [.ref a0, .int x1] 7 [.int (0 : Int32), .ref a2] 1 [some (.ref a0), some (.int x1), some (.ref a2), none] G 4) rfl
theorem wb295_7 {cl : Nat → List Value → am_G → (am_O → am_G → Prop) → Prop} (hc : am_one cl) {post : am_O → am_G → Prop} (G : am_G) (o0 : Option Value) (o1 : Option Value) (o2 : Option Value) (o3 : Option Value) (s0 : Int32) (s1 : Int32) (b2 : Nat) :
    am_W cl am_295 post 7 [o0, o1, o2, o3] [.int s0, .int s1, .ref b2] G ↔ (am_ow G b2 s1 101 ∧ am_W cl am_295 post 15 [none, none, none, none] [] (am_wL G b2 (Int32.toNatClampNeg s1) (Int32.toInt64 s0))) :=
  am_seg hc 3 [am_ow G b2 s1 101] (am_go 15 [none, none, none, none] [] (am_wL G b2 (Int32.toNatClampNeg s1) (Int32.toInt64 s0))) rfl
theorem wb295_12 {cl : Nat → List Value → am_G → (am_O → am_G → Prop) → Prop} (hc : am_one cl) {post : am_O → am_G → Prop} (G : am_G) (o0 : Option Value) (o1 : Option Value) (o2 : Option Value) (o3 : Option Value) (b0 : Nat) :
    am_W cl am_295 post 12 [o0, o1, o2, o3] [.ref b0] G ↔ (post (.inl (some (.int (1 : Int32)))) G) :=
  am_seg hc 3 [] (am_re (.inl (some (.int (1 : Int32)))) G) rfl
theorem wb295_15 {cl : Nat → List Value → am_G → (am_O → am_G → Prop) → Prop} (hc : am_one cl) {post : am_O → am_G → Prop} (G : am_G) (o0 : Option Value) (o1 : Option Value) (o2 : Option Value) (o3 : Option Value) :
    am_W cl am_295 post 15 [o0, o1, o2, o3] [] G ↔ (post (.inl (some (.int (0 : Int32)))) G) :=
  am_seg hc 2 [] (am_re (.inl (some (.int (0 : Int32)))) G) rfl
/-! 296 MoodBelfriesLaw.pulls(LMoodBelfries;II[J)I -/
theorem we296 {d : Nat} {post : am_O → am_G → Prop} (G : am_G) (a0 : Nat) (x1 : Int32) (x2 : Int32) (a3 : Nat) : am_C am_T (d + 1) 296 [.ref a0, .int x1, .int x2, .ref a3] G post ↔ am_W (am_C am_T d) am_296 post 0 [some (.ref a0), some (.int x1), some (.int x2), some (.ref a3), none] [] G := Iff.rfl
theorem wb296_0 {cl : Nat → List Value → am_G → (am_O → am_G → Prop) → Prop} (hc : am_one cl) {post : am_O → am_G → Prop} (G : am_G) (a0 : Nat) (x1 : Int32) (x2 : Int32) (a3 : Nat) :
    am_W cl am_296 post 0 [some (.ref a0), some (.int x1), some (.int x2), some (.ref a3), none] [] G ↔ (am_is G a0 11 ∧ cl 120 [.ref a0, .int x1, .int x2] G (am_kt cl am_296 8 [.int (0 : Int32), .ref a3] 1 [some (.ref a0), some (.int x1), some (.int x2), some (.ref a3), none] 5 post)) :=
  am_seg hc 6 [am_is G a0 11] (am_ca 120 [.ref a0, .int x1, .int x2] 8 [.int (0 : Int32), .ref a3] 1 [some (.ref a0), some (.int x1), some (.int x2), some (.ref a3), none] G 5) rfl
theorem wb296_8 {cl : Nat → List Value → am_G → (am_O → am_G → Prop) → Prop} (hc : am_one cl) {post : am_O → am_G → Prop} (G : am_G) (o0 : Option Value) (o1 : Option Value) (o2 : Option Value) (o3 : Option Value) (o4 : Option Value) (s0 : Int32) (s1 : Int32) (b2 : Nat) :
    am_W cl am_296 post 8 [o0, o1, o2, o3, o4] [.int s0, .int s1, .ref b2] G ↔ (am_ow G b2 s1 101 ∧ am_W cl am_296 post 21 [none, none, none, none, none] [] (am_wL G b2 (Int32.toNatClampNeg s1) (Int32.toInt64 s0))) :=
  am_seg hc 3 [am_ow G b2 s1 101] (am_go 21 [none, none, none, none, none] [] (am_wL G b2 (Int32.toNatClampNeg s1) (Int32.toInt64 s0))) rfl
theorem wb296_13 {cl : Nat → List Value → am_G → (am_O → am_G → Prop) → Prop} (hc : am_one cl) {post : am_O → am_G → Prop} (G : am_G) (o0 : Option Value) (o1 : Option Value) (o2 : Option Value) (o3 : Option Value) (o4 : Option Value) (b0 : Nat) :
    am_W cl am_296 post 13 [o0, o1, o2, o3, o4] [.ref b0] G ↔ (post (.inl (some (.int (1 : Int32)))) G) :=
  am_seg hc 3 [] (am_re (.inl (some (.int (1 : Int32)))) G) rfl
theorem wb296_17 {cl : Nat → List Value → am_G → (am_O → am_G → Prop) → Prop} (hc : am_one cl) {post : am_O → am_G → Prop} (G : am_G) (o0 : Option Value) (o1 : Option Value) (o2 : Option Value) (o3 : Option Value) (o4 : Option Value) (b0 : Nat) :
    am_W cl am_296 post 17 [o0, o1, o2, o3, o4] [.ref b0] G ↔ (post (.inl (some (.int (2 : Int32)))) G) :=
  am_seg hc 3 [] (am_re (.inl (some (.int (2 : Int32)))) G) rfl
theorem wb296_21 {cl : Nat → List Value → am_G → (am_O → am_G → Prop) → Prop} (hc : am_one cl) {post : am_O → am_G → Prop} (G : am_G) (o0 : Option Value) (o1 : Option Value) (o2 : Option Value) (o3 : Option Value) (o4 : Option Value) :
    am_W cl am_296 post 21 [o0, o1, o2, o3, o4] [] G ↔ (post (.inl (some (.int (0 : Int32)))) G) :=
  am_seg hc 2 [] (am_re (.inl (some (.int (0 : Int32)))) G) rfl
/-! 297 MoodBelfriesLaw.cast(LMoodBelfries;I[J)I -/
theorem we297 {d : Nat} {post : am_O → am_G → Prop} (G : am_G) (a0 : Nat) (x1 : Int32) (a2 : Nat) : am_C am_T (d + 1) 297 [.ref a0, .int x1, .ref a2] G post ↔ am_W (am_C am_T d) am_297 post 0 [some (.ref a0), some (.int x1), some (.ref a2), none] [] G := Iff.rfl
theorem wb297_0 {cl : Nat → List Value → am_G → (am_O → am_G → Prop) → Prop} (hc : am_one cl) {post : am_O → am_G → Prop} (G : am_G) (a0 : Nat) (x1 : Int32) (a2 : Nat) :
    am_W cl am_297 post 0 [some (.ref a0), some (.int x1), some (.ref a2), none] [] G ↔ (am_is G a0 11 ∧ cl 121 [.ref a0, .int x1] G (am_kt cl am_297 7 [.int (0 : Int32), .ref a2] 1 [some (.ref a0), some (.int x1), some (.ref a2), none] 4 post)) :=
  am_seg hc 5 [am_is G a0 11] (am_ca 121 [.ref a0, .int x1] 7 [.int (0 : Int32), .ref a2] 1 [some (.ref a0), some (.int x1), some (.ref a2), none] G 4) rfl
theorem wb297_7 {cl : Nat → List Value → am_G → (am_O → am_G → Prop) → Prop} (hc : am_one cl) {post : am_O → am_G → Prop} (G : am_G) (o0 : Option Value) (o1 : Option Value) (o2 : Option Value) (o3 : Option Value) (s0 : Int32) (s1 : Int32) (b2 : Nat) :
    am_W cl am_297 post 7 [o0, o1, o2, o3] [.int s0, .int s1, .ref b2] G ↔ (am_ow G b2 s1 101 ∧ am_W cl am_297 post 15 [none, none, none, none] [] (am_wL G b2 (Int32.toNatClampNeg s1) (Int32.toInt64 s0))) :=
  am_seg hc 3 [am_ow G b2 s1 101] (am_go 15 [none, none, none, none] [] (am_wL G b2 (Int32.toNatClampNeg s1) (Int32.toInt64 s0))) rfl
theorem wb297_12 {cl : Nat → List Value → am_G → (am_O → am_G → Prop) → Prop} (hc : am_one cl) {post : am_O → am_G → Prop} (G : am_G) (o0 : Option Value) (o1 : Option Value) (o2 : Option Value) (o3 : Option Value) (b0 : Nat) :
    am_W cl am_297 post 12 [o0, o1, o2, o3] [.ref b0] G ↔ (post (.inl (some (.int (1 : Int32)))) G) :=
  am_seg hc 3 [] (am_re (.inl (some (.int (1 : Int32)))) G) rfl
theorem wb297_15 {cl : Nat → List Value → am_G → (am_O → am_G → Prop) → Prop} (hc : am_one cl) {post : am_O → am_G → Prop} (G : am_G) (o0 : Option Value) (o1 : Option Value) (o2 : Option Value) (o3 : Option Value) :
    am_W cl am_297 post 15 [o0, o1, o2, o3] [] G ↔ (post (.inl (some (.int (0 : Int32)))) G) :=
  am_seg hc 2 [] (am_re (.inl (some (.int (0 : Int32)))) G) rfl
/-! 298 MoodBelfriesLaw.ask(LMoodBelfries;I[J)I -/
theorem we298 {d : Nat} {post : am_O → am_G → Prop} (G : am_G) (a0 : Nat) (x1 : Int32) (a2 : Nat) : am_C am_T (d + 1) 298 [.ref a0, .int x1, .ref a2] G post ↔ am_W (am_C am_T d) am_298 post 0 [some (.ref a0), some (.int x1), some (.ref a2), none] [] G := Iff.rfl
theorem wb298_0 {cl : Nat → List Value → am_G → (am_O → am_G → Prop) → Prop} (hc : am_one cl) {post : am_O → am_G → Prop} (G : am_G) (a0 : Nat) (x1 : Int32) (a2 : Nat) :
    am_W cl am_298 post 0 [some (.ref a0), some (.int x1), some (.ref a2), none] [] G ↔ (am_is G a0 11 ∧ cl 122 [.ref a0, .int x1] G (am_kt cl am_298 7 [.int (0 : Int32), .ref a2] 1 [some (.ref a0), some (.int x1), some (.ref a2), none] 4 post)) :=
  am_seg hc 5 [am_is G a0 11] (am_ca 122 [.ref a0, .int x1] 7 [.int (0 : Int32), .ref a2] 1 [some (.ref a0), some (.int x1), some (.ref a2), none] G 4) rfl
theorem wb298_7 {cl : Nat → List Value → am_G → (am_O → am_G → Prop) → Prop} (hc : am_one cl) {post : am_O → am_G → Prop} (G : am_G) (o0 : Option Value) (o1 : Option Value) (o2 : Option Value) (o3 : Option Value) (s0 : Int32) (s1 : Int32) (b2 : Nat) :
    am_W cl am_298 post 7 [o0, o1, o2, o3] [.int s0, .int s1, .ref b2] G ↔ (am_ow G b2 s1 101 ∧ am_W cl am_298 post 15 [none, none, none, none] [] (am_wL G b2 (Int32.toNatClampNeg s1) (Int32.toInt64 s0))) :=
  am_seg hc 3 [am_ow G b2 s1 101] (am_go 15 [none, none, none, none] [] (am_wL G b2 (Int32.toNatClampNeg s1) (Int32.toInt64 s0))) rfl
theorem wb298_12 {cl : Nat → List Value → am_G → (am_O → am_G → Prop) → Prop} (hc : am_one cl) {post : am_O → am_G → Prop} (G : am_G) (o0 : Option Value) (o1 : Option Value) (o2 : Option Value) (o3 : Option Value) (b0 : Nat) :
    am_W cl am_298 post 12 [o0, o1, o2, o3] [.ref b0] G ↔ (post (.inl (some (.int (1 : Int32)))) G) :=
  am_seg hc 3 [] (am_re (.inl (some (.int (1 : Int32)))) G) rfl
theorem wb298_15 {cl : Nat → List Value → am_G → (am_O → am_G → Prop) → Prop} (hc : am_one cl) {post : am_O → am_G → Prop} (G : am_G) (o0 : Option Value) (o1 : Option Value) (o2 : Option Value) (o3 : Option Value) :
    am_W cl am_298 post 15 [o0, o1, o2, o3] [] G ↔ (post (.inl (some (.int (0 : Int32)))) G) :=
  am_seg hc 2 [] (am_re (.inl (some (.int (0 : Int32)))) G) rfl
/-! 299 MoodBelfriesLaw.changes(LMoodBelfries;II[J)I -/
theorem we299 {d : Nat} {post : am_O → am_G → Prop} (G : am_G) (a0 : Nat) (x1 : Int32) (x2 : Int32) (a3 : Nat) : am_C am_T (d + 1) 299 [.ref a0, .int x1, .int x2, .ref a3] G post ↔ am_W (am_C am_T d) am_299 post 0 [some (.ref a0), some (.int x1), some (.int x2), some (.ref a3), none] [] G := Iff.rfl
theorem wb299_0 {cl : Nat → List Value → am_G → (am_O → am_G → Prop) → Prop} (hc : am_one cl) {post : am_O → am_G → Prop} (G : am_G) (a0 : Nat) (x1 : Int32) (x2 : Int32) (a3 : Nat) :
    am_W cl am_299 post 0 [some (.ref a0), some (.int x1), some (.int x2), some (.ref a3), none] [] G ↔ (am_is G a0 11 ∧ cl 123 [.ref a0, .int x1, .int x2] G (am_kt cl am_299 8 [.int (0 : Int32), .ref a3] 1 [some (.ref a0), some (.int x1), some (.int x2), some (.ref a3), none] 5 post)) :=
  am_seg hc 6 [am_is G a0 11] (am_ca 123 [.ref a0, .int x1, .int x2] 8 [.int (0 : Int32), .ref a3] 1 [some (.ref a0), some (.int x1), some (.int x2), some (.ref a3), none] G 5) rfl
theorem wb299_8 {cl : Nat → List Value → am_G → (am_O → am_G → Prop) → Prop} (hc : am_one cl) {post : am_O → am_G → Prop} (G : am_G) (o0 : Option Value) (o1 : Option Value) (o2 : Option Value) (o3 : Option Value) (o4 : Option Value) (s0 : Int32) (s1 : Int32) (b2 : Nat) :
    am_W cl am_299 post 8 [o0, o1, o2, o3, o4] [.int s0, .int s1, .ref b2] G ↔ (am_ow G b2 s1 101 ∧ am_W cl am_299 post 17 [none, none, none, none, none] [] (am_wL G b2 (Int32.toNatClampNeg s1) (Int32.toInt64 s0))) :=
  am_seg hc 3 [am_ow G b2 s1 101] (am_go 17 [none, none, none, none, none] [] (am_wL G b2 (Int32.toNatClampNeg s1) (Int32.toInt64 s0))) rfl
theorem wb299_13 {cl : Nat → List Value → am_G → (am_O → am_G → Prop) → Prop} (hc : am_one cl) {post : am_O → am_G → Prop} (G : am_G) (o0 : Option Value) (o1 : Option Value) (o2 : Option Value) (o3 : Option Value) (o4 : Option Value) (b0 : Nat) :
    am_W cl am_299 post 13 [o0, o1, o2, o3, o4] [.ref b0] G ↔ (post (.inl (some (.int (1 : Int32)))) G) :=
  am_seg hc 3 [] (am_re (.inl (some (.int (1 : Int32)))) G) rfl
theorem wb299_17 {cl : Nat → List Value → am_G → (am_O → am_G → Prop) → Prop} (hc : am_one cl) {post : am_O → am_G → Prop} (G : am_G) (o0 : Option Value) (o1 : Option Value) (o2 : Option Value) (o3 : Option Value) (o4 : Option Value) :
    am_W cl am_299 post 17 [o0, o1, o2, o3, o4] [] G ↔ (post (.inl (some (.int (0 : Int32)))) G) :=
  am_seg hc 2 [] (am_re (.inl (some (.int (0 : Int32)))) G) rfl
/-! 300 MoodBelfriesLaw.next(LMoodBelfries;II[J)I -/
theorem we300 {d : Nat} {post : am_O → am_G → Prop} (G : am_G) (a0 : Nat) (x1 : Int32) (x2 : Int32) (a3 : Nat) : am_C am_T (d + 1) 300 [.ref a0, .int x1, .int x2, .ref a3] G post ↔ am_W (am_C am_T d) am_300 post 0 [some (.ref a0), some (.int x1), some (.int x2), some (.ref a3), none] [] G := Iff.rfl
theorem wb300_0 {cl : Nat → List Value → am_G → (am_O → am_G → Prop) → Prop} (hc : am_one cl) {post : am_O → am_G → Prop} (G : am_G) (a0 : Nat) (x1 : Int32) (x2 : Int32) (a3 : Nat) :
    am_W cl am_300 post 0 [some (.ref a0), some (.int x1), some (.int x2), some (.ref a3), none] [] G ↔ (am_is G a0 11 ∧ cl 124 [.ref a0, .int x1, .int x2] G (am_kt cl am_300 8 [.int (0 : Int32), .ref a3] 1 [some (.ref a0), some (.int x1), some (.int x2), some (.ref a3), none] 5 post)) :=
  am_seg hc 6 [am_is G a0 11] (am_ca 124 [.ref a0, .int x1, .int x2] 8 [.int (0 : Int32), .ref a3] 1 [some (.ref a0), some (.int x1), some (.int x2), some (.ref a3), none] G 5) rfl
theorem wb300_8 {cl : Nat → List Value → am_G → (am_O → am_G → Prop) → Prop} (hc : am_one cl) {post : am_O → am_G → Prop} (G : am_G) (o0 : Option Value) (o1 : Option Value) (o2 : Option Value) (o3 : Option Value) (o4 : Option Value) (s0 : Int32) (s1 : Int32) (b2 : Nat) :
    am_W cl am_300 post 8 [o0, o1, o2, o3, o4] [.int s0, .int s1, .ref b2] G ↔ (am_ow G b2 s1 101 ∧ am_W cl am_300 post 17 [none, none, none, none, none] [] (am_wL G b2 (Int32.toNatClampNeg s1) (Int32.toInt64 s0))) :=
  am_seg hc 3 [am_ow G b2 s1 101] (am_go 17 [none, none, none, none, none] [] (am_wL G b2 (Int32.toNatClampNeg s1) (Int32.toInt64 s0))) rfl
theorem wb300_13 {cl : Nat → List Value → am_G → (am_O → am_G → Prop) → Prop} (hc : am_one cl) {post : am_O → am_G → Prop} (G : am_G) (o0 : Option Value) (o1 : Option Value) (o2 : Option Value) (o3 : Option Value) (o4 : Option Value) (b0 : Nat) :
    am_W cl am_300 post 13 [o0, o1, o2, o3, o4] [.ref b0] G ↔ (post (.inl (some (.int (1 : Int32)))) G) :=
  am_seg hc 3 [] (am_re (.inl (some (.int (1 : Int32)))) G) rfl
theorem wb300_17 {cl : Nat → List Value → am_G → (am_O → am_G → Prop) → Prop} (hc : am_one cl) {post : am_O → am_G → Prop} (G : am_G) (o0 : Option Value) (o1 : Option Value) (o2 : Option Value) (o3 : Option Value) (o4 : Option Value) :
    am_W cl am_300 post 17 [o0, o1, o2, o3, o4] [] G ↔ (post (.inl (some (.int (0 : Int32)))) G) :=
  am_seg hc 2 [] (am_re (.inl (some (.int (0 : Int32)))) G) rfl
/-! 301 MoodBelfriesLaw.within(LMoodBelfries;II[J)I -/
theorem we301 {d : Nat} {post : am_O → am_G → Prop} (G : am_G) (a0 : Nat) (x1 : Int32) (x2 : Int32) (a3 : Nat) : am_C am_T (d + 1) 301 [.ref a0, .int x1, .int x2, .ref a3] G post ↔ am_W (am_C am_T d) am_301 post 0 [some (.ref a0), some (.int x1), some (.int x2), some (.ref a3), none] [] G := Iff.rfl
theorem wb301_0 {cl : Nat → List Value → am_G → (am_O → am_G → Prop) → Prop} (hc : am_one cl) {post : am_O → am_G → Prop} (G : am_G) (a0 : Nat) (x1 : Int32) (x2 : Int32) (a3 : Nat) :
    am_W cl am_301 post 0 [some (.ref a0), some (.int x1), some (.int x2), some (.ref a3), none] [] G ↔ (am_is G a0 11 ∧ cl 125 [.ref a0, .int x1, .int x2] G (am_kt cl am_301 8 [.int (0 : Int32), .ref a3] 1 [some (.ref a0), some (.int x1), some (.int x2), some (.ref a3), none] 5 post)) :=
  am_seg hc 6 [am_is G a0 11] (am_ca 125 [.ref a0, .int x1, .int x2] 8 [.int (0 : Int32), .ref a3] 1 [some (.ref a0), some (.int x1), some (.int x2), some (.ref a3), none] G 5) rfl
theorem wb301_8 {cl : Nat → List Value → am_G → (am_O → am_G → Prop) → Prop} (hc : am_one cl) {post : am_O → am_G → Prop} (G : am_G) (o0 : Option Value) (o1 : Option Value) (o2 : Option Value) (o3 : Option Value) (o4 : Option Value) (s0 : Int32) (s1 : Int32) (b2 : Nat) :
    am_W cl am_301 post 8 [o0, o1, o2, o3, o4] [.int s0, .int s1, .ref b2] G ↔ (am_ow G b2 s1 101 ∧ am_W cl am_301 post 17 [none, none, none, none, none] [] (am_wL G b2 (Int32.toNatClampNeg s1) (Int32.toInt64 s0))) :=
  am_seg hc 3 [am_ow G b2 s1 101] (am_go 17 [none, none, none, none, none] [] (am_wL G b2 (Int32.toNatClampNeg s1) (Int32.toInt64 s0))) rfl
theorem wb301_13 {cl : Nat → List Value → am_G → (am_O → am_G → Prop) → Prop} (hc : am_one cl) {post : am_O → am_G → Prop} (G : am_G) (o0 : Option Value) (o1 : Option Value) (o2 : Option Value) (o3 : Option Value) (o4 : Option Value) (b0 : Nat) :
    am_W cl am_301 post 13 [o0, o1, o2, o3, o4] [.ref b0] G ↔ (post (.inl (some (.int (1 : Int32)))) G) :=
  am_seg hc 3 [] (am_re (.inl (some (.int (1 : Int32)))) G) rfl
theorem wb301_17 {cl : Nat → List Value → am_G → (am_O → am_G → Prop) → Prop} (hc : am_one cl) {post : am_O → am_G → Prop} (G : am_G) (o0 : Option Value) (o1 : Option Value) (o2 : Option Value) (o3 : Option Value) (o4 : Option Value) :
    am_W cl am_301 post 17 [o0, o1, o2, o3, o4] [] G ↔ (post (.inl (some (.int (0 : Int32)))) G) :=
  am_seg hc 2 [] (am_re (.inl (some (.int (0 : Int32)))) G) rfl
/-! 302 MoodBelfriesLaw.place(LMoodBelfries;III[J)I -/
theorem we302 {d : Nat} {post : am_O → am_G → Prop} (G : am_G) (a0 : Nat) (x1 : Int32) (x2 : Int32) (x3 : Int32) (a4 : Nat) : am_C am_T (d + 1) 302 [.ref a0, .int x1, .int x2, .int x3, .ref a4] G post ↔ am_W (am_C am_T d) am_302 post 0 [some (.ref a0), some (.int x1), some (.int x2), some (.int x3), some (.ref a4), none] [] G := Iff.rfl
theorem wb302_0 {cl : Nat → List Value → am_G → (am_O → am_G → Prop) → Prop} (hc : am_one cl) {post : am_O → am_G → Prop} (G : am_G) (a0 : Nat) (x1 : Int32) (x2 : Int32) (x3 : Int32) (a4 : Nat) :
    am_W cl am_302 post 0 [some (.ref a0), some (.int x1), some (.int x2), some (.int x3), some (.ref a4), none] [] G ↔ (am_is G a0 11 ∧ cl 126 [.ref a0, .int x1, .int x2, .int x3] G (am_kt cl am_302 10 [.int (0 : Int32), .ref a4] 1 [some (.ref a0), some (.int x1), some (.int x2), some (.int x3), some (.ref a4), none] 7 post)) :=
  am_seg hc 7 [am_is G a0 11] (am_ca 126 [.ref a0, .int x1, .int x2, .int x3] 10 [.int (0 : Int32), .ref a4] 1 [some (.ref a0), some (.int x1), some (.int x2), some (.int x3), some (.ref a4), none] G 7) rfl
theorem wb302_10 {cl : Nat → List Value → am_G → (am_O → am_G → Prop) → Prop} (hc : am_one cl) {post : am_O → am_G → Prop} (G : am_G) (o0 : Option Value) (o1 : Option Value) (o2 : Option Value) (o3 : Option Value) (o4 : Option Value) (o5 : Option Value) (s0 : Int32) (s1 : Int32) (b2 : Nat) :
    am_W cl am_302 post 10 [o0, o1, o2, o3, o4, o5] [.int s0, .int s1, .ref b2] G ↔ (am_ow G b2 s1 101 ∧ am_W cl am_302 post 19 [none, none, none, none, none, none] [] (am_wL G b2 (Int32.toNatClampNeg s1) (Int32.toInt64 s0))) :=
  am_seg hc 3 [am_ow G b2 s1 101] (am_go 19 [none, none, none, none, none, none] [] (am_wL G b2 (Int32.toNatClampNeg s1) (Int32.toInt64 s0))) rfl
theorem wb302_15 {cl : Nat → List Value → am_G → (am_O → am_G → Prop) → Prop} (hc : am_one cl) {post : am_O → am_G → Prop} (G : am_G) (o0 : Option Value) (o1 : Option Value) (o2 : Option Value) (o3 : Option Value) (o4 : Option Value) (o5 : Option Value) (b0 : Nat) :
    am_W cl am_302 post 15 [o0, o1, o2, o3, o4, o5] [.ref b0] G ↔ (post (.inl (some (.int (1 : Int32)))) G) :=
  am_seg hc 3 [] (am_re (.inl (some (.int (1 : Int32)))) G) rfl
theorem wb302_19 {cl : Nat → List Value → am_G → (am_O → am_G → Prop) → Prop} (hc : am_one cl) {post : am_O → am_G → Prop} (G : am_G) (o0 : Option Value) (o1 : Option Value) (o2 : Option Value) (o3 : Option Value) (o4 : Option Value) (o5 : Option Value) :
    am_W cl am_302 post 19 [o0, o1, o2, o3, o4, o5] [] G ↔ (post (.inl (some (.int (0 : Int32)))) G) :=
  am_seg hc 2 [] (am_re (.inl (some (.int (0 : Int32)))) G) rfl
/-! 303 MoodBelfriesLaw.ringers(LMoodBelfries;III[J)I -/
theorem we303 {d : Nat} {post : am_O → am_G → Prop} (G : am_G) (a0 : Nat) (x1 : Int32) (x2 : Int32) (x3 : Int32) (a4 : Nat) : am_C am_T (d + 1) 303 [.ref a0, .int x1, .int x2, .int x3, .ref a4] G post ↔ am_W (am_C am_T d) am_303 post 0 [some (.ref a0), some (.int x1), some (.int x2), some (.int x3), some (.ref a4), none] [] G := Iff.rfl
theorem wb303_0 {cl : Nat → List Value → am_G → (am_O → am_G → Prop) → Prop} (hc : am_one cl) {post : am_O → am_G → Prop} (G : am_G) (a0 : Nat) (x1 : Int32) (x2 : Int32) (x3 : Int32) (a4 : Nat) :
    am_W cl am_303 post 0 [some (.ref a0), some (.int x1), some (.int x2), some (.int x3), some (.ref a4), none] [] G ↔ (am_is G a0 11 ∧ cl 127 [.ref a0, .int x1, .int x2, .int x3] G (am_kt cl am_303 10 [.int (0 : Int32), .ref a4] 1 [some (.ref a0), some (.int x1), some (.int x2), some (.int x3), some (.ref a4), none] 7 post)) :=
  am_seg hc 7 [am_is G a0 11] (am_ca 127 [.ref a0, .int x1, .int x2, .int x3] 10 [.int (0 : Int32), .ref a4] 1 [some (.ref a0), some (.int x1), some (.int x2), some (.int x3), some (.ref a4), none] G 7) rfl
theorem wb303_10 {cl : Nat → List Value → am_G → (am_O → am_G → Prop) → Prop} (hc : am_one cl) {post : am_O → am_G → Prop} (G : am_G) (o0 : Option Value) (o1 : Option Value) (o2 : Option Value) (o3 : Option Value) (o4 : Option Value) (o5 : Option Value) (s0 : Int32) (s1 : Int32) (b2 : Nat) :
    am_W cl am_303 post 10 [o0, o1, o2, o3, o4, o5] [.int s0, .int s1, .ref b2] G ↔ (am_ow G b2 s1 101 ∧ am_W cl am_303 post 19 [none, none, none, none, none, none] [] (am_wL G b2 (Int32.toNatClampNeg s1) (Int32.toInt64 s0))) :=
  am_seg hc 3 [am_ow G b2 s1 101] (am_go 19 [none, none, none, none, none, none] [] (am_wL G b2 (Int32.toNatClampNeg s1) (Int32.toInt64 s0))) rfl
theorem wb303_15 {cl : Nat → List Value → am_G → (am_O → am_G → Prop) → Prop} (hc : am_one cl) {post : am_O → am_G → Prop} (G : am_G) (o0 : Option Value) (o1 : Option Value) (o2 : Option Value) (o3 : Option Value) (o4 : Option Value) (o5 : Option Value) (b0 : Nat) :
    am_W cl am_303 post 15 [o0, o1, o2, o3, o4, o5] [.ref b0] G ↔ (post (.inl (some (.int (1 : Int32)))) G) :=
  am_seg hc 3 [] (am_re (.inl (some (.int (1 : Int32)))) G) rfl
theorem wb303_19 {cl : Nat → List Value → am_G → (am_O → am_G → Prop) → Prop} (hc : am_one cl) {post : am_O → am_G → Prop} (G : am_G) (o0 : Option Value) (o1 : Option Value) (o2 : Option Value) (o3 : Option Value) (o4 : Option Value) (o5 : Option Value) :
    am_W cl am_303 post 19 [o0, o1, o2, o3, o4, o5] [] G ↔ (post (.inl (some (.int (0 : Int32)))) G) :=
  am_seg hc 2 [] (am_re (.inl (some (.int (0 : Int32)))) G) rfl
/-! 304 MoodBelfriesLaw.sounds(LMoodBelfries;IIII[J)I -/
theorem we304 {d : Nat} {post : am_O → am_G → Prop} (G : am_G) (a0 : Nat) (x1 : Int32) (x2 : Int32) (x3 : Int32) (x4 : Int32) (a5 : Nat) : am_C am_T (d + 1) 304 [.ref a0, .int x1, .int x2, .int x3, .int x4, .ref a5] G post ↔ am_W (am_C am_T d) am_304 post 0 [some (.ref a0), some (.int x1), some (.int x2), some (.int x3), some (.int x4), some (.ref a5), none] [] G := Iff.rfl
theorem wb304_0 {cl : Nat → List Value → am_G → (am_O → am_G → Prop) → Prop} (hc : am_one cl) {post : am_O → am_G → Prop} (G : am_G) (a0 : Nat) (x1 : Int32) (x2 : Int32) (x3 : Int32) (x4 : Int32) (a5 : Nat) :
    am_W cl am_304 post 0 [some (.ref a0), some (.int x1), some (.int x2), some (.int x3), some (.int x4), some (.ref a5), none] [] G ↔ (am_is G a0 11 ∧ cl 128 [.ref a0, .int x1, .int x2, .int x3, .int x4] G (am_kt cl am_304 12 [.int (0 : Int32), .ref a5] 2 [some (.ref a0), some (.int x1), some (.int x2), some (.int x3), some (.int x4), some (.ref a5), none] 9 post)) :=
  am_seg hc 8 [am_is G a0 11] (am_ca 128 [.ref a0, .int x1, .int x2, .int x3, .int x4] 12 [.int (0 : Int32), .ref a5] 2 [some (.ref a0), some (.int x1), some (.int x2), some (.int x3), some (.int x4), some (.ref a5), none] G 9) rfl
theorem wb304_12 {cl : Nat → List Value → am_G → (am_O → am_G → Prop) → Prop} (hc : am_one cl) {post : am_O → am_G → Prop} (G : am_G) (o0 : Option Value) (o1 : Option Value) (o2 : Option Value) (o3 : Option Value) (o4 : Option Value) (o5 : Option Value) (o6 : Option Value) (v0 : Int64) (s1 : Int32) (b2 : Nat) :
    am_W cl am_304 post 12 [o0, o1, o2, o3, o4, o5, o6] [.long v0, .int s1, .ref b2] G ↔ (am_ow G b2 s1 101 ∧ am_W cl am_304 post 20 [none, none, none, none, none, none, none] [] (am_wL G b2 (Int32.toNatClampNeg s1) v0)) :=
  am_seg hc 2 [am_ow G b2 s1 101] (am_go 20 [none, none, none, none, none, none, none] [] (am_wL G b2 (Int32.toNatClampNeg s1) v0)) rfl
theorem wb304_16 {cl : Nat → List Value → am_G → (am_O → am_G → Prop) → Prop} (hc : am_one cl) {post : am_O → am_G → Prop} (G : am_G) (o0 : Option Value) (o1 : Option Value) (o2 : Option Value) (o3 : Option Value) (o4 : Option Value) (o5 : Option Value) (o6 : Option Value) (b0 : Nat) :
    am_W cl am_304 post 16 [o0, o1, o2, o3, o4, o5, o6] [.ref b0] G ↔ (post (.inl (some (.int (1 : Int32)))) G) :=
  am_seg hc 3 [] (am_re (.inl (some (.int (1 : Int32)))) G) rfl
theorem wb304_20 {cl : Nat → List Value → am_G → (am_O → am_G → Prop) → Prop} (hc : am_one cl) {post : am_O → am_G → Prop} (G : am_G) (o0 : Option Value) (o1 : Option Value) (o2 : Option Value) (o3 : Option Value) (o4 : Option Value) (o5 : Option Value) (o6 : Option Value) :
    am_W cl am_304 post 20 [o0, o1, o2, o3, o4, o5, o6] [] G ↔ (post (.inl (some (.int (0 : Int32)))) G) :=
  am_seg hc 2 [] (am_re (.inl (some (.int (0 : Int32)))) G) rfl
/-! 305 MoodBelfriesLaw.metal(LMoodBelfries;III[J)I -/
theorem we305 {d : Nat} {post : am_O → am_G → Prop} (G : am_G) (a0 : Nat) (x1 : Int32) (x2 : Int32) (x3 : Int32) (a4 : Nat) : am_C am_T (d + 1) 305 [.ref a0, .int x1, .int x2, .int x3, .ref a4] G post ↔ am_W (am_C am_T d) am_305 post 0 [some (.ref a0), some (.int x1), some (.int x2), some (.int x3), some (.ref a4), none] [] G := Iff.rfl
theorem wb305_0 {cl : Nat → List Value → am_G → (am_O → am_G → Prop) → Prop} (hc : am_one cl) {post : am_O → am_G → Prop} (G : am_G) (a0 : Nat) (x1 : Int32) (x2 : Int32) (x3 : Int32) (a4 : Nat) :
    am_W cl am_305 post 0 [some (.ref a0), some (.int x1), some (.int x2), some (.int x3), some (.ref a4), none] [] G ↔ (am_is G a0 11 ∧ cl 129 [.ref a0, .int x1, .int x2, .int x3] G (am_kt cl am_305 10 [.int (0 : Int32), .ref a4] 1 [some (.ref a0), some (.int x1), some (.int x2), some (.int x3), some (.ref a4), none] 7 post)) :=
  am_seg hc 7 [am_is G a0 11] (am_ca 129 [.ref a0, .int x1, .int x2, .int x3] 10 [.int (0 : Int32), .ref a4] 1 [some (.ref a0), some (.int x1), some (.int x2), some (.int x3), some (.ref a4), none] G 7) rfl
theorem wb305_10 {cl : Nat → List Value → am_G → (am_O → am_G → Prop) → Prop} (hc : am_one cl) {post : am_O → am_G → Prop} (G : am_G) (o0 : Option Value) (o1 : Option Value) (o2 : Option Value) (o3 : Option Value) (o4 : Option Value) (o5 : Option Value) (s0 : Int32) (s1 : Int32) (b2 : Nat) :
    am_W cl am_305 post 10 [o0, o1, o2, o3, o4, o5] [.int s0, .int s1, .ref b2] G ↔ (am_ow G b2 s1 101 ∧ am_W cl am_305 post 23 [none, none, none, none, none, none] [] (am_wL G b2 (Int32.toNatClampNeg s1) (Int32.toInt64 s0))) :=
  am_seg hc 3 [am_ow G b2 s1 101] (am_go 23 [none, none, none, none, none, none] [] (am_wL G b2 (Int32.toNatClampNeg s1) (Int32.toInt64 s0))) rfl
theorem wb305_15 {cl : Nat → List Value → am_G → (am_O → am_G → Prop) → Prop} (hc : am_one cl) {post : am_O → am_G → Prop} (G : am_G) (o0 : Option Value) (o1 : Option Value) (o2 : Option Value) (o3 : Option Value) (o4 : Option Value) (o5 : Option Value) (b0 : Nat) :
    am_W cl am_305 post 15 [o0, o1, o2, o3, o4, o5] [.ref b0] G ↔ (post (.inl (some (.int (1 : Int32)))) G) :=
  am_seg hc 3 [] (am_re (.inl (some (.int (1 : Int32)))) G) rfl
theorem wb305_19 {cl : Nat → List Value → am_G → (am_O → am_G → Prop) → Prop} (hc : am_one cl) {post : am_O → am_G → Prop} (G : am_G) (o0 : Option Value) (o1 : Option Value) (o2 : Option Value) (o3 : Option Value) (o4 : Option Value) (o5 : Option Value) (b0 : Nat) :
    am_W cl am_305 post 19 [o0, o1, o2, o3, o4, o5] [.ref b0] G ↔ (post (.inl (some (.int (2 : Int32)))) G) :=
  am_seg hc 3 [] (am_re (.inl (some (.int (2 : Int32)))) G) rfl
theorem wb305_23 {cl : Nat → List Value → am_G → (am_O → am_G → Prop) → Prop} (hc : am_one cl) {post : am_O → am_G → Prop} (G : am_G) (o0 : Option Value) (o1 : Option Value) (o2 : Option Value) (o3 : Option Value) (o4 : Option Value) (o5 : Option Value) :
    am_W cl am_305 post 23 [o0, o1, o2, o3, o4, o5] [] G ↔ (post (.inl (some (.int (0 : Int32)))) G) :=
  am_seg hc 2 [] (am_re (.inl (some (.int (0 : Int32)))) G) rfl
/-! 306 MoodBelfriesLaw.loudest(LMoodBelfries;I[J)I -/
theorem we306 {d : Nat} {post : am_O → am_G → Prop} (G : am_G) (a0 : Nat) (x1 : Int32) (a2 : Nat) : am_C am_T (d + 1) 306 [.ref a0, .int x1, .ref a2] G post ↔ am_W (am_C am_T d) am_306 post 0 [some (.ref a0), some (.int x1), some (.ref a2), none] [] G := Iff.rfl
theorem wb306_0 {cl : Nat → List Value → am_G → (am_O → am_G → Prop) → Prop} (hc : am_one cl) {post : am_O → am_G → Prop} (G : am_G) (a0 : Nat) (x1 : Int32) (a2 : Nat) :
    am_W cl am_306 post 0 [some (.ref a0), some (.int x1), some (.ref a2), none] [] G ↔ (am_is G a0 11 ∧ cl 130 [.ref a0, .int x1] G (am_kt cl am_306 7 [.int (0 : Int32), .ref a2] 1 [some (.ref a0), some (.int x1), some (.ref a2), none] 4 post)) :=
  am_seg hc 5 [am_is G a0 11] (am_ca 130 [.ref a0, .int x1] 7 [.int (0 : Int32), .ref a2] 1 [some (.ref a0), some (.int x1), some (.ref a2), none] G 4) rfl
theorem wb306_7 {cl : Nat → List Value → am_G → (am_O → am_G → Prop) → Prop} (hc : am_one cl) {post : am_O → am_G → Prop} (G : am_G) (o0 : Option Value) (o1 : Option Value) (o2 : Option Value) (o3 : Option Value) (s0 : Int32) (s1 : Int32) (b2 : Nat) :
    am_W cl am_306 post 7 [o0, o1, o2, o3] [.int s0, .int s1, .ref b2] G ↔ (am_ow G b2 s1 101 ∧ am_W cl am_306 post 15 [none, none, none, none] [] (am_wL G b2 (Int32.toNatClampNeg s1) (Int32.toInt64 s0))) :=
  am_seg hc 3 [am_ow G b2 s1 101] (am_go 15 [none, none, none, none] [] (am_wL G b2 (Int32.toNatClampNeg s1) (Int32.toInt64 s0))) rfl
theorem wb306_12 {cl : Nat → List Value → am_G → (am_O → am_G → Prop) → Prop} (hc : am_one cl) {post : am_O → am_G → Prop} (G : am_G) (o0 : Option Value) (o1 : Option Value) (o2 : Option Value) (o3 : Option Value) (b0 : Nat) :
    am_W cl am_306 post 12 [o0, o1, o2, o3] [.ref b0] G ↔ (post (.inl (some (.int (1 : Int32)))) G) :=
  am_seg hc 3 [] (am_re (.inl (some (.int (1 : Int32)))) G) rfl
theorem wb306_15 {cl : Nat → List Value → am_G → (am_O → am_G → Prop) → Prop} (hc : am_one cl) {post : am_O → am_G → Prop} (G : am_G) (o0 : Option Value) (o1 : Option Value) (o2 : Option Value) (o3 : Option Value) :
    am_W cl am_306 post 15 [o0, o1, o2, o3] [] G ↔ (post (.inl (some (.int (0 : Int32)))) G) :=
  am_seg hc 2 [] (am_re (.inl (some (.int (0 : Int32)))) G) rfl
/-! 307 MoodBelfriesLaw.deaf(LMoodBelfries;I[J)I -/
theorem we307 {d : Nat} {post : am_O → am_G → Prop} (G : am_G) (a0 : Nat) (x1 : Int32) (a2 : Nat) : am_C am_T (d + 1) 307 [.ref a0, .int x1, .ref a2] G post ↔ am_W (am_C am_T d) am_307 post 0 [some (.ref a0), some (.int x1), some (.ref a2), none] [] G := Iff.rfl
theorem wb307_0 {cl : Nat → List Value → am_G → (am_O → am_G → Prop) → Prop} (hc : am_one cl) {post : am_O → am_G → Prop} (G : am_G) (a0 : Nat) (x1 : Int32) (a2 : Nat) :
    am_W cl am_307 post 0 [some (.ref a0), some (.int x1), some (.ref a2), none] [] G ↔ (am_is G a0 11 ∧ cl 131 [.ref a0, .int x1] G (am_kt cl am_307 7 [.int (0 : Int32), .ref a2] 1 [some (.ref a0), some (.int x1), some (.ref a2), none] 4 post)) :=
  am_seg hc 5 [am_is G a0 11] (am_ca 131 [.ref a0, .int x1] 7 [.int (0 : Int32), .ref a2] 1 [some (.ref a0), some (.int x1), some (.ref a2), none] G 4) rfl
theorem wb307_7 {cl : Nat → List Value → am_G → (am_O → am_G → Prop) → Prop} (hc : am_one cl) {post : am_O → am_G → Prop} (G : am_G) (o0 : Option Value) (o1 : Option Value) (o2 : Option Value) (o3 : Option Value) (s0 : Int32) (s1 : Int32) (b2 : Nat) :
    am_W cl am_307 post 7 [o0, o1, o2, o3] [.int s0, .int s1, .ref b2] G ↔ (am_ow G b2 s1 101 ∧ am_W cl am_307 post 15 [none, none, none, none] [] (am_wL G b2 (Int32.toNatClampNeg s1) (Int32.toInt64 s0))) :=
  am_seg hc 3 [am_ow G b2 s1 101] (am_go 15 [none, none, none, none] [] (am_wL G b2 (Int32.toNatClampNeg s1) (Int32.toInt64 s0))) rfl
theorem wb307_12 {cl : Nat → List Value → am_G → (am_O → am_G → Prop) → Prop} (hc : am_one cl) {post : am_O → am_G → Prop} (G : am_G) (o0 : Option Value) (o1 : Option Value) (o2 : Option Value) (o3 : Option Value) (b0 : Nat) :
    am_W cl am_307 post 12 [o0, o1, o2, o3] [.ref b0] G ↔ (post (.inl (some (.int (1 : Int32)))) G) :=
  am_seg hc 3 [] (am_re (.inl (some (.int (1 : Int32)))) G) rfl
theorem wb307_15 {cl : Nat → List Value → am_G → (am_O → am_G → Prop) → Prop} (hc : am_one cl) {post : am_O → am_G → Prop} (G : am_G) (o0 : Option Value) (o1 : Option Value) (o2 : Option Value) (o3 : Option Value) :
    am_W cl am_307 post 15 [o0, o1, o2, o3] [] G ↔ (post (.inl (some (.int (0 : Int32)))) G) :=
  am_seg hc 2 [] (am_re (.inl (some (.int (0 : Int32)))) G) rfl
/-! 308 MoodBelfriesLaw.kin(LMoodBelfries;I[J)I -/
theorem we308 {d : Nat} {post : am_O → am_G → Prop} (G : am_G) (a0 : Nat) (x1 : Int32) (a2 : Nat) : am_C am_T (d + 1) 308 [.ref a0, .int x1, .ref a2] G post ↔ am_W (am_C am_T d) am_308 post 0 [some (.ref a0), some (.int x1), some (.ref a2), none] [] G := Iff.rfl
theorem wb308_0 {cl : Nat → List Value → am_G → (am_O → am_G → Prop) → Prop} (hc : am_one cl) {post : am_O → am_G → Prop} (G : am_G) (a0 : Nat) (x1 : Int32) (a2 : Nat) :
    am_W cl am_308 post 0 [some (.ref a0), some (.int x1), some (.ref a2), none] [] G ↔ (am_is G a0 11 ∧ cl 132 [.ref a0, .int x1] G (am_kt cl am_308 7 [.int (0 : Int32), .ref a2] 1 [some (.ref a0), some (.int x1), some (.ref a2), none] 4 post)) :=
  am_seg hc 5 [am_is G a0 11] (am_ca 132 [.ref a0, .int x1] 7 [.int (0 : Int32), .ref a2] 1 [some (.ref a0), some (.int x1), some (.ref a2), none] G 4) rfl
theorem wb308_7 {cl : Nat → List Value → am_G → (am_O → am_G → Prop) → Prop} (hc : am_one cl) {post : am_O → am_G → Prop} (G : am_G) (o0 : Option Value) (o1 : Option Value) (o2 : Option Value) (o3 : Option Value) (s0 : Int32) (s1 : Int32) (b2 : Nat) :
    am_W cl am_308 post 7 [o0, o1, o2, o3] [.int s0, .int s1, .ref b2] G ↔ (am_ow G b2 s1 101 ∧ am_W cl am_308 post 15 [none, none, none, none] [] (am_wL G b2 (Int32.toNatClampNeg s1) (Int32.toInt64 s0))) :=
  am_seg hc 3 [am_ow G b2 s1 101] (am_go 15 [none, none, none, none] [] (am_wL G b2 (Int32.toNatClampNeg s1) (Int32.toInt64 s0))) rfl
theorem wb308_12 {cl : Nat → List Value → am_G → (am_O → am_G → Prop) → Prop} (hc : am_one cl) {post : am_O → am_G → Prop} (G : am_G) (o0 : Option Value) (o1 : Option Value) (o2 : Option Value) (o3 : Option Value) (b0 : Nat) :
    am_W cl am_308 post 12 [o0, o1, o2, o3] [.ref b0] G ↔ (post (.inl (some (.int (1 : Int32)))) G) :=
  am_seg hc 3 [] (am_re (.inl (some (.int (1 : Int32)))) G) rfl
theorem wb308_15 {cl : Nat → List Value → am_G → (am_O → am_G → Prop) → Prop} (hc : am_one cl) {post : am_O → am_G → Prop} (G : am_G) (o0 : Option Value) (o1 : Option Value) (o2 : Option Value) (o3 : Option Value) :
    am_W cl am_308 post 15 [o0, o1, o2, o3] [] G ↔ (post (.inl (some (.int (0 : Int32)))) G) :=
  am_seg hc 2 [] (am_re (.inl (some (.int (0 : Int32)))) G) rfl
/-! 309 MoodBelfriesLaw.century(LMoodBelfries;IIII[J)I -/
theorem we309 {d : Nat} {post : am_O → am_G → Prop} (G : am_G) (a0 : Nat) (x1 : Int32) (x2 : Int32) (x3 : Int32) (x4 : Int32) (a5 : Nat) : am_C am_T (d + 1) 309 [.ref a0, .int x1, .int x2, .int x3, .int x4, .ref a5] G post ↔ am_W (am_C am_T d) am_309 post 0 [some (.ref a0), some (.int x1), some (.int x2), some (.int x3), some (.int x4), some (.ref a5), none] [] G := Iff.rfl
theorem wb309_0 {cl : Nat → List Value → am_G → (am_O → am_G → Prop) → Prop} (hc : am_one cl) {post : am_O → am_G → Prop} (G : am_G) (a0 : Nat) (x1 : Int32) (x2 : Int32) (x3 : Int32) (x4 : Int32) (a5 : Nat) :
    am_W cl am_309 post 0 [some (.ref a0), some (.int x1), some (.int x2), some (.int x3), some (.int x4), some (.ref a5), none] [] G ↔ (am_is G a0 11 ∧ cl 133 [.ref a0, .int x1, .int x2, .int x3, .int x4] G (am_kt cl am_309 12 [.int (0 : Int32), .ref a5] 1 [some (.ref a0), some (.int x1), some (.int x2), some (.int x3), some (.int x4), some (.ref a5), none] 9 post)) :=
  am_seg hc 8 [am_is G a0 11] (am_ca 133 [.ref a0, .int x1, .int x2, .int x3, .int x4] 12 [.int (0 : Int32), .ref a5] 1 [some (.ref a0), some (.int x1), some (.int x2), some (.int x3), some (.int x4), some (.ref a5), none] G 9) rfl
theorem wb309_12 {cl : Nat → List Value → am_G → (am_O → am_G → Prop) → Prop} (hc : am_one cl) {post : am_O → am_G → Prop} (G : am_G) (o0 : Option Value) (o1 : Option Value) (o2 : Option Value) (o3 : Option Value) (o4 : Option Value) (o5 : Option Value) (o6 : Option Value) (s0 : Int32) (s1 : Int32) (b2 : Nat) :
    am_W cl am_309 post 12 [o0, o1, o2, o3, o4, o5, o6] [.int s0, .int s1, .ref b2] G ↔ (am_ow G b2 s1 101 ∧ am_W cl am_309 post 21 [none, none, none, none, none, none, none] [] (am_wL G b2 (Int32.toNatClampNeg s1) (Int32.toInt64 s0))) :=
  am_seg hc 3 [am_ow G b2 s1 101] (am_go 21 [none, none, none, none, none, none, none] [] (am_wL G b2 (Int32.toNatClampNeg s1) (Int32.toInt64 s0))) rfl
theorem wb309_17 {cl : Nat → List Value → am_G → (am_O → am_G → Prop) → Prop} (hc : am_one cl) {post : am_O → am_G → Prop} (G : am_G) (o0 : Option Value) (o1 : Option Value) (o2 : Option Value) (o3 : Option Value) (o4 : Option Value) (o5 : Option Value) (o6 : Option Value) (b0 : Nat) :
    am_W cl am_309 post 17 [o0, o1, o2, o3, o4, o5, o6] [.ref b0] G ↔ (post (.inl (some (.int (1 : Int32)))) G) :=
  am_seg hc 3 [] (am_re (.inl (some (.int (1 : Int32)))) G) rfl
theorem wb309_21 {cl : Nat → List Value → am_G → (am_O → am_G → Prop) → Prop} (hc : am_one cl) {post : am_O → am_G → Prop} (G : am_G) (o0 : Option Value) (o1 : Option Value) (o2 : Option Value) (o3 : Option Value) (o4 : Option Value) (o5 : Option Value) (o6 : Option Value) :
    am_W cl am_309 post 21 [o0, o1, o2, o3, o4, o5, o6] [] G ↔ (post (.inl (some (.int (0 : Int32)))) G) :=
  am_seg hc 2 [] (am_re (.inl (some (.int (0 : Int32)))) G) rfl
/-! 310 MoodBelfriesLaw.span(LMoodBelfries;IIIIII[J)I -/
theorem we310 {d : Nat} {post : am_O → am_G → Prop} (G : am_G) (a0 : Nat) (x1 : Int32) (x2 : Int32) (x3 : Int32) (x4 : Int32) (x5 : Int32) (x6 : Int32) (a7 : Nat) : am_C am_T (d + 1) 310 [.ref a0, .int x1, .int x2, .int x3, .int x4, .int x5, .int x6, .ref a7] G post ↔ am_W (am_C am_T d) am_310 post 0 [some (.ref a0), some (.int x1), some (.int x2), some (.int x3), some (.int x4), some (.int x5), some (.int x6), some (.ref a7), none] [] G := Iff.rfl
theorem wb310_0 {cl : Nat → List Value → am_G → (am_O → am_G → Prop) → Prop} (hc : am_one cl) {post : am_O → am_G → Prop} (G : am_G) (a0 : Nat) (x1 : Int32) (x2 : Int32) (x3 : Int32) (x4 : Int32) (x5 : Int32) (x6 : Int32) (a7 : Nat) :
    am_W cl am_310 post 0 [some (.ref a0), some (.int x1), some (.int x2), some (.int x3), some (.int x4), some (.int x5), some (.int x6), some (.ref a7), none] [] G ↔ (am_is G a0 11 ∧ cl 134 [.ref a0, .int x1, .int x2, .int x3, .int x4, .int x5, .int x6] G (am_kt cl am_310 16 [.int (0 : Int32), .ref a7] 1 [some (.ref a0), some (.int x1), some (.int x2), some (.int x3), some (.int x4), some (.int x5), some (.int x6), some (.ref a7), none] 13 post)) :=
  am_seg hc 10 [am_is G a0 11] (am_ca 134 [.ref a0, .int x1, .int x2, .int x3, .int x4, .int x5, .int x6] 16 [.int (0 : Int32), .ref a7] 1 [some (.ref a0), some (.int x1), some (.int x2), some (.int x3), some (.int x4), some (.int x5), some (.int x6), some (.ref a7), none] G 13) rfl
theorem wb310_16 {cl : Nat → List Value → am_G → (am_O → am_G → Prop) → Prop} (hc : am_one cl) {post : am_O → am_G → Prop} (G : am_G) (o0 : Option Value) (o1 : Option Value) (o2 : Option Value) (o3 : Option Value) (o4 : Option Value) (o5 : Option Value) (o6 : Option Value) (o7 : Option Value) (o8 : Option Value) (s0 : Int32) (s1 : Int32) (b2 : Nat) :
    am_W cl am_310 post 16 [o0, o1, o2, o3, o4, o5, o6, o7, o8] [.int s0, .int s1, .ref b2] G ↔ (am_ow G b2 s1 101 ∧ am_W cl am_310 post 25 [none, none, none, none, none, none, none, none, none] [] (am_wL G b2 (Int32.toNatClampNeg s1) (Int32.toInt64 s0))) :=
  am_seg hc 3 [am_ow G b2 s1 101] (am_go 25 [none, none, none, none, none, none, none, none, none] [] (am_wL G b2 (Int32.toNatClampNeg s1) (Int32.toInt64 s0))) rfl
theorem wb310_21 {cl : Nat → List Value → am_G → (am_O → am_G → Prop) → Prop} (hc : am_one cl) {post : am_O → am_G → Prop} (G : am_G) (o0 : Option Value) (o1 : Option Value) (o2 : Option Value) (o3 : Option Value) (o4 : Option Value) (o5 : Option Value) (o6 : Option Value) (o7 : Option Value) (o8 : Option Value) (b0 : Nat) :
    am_W cl am_310 post 21 [o0, o1, o2, o3, o4, o5, o6, o7, o8] [.ref b0] G ↔ (post (.inl (some (.int (1 : Int32)))) G) :=
  am_seg hc 3 [] (am_re (.inl (some (.int (1 : Int32)))) G) rfl
theorem wb310_25 {cl : Nat → List Value → am_G → (am_O → am_G → Prop) → Prop} (hc : am_one cl) {post : am_O → am_G → Prop} (G : am_G) (o0 : Option Value) (o1 : Option Value) (o2 : Option Value) (o3 : Option Value) (o4 : Option Value) (o5 : Option Value) (o6 : Option Value) (o7 : Option Value) (o8 : Option Value) :
    am_W cl am_310 post 25 [o0, o1, o2, o3, o4, o5, o6, o7, o8] [] G ↔ (post (.inl (some (.int (0 : Int32)))) G) :=
  am_seg hc 2 [] (am_re (.inl (some (.int (0 : Int32)))) G) rfl
