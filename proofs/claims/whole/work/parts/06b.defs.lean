/-! Tables of the classes that the code tables speak of. -/
def am_cn (k : Nat) : Nat := am_nth [3, 3, 11, 8, 3, 3, 4, 7, 8, 5, 7, 14, 49] k
def am_ft (k i : Nat) : Nat := match k with
  | 0 => am_nth [1, 0, 0] i
  | 1 => am_nth [1, 1, 0] i
  | 2 => am_nth [0, 1, 1, 0, 1, 1, 0, 1, 1, 1, 0] i
  | 3 => am_nth [0, 1, 1, 0, 0, 0, 0, 1] i
  | 4 => am_nth [1, 1, 0] i
  | 5 => am_nth [1, 1, 1] i
  | 6 => am_nth [1, 1, 1, 1] i
  | 7 => am_nth [0, 0, 0, 0, 1, 1, 1] i
  | 8 => am_nth [1, 0, 0, 0, 0, 0, 0, 0] i
  | 9 => am_nth [1, 1, 1, 1, 1] i
  | 10 => am_nth [1, 1, 1, 0, 0, 0, 0] i
  | 11 => am_nth [1, 1, 1, 1, 1, 0, 0, 0, 0, 1, 1, 1, 1, 1] i
  | _ => am_nth [0, 0, 0, 0, 0, 0, 0, 0, 0, 1, 1, 1, 1, 1, 1, 1, 1, 1, 1, 0, 0, 1, 1, 1, 1, 1, 1, 1, 0, 1, 1, 1, 1, 0, 0, 0, 0, 0, 0, 0, 1, 1, 0, 1, 1, 1, 1, 1, 0] i
/-- the element type by the kind -/
def sm_atp (k : Nat) : ArrayType := match k with
  | 100 => .int
  | 101 => .long
  | _ => .byte
/-- a method: name, bytes, variables, what it returns, its table of handlers, how it is called (0 static, 1 virtual, 2 a constructor) -/
abbrev mi_T : Type := MethodName × ByteArray × Nat × Option FieldType × List (Nat × Nat × Nat × Nat) × Nat
def mi_w (q : mi_T) : Jvm.Cond := match q.2.2.2.2.1 with
  | [] => .code q.1 q.2.1 q.2.2.1 q.2.2.2.1
  | hs => .codeWith q.1 q.2.1 q.2.2.1 q.2.2.2.1 hs
