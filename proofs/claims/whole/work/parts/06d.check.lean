/-! What a row of my code tables must be, so that the real machine does it. -/
def am_tg (r : Option FieldType) : Nat := match r with
  | none => 0
  | some .int => 1
  | some .long => 2
  | some .boolean => 5
  | some .char => 6
  | some .byte => 7
  | some _ => 9
def am_has2 (l : List (Nat × Nat × Nat)) (o i : Nat) : Bool := l.any fun r => Nat.beq r.1 o && Nat.beq r.2.1 i
def am_has3 (l : List (Nat × Nat × Nat × Nat)) (o i k : Nat) : Bool := l.any fun r => Nat.beq r.1 o && (Nat.beq r.2.1 i && Nat.beq r.2.2.1 k)
def am_hasF (o i a b : Nat) : Bool := fl_l.any fun r => Nat.beq r.1 o && (Nat.beq r.2.1 i && (Nat.beq r.2.2.1 a && Nat.beq r.2.2.2.1 b))
def am_hasF0 (o i a b : Nat) : Bool := fl_l.any fun r => Nat.beq r.1 o && (Nat.beq r.2.1 i && (Nat.beq r.2.2.1 a && (Nat.beq r.2.2.2.1 b && Nat.beq r.2.2.2.2.1 0)))
def am_hasM (o i y : Nat) : Bool := ml_l.any fun r => Nat.beq r.1 o && (Nat.beq r.2.1 i && Nat.beq r.2.2.1 y)
def am_hasM0 (o i y : Nat) : Bool := ml_l.any fun r => Nat.beq r.1 o && (Nat.beq r.2.1 i && (Nat.beq r.2.2.1 y && Nat.beq r.2.2.2.1 0))
def am_hasS (o i k : Nat) : Bool := sl_l.any fun r => Nat.beq r.1 o && (Nat.beq r.2.1 i && Nat.beq r.2.2.1 k)
def am_hasK (l : List (Nat × Nat × Int32 × Nat)) (o i : Nat) (z : Int32) : Bool := l.any fun r => Nat.beq r.1 o && (Nat.beq r.2.1 i && decide (r.2.2.1 = z))
/-- how many values a call takes -/
def am_par (y k : Nat) : Bool := match mi_l[y]? with
  | some q => decide ((parseMethodDescriptor q.1.desc).map (fun d => d.parameters.length) = some k)
  | none => false
def am_kd (y k : Nat) : Bool := match mi_l[y]? with
  | some q => Nat.beq q.2.2.2.2.2 k
  | none => false
def am_cls (y o : Nat) : Bool := match mi_l[y]? with
  | some q => decide (q.1.cls = ow o)
  | none => false
def am_sws (pc : Nat) (lo : Int) : List Int → List Nat → Bool
  | [], [] => true
  | a :: r, t :: ts => decide ((pc : Int) + a = (t : Int)) && am_sws pc (lo + 1) r ts
  | _, _ => false
def am_sws2 (pc : Nat) (lo : Int) : List (Int × Int) → List Nat → Bool
  | [], [] => true
  | a :: r, t :: ts => decide (a.1 = lo) && (decide ((pc : Int) + a.2 = (t : Int)) && am_sws2 pc (lo + 1) r ts)
  | _, _ => false
/-- y the method, o its class, t the kind of what it returns -/
def am_chk (y o t : Nat) (ini : Bool) (nL pc : Nat) (i : Instr) (len r1 r2 r3 : Nat) (z : Int32) (ts : List Nat) : Bool := match i with
  | .iconst n => Nat.beq len 1 && decide (Int32.ofInt n = z)
  | .bipush n => Nat.beq len 2 && decide ((Int8.ofInt n).toInt32 = z)
  | .sipush n => Nat.beq len 3 && decide ((Int16.ofInt n).toInt32 = z)
  | .ldc k => Nat.beq len 2 && ((Nat.beq r1 0 && am_hasK kl_l o k z) || (Nat.beq r1 1 && (am_has3 tl_l o k r2 && Nat.ble r2 100005)))
  | .ldc_w k => Nat.beq len 3 && (Nat.beq r1 0 && am_hasK kl_l o k z)
  | .getstatic k => Nat.beq len 3 && ((Nat.beq r1 0 && (decide (z = 1) && am_hasS o k 1)) || (Nat.beq r1 1 && (am_hasS o k r2 && Nat.ble 100000 r2)))
  | .lconst n => Nat.beq len 1 && decide (Int64.ofNat (n : Nat) = z.toInt64)
  | .ldc2_w k => Nat.beq len 3 && am_hasK kL_l o k z
  | .iload k => Nat.beq len 2 && Nat.beq r1 k
  | .iload_n k => Nat.beq len 1 && Nat.beq r1 k.val
  | .lload k => Nat.beq len 2 && Nat.beq r1 k
  | .lload_n k => Nat.beq len 1 && Nat.beq r1 k.val
  | .aload k => Nat.beq len 2 && Nat.beq r1 k
  | .aload_n k => Nat.beq len 1 && Nat.beq r1 k.val
  | .istore k => Nat.beq len 2 && (Nat.beq r1 k && Nat.blt r1 nL)
  | .istore_n k => Nat.beq len 1 && (Nat.beq r1 k.val && Nat.blt r1 nL)
  | .lstore k => Nat.beq len 2 && (Nat.beq r1 k && Nat.blt (r1 + 1) nL)
  | .lstore_n k => Nat.beq len 1 && (Nat.beq r1 k.val && Nat.blt (r1 + 1) nL)
  | .astore k => Nat.beq len 2 && (Nat.beq r1 k && Nat.blt r1 nL)
  | .astore_n k => Nat.beq len 1 && (Nat.beq r1 k.val && Nat.blt r1 nL)
  | .iinc k n => Nat.beq len 3 && (Nat.beq r1 k && (Nat.blt r1 nL && decide (Int32.ofInt n = z)))
  | .iadd => Nat.beq len 1
  | .isub => Nat.beq len 1
  | .imul => Nat.beq len 1
  | .iand => Nat.beq len 1
  | .ior => Nat.beq len 1
  | .ixor => Nat.beq len 1
  | .ishl => Nat.beq len 1
  | .ishr => Nat.beq len 1
  | .iushr => Nat.beq len 1
  | .idiv => Nat.beq len 1
  | .irem => Nat.beq len 1
  | .ineg => Nat.beq len 1
  | .i2l => Nat.beq len 1
  | .i2b => Nat.beq len 1
  | .i2c => Nat.beq len 1
  | .ladd => Nat.beq len 1
  | .lmul => Nat.beq len 1
  | .lcmp => Nat.beq len 1
  | .ldiv => Nat.beq len 1
  | .lrem => Nat.beq len 1
  | .lshl => Nat.beq len 1
  | .dup => Nat.beq len 1
  | .pop => Nat.beq len 1
  | .dup2 => Nat.beq len 1
  | .ifCond _ off => Nat.beq len 3 && decide ((pc : Int) + off = (r1 : Int))
  | .if_icmp _ off => Nat.beq len 3 && decide ((pc : Int) + off = (r1 : Int))
  | .goto off => Nat.beq len 3 && decide ((pc : Int) + off = (r1 : Int))
  | .tableswitch d lo hi offs => decide ((pc : Int) + d = (r1 : Int)) && (decide (lo = z.toInt) && (decide (hi = lo + ts.length - 1) && (am_sws pc lo offs.toList ts && decide (lo + ts.length ≤ 2147483647))))
  | .lookupswitch d ps => decide ((pc : Int) + d = (r1 : Int)) && (am_sws2 pc z.toInt ps.toList ts && (decide (z.toInt + ts.length ≤ 2147483647) && (ps.toList.zip (ps.toList.drop 1)).all (fun (a, next) => a.1 < next.1)))
  | .getfield k => Nat.beq len 3 && ((Nat.blt r3 2 && (Nat.beq r3 (am_ft r1 r2) && (Nat.blt r1 13 && am_hasF o k r1 r2))) || (Nat.beq o 17 && ((Nat.beq k 9 && Nat.beq r3 2) || (Nat.beq k 15 && Nat.beq r3 3))))
  | .putfield k => Nat.beq len 3 && (Nat.beq r3 (am_ft r1 r2) && (Nat.blt r1 13 && (am_hasF0 o k r1 r2 && (match vwCl[r1]? with | some q => !(q.2.1 r2).2.2.2 || (ini && Nat.beq r1 o) | none => false))))
  | .iaload => Nat.beq len 1
  | .baload => Nat.beq len 1
  | .laload => Nat.beq len 1
  | .aaload => Nat.beq len 1
  | .iastore => Nat.beq len 1
  | .bastore => Nat.beq len 1
  | .lastore => Nat.beq len 1
  | .aastore => Nat.beq len 1
  | .arraylength => Nat.beq len 1
  | .newarray a => Nat.beq len 2 && (decide (a = sm_atp r1) && (Nat.beq r1 100 || (Nat.beq r1 101 || Nat.beq r1 105)))
  | .anewarray k => Nat.beq len 3 && ((Nat.beq r1 103 && am_has3 cl_l o k 1) || (Nat.beq r1 104 && am_has3 cl_l o k 7))
  | .multianewarray k n => Nat.beq len 4 && (Nat.beq n 2 && (Nat.beq o 12 && Nat.beq k 26))
  | .new k => (Nat.beq len 3 && (Nat.blt r1 13 && (Nat.beq r2 (am_cn r1) && am_has3 cl_l o k r1))) || ((Nat.beq y 139 && (Nat.beq pc 14 && (Nat.beq k 382 && Nat.beq r1 200))) || (Nat.beq y 140 && (Nat.beq pc 19 && (Nat.beq k 389 && Nat.beq r1 201))))
  | .ireturn => Nat.beq len 1 && (Nat.beq r1 t && (Nat.beq t 1 || (Nat.beq t 5 || (Nat.beq t 6 || Nat.beq t 7))))
  | .lreturn => Nat.beq len 1 && Nat.beq t 2
  | .return_ => Nat.beq len 1 && Nat.beq t 0
  | .invokestatic k => Nat.beq len 3 && ((Nat.beq (am_nth ts 0) 0 && (Nat.beq r1 999 || (am_hasM0 o k r1 && (am_kd r1 0 && am_par r1 r2)))) || (Nat.beq (am_nth ts 0) 3 && am_has2 al_l o k))
  | .invokevirtual k => Nat.beq len 3 && (am_hasM0 o k r1 && (am_kd r1 1 && (am_par r1 (r2 - 1) && (Nat.blt 0 r2 && (am_cls r1 (am_nth ts 2) && ((Nat.beq (am_nth ts 0) 1 && Nat.blt (am_nth ts 2) 13) || (Nat.beq (am_nth ts 0) 5 && Nat.beq (am_nth ts 2) 17)))))))
  | .invokespecial k => Nat.beq len 3 && ((Nat.beq (am_nth ts 0) 4 && am_has2 ol_l o k) || (Nat.beq (am_nth ts 0) 2 && (am_hasM o k r1 && (am_kd r1 2 && (am_par r1 (r2 - 1) && Nat.blt 0 r2)))))
  | .athrow => true
  | _ => false
def am_ck (y o t : Nat) (ini : Bool) (nL : Nat) (b : ByteArray) (r : Nat × am_E) : Bool :=
  decide (decode b r.1 = .ok (r.2.1, r.2.2.1)) && am_chk y o t ini nL r.1 r.2.1 r.2.2.1 r.2.2.2.1 r.2.2.2.2.1 r.2.2.2.2.2.1 r.2.2.2.2.2.2.1 r.2.2.2.2.2.2.2.1
/-- the method's code is the real one, and its own number, class, return are -/
def am_mok (y : Nat) (M : am_M) (q : mi_T) : Prop := M.1 = q.2.2.1 ∧ ∃ o, ow o = q.1.cls ∧ ∀ pc e, am_at M.2.1 pc = some e → am_ck y o (am_tg q.2.2.2.1) (q.2.2.2.2.2 == 2) q.2.2.1 q.2.1 (pc, e) = true
theorem am_in_mem : ∀ (l : List (Nat × am_E)) (pc : Nat) (e : am_E), am_in l pc = some e → (pc, e) ∈ l := by
  intro l
  induction l with
  | nil => intro pc e h; cases h
  | cons q l ih =>
    intro pc e h
    simp only [am_in] at h
    split at h
    · next hb =>
      have := Nat.eq_of_beq_eq_true hb
      cases h
      subst this
      exact List.mem_cons_self
    · exact List.mem_cons_of_mem _ (ih pc e h)
theorem am_at_mem : ∀ (b : am_B) (pc : Nat) (e : am_E), am_at b pc = some e → ∃ c ∈ b, (pc, e) ∈ c.2 := by
  intro b
  induction b with
  | nil => intro pc e h; cases h
  | cons q b ih =>
    intro pc e h
    simp only [am_at] at h
    split at h
    · exact ⟨q, List.mem_cons_self, am_in_mem _ _ _ h⟩
    · obtain ⟨c, h1, h2⟩ := ih pc e h
      exact ⟨c, List.mem_cons_of_mem _ h1, h2⟩
