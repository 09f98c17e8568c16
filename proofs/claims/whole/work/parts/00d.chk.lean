/-! MINI 10: a program that decides whether the small machine's instructions are the machine's. The tables of a class: fields (entry, 100 * class + place), methods (entry, kind, number), ints, longs, literals, classes -/
def mq_T : Type := List (Nat × Nat) × List (Nat × Nat × Nat) × List (Nat × Nat) × List (Nat × Nat) × List (Nat × Nat) × List (Nat × Nat)
def mq_has {α : Type} [BEq α] (l : List α) (x : α) : Bool := l.any (fun y => y == x)
theorem mq_mem {α : Type} [BEq α] [LawfulBEq α] {l : List α} {x : α} (h : mq_has l x = true) : x ∈ l := by
  unfold mq_has at h
  obtain ⟨y, hy, he⟩ := List.any_eq_true.mp h
  rw [← eq_of_beq he]
  exact hy
def mq_b (T : mq_T) (fi : Nat → Bool) (aw : ArrayType → Bool) (ra : Nat) (cc : ByteArray) (pc : Nat) (i : Instr) : Bool := match i with
  | .iconst k => decide (decode cc pc = .ok (.iconst k, 1))
  | .lconst k => decide (decode cc pc = .ok (.lconst k, 1))
  | .iload_n k => decide (decode cc pc = .ok (.iload_n k, 1))
  | .lload_n k => decide (decode cc pc = .ok (.lload_n k, 1))
  | .aload_n k => decide (decode cc pc = .ok (.aload_n k, 1))
  | .istore_n k => decide (decode cc pc = .ok (.istore_n k, 1))
  | .lstore_n k => decide (decode cc pc = .ok (.lstore_n k, 1))
  | .astore_n k => decide (decode cc pc = .ok (.astore_n k, 1))
  | .iadd => decide (decode cc pc = .ok (.iadd, 1))
  | .isub => decide (decode cc pc = .ok (.isub, 1))
  | .imul => decide (decode cc pc = .ok (.imul, 1))
  | .idiv => decide (decode cc pc = .ok (.idiv, 1))
  | .irem => decide (decode cc pc = .ok (.irem, 1))
  | .iand => decide (decode cc pc = .ok (.iand, 1))
  | .ior => decide (decode cc pc = .ok (.ior, 1))
  | .ixor => decide (decode cc pc = .ok (.ixor, 1))
  | .ishl => decide (decode cc pc = .ok (.ishl, 1))
  | .ishr => decide (decode cc pc = .ok (.ishr, 1))
  | .iushr => decide (decode cc pc = .ok (.iushr, 1))
  | .ineg => decide (decode cc pc = .ok (.ineg, 1))
  | .ladd => decide (decode cc pc = .ok (.ladd, 1))
  | .lsub => decide (decode cc pc = .ok (.lsub, 1))
  | .lmul => decide (decode cc pc = .ok (.lmul, 1))
  | .ldiv => decide (decode cc pc = .ok (.ldiv, 1))
  | .lrem => decide (decode cc pc = .ok (.lrem, 1))
  | .land => decide (decode cc pc = .ok (.land, 1))
  | .lor => decide (decode cc pc = .ok (.lor, 1))
  | .lshl => decide (decode cc pc = .ok (.lshl, 1))
  | .lshr => decide (decode cc pc = .ok (.lshr, 1))
  | .lushr => decide (decode cc pc = .ok (.lushr, 1))
  | .lcmp => decide (decode cc pc = .ok (.lcmp, 1))
  | .i2l => decide (decode cc pc = .ok (.i2l, 1))
  | .l2i => decide (decode cc pc = .ok (.l2i, 1))
  | .i2c => decide (decode cc pc = .ok (.i2c, 1))
  | .i2b => decide (decode cc pc = .ok (.i2b, 1))
  | .dup => decide (decode cc pc = .ok (.dup, 1))
  | .dup2 => decide (decode cc pc = .ok (.dup2, 1))
  | .pop => decide (decode cc pc = .ok (.pop, 1))
  | .iaload => decide (decode cc pc = .ok (.iaload, 1))
  | .caload => decide (decode cc pc = .ok (.caload, 1))
  | .baload => decide (decode cc pc = .ok (.baload, 1))
  | .laload => decide (decode cc pc = .ok (.laload, 1))
  | .aaload => decide (decode cc pc = .ok (.aaload, 1))
  | .arraylength => decide (decode cc pc = .ok (.arraylength, 1))
  | .iastore => decide (decode cc pc = .ok (.iastore, 1))
  | .castore => decide (decode cc pc = .ok (.castore, 1))
  | .bastore => decide (decode cc pc = .ok (.bastore, 1))
  | .lastore => decide (decode cc pc = .ok (.lastore, 1))
  | .aastore => decide (decode cc pc = .ok (.aastore, 1))
  | .ireturn => decide (decode cc pc = .ok (.ireturn, 1))
  | .lreturn => decide (decode cc pc = .ok (.lreturn, 1))
  | .return_ => decide (decode cc pc = .ok (.return_, 1))
  | .bipush k => decide (decode cc pc = .ok (.bipush k, 2))
  | .iload k => decide (decode cc pc = .ok (.iload k, 2))
  | .lload k => decide (decode cc pc = .ok (.lload k, 2))
  | .aload k => decide (decode cc pc = .ok (.aload k, 2))
  | .istore k => decide (decode cc pc = .ok (.istore k, 2))
  | .lstore k => decide (decode cc pc = .ok (.lstore k, 2))
  | .astore k => decide (decode cc pc = .ok (.astore k, 2))
  | .sipush k => decide (decode cc pc = .ok (.sipush k, 3))
  | .iinc k n => decide (decode cc pc = .ok (.iinc k n, 3))
  | .ldc k => (match decode cc pc with
    | .ok (.ldc ix, 2) => mq_has T.2.2.1 (ix, k)
    | _ => false)
  | .ldc_w k => (match decode cc pc with
    | .ok (.ldc_w ix, 3) => mq_has T.2.2.1 (ix, k)
    | _ => false)
  | .ldc2_w k => (match decode cc pc with
    | .ok (.ldc2_w ix, 3) => mq_has T.2.2.2.1 (ix, k)
    | _ => false)
  | .goto t => (match decode cc pc with
    | .ok (.goto off, 3) => decide ((pc : Int) + off = (t.toNat : Int))
    | _ => false)
  | .ifCond cd t => (match decode cc pc with
    | .ok (.ifCond cd' off, 3) => decide (cd' = cd) && decide ((pc : Int) + off = (t.toNat : Int))
    | _ => false)
  | .if_icmp cd t => (match decode cc pc with
    | .ok (.if_icmp cd' off, 3) => decide (cd' = cd) && decide ((pc : Int) + off = (t.toNat : Int))
    | _ => false)
  | .tableswitch d lo hi offs => (match decode cc pc with
    | .ok (.tableswitch d1 lo1 hi1 offs1, _) => decide (lo1 = lo) && (decide (hi1 = hi) && (decide ((pc : Int) + d1 = (d.toNat : Int)) && (decide (hi - lo < 1000) && (List.range (hi - lo + 1).toNat).all (fun j => match offs1[j]? with
      | some o => decide ((pc : Int) + o = ((offs.getD j d).toNat : Int))
      | none => false))))
    | _ => false)
  | .newarray t => decide (decode cc pc = .ok (.newarray t, 2)) && aw t
  | .anewarray n => (match decode cc pc with
    | .ok (.anewarray ix, 3) => mq_has T.2.2.2.2.2 (ix, 1000 + n) && decide (n = ra)
    | _ => false)
  | .new n => (match decode cc pc with
    | .ok (.new ix, 3) => mq_has T.2.2.2.2.2 (ix, n) && decide (n < 900)
    | _ => false)
  | .getfield n => (match decode cc pc with
    | .ok (.getfield ix, 3) => mq_has T.1 (ix, n)
    | _ => false)
  | .putfield n => (match decode cc pc with
    | .ok (.putfield ix, 3) => mq_has T.1 (ix, n) && (decide (n < 90000) && fi n)
    | _ => false)
  | .fadd => (match decode cc pc with
    | .ok (.invokespecial ix, 3) => mq_has T.2.1 (ix, 4, 0)
    | _ => false)
  | .fsub => (match decode cc pc with
    | .ok (.invokestatic ix, 3) => mq_has T.2.1 (ix, 5, 0)
    | _ => false)
  | .f2i => (match decode cc pc with
    | .ok (.invokestatic ix, 3) => mq_has T.2.1 (ix, 7, 0)
    | _ => false)
  | .f2l => (match decode cc pc with
    | .ok (.invokestatic ix, 3) => mq_has T.2.1 (ix, 8, 0)
    | _ => false)
  | .f2d => (match decode cc pc with
    | .ok (.invokestatic ix, 3) => mq_has T.2.1 (ix, 9, 0)
    | _ => false)
  | .d2f => (match decode cc pc with
    | .ok (.invokestatic ix, 3) => mq_has T.2.1 (ix, 10, 0)
    | _ => false)
  | .fload n => (match decode cc pc with
    | .ok (.ldc ix, 2) => mq_has T.2.2.2.2.1 (ix, n)
    | _ => false)
  | .getstatic n => (match decode cc pc with
    | .ok (.getstatic ix, 3) => mq_has T.2.1 (ix, 6, n) && decide (n = 1)
    | _ => false)
  | .invokestatic k => (match decode cc pc with
    | .ok (.invokestatic ix, 3) => mq_has T.2.1 (ix, 0, k)
    | _ => false)
  | .invokevirtual k => (match decode cc pc with
    | .ok (.invokevirtual ix, 3) => mq_has T.2.1 (ix, 1, k)
    | _ => false)
  | .invokespecial k => (match decode cc pc with
    | .ok (.invokespecial ix, 3) => mq_has T.2.1 (ix, 2, k)
    | _ => false)
  | .nop => true
  | .fmul => true
  | .fdiv => true
  | _ => false
