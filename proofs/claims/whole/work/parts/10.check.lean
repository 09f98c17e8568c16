/-- the facts of a class's tables -/
def mq_fM (own : String) (cl : List vw_C) (TB : List Cond) (sr : mm_N) (P : mm_P) (yy : Nat → MethodName) (e : Nat × Nat × Nat) : Prop := match e.2.1 with
  | 0 => (Cond.methodLink own e.1 (yy e.2.2) ∈ TB ∨ ∃ host : String, (own, e.1, yy e.2.2, host) ∈ sr.2.1) ∧ Cond.static (yy e.2.2) ∈ TB ∧ Cond.initialized (yy e.2.2).cls ∈ TB ∧ (parseMethodDescriptor (yy e.2.2).desc).map (fun d => d.parameters.length) = some (P.2.1 e.2.2).1
  | 1 => Cond.methodLink own e.1 (yy e.2.2) ∈ TB ∧ Cond.instanceMethod (yy e.2.2) ∈ TB ∧ Cond.selects (yy e.2.2).cls (yy e.2.2) (yy e.2.2) ∈ TB ∧ Cond.initialized (yy e.2.2).cls ∈ TB ∧ (P.2.1 e.2.2).1 = ((P.2.1 e.2.2).1 - 1) + 1 ∧ (parseMethodDescriptor (yy e.2.2).desc).map (fun d => d.parameters.length) = some ((P.2.1 e.2.2).1 - 1) ∧ ((∃ q : vw_C, cl[(P.2.1 e.2.2).2.2.1]? = some q ∧ q.1 = (yy e.2.2).cls) ∨ ((P.2.1 e.2.2).2.2.1 = 900 ∧ (yy e.2.2).cls = "java/lang/String"))
  | 2 => (Cond.methodLink own e.1 (yy e.2.2) ∈ TB ∨ ∃ host : String, (own, e.1, yy e.2.2, host) ∈ sr.2.1) ∧ (yy e.2.2).name = "<init>" ∧ Cond.instanceMethod (yy e.2.2) ∈ TB ∧ Cond.initialized (yy e.2.2).cls ∈ TB ∧ (P.2.1 e.2.2).1 = ((P.2.1 e.2.2).1 - 1) + 1 ∧ (P.2.1 e.2.2).2.2.2 = none ∧ (parseMethodDescriptor (yy e.2.2).desc).map (fun d => d.parameters.length) = some ((P.2.1 e.2.2).1 - 1)
  | 4 => Cond.methodLink own e.1 Lib.objectInit ∈ TB ∧ Cond.instanceMethod Lib.objectInit ∈ TB ∧ Cond.code Lib.objectInit ⟨#[0xb1]⟩ 1 none ∈ TB
  | 5 => Cond.methodLink own e.1 arraycopyName ∈ TB ∧ Cond.native arraycopyName ∈ TB ∧ Cond.static arraycopyName ∈ TB ∧ Cond.initialized "java/lang/System" ∈ TB
  | 7 => Cond.methodLink own e.1 Lib.Math.max.name ∈ TB ∧ Cond.static Lib.Math.max.name ∈ TB ∧ Cond.initialized "java/lang/Math" ∈ TB ∧ Cond.code Lib.Math.max.name Lib.Math.max.code 2 (some .int) ∈ TB
  | 8 => Cond.methodLink own e.1 Lib.Math.min.name ∈ TB ∧ Cond.static Lib.Math.min.name ∈ TB ∧ Cond.initialized "java/lang/Math" ∈ TB ∧ Cond.code Lib.Math.min.name Lib.Math.min.code 2 (some .int) ∈ TB
  | 9 => Cond.methodLink own e.1 Lib.Math.abs.name ∈ TB ∧ Cond.static Lib.Math.abs.name ∈ TB ∧ Cond.initialized "java/lang/Math" ∈ TB ∧ Cond.code Lib.Math.abs.name Lib.Math.abs.code 1 (some .int) ∈ TB
  | 10 => Cond.methodLink own e.1 mk_y28 ∈ TB ∧ ∃ (b28 b29 : ByteArray) (i29 ifs : Nat), mk_CK TB b28 b29 i29 ifs
  | 6 => Cond.fieldLink own e.1 "java/lang/String" "COMPACT_STRINGS" "Z" ∈ TB
  | _ => False
def mq_fF (own : String) (cl : List vw_C) (TB : List Cond) (e : Nat × Nat) : Prop := (∃ q : vw_C, cl[e.2 / 100]? = some q ∧ e.2 % 100 < q.2.2 ∧ Cond.fieldLink own e.1 (q.2.1 (e.2 % 100)).1 (q.2.1 (e.2 % 100)).2.1 (q.2.1 (e.2 % 100)).2.2.1 ∈ TB) ∨ (e.2 = 90000 ∧ Cond.fieldLink own e.1 "java/lang/String" "value" "[B" ∈ TB) ∨ (e.2 = 90001 ∧ Cond.fieldLink own e.1 "java/lang/String" "coder" "B" ∈ TB)
def mq_fC (own : String) (cl : List vw_C) (TB : List Cond) (sr : mm_N) (e : Nat × Nat) : Prop := if 1000 ≤ e.2 then (∃ q : vw_C, cl[e.2 - 1000]? = some q ∧ Cond.classLink own e.1 q.1 ∈ TB ∧ q.1 = sr.2.2) else (∃ q : vw_C, cl[e.2]? = some q ∧ Cond.classLink own e.1 q.1 ∈ TB ∧ Cond.instantiable q.1 q.2.2 ∈ TB ∧ Cond.initialized q.1 ∈ TB)
def mq_ok (own nm : String) (cl : List vw_C) (TB : List Cond) (sr : mm_N) (P : mm_P) (yy : Nat → MethodName) (T : mq_T) (fi : Nat → Bool) (aw : ArrayType → Bool) : Prop :=
  (∀ e ∈ T.1, mq_fF own cl TB e) ∧ (∀ e ∈ T.2.1, mq_fM own cl TB sr P yy e) ∧ (∀ e ∈ T.2.2.1, Cond.constant own e.1 (Int32.ofNat e.2) ∈ TB) ∧ (∀ e ∈ T.2.2.2.1, Cond.constantLong own e.1 (Int64.ofNat e.2) ∈ TB) ∧ (∀ e ∈ T.2.2.2.2.1, ∃ (tx : String) (j : Nat), e.2 = 1 + 2 * j ∧ (own, e.1, tx, j) ∈ sr.1) ∧ (∀ e ∈ T.2.2.2.2.2, mq_fC own cl TB sr e) ∧
  (∀ n (q : vw_C), fi n = true → cl[n / 100]? = some q → (q.2.1 (n % 100)).2.2.2 = false ∨ ((q.2.1 (n % 100)).2.2.2 = true ∧ nm = "<init>" ∧ (q.2.1 (n % 100)).1 = own)) ∧ (∀ t, aw t = true → Cond.arrayClass (newarray.typeOf t) ∈ TB)
theorem mq_sound {own nm : String} {cl : List vw_C} {TB : List Cond} {sr : mm_N} {P : mm_P} {yy : Nat → MethodName} {T : mq_T} {fi : Nat → Bool} {aw : ArrayType → Bool} (O : mq_ok own nm cl TB sr P yy T fi aw) {cc : ByteArray} {pc : Nat} {i : Instr} (h : mq_b T fi aw P.2.2.2.2.1 cc pc i = true) : mm_G cc own nm cl TB sr P yy pc i := by
  cases i
  case iconst => exact of_decide_eq_true (p := decode cc pc = .ok (_, 1)) h
  case lconst => exact of_decide_eq_true (p := decode cc pc = .ok (_, 1)) h
  case iload_n => exact of_decide_eq_true (p := decode cc pc = .ok (_, 1)) h
  case lload_n => exact of_decide_eq_true (p := decode cc pc = .ok (_, 1)) h
  case aload_n => exact of_decide_eq_true (p := decode cc pc = .ok (_, 1)) h
  case istore_n => exact of_decide_eq_true (p := decode cc pc = .ok (_, 1)) h
  case lstore_n => exact of_decide_eq_true (p := decode cc pc = .ok (_, 1)) h
  case astore_n => exact of_decide_eq_true (p := decode cc pc = .ok (_, 1)) h
  case iadd => exact of_decide_eq_true (p := decode cc pc = .ok (_, 1)) h
  case isub => exact of_decide_eq_true (p := decode cc pc = .ok (_, 1)) h
  case imul => exact of_decide_eq_true (p := decode cc pc = .ok (_, 1)) h
  case idiv => exact of_decide_eq_true (p := decode cc pc = .ok (_, 1)) h
  case irem => exact of_decide_eq_true (p := decode cc pc = .ok (_, 1)) h
  case iand => exact of_decide_eq_true (p := decode cc pc = .ok (_, 1)) h
  case ior => exact of_decide_eq_true (p := decode cc pc = .ok (_, 1)) h
  case ixor => exact of_decide_eq_true (p := decode cc pc = .ok (_, 1)) h
  case ishl => exact of_decide_eq_true (p := decode cc pc = .ok (_, 1)) h
  case ishr => exact of_decide_eq_true (p := decode cc pc = .ok (_, 1)) h
  case iushr => exact of_decide_eq_true (p := decode cc pc = .ok (_, 1)) h
  case ineg => exact of_decide_eq_true (p := decode cc pc = .ok (_, 1)) h
  case ladd => exact of_decide_eq_true (p := decode cc pc = .ok (_, 1)) h
  case lsub => exact of_decide_eq_true (p := decode cc pc = .ok (_, 1)) h
  case lmul => exact of_decide_eq_true (p := decode cc pc = .ok (_, 1)) h
  case ldiv => exact of_decide_eq_true (p := decode cc pc = .ok (_, 1)) h
  case lrem => exact of_decide_eq_true (p := decode cc pc = .ok (_, 1)) h
  case land => exact of_decide_eq_true (p := decode cc pc = .ok (_, 1)) h
  case lor => exact of_decide_eq_true (p := decode cc pc = .ok (_, 1)) h
  case lshl => exact of_decide_eq_true (p := decode cc pc = .ok (_, 1)) h
  case lshr => exact of_decide_eq_true (p := decode cc pc = .ok (_, 1)) h
  case lushr => exact of_decide_eq_true (p := decode cc pc = .ok (_, 1)) h
  case lcmp => exact of_decide_eq_true (p := decode cc pc = .ok (_, 1)) h
  case i2l => exact of_decide_eq_true (p := decode cc pc = .ok (_, 1)) h
  case l2i => exact of_decide_eq_true (p := decode cc pc = .ok (_, 1)) h
  case i2c => exact of_decide_eq_true (p := decode cc pc = .ok (_, 1)) h
  case i2b => exact of_decide_eq_true (p := decode cc pc = .ok (_, 1)) h
  case dup => exact of_decide_eq_true (p := decode cc pc = .ok (_, 1)) h
  case dup2 => exact of_decide_eq_true (p := decode cc pc = .ok (_, 1)) h
  case pop => exact of_decide_eq_true (p := decode cc pc = .ok (_, 1)) h
  case iaload => exact of_decide_eq_true (p := decode cc pc = .ok (_, 1)) h
  case caload => exact of_decide_eq_true (p := decode cc pc = .ok (_, 1)) h
  case baload => exact of_decide_eq_true (p := decode cc pc = .ok (_, 1)) h
  case laload => exact of_decide_eq_true (p := decode cc pc = .ok (_, 1)) h
  case aaload => exact of_decide_eq_true (p := decode cc pc = .ok (_, 1)) h
  case arraylength => exact of_decide_eq_true (p := decode cc pc = .ok (_, 1)) h
  case iastore => exact of_decide_eq_true (p := decode cc pc = .ok (_, 1)) h
  case castore => exact of_decide_eq_true (p := decode cc pc = .ok (_, 1)) h
  case bastore => exact of_decide_eq_true (p := decode cc pc = .ok (_, 1)) h
  case lastore => exact of_decide_eq_true (p := decode cc pc = .ok (_, 1)) h
  case aastore => exact of_decide_eq_true (p := decode cc pc = .ok (_, 1)) h
  case ireturn => exact of_decide_eq_true (p := decode cc pc = .ok (_, 1)) h
  case lreturn => exact of_decide_eq_true (p := decode cc pc = .ok (_, 1)) h
  case return_ => exact of_decide_eq_true (p := decode cc pc = .ok (_, 1)) h
  case bipush => exact of_decide_eq_true (p := decode cc pc = .ok (_, 2)) h
  case iload => exact of_decide_eq_true (p := decode cc pc = .ok (_, 2)) h
  case lload => exact of_decide_eq_true (p := decode cc pc = .ok (_, 2)) h
  case aload => exact of_decide_eq_true (p := decode cc pc = .ok (_, 2)) h
  case istore => exact of_decide_eq_true (p := decode cc pc = .ok (_, 2)) h
  case lstore => exact of_decide_eq_true (p := decode cc pc = .ok (_, 2)) h
  case astore => exact of_decide_eq_true (p := decode cc pc = .ok (_, 2)) h
  case sipush => exact of_decide_eq_true (p := decode cc pc = .ok (_, 3)) h
  case iinc => exact of_decide_eq_true (p := decode cc pc = .ok (_, 3)) h
  case ldc =>
    unfold mq_b at h
    simp only [] at h
    split at h
    · rename_i ix hd
      exact ⟨ix, hd, O.2.2.1 _ (mq_mem h)⟩
    · cases h
  case ldc_w =>
    unfold mq_b at h
    simp only [] at h
    split at h
    · rename_i ix hd
      exact ⟨ix, hd, O.2.2.1 _ (mq_mem h)⟩
    · cases h
  case ldc2_w =>
    unfold mq_b at h
    simp only [] at h
    split at h
    · rename_i ix hd
      exact ⟨ix, hd, O.2.2.2.1 _ (mq_mem h)⟩
    · cases h
  case goto =>
    unfold mq_b at h
    simp only [] at h
    split at h
    · rename_i off hd
      exact ⟨off, hd, of_decide_eq_true h⟩
    · cases h
  case ifCond =>
    unfold mq_b at h
    simp only [] at h
    split at h
    · rename_i cd' off hd
      simp only [Bool.and_eq_true, decide_eq_true_eq] at h
      obtain ⟨rfl, h2⟩ := h
      exact ⟨off, hd, h2⟩
    · cases h
  case if_icmp =>
    unfold mq_b at h
    simp only [] at h
    split at h
    · rename_i cd' off hd
      simp only [Bool.and_eq_true, decide_eq_true_eq] at h
      obtain ⟨rfl, h2⟩ := h
      exact ⟨off, hd, h2⟩
    · cases h
  case tableswitch =>
    unfold mq_b at h
    simp only [] at h
    split at h
    · rename_i d1 lo1 hi1 offs1 len hd
      simp only [Bool.and_eq_true, decide_eq_true_eq] at h
      obtain ⟨rfl, rfl, h3, h4, h5⟩ := h
      refine ⟨d1, offs1, len, hd, h3, fun j hj => ?_⟩
      have h6 := List.all_eq_true.mp h5 j (List.mem_range.mpr (by omega))
      split at h6
      · rename_i o ho
        exact ⟨o, ho, of_decide_eq_true h6⟩
      · cases h6
    · cases h
  case newarray t =>
    unfold mq_b at h
    simp only [Bool.and_eq_true, decide_eq_true_eq] at h
    exact ⟨h.1, O.2.2.2.2.2.2.2 _ h.2⟩
  case anewarray n =>
    unfold mq_b at h
    simp only [] at h
    split at h
    · rename_i ix hd
      simp only [Bool.and_eq_true, decide_eq_true_eq] at h
      obtain ⟨h1, rfl⟩ := h
      have h2 := O.2.2.2.2.2.1 _ (mq_mem h1)
      unfold mq_fC at h2
      rw [if_pos (by omega)] at h2
      obtain ⟨q, q1, q2, q3⟩ := h2
      rw [Nat.add_sub_cancel_left] at q1
      exact ⟨ix, q, hd, q1, q2, q3⟩
    · cases h
  case new n =>
    unfold mq_b at h
    simp only [] at h
    split at h
    · rename_i ix hd
      simp only [Bool.and_eq_true, decide_eq_true_eq] at h
      obtain ⟨h1, h3⟩ := h
      have h2 := O.2.2.2.2.2.1 _ (mq_mem h1)
      unfold mq_fC at h2
      rw [if_neg (by show ¬ 1000 ≤ n; omega)] at h2
      obtain ⟨q, q1, q2, q3, q4⟩ := h2
      exact ⟨ix, q, hd, q1, q2, q3, q4⟩
    · cases h
  case getfield n =>
    unfold mq_b at h
    simp only [] at h
    split at h
    · rename_i ix hd
      rcases O.1 _ (mq_mem h) with ⟨q, q1, q2, q3⟩ | ⟨q1, q2⟩ | ⟨q1, q2⟩
      · exact Or.inl ⟨ix, q, hd, q1, q2, q3⟩
      · exact Or.inr ⟨ix, hd, Or.inl ⟨q1, q2⟩⟩
      · exact Or.inr ⟨ix, hd, Or.inr ⟨q1, q2⟩⟩
    · cases h
  case putfield n =>
    unfold mq_b at h
    simp only [] at h
    split at h
    · rename_i ix hd
      simp only [Bool.and_eq_true, decide_eq_true_eq] at h
      obtain ⟨h1, h2, h3⟩ := h
      rcases O.1 _ (mq_mem h1) with ⟨q, q1, q2, q3⟩ | ⟨q1, q2⟩ | ⟨q1, q2⟩
      · exact ⟨ix, q, hd, q1, q2, q3, O.2.2.2.2.2.2.1 n q h3 q1⟩
      · have q1' : n = 90000 := q1
        omega
      · have q1' : n = 90001 := q1
        omega
    · cases h
  case fadd =>
    unfold mq_b at h
    simp only [] at h
    split at h
    · rename_i ix hd
      exact ⟨ix, hd, O.2.1 _ (mq_mem h)⟩
    · cases h
  case fsub =>
    unfold mq_b at h
    simp only [] at h
    split at h
    · rename_i ix hd
      exact ⟨ix, hd, O.2.1 _ (mq_mem h)⟩
    · cases h
  case f2i =>
    unfold mq_b at h
    simp only [] at h
    split at h
    · rename_i ix hd
      exact ⟨ix, hd, O.2.1 _ (mq_mem h)⟩
    · cases h
  case f2l =>
    unfold mq_b at h
    simp only [] at h
    split at h
    · rename_i ix hd
      exact ⟨ix, hd, O.2.1 _ (mq_mem h)⟩
    · cases h
  case f2d =>
    unfold mq_b at h
    simp only [] at h
    split at h
    · rename_i ix hd
      exact ⟨ix, hd, O.2.1 _ (mq_mem h)⟩
    · cases h
  case d2f =>
    unfold mq_b at h
    simp only [] at h
    split at h
    · rename_i ix hd
      exact ⟨ix, hd, O.2.1 _ (mq_mem h)⟩
    · cases h
  case fload n =>
    unfold mq_b at h
    simp only [] at h
    split at h
    · rename_i ix hd
      obtain ⟨tx, j, h1, h2⟩ := O.2.2.2.2.1 _ (mq_mem h)
      exact ⟨ix, tx, j, h1, hd, h2⟩
    · cases h
  case getstatic n =>
    unfold mq_b at h
    simp only [] at h
    split at h
    · rename_i ix hd
      simp only [Bool.and_eq_true, decide_eq_true_eq] at h
      exact ⟨h.2, ix, hd, O.2.1 _ (mq_mem h.1)⟩
    · cases h
  case invokestatic k =>
    unfold mq_b at h
    simp only [] at h
    split at h
    · rename_i ix hd
      exact ⟨ix, hd, O.2.1 _ (mq_mem h)⟩
    · cases h
  case invokevirtual k =>
    unfold mq_b at h
    simp only [] at h
    split at h
    · rename_i ix hd
      obtain ⟨q1, q2, q3, q4, q5, q6, q7⟩ := O.2.1 _ (mq_mem h)
      exact ⟨ix, _, hd, q1, q2, q3, q4, q5, q6, q7⟩
    · cases h
  case invokespecial k =>
    unfold mq_b at h
    simp only [] at h
    split at h
    · rename_i ix hd
      obtain ⟨q1, q2, q3, q4, q5, q6, q7⟩ := O.2.1 _ (mq_mem h)
      exact ⟨ix, _, hd, q1, q2, q3, q4, q5, q6, q7⟩
    · cases h
  case nop => trivial
  case fmul => trivial
  case fdiv => trivial
  all_goals cases h
