/-! MINI 7: when an instruction of the small machine is the machine's own; one step -/
section MM7

theorem mm_sI_m {h h' : mm_H} {a t : Nat} {i x : Int32} (hs : mm_sI h a t i x = some h') : h'.1 = h.1 ∧ h'.2.1 = h.2.1 := by
  unfold mm_sI at hs
  split at hs
  · split at hs
    · split at hs
      · cases hs
      · cases hs; exact ⟨rfl, rfl⟩
    · cases hs
  · cases hs
theorem mm_sL_m {h h' : mm_H} {a : Nat} {i : Int32} {x : Int64} (hs : mm_sL h a i x = some h') : h'.1 = h.1 ∧ h'.2.1 = h.2.1 := by
  unfold mm_sL at hs
  split at hs
  · split at hs
    · cases hs
    · cases hs; exact ⟨rfl, rfl⟩
  · cases hs
theorem mm_sF_m {P : mm_P} {h h' : mm_H} {a c k : Nat} {v : Value} (hs : mm_sF P h a c k v = some h') : h'.1 = h.1 ∧ h'.2.1 = h.2.1 := by
  unfold mm_sF at hs
  split at hs
  · split at hs
    · cases hs; exact ⟨rfl, rfl⟩
    · cases hs
  · cases hs
theorem mm_sA_m {ra : Nat} {h h' : mm_H} {a : Nat} {i : Int32} {x : Nat} (hs : mm_sA ra h a i x = some h') : h'.1 = h.1 ∧ h'.2.1 = h.2.1 := by
  unfold mm_sA at hs
  split at hs
  · split at hs
    · split at hs
      · cases hs
      · cases hs; exact ⟨rfl, rfl⟩
    · cases hs
  · cases hs
theorem mm_cpy_m {h h' : mm_H} {b a : Nat} {sp dp n : Int32} (hs : mm_cpy h b sp a dp n = some h') : h'.1 = h.1 ∧ h'.2.1 = h.2.1 := by
  unfold mm_cpy at hs
  split at hs
  · split at hs
    · cases hs; exact ⟨rfl, rfl⟩
    · cases hs
  · cases hs
theorem mm_call_n {P : mm_P} {k : Nat} {st : List Value} {x : Nat × mm_V × List Value × mm_H} (hs : mm_call P k st = some (.inl x)) : False := by
  unfold mm_call at hs
  split at hs <;> cases hs
theorem mm_step_m {P : mm_P} {mt : Nat} {i : Instr} {pc pc' : Nat} {L L' : mm_V} {st st' : List Value} {h h' : mm_H} (hs : mm_step P mt i pc L st h = some (.inl (pc', L', st', h'))) : h.1 ≤ h'.1 ∧ h.2.1 ≤ h'.2.1 := by
  cases i
  case iconst => cases hs; exact ⟨Nat.le_refl _, Nat.le_refl _⟩
  case bipush => cases hs; exact ⟨Nat.le_refl _, Nat.le_refl _⟩
  case sipush => cases hs; exact ⟨Nat.le_refl _, Nat.le_refl _⟩
  case lconst => cases hs; exact ⟨Nat.le_refl _, Nat.le_refl _⟩
  case ldc => cases hs; exact ⟨Nat.le_refl _, Nat.le_refl _⟩
  case ldc_w => cases hs; exact ⟨Nat.le_refl _, Nat.le_refl _⟩
  case ldc2_w => cases hs; exact ⟨Nat.le_refl _, Nat.le_refl _⟩
  case fload => cases hs; exact ⟨Nat.le_refl _, Nat.le_refl _⟩
  case fstore => cases hs; exact ⟨Nat.le_refl _, Nat.le_refl _⟩
  case goto => cases hs; exact ⟨Nat.le_refl _, Nat.le_refl _⟩
  case getstatic => cases hs; exact ⟨Nat.le_refl _, Nat.le_refl _⟩
  case new => cases hs; exact ⟨Nat.le_succ _, Nat.le_add_right _ _⟩
  case iload_n => obtain ⟨v, -, hk⟩ := mm_k3_inv hs; cases v <;> first | (cases hk; done) | (cases hk; exact ⟨Nat.le_refl _, Nat.le_refl _⟩)
  case iload => obtain ⟨v, -, hk⟩ := mm_k3_inv hs; cases v <;> first | (cases hk; done) | (cases hk; exact ⟨Nat.le_refl _, Nat.le_refl _⟩)
  case lload_n => obtain ⟨v, -, hk⟩ := mm_k3_inv hs; cases v <;> first | (cases hk; done) | (cases hk; exact ⟨Nat.le_refl _, Nat.le_refl _⟩)
  case lload => obtain ⟨v, -, hk⟩ := mm_k3_inv hs; cases v <;> first | (cases hk; done) | (cases hk; exact ⟨Nat.le_refl _, Nat.le_refl _⟩)
  case aload_n => obtain ⟨v, -, hk⟩ := mm_k3_inv hs; cases v <;> first | (cases hk; done) | (cases hk; exact ⟨Nat.le_refl _, Nat.le_refl _⟩)
  case aload => obtain ⟨v, -, hk⟩ := mm_k3_inv hs; cases v <;> first | (cases hk; done) | (cases hk; exact ⟨Nat.le_refl _, Nat.le_refl _⟩)
  case istore_n => obtain ⟨x, r, -, hk⟩ := mm_i_inv hs; obtain ⟨l1, -, hk⟩ := mm_k0_inv hk; cases hk; exact ⟨Nat.le_refl _, Nat.le_refl _⟩
  case istore => obtain ⟨x, r, -, hk⟩ := mm_i_inv hs; obtain ⟨l1, -, hk⟩ := mm_k0_inv hk; cases hk; exact ⟨Nat.le_refl _, Nat.le_refl _⟩
  case astore_n => obtain ⟨x, r, -, hk⟩ := mm_r_inv hs; obtain ⟨l1, -, hk⟩ := mm_k0_inv hk; cases hk; exact ⟨Nat.le_refl _, Nat.le_refl _⟩
  case astore => obtain ⟨x, r, -, hk⟩ := mm_r_inv hs; obtain ⟨l1, -, hk⟩ := mm_k0_inv hk; cases hk; exact ⟨Nat.le_refl _, Nat.le_refl _⟩
  case lstore_n => obtain ⟨x, r, -, hk⟩ := mm_l_inv hs; obtain ⟨l1, -, hk⟩ := mm_k0_inv hk; cases hk; exact ⟨Nat.le_refl _, Nat.le_refl _⟩
  case lstore => obtain ⟨x, r, -, hk⟩ := mm_l_inv hs; obtain ⟨l1, -, hk⟩ := mm_k0_inv hk; cases hk; exact ⟨Nat.le_refl _, Nat.le_refl _⟩
  case iinc => obtain ⟨v, -, hk⟩ := mm_k3_inv hs; cases v <;> first | (cases hk; done) | (obtain ⟨l1, -, hk⟩ := mm_k0_inv hk; cases hk; exact ⟨Nat.le_refl _, Nat.le_refl _⟩)
  case iadd => obtain ⟨x, y, r, -, hk⟩ := mm_ii_inv hs; cases hk; exact ⟨Nat.le_refl _, Nat.le_refl _⟩
  case isub => obtain ⟨x, y, r, -, hk⟩ := mm_ii_inv hs; cases hk; exact ⟨Nat.le_refl _, Nat.le_refl _⟩
  case imul => obtain ⟨x, y, r, -, hk⟩ := mm_ii_inv hs; cases hk; exact ⟨Nat.le_refl _, Nat.le_refl _⟩
  case iand => obtain ⟨x, y, r, -, hk⟩ := mm_ii_inv hs; cases hk; exact ⟨Nat.le_refl _, Nat.le_refl _⟩
  case ior => obtain ⟨x, y, r, -, hk⟩ := mm_ii_inv hs; cases hk; exact ⟨Nat.le_refl _, Nat.le_refl _⟩
  case ixor => obtain ⟨x, y, r, -, hk⟩ := mm_ii_inv hs; cases hk; exact ⟨Nat.le_refl _, Nat.le_refl _⟩
  case ishl => obtain ⟨x, y, r, -, hk⟩ := mm_ii_inv hs; cases hk; exact ⟨Nat.le_refl _, Nat.le_refl _⟩
  case ishr => obtain ⟨x, y, r, -, hk⟩ := mm_ii_inv hs; cases hk; exact ⟨Nat.le_refl _, Nat.le_refl _⟩
  case iushr => obtain ⟨x, y, r, -, hk⟩ := mm_ii_inv hs; cases hk; exact ⟨Nat.le_refl _, Nat.le_refl _⟩
  case ladd => obtain ⟨x, y, r, -, hk⟩ := mm_ll_inv hs; cases hk; exact ⟨Nat.le_refl _, Nat.le_refl _⟩
  case lsub => obtain ⟨x, y, r, -, hk⟩ := mm_ll_inv hs; cases hk; exact ⟨Nat.le_refl _, Nat.le_refl _⟩
  case lmul => obtain ⟨x, y, r, -, hk⟩ := mm_ll_inv hs; cases hk; exact ⟨Nat.le_refl _, Nat.le_refl _⟩
  case land => obtain ⟨x, y, r, -, hk⟩ := mm_ll_inv hs; cases hk; exact ⟨Nat.le_refl _, Nat.le_refl _⟩
  case lor => obtain ⟨x, y, r, -, hk⟩ := mm_ll_inv hs; cases hk; exact ⟨Nat.le_refl _, Nat.le_refl _⟩
  case lcmp => obtain ⟨x, y, r, -, hk⟩ := mm_ll_inv hs; cases hk; exact ⟨Nat.le_refl _, Nat.le_refl _⟩
  case idiv => obtain ⟨x, y, r, -, hk⟩ := mm_ii_inv hs; split at hk <;> cases hk; exact ⟨Nat.le_refl _, Nat.le_refl _⟩
  case irem => obtain ⟨x, y, r, -, hk⟩ := mm_ii_inv hs; split at hk <;> cases hk; exact ⟨Nat.le_refl _, Nat.le_refl _⟩
  case ldiv => obtain ⟨x, y, r, -, hk⟩ := mm_ll_inv hs; split at hk <;> cases hk; exact ⟨Nat.le_refl _, Nat.le_refl _⟩
  case lrem => obtain ⟨x, y, r, -, hk⟩ := mm_ll_inv hs; split at hk <;> cases hk; exact ⟨Nat.le_refl _, Nat.le_refl _⟩
  case lshl => obtain ⟨x, y, r, -, hk⟩ := mm_li_inv hs; cases hk; exact ⟨Nat.le_refl _, Nat.le_refl _⟩
  case lshr => obtain ⟨x, y, r, -, hk⟩ := mm_li_inv hs; cases hk; exact ⟨Nat.le_refl _, Nat.le_refl _⟩
  case lushr => obtain ⟨x, y, r, -, hk⟩ := mm_li_inv hs; cases hk; exact ⟨Nat.le_refl _, Nat.le_refl _⟩
  case ineg => obtain ⟨x, r, -, hk⟩ := mm_i_inv hs; cases hk; exact ⟨Nat.le_refl _, Nat.le_refl _⟩
  case i2l => obtain ⟨x, r, -, hk⟩ := mm_i_inv hs; cases hk; exact ⟨Nat.le_refl _, Nat.le_refl _⟩
  case l2i => obtain ⟨x, r, -, hk⟩ := mm_l_inv hs; cases hk; exact ⟨Nat.le_refl _, Nat.le_refl _⟩
  case i2c => obtain ⟨x, r, -, hk⟩ := mm_i_inv hs; cases hk; exact ⟨Nat.le_refl _, Nat.le_refl _⟩
  case i2b => obtain ⟨x, r, -, hk⟩ := mm_i_inv hs; cases hk; exact ⟨Nat.le_refl _, Nat.le_refl _⟩
  case tableswitch => obtain ⟨x, r, -, hk⟩ := mm_i_inv hs; cases hk; exact ⟨Nat.le_refl _, Nat.le_refl _⟩
  case dup => obtain ⟨x, r, -, -, hk⟩ := mm_v_inv hs; cases hk; exact ⟨Nat.le_refl _, Nat.le_refl _⟩
  case pop => obtain ⟨x, r, -, -, hk⟩ := mm_v_inv hs; cases hk; exact ⟨Nat.le_refl _, Nat.le_refl _⟩
  case dup2 => obtain ⟨x, y, r, -, -, -, hk⟩ := mm_vv_inv hs; cases hk; exact ⟨Nat.le_refl _, Nat.le_refl _⟩
  case ifCond => obtain ⟨x, r, -, hk⟩ := mm_i_inv hs; split at hk <;> cases hk <;> exact ⟨Nat.le_refl _, Nat.le_refl _⟩
  case if_icmp => obtain ⟨x, y, r, -, hk⟩ := mm_ii_inv hs; split at hk <;> cases hk <;> exact ⟨Nat.le_refl _, Nat.le_refl _⟩
  case iaload => obtain ⟨a, j, r, -, hk⟩ := mm_ri_inv hs; obtain ⟨x, -, hk⟩ := mm_k1_inv hk; cases hk; exact ⟨Nat.le_refl _, Nat.le_refl _⟩
  case caload => obtain ⟨a, j, r, -, hk⟩ := mm_ri_inv hs; obtain ⟨x, -, hk⟩ := mm_k1_inv hk; cases hk; exact ⟨Nat.le_refl _, Nat.le_refl _⟩
  case baload => obtain ⟨a, j, r, -, hk⟩ := mm_ri_inv hs; obtain ⟨x, -, hk⟩ := mm_k1_inv hk; cases hk; exact ⟨Nat.le_refl _, Nat.le_refl _⟩
  case laload => obtain ⟨a, j, r, -, hk⟩ := mm_ri_inv hs; obtain ⟨x, -, hk⟩ := mm_k2_inv hk; cases hk; exact ⟨Nat.le_refl _, Nat.le_refl _⟩
  case aaload => obtain ⟨a, j, r, -, hk⟩ := mm_ri_inv hs; obtain ⟨v, -, hk⟩ := mm_k3_inv hk; cases v <;> first | (cases hk; done) | (cases hk; exact ⟨Nat.le_refl _, Nat.le_refl _⟩)
  case arraylength => obtain ⟨a, r, -, hk⟩ := mm_r_inv hs; obtain ⟨x, -, hk⟩ := mm_k1_inv hk; cases hk; exact ⟨Nat.le_refl _, Nat.le_refl _⟩
  case iastore => obtain ⟨a, j, x, r, -, hk⟩ := mm_rii_inv hs; obtain ⟨h1, hx, hk⟩ := mm_k4_inv hk; have hm := mm_sI_m hx; cases hk; exact ⟨Nat.le_of_eq hm.1.symm, Nat.le_of_eq hm.2.symm⟩
  case castore => obtain ⟨a, j, x, r, -, hk⟩ := mm_rii_inv hs; obtain ⟨h1, hx, hk⟩ := mm_k4_inv hk; have hm := mm_sI_m hx; cases hk; exact ⟨Nat.le_of_eq hm.1.symm, Nat.le_of_eq hm.2.symm⟩
  case bastore => obtain ⟨a, j, x, r, -, hk⟩ := mm_rii_inv hs; obtain ⟨h1, hx, hk⟩ := mm_k4_inv hk; have hm := mm_sI_m hx; cases hk; exact ⟨Nat.le_of_eq hm.1.symm, Nat.le_of_eq hm.2.symm⟩
  case lastore => obtain ⟨a, j, x, r, -, hk⟩ := mm_ril_inv hs; obtain ⟨h1, hx, hk⟩ := mm_k4_inv hk; have hm := mm_sL_m hx; cases hk; exact ⟨Nat.le_of_eq hm.1.symm, Nat.le_of_eq hm.2.symm⟩
  case aastore => obtain ⟨a, j, x, r, -, hk⟩ := mm_rir_inv hs; obtain ⟨h1, hx, hk⟩ := mm_k4_inv hk; have hm := mm_sA_m hx; cases hk; exact ⟨Nat.le_of_eq hm.1.symm, Nat.le_of_eq hm.2.symm⟩
  case newarray =>
    rename_i t
    obtain ⟨n, r, -, hk⟩ := mm_i_inv hs
    split at hk
    · cases hk
    · cases t <;> first | (cases hk; done) | (cases hk; exact ⟨Nat.le_succ _, Nat.le_add_right _ _⟩)
  case anewarray => obtain ⟨n, r, -, hk⟩ := mm_i_inv hs; split at hk <;> cases hk; exact ⟨Nat.le_succ _, Nat.le_add_right _ _⟩
  case getfield => obtain ⟨a, r, -, hk⟩ := mm_r_inv hs; obtain ⟨x, -, hk⟩ := mm_k3_inv hk; cases hk; exact ⟨Nat.le_refl _, Nat.le_refl _⟩
  case putfield => obtain ⟨a, x, r, -, hk⟩ := mm_rv_inv hs; obtain ⟨h1, hx, hk⟩ := mm_k4_inv hk; have hm := mm_sF_m hx; cases hk; exact ⟨Nat.le_of_eq hm.1.symm, Nat.le_of_eq hm.2.symm⟩
  case fadd => obtain ⟨a, r, -, hk⟩ := mm_r_inv hs; split at hk <;> cases hk; exact ⟨Nat.le_refl _, Nat.le_refl _⟩
  case fsub =>
    obtain ⟨b, sp, a, dp, n, r, -, hk⟩ := mm_cp_inv hs
    split at hk
    · obtain ⟨h1, hx, hk⟩ := mm_k4_inv hk
      have hm := mm_cpy_m hx
      cases hk
      exact ⟨Nat.le_of_eq hm.1.symm, Nat.le_of_eq hm.2.symm⟩
    · cases hk
  case f2i => obtain ⟨x, y, r, -, hk⟩ := mm_ii_inv hs; split at hk <;> cases hk; exact ⟨Nat.le_refl _, Nat.le_refl _⟩
  case f2l => obtain ⟨x, y, r, -, hk⟩ := mm_ii_inv hs; split at hk <;> cases hk; exact ⟨Nat.le_refl _, Nat.le_refl _⟩
  case f2d => obtain ⟨x, r, -, hk⟩ := mm_i_inv hs; split at hk <;> cases hk; exact ⟨Nat.le_refl _, Nat.le_refl _⟩
  case d2f => obtain ⟨x, y, r, -, hk⟩ := mm_ii_inv hs; split at hk <;> cases hk; exact ⟨Nat.le_refl _, Nat.le_refl _⟩
  case fmul =>
    unfold mm_step at hs
    simp only [] at hs
    split at hs
    · split at hs
      · rename_i hq
        cases hs
        exact hq
      · cases hs
    · cases hs
  case invokestatic => exact absurd hs (fun q => mm_call_n q)
  case invokespecial =>
    unfold mm_step at hs
    simp only [] at hs
    split at hs
    · exact absurd hs (fun q => mm_call_n q)
    · cases hs
  case invokevirtual =>
    unfold mm_step at hs
    simp only [] at hs
    split at hs
    · exact absurd hs (fun q => mm_call_n q)
    · cases hs
  case ireturn =>
    unfold mm_step at hs
    simp only [] at hs
    split at hs
    · split at hs <;> cases hs
    · cases hs
  case lreturn =>
    unfold mm_step at hs
    simp only [] at hs
    split at hs
    · split at hs <;> cases hs
    · cases hs
  case return_ => unfold mm_step at hs; simp only [] at hs; split at hs <;> cases hs
  all_goals cases hs
theorem mm_step_c {P : mm_P} {mt : Nat} {i : Instr} {pc : Nat} {L : mm_V} {st : List Value} {h : mm_H} {k : Nat} {as rest : List Value} (hs : mm_step P mt i pc L st h = some (.inr (.inl (k, as, rest)))) : ((i = .invokestatic k) ∨ (i = .invokespecial k ∧ mm_recv P h k st = true) ∨ (i = .invokevirtual k ∧ mm_recv P h k st = true)) ∧ mm_call P k st = some (.inr (.inl (k, as, rest))) := by
  cases i
  case iconst => cases hs
  case bipush => cases hs
  case sipush => cases hs
  case lconst => cases hs
  case ldc => cases hs
  case ldc_w => cases hs
  case ldc2_w => cases hs
  case fload => cases hs
  case fstore => cases hs
  case goto => cases hs
  case getstatic => cases hs
  case new => cases hs
  case iload_n => obtain ⟨v, -, hk⟩ := mm_k3_inv hs; cases v <;> cases hk
  case iload => obtain ⟨v, -, hk⟩ := mm_k3_inv hs; cases v <;> cases hk
  case lload_n => obtain ⟨v, -, hk⟩ := mm_k3_inv hs; cases v <;> cases hk
  case lload => obtain ⟨v, -, hk⟩ := mm_k3_inv hs; cases v <;> cases hk
  case aload_n => obtain ⟨v, -, hk⟩ := mm_k3_inv hs; cases v <;> cases hk
  case aload => obtain ⟨v, -, hk⟩ := mm_k3_inv hs; cases v <;> cases hk
  case istore_n => obtain ⟨x, r, -, hk⟩ := mm_i_inv hs; obtain ⟨l1, -, hk⟩ := mm_k0_inv hk; cases hk
  case istore => obtain ⟨x, r, -, hk⟩ := mm_i_inv hs; obtain ⟨l1, -, hk⟩ := mm_k0_inv hk; cases hk
  case astore_n => obtain ⟨x, r, -, hk⟩ := mm_r_inv hs; obtain ⟨l1, -, hk⟩ := mm_k0_inv hk; cases hk
  case astore => obtain ⟨x, r, -, hk⟩ := mm_r_inv hs; obtain ⟨l1, -, hk⟩ := mm_k0_inv hk; cases hk
  case lstore_n => obtain ⟨x, r, -, hk⟩ := mm_l_inv hs; obtain ⟨l1, -, hk⟩ := mm_k0_inv hk; cases hk
  case lstore => obtain ⟨x, r, -, hk⟩ := mm_l_inv hs; obtain ⟨l1, -, hk⟩ := mm_k0_inv hk; cases hk
  case iinc => obtain ⟨v, -, hk⟩ := mm_k3_inv hs; cases v <;> first | (cases hk; done) | (obtain ⟨l1, -, hk⟩ := mm_k0_inv hk; cases hk)
  case iadd => obtain ⟨x, y, r, -, hk⟩ := mm_ii_inv hs; cases hk
  case isub => obtain ⟨x, y, r, -, hk⟩ := mm_ii_inv hs; cases hk
  case imul => obtain ⟨x, y, r, -, hk⟩ := mm_ii_inv hs; cases hk
  case iand => obtain ⟨x, y, r, -, hk⟩ := mm_ii_inv hs; cases hk
  case ior => obtain ⟨x, y, r, -, hk⟩ := mm_ii_inv hs; cases hk
  case ixor => obtain ⟨x, y, r, -, hk⟩ := mm_ii_inv hs; cases hk
  case ishl => obtain ⟨x, y, r, -, hk⟩ := mm_ii_inv hs; cases hk
  case ishr => obtain ⟨x, y, r, -, hk⟩ := mm_ii_inv hs; cases hk
  case iushr => obtain ⟨x, y, r, -, hk⟩ := mm_ii_inv hs; cases hk
  case ladd => obtain ⟨x, y, r, -, hk⟩ := mm_ll_inv hs; cases hk
  case lsub => obtain ⟨x, y, r, -, hk⟩ := mm_ll_inv hs; cases hk
  case lmul => obtain ⟨x, y, r, -, hk⟩ := mm_ll_inv hs; cases hk
  case land => obtain ⟨x, y, r, -, hk⟩ := mm_ll_inv hs; cases hk
  case lor => obtain ⟨x, y, r, -, hk⟩ := mm_ll_inv hs; cases hk
  case lcmp => obtain ⟨x, y, r, -, hk⟩ := mm_ll_inv hs; cases hk
  case idiv => obtain ⟨x, y, r, -, hk⟩ := mm_ii_inv hs; split at hk <;> cases hk
  case irem => obtain ⟨x, y, r, -, hk⟩ := mm_ii_inv hs; split at hk <;> cases hk
  case ldiv => obtain ⟨x, y, r, -, hk⟩ := mm_ll_inv hs; split at hk <;> cases hk
  case lrem => obtain ⟨x, y, r, -, hk⟩ := mm_ll_inv hs; split at hk <;> cases hk
  case lshl => obtain ⟨x, y, r, -, hk⟩ := mm_li_inv hs; cases hk
  case lshr => obtain ⟨x, y, r, -, hk⟩ := mm_li_inv hs; cases hk
  case lushr => obtain ⟨x, y, r, -, hk⟩ := mm_li_inv hs; cases hk
  case ineg => obtain ⟨x, r, -, hk⟩ := mm_i_inv hs; cases hk
  case i2l => obtain ⟨x, r, -, hk⟩ := mm_i_inv hs; cases hk
  case l2i => obtain ⟨x, r, -, hk⟩ := mm_l_inv hs; cases hk
  case i2c => obtain ⟨x, r, -, hk⟩ := mm_i_inv hs; cases hk
  case i2b => obtain ⟨x, r, -, hk⟩ := mm_i_inv hs; cases hk
  case tableswitch => obtain ⟨x, r, -, hk⟩ := mm_i_inv hs; cases hk
  case dup => obtain ⟨x, r, -, -, hk⟩ := mm_v_inv hs; cases hk
  case pop => obtain ⟨x, r, -, -, hk⟩ := mm_v_inv hs; cases hk
  case dup2 => obtain ⟨x, y, r, -, -, -, hk⟩ := mm_vv_inv hs; cases hk
  case ifCond => obtain ⟨x, r, -, hk⟩ := mm_i_inv hs; split at hk <;> cases hk
  case if_icmp => obtain ⟨x, y, r, -, hk⟩ := mm_ii_inv hs; split at hk <;> cases hk
  case iaload => obtain ⟨a, j, r, -, hk⟩ := mm_ri_inv hs; obtain ⟨x, -, hk⟩ := mm_k1_inv hk; cases hk
  case caload => obtain ⟨a, j, r, -, hk⟩ := mm_ri_inv hs; obtain ⟨x, -, hk⟩ := mm_k1_inv hk; cases hk
  case baload => obtain ⟨a, j, r, -, hk⟩ := mm_ri_inv hs; obtain ⟨x, -, hk⟩ := mm_k1_inv hk; cases hk
  case laload => obtain ⟨a, j, r, -, hk⟩ := mm_ri_inv hs; obtain ⟨x, -, hk⟩ := mm_k2_inv hk; cases hk
  case aaload => obtain ⟨a, j, r, -, hk⟩ := mm_ri_inv hs; obtain ⟨v, -, hk⟩ := mm_k3_inv hk; cases v <;> cases hk
  case arraylength => obtain ⟨a, r, -, hk⟩ := mm_r_inv hs; obtain ⟨x, -, hk⟩ := mm_k1_inv hk; cases hk
  case iastore => obtain ⟨a, j, x, r, -, hk⟩ := mm_rii_inv hs; obtain ⟨h1, hx, hk⟩ := mm_k4_inv hk; cases hk
  case castore => obtain ⟨a, j, x, r, -, hk⟩ := mm_rii_inv hs; obtain ⟨h1, hx, hk⟩ := mm_k4_inv hk; cases hk
  case bastore => obtain ⟨a, j, x, r, -, hk⟩ := mm_rii_inv hs; obtain ⟨h1, hx, hk⟩ := mm_k4_inv hk; cases hk
  case lastore => obtain ⟨a, j, x, r, -, hk⟩ := mm_ril_inv hs; obtain ⟨h1, hx, hk⟩ := mm_k4_inv hk; cases hk
  case aastore => obtain ⟨a, j, x, r, -, hk⟩ := mm_rir_inv hs; obtain ⟨h1, hx, hk⟩ := mm_k4_inv hk; cases hk
  case newarray =>
    rename_i t
    obtain ⟨n, r, -, hk⟩ := mm_i_inv hs
    split at hk
    · cases hk
    · cases t <;> cases hk
  case anewarray => obtain ⟨n, r, -, hk⟩ := mm_i_inv hs; split at hk <;> cases hk
  case getfield => obtain ⟨a, r, -, hk⟩ := mm_r_inv hs; obtain ⟨x, -, hk⟩ := mm_k3_inv hk; cases hk
  case putfield => obtain ⟨a, x, r, -, hk⟩ := mm_rv_inv hs; obtain ⟨h1, hx, hk⟩ := mm_k4_inv hk; cases hk
  case fadd => obtain ⟨a, r, -, hk⟩ := mm_r_inv hs; split at hk <;> cases hk
  case fsub =>
    obtain ⟨b, sp, a, dp, n, r, -, hk⟩ := mm_cp_inv hs
    split at hk
    · obtain ⟨h1, hx, hk⟩ := mm_k4_inv hk
      cases hk
    · cases hk
  case f2i => obtain ⟨x, y, r, -, hk⟩ := mm_ii_inv hs; split at hk <;> cases hk
  case f2l => obtain ⟨x, y, r, -, hk⟩ := mm_ii_inv hs; split at hk <;> cases hk
  case f2d => obtain ⟨x, r, -, hk⟩ := mm_i_inv hs; split at hk <;> cases hk
  case d2f => obtain ⟨x, y, r, -, hk⟩ := mm_ii_inv hs; split at hk <;> cases hk
  case fmul =>
    unfold mm_step at hs
    simp only [] at hs
    split at hs
    · split at hs <;> cases hs
    · cases hs
  case invokestatic k' =>
    have hs' : mm_call P k' st = some (.inr (.inl (k, as, rest))) := hs
    have hk : k' = k := by
      unfold mm_call at hs'
      split at hs'
      · cases hs'; rfl
      · cases hs'
    subst hk
    exact ⟨Or.inl rfl, hs'⟩
  case invokespecial k' =>
    unfold mm_step at hs
    simp only [] at hs
    split at hs
    · rename_i hr
      have hk : k' = k := by
        unfold mm_call at hs
        split at hs
        · cases hs; rfl
        · cases hs
      subst hk
      exact ⟨Or.inr (Or.inl ⟨rfl, hr⟩), hs⟩
    · cases hs
  case invokevirtual k' =>
    unfold mm_step at hs
    simp only [] at hs
    split at hs
    · rename_i hr
      have hk : k' = k := by
        unfold mm_call at hs
        split at hs
        · cases hs; rfl
        · cases hs
      subst hk
      exact ⟨Or.inr (Or.inr ⟨rfl, hr⟩), hs⟩
    · cases hs
  case ireturn =>
    unfold mm_step at hs
    simp only [] at hs
    split at hs
    · split at hs <;> cases hs
    · cases hs
  case lreturn =>
    unfold mm_step at hs
    simp only [] at hs
    split at hs
    · split at hs <;> cases hs
    · cases hs
  case return_ => unfold mm_step at hs; simp only [] at hs; split at hs <;> cases hs
  all_goals cases hs
theorem mm_step_r {P : mm_P} {mt : Nat} {i : Instr} {pc : Nat} {L : mm_V} {st : List Value} {h : mm_H} {r : Option Value} (hs : mm_step P mt i pc L st h = some (.inr (.inr r))) : (i = .ireturn ∧ ∃ x, st = [.int x] ∧ r = some (.int x) ∧ mm_ret (P.2.1 mt).2.2.2 (.int x) = true) ∨ (i = .lreturn ∧ ∃ x, st = [.long x] ∧ r = some (.long x) ∧ mm_ret (P.2.1 mt).2.2.2 (.long x) = true) ∨ (i = .return_ ∧ st = [] ∧ r = none ∧ (P.2.1 mt).2.2.2 = none) := by
  cases i
  case iconst => cases hs
  case bipush => cases hs
  case sipush => cases hs
  case lconst => cases hs
  case ldc => cases hs
  case ldc_w => cases hs
  case ldc2_w => cases hs
  case fload => cases hs
  case fstore => cases hs
  case goto => cases hs
  case getstatic => cases hs
  case new => cases hs
  case iload_n => obtain ⟨v, -, hk⟩ := mm_k3_inv hs; cases v <;> cases hk
  case iload => obtain ⟨v, -, hk⟩ := mm_k3_inv hs; cases v <;> cases hk
  case lload_n => obtain ⟨v, -, hk⟩ := mm_k3_inv hs; cases v <;> cases hk
  case lload => obtain ⟨v, -, hk⟩ := mm_k3_inv hs; cases v <;> cases hk
  case aload_n => obtain ⟨v, -, hk⟩ := mm_k3_inv hs; cases v <;> cases hk
  case aload => obtain ⟨v, -, hk⟩ := mm_k3_inv hs; cases v <;> cases hk
  case istore_n => obtain ⟨x, r, -, hk⟩ := mm_i_inv hs; obtain ⟨l1, -, hk⟩ := mm_k0_inv hk; cases hk
  case istore => obtain ⟨x, r, -, hk⟩ := mm_i_inv hs; obtain ⟨l1, -, hk⟩ := mm_k0_inv hk; cases hk
  case astore_n => obtain ⟨x, r, -, hk⟩ := mm_r_inv hs; obtain ⟨l1, -, hk⟩ := mm_k0_inv hk; cases hk
  case astore => obtain ⟨x, r, -, hk⟩ := mm_r_inv hs; obtain ⟨l1, -, hk⟩ := mm_k0_inv hk; cases hk
  case lstore_n => obtain ⟨x, r, -, hk⟩ := mm_l_inv hs; obtain ⟨l1, -, hk⟩ := mm_k0_inv hk; cases hk
  case lstore => obtain ⟨x, r, -, hk⟩ := mm_l_inv hs; obtain ⟨l1, -, hk⟩ := mm_k0_inv hk; cases hk
  case iinc => obtain ⟨v, -, hk⟩ := mm_k3_inv hs; cases v <;> first | (cases hk; done) | (obtain ⟨l1, -, hk⟩ := mm_k0_inv hk; cases hk)
  case iadd => obtain ⟨x, y, r, -, hk⟩ := mm_ii_inv hs; cases hk
  case isub => obtain ⟨x, y, r, -, hk⟩ := mm_ii_inv hs; cases hk
  case imul => obtain ⟨x, y, r, -, hk⟩ := mm_ii_inv hs; cases hk
  case iand => obtain ⟨x, y, r, -, hk⟩ := mm_ii_inv hs; cases hk
  case ior => obtain ⟨x, y, r, -, hk⟩ := mm_ii_inv hs; cases hk
  case ixor => obtain ⟨x, y, r, -, hk⟩ := mm_ii_inv hs; cases hk
  case ishl => obtain ⟨x, y, r, -, hk⟩ := mm_ii_inv hs; cases hk
  case ishr => obtain ⟨x, y, r, -, hk⟩ := mm_ii_inv hs; cases hk
  case iushr => obtain ⟨x, y, r, -, hk⟩ := mm_ii_inv hs; cases hk
  case ladd => obtain ⟨x, y, r, -, hk⟩ := mm_ll_inv hs; cases hk
  case lsub => obtain ⟨x, y, r, -, hk⟩ := mm_ll_inv hs; cases hk
  case lmul => obtain ⟨x, y, r, -, hk⟩ := mm_ll_inv hs; cases hk
  case land => obtain ⟨x, y, r, -, hk⟩ := mm_ll_inv hs; cases hk
  case lor => obtain ⟨x, y, r, -, hk⟩ := mm_ll_inv hs; cases hk
  case lcmp => obtain ⟨x, y, r, -, hk⟩ := mm_ll_inv hs; cases hk
  case idiv => obtain ⟨x, y, r, -, hk⟩ := mm_ii_inv hs; split at hk <;> cases hk
  case irem => obtain ⟨x, y, r, -, hk⟩ := mm_ii_inv hs; split at hk <;> cases hk
  case ldiv => obtain ⟨x, y, r, -, hk⟩ := mm_ll_inv hs; split at hk <;> cases hk
  case lrem => obtain ⟨x, y, r, -, hk⟩ := mm_ll_inv hs; split at hk <;> cases hk
  case lshl => obtain ⟨x, y, r, -, hk⟩ := mm_li_inv hs; cases hk
  case lshr => obtain ⟨x, y, r, -, hk⟩ := mm_li_inv hs; cases hk
  case lushr => obtain ⟨x, y, r, -, hk⟩ := mm_li_inv hs; cases hk
  case ineg => obtain ⟨x, r, -, hk⟩ := mm_i_inv hs; cases hk
  case i2l => obtain ⟨x, r, -, hk⟩ := mm_i_inv hs; cases hk
  case l2i => obtain ⟨x, r, -, hk⟩ := mm_l_inv hs; cases hk
  case i2c => obtain ⟨x, r, -, hk⟩ := mm_i_inv hs; cases hk
  case i2b => obtain ⟨x, r, -, hk⟩ := mm_i_inv hs; cases hk
  case tableswitch => obtain ⟨x, r, -, hk⟩ := mm_i_inv hs; cases hk
  case dup => obtain ⟨x, r, -, -, hk⟩ := mm_v_inv hs; cases hk
  case pop => obtain ⟨x, r, -, -, hk⟩ := mm_v_inv hs; cases hk
  case dup2 => obtain ⟨x, y, r, -, -, -, hk⟩ := mm_vv_inv hs; cases hk
  case ifCond => obtain ⟨x, r, -, hk⟩ := mm_i_inv hs; split at hk <;> cases hk
  case if_icmp => obtain ⟨x, y, r, -, hk⟩ := mm_ii_inv hs; split at hk <;> cases hk
  case iaload => obtain ⟨a, j, r, -, hk⟩ := mm_ri_inv hs; obtain ⟨x, -, hk⟩ := mm_k1_inv hk; cases hk
  case caload => obtain ⟨a, j, r, -, hk⟩ := mm_ri_inv hs; obtain ⟨x, -, hk⟩ := mm_k1_inv hk; cases hk
  case baload => obtain ⟨a, j, r, -, hk⟩ := mm_ri_inv hs; obtain ⟨x, -, hk⟩ := mm_k1_inv hk; cases hk
  case laload => obtain ⟨a, j, r, -, hk⟩ := mm_ri_inv hs; obtain ⟨x, -, hk⟩ := mm_k2_inv hk; cases hk
  case aaload => obtain ⟨a, j, r, -, hk⟩ := mm_ri_inv hs; obtain ⟨v, -, hk⟩ := mm_k3_inv hk; cases v <;> cases hk
  case arraylength => obtain ⟨a, r, -, hk⟩ := mm_r_inv hs; obtain ⟨x, -, hk⟩ := mm_k1_inv hk; cases hk
  case iastore => obtain ⟨a, j, x, r, -, hk⟩ := mm_rii_inv hs; obtain ⟨h1, hx, hk⟩ := mm_k4_inv hk; cases hk
  case castore => obtain ⟨a, j, x, r, -, hk⟩ := mm_rii_inv hs; obtain ⟨h1, hx, hk⟩ := mm_k4_inv hk; cases hk
  case bastore => obtain ⟨a, j, x, r, -, hk⟩ := mm_rii_inv hs; obtain ⟨h1, hx, hk⟩ := mm_k4_inv hk; cases hk
  case lastore => obtain ⟨a, j, x, r, -, hk⟩ := mm_ril_inv hs; obtain ⟨h1, hx, hk⟩ := mm_k4_inv hk; cases hk
  case aastore => obtain ⟨a, j, x, r, -, hk⟩ := mm_rir_inv hs; obtain ⟨h1, hx, hk⟩ := mm_k4_inv hk; cases hk
  case newarray =>
    rename_i t
    obtain ⟨n, r, -, hk⟩ := mm_i_inv hs
    split at hk
    · cases hk
    · cases t <;> cases hk
  case anewarray => obtain ⟨n, r, -, hk⟩ := mm_i_inv hs; split at hk <;> cases hk
  case getfield => obtain ⟨a, r, -, hk⟩ := mm_r_inv hs; obtain ⟨x, -, hk⟩ := mm_k3_inv hk; cases hk
  case putfield => obtain ⟨a, x, r, -, hk⟩ := mm_rv_inv hs; obtain ⟨h1, hx, hk⟩ := mm_k4_inv hk; cases hk
  case fadd => obtain ⟨a, r, -, hk⟩ := mm_r_inv hs; split at hk <;> cases hk
  case fsub =>
    obtain ⟨b, sp, a, dp, n, r, -, hk⟩ := mm_cp_inv hs
    split at hk
    · obtain ⟨h1, hx, hk⟩ := mm_k4_inv hk
      cases hk
    · cases hk
  case f2i => obtain ⟨x, y, r, -, hk⟩ := mm_ii_inv hs; split at hk <;> cases hk
  case f2l => obtain ⟨x, y, r, -, hk⟩ := mm_ii_inv hs; split at hk <;> cases hk
  case f2d => obtain ⟨x, r, -, hk⟩ := mm_i_inv hs; split at hk <;> cases hk
  case d2f => obtain ⟨x, y, r, -, hk⟩ := mm_ii_inv hs; split at hk <;> cases hk
  case fmul =>
    unfold mm_step at hs
    simp only [] at hs
    split at hs
    · split at hs <;> cases hs
    · cases hs
  case invokestatic k' =>
    have hs' : mm_call P k' st = some (.inr (.inr r)) := hs
    unfold mm_call at hs'
    split at hs' <;> cases hs'
  case invokespecial k' =>
    unfold mm_step at hs
    simp only [] at hs
    split at hs
    · unfold mm_call at hs
      split at hs <;> cases hs
    · cases hs
  case invokevirtual k' =>
    unfold mm_step at hs
    simp only [] at hs
    split at hs
    · unfold mm_call at hs
      split at hs <;> cases hs
    · cases hs
  case ireturn =>
    unfold mm_step at hs
    simp only [] at hs
    split at hs
    · split at hs
      · rename_i hq
        cases hs
        exact Or.inl ⟨rfl, _, rfl, rfl, hq⟩
      · cases hs
    · cases hs
  case lreturn =>
    unfold mm_step at hs
    simp only [] at hs
    split at hs
    · split at hs
      · rename_i hq
        cases hs
        exact Or.inr (Or.inl ⟨rfl, _, rfl, rfl, hq⟩)
      · cases hs
    · cases hs
  case return_ =>
    unfold mm_step at hs
    simp only [] at hs
    split at hs
    · rename_i hq
      cases hs
      exact Or.inr (Or.inr ⟨rfl, rfl, rfl, hq⟩)
    · cases hs
  all_goals cases hs

theorem mm_ex_m {P : mm_P} : ∀ (n d mt pc : Nat) (L : mm_V) (st : List Value) (h : mm_H) (r : Option Value) (hf : mm_H), mm_ex P n d mt pc L st h = some (r, hf) → h.1 ≤ hf.1 ∧ h.2.1 ≤ hf.2.1 := by
  intro n
  induction n with
  | zero => intro d mt pc L st h r hf hs; cases hs
  | succ n ih =>
    intro d mt pc L st h r hf hs
    rw [mm_ex] at hs
    split at hs
    · cases hs
    · rename_i pc' L' st' h' e
      have h1 := mm_step_m e
      have h2 := ih _ _ _ _ _ _ _ _ hs
      exact ⟨Nat.le_trans h1.1 h2.1, Nat.le_trans h1.2 h2.2⟩
    · rename_i k as rest e
      split at hs
      · cases hs
      · split at hs
        · cases hs
        · rename_i r1 h1 e1
          have h1 := ih _ _ _ _ _ _ _ _ e1
          have h2 := ih _ _ _ _ _ _ _ _ hs
          exact ⟨Nat.le_trans h1.1 h2.1, Nat.le_trans h1.2 h2.2⟩
    · cases hs; exact ⟨Nat.le_refl _, Nat.le_refl _⟩
def mm_G (cc : ByteArray) (own nm : String) (cl : List vw_C) (TB : List Cond) (sr : mm_N) (P : mm_P) (yy : Nat → MethodName) (pc : Nat) (i : Instr) : Prop := match i with
  | .iconst k => decode cc pc = .ok (.iconst k, 1)
  | .lconst k => decode cc pc = .ok (.lconst k, 1)
  | .iload_n k => decode cc pc = .ok (.iload_n k, 1)
  | .lload_n k => decode cc pc = .ok (.lload_n k, 1)
  | .aload_n k => decode cc pc = .ok (.aload_n k, 1)
  | .istore_n k => decode cc pc = .ok (.istore_n k, 1)
  | .lstore_n k => decode cc pc = .ok (.lstore_n k, 1)
  | .astore_n k => decode cc pc = .ok (.astore_n k, 1)
  | .iadd => decode cc pc = .ok (.iadd, 1)
  | .isub => decode cc pc = .ok (.isub, 1)
  | .imul => decode cc pc = .ok (.imul, 1)
  | .idiv => decode cc pc = .ok (.idiv, 1)
  | .irem => decode cc pc = .ok (.irem, 1)
  | .iand => decode cc pc = .ok (.iand, 1)
  | .ior => decode cc pc = .ok (.ior, 1)
  | .ixor => decode cc pc = .ok (.ixor, 1)
  | .ishl => decode cc pc = .ok (.ishl, 1)
  | .ishr => decode cc pc = .ok (.ishr, 1)
  | .iushr => decode cc pc = .ok (.iushr, 1)
  | .ineg => decode cc pc = .ok (.ineg, 1)
  | .ladd => decode cc pc = .ok (.ladd, 1)
  | .lsub => decode cc pc = .ok (.lsub, 1)
  | .lmul => decode cc pc = .ok (.lmul, 1)
  | .ldiv => decode cc pc = .ok (.ldiv, 1)
  | .lrem => decode cc pc = .ok (.lrem, 1)
  | .land => decode cc pc = .ok (.land, 1)
  | .lor => decode cc pc = .ok (.lor, 1)
  | .lshl => decode cc pc = .ok (.lshl, 1)
  | .lshr => decode cc pc = .ok (.lshr, 1)
  | .lushr => decode cc pc = .ok (.lushr, 1)
  | .lcmp => decode cc pc = .ok (.lcmp, 1)
  | .i2l => decode cc pc = .ok (.i2l, 1)
  | .l2i => decode cc pc = .ok (.l2i, 1)
  | .i2c => decode cc pc = .ok (.i2c, 1)
  | .i2b => decode cc pc = .ok (.i2b, 1)
  | .dup => decode cc pc = .ok (.dup, 1)
  | .dup2 => decode cc pc = .ok (.dup2, 1)
  | .pop => decode cc pc = .ok (.pop, 1)
  | .iaload => decode cc pc = .ok (.iaload, 1)
  | .caload => decode cc pc = .ok (.caload, 1)
  | .baload => decode cc pc = .ok (.baload, 1)
  | .laload => decode cc pc = .ok (.laload, 1)
  | .aaload => decode cc pc = .ok (.aaload, 1)
  | .arraylength => decode cc pc = .ok (.arraylength, 1)
  | .iastore => decode cc pc = .ok (.iastore, 1)
  | .castore => decode cc pc = .ok (.castore, 1)
  | .bastore => decode cc pc = .ok (.bastore, 1)
  | .lastore => decode cc pc = .ok (.lastore, 1)
  | .aastore => decode cc pc = .ok (.aastore, 1)
  | .ireturn => decode cc pc = .ok (.ireturn, 1)
  | .lreturn => decode cc pc = .ok (.lreturn, 1)
  | .return_ => decode cc pc = .ok (.return_, 1)
  | .bipush k => decode cc pc = .ok (.bipush k, 2)
  | .iload k => decode cc pc = .ok (.iload k, 2)
  | .lload k => decode cc pc = .ok (.lload k, 2)
  | .aload k => decode cc pc = .ok (.aload k, 2)
  | .istore k => decode cc pc = .ok (.istore k, 2)
  | .lstore k => decode cc pc = .ok (.lstore k, 2)
  | .astore k => decode cc pc = .ok (.astore k, 2)
  | .sipush k => decode cc pc = .ok (.sipush k, 3)
  | .iinc k n => decode cc pc = .ok (.iinc k n, 3)
  | .ldc k => ∃ ix : Nat, decode cc pc = .ok (.ldc ix, 2) ∧ Cond.constant own ix (Int32.ofNat k) ∈ TB
  | .ldc_w k => ∃ ix : Nat, decode cc pc = .ok (.ldc_w ix, 3) ∧ Cond.constant own ix (Int32.ofNat k) ∈ TB
  | .ldc2_w k => ∃ ix : Nat, decode cc pc = .ok (.ldc2_w ix, 3) ∧ Cond.constantLong own ix (Int64.ofNat k) ∈ TB
  | .goto t => ∃ off : Int, decode cc pc = .ok (.goto off, 3) ∧ (pc : Int) + off = (t.toNat : Int)
  | .ifCond cd t => ∃ off : Int, decode cc pc = .ok (.ifCond cd off, 3) ∧ (pc : Int) + off = (t.toNat : Int)
  | .if_icmp cd t => ∃ off : Int, decode cc pc = .ok (.if_icmp cd off, 3) ∧ (pc : Int) + off = (t.toNat : Int)
  | .tableswitch d lo hi offs => ∃ (d1 : Int) (offs1 : Array Int) (len : Nat), decode cc pc = .ok (.tableswitch d1 lo hi offs1, len) ∧ (pc : Int) + d1 = (d.toNat : Int) ∧ ∀ j : Nat, (j : Int) ≤ hi - lo → ∃ o, offs1[j]? = some o ∧ (pc : Int) + o = ((offs.getD j d).toNat : Int)
  | .newarray t => decode cc pc = .ok (.newarray t, 2) ∧ Cond.arrayClass (newarray.typeOf t) ∈ TB
  | .anewarray n => ∃ (ix : Nat) (q : vw_C), decode cc pc = .ok (.anewarray ix, 3) ∧ cl[P.2.2.2.2.1]? = some q ∧ Cond.classLink own ix q.1 ∈ TB ∧ q.1 = sr.2.2
  | .new n => ∃ (ix : Nat) (q : vw_C), decode cc pc = .ok (.new ix, 3) ∧ cl[n]? = some q ∧ Cond.classLink own ix q.1 ∈ TB ∧ Cond.instantiable q.1 q.2.2 ∈ TB ∧ Cond.initialized q.1 ∈ TB
  | .getfield n => (∃ (ix : Nat) (q : vw_C), decode cc pc = .ok (.getfield ix, 3) ∧ cl[n / 100]? = some q ∧ n % 100 < q.2.2 ∧ Cond.fieldLink own ix (q.2.1 (n % 100)).1 (q.2.1 (n % 100)).2.1 (q.2.1 (n % 100)).2.2.1 ∈ TB) ∨ (∃ ix : Nat, decode cc pc = .ok (.getfield ix, 3) ∧ ((n = 90000 ∧ Cond.fieldLink own ix "java/lang/String" "value" "[B" ∈ TB) ∨ (n = 90001 ∧ Cond.fieldLink own ix "java/lang/String" "coder" "B" ∈ TB)))
  | .putfield n => ∃ (ix : Nat) (q : vw_C), decode cc pc = .ok (.putfield ix, 3) ∧ cl[n / 100]? = some q ∧ n % 100 < q.2.2 ∧ Cond.fieldLink own ix (q.2.1 (n % 100)).1 (q.2.1 (n % 100)).2.1 (q.2.1 (n % 100)).2.2.1 ∈ TB ∧ ((q.2.1 (n % 100)).2.2.2 = false ∨ ((q.2.1 (n % 100)).2.2.2 = true ∧ nm = "<init>" ∧ (q.2.1 (n % 100)).1 = own))
  | .fadd => ∃ ix : Nat, decode cc pc = .ok (.invokespecial ix, 3) ∧ Cond.methodLink own ix Lib.objectInit ∈ TB ∧ Cond.instanceMethod Lib.objectInit ∈ TB ∧ Cond.code Lib.objectInit ⟨#[0xb1]⟩ 1 none ∈ TB
  | .fsub => ∃ ix : Nat, decode cc pc = .ok (.invokestatic ix, 3) ∧ Cond.methodLink own ix arraycopyName ∈ TB ∧ Cond.native arraycopyName ∈ TB ∧ Cond.static arraycopyName ∈ TB ∧ Cond.initialized "java/lang/System" ∈ TB
  | .f2i => ∃ ix : Nat, decode cc pc = .ok (.invokestatic ix, 3) ∧ Cond.methodLink own ix Lib.Math.max.name ∈ TB ∧ Cond.static Lib.Math.max.name ∈ TB ∧ Cond.initialized "java/lang/Math" ∈ TB ∧ Cond.code Lib.Math.max.name Lib.Math.max.code 2 (some .int) ∈ TB
  | .f2l => ∃ ix : Nat, decode cc pc = .ok (.invokestatic ix, 3) ∧ Cond.methodLink own ix Lib.Math.min.name ∈ TB ∧ Cond.static Lib.Math.min.name ∈ TB ∧ Cond.initialized "java/lang/Math" ∈ TB ∧ Cond.code Lib.Math.min.name Lib.Math.min.code 2 (some .int) ∈ TB
  | .f2d => ∃ ix : Nat, decode cc pc = .ok (.invokestatic ix, 3) ∧ Cond.methodLink own ix Lib.Math.abs.name ∈ TB ∧ Cond.static Lib.Math.abs.name ∈ TB ∧ Cond.initialized "java/lang/Math" ∈ TB ∧ Cond.code Lib.Math.abs.name Lib.Math.abs.code 1 (some .int) ∈ TB
  | .d2f => ∃ ix : Nat, decode cc pc = .ok (.invokestatic ix, 3) ∧ Cond.methodLink own ix mk_y28 ∈ TB ∧ ∃ (b28 b29 : ByteArray) (i29 ifs : Nat), mk_CK TB b28 b29 i29 ifs
  | .fload n => ∃ (ix : Nat) (tx : String) (j : Nat), n = 1 + 2 * j ∧ decode cc pc = .ok (.ldc ix, 2) ∧ (own, ix, tx, j) ∈ sr.1
  | .getstatic n => n = 1 ∧ ∃ ix : Nat, decode cc pc = .ok (.getstatic ix, 3) ∧ Cond.fieldLink own ix "java/lang/String" "COMPACT_STRINGS" "Z" ∈ TB
  | .invokestatic k => ∃ ix : Nat, decode cc pc = .ok (.invokestatic ix, 3) ∧ (Cond.methodLink own ix (yy k) ∈ TB ∨ ∃ host : String, (own, ix, yy k, host) ∈ sr.2.1) ∧ Cond.static (yy k) ∈ TB ∧ Cond.initialized (yy k).cls ∈ TB ∧ (parseMethodDescriptor (yy k).desc).map (fun d => d.parameters.length) = some (P.2.1 k).1
  | .invokevirtual k => ∃ (ix : Nat) (a : Nat), decode cc pc = .ok (.invokevirtual ix, 3) ∧ Cond.methodLink own ix (yy k) ∈ TB ∧ Cond.instanceMethod (yy k) ∈ TB ∧ Cond.selects (yy k).cls (yy k) (yy k) ∈ TB ∧ Cond.initialized (yy k).cls ∈ TB ∧ (P.2.1 k).1 = a + 1 ∧ (parseMethodDescriptor (yy k).desc).map (fun d => d.parameters.length) = some a ∧ ((∃ q : vw_C, cl[(P.2.1 k).2.2.1]? = some q ∧ q.1 = (yy k).cls) ∨ ((P.2.1 k).2.2.1 = 900 ∧ (yy k).cls = "java/lang/String"))
  | .invokespecial k => ∃ (ix : Nat) (a : Nat), decode cc pc = .ok (.invokespecial ix, 3) ∧ (Cond.methodLink own ix (yy k) ∈ TB ∨ ∃ host : String, (own, ix, yy k, host) ∈ sr.2.1) ∧ (yy k).name = "<init>" ∧ Cond.instanceMethod (yy k) ∈ TB ∧ Cond.initialized (yy k).cls ∈ TB ∧ (P.2.1 k).1 = a + 1 ∧ (P.2.1 k).2.2.2 = none ∧ (parseMethodDescriptor (yy k).desc).map (fun d => d.parameters.length) = some a
  | .nop => True
  | .fmul => True
  | .fdiv => True
  | _ => False
variable {p : Program} {l : Launch} {e : Env} {R : Room} {s : State} {m : MethodId} {args : Array Value} {below : List Frame} {meth : Method} {c : Code} {Q : State → Prop}
variable {cc : ByteArray} {own : String} {nL : Nat} {D : va_G} {cl : List vw_C} {tys : List (ClassId × FieldType)} {dA : Nat → ClassId} {TB : List Cond} {A : Nat → Prop} {P : mm_P} {mt : Nat}
variable {xs : List Int32} {byt : List (List Int32)} {sr : mm_N} {ρ0 : Nat → Nat} {n0 z0 : Nat}
variable {pc pc' : Nat} {L L' : mm_V} {st st' : List Value} {h h' : mm_H}
theorem mm_go (X : mm_X p R s m args c cc own nL D cl tys dA TB A P) {yy : Nat → MethodName} {i : Instr} (hg : mm_G cc own meth.name cl TB sr P yy pc i) (hfm : i ≠ .fmul) (hc1 : (h'.1 - n0) + (h'.2.1 - z0) ≤ R.cells) (hz1 : h'.2.1 - z0 ≤ R.slots) (hs : mm_step P mt i pc L st h = some (.inl (pc', L', st', h'))) (K : mm_W p l e R s m args below meth c Q nL D cl dA A P xs byt sr ρ0 n0 z0 pc' L' st' h') : mm_W p l e R s m args below meth c Q nL D cl dA A P xs byt sr ρ0 n0 z0 pc L st h := by
  cases i
  case iconst => exact mg_iconst X hg hs K
  case lconst => exact mg_lconst X hg hs K
  case iload_n => exact mg_iload_n X hg hs K
  case lload_n => exact mg_lload_n X hg hs K
  case aload_n => exact mg_aload_n X hg hs K
  case istore_n => exact mg_istore_n X hg hs K
  case lstore_n => exact mg_lstore_n X hg hs K
  case astore_n => exact mg_astore_n X hg hs K
  case iadd => exact mg_iadd X hg hs K
  case isub => exact mg_isub X hg hs K
  case imul => exact mg_imul X hg hs K
  case idiv => exact mg_idiv X hg hs K
  case irem => exact mg_irem X hg hs K
  case iand => exact mg_iand X hg hs K
  case ior => exact mg_ior X hg hs K
  case ixor => exact mg_ixor X hg hs K
  case ishl => exact mg_ishl X hg hs K
  case ishr => exact mg_ishr X hg hs K
  case iushr => exact mg_iushr X hg hs K
  case ineg => exact mg_ineg X hg hs K
  case ladd => exact mg_ladd X hg hs K
  case lsub => exact mg_lsub X hg hs K
  case lmul => exact mg_lmul X hg hs K
  case ldiv => exact mg_ldiv X hg hs K
  case lrem => exact mg_lrem X hg hs K
  case land => exact mg_land X hg hs K
  case lor => exact mg_lor X hg hs K
  case lshl => exact mg_lshl X hg hs K
  case lshr => exact mg_lshr X hg hs K
  case lushr => exact mg_lushr X hg hs K
  case lcmp => exact mg_lcmp X hg hs K
  case i2l => exact mg_i2l X hg hs K
  case l2i => exact mg_l2i X hg hs K
  case i2c => exact mg_i2c X hg hs K
  case i2b => exact mg_i2b X hg hs K
  case dup => exact mg_dup X hg hs K
  case dup2 => exact mg_dup2 X hg hs K
  case pop => exact mg_pop X hg hs K
  case iaload => exact mg_iaload X hg hs K
  case caload => exact mg_caload X hg hs K
  case baload => exact mg_baload X hg hs K
  case laload => exact mg_laload X hg hs K
  case aaload => exact mg_aaload X hg hs K
  case arraylength => exact mg_arraylength X hg hs K
  case iastore => exact mg_iastore X hg hs K
  case castore => exact mg_castore X hg hs K
  case bastore => exact mg_bastore X hg hs K
  case lastore => exact mg_lastore X hg hs K
  case aastore => exact mg_aastore X hg hs K
  case bipush => exact mg_bipush X hg hs K
  case iload => exact mg_iload X hg hs K
  case lload => exact mg_lload X hg hs K
  case aload => exact mg_aload X hg hs K
  case istore => exact mg_istore X hg hs K
  case lstore => exact mg_lstore X hg hs K
  case astore => exact mg_astore X hg hs K
  case sipush => exact mg_sipush X hg hs K
  case iinc => exact mg_iinc X hg hs K
  case ldc => obtain ⟨ix, h1, h2⟩ := hg; exact mg_ldc X h1 h2 hs K
  case ldc_w => obtain ⟨ix, h1, h2⟩ := hg; exact mg_ldcw X h1 h2 hs K
  case ldc2_w => obtain ⟨ix, h1, h2⟩ := hg; exact mg_ldc2 X h1 h2 hs K
  case goto => obtain ⟨ix, h1, h2⟩ := hg; exact mg_goto X h1 h2 hs K
  case ifCond => obtain ⟨ix, h1, h2⟩ := hg; exact mg_if X h1 h2 hs K
  case if_icmp => obtain ⟨ix, h1, h2⟩ := hg; exact mg_icmp X h1 h2 hs K
  case tableswitch => obtain ⟨d1, o1, len, h1, h2, h3⟩ := hg; exact mg_tsw X h1 h2 h3 hs K
  case newarray t =>
    obtain ⟨h1, h2⟩ := hg
    cases t
    case int => exact mg_newarray_int X h1 h2 hc1 hz1 hs K
    case char => exact mg_newarray_char X h1 h2 hc1 hz1 hs K
    case boolean => exact mg_newarray_boolean X h1 h2 hc1 hz1 hs K
    case long => exact mg_newarray_long X h1 h2 hc1 hz1 hs K
    all_goals
      obtain ⟨n, r, -, hk⟩ := mm_i_inv hs
      split at hk <;> cases hk
  case anewarray n =>
    obtain ⟨ix, q, h1, h2, h3, h4⟩ := hg
    have hn : n = P.2.2.2.2.1 := by
      obtain ⟨n1, r, -, hk⟩ := mm_i_inv hs
      split at hk
      · cases hk
      · rename_i hq
        by_cases hh : n = P.2.2.2.2.1
        · exact hh
        · exact absurd (Or.inr (Or.inr hh)) hq
    subst hn
    exact mg_anewarray X h1 h2 h3 h4 hc1 hz1 hs K
  case new => obtain ⟨ix, q, h1, h2, h3, h4, h5⟩ := hg; exact mg_new X h1 h2 h3 h4 h5 hc1 hz1 hs K
  case getfield n =>
    rcases hg with ⟨ix, q, h1, h2, h3, h4⟩ | ⟨ix, h1, ⟨rfl, h2⟩ | ⟨rfl, h2⟩⟩
    · exact mg_getfield X h1 h2 h3 h4 hs K
    · exact mg_getS0 X h1 h2 hs K
    · exact mg_getS1 X h1 h2 hs K
  case putfield n =>
    obtain ⟨ix, q, h1, h2, h3, h4, h5 | ⟨h5, h6, h7⟩⟩ := hg
    · exact mg_putfield X h1 h2 h3 h4 h5 hs K
    · exact mg_putfieldF X h1 h2 h3 h4 h5 h6 h7 hs K
  case fadd => obtain ⟨ix, h1, h2, h3, h4⟩ := hg; exact mg_objInit X h1 h2 h3 h4 hs K
  case fsub => obtain ⟨ix, h1, h2, h3, h4, h5⟩ := hg; exact mg_copy X h1 h2 h3 h4 h5 hs K
  case f2i => obtain ⟨ix, h1, h2, h3, h4, h5⟩ := hg; exact mg_mmax X h1 h2 h3 h4 h5 hc1 hz1 hs K
  case f2l => obtain ⟨ix, h1, h2, h3, h4, h5⟩ := hg; exact mg_mmin X h1 h2 h3 h4 h5 hc1 hz1 hs K
  case f2d => obtain ⟨ix, h1, h2, h3, h4, h5⟩ := hg; exact mg_mabs X h1 h2 h3 h4 h5 hc1 hz1 hs K
  case d2f => obtain ⟨ix, h1, h2, b28, b29, i29, ifs, h3⟩ := hg; exact mg_chk X h3 h1 h2 hc1 hz1 hs K
  case fload n => obtain ⟨ix, tx, j, rfl, h1, h2⟩ := hg; exact mg_ldcS X h1 h2 hs K
  case getstatic n => obtain ⟨rfl, ix, h1, h2⟩ := hg; exact mg_getstatic X h1 h2 hs K
  case invokestatic => exact absurd hs (fun q => mm_call_n q)
  case invokespecial =>
    unfold mm_step at hs
    simp only [] at hs
    split at hs
    · exact absurd hs (fun q => mm_call_n q)
    · cases hs
  case invokevirtual =>
    unfold mm_step at hs
    simp only [] at hs
    split at hs
    · exact absurd hs (fun q => mm_call_n q)
    · cases hs
  case ireturn =>
    unfold mm_step at hs
    simp only [] at hs
    split at hs
    · split at hs <;> cases hs
    · cases hs
  case lreturn =>
    unfold mm_step at hs
    simp only [] at hs
    split at hs
    · split at hs <;> cases hs
    · cases hs
  case return_ => unfold mm_step at hs; simp only [] at hs; split at hs <;> cases hs
  case nop => cases hs
  case fdiv => cases hs
  case fmul => exact absurd rfl hfm
  all_goals exact hg.elim
end MM7
