/-! longs -/
theorem lN_t {n : Nat} (h : n < 2 ^ 63) : (lN n).toInt = (n : Int) := Int64.toInt_ofNat_of_lt h
theorem lN_w (n : Nat) : (lN n).toInt32 = nI n := Int64.toInt32_ofNat
theorem lN_and (a b : Nat) : lN a &&& lN b = lN (a &&& b) := by
  apply Int64.toBitVec_inj.mp
  show BitVec.ofNat 64 a &&& BitVec.ofNat 64 b = BitVec.ofNat 64 (a &&& b)
  exact BitVec.ofNat_and.symm
theorem lN_127 (a : Nat) : lN a &&& 127 = lN (a % 128) := by
  rw [show (127 : Int64) = lN 127 from rfl, lN_and, show (127 : Nat) = 2 ^ 7 - 1 from rfl, Nat.and_two_pow_sub_one_eq_mod]
theorem lN_15 (a : Nat) : lN a &&& 15 = lN (a % 16) := by
  rw [show (15 : Int64) = lN 15 from rfl, lN_and, show (15 : Nat) = 2 ^ 4 - 1 from rfl, Nat.and_two_pow_sub_one_eq_mod]
theorem lN_s7 {a : Nat} (h : a < 2 ^ 63) : lN a >>> ((7 : Int32).toInt64 &&& 63) = lN (a / 128) := by
  have e : ((7 : Int32).toInt64 &&& 63) = lN 7 := by decide
  rw [e]
  apply Int64.toInt_inj.mp
  rw [lN_t (Nat.lt_of_le_of_lt (Nat.div_le_self _ _) h)]
  have e2 : (lN 7).toBitVec.smod 64 = 7#64 := by decide
  have hx : (BitVec.ofNat 64 a).toInt = (a : Int) := lN_t h
  show (BitVec.sshiftRight (BitVec.ofNat 64 a) ((lN 7).toBitVec.smod 64).toNat).toInt = _
  rw [e2, BitVec.toInt_sshiftRight, hx]
  show ((a : Int) >>> 7) = _
  rw [Int.shiftRight_eq_div_pow]; rfl
theorem lN_s4 {a : Nat} (h : a < 2 ^ 63) : lN a >>> ((4 : Int32).toInt64 &&& 63) = lN (a / 16) := by
  have e : ((4 : Int32).toInt64 &&& 63) = lN 4 := by decide
  rw [e]
  apply Int64.toInt_inj.mp
  rw [lN_t (Nat.lt_of_le_of_lt (Nat.div_le_self _ _) h)]
  have e2 : (lN 4).toBitVec.smod 64 = 4#64 := by decide
  have hx : (BitVec.ofNat 64 a).toInt = (a : Int) := lN_t h
  show (BitVec.sshiftRight (BitVec.ofNat 64 a) ((lN 4).toBitVec.smod 64).toNat).toInt = _
  rw [e2, BitVec.toInt_sshiftRight, hx]
  show ((a : Int) >>> 4) = _
  rw [Int.shiftRight_eq_div_pow]; rfl
