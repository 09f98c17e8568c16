/-! MINI 11: what holds behind a run; one row for each instruction -/
theorem mm_ex_s {P : mm_P} : ∀ (n d k pc : Nat) (ls : mm_V) (st : List Value) (h : mm_H) (R : Option Value × mm_H), mm_ex P n d k pc ls st h = some R → mm_ex P (n + 1) d k pc ls st h = some R := by
  intro n
  induction n with
  | zero => intro d k pc ls st h R hs; cases hs
  | succ n ih =>
    intro d k pc ls st h R hs
    rw [mm_ex] at hs
    rw [mm_ex]
    split at hs
    · cases hs
    · rename_i pc' L' st' h' e
      exact ih _ _ _ _ _ _ _ hs
    · rename_i k' as rest e
      split at hs
      · cases hs
      · split at hs
        · cases hs
        · rename_i r1 h1 e1
          rw [ih _ _ _ _ _ _ _ e1]
          exact ih _ _ _ _ _ _ _ hs
    · exact hs
theorem mm_ex_le {P : mm_P} {n m d k pc : Nat} {ls : mm_V} {st : List Value} {h : mm_H} {R : Option Value × mm_H} (hs : mm_ex P n d k pc ls st h = some R) (hm : n ≤ m) : mm_ex P m d k pc ls st h = some R := by
  induction hm with
  | refl => exact hs
  | step _ ih => exact mm_ex_s _ _ _ _ _ _ _ _ ih
/-- the run from here ends, and what it ends with has Q -/
def ww (P : mm_P) (d k pc : Nat) (ls : mm_V) (st : List Value) (h : mm_H) (Q : Option Value → mm_H → Prop) : Prop := ∃ n r h', mm_ex P n d k pc ls st h = some (r, h') ∧ Q r h'
/-- a whole method -/
def wm (P : mm_P) (d k : Nat) (as : List Value) (h : mm_H) (Q : Option Value → mm_H → Prop) : Prop := ww P d k 0 (mm_ent as (P.2.1 k).2.1) [] h Q
section MW
variable {P : mm_P} {d k pc : Nat} {ls : mm_V} {st : List Value} {h : mm_H} {Q Q' : Option Value → mm_H → Prop}
theorem ww_mono (hq : ∀ r h', Q r h' → Q' r h') (hw : ww P d k pc ls st h Q) : ww P d k pc ls st h Q' := by
  obtain ⟨n, r, h', e, q⟩ := hw
  exact ⟨n, r, h', e, hq r h' q⟩
theorem wm_mono {as : List Value} (hq : ∀ r h', Q r h' → Q' r h') (hw : wm P d k as h Q) : wm P d k as h Q' := ww_mono hq hw
theorem ww_step {pc' : Nat} {ls' : mm_V} {st' : List Value} {h' : mm_H} (e : mm_step P k (P.1 k pc) pc ls st h = some (.inl (pc', ls', st', h'))) : ww P d k pc ls st h Q ↔ ww P d k pc' ls' st' h' Q := by
  constructor
  · rintro ⟨n, r, h1, e1, q⟩
    cases n with
    | zero => cases e1
    | succ n =>
      rw [mm_ex, e] at e1
      exact ⟨n, r, h1, e1, q⟩
  · rintro ⟨n, r, h1, e1, q⟩
    exact ⟨n + 1, r, h1, by rw [mm_ex, e]; exact e1, q⟩
theorem ww_no (e : mm_step P k (P.1 k pc) pc ls st h = none) : ww P d k pc ls st h Q ↔ False := by
  constructor
  · rintro ⟨n, r, h1, e1, q⟩
    cases n with
    | zero => cases e1
    | succ n => rw [mm_ex, e] at e1; cases e1
  · exact fun q => q.elim
theorem ww_call {k' : Nat} {as rest : List Value} (e : mm_step P k (P.1 k pc) pc ls st h = some (.inr (.inl (k', as, rest)))) : ww P (d + 1) k pc ls st h Q ↔ wm P d k' as h (fun r h' => ww P (d + 1) k (pc + 3) ls (r.toList ++ rest) h' Q) := by
  constructor
  · rintro ⟨n, r, h1, e1, q⟩
    cases n with
    | zero => cases e1
    | succ n =>
      rw [mm_ex, e] at e1
      simp only [] at e1
      split at e1
      · cases e1
      · rename_i r1 h2 e2
        exact ⟨n, r1, h2, e2, n, r, h1, e1, q⟩
  · rintro ⟨n, r1, h2, e2, m, r, h1, e1, q⟩
    refine ⟨(n + m) + 1, r, h1, ?_, q⟩
    rw [mm_ex, e]
    simp only []
    rw [mm_ex_le e2 (Nat.le_add_right n m)]
    exact mm_ex_le e1 (Nat.le_add_left m n)
theorem ww_ret {r : Option Value} (e : mm_step P k (P.1 k pc) pc ls st h = some (.inr (.inr r))) : ww P d k pc ls st h Q ↔ Q r h := by
  constructor
  · rintro ⟨n, r1, h1, e1, q⟩
    cases n with
    | zero => cases e1
    | succ n =>
      rw [mm_ex, e] at e1
      cases e1
      exact q
  · intro q
    exact ⟨1, r, h, by rw [mm_ex, e], q⟩
theorem wr_iconst {i : Int} (hi : P.1 k pc = .iconst i) : ww P d k pc ls st h Q ↔ ww P d k (pc + 1) ls (.int (Int32.ofInt i) :: st) h Q := ww_step (by rw [hi]; rfl)
theorem wr_bipush {i : Int} (hi : P.1 k pc = .bipush i) : ww P d k pc ls st h Q ↔ ww P d k (pc + 2) ls (.int (Int8.ofInt i).toInt32 :: st) h Q := ww_step (by rw [hi]; rfl)
theorem wr_sipush {i : Int} (hi : P.1 k pc = .sipush i) : ww P d k pc ls st h Q ↔ ww P d k (pc + 3) ls (.int (Int16.ofInt i).toInt32 :: st) h Q := ww_step (by rw [hi]; rfl)
theorem wr_lconst {i : Fin 2} (hi : P.1 k pc = .lconst i) : ww P d k pc ls st h Q ↔ ww P d k (pc + 1) ls (.long (Int64.ofNat (i : Nat)) :: st) h Q := ww_step (by rw [hi]; rfl)
theorem wr_ldc {i : Nat} (hi : P.1 k pc = .ldc i) : ww P d k pc ls st h Q ↔ ww P d k (pc + 2) ls (.int (Int32.ofNat i) :: st) h Q := ww_step (by rw [hi]; rfl)
theorem wr_ldc_w {i : Nat} (hi : P.1 k pc = .ldc_w i) : ww P d k pc ls st h Q ↔ ww P d k (pc + 3) ls (.int (Int32.ofNat i) :: st) h Q := ww_step (by rw [hi]; rfl)
theorem wr_ldc2_w {i : Nat} (hi : P.1 k pc = .ldc2_w i) : ww P d k pc ls st h Q ↔ ww P d k (pc + 3) ls (.long (Int64.ofNat i) :: st) h Q := ww_step (by rw [hi]; rfl)
theorem wr_fload {i : Nat} (hi : P.1 k pc = .fload i) : ww P d k pc ls st h Q ↔ ww P d k (pc + 2) ls (.ref i :: st) h Q := ww_step (by rw [hi]; rfl)
theorem wr_getstatic {i : Nat} (hi : P.1 k pc = .getstatic i) : ww P d k pc ls st h Q ↔ ww P d k (pc + 3) ls (.int (Int32.ofNat i) :: st) h Q := ww_step (by rw [hi]; rfl)
theorem wr_iadd {x y : Int32} (hi : P.1 k pc = .iadd) : ww P d k pc ls (.int y :: .int x :: st) h Q ↔ ww P d k (pc + 1) ls (.int (x + y) :: st) h Q := ww_step (by rw [hi]; rfl)
theorem wr_isub {x y : Int32} (hi : P.1 k pc = .isub) : ww P d k pc ls (.int y :: .int x :: st) h Q ↔ ww P d k (pc + 1) ls (.int (x - y) :: st) h Q := ww_step (by rw [hi]; rfl)
theorem wr_imul {x y : Int32} (hi : P.1 k pc = .imul) : ww P d k pc ls (.int y :: .int x :: st) h Q ↔ ww P d k (pc + 1) ls (.int (x * y) :: st) h Q := ww_step (by rw [hi]; rfl)
theorem wr_iand {x y : Int32} (hi : P.1 k pc = .iand) : ww P d k pc ls (.int y :: .int x :: st) h Q ↔ ww P d k (pc + 1) ls (.int (x &&& y) :: st) h Q := ww_step (by rw [hi]; rfl)
theorem wr_ior {x y : Int32} (hi : P.1 k pc = .ior) : ww P d k pc ls (.int y :: .int x :: st) h Q ↔ ww P d k (pc + 1) ls (.int (x ||| y) :: st) h Q := ww_step (by rw [hi]; rfl)
theorem wr_ixor {x y : Int32} (hi : P.1 k pc = .ixor) : ww P d k pc ls (.int y :: .int x :: st) h Q ↔ ww P d k (pc + 1) ls (.int (x ^^^ y) :: st) h Q := ww_step (by rw [hi]; rfl)
theorem wr_ishl {x y : Int32} (hi : P.1 k pc = .ishl) : ww P d k pc ls (.int y :: .int x :: st) h Q ↔ ww P d k (pc + 1) ls (.int (x <<< (y &&& 31)) :: st) h Q := ww_step (by rw [hi]; rfl)
theorem wr_ishr {x y : Int32} (hi : P.1 k pc = .ishr) : ww P d k pc ls (.int y :: .int x :: st) h Q ↔ ww P d k (pc + 1) ls (.int (x >>> (y &&& 31)) :: st) h Q := ww_step (by rw [hi]; rfl)
theorem wr_iushr {x y : Int32} (hi : P.1 k pc = .iushr) : ww P d k pc ls (.int y :: .int x :: st) h Q ↔ ww P d k (pc + 1) ls (.int ((x.toUInt32 >>> (y.toUInt32 &&& Int32.toUInt32 31)).toInt32) :: st) h Q := ww_step (by rw [hi]; rfl)
theorem wr_idiv {x y : Int32} (hi : P.1 k pc = .idiv) : ww P d k pc ls (.int y :: .int x :: st) h Q ↔ (if y = 0 then False else ww P d k (pc + 1) ls (.int (x / y) :: st) h Q) := by
  by_cases hy : y = 0
  · rw [if_pos hy]; exact ww_no (by rw [hi]; exact if_pos hy)
  · rw [if_neg hy]; exact ww_step (by rw [hi]; exact if_neg hy)
theorem wr_irem {x y : Int32} (hi : P.1 k pc = .irem) : ww P d k pc ls (.int y :: .int x :: st) h Q ↔ (if y = 0 then False else ww P d k (pc + 1) ls (.int (x - x / y * y) :: st) h Q) := by
  by_cases hy : y = 0
  · rw [if_pos hy]; exact ww_no (by rw [hi]; exact if_pos hy)
  · rw [if_neg hy]; exact ww_step (by rw [hi]; exact if_neg hy)
theorem wr_ladd {x y : Int64} (hi : P.1 k pc = .ladd) : ww P d k pc ls (.long y :: .long x :: st) h Q ↔ ww P d k (pc + 1) ls (.long (x + y) :: st) h Q := ww_step (by rw [hi]; rfl)
theorem wr_lsub {x y : Int64} (hi : P.1 k pc = .lsub) : ww P d k pc ls (.long y :: .long x :: st) h Q ↔ ww P d k (pc + 1) ls (.long (x - y) :: st) h Q := ww_step (by rw [hi]; rfl)
theorem wr_lmul {x y : Int64} (hi : P.1 k pc = .lmul) : ww P d k pc ls (.long y :: .long x :: st) h Q ↔ ww P d k (pc + 1) ls (.long (x * y) :: st) h Q := ww_step (by rw [hi]; rfl)
theorem wr_land {x y : Int64} (hi : P.1 k pc = .land) : ww P d k pc ls (.long y :: .long x :: st) h Q ↔ ww P d k (pc + 1) ls (.long (x &&& y) :: st) h Q := ww_step (by rw [hi]; rfl)
theorem wr_lor {x y : Int64} (hi : P.1 k pc = .lor) : ww P d k pc ls (.long y :: .long x :: st) h Q ↔ ww P d k (pc + 1) ls (.long (x ||| y) :: st) h Q := ww_step (by rw [hi]; rfl)
theorem wr_ldiv {x y : Int64} (hi : P.1 k pc = .ldiv) : ww P d k pc ls (.long y :: .long x :: st) h Q ↔ (if y = 0 then False else ww P d k (pc + 1) ls (.long (x / y) :: st) h Q) := by
  by_cases hy : y = 0
  · rw [if_pos hy]; exact ww_no (by rw [hi]; exact if_pos hy)
  · rw [if_neg hy]; exact ww_step (by rw [hi]; exact if_neg hy)
theorem wr_lrem {x y : Int64} (hi : P.1 k pc = .lrem) : ww P d k pc ls (.long y :: .long x :: st) h Q ↔ (if y = 0 then False else ww P d k (pc + 1) ls (.long (x - x / y * y) :: st) h Q) := by
  by_cases hy : y = 0
  · rw [if_pos hy]; exact ww_no (by rw [hi]; exact if_pos hy)
  · rw [if_neg hy]; exact ww_step (by rw [hi]; exact if_neg hy)
theorem wr_lshl {x : Int64} {y : Int32} (hi : P.1 k pc = .lshl) : ww P d k pc ls (.int y :: .long x :: st) h Q ↔ ww P d k (pc + 1) ls (.long (x <<< (y.toInt64 &&& 63)) :: st) h Q := ww_step (by rw [hi]; rfl)
theorem wr_lshr {x : Int64} {y : Int32} (hi : P.1 k pc = .lshr) : ww P d k pc ls (.int y :: .long x :: st) h Q ↔ ww P d k (pc + 1) ls (.long (x >>> (y.toInt64 &&& 63)) :: st) h Q := ww_step (by rw [hi]; rfl)
theorem wr_lushr {x : Int64} {y : Int32} (hi : P.1 k pc = .lushr) : ww P d k pc ls (.int y :: .long x :: st) h Q ↔ ww P d k (pc + 1) ls (.long ((x.toUInt64 >>> (y.toInt64.toUInt64 &&& Int64.toUInt64 63)).toInt64) :: st) h Q := ww_step (by rw [hi]; rfl)
theorem wr_lcmp {x y : Int64} (hi : P.1 k pc = .lcmp) : ww P d k pc ls (.long y :: .long x :: st) h Q ↔ ww P d k (pc + 1) ls (.int (lg_cmp x y) :: st) h Q := ww_step (by rw [hi]; rfl)
theorem wr_ineg {x : Int32} (hi : P.1 k pc = .ineg) : ww P d k pc ls (.int x :: st) h Q ↔ ww P d k (pc + 1) ls (.int (-x) :: st) h Q := ww_step (by rw [hi]; rfl)
theorem wr_i2l {x : Int32} (hi : P.1 k pc = .i2l) : ww P d k pc ls (.int x :: st) h Q ↔ ww P d k (pc + 1) ls (.long x.toInt64 :: st) h Q := ww_step (by rw [hi]; rfl)
theorem wr_l2i {x : Int64} (hi : P.1 k pc = .l2i) : ww P d k pc ls (.long x :: st) h Q ↔ ww P d k (pc + 1) ls (.int x.toInt32 :: st) h Q := ww_step (by rw [hi]; rfl)
theorem wr_i2c {x : Int32} (hi : P.1 k pc = .i2c) : ww P d k pc ls (.int x :: st) h Q ↔ ww P d k (pc + 1) ls (.int (x.toUInt32 % 65536).toInt32 :: st) h Q := ww_step (by rw [hi]; rfl)
theorem wr_dup_int {x : Int32} (hi : P.1 k pc = .dup) : ww P d k pc ls (.int x :: st) h Q ↔ ww P d k (pc + 1) ls (.int x :: .int x :: st) h Q := ww_step (by rw [hi]; rfl)
theorem wr_pop_int {x : Int32} (hi : P.1 k pc = .pop) : ww P d k pc ls (.int x :: st) h Q ↔ ww P d k (pc + 1) ls st h Q := ww_step (by rw [hi]; rfl)
theorem wr_dup_ref {x : Nat} (hi : P.1 k pc = .dup) : ww P d k pc ls (.ref x :: st) h Q ↔ ww P d k (pc + 1) ls (.ref x :: .ref x :: st) h Q := ww_step (by rw [hi]; rfl)
theorem wr_pop_ref {x : Nat} (hi : P.1 k pc = .pop) : ww P d k pc ls (.ref x :: st) h Q ↔ ww P d k (pc + 1) ls st h Q := ww_step (by rw [hi]; rfl)
theorem wr_dup2 {x : Nat} {y : Int32} (hi : P.1 k pc = .dup2) : ww P d k pc ls (.int y :: .ref x :: st) h Q ↔ ww P d k (pc + 1) ls (.int y :: .ref x :: .int y :: .ref x :: st) h Q := ww_step (by rw [hi]; rfl)
theorem wr_goto {t : Int} (hi : P.1 k pc = .goto t) : ww P d k pc ls st h Q ↔ ww P d k t.toNat ls st h Q := ww_step (by rw [hi]; rfl)
theorem wr_if_eq {t : Int} {x : Int32} (hi : P.1 k pc = .ifCond .eq t) : ww P d k pc ls (.int x :: st) h Q ↔ (if x = 0 then ww P d k t.toNat ls st h Q else ww P d k (pc + 3) ls st h Q) := by
  by_cases hc : x = 0
  · rw [if_pos hc]
    exact ww_step (by rw [hi]; exact if_pos (by simpa [mm_test] using hc))
  · rw [if_neg hc]
    exact ww_step (by rw [hi]; exact if_neg (by simpa [mm_test] using hc))
theorem wr_icmp_eq {t : Int} {x y : Int32} (hi : P.1 k pc = .if_icmp .eq t) : ww P d k pc ls (.int y :: .int x :: st) h Q ↔ (if x = y then ww P d k t.toNat ls st h Q else ww P d k (pc + 3) ls st h Q) := by
  by_cases hc : x = y
  · rw [if_pos hc]
    exact ww_step (by rw [hi]; exact if_pos (by simpa [mm_test] using hc))
  · rw [if_neg hc]
    exact ww_step (by rw [hi]; exact if_neg (by simpa [mm_test] using hc))
theorem wr_if_ne {t : Int} {x : Int32} (hi : P.1 k pc = .ifCond .ne t) : ww P d k pc ls (.int x :: st) h Q ↔ (if ¬ x = 0 then ww P d k t.toNat ls st h Q else ww P d k (pc + 3) ls st h Q) := by
  by_cases hc : ¬ x = 0
  · rw [if_pos hc]
    exact ww_step (by rw [hi]; exact if_pos (by simpa [mm_test] using hc))
  · rw [if_neg hc]
    exact ww_step (by rw [hi]; exact if_neg (by simpa [mm_test] using hc))
theorem wr_icmp_ne {t : Int} {x y : Int32} (hi : P.1 k pc = .if_icmp .ne t) : ww P d k pc ls (.int y :: .int x :: st) h Q ↔ (if ¬ x = y then ww P d k t.toNat ls st h Q else ww P d k (pc + 3) ls st h Q) := by
  by_cases hc : ¬ x = y
  · rw [if_pos hc]
    exact ww_step (by rw [hi]; exact if_pos (by simpa [mm_test] using hc))
  · rw [if_neg hc]
    exact ww_step (by rw [hi]; exact if_neg (by simpa [mm_test] using hc))
theorem wr_if_lt {t : Int} {x : Int32} (hi : P.1 k pc = .ifCond .lt t) : ww P d k pc ls (.int x :: st) h Q ↔ (if x < 0 then ww P d k t.toNat ls st h Q else ww P d k (pc + 3) ls st h Q) := by
  by_cases hc : x < 0
  · rw [if_pos hc]
    exact ww_step (by rw [hi]; exact if_pos (by simpa [mm_test] using hc))
  · rw [if_neg hc]
    exact ww_step (by rw [hi]; exact if_neg (by simpa [mm_test] using hc))
theorem wr_icmp_lt {t : Int} {x y : Int32} (hi : P.1 k pc = .if_icmp .lt t) : ww P d k pc ls (.int y :: .int x :: st) h Q ↔ (if x < y then ww P d k t.toNat ls st h Q else ww P d k (pc + 3) ls st h Q) := by
  by_cases hc : x < y
  · rw [if_pos hc]
    exact ww_step (by rw [hi]; exact if_pos (by simpa [mm_test] using hc))
  · rw [if_neg hc]
    exact ww_step (by rw [hi]; exact if_neg (by simpa [mm_test] using hc))
theorem wr_if_ge {t : Int} {x : Int32} (hi : P.1 k pc = .ifCond .ge t) : ww P d k pc ls (.int x :: st) h Q ↔ (if 0 ≤ x then ww P d k t.toNat ls st h Q else ww P d k (pc + 3) ls st h Q) := by
  by_cases hc : 0 ≤ x
  · rw [if_pos hc]
    exact ww_step (by rw [hi]; exact if_pos (by simpa [mm_test] using hc))
  · rw [if_neg hc]
    exact ww_step (by rw [hi]; exact if_neg (by simpa [mm_test] using hc))
theorem wr_icmp_ge {t : Int} {x y : Int32} (hi : P.1 k pc = .if_icmp .ge t) : ww P d k pc ls (.int y :: .int x :: st) h Q ↔ (if y ≤ x then ww P d k t.toNat ls st h Q else ww P d k (pc + 3) ls st h Q) := by
  by_cases hc : y ≤ x
  · rw [if_pos hc]
    exact ww_step (by rw [hi]; exact if_pos (by simpa [mm_test] using hc))
  · rw [if_neg hc]
    exact ww_step (by rw [hi]; exact if_neg (by simpa [mm_test] using hc))
theorem wr_if_gt {t : Int} {x : Int32} (hi : P.1 k pc = .ifCond .gt t) : ww P d k pc ls (.int x :: st) h Q ↔ (if 0 < x then ww P d k t.toNat ls st h Q else ww P d k (pc + 3) ls st h Q) := by
  by_cases hc : 0 < x
  · rw [if_pos hc]
    exact ww_step (by rw [hi]; exact if_pos (by simpa [mm_test] using hc))
  · rw [if_neg hc]
    exact ww_step (by rw [hi]; exact if_neg (by simpa [mm_test] using hc))
theorem wr_icmp_gt {t : Int} {x y : Int32} (hi : P.1 k pc = .if_icmp .gt t) : ww P d k pc ls (.int y :: .int x :: st) h Q ↔ (if y < x then ww P d k t.toNat ls st h Q else ww P d k (pc + 3) ls st h Q) := by
  by_cases hc : y < x
  · rw [if_pos hc]
    exact ww_step (by rw [hi]; exact if_pos (by simpa [mm_test] using hc))
  · rw [if_neg hc]
    exact ww_step (by rw [hi]; exact if_neg (by simpa [mm_test] using hc))
theorem wr_if_le {t : Int} {x : Int32} (hi : P.1 k pc = .ifCond .le t) : ww P d k pc ls (.int x :: st) h Q ↔ (if x ≤ 0 then ww P d k t.toNat ls st h Q else ww P d k (pc + 3) ls st h Q) := by
  by_cases hc : x ≤ 0
  · rw [if_pos hc]
    exact ww_step (by rw [hi]; exact if_pos (by simpa [mm_test] using hc))
  · rw [if_neg hc]
    exact ww_step (by rw [hi]; exact if_neg (by simpa [mm_test] using hc))
theorem wr_icmp_le {t : Int} {x y : Int32} (hi : P.1 k pc = .if_icmp .le t) : ww P d k pc ls (.int y :: .int x :: st) h Q ↔ (if x ≤ y then ww P d k t.toNat ls st h Q else ww P d k (pc + 3) ls st h Q) := by
  by_cases hc : x ≤ y
  · rw [if_pos hc]
    exact ww_step (by rw [hi]; exact if_pos (by simpa [mm_test] using hc))
  · rw [if_neg hc]
    exact ww_step (by rw [hi]; exact if_neg (by simpa [mm_test] using hc))
theorem wr_tsw {d0 lo hi0 : Int} {offs : Array Int} {x : Int32} (hi : P.1 k pc = .tableswitch d0 lo hi0 offs) : ww P d k pc ls (.int x :: st) h Q ↔ ww P d k (mm_tsw d0 lo hi0 offs x).toNat ls st h Q := ww_step (by rw [hi]; rfl)
theorem wr_iaload {a : Nat} {i : Int32} (hi : P.1 k pc = .iaload) : ww P d k pc ls (.int i :: .ref a :: st) h Q ↔ ∃ x, mm_gI h a 0 9 i = some x ∧ ww P d k (pc + 1) ls (.int x :: st) h Q := by
  cases hx : mm_gI h a 0 9 i with
  | none =>
    constructor
    · intro q; exact ((ww_no (by rw [hi]; show mm_k1 (mm_gI h a 0 9 i) _ = none; rw [hx]; rfl)).mp q).elim
    · rintro ⟨x, hx2, -⟩; cases hx2
  | some x =>
    rw [ww_step (pc' := pc + 1) (ls' := ls) (st' := (.int x :: st)) (h' := h) (by rw [hi]; show mm_k1 (mm_gI h a 0 9 i) _ = _; rw [hx]; rfl)]
    constructor
    · intro q; exact ⟨x, rfl, q⟩
    · rintro ⟨y, hy, q⟩; cases hy; exact q
theorem wr_caload {a : Nat} {i : Int32} (hi : P.1 k pc = .caload) : ww P d k pc ls (.int i :: .ref a :: st) h Q ↔ ∃ x, mm_gI h a 1 1 i = some x ∧ ww P d k (pc + 1) ls (.int x :: st) h Q := by
  cases hx : mm_gI h a 1 1 i with
  | none =>
    constructor
    · intro q; exact ((ww_no (by rw [hi]; show mm_k1 (mm_gI h a 1 1 i) _ = none; rw [hx]; rfl)).mp q).elim
    · rintro ⟨x, hx2, -⟩; cases hx2
  | some x =>
    rw [ww_step (pc' := pc + 1) (ls' := ls) (st' := (.int x :: st)) (h' := h) (by rw [hi]; show mm_k1 (mm_gI h a 1 1 i) _ = _; rw [hx]; rfl)]
    constructor
    · intro q; exact ⟨x, rfl, q⟩
    · rintro ⟨y, hy, q⟩; cases hy; exact q
theorem wr_baload {a : Nat} {i : Int32} (hi : P.1 k pc = .baload) : ww P d k pc ls (.int i :: .ref a :: st) h Q ↔ ∃ x, mm_gI h a 2 8 i = some x ∧ ww P d k (pc + 1) ls (.int x :: st) h Q := by
  cases hx : mm_gI h a 2 8 i with
  | none =>
    constructor
    · intro q; exact ((ww_no (by rw [hi]; show mm_k1 (mm_gI h a 2 8 i) _ = none; rw [hx]; rfl)).mp q).elim
    · rintro ⟨x, hx2, -⟩; cases hx2
  | some x =>
    rw [ww_step (pc' := pc + 1) (ls' := ls) (st' := (.int x :: st)) (h' := h) (by rw [hi]; show mm_k1 (mm_gI h a 2 8 i) _ = _; rw [hx]; rfl)]
    constructor
    · intro q; exact ⟨x, rfl, q⟩
    · rintro ⟨y, hy, q⟩; cases hy; exact q
theorem wr_laload {a : Nat} {i : Int32} (hi : P.1 k pc = .laload) : ww P d k pc ls (.int i :: .ref a :: st) h Q ↔ ∃ x, mm_gL h a i = some x ∧ ww P d k (pc + 1) ls (.long x :: st) h Q := by
  cases hx : mm_gL h a i with
  | none =>
    constructor
    · intro q; exact ((ww_no (by rw [hi]; show mm_k2 (mm_gL h a i) _ = none; rw [hx]; rfl)).mp q).elim
    · rintro ⟨x, hx2, -⟩; cases hx2
  | some x =>
    rw [ww_step (pc' := pc + 1) (ls' := ls) (st' := (.long x :: st)) (h' := h) (by rw [hi]; show mm_k2 (mm_gL h a i) _ = _; rw [hx]; rfl)]
    constructor
    · intro q; exact ⟨x, rfl, q⟩
    · rintro ⟨y, hy, q⟩; cases hy; exact q
theorem wr_arraylength {a : Nat} (hi : P.1 k pc = .arraylength) : ww P d k pc ls (.ref a :: st) h Q ↔ ∃ x, mm_gN h a = some x ∧ ww P d k (pc + 1) ls (.int x :: st) h Q := by
  cases hx : mm_gN h a with
  | none =>
    constructor
    · intro q; exact ((ww_no (by rw [hi]; show mm_k1 (mm_gN h a) _ = none; rw [hx]; rfl)).mp q).elim
    · rintro ⟨x, hx2, -⟩; cases hx2
  | some x =>
    rw [ww_step (pc' := pc + 1) (ls' := ls) (st' := (.int x :: st)) (h' := h) (by rw [hi]; show mm_k1 (mm_gN h a) _ = _; rw [hx]; rfl)]
    constructor
    · intro q; exact ⟨x, rfl, q⟩
    · rintro ⟨y, hy, q⟩; cases hy; exact q
theorem wr_getfield {a n : Nat} (hi : P.1 k pc = .getfield n) : ww P d k pc ls (.ref a :: st) h Q ↔ ∃ x, mm_gF h a (n / 100) (n % 100) = some x ∧ ww P d k (pc + 3) ls (x :: st) h Q := by
  cases hx : mm_gF h a (n / 100) (n % 100) with
  | none =>
    constructor
    · intro q; exact ((ww_no (by rw [hi]; show mm_k3 (mm_gF h a (n / 100) (n % 100)) _ = none; rw [hx]; rfl)).mp q).elim
    · rintro ⟨x, hx2, -⟩; cases hx2
  | some x =>
    rw [ww_step (pc' := pc + 3) (ls' := ls) (st' := (x :: st)) (h' := h) (by rw [hi]; show mm_k3 (mm_gF h a (n / 100) (n % 100)) _ = _; rw [hx]; rfl)]
    constructor
    · intro q; exact ⟨x, rfl, q⟩
    · rintro ⟨y, hy, q⟩; cases hy; exact q
theorem wr_iastore {a : Nat} {i x : Int32} (hi : P.1 k pc = .iastore) : ww P d k pc ls (.int x :: .int i :: .ref a :: st) h Q ↔ ∃ h', mm_sI h a 0 i x = some h' ∧ ww P d k (pc + 1) ls st h' Q := by
  cases hx : mm_sI h a 0 i x with
  | none =>
    constructor
    · intro q; exact ((ww_no (by rw [hi]; show mm_k4 (mm_sI h a 0 i x) _ = none; rw [hx]; rfl)).mp q).elim
    · rintro ⟨x, hx2, -⟩; cases hx2
  | some h1 =>
    rw [ww_step (pc' := pc + 1) (ls' := ls) (st' := st) (h' := h1) (by rw [hi]; show mm_k4 (mm_sI h a 0 i x) _ = _; rw [hx]; rfl)]
    constructor
    · intro q; exact ⟨h1, rfl, q⟩
    · rintro ⟨y, hy, q⟩; cases hy; exact q
theorem wr_castore {a : Nat} {i x : Int32} (hi : P.1 k pc = .castore) : ww P d k pc ls (.int x :: .int i :: .ref a :: st) h Q ↔ ∃ h', mm_sI h a 1 i (vp_nar .char x) = some h' ∧ ww P d k (pc + 1) ls st h' Q := by
  cases hx : mm_sI h a 1 i (vp_nar .char x) with
  | none =>
    constructor
    · intro q; exact ((ww_no (by rw [hi]; show mm_k4 (mm_sI h a 1 i (vp_nar .char x)) _ = none; rw [hx]; rfl)).mp q).elim
    · rintro ⟨x, hx2, -⟩; cases hx2
  | some h1 =>
    rw [ww_step (pc' := pc + 1) (ls' := ls) (st' := st) (h' := h1) (by rw [hi]; show mm_k4 (mm_sI h a 1 i (vp_nar .char x)) _ = _; rw [hx]; rfl)]
    constructor
    · intro q; exact ⟨h1, rfl, q⟩
    · rintro ⟨y, hy, q⟩; cases hy; exact q
theorem wr_bastore {a : Nat} {i x : Int32} (hi : P.1 k pc = .bastore) : ww P d k pc ls (.int x :: .int i :: .ref a :: st) h Q ↔ ∃ h', mm_sI h a 2 i (vp_nar .boolean x) = some h' ∧ ww P d k (pc + 1) ls st h' Q := by
  cases hx : mm_sI h a 2 i (vp_nar .boolean x) with
  | none =>
    constructor
    · intro q; exact ((ww_no (by rw [hi]; show mm_k4 (mm_sI h a 2 i (vp_nar .boolean x)) _ = none; rw [hx]; rfl)).mp q).elim
    · rintro ⟨x, hx2, -⟩; cases hx2
  | some h1 =>
    rw [ww_step (pc' := pc + 1) (ls' := ls) (st' := st) (h' := h1) (by rw [hi]; show mm_k4 (mm_sI h a 2 i (vp_nar .boolean x)) _ = _; rw [hx]; rfl)]
    constructor
    · intro q; exact ⟨h1, rfl, q⟩
    · rintro ⟨y, hy, q⟩; cases hy; exact q
theorem wr_lastore {a : Nat} {i : Int32} {x : Int64} (hi : P.1 k pc = .lastore) : ww P d k pc ls (.long x :: .int i :: .ref a :: st) h Q ↔ ∃ h', mm_sL h a i x = some h' ∧ ww P d k (pc + 1) ls st h' Q := by
  cases hx : mm_sL h a i x with
  | none =>
    constructor
    · intro q; exact ((ww_no (by rw [hi]; show mm_k4 (mm_sL h a i x) _ = none; rw [hx]; rfl)).mp q).elim
    · rintro ⟨x, hx2, -⟩; cases hx2
  | some h1 =>
    rw [ww_step (pc' := pc + 1) (ls' := ls) (st' := st) (h' := h1) (by rw [hi]; show mm_k4 (mm_sL h a i x) _ = _; rw [hx]; rfl)]
    constructor
    · intro q; exact ⟨h1, rfl, q⟩
    · rintro ⟨y, hy, q⟩; cases hy; exact q
theorem wr_aastore {a x : Nat} {i : Int32} (hi : P.1 k pc = .aastore) : ww P d k pc ls (.ref x :: .int i :: .ref a :: st) h Q ↔ ∃ h', mm_sA P.2.2.2.2.1 h a i x = some h' ∧ ww P d k (pc + 1) ls st h' Q := by
  cases hx : mm_sA P.2.2.2.2.1 h a i x with
  | none =>
    constructor
    · intro q; exact ((ww_no (by rw [hi]; show mm_k4 (mm_sA P.2.2.2.2.1 h a i x) _ = none; rw [hx]; rfl)).mp q).elim
    · rintro ⟨x, hx2, -⟩; cases hx2
  | some h1 =>
    rw [ww_step (pc' := pc + 1) (ls' := ls) (st' := st) (h' := h1) (by rw [hi]; show mm_k4 (mm_sA P.2.2.2.2.1 h a i x) _ = _; rw [hx]; rfl)]
    constructor
    · intro q; exact ⟨h1, rfl, q⟩
    · rintro ⟨y, hy, q⟩; cases hy; exact q
theorem wr_putfield {a n : Nat} {x : Value} (hi : P.1 k pc = .putfield n) : ww P d k pc ls (x :: .ref a :: st) h Q ↔ ∃ h', mm_sF P h a (n / 100) (n % 100) x = some h' ∧ ww P d k (pc + 3) ls st h' Q := by
  cases hx : mm_sF P h a (n / 100) (n % 100) x with
  | none =>
    constructor
    · intro q; exact ((ww_no (by rw [hi]; show mm_k4 (mm_sF P h a (n / 100) (n % 100) x) _ = none; rw [hx]; rfl)).mp q).elim
    · rintro ⟨x, hx2, -⟩; cases hx2
  | some h1 =>
    rw [ww_step (pc' := pc + 3) (ls' := ls) (st' := st) (h' := h1) (by rw [hi]; show mm_k4 (mm_sF P h a (n / 100) (n % 100) x) _ = _; rw [hx]; rfl)]
    constructor
    · intro q; exact ⟨h1, rfl, q⟩
    · rintro ⟨y, hy, q⟩; cases hy; exact q
theorem wr_aaload {a : Nat} {i : Int32} (hi : P.1 k pc = .aaload) : ww P d k pc ls (.int i :: .ref a :: st) h Q ↔ ∃ x, mm_gA P.2.2.2.2.1 h a i = some (.ref x) ∧ ww P d k (pc + 1) ls (.ref x :: st) h Q := by
  cases hx : mm_gA P.2.2.2.2.1 h a i with
  | none =>
    constructor
    · intro q; exact ((ww_no (by rw [hi]; show mm_k3 (mm_gA P.2.2.2.2.1 h a i) _ = none; rw [hx]; rfl)).mp q).elim
    · rintro ⟨x, hx2, -⟩; cases hx2
  | some v =>
    cases v with
    | ref x =>
      rw [ww_step (pc' := pc + 1) (ls' := ls) (st' := .ref x :: st) (h' := h) (by rw [hi]; show mm_k3 (mm_gA P.2.2.2.2.1 h a i) _ = _; rw [hx]; rfl)]
      constructor
      · intro q; exact ⟨x, rfl, q⟩
      · rintro ⟨y, hy, q⟩; cases hy; exact q
    | _ =>
      constructor
      · intro q; exact ((ww_no (by rw [hi]; show mm_k3 (mm_gA P.2.2.2.2.1 h a i) _ = none; rw [hx]; rfl)).mp q).elim
      · rintro ⟨x, hx2, -⟩; cases hx2
theorem wr_new {n : Nat} (hi : P.1 k pc = .new n) : ww P d k pc ls st h Q ↔ ww P d k (pc + 3) ls (.ref h.1 :: st) (mm_hn h (.inr (.inr (n, (P.2.2.1 n).map defaultValue))) (P.2.2.1 n).length) Q := ww_step (by rw [hi]; rfl)
theorem wr_max {x y : Int32} (hi : P.1 k pc = .f2i) (hw : mm_words st ≤ 8) : ww P d k pc ls (.int y :: .int x :: st) h Q ↔ ww P d k (pc + 3) ls (.int (if x < y then y else x) :: st) h Q := ww_step (by rw [hi]; exact if_pos hw)
theorem wr_min {x y : Int32} (hi : P.1 k pc = .f2l) (hw : mm_words st ≤ 8) : ww P d k pc ls (.int y :: .int x :: st) h Q ↔ ww P d k (pc + 3) ls (.int (if y < x then y else x) :: st) h Q := ww_step (by rw [hi]; exact if_pos hw)
theorem wr_abs {x : Int32} (hi : P.1 k pc = .f2d) (hw : mm_words st ≤ 8) : ww P d k pc ls (.int x :: st) h Q ↔ ww P d k (pc + 3) ls (.int (if 0 ≤ x then x else 0 - x) :: st) h Q := ww_step (by rw [hi]; exact if_pos hw)
theorem wr_objInit {a : Nat} (hi : P.1 k pc = .fadd) (hw : mm_words st ≤ 8) : ww P d k pc ls (.ref a :: st) h Q ↔ ww P d k (pc + 3) ls st h Q := ww_step (by rw [hi]; exact if_pos hw)
theorem wr_copy {a b : Nat} {sp dp n : Int32} (hi : P.1 k pc = .fsub) (hw : mm_words st ≤ 8) : ww P d k pc ls (.int n :: .int dp :: .ref a :: .int sp :: .ref b :: st) h Q ↔ ∃ h', mm_cpy h b sp a dp n = some h' ∧ ww P d k (pc + 3) ls st h' Q := by
  cases hx : mm_cpy h b sp a dp n with
  | none =>
    constructor
    · intro q; exact ((ww_no (by rw [hi]; show (if mm_words st ≤ 8 then mm_k4 (mm_cpy h b sp a dp n) _ else none) = none; rw [hx, if_pos hw]; rfl)).mp q).elim
    · rintro ⟨x, hx2, -⟩; cases hx2
  | some h1 =>
    rw [ww_step (pc' := pc + 3) (ls' := ls) (st' := st) (h' := h1) (by rw [hi]; show (if mm_words st ≤ 8 then mm_k4 (mm_cpy h b sp a dp n) _ else none) = _; rw [hx, if_pos hw]; rfl)]
    constructor
    · intro q; exact ⟨h1, rfl, q⟩
    · rintro ⟨y, hy, q⟩; cases hy; exact q
theorem wr_ireturn {x : Int32} (hi : P.1 k pc = .ireturn) (ht : mm_ret (P.2.1 k).2.2.2 (.int x) = true) : ww P d k pc ls [.int x] h Q ↔ Q (some (.int x)) h := ww_ret (by rw [hi]; exact if_pos ht)
theorem wr_lreturn {x : Int64} (hi : P.1 k pc = .lreturn) (ht : mm_ret (P.2.1 k).2.2.2 (.long x) = true) : ww P d k pc ls [.long x] h Q ↔ Q (some (.long x)) h := ww_ret (by rw [hi]; exact if_pos ht)
theorem wr_return (hi : P.1 k pc = .return_) (ht : (P.2.1 k).2.2.2 = none) : ww P d k pc ls [] h Q ↔ Q none h := ww_ret (by rw [hi]; unfold mm_step; simp only []; rw [ht])
/-- calls -/
theorem wr_static {k' : Nat} {as rest : List Value} (hi : P.1 k pc = .invokestatic k') (hc : mm_call P k' st = some (.inr (.inl (k', as, rest)))) : ww P (d + 1) k pc ls st h Q ↔ wm P d k' as h (fun r h' => ww P (d + 1) k (pc + 3) ls (r.toList ++ rest) h' Q) := ww_call (by rw [hi]; exact hc)
theorem wr_virtual {k' : Nat} {as rest : List Value} (hi : P.1 k pc = .invokevirtual k') (hr : mm_recv P h k' st = true) (hc : mm_call P k' st = some (.inr (.inl (k', as, rest)))) : ww P (d + 1) k pc ls st h Q ↔ wm P d k' as h (fun r h' => ww P (d + 1) k (pc + 3) ls (r.toList ++ rest) h' Q) := ww_call (by rw [hi]; exact (if_pos hr).trans hc)
theorem wr_special {k' : Nat} {as rest : List Value} (hi : P.1 k pc = .invokespecial k') (hr : mm_recv P h k' st = true) (hc : mm_call P k' st = some (.inr (.inl (k', as, rest)))) : ww P (d + 1) k pc ls st h Q ↔ wm P d k' as h (fun r h' => ww P (d + 1) k (pc + 3) ls (r.toList ++ rest) h' Q) := ww_call (by rw [hi]; exact (if_pos hr).trans hc)
end MW
