section RW
variable (fx : List Value → mm_H → Option (List Value × mm_H)) (d : Nat) (h : mm_H) (Q : Option Value → mm_H → Prop)
/- 215 RainGrammarModel.usual.(I)V -/
theorem q215_0 (ls : mm_V) : ww (mp_P fx) d 215 0 ls [] h Q ↔ ww (mp_P fx) d 215 1 ls [.int 0] h Q := wr_iconst (i := 0) rfl
theorem q215_1i (l0 : Option Value) (l2 : Option Value) (y : Int32) (s0 : Int32) : ww (mp_P fx) d 215 1 [l0, some (.int y), l2] [.int s0] h Q ↔ ww (mp_P fx) d 215 2 [l0, some (.int y), some (.int s0)] [] h Q := wr_istore_n rfl (mm_s1_ok (Nat.le_of_ble_eq_true rfl) rfl)
theorem q215_2 (l0 : Option Value) (l1 : Option Value) (x : Int32) : ww (mp_P fx) d 215 2 [l0, l1, some (.int x)] [] h Q ↔ ww (mp_P fx) d 215 3 [l0, l1, some (.int x)] [.int x] h Q := ww_step rfl
theorem q215_3 (ls : mm_V) (s0 : Int32) : ww (mp_P fx) d 215 3 ls [.int s0] h Q ↔ ww (mp_P fx) d 215 5 ls [.int 6, .int s0] h Q := wr_bipush (i := 6) rfl
theorem q215_5 (ls : mm_V) (s0 : Int32) (s1 : Int32) : ww (mp_P fx) d 215 5 ls [.int s0, .int s1] h Q ↔ (if s0 ≤ s1 then ww (mp_P fx) d 215 26 ls [] h Q else ww (mp_P fx) d 215 8 ls [] h Q) := wr_icmp_ge (t := 26) rfl
theorem q215_8 (l1 : Option Value) (l2 : Option Value) (x : Nat) : ww (mp_P fx) d 215 8 [some (.ref x), l1, l2] [] h Q ↔ ww (mp_P fx) d 215 9 [some (.ref x), l1, l2] [.ref x] h Q := ww_step rfl
theorem q215_9 (ls : mm_V) (s0 : Nat) : ww (mp_P fx) d 215 9 ls [.ref s0] h Q ↔ ∃ x, mm_gF h s0 10 10 = some x ∧ ww (mp_P fx) d 215 12 ls [x] h Q := wr_getfield (n := 1010) rfl
theorem q215_12 (ls : mm_V) (s0 : Nat) : ww (mp_P fx) d 215 12 ls [.ref s0] h Q ↔ ww (mp_P fx) d 215 14 ls [.int 6, .ref s0] h Q := wr_bipush (i := 6) rfl
theorem q215_14 (l0 : Option Value) (l2 : Option Value) (x : Int32) (s0 : Int32) (s1 : Nat) : ww (mp_P fx) d 215 14 [l0, some (.int x), l2] [.int s0, .ref s1] h Q ↔ ww (mp_P fx) d 215 15 [l0, some (.int x), l2] [.int x, .int s0, .ref s1] h Q := ww_step rfl
theorem q215_15 (ls : mm_V) (s0 : Int32) (s1 : Int32) (s2 : Nat) : ww (mp_P fx) d 215 15 ls [.int s0, .int s1, .ref s2] h Q ↔ ww (mp_P fx) d 215 16 ls [.int (s1 * s0), .ref s2] h Q := wr_imul rfl
theorem q215_16 (l0 : Option Value) (l1 : Option Value) (x : Int32) (s0 : Int32) (s1 : Nat) : ww (mp_P fx) d 215 16 [l0, l1, some (.int x)] [.int s0, .ref s1] h Q ↔ ww (mp_P fx) d 215 17 [l0, l1, some (.int x)] [.int x, .int s0, .ref s1] h Q := ww_step rfl
theorem q215_17 (ls : mm_V) (s0 : Int32) (s1 : Int32) (s2 : Nat) : ww (mp_P fx) d 215 17 ls [.int s0, .int s1, .ref s2] h Q ↔ ww (mp_P fx) d 215 18 ls [.int (s1 + s0), .ref s2] h Q := wr_iadd rfl
theorem q215_18 (ls : mm_V) (s0 : Int32) (s1 : Nat) : ww (mp_P fx) d 215 18 ls [.int s0, .ref s1] h Q ↔ ww (mp_P fx) d 215 19 ls [.int 0, .int s0, .ref s1] h Q := wr_iconst (i := 0) rfl
theorem q215_19 (ls : mm_V) (s0 : Int32) (s1 : Int32) (s2 : Nat) : ww (mp_P fx) d 215 19 ls [.int s0, .int s1, .ref s2] h Q ↔ ∃ h', mm_sI h s2 0 s1 s0 = some h' ∧ ww (mp_P fx) d 215 20 ls [] h' Q := wr_iastore rfl
theorem q215_20i (l0 : Option Value) (x : Int32) (y : Int32) : ww (mp_P fx) d 215 20 [l0, some (.int y), some (.int x)] [] h Q ↔ ww (mp_P fx) d 215 23 [l0, some (.int y), some (.int (x + 1))] [] h Q := wr_iinc (n := 2) (i := 1) rfl rfl (mm_s1_ok (Nat.le_of_ble_eq_true rfl) rfl)
theorem q215_23 (ls : mm_V) : ww (mp_P fx) d 215 23 ls [] h Q ↔ ww (mp_P fx) d 215 2 ls [] h Q := wr_goto (t := 2) rfl
theorem q215_26 (l1 : Option Value) (l2 : Option Value) (x : Nat) : ww (mp_P fx) d 215 26 [some (.ref x), l1, l2] [] h Q ↔ ww (mp_P fx) d 215 27 [some (.ref x), l1, l2] [.ref x] h Q := ww_step rfl
theorem q215_27 (ls : mm_V) (s0 : Nat) : ww (mp_P fx) d 215 27 ls [.ref s0] h Q ↔ ∃ x, mm_gF h s0 10 10 = some x ∧ ww (mp_P fx) d 215 30 ls [x] h Q := wr_getfield (n := 1010) rfl
theorem q215_30 (ls : mm_V) (s0 : Nat) : ww (mp_P fx) d 215 30 ls [.ref s0] h Q ↔ ww (mp_P fx) d 215 32 ls [.int 6, .ref s0] h Q := wr_bipush (i := 6) rfl
theorem q215_32 (l0 : Option Value) (l2 : Option Value) (x : Int32) (s0 : Int32) (s1 : Nat) : ww (mp_P fx) d 215 32 [l0, some (.int x), l2] [.int s0, .ref s1] h Q ↔ ww (mp_P fx) d 215 33 [l0, some (.int x), l2] [.int x, .int s0, .ref s1] h Q := ww_step rfl
theorem q215_33 (ls : mm_V) (s0 : Int32) (s1 : Int32) (s2 : Nat) : ww (mp_P fx) d 215 33 ls [.int s0, .int s1, .ref s2] h Q ↔ ww (mp_P fx) d 215 34 ls [.int (s1 * s0), .ref s2] h Q := wr_imul rfl
theorem q215_34 (ls : mm_V) (s0 : Int32) (s1 : Nat) : ww (mp_P fx) d 215 34 ls [.int s0, .ref s1] h Q ↔ ww (mp_P fx) d 215 35 ls [.int 4, .int s0, .ref s1] h Q := wr_iconst (i := 4) rfl
theorem q215_35 (ls : mm_V) (s0 : Int32) (s1 : Int32) (s2 : Nat) : ww (mp_P fx) d 215 35 ls [.int s0, .int s1, .ref s2] h Q ↔ ww (mp_P fx) d 215 36 ls [.int (s1 + s0), .ref s2] h Q := wr_iadd rfl
theorem q215_36 (ls : mm_V) (s0 : Int32) (s1 : Nat) : ww (mp_P fx) d 215 36 ls [.int s0, .ref s1] h Q ↔ ww (mp_P fx) d 215 37 ls [.int (-1), .int s0, .ref s1] h Q := wr_iconst (i := (-1)) rfl
theorem q215_37 (ls : mm_V) (s0 : Int32) (s1 : Int32) (s2 : Nat) : ww (mp_P fx) d 215 37 ls [.int s0, .int s1, .ref s2] h Q ↔ ∃ h', mm_sI h s2 0 s1 s0 = some h' ∧ ww (mp_P fx) d 215 38 ls [] h' Q := wr_iastore rfl
theorem q215_38 (ls : mm_V) : ww (mp_P fx) d 215 38 ls [] h Q ↔ Q none h := wr_return rfl rfl
theorem e215 (a0 : Nat) (a1 : Int32) : wm (mp_P fx) d 215 [.ref a0, .int a1] h Q ↔ ww (mp_P fx) d 215 0 [some (.ref a0), some (.int a1), none] [] h Q := Iff.rfl
/- 216 RainGrammarModel.fresh0.()V -/
theorem q216_0 (ls : mm_V) : ww (mp_P fx) d 216 0 ls [] h Q ↔ ww (mp_P fx) d 216 1 ls [.int 0] h Q := wr_iconst (i := 0) rfl
theorem q216_1r (l1 : Option Value) (y : Nat) (s0 : Int32) : ww (mp_P fx) d 216 1 [some (.ref y), l1] [.int s0] h Q ↔ ww (mp_P fx) d 216 2 [some (.ref y), some (.int s0)] [] h Q := wr_istore_n rfl (mm_s1_ok (Nat.le_of_ble_eq_true rfl) rfl)
theorem q216_2 (l0 : Option Value) (x : Int32) : ww (mp_P fx) d 216 2 [l0, some (.int x)] [] h Q ↔ ww (mp_P fx) d 216 3 [l0, some (.int x)] [.int x] h Q := ww_step rfl
theorem q216_3 (ls : mm_V) (s0 : Int32) : ww (mp_P fx) d 216 3 ls [.int s0] h Q ↔ ww (mp_P fx) d 216 5 ls [.int 9, .int s0] h Q := wr_bipush (i := 9) rfl
theorem q216_5 (ls : mm_V) (s0 : Int32) (s1 : Int32) : ww (mp_P fx) d 216 5 ls [.int s0, .int s1] h Q ↔ (if s0 ≤ s1 then ww (mp_P fx) d 216 21 ls [] h Q else ww (mp_P fx) d 216 8 ls [] h Q) := wr_icmp_ge (t := 21) rfl
theorem q216_8 (l1 : Option Value) (x : Nat) : ww (mp_P fx) d 216 8 [some (.ref x), l1] [] h Q ↔ ww (mp_P fx) d 216 9 [some (.ref x), l1] [.ref x] h Q := ww_step rfl
theorem q216_9 (ls : mm_V) (s0 : Nat) : ww (mp_P fx) d 216 9 ls [.ref s0] h Q ↔ ∃ x, mm_gF h s0 10 50 = some x ∧ ww (mp_P fx) d 216 12 ls [x] h Q := wr_getfield (n := 1050) rfl
theorem q216_12 (l0 : Option Value) (x : Int32) (s0 : Nat) : ww (mp_P fx) d 216 12 [l0, some (.int x)] [.ref s0] h Q ↔ ww (mp_P fx) d 216 13 [l0, some (.int x)] [.int x, .ref s0] h Q := ww_step rfl
theorem q216_13 (ls : mm_V) (s0 : Int32) (s1 : Nat) : ww (mp_P fx) d 216 13 ls [.int s0, .ref s1] h Q ↔ ww (mp_P fx) d 216 14 ls [.int 0, .int s0, .ref s1] h Q := wr_iconst (i := 0) rfl
theorem q216_14 (ls : mm_V) (s0 : Int32) (s1 : Int32) (s2 : Nat) : ww (mp_P fx) d 216 14 ls [.int s0, .int s1, .ref s2] h Q ↔ ∃ h', mm_sI h s2 0 s1 s0 = some h' ∧ ww (mp_P fx) d 216 15 ls [] h' Q := wr_iastore rfl
theorem q216_15r  (x : Int32) (y : Nat) : ww (mp_P fx) d 216 15 [some (.ref y), some (.int x)] [] h Q ↔ ww (mp_P fx) d 216 18 [some (.ref y), some (.int (x + 1))] [] h Q := wr_iinc (n := 1) (i := 1) rfl rfl (mm_s1_ok (Nat.le_of_ble_eq_true rfl) rfl)
theorem q216_18 (ls : mm_V) : ww (mp_P fx) d 216 18 ls [] h Q ↔ ww (mp_P fx) d 216 2 ls [] h Q := wr_goto (t := 2) rfl
theorem q216_21 (l1 : Option Value) (x : Nat) : ww (mp_P fx) d 216 21 [some (.ref x), l1] [] h Q ↔ ww (mp_P fx) d 216 22 [some (.ref x), l1] [.ref x] h Q := ww_step rfl
theorem q216_22 (ls : mm_V) (s0 : Nat) : ww (mp_P fx) d 216 22 ls [.ref s0] h Q ↔ ∃ x, mm_gF h s0 10 50 = some x ∧ ww (mp_P fx) d 216 25 ls [x] h Q := wr_getfield (n := 1050) rfl
theorem q216_25 (ls : mm_V) (s0 : Nat) : ww (mp_P fx) d 216 25 ls [.ref s0] h Q ↔ ww (mp_P fx) d 216 26 ls [.int 1, .ref s0] h Q := wr_iconst (i := 1) rfl
theorem q216_26 (ls : mm_V) (s0 : Int32) (s1 : Nat) : ww (mp_P fx) d 216 26 ls [.int s0, .ref s1] h Q ↔ ww (mp_P fx) d 216 27 ls [.int 1, .int s0, .ref s1] h Q := wr_iconst (i := 1) rfl
theorem q216_27 (l1 : Option Value) (x : Nat) (s0 : Int32) (s1 : Int32) (s2 : Nat) : ww (mp_P fx) d 216 27 [some (.ref x), l1] [.int s0, .int s1, .ref s2] h Q ↔ ww (mp_P fx) d 216 28 [some (.ref x), l1] [.ref x, .int s0, .int s1, .ref s2] h Q := ww_step rfl
theorem q216_28 (ls : mm_V) (s0 : Nat) (s1 : Int32) (s2 : Int32) (s3 : Nat) : ww (mp_P fx) d 216 28 ls [.ref s0, .int s1, .int s2, .ref s3] h Q ↔ ∃ x, mm_gF h s0 10 10 = some x ∧ ww (mp_P fx) d 216 31 ls [x, .int s1, .int s2, .ref s3] h Q := wr_getfield (n := 1010) rfl
theorem q216_31 (ls : mm_V) (s0 : Nat) (s1 : Int32) (s2 : Int32) (s3 : Nat) : ww (mp_P fx) d 216 31 ls [.ref s0, .int s1, .int s2, .ref s3] h Q ↔ ww (mp_P fx) d 216 32 ls [.int 3, .ref s0, .int s1, .int s2, .ref s3] h Q := wr_iconst (i := 3) rfl
theorem q216_32 (ls : mm_V) (s0 : Int32) (s1 : Nat) (s2 : Int32) (s3 : Int32) (s4 : Nat) : ww (mp_P fx) d 216 32 ls [.int s0, .ref s1, .int s2, .int s3, .ref s4] h Q ↔ ∃ x, mm_gI h s1 0 9 s0 = some x ∧ ww (mp_P fx) d 216 33 ls [.int x, .int s2, .int s3, .ref s4] h Q := wr_iaload rfl
theorem q216_33 (ls : mm_V) (s0 : Int32) (s1 : Int32) (s2 : Int32) (s3 : Nat) : ww (mp_P fx) d 216 33 ls [.int s0, .int s1, .int s2, .ref s3] h Q ↔ ww (mp_P fx) d 216 34 ls [.int (s1 <<< (s0 &&& 31)), .int s2, .ref s3] h Q := wr_ishl rfl
theorem q216_34 (ls : mm_V) (s0 : Int32) (s1 : Int32) (s2 : Nat) : ww (mp_P fx) d 216 34 ls [.int s0, .int s1, .ref s2] h Q ↔ ww (mp_P fx) d 216 35 ls [.int 1, .int s0, .int s1, .ref s2] h Q := wr_iconst (i := 1) rfl
theorem q216_35 (ls : mm_V) (s0 : Int32) (s1 : Int32) (s2 : Int32) (s3 : Nat) : ww (mp_P fx) d 216 35 ls [.int s0, .int s1, .int s2, .ref s3] h Q ↔ ww (mp_P fx) d 216 36 ls [.int (s1 - s0), .int s2, .ref s3] h Q := wr_isub rfl
theorem q216_36 (ls : mm_V) (s0 : Int32) (s1 : Int32) (s2 : Nat) : ww (mp_P fx) d 216 36 ls [.int s0, .int s1, .ref s2] h Q ↔ ∃ h', mm_sI h s2 0 s1 s0 = some h' ∧ ww (mp_P fx) d 216 37 ls [] h' Q := wr_iastore rfl
theorem q216_37 (ls : mm_V) : ww (mp_P fx) d 216 37 ls [] h Q ↔ ww (mp_P fx) d 216 38 ls [.int 0] h Q := wr_iconst (i := 0) rfl
theorem q216_38r (l1 : Option Value) (y : Nat) (s0 : Int32) : ww (mp_P fx) d 216 38 [some (.ref y), l1] [.int s0] h Q ↔ ww (mp_P fx) d 216 39 [some (.ref y), some (.int s0)] [] h Q := wr_istore_n rfl (mm_s1_ok (Nat.le_of_ble_eq_true rfl) rfl)
theorem q216_39 (l0 : Option Value) (x : Int32) : ww (mp_P fx) d 216 39 [l0, some (.int x)] [] h Q ↔ ww (mp_P fx) d 216 40 [l0, some (.int x)] [.int x] h Q := ww_step rfl
theorem q216_40 (l1 : Option Value) (x : Nat) (s0 : Int32) : ww (mp_P fx) d 216 40 [some (.ref x), l1] [.int s0] h Q ↔ ww (mp_P fx) d 216 41 [some (.ref x), l1] [.ref x, .int s0] h Q := ww_step rfl
theorem q216_41 (ls : mm_V) (s0 : Nat) (s1 : Int32) : ww (mp_P fx) d 216 41 ls [.ref s0, .int s1] h Q ↔ ∃ x, mm_gF h s0 10 10 = some x ∧ ww (mp_P fx) d 216 44 ls [x, .int s1] h Q := wr_getfield (n := 1010) rfl
theorem q216_44 (ls : mm_V) (s0 : Nat) (s1 : Int32) : ww (mp_P fx) d 216 44 ls [.ref s0, .int s1] h Q ↔ ww (mp_P fx) d 216 45 ls [.int 3, .ref s0, .int s1] h Q := wr_iconst (i := 3) rfl
theorem q216_45 (ls : mm_V) (s0 : Int32) (s1 : Nat) (s2 : Int32) : ww (mp_P fx) d 216 45 ls [.int s0, .ref s1, .int s2] h Q ↔ ∃ x, mm_gI h s1 0 9 s0 = some x ∧ ww (mp_P fx) d 216 46 ls [.int x, .int s2] h Q := wr_iaload rfl
theorem q216_46 (ls : mm_V) (s0 : Int32) (s1 : Int32) : ww (mp_P fx) d 216 46 ls [.int s0, .int s1] h Q ↔ (if s0 ≤ s1 then ww (mp_P fx) d 216 69 ls [] h Q else ww (mp_P fx) d 216 49 ls [] h Q) := wr_icmp_ge (t := 69) rfl
theorem q216_49 (l1 : Option Value) (x : Nat) : ww (mp_P fx) d 216 49 [some (.ref x), l1] [] h Q ↔ ww (mp_P fx) d 216 50 [some (.ref x), l1] [.ref x] h Q := ww_step rfl
theorem q216_50 (ls : mm_V) (s0 : Nat) : ww (mp_P fx) d 216 50 ls [.ref s0] h Q ↔ ∃ x, mm_gF h s0 10 50 = some x ∧ ww (mp_P fx) d 216 53 ls [x] h Q := wr_getfield (n := 1050) rfl
theorem q216_53 (ls : mm_V) (s0 : Nat) : ww (mp_P fx) d 216 53 ls [.ref s0] h Q ↔ ww (mp_P fx) d 216 54 ls [.int 2, .ref s0] h Q := wr_iconst (i := 2) rfl
theorem q216_54 (l0 : Option Value) (x : Int32) (s0 : Int32) (s1 : Nat) : ww (mp_P fx) d 216 54 [l0, some (.int x)] [.int s0, .ref s1] h Q ↔ ww (mp_P fx) d 216 55 [l0, some (.int x)] [.int x, .int s0, .ref s1] h Q := ww_step rfl
theorem q216_55 (ls : mm_V) (s0 : Int32) (s1 : Int32) (s2 : Nat) : ww (mp_P fx) d 216 55 ls [.int s0, .int s1, .ref s2] h Q ↔ ww (mp_P fx) d 216 56 ls [.int (s1 + s0), .ref s2] h Q := wr_iadd rfl
theorem q216_56 (l1 : Option Value) (x : Nat) (s0 : Int32) (s1 : Nat) : ww (mp_P fx) d 216 56 [some (.ref x), l1] [.int s0, .ref s1] h Q ↔ ww (mp_P fx) d 216 57 [some (.ref x), l1] [.ref x, .int s0, .ref s1] h Q := ww_step rfl
theorem q216_57 (ls : mm_V) (s0 : Nat) (s1 : Int32) (s2 : Nat) : ww (mp_P fx) d 216 57 ls [.ref s0, .int s1, .ref s2] h Q ↔ ∃ x, mm_gF h s0 10 18 = some x ∧ ww (mp_P fx) d 216 60 ls [x, .int s1, .ref s2] h Q := wr_getfield (n := 1018) rfl
theorem q216_60 (l0 : Option Value) (x : Int32) (s0 : Nat) (s1 : Int32) (s2 : Nat) : ww (mp_P fx) d 216 60 [l0, some (.int x)] [.ref s0, .int s1, .ref s2] h Q ↔ ww (mp_P fx) d 216 61 [l0, some (.int x)] [.int x, .ref s0, .int s1, .ref s2] h Q := ww_step rfl
theorem q216_61 (ls : mm_V) (s0 : Int32) (s1 : Nat) (s2 : Int32) (s3 : Nat) : ww (mp_P fx) d 216 61 ls [.int s0, .ref s1, .int s2, .ref s3] h Q ↔ ∃ x, mm_gI h s1 0 9 s0 = some x ∧ ww (mp_P fx) d 216 62 ls [.int x, .int s2, .ref s3] h Q := wr_iaload rfl
theorem q216_62 (ls : mm_V) (s0 : Int32) (s1 : Int32) (s2 : Nat) : ww (mp_P fx) d 216 62 ls [.int s0, .int s1, .ref s2] h Q ↔ ∃ h', mm_sI h s2 0 s1 s0 = some h' ∧ ww (mp_P fx) d 216 63 ls [] h' Q := wr_iastore rfl
theorem q216_63r  (x : Int32) (y : Nat) : ww (mp_P fx) d 216 63 [some (.ref y), some (.int x)] [] h Q ↔ ww (mp_P fx) d 216 66 [some (.ref y), some (.int (x + 1))] [] h Q := wr_iinc (n := 1) (i := 1) rfl rfl (mm_s1_ok (Nat.le_of_ble_eq_true rfl) rfl)
theorem q216_66 (ls : mm_V) : ww (mp_P fx) d 216 66 ls [] h Q ↔ ww (mp_P fx) d 216 39 ls [] h Q := wr_goto (t := 39) rfl
theorem q216_69 (ls : mm_V) : ww (mp_P fx) d 216 69 ls [] h Q ↔ Q none h := wr_return rfl rfl
theorem e216 (a0 : Nat) : wm (mp_P fx) d 216 [.ref a0] h Q ↔ ww (mp_P fx) d 216 0 [some (.ref a0), none] [] h Q := Iff.rfl
/- 217 RainGrammarModel.thrown.()I -/
theorem q217_0  (x : Nat) : ww (mp_P fx) d 217 0 [some (.ref x)] [] h Q ↔ ww (mp_P fx) d 217 1 [some (.ref x)] [.ref x] h Q := ww_step rfl
theorem q217_1 (ls : mm_V) (s0 : Nat) : ww (mp_P fx) d 217 1 ls [.ref s0] h Q ↔ ∃ x, mm_gF h s0 10 0 = some x ∧ ww (mp_P fx) d 217 4 ls [x] h Q := wr_getfield (n := 1000) rfl
theorem q217_4 (ls : mm_V) (s0 : Int32) : ww (mp_P fx) d 217 4 ls [.int s0] h Q ↔ Q (some (.int s0)) h := wr_ireturn rfl rfl
theorem e217 (a0 : Nat) : wm (mp_P fx) d 217 [.ref a0] h Q ↔ ww (mp_P fx) d 217 0 [some (.ref a0)] [] h Q := Iff.rfl
/- 218 RainGrammarModel.feed.(JJJ)I -/
theorem q218_0 (l1 : Option Value) (l2 : Option Value) (l3 : Option Value) (l4 : Option Value) (l5 : Option Value) (l6 : Option Value) (l7 : Option Value) (l8 : Option Value) (l9 : Option Value) (l10 : Option Value) (x : Nat) : ww (mp_P fx) d 218 0 [some (.ref x), l1, l2, l3, l4, l5, l6, l7, l8, l9, l10] [] h Q ↔ ww (mp_P fx) d 218 1 [some (.ref x), l1, l2, l3, l4, l5, l6, l7, l8, l9, l10] [.ref x] h Q := ww_step rfl
theorem q218_1 (ls : mm_V) (s0 : Nat) : ww (mp_P fx) d 218 1 ls [.ref s0] h Q ↔ ww (mp_P fx) d 218 2 ls [.int 0, .ref s0] h Q := wr_iconst (i := 0) rfl
theorem q218_2 (ls : mm_V) (s0 : Int32) (s1 : Nat) : ww (mp_P fx) d 218 2 ls [.int s0, .ref s1] h Q ↔ ∃ h', mm_sF (mp_P fx) h s1 10 0 (.int s0) = some h' ∧ ww (mp_P fx) d 218 5 ls [] h' Q := wr_putfield (n := 1000) rfl
theorem q218_5 (ls : mm_V) : ww (mp_P fx) d 218 5 ls [] h Q ↔ ww (mp_P fx) d 218 6 ls [.int 0] h Q := wr_iconst (i := 0) rfl
theorem q218_6n (l0 : Option Value) (l1 : Option Value) (l2 : Option Value) (l3 : Option Value) (l4 : Option Value) (l5 : Option Value) (l7 : Option Value) (l8 : Option Value) (l9 : Option Value) (l10 : Option Value) (s0 : Int32) : ww (mp_P fx) d 218 6 [l0, l1, l2, l3, l4, l5, none, l7, l8, l9, l10] [.int s0] h Q ↔ ww (mp_P fx) d 218 8 [l0, l1, l2, l3, l4, l5, none, some (.int s0), l8, l9, l10] [] h Q := wr_istore rfl (mm_s1_ok (Nat.le_of_ble_eq_true rfl) rfl)
theorem q218_8 (l0 : Option Value) (l1 : Option Value) (l2 : Option Value) (l3 : Option Value) (l4 : Option Value) (l5 : Option Value) (l6 : Option Value) (l8 : Option Value) (l9 : Option Value) (l10 : Option Value) (x : Int32) : ww (mp_P fx) d 218 8 [l0, l1, l2, l3, l4, l5, l6, some (.int x), l8, l9, l10] [] h Q ↔ ww (mp_P fx) d 218 10 [l0, l1, l2, l3, l4, l5, l6, some (.int x), l8, l9, l10] [.int x] h Q := ww_step rfl
theorem q218_10 (ls : mm_V) (s0 : Int32) : ww (mp_P fx) d 218 10 ls [.int s0] h Q ↔ ww (mp_P fx) d 218 12 ls [.int 24, .int s0] h Q := wr_bipush (i := 24) rfl
theorem q218_12 (ls : mm_V) (s0 : Int32) (s1 : Int32) : ww (mp_P fx) d 218 12 ls [.int s0, .int s1] h Q ↔ (if s0 ≤ s1 then ww (mp_P fx) d 218 120 ls [] h Q else ww (mp_P fx) d 218 15 ls [] h Q) := wr_icmp_ge (t := 120) rfl
theorem q218_15 (l0 : Option Value) (l1 : Option Value) (l2 : Option Value) (l3 : Option Value) (l4 : Option Value) (l5 : Option Value) (l6 : Option Value) (l8 : Option Value) (l9 : Option Value) (l10 : Option Value) (x : Int32) : ww (mp_P fx) d 218 15 [l0, l1, l2, l3, l4, l5, l6, some (.int x), l8, l9, l10] [] h Q ↔ ww (mp_P fx) d 218 17 [l0, l1, l2, l3, l4, l5, l6, some (.int x), l8, l9, l10] [.int x] h Q := ww_step rfl
theorem q218_17 (ls : mm_V) (s0 : Int32) : ww (mp_P fx) d 218 17 ls [.int s0] h Q ↔ ww (mp_P fx) d 218 19 ls [.int 8, .int s0] h Q := wr_bipush (i := 8) rfl
theorem q218_19 (ls : mm_V) (s0 : Int32) (s1 : Int32) : ww (mp_P fx) d 218 19 ls [.int s0, .int s1] h Q ↔ (if s0 ≤ s1 then ww (mp_P fx) d 218 26 ls [] h Q else ww (mp_P fx) d 218 22 ls [] h Q) := wr_icmp_ge (t := 26) rfl
theorem q218_22 (l0 : Option Value) (l2 : Option Value) (l3 : Option Value) (l4 : Option Value) (l5 : Option Value) (l6 : Option Value) (l7 : Option Value) (l8 : Option Value) (l9 : Option Value) (l10 : Option Value) (x : Int64) : ww (mp_P fx) d 218 22 [l0, some (.long x), l2, l3, l4, l5, l6, l7, l8, l9, l10] [] h Q ↔ ww (mp_P fx) d 218 23 [l0, some (.long x), l2, l3, l4, l5, l6, l7, l8, l9, l10] [.long x] h Q := ww_step rfl
theorem q218_23 (ls : mm_V) (s0 : Int64) : ww (mp_P fx) d 218 23 ls [.long s0] h Q ↔ ww (mp_P fx) d 218 39 ls [.long s0] h Q := wr_goto (t := 39) rfl
theorem q218_26 (l0 : Option Value) (l1 : Option Value) (l2 : Option Value) (l3 : Option Value) (l4 : Option Value) (l5 : Option Value) (l6 : Option Value) (l8 : Option Value) (l9 : Option Value) (l10 : Option Value) (x : Int32) : ww (mp_P fx) d 218 26 [l0, l1, l2, l3, l4, l5, l6, some (.int x), l8, l9, l10] [] h Q ↔ ww (mp_P fx) d 218 28 [l0, l1, l2, l3, l4, l5, l6, some (.int x), l8, l9, l10] [.int x] h Q := ww_step rfl
theorem q218_28 (ls : mm_V) (s0 : Int32) : ww (mp_P fx) d 218 28 ls [.int s0] h Q ↔ ww (mp_P fx) d 218 30 ls [.int 16, .int s0] h Q := wr_bipush (i := 16) rfl
theorem q218_30 (ls : mm_V) (s0 : Int32) (s1 : Int32) : ww (mp_P fx) d 218 30 ls [.int s0, .int s1] h Q ↔ (if s0 ≤ s1 then ww (mp_P fx) d 218 37 ls [] h Q else ww (mp_P fx) d 218 33 ls [] h Q) := wr_icmp_ge (t := 37) rfl
theorem q218_33 (l0 : Option Value) (l1 : Option Value) (l2 : Option Value) (l4 : Option Value) (l5 : Option Value) (l6 : Option Value) (l7 : Option Value) (l8 : Option Value) (l9 : Option Value) (l10 : Option Value) (x : Int64) : ww (mp_P fx) d 218 33 [l0, l1, l2, some (.long x), l4, l5, l6, l7, l8, l9, l10] [] h Q ↔ ww (mp_P fx) d 218 34 [l0, l1, l2, some (.long x), l4, l5, l6, l7, l8, l9, l10] [.long x] h Q := ww_step rfl
theorem q218_34 (ls : mm_V) (s0 : Int64) : ww (mp_P fx) d 218 34 ls [.long s0] h Q ↔ ww (mp_P fx) d 218 39 ls [.long s0] h Q := wr_goto (t := 39) rfl
theorem q218_37 (l0 : Option Value) (l1 : Option Value) (l2 : Option Value) (l3 : Option Value) (l4 : Option Value) (l6 : Option Value) (l7 : Option Value) (l8 : Option Value) (l9 : Option Value) (l10 : Option Value) (x : Int64) : ww (mp_P fx) d 218 37 [l0, l1, l2, l3, l4, some (.long x), l6, l7, l8, l9, l10] [] h Q ↔ ww (mp_P fx) d 218 39 [l0, l1, l2, l3, l4, some (.long x), l6, l7, l8, l9, l10] [.long x] h Q := ww_step rfl
theorem q218_39i (l0 : Option Value) (l1 : Option Value) (l2 : Option Value) (l3 : Option Value) (l4 : Option Value) (l5 : Option Value) (l6 : Option Value) (l8 : Option Value) (l9 : Option Value) (l10 : Option Value) (y : Int32) (s0 : Int64) : ww (mp_P fx) d 218 39 [l0, l1, l2, l3, l4, l5, l6, some (.int y), l8, l9, l10] [.long s0] h Q ↔ ww (mp_P fx) d 218 41 [l0, l1, l2, l3, l4, l5, l6, some (.int y), some (.long s0), none, l10] [] h Q := wr_lstore rfl (mm_s2_ok (Nat.le_of_ble_eq_true rfl) rfl)
theorem q218_41 (l0 : Option Value) (l1 : Option Value) (l2 : Option Value) (l3 : Option Value) (l4 : Option Value) (l5 : Option Value) (l6 : Option Value) (l7 : Option Value) (l9 : Option Value) (l10 : Option Value) (x : Int64) : ww (mp_P fx) d 218 41 [l0, l1, l2, l3, l4, l5, l6, l7, some (.long x), l9, l10] [] h Q ↔ ww (mp_P fx) d 218 43 [l0, l1, l2, l3, l4, l5, l6, l7, some (.long x), l9, l10] [.long x] h Q := ww_step rfl
theorem q218_43 (ls : mm_V) (s0 : Int64) : ww (mp_P fx) d 218 43 ls [.long s0] h Q ↔ ww (mp_P fx) d 218 45 ls [.int 56, .long s0] h Q := wr_bipush (i := 56) rfl
theorem q218_45 (ls : mm_V) (s0 : Int32) (s1 : Int64) : ww (mp_P fx) d 218 45 ls [.int s0, .long s1] h Q ↔ ww (mp_P fx) d 218 47 ls [.int 8, .int s0, .long s1] h Q := wr_bipush (i := 8) rfl
theorem q218_47 (l0 : Option Value) (l1 : Option Value) (l2 : Option Value) (l3 : Option Value) (l4 : Option Value) (l5 : Option Value) (l6 : Option Value) (l8 : Option Value) (l9 : Option Value) (l10 : Option Value) (x : Int32) (s0 : Int32) (s1 : Int32) (s2 : Int64) : ww (mp_P fx) d 218 47 [l0, l1, l2, l3, l4, l5, l6, some (.int x), l8, l9, l10] [.int s0, .int s1, .long s2] h Q ↔ ww (mp_P fx) d 218 49 [l0, l1, l2, l3, l4, l5, l6, some (.int x), l8, l9, l10] [.int x, .int s0, .int s1, .long s2] h Q := ww_step rfl
theorem q218_49 (ls : mm_V) (s0 : Int32) (s1 : Int32) (s2 : Int32) (s3 : Int64) : ww (mp_P fx) d 218 49 ls [.int s0, .int s1, .int s2, .long s3] h Q ↔ ww (mp_P fx) d 218 51 ls [.int 7, .int s0, .int s1, .int s2, .long s3] h Q := wr_bipush (i := 7) rfl
theorem q218_51 (ls : mm_V) (s0 : Int32) (s1 : Int32) (s2 : Int32) (s3 : Int32) (s4 : Int64) : ww (mp_P fx) d 218 51 ls [.int s0, .int s1, .int s2, .int s3, .long s4] h Q ↔ ww (mp_P fx) d 218 52 ls [.int (s1 &&& s0), .int s2, .int s3, .long s4] h Q := wr_iand rfl
theorem q218_52 (ls : mm_V) (s0 : Int32) (s1 : Int32) (s2 : Int32) (s3 : Int64) : ww (mp_P fx) d 218 52 ls [.int s0, .int s1, .int s2, .long s3] h Q ↔ ww (mp_P fx) d 218 53 ls [.int (s1 * s0), .int s2, .long s3] h Q := wr_imul rfl
theorem q218_53 (ls : mm_V) (s0 : Int32) (s1 : Int32) (s2 : Int64) : ww (mp_P fx) d 218 53 ls [.int s0, .int s1, .long s2] h Q ↔ ww (mp_P fx) d 218 54 ls [.int (s1 - s0), .long s2] h Q := wr_isub rfl
theorem q218_54 (ls : mm_V) (s0 : Int32) (s1 : Int64) : ww (mp_P fx) d 218 54 ls [.int s0, .long s1] h Q ↔ ww (mp_P fx) d 218 55 ls [.long (s1.toUInt64 >>> (s0.toInt64.toUInt64 &&& Int64.toUInt64 63)).toInt64] h Q := wr_lushr rfl
theorem q218_55 (ls : mm_V) (s0 : Int64) : ww (mp_P fx) d 218 55 ls [.long s0] h Q ↔ ww (mp_P fx) d 218 58 ls [.long 255, .long s0] h Q := wr_ldc2_w (i := 255) rfl
theorem q218_58 (ls : mm_V) (s0 : Int64) (s1 : Int64) : ww (mp_P fx) d 218 58 ls [.long s0, .long s1] h Q ↔ ww (mp_P fx) d 218 59 ls [.long (s1 &&& s0)] h Q := wr_land rfl
theorem q218_59 (ls : mm_V) (s0 : Int64) : ww (mp_P fx) d 218 59 ls [.long s0] h Q ↔ ww (mp_P fx) d 218 60 ls [.int s0.toInt32] h Q := wr_l2i rfl
theorem q218_60n (l0 : Option Value) (l1 : Option Value) (l2 : Option Value) (l3 : Option Value) (l4 : Option Value) (l5 : Option Value) (l6 : Option Value) (l7 : Option Value) (l8 : Option Value) (l10 : Option Value) (s0 : Int32) : ww (mp_P fx) d 218 60 [l0, l1, l2, l3, l4, l5, l6, l7, l8, none, l10] [.int s0] h Q ↔ ww (mp_P fx) d 218 62 [l0, l1, l2, l3, l4, l5, l6, l7, l8, none, some (.int s0)] [] h Q := wr_istore rfl (mm_s1_ok (Nat.le_of_ble_eq_true rfl) rfl)
theorem q218_62 (l1 : Option Value) (l2 : Option Value) (l3 : Option Value) (l4 : Option Value) (l5 : Option Value) (l6 : Option Value) (l7 : Option Value) (l8 : Option Value) (l9 : Option Value) (l10 : Option Value) (x : Nat) : ww (mp_P fx) d 218 62 [some (.ref x), l1, l2, l3, l4, l5, l6, l7, l8, l9, l10] [] h Q ↔ ww (mp_P fx) d 218 63 [some (.ref x), l1, l2, l3, l4, l5, l6, l7, l8, l9, l10] [.ref x] h Q := ww_step rfl
theorem q218_63 (ls : mm_V) (s0 : Nat) : ww (mp_P fx) d 218 63 ls [.ref s0] h Q ↔ ∃ x, mm_gF h s0 10 1 = some x ∧ ww (mp_P fx) d 218 66 ls [x] h Q := wr_getfield (n := 1001) rfl
theorem q218_66 (ls : mm_V) (s0 : Int32) : ww (mp_P fx) d 218 66 ls [.int s0] h Q ↔ ww (mp_P fx) d 218 69 ls [.int 1000, .int s0] h Q := wr_sipush (i := 1000) rfl
theorem q218_69 (ls : mm_V) (s0 : Int32) (s1 : Int32) : ww (mp_P fx) d 218 69 ls [.int s0, .int s1] h Q ↔ (if s0 ≤ s1 then ww (mp_P fx) d 218 114 ls [] h Q else ww (mp_P fx) d 218 72 ls [] h Q) := wr_icmp_ge (t := 114) rfl
theorem q218_72 (l0 : Option Value) (l1 : Option Value) (l2 : Option Value) (l3 : Option Value) (l4 : Option Value) (l5 : Option Value) (l6 : Option Value) (l7 : Option Value) (l8 : Option Value) (l9 : Option Value) (x : Int32) : ww (mp_P fx) d 218 72 [l0, l1, l2, l3, l4, l5, l6, l7, l8, l9, some (.int x)] [] h Q ↔ ww (mp_P fx) d 218 74 [l0, l1, l2, l3, l4, l5, l6, l7, l8, l9, some (.int x)] [.int x] h Q := ww_step rfl
theorem q218_74 (ls : mm_V) (s0 : Int32) : ww (mp_P fx) d 218 74 ls [.int s0] h Q ↔ ww (mp_P fx) d 218 76 ls [.int 10, .int s0] h Q := wr_bipush (i := 10) rfl
theorem q218_76 (ls : mm_V) (s0 : Int32) (s1 : Int32) : ww (mp_P fx) d 218 76 ls [.int s0, .int s1] h Q ↔ (if s1 = s0 then ww (mp_P fx) d 218 93 ls [] h Q else ww (mp_P fx) d 218 79 ls [] h Q) := wr_icmp_eq (t := 93) rfl
theorem q218_79 (l0 : Option Value) (l1 : Option Value) (l2 : Option Value) (l3 : Option Value) (l4 : Option Value) (l5 : Option Value) (l6 : Option Value) (l7 : Option Value) (l8 : Option Value) (l9 : Option Value) (x : Int32) : ww (mp_P fx) d 218 79 [l0, l1, l2, l3, l4, l5, l6, l7, l8, l9, some (.int x)] [] h Q ↔ ww (mp_P fx) d 218 81 [l0, l1, l2, l3, l4, l5, l6, l7, l8, l9, some (.int x)] [.int x] h Q := ww_step rfl
theorem q218_81 (ls : mm_V) (s0 : Int32) : ww (mp_P fx) d 218 81 ls [.int s0] h Q ↔ ww (mp_P fx) d 218 83 ls [.int 32, .int s0] h Q := wr_bipush (i := 32) rfl
theorem q218_83 (ls : mm_V) (s0 : Int32) (s1 : Int32) : ww (mp_P fx) d 218 83 ls [.int s0, .int s1] h Q ↔ (if s1 < s0 then ww (mp_P fx) d 218 114 ls [] h Q else ww (mp_P fx) d 218 86 ls [] h Q) := wr_icmp_lt (t := 114) rfl
theorem q218_86 (l0 : Option Value) (l1 : Option Value) (l2 : Option Value) (l3 : Option Value) (l4 : Option Value) (l5 : Option Value) (l6 : Option Value) (l7 : Option Value) (l8 : Option Value) (l9 : Option Value) (x : Int32) : ww (mp_P fx) d 218 86 [l0, l1, l2, l3, l4, l5, l6, l7, l8, l9, some (.int x)] [] h Q ↔ ww (mp_P fx) d 218 88 [l0, l1, l2, l3, l4, l5, l6, l7, l8, l9, some (.int x)] [.int x] h Q := ww_step rfl
theorem q218_88 (ls : mm_V) (s0 : Int32) : ww (mp_P fx) d 218 88 ls [.int s0] h Q ↔ ww (mp_P fx) d 218 90 ls [.int 126, .int s0] h Q := wr_bipush (i := 126) rfl
theorem q218_90 (ls : mm_V) (s0 : Int32) (s1 : Int32) : ww (mp_P fx) d 218 90 ls [.int s0, .int s1] h Q ↔ (if s0 < s1 then ww (mp_P fx) d 218 114 ls [] h Q else ww (mp_P fx) d 218 93 ls [] h Q) := wr_icmp_gt (t := 114) rfl
theorem q218_93 (l1 : Option Value) (l2 : Option Value) (l3 : Option Value) (l4 : Option Value) (l5 : Option Value) (l6 : Option Value) (l7 : Option Value) (l8 : Option Value) (l9 : Option Value) (l10 : Option Value) (x : Nat) : ww (mp_P fx) d 218 93 [some (.ref x), l1, l2, l3, l4, l5, l6, l7, l8, l9, l10] [] h Q ↔ ww (mp_P fx) d 218 94 [some (.ref x), l1, l2, l3, l4, l5, l6, l7, l8, l9, l10] [.ref x] h Q := ww_step rfl
theorem q218_94 (ls : mm_V) (s0 : Nat) : ww (mp_P fx) d 218 94 ls [.ref s0] h Q ↔ ∃ x, mm_gF h s0 10 2 = some x ∧ ww (mp_P fx) d 218 97 ls [x] h Q := wr_getfield (n := 1002) rfl
theorem q218_97 (l1 : Option Value) (l2 : Option Value) (l3 : Option Value) (l4 : Option Value) (l5 : Option Value) (l6 : Option Value) (l7 : Option Value) (l8 : Option Value) (l9 : Option Value) (l10 : Option Value) (x : Nat) (s0 : Nat) : ww (mp_P fx) d 218 97 [some (.ref x), l1, l2, l3, l4, l5, l6, l7, l8, l9, l10] [.ref s0] h Q ↔ ww (mp_P fx) d 218 98 [some (.ref x), l1, l2, l3, l4, l5, l6, l7, l8, l9, l10] [.ref x, .ref s0] h Q := ww_step rfl
theorem q218_98 (ls : mm_V) (s0 : Nat) (s1 : Nat) : ww (mp_P fx) d 218 98 ls [.ref s0, .ref s1] h Q ↔ ∃ x, mm_gF h s0 10 1 = some x ∧ ww (mp_P fx) d 218 101 ls [x, .ref s1] h Q := wr_getfield (n := 1001) rfl
theorem q218_101 (l0 : Option Value) (l1 : Option Value) (l2 : Option Value) (l3 : Option Value) (l4 : Option Value) (l5 : Option Value) (l6 : Option Value) (l7 : Option Value) (l8 : Option Value) (l9 : Option Value) (x : Int32) (s0 : Int32) (s1 : Nat) : ww (mp_P fx) d 218 101 [l0, l1, l2, l3, l4, l5, l6, l7, l8, l9, some (.int x)] [.int s0, .ref s1] h Q ↔ ww (mp_P fx) d 218 103 [l0, l1, l2, l3, l4, l5, l6, l7, l8, l9, some (.int x)] [.int x, .int s0, .ref s1] h Q := ww_step rfl
theorem q218_103 (ls : mm_V) (s0 : Int32) (s1 : Int32) (s2 : Nat) : ww (mp_P fx) d 218 103 ls [.int s0, .int s1, .ref s2] h Q ↔ ∃ h', mm_sI h s2 0 s1 s0 = some h' ∧ ww (mp_P fx) d 218 104 ls [] h' Q := wr_iastore rfl
theorem q218_104 (l1 : Option Value) (l2 : Option Value) (l3 : Option Value) (l4 : Option Value) (l5 : Option Value) (l6 : Option Value) (l7 : Option Value) (l8 : Option Value) (l9 : Option Value) (l10 : Option Value) (x : Nat) : ww (mp_P fx) d 218 104 [some (.ref x), l1, l2, l3, l4, l5, l6, l7, l8, l9, l10] [] h Q ↔ ww (mp_P fx) d 218 105 [some (.ref x), l1, l2, l3, l4, l5, l6, l7, l8, l9, l10] [.ref x] h Q := ww_step rfl
theorem q218_105 (ls : mm_V) (s0 : Nat) : ww (mp_P fx) d 218 105 ls [.ref s0] h Q ↔ ww (mp_P fx) d 218 106 ls [.ref s0, .ref s0] h Q := ww_step rfl
theorem q218_106 (ls : mm_V) (s0 : Nat) (s1 : Nat) : ww (mp_P fx) d 218 106 ls [.ref s0, .ref s1] h Q ↔ ∃ x, mm_gF h s0 10 1 = some x ∧ ww (mp_P fx) d 218 109 ls [x, .ref s1] h Q := wr_getfield (n := 1001) rfl
theorem q218_109 (ls : mm_V) (s0 : Int32) (s1 : Nat) : ww (mp_P fx) d 218 109 ls [.int s0, .ref s1] h Q ↔ ww (mp_P fx) d 218 110 ls [.int 1, .int s0, .ref s1] h Q := wr_iconst (i := 1) rfl
theorem q218_110 (ls : mm_V) (s0 : Int32) (s1 : Int32) (s2 : Nat) : ww (mp_P fx) d 218 110 ls [.int s0, .int s1, .ref s2] h Q ↔ ww (mp_P fx) d 218 111 ls [.int (s1 + s0), .ref s2] h Q := wr_iadd rfl
theorem q218_111 (ls : mm_V) (s0 : Int32) (s1 : Nat) : ww (mp_P fx) d 218 111 ls [.int s0, .ref s1] h Q ↔ ∃ h', mm_sF (mp_P fx) h s1 10 1 (.int s0) = some h' ∧ ww (mp_P fx) d 218 114 ls [] h' Q := wr_putfield (n := 1001) rfl
theorem q218_114n (l0 : Option Value) (l1 : Option Value) (l2 : Option Value) (l3 : Option Value) (l4 : Option Value) (l5 : Option Value) (l8 : Option Value) (l9 : Option Value) (l10 : Option Value) (x : Int32) : ww (mp_P fx) d 218 114 [l0, l1, l2, l3, l4, l5, none, some (.int x), l8, l9, l10] [] h Q ↔ ww (mp_P fx) d 218 117 [l0, l1, l2, l3, l4, l5, none, some (.int (x + 1)), l8, l9, l10] [] h Q := wr_iinc (n := 7) (i := 1) rfl rfl (mm_s1_ok (Nat.le_of_ble_eq_true rfl) rfl)
theorem q218_117 (ls : mm_V) : ww (mp_P fx) d 218 117 ls [] h Q ↔ ww (mp_P fx) d 218 8 ls [] h Q := wr_goto (t := 8) rfl
theorem q218_120 (l1 : Option Value) (l2 : Option Value) (l3 : Option Value) (l4 : Option Value) (l5 : Option Value) (l6 : Option Value) (l7 : Option Value) (l8 : Option Value) (l9 : Option Value) (l10 : Option Value) (x : Nat) : ww (mp_P fx) d 218 120 [some (.ref x), l1, l2, l3, l4, l5, l6, l7, l8, l9, l10] [] h Q ↔ ww (mp_P fx) d 218 121 [some (.ref x), l1, l2, l3, l4, l5, l6, l7, l8, l9, l10] [.ref x] h Q := ww_step rfl
theorem q218_121 (ls : mm_V) (s0 : Nat) : ww (mp_P fx) d 218 121 ls [.ref s0] h Q ↔ ∃ x, mm_gF h s0 10 1 = some x ∧ ww (mp_P fx) d 218 124 ls [x] h Q := wr_getfield (n := 1001) rfl
theorem q218_124 (ls : mm_V) (s0 : Int32) : ww (mp_P fx) d 218 124 ls [.int s0] h Q ↔ Q (some (.int s0)) h := wr_ireturn rfl rfl
theorem e218 (a0 : Nat) (a1 : Int64) (a2 : Int64) (a3 : Int64) : wm (mp_P fx) d 218 [.ref a0, .long a1, .long a2, .long a3] h Q ↔ ww (mp_P fx) d 218 0 [some (.ref a0), some (.long a1), none, some (.long a2), none, some (.long a3), none, none, none, none, none] [] h Q := Iff.rfl
/- 219 RainGrammarModel.square.()I -/
theorem q219_0 (l1 : Option Value) (x : Nat) : ww (mp_P fx) d 219 0 [some (.ref x), l1] [] h Q ↔ ww (mp_P fx) d 219 1 [some (.ref x), l1] [.ref x] h Q := ww_step rfl
theorem q219_1 (ls : mm_V) (s0 : Nat) : ww (mp_P fx) d 219 1 ls [.ref s0] h Q ↔ ww (mp_P fx) d 219 2 ls [.int 0, .ref s0] h Q := wr_iconst (i := 0) rfl
theorem q219_2 (ls : mm_V) (s0 : Int32) (s1 : Nat) : ww (mp_P fx) d 219 2 ls [.int s0, .ref s1] h Q ↔ ∃ h', mm_sF (mp_P fx) h s1 10 0 (.int s0) = some h' ∧ ww (mp_P fx) d 219 5 ls [] h' Q := wr_putfield (n := 1000) rfl
theorem q219_5 (l1 : Option Value) (x : Nat) : ww (mp_P fx) d 219 5 [some (.ref x), l1] [] h Q ↔ ww (mp_P fx) d 219 6 [some (.ref x), l1] [.ref x] h Q := ww_step rfl
theorem q219_6 (ls : mm_V) (s0 : Nat) (hc : mm_cls h s0 = 10) : ww (mp_P fx) (d + 1) 219 6 ls [.ref s0] h Q ↔ wm (mp_P fx) d 220 [.ref s0] h (fun r h' => ww (mp_P fx) (d + 1) 219 9 ls (r.toList ++ []) h' Q) := wr_virtual rfl (mm_recv_ok (n := 0) (rc := 10) ⟨rfl, rfl⟩ rfl hc (by decide)) rfl
theorem q219_9 (ls : mm_V) (s0 : Int32) : ww (mp_P fx) d 219 9 ls [.int s0] h Q ↔ (if ¬ s0 = 0 then ww (mp_P fx) d 219 17 ls [] h Q else ww (mp_P fx) d 219 12 ls [] h Q) := wr_if_ne (t := 17) rfl
theorem q219_12 (l1 : Option Value) (x : Nat) : ww (mp_P fx) d 219 12 [some (.ref x), l1] [] h Q ↔ ww (mp_P fx) d 219 13 [some (.ref x), l1] [.ref x] h Q := ww_step rfl
theorem q219_13 (ls : mm_V) (s0 : Nat) : ww (mp_P fx) d 219 13 ls [.ref s0] h Q ↔ ∃ x, mm_gF h s0 10 9 = some x ∧ ww (mp_P fx) d 219 16 ls [x] h Q := wr_getfield (n := 1009) rfl
theorem q219_16 (ls : mm_V) (s0 : Int32) : ww (mp_P fx) d 219 16 ls [.int s0] h Q ↔ Q (some (.int s0)) h := wr_ireturn rfl rfl
theorem q219_17 (l1 : Option Value) (x : Nat) : ww (mp_P fx) d 219 17 [some (.ref x), l1] [] h Q ↔ ww (mp_P fx) d 219 18 [some (.ref x), l1] [.ref x] h Q := ww_step rfl
theorem q219_18 (ls : mm_V) (s0 : Nat) (hc : mm_cls h s0 = 10) : ww (mp_P fx) (d + 1) 219 18 ls [.ref s0] h Q ↔ wm (mp_P fx) d 249 [.ref s0] h (fun r h' => ww (mp_P fx) (d + 1) 219 21 ls (r.toList ++ []) h' Q) := wr_virtual rfl (mm_recv_ok (n := 0) (rc := 10) ⟨rfl, rfl⟩ rfl hc (by decide)) rfl
theorem q219_21 (l1 : Option Value) (x : Nat) : ww (mp_P fx) d 219 21 [some (.ref x), l1] [] h Q ↔ ww (mp_P fx) d 219 22 [some (.ref x), l1] [.ref x] h Q := ww_step rfl
theorem q219_22 (ls : mm_V) (s0 : Nat) : ww (mp_P fx) d 219 22 ls [.ref s0] h Q ↔ ∃ x, mm_gF h s0 10 10 = some x ∧ ww (mp_P fx) d 219 25 ls [x] h Q := wr_getfield (n := 1010) rfl
theorem q219_25 (ls : mm_V) (s0 : Nat) : ww (mp_P fx) d 219 25 ls [.ref s0] h Q ↔ ww (mp_P fx) d 219 26 ls [.int 4, .ref s0] h Q := wr_iconst (i := 4) rfl
theorem q219_26 (ls : mm_V) (s0 : Int32) (s1 : Nat) : ww (mp_P fx) d 219 26 ls [.int s0, .ref s1] h Q ↔ ∃ x, mm_gI h s1 0 9 s0 = some x ∧ ww (mp_P fx) d 219 27 ls [.int x] h Q := wr_iaload rfl
theorem q219_27 (ls : mm_V) (s0 : Int32) : ww (mp_P fx) d 219 27 ls [.int s0] h Q ↔ (if 0 ≤ s0 then ww (mp_P fx) d 219 46 ls [] h Q else ww (mp_P fx) d 219 30 ls [] h Q) := wr_if_ge (t := 46) rfl
theorem q219_30 (l1 : Option Value) (x : Nat) : ww (mp_P fx) d 219 30 [some (.ref x), l1] [] h Q ↔ ww (mp_P fx) d 219 31 [some (.ref x), l1] [.ref x] h Q := ww_step rfl
theorem q219_31 (ls : mm_V) (s0 : Nat) : ww (mp_P fx) d 219 31 ls [.ref s0] h Q ↔ ∃ x, mm_gF h s0 10 10 = some x ∧ ww (mp_P fx) d 219 34 ls [x] h Q := wr_getfield (n := 1010) rfl
theorem q219_34 (ls : mm_V) (s0 : Nat) : ww (mp_P fx) d 219 34 ls [.ref s0] h Q ↔ ww (mp_P fx) d 219 35 ls [.int 0, .ref s0] h Q := wr_iconst (i := 0) rfl
theorem q219_35 (ls : mm_V) (s0 : Int32) (s1 : Nat) : ww (mp_P fx) d 219 35 ls [.int s0, .ref s1] h Q ↔ ∃ x, mm_gI h s1 0 9 s0 = some x ∧ ww (mp_P fx) d 219 36 ls [.int x] h Q := wr_iaload rfl
theorem q219_36 (ls : mm_V) (s0 : Int32) : ww (mp_P fx) d 219 36 ls [.int s0] h Q ↔ (if s0 ≤ 0 then ww (mp_P fx) d 219 46 ls [] h Q else ww (mp_P fx) d 219 39 ls [] h Q) := wr_if_le (t := 46) rfl
theorem q219_39 (l1 : Option Value) (x : Nat) : ww (mp_P fx) d 219 39 [some (.ref x), l1] [] h Q ↔ ww (mp_P fx) d 219 40 [some (.ref x), l1] [.ref x] h Q := ww_step rfl
theorem q219_40 (ls : mm_V) (s0 : Nat) : ww (mp_P fx) d 219 40 ls [.ref s0] h Q ↔ ∃ x, mm_gF h s0 10 10 = some x ∧ ww (mp_P fx) d 219 43 ls [x] h Q := wr_getfield (n := 1010) rfl
theorem q219_43 (ls : mm_V) (s0 : Nat) : ww (mp_P fx) d 219 43 ls [.ref s0] h Q ↔ ww (mp_P fx) d 219 44 ls [.int 4, .ref s0] h Q := wr_iconst (i := 4) rfl
theorem q219_44 (ls : mm_V) (s0 : Int32) (s1 : Nat) : ww (mp_P fx) d 219 44 ls [.int s0, .ref s1] h Q ↔ ww (mp_P fx) d 219 45 ls [.int 0, .int s0, .ref s1] h Q := wr_iconst (i := 0) rfl
theorem q219_45 (ls : mm_V) (s0 : Int32) (s1 : Int32) (s2 : Nat) : ww (mp_P fx) d 219 45 ls [.int s0, .int s1, .ref s2] h Q ↔ ∃ h', mm_sI h s2 0 s1 s0 = some h' ∧ ww (mp_P fx) d 219 46 ls [] h' Q := wr_iastore rfl
theorem q219_46 (l1 : Option Value) (x : Nat) : ww (mp_P fx) d 219 46 [some (.ref x), l1] [] h Q ↔ ww (mp_P fx) d 219 47 [some (.ref x), l1] [.ref x] h Q := ww_step rfl
theorem q219_47 (ls : mm_V) (s0 : Nat) (hc : mm_cls h s0 = 10) : ww (mp_P fx) (d + 1) 219 47 ls [.ref s0] h Q ↔ wm (mp_P fx) d 216 [.ref s0] h (fun r h' => ww (mp_P fx) (d + 1) 219 50 ls (r.toList ++ []) h' Q) := wr_virtual rfl (mm_recv_ok (n := 0) (rc := 10) ⟨rfl, rfl⟩ rfl hc (by decide)) rfl
theorem q219_50 (l1 : Option Value) (x : Nat) : ww (mp_P fx) d 219 50 [some (.ref x), l1] [] h Q ↔ ww (mp_P fx) d 219 51 [some (.ref x), l1] [.ref x] h Q := ww_step rfl
theorem q219_51 (ls : mm_V) (s0 : Nat) : ww (mp_P fx) d 219 51 ls [.ref s0] h Q ↔ ∃ x, mm_gF h s0 10 40 = some x ∧ ww (mp_P fx) d 219 54 ls [x] h Q := wr_getfield (n := 1040) rfl
theorem q219_54 (ls : mm_V) (s0 : Nat) : ww (mp_P fx) d 219 54 ls [.ref s0] h Q ↔ ww (mp_P fx) d 219 55 ls [.int 0, .ref s0] h Q := wr_iconst (i := 0) rfl
theorem q219_55 (ls : mm_V) (s0 : Int32) (s1 : Nat) : ww (mp_P fx) d 219 55 ls [.int s0, .ref s1] h Q ↔ ww (mp_P fx) d 219 56 ls [.int 0, .int s0, .ref s1] h Q := wr_iconst (i := 0) rfl
theorem q219_56 (ls : mm_V) (s0 : Int32) (s1 : Int32) (s2 : Nat) : ww (mp_P fx) d 219 56 ls [.int s0, .int s1, .ref s2] h Q ↔ ∃ h', mm_sI h s2 0 s1 s0 = some h' ∧ ww (mp_P fx) d 219 57 ls [] h' Q := wr_iastore rfl
theorem q219_57 (l1 : Option Value) (x : Nat) : ww (mp_P fx) d 219 57 [some (.ref x), l1] [] h Q ↔ ww (mp_P fx) d 219 58 [some (.ref x), l1] [.ref x] h Q := ww_step rfl
theorem q219_58 (ls : mm_V) (s0 : Nat) : ww (mp_P fx) d 219 58 ls [.ref s0] h Q ↔ ∃ x, mm_gF h s0 10 44 = some x ∧ ww (mp_P fx) d 219 61 ls [x] h Q := wr_getfield (n := 1044) rfl
theorem q219_61 (ls : mm_V) (s0 : Nat) : ww (mp_P fx) d 219 61 ls [.ref s0] h Q ↔ ww (mp_P fx) d 219 62 ls [.int 0, .ref s0] h Q := wr_iconst (i := 0) rfl
theorem q219_62 (ls : mm_V) (s0 : Int32) (s1 : Nat) : ww (mp_P fx) d 219 62 ls [.int s0, .ref s1] h Q ↔ ww (mp_P fx) d 219 63 ls [.int 0, .int s0, .ref s1] h Q := wr_iconst (i := 0) rfl
theorem q219_63 (ls : mm_V) (s0 : Int32) (s1 : Int32) (s2 : Nat) : ww (mp_P fx) d 219 63 ls [.int s0, .int s1, .ref s2] h Q ↔ ∃ h', mm_sI h s2 0 s1 s0 = some h' ∧ ww (mp_P fx) d 219 64 ls [] h' Q := wr_iastore rfl
theorem q219_64 (l1 : Option Value) (x : Nat) : ww (mp_P fx) d 219 64 [some (.ref x), l1] [] h Q ↔ ww (mp_P fx) d 219 65 [some (.ref x), l1] [.ref x] h Q := ww_step rfl
theorem q219_65 (ls : mm_V) (s0 : Nat) : ww (mp_P fx) d 219 65 ls [.ref s0] h Q ↔ ∃ x, mm_gF h s0 10 46 = some x ∧ ww (mp_P fx) d 219 68 ls [x] h Q := wr_getfield (n := 1046) rfl
theorem q219_68 (ls : mm_V) (s0 : Nat) : ww (mp_P fx) d 219 68 ls [.ref s0] h Q ↔ ww (mp_P fx) d 219 69 ls [.int 0, .ref s0] h Q := wr_iconst (i := 0) rfl
theorem q219_69 (ls : mm_V) (s0 : Int32) (s1 : Nat) : ww (mp_P fx) d 219 69 ls [.int s0, .ref s1] h Q ↔ ww (mp_P fx) d 219 70 ls [.int 0, .int s0, .ref s1] h Q := wr_iconst (i := 0) rfl
theorem q219_70 (ls : mm_V) (s0 : Int32) (s1 : Int32) (s2 : Nat) : ww (mp_P fx) d 219 70 ls [.int s0, .int s1, .ref s2] h Q ↔ ∃ h', mm_sI h s2 0 s1 s0 = some h' ∧ ww (mp_P fx) d 219 71 ls [] h' Q := wr_iastore rfl
theorem q219_71 (l1 : Option Value) (x : Nat) : ww (mp_P fx) d 219 71 [some (.ref x), l1] [] h Q ↔ ww (mp_P fx) d 219 72 [some (.ref x), l1] [.ref x] h Q := ww_step rfl
theorem q219_72 (ls : mm_V) (s0 : Nat) : ww (mp_P fx) d 219 72 ls [.ref s0] h Q ↔ ww (mp_P fx) d 219 73 ls [.int 0, .ref s0] h Q := wr_iconst (i := 0) rfl
theorem q219_73 (ls : mm_V) (s0 : Int32) (s1 : Nat) : ww (mp_P fx) d 219 73 ls [.int s0, .ref s1] h Q ↔ ∃ h', mm_sF (mp_P fx) h s1 10 56 (.int s0) = some h' ∧ ww (mp_P fx) d 219 76 ls [] h' Q := wr_putfield (n := 1056) rfl
theorem q219_76 (ls : mm_V) : ww (mp_P fx) d 219 76 ls [] h Q ↔ ww (mp_P fx) d 219 77 ls [.int 0] h Q := wr_iconst (i := 0) rfl
theorem q219_77r (l1 : Option Value) (y : Nat) (s0 : Int32) : ww (mp_P fx) d 219 77 [some (.ref y), l1] [.int s0] h Q ↔ ww (mp_P fx) d 219 78 [some (.ref y), some (.int s0)] [] h Q := wr_istore_n rfl (mm_s1_ok (Nat.le_of_ble_eq_true rfl) rfl)
theorem q219_78 (l0 : Option Value) (x : Int32) : ww (mp_P fx) d 219 78 [l0, some (.int x)] [] h Q ↔ ww (mp_P fx) d 219 79 [l0, some (.int x)] [.int x] h Q := ww_step rfl
theorem q219_79 (ls : mm_V) (s0 : Int32) : ww (mp_P fx) d 219 79 ls [.int s0] h Q ↔ ww (mp_P fx) d 219 80 ls [.int 4, .int s0] h Q := wr_iconst (i := 4) rfl
theorem q219_80 (ls : mm_V) (s0 : Int32) (s1 : Int32) : ww (mp_P fx) d 219 80 ls [.int s0, .int s1] h Q ↔ (if s0 ≤ s1 then ww (mp_P fx) d 219 96 ls [] h Q else ww (mp_P fx) d 219 83 ls [] h Q) := wr_icmp_ge (t := 96) rfl
theorem q219_83 (l1 : Option Value) (x : Nat) : ww (mp_P fx) d 219 83 [some (.ref x), l1] [] h Q ↔ ww (mp_P fx) d 219 84 [some (.ref x), l1] [.ref x] h Q := ww_step rfl
theorem q219_84 (ls : mm_V) (s0 : Nat) : ww (mp_P fx) d 219 84 ls [.ref s0] h Q ↔ ∃ x, mm_gF h s0 10 55 = some x ∧ ww (mp_P fx) d 219 87 ls [x] h Q := wr_getfield (n := 1055) rfl
theorem q219_87 (l0 : Option Value) (x : Int32) (s0 : Nat) : ww (mp_P fx) d 219 87 [l0, some (.int x)] [.ref s0] h Q ↔ ww (mp_P fx) d 219 88 [l0, some (.int x)] [.int x, .ref s0] h Q := ww_step rfl
theorem q219_88 (ls : mm_V) (s0 : Int32) (s1 : Nat) : ww (mp_P fx) d 219 88 ls [.int s0, .ref s1] h Q ↔ ww (mp_P fx) d 219 89 ls [.int 0, .int s0, .ref s1] h Q := wr_iconst (i := 0) rfl
theorem q219_89 (ls : mm_V) (s0 : Int32) (s1 : Int32) (s2 : Nat) : ww (mp_P fx) d 219 89 ls [.int s0, .int s1, .ref s2] h Q ↔ ∃ h', mm_sI h s2 2 s1 (vp_nar .boolean s0) = some h' ∧ ww (mp_P fx) d 219 90 ls [] h' Q := wr_bastore rfl
theorem q219_90r  (x : Int32) (y : Nat) : ww (mp_P fx) d 219 90 [some (.ref y), some (.int x)] [] h Q ↔ ww (mp_P fx) d 219 93 [some (.ref y), some (.int (x + 1))] [] h Q := wr_iinc (n := 1) (i := 1) rfl rfl (mm_s1_ok (Nat.le_of_ble_eq_true rfl) rfl)
theorem q219_93 (ls : mm_V) : ww (mp_P fx) d 219 93 ls [] h Q ↔ ww (mp_P fx) d 219 78 ls [] h Q := wr_goto (t := 78) rfl
theorem q219_96 (ls : mm_V) : ww (mp_P fx) d 219 96 ls [] h Q ↔ ww (mp_P fx) d 219 97 ls [.int 0] h Q := wr_iconst (i := 0) rfl
theorem q219_97 (ls : mm_V) (s0 : Int32) : ww (mp_P fx) d 219 97 ls [.int s0] h Q ↔ Q (some (.int s0)) h := wr_ireturn rfl rfl
theorem e219 (a0 : Nat) : wm (mp_P fx) d 219 [.ref a0] h Q ↔ ww (mp_P fx) d 219 0 [some (.ref a0), none] [] h Q := Iff.rfl
/- 220 RainGrammarModel.readsAll.()Z -/
theorem q220_0 (l1 : Option Value) (x : Nat) : ww (mp_P fx) d 220 0 [some (.ref x), l1] [] h Q ↔ ww (mp_P fx) d 220 1 [some (.ref x), l1] [.ref x] h Q := ww_step rfl
theorem q220_1 (ls : mm_V) (s0 : Nat) : ww (mp_P fx) d 220 1 ls [.ref s0] h Q ↔ ww (mp_P fx) d 220 2 ls [.int 1, .ref s0] h Q := wr_iconst (i := 1) rfl
theorem q220_2 (ls : mm_V) (s0 : Int32) (s1 : Nat) (hc : mm_cls h s1 = 10) : ww (mp_P fx) (d + 1) 220 2 ls [.int s0, .ref s1] h Q ↔ wm (mp_P fx) d 215 [.ref s1, .int s0] h (fun r h' => ww (mp_P fx) (d + 1) 220 5 ls (r.toList ++ []) h' Q) := wr_virtual rfl (mm_recv_ok (n := 1) (rc := 10) ⟨rfl, rfl⟩ rfl hc (by decide)) rfl
theorem q220_5 (l1 : Option Value) (x : Nat) : ww (mp_P fx) d 220 5 [some (.ref x), l1] [] h Q ↔ ww (mp_P fx) d 220 6 [some (.ref x), l1] [.ref x] h Q := ww_step rfl
theorem q220_6 (ls : mm_V) (s0 : Nat) : ww (mp_P fx) d 220 6 ls [.ref s0] h Q ↔ ∃ x, mm_gF h s0 10 22 = some x ∧ ww (mp_P fx) d 220 9 ls [x] h Q := wr_getfield (n := 1022) rfl
theorem q220_9 (ls : mm_V) (s0 : Nat) : ww (mp_P fx) d 220 9 ls [.ref s0] h Q ↔ ww (mp_P fx) d 220 10 ls [.int 1, .ref s0] h Q := wr_iconst (i := 1) rfl
theorem q220_10 (ls : mm_V) (s0 : Int32) (s1 : Nat) : ww (mp_P fx) d 220 10 ls [.int s0, .ref s1] h Q ↔ ww (mp_P fx) d 220 13 ls [.int 1000, .int s0, .ref s1] h Q := wr_sipush (i := 1000) rfl
theorem q220_13 (ls : mm_V) (s0 : Int32) (s1 : Int32) (s2 : Nat) : ww (mp_P fx) d 220 13 ls [.int s0, .int s1, .ref s2] h Q ↔ ∃ h', mm_sI h s2 0 s1 s0 = some h' ∧ ww (mp_P fx) d 220 14 ls [] h' Q := wr_iastore rfl
theorem q220_14 (l1 : Option Value) (x : Nat) : ww (mp_P fx) d 220 14 [some (.ref x), l1] [] h Q ↔ ww (mp_P fx) d 220 15 [some (.ref x), l1] [.ref x] h Q := ww_step rfl
theorem q220_15 (ls : mm_V) (s0 : Nat) : ww (mp_P fx) d 220 15 ls [.ref s0] h Q ↔ ∃ x, mm_gF h s0 10 23 = some x ∧ ww (mp_P fx) d 220 18 ls [x] h Q := wr_getfield (n := 1023) rfl
theorem q220_18 (ls : mm_V) (s0 : Nat) : ww (mp_P fx) d 220 18 ls [.ref s0] h Q ↔ ww (mp_P fx) d 220 19 ls [.int 1, .ref s0] h Q := wr_iconst (i := 1) rfl
theorem q220_19 (ls : mm_V) (s0 : Int32) (s1 : Nat) : ww (mp_P fx) d 220 19 ls [.int s0, .ref s1] h Q ↔ ww (mp_P fx) d 220 22 ls [.int 1000, .int s0, .ref s1] h Q := wr_sipush (i := 1000) rfl
theorem q220_22 (ls : mm_V) (s0 : Int32) (s1 : Int32) (s2 : Nat) : ww (mp_P fx) d 220 22 ls [.int s0, .int s1, .ref s2] h Q ↔ ∃ h', mm_sI h s2 0 s1 s0 = some h' ∧ ww (mp_P fx) d 220 23 ls [] h' Q := wr_iastore rfl
theorem q220_23 (l1 : Option Value) (x : Nat) : ww (mp_P fx) d 220 23 [some (.ref x), l1] [] h Q ↔ ww (mp_P fx) d 220 24 [some (.ref x), l1] [.ref x] h Q := ww_step rfl
theorem q220_24 (ls : mm_V) (s0 : Nat) : ww (mp_P fx) d 220 24 ls [.ref s0] h Q ↔ ww (mp_P fx) d 220 27 ls [.int 1000, .ref s0] h Q := wr_sipush (i := 1000) rfl
theorem q220_27 (ls : mm_V) (s0 : Int32) (s1 : Nat) : ww (mp_P fx) d 220 27 ls [.int s0, .ref s1] h Q ↔ ∃ h', mm_sF (mp_P fx) h s1 10 25 (.int s0) = some h' ∧ ww (mp_P fx) d 220 30 ls [] h' Q := wr_putfield (n := 1025) rfl
theorem q220_30 (l1 : Option Value) (x : Nat) : ww (mp_P fx) d 220 30 [some (.ref x), l1] [] h Q ↔ ww (mp_P fx) d 220 31 [some (.ref x), l1] [.ref x] h Q := ww_step rfl
theorem q220_31 (ls : mm_V) (s0 : Nat) (hc : mm_cls h s0 = 10) : ww (mp_P fx) (d + 1) 220 31 ls [.ref s0] h Q ↔ wm (mp_P fx) d 221 [.ref s0] h (fun r h' => ww (mp_P fx) (d + 1) 220 34 ls (r.toList ++ []) h' Q) := wr_virtual rfl (mm_recv_ok (n := 0) (rc := 10) ⟨rfl, rfl⟩ rfl hc (by decide)) rfl
theorem q220_34 (l1 : Option Value) (x : Nat) : ww (mp_P fx) d 220 34 [some (.ref x), l1] [] h Q ↔ ww (mp_P fx) d 220 35 [some (.ref x), l1] [.ref x] h Q := ww_step rfl
theorem q220_35 (ls : mm_V) (s0 : Nat) : ww (mp_P fx) d 220 35 ls [.ref s0] h Q ↔ ∃ x, mm_gF h s0 10 6 = some x ∧ ww (mp_P fx) d 220 38 ls [x] h Q := wr_getfield (n := 1006) rfl
theorem q220_38 (ls : mm_V) (s0 : Int32) : ww (mp_P fx) d 220 38 ls [.int s0] h Q ↔ (if s0 = 0 then ww (mp_P fx) d 220 175 ls [] h Q else ww (mp_P fx) d 220 41 ls [] h Q) := wr_if_eq (t := 175) rfl
theorem q220_41 (l1 : Option Value) (x : Nat) : ww (mp_P fx) d 220 41 [some (.ref x), l1] [] h Q ↔ ww (mp_P fx) d 220 42 [some (.ref x), l1] [.ref x] h Q := ww_step rfl
theorem q220_42 (ls : mm_V) (s0 : Nat) : ww (mp_P fx) d 220 42 ls [.ref s0] h Q ↔ ww (mp_P fx) d 220 45 ls [.long 385418, .ref s0] h Q := wr_ldc2_w (i := 385418) rfl
theorem q220_45 (ls : mm_V) (s0 : Int64) (s1 : Nat) (hc : mm_cls h s1 = 10) : ww (mp_P fx) (d + 1) 220 45 ls [.long s0, .ref s1] h Q ↔ wm (mp_P fx) d 224 [.ref s1, .long s0] h (fun r h' => ww (mp_P fx) (d + 1) 220 48 ls (r.toList ++ []) h' Q) := wr_virtual rfl (mm_recv_ok (n := 1) (rc := 10) ⟨rfl, rfl⟩ rfl hc (by decide)) rfl
theorem q220_48 (ls : mm_V) (s0 : Int32) : ww (mp_P fx) d 220 48 ls [.int s0] h Q ↔ (if s0 = 0 then ww (mp_P fx) d 220 58 ls [] h Q else ww (mp_P fx) d 220 51 ls [] h Q) := wr_if_eq (t := 58) rfl
theorem q220_51 (l1 : Option Value) (x : Nat) : ww (mp_P fx) d 220 51 [some (.ref x), l1] [] h Q ↔ ww (mp_P fx) d 220 52 [some (.ref x), l1] [.ref x] h Q := ww_step rfl
theorem q220_52 (ls : mm_V) (s0 : Nat) (hc : mm_cls h s0 = 10) : ww (mp_P fx) (d + 1) 220 52 ls [.ref s0] h Q ↔ wm (mp_P fx) d 225 [.ref s0] h (fun r h' => ww (mp_P fx) (d + 1) 220 55 ls (r.toList ++ []) h' Q) := wr_virtual rfl (mm_recv_ok (n := 0) (rc := 10) ⟨rfl, rfl⟩ rfl hc (by decide)) rfl
theorem q220_55 (ls : mm_V) (s0 : Int32) : ww (mp_P fx) d 220 55 ls [.int s0] h Q ↔ ww (mp_P fx) d 220 165 ls [.int s0] h Q := wr_goto (t := 165) rfl
theorem q220_58 (l1 : Option Value) (x : Nat) : ww (mp_P fx) d 220 58 [some (.ref x), l1] [] h Q ↔ ww (mp_P fx) d 220 59 [some (.ref x), l1] [.ref x] h Q := ww_step rfl
theorem q220_59 (ls : mm_V) (s0 : Nat) : ww (mp_P fx) d 220 59 ls [.ref s0] h Q ↔ ww (mp_P fx) d 220 62 ls [.long 51266052, .ref s0] h Q := wr_ldc2_w (i := 51266052) rfl
theorem q220_62 (ls : mm_V) (s0 : Int64) (s1 : Nat) (hc : mm_cls h s1 = 10) : ww (mp_P fx) (d + 1) 220 62 ls [.long s0, .ref s1] h Q ↔ wm (mp_P fx) d 224 [.ref s1, .long s0] h (fun r h' => ww (mp_P fx) (d + 1) 220 65 ls (r.toList ++ []) h' Q) := wr_virtual rfl (mm_recv_ok (n := 1) (rc := 10) ⟨rfl, rfl⟩ rfl hc (by decide)) rfl
theorem q220_65 (ls : mm_V) (s0 : Int32) : ww (mp_P fx) d 220 65 ls [.int s0] h Q ↔ (if s0 = 0 then ww (mp_P fx) d 220 75 ls [] h Q else ww (mp_P fx) d 220 68 ls [] h Q) := wr_if_eq (t := 75) rfl
theorem q220_68 (l1 : Option Value) (x : Nat) : ww (mp_P fx) d 220 68 [some (.ref x), l1] [] h Q ↔ ww (mp_P fx) d 220 69 [some (.ref x), l1] [.ref x] h Q := ww_step rfl
theorem q220_69 (ls : mm_V) (s0 : Nat) (hc : mm_cls h s0 = 10) : ww (mp_P fx) (d + 1) 220 69 ls [.ref s0] h Q ↔ wm (mp_P fx) d 234 [.ref s0] h (fun r h' => ww (mp_P fx) (d + 1) 220 72 ls (r.toList ++ []) h' Q) := wr_virtual rfl (mm_recv_ok (n := 0) (rc := 10) ⟨rfl, rfl⟩ rfl hc (by decide)) rfl
theorem q220_72 (ls : mm_V) (s0 : Int32) : ww (mp_P fx) d 220 72 ls [.int s0] h Q ↔ ww (mp_P fx) d 220 165 ls [.int s0] h Q := wr_goto (t := 165) rfl
theorem q220_75 (l1 : Option Value) (x : Nat) : ww (mp_P fx) d 220 75 [some (.ref x), l1] [] h Q ↔ ww (mp_P fx) d 220 76 [some (.ref x), l1] [.ref x] h Q := ww_step rfl
theorem q220_76 (ls : mm_V) (s0 : Nat) : ww (mp_P fx) d 220 76 ls [.ref s0] h Q ↔ ww (mp_P fx) d 220 79 ls [.long 369932, .ref s0] h Q := wr_ldc2_w (i := 369932) rfl
theorem q220_79 (ls : mm_V) (s0 : Int64) (s1 : Nat) (hc : mm_cls h s1 = 10) : ww (mp_P fx) (d + 1) 220 79 ls [.long s0, .ref s1] h Q ↔ wm (mp_P fx) d 224 [.ref s1, .long s0] h (fun r h' => ww (mp_P fx) (d + 1) 220 82 ls (r.toList ++ []) h' Q) := wr_virtual rfl (mm_recv_ok (n := 1) (rc := 10) ⟨rfl, rfl⟩ rfl hc (by decide)) rfl
theorem q220_82 (ls : mm_V) (s0 : Int32) : ww (mp_P fx) d 220 82 ls [.int s0] h Q ↔ (if s0 = 0 then ww (mp_P fx) d 220 92 ls [] h Q else ww (mp_P fx) d 220 85 ls [] h Q) := wr_if_eq (t := 92) rfl
theorem q220_85 (l1 : Option Value) (x : Nat) : ww (mp_P fx) d 220 85 [some (.ref x), l1] [] h Q ↔ ww (mp_P fx) d 220 86 [some (.ref x), l1] [.ref x] h Q := ww_step rfl
theorem q220_86 (ls : mm_V) (s0 : Nat) (hc : mm_cls h s0 = 10) : ww (mp_P fx) (d + 1) 220 86 ls [.ref s0] h Q ↔ wm (mp_P fx) d 238 [.ref s0] h (fun r h' => ww (mp_P fx) (d + 1) 220 89 ls (r.toList ++ []) h' Q) := wr_virtual rfl (mm_recv_ok (n := 0) (rc := 10) ⟨rfl, rfl⟩ rfl hc (by decide)) rfl
theorem q220_89 (ls : mm_V) (s0 : Int32) : ww (mp_P fx) d 220 89 ls [.int s0] h Q ↔ ww (mp_P fx) d 220 165 ls [.int s0] h Q := wr_goto (t := 165) rfl
theorem q220_92 (l1 : Option Value) (x : Nat) : ww (mp_P fx) d 220 92 [some (.ref x), l1] [] h Q ↔ ww (mp_P fx) d 220 93 [some (.ref x), l1] [.ref x] h Q := ww_step rfl
theorem q220_93 (ls : mm_V) (s0 : Nat) : ww (mp_P fx) d 220 93 ls [.ref s0] h Q ↔ ww (mp_P fx) d 220 96 ls [.long 375400, .ref s0] h Q := wr_ldc2_w (i := 375400) rfl
theorem q220_96 (ls : mm_V) (s0 : Int64) (s1 : Nat) (hc : mm_cls h s1 = 10) : ww (mp_P fx) (d + 1) 220 96 ls [.long s0, .ref s1] h Q ↔ wm (mp_P fx) d 224 [.ref s1, .long s0] h (fun r h' => ww (mp_P fx) (d + 1) 220 99 ls (r.toList ++ []) h' Q) := wr_virtual rfl (mm_recv_ok (n := 1) (rc := 10) ⟨rfl, rfl⟩ rfl hc (by decide)) rfl
theorem q220_99 (ls : mm_V) (s0 : Int32) : ww (mp_P fx) d 220 99 ls [.int s0] h Q ↔ (if s0 = 0 then ww (mp_P fx) d 220 109 ls [] h Q else ww (mp_P fx) d 220 102 ls [] h Q) := wr_if_eq (t := 109) rfl
theorem q220_102 (l1 : Option Value) (x : Nat) : ww (mp_P fx) d 220 102 [some (.ref x), l1] [] h Q ↔ ww (mp_P fx) d 220 103 [some (.ref x), l1] [.ref x] h Q := ww_step rfl
theorem q220_103 (ls : mm_V) (s0 : Nat) (hc : mm_cls h s0 = 10) : ww (mp_P fx) (d + 1) 220 103 ls [.ref s0] h Q ↔ wm (mp_P fx) d 239 [.ref s0] h (fun r h' => ww (mp_P fx) (d + 1) 220 106 ls (r.toList ++ []) h' Q) := wr_virtual rfl (mm_recv_ok (n := 0) (rc := 10) ⟨rfl, rfl⟩ rfl hc (by decide)) rfl
theorem q220_106 (ls : mm_V) (s0 : Int32) : ww (mp_P fx) d 220 106 ls [.int s0] h Q ↔ ww (mp_P fx) d 220 165 ls [.int s0] h Q := wr_goto (t := 165) rfl
theorem q220_109 (l1 : Option Value) (x : Nat) : ww (mp_P fx) d 220 109 [some (.ref x), l1] [] h Q ↔ ww (mp_P fx) d 220 110 [some (.ref x), l1] [.ref x] h Q := ww_step rfl
theorem q220_110 (ls : mm_V) (s0 : Nat) : ww (mp_P fx) d 220 110 ls [.ref s0] h Q ↔ ww (mp_P fx) d 220 113 ls [.long 330800670, .ref s0] h Q := wr_ldc2_w (i := 330800670) rfl
theorem q220_113 (ls : mm_V) (s0 : Int64) (s1 : Nat) (hc : mm_cls h s1 = 10) : ww (mp_P fx) (d + 1) 220 113 ls [.long s0, .ref s1] h Q ↔ wm (mp_P fx) d 224 [.ref s1, .long s0] h (fun r h' => ww (mp_P fx) (d + 1) 220 116 ls (r.toList ++ []) h' Q) := wr_virtual rfl (mm_recv_ok (n := 1) (rc := 10) ⟨rfl, rfl⟩ rfl hc (by decide)) rfl
theorem q220_116 (ls : mm_V) (s0 : Int32) : ww (mp_P fx) d 220 116 ls [.int s0] h Q ↔ (if s0 = 0 then ww (mp_P fx) d 220 126 ls [] h Q else ww (mp_P fx) d 220 119 ls [] h Q) := wr_if_eq (t := 126) rfl
theorem q220_119 (l1 : Option Value) (x : Nat) : ww (mp_P fx) d 220 119 [some (.ref x), l1] [] h Q ↔ ww (mp_P fx) d 220 120 [some (.ref x), l1] [.ref x] h Q := ww_step rfl
theorem q220_120 (ls : mm_V) (s0 : Nat) (hc : mm_cls h s0 = 10) : ww (mp_P fx) (d + 1) 220 120 ls [.ref s0] h Q ↔ wm (mp_P fx) d 240 [.ref s0] h (fun r h' => ww (mp_P fx) (d + 1) 220 123 ls (r.toList ++ []) h' Q) := wr_virtual rfl (mm_recv_ok (n := 0) (rc := 10) ⟨rfl, rfl⟩ rfl hc (by decide)) rfl
theorem q220_123 (ls : mm_V) (s0 : Int32) : ww (mp_P fx) d 220 123 ls [.int s0] h Q ↔ ww (mp_P fx) d 220 165 ls [.int s0] h Q := wr_goto (t := 165) rfl
theorem q220_126 (l1 : Option Value) (x : Nat) : ww (mp_P fx) d 220 126 [some (.ref x), l1] [] h Q ↔ ww (mp_P fx) d 220 127 [some (.ref x), l1] [.ref x] h Q := ww_step rfl
theorem q220_127 (ls : mm_V) (s0 : Nat) : ww (mp_P fx) d 220 127 ls [.ref s0] h Q ↔ ww (mp_P fx) d 220 130 ls [.long 4147840, .ref s0] h Q := wr_ldc2_w (i := 4147840) rfl
theorem q220_130 (ls : mm_V) (s0 : Int64) (s1 : Nat) (hc : mm_cls h s1 = 10) : ww (mp_P fx) (d + 1) 220 130 ls [.long s0, .ref s1] h Q ↔ wm (mp_P fx) d 224 [.ref s1, .long s0] h (fun r h' => ww (mp_P fx) (d + 1) 220 133 ls (r.toList ++ []) h' Q) := wr_virtual rfl (mm_recv_ok (n := 1) (rc := 10) ⟨rfl, rfl⟩ rfl hc (by decide)) rfl
theorem q220_133 (ls : mm_V) (s0 : Int32) : ww (mp_P fx) d 220 133 ls [.int s0] h Q ↔ (if s0 = 0 then ww (mp_P fx) d 220 143 ls [] h Q else ww (mp_P fx) d 220 136 ls [] h Q) := wr_if_eq (t := 143) rfl
theorem q220_136 (l1 : Option Value) (x : Nat) : ww (mp_P fx) d 220 136 [some (.ref x), l1] [] h Q ↔ ww (mp_P fx) d 220 137 [some (.ref x), l1] [.ref x] h Q := ww_step rfl
theorem q220_137 (ls : mm_V) (s0 : Nat) (hc : mm_cls h s0 = 10) : ww (mp_P fx) (d + 1) 220 137 ls [.ref s0] h Q ↔ wm (mp_P fx) d 244 [.ref s0] h (fun r h' => ww (mp_P fx) (d + 1) 220 140 ls (r.toList ++ []) h' Q) := wr_virtual rfl (mm_recv_ok (n := 0) (rc := 10) ⟨rfl, rfl⟩ rfl hc (by decide)) rfl
theorem q220_140 (ls : mm_V) (s0 : Int32) : ww (mp_P fx) d 220 140 ls [.int s0] h Q ↔ ww (mp_P fx) d 220 165 ls [.int s0] h Q := wr_goto (t := 165) rfl
theorem q220_143 (l1 : Option Value) (x : Nat) : ww (mp_P fx) d 220 143 [some (.ref x), l1] [] h Q ↔ ww (mp_P fx) d 220 144 [some (.ref x), l1] [.ref x] h Q := ww_step rfl
theorem q220_144 (ls : mm_V) (s0 : Nat) : ww (mp_P fx) d 220 144 ls [.ref s0] h Q ↔ ww (mp_P fx) d 220 147 ls [.long 9665209, .ref s0] h Q := wr_ldc2_w (i := 9665209) rfl
theorem q220_147 (ls : mm_V) (s0 : Int64) (s1 : Nat) (hc : mm_cls h s1 = 10) : ww (mp_P fx) (d + 1) 220 147 ls [.long s0, .ref s1] h Q ↔ wm (mp_P fx) d 224 [.ref s1, .long s0] h (fun r h' => ww (mp_P fx) (d + 1) 220 150 ls (r.toList ++ []) h' Q) := wr_virtual rfl (mm_recv_ok (n := 1) (rc := 10) ⟨rfl, rfl⟩ rfl hc (by decide)) rfl
theorem q220_150 (ls : mm_V) (s0 : Int32) : ww (mp_P fx) d 220 150 ls [.int s0] h Q ↔ (if s0 = 0 then ww (mp_P fx) d 220 160 ls [] h Q else ww (mp_P fx) d 220 153 ls [] h Q) := wr_if_eq (t := 160) rfl
theorem q220_153 (l1 : Option Value) (x : Nat) : ww (mp_P fx) d 220 153 [some (.ref x), l1] [] h Q ↔ ww (mp_P fx) d 220 154 [some (.ref x), l1] [.ref x] h Q := ww_step rfl
theorem q220_154 (ls : mm_V) (s0 : Nat) (hc : mm_cls h s0 = 10) : ww (mp_P fx) (d + 1) 220 154 ls [.ref s0] h Q ↔ wm (mp_P fx) d 245 [.ref s0] h (fun r h' => ww (mp_P fx) (d + 1) 220 157 ls (r.toList ++ []) h' Q) := wr_virtual rfl (mm_recv_ok (n := 0) (rc := 10) ⟨rfl, rfl⟩ rfl hc (by decide)) rfl
theorem q220_157 (ls : mm_V) (s0 : Int32) : ww (mp_P fx) d 220 157 ls [.int s0] h Q ↔ ww (mp_P fx) d 220 165 ls [.int s0] h Q := wr_goto (t := 165) rfl
theorem q220_160 (l1 : Option Value) (x : Nat) : ww (mp_P fx) d 220 160 [some (.ref x), l1] [] h Q ↔ ww (mp_P fx) d 220 161 [some (.ref x), l1] [.ref x] h Q := ww_step rfl
theorem q220_161 (ls : mm_V) (s0 : Nat) : ww (mp_P fx) d 220 161 ls [.ref s0] h Q ↔ ww (mp_P fx) d 220 162 ls [.int 1, .ref s0] h Q := wr_iconst (i := 1) rfl
theorem q220_162 (ls : mm_V) (s0 : Int32) (s1 : Nat) (hc : mm_cls h s1 = 10) : ww (mp_P fx) (d + 1) 220 162 ls [.int s0, .ref s1] h Q ↔ wm (mp_P fx) d 226 [.ref s1, .int s0] h (fun r h' => ww (mp_P fx) (d + 1) 220 165 ls (r.toList ++ []) h' Q) := wr_virtual rfl (mm_recv_ok (n := 1) (rc := 10) ⟨rfl, rfl⟩ rfl hc (by decide)) rfl
theorem q220_165r (l1 : Option Value) (y : Nat) (s0 : Int32) : ww (mp_P fx) d 220 165 [some (.ref y), l1] [.int s0] h Q ↔ ww (mp_P fx) d 220 166 [some (.ref y), some (.int s0)] [] h Q := wr_istore_n rfl (mm_s1_ok (Nat.le_of_ble_eq_true rfl) rfl)
theorem q220_166 (l0 : Option Value) (x : Int32) : ww (mp_P fx) d 220 166 [l0, some (.int x)] [] h Q ↔ ww (mp_P fx) d 220 167 [l0, some (.int x)] [.int x] h Q := ww_step rfl
theorem q220_167 (ls : mm_V) (s0 : Int32) : ww (mp_P fx) d 220 167 ls [.int s0] h Q ↔ (if ¬ s0 = 0 then ww (mp_P fx) d 220 172 ls [] h Q else ww (mp_P fx) d 220 170 ls [] h Q) := wr_if_ne (t := 172) rfl
theorem q220_170 (ls : mm_V) : ww (mp_P fx) d 220 170 ls [] h Q ↔ ww (mp_P fx) d 220 171 ls [.int 0] h Q := wr_iconst (i := 0) rfl
theorem q220_171 (ls : mm_V) (s0 : Int32) (hb : mm_ret (mp_sig 220).2.2.2 (.int s0) = true) : ww (mp_P fx) d 220 171 ls [.int s0] h Q ↔ Q (some (.int s0)) h := wr_ireturn rfl hb
theorem q220_172 (ls : mm_V) : ww (mp_P fx) d 220 172 ls [] h Q ↔ ww (mp_P fx) d 220 34 ls [] h Q := wr_goto (t := 34) rfl
theorem q220_175 (ls : mm_V) : ww (mp_P fx) d 220 175 ls [] h Q ↔ ww (mp_P fx) d 220 176 ls [.int 1] h Q := wr_iconst (i := 1) rfl
theorem q220_176 (ls : mm_V) (s0 : Int32) (hb : mm_ret (mp_sig 220).2.2.2 (.int s0) = true) : ww (mp_P fx) d 220 176 ls [.int s0] h Q ↔ Q (some (.int s0)) h := wr_ireturn rfl hb
theorem b220_0 : mm_ret (mp_sig 220).2.2.2 (.int 0) = true := by decide +kernel
theorem b220_1 : mm_ret (mp_sig 220).2.2.2 (.int 1) = true := by decide +kernel
theorem e220 (a0 : Nat) : wm (mp_P fx) d 220 [.ref a0] h Q ↔ ww (mp_P fx) d 220 0 [some (.ref a0), none] [] h Q := Iff.rfl
/- 221 RainGrammarModel.begins.()V -/
theorem q221_0  (x : Nat) : ww (mp_P fx) d 221 0 [some (.ref x)] [] h Q ↔ ww (mp_P fx) d 221 1 [some (.ref x)] [.ref x] h Q := ww_step rfl
theorem q221_1  (x : Nat) (s0 : Nat) : ww (mp_P fx) d 221 1 [some (.ref x)] [.ref s0] h Q ↔ ww (mp_P fx) d 221 2 [some (.ref x)] [.ref x, .ref s0] h Q := ww_step rfl
theorem q221_2 (ls : mm_V) (s0 : Nat) (s1 : Nat) : ww (mp_P fx) d 221 2 ls [.ref s0, .ref s1] h Q ↔ ∃ x, mm_gF h s0 10 1 = some x ∧ ww (mp_P fx) d 221 5 ls [x, .ref s1] h Q := wr_getfield (n := 1001) rfl
theorem q221_5 (ls : mm_V) (s0 : Int32) (s1 : Nat) : ww (mp_P fx) d 221 5 ls [.int s0, .ref s1] h Q ↔ ∃ h', mm_sF (mp_P fx) h s1 10 3 (.int s0) = some h' ∧ ww (mp_P fx) d 221 8 ls [] h' Q := wr_putfield (n := 1003) rfl
theorem q221_8  (x : Nat) : ww (mp_P fx) d 221 8 [some (.ref x)] [] h Q ↔ ww (mp_P fx) d 221 9 [some (.ref x)] [.ref x] h Q := ww_step rfl
theorem q221_9 (ls : mm_V) (s0 : Nat) : ww (mp_P fx) d 221 9 ls [.ref s0] h Q ↔ ww (mp_P fx) d 221 10 ls [.int 0, .ref s0] h Q := wr_iconst (i := 0) rfl
theorem q221_10 (ls : mm_V) (s0 : Int32) (s1 : Nat) : ww (mp_P fx) d 221 10 ls [.int s0, .ref s1] h Q ↔ ∃ h', mm_sF (mp_P fx) h s1 10 1 (.int s0) = some h' ∧ ww (mp_P fx) d 221 13 ls [] h' Q := wr_putfield (n := 1001) rfl
theorem q221_13  (x : Nat) : ww (mp_P fx) d 221 13 [some (.ref x)] [] h Q ↔ ww (mp_P fx) d 221 14 [some (.ref x)] [.ref x] h Q := ww_step rfl
theorem q221_14 (ls : mm_V) (s0 : Nat) : ww (mp_P fx) d 221 14 ls [.ref s0] h Q ↔ ww (mp_P fx) d 221 15 ls [.int 0, .ref s0] h Q := wr_iconst (i := 0) rfl
theorem q221_15 (ls : mm_V) (s0 : Int32) (s1 : Nat) : ww (mp_P fx) d 221 15 ls [.int s0, .ref s1] h Q ↔ ∃ h', mm_sF (mp_P fx) h s1 10 4 (.int s0) = some h' ∧ ww (mp_P fx) d 221 18 ls [] h' Q := wr_putfield (n := 1004) rfl
theorem q221_18  (x : Nat) : ww (mp_P fx) d 221 18 [some (.ref x)] [] h Q ↔ ww (mp_P fx) d 221 19 [some (.ref x)] [.ref x] h Q := ww_step rfl
theorem q221_19 (ls : mm_V) (s0 : Nat) (hc : mm_cls h s0 = 10) : ww (mp_P fx) (d + 1) 221 19 ls [.ref s0] h Q ↔ wm (mp_P fx) d 222 [.ref s0] h (fun r h' => ww (mp_P fx) (d + 1) 221 22 ls (r.toList ++ []) h' Q) := wr_virtual rfl (mm_recv_ok (n := 0) (rc := 10) ⟨rfl, rfl⟩ rfl hc (by decide)) rfl
theorem q221_22 (ls : mm_V) : ww (mp_P fx) d 221 22 ls [] h Q ↔ Q none h := wr_return rfl rfl
theorem e221 (a0 : Nat) : wm (mp_P fx) d 221 [.ref a0] h Q ↔ ww (mp_P fx) d 221 0 [some (.ref a0)] [] h Q := Iff.rfl
/- 222 RainGrammarModel.nextToken.()V -/
theorem q222_0 (l1 : Option Value) (x : Nat) : ww (mp_P fx) d 222 0 [some (.ref x), l1] [] h Q ↔ ww (mp_P fx) d 222 1 [some (.ref x), l1] [.ref x] h Q := ww_step rfl
theorem q222_1 (ls : mm_V) (s0 : Nat) : ww (mp_P fx) d 222 1 ls [.ref s0] h Q ↔ ∃ x, mm_gF h s0 10 4 = some x ∧ ww (mp_P fx) d 222 4 ls [x] h Q := wr_getfield (n := 1004) rfl
theorem q222_4 (l1 : Option Value) (x : Nat) (s0 : Int32) : ww (mp_P fx) d 222 4 [some (.ref x), l1] [.int s0] h Q ↔ ww (mp_P fx) d 222 5 [some (.ref x), l1] [.ref x, .int s0] h Q := ww_step rfl
theorem q222_5 (ls : mm_V) (s0 : Nat) (s1 : Int32) : ww (mp_P fx) d 222 5 ls [.ref s0, .int s1] h Q ↔ ∃ x, mm_gF h s0 10 3 = some x ∧ ww (mp_P fx) d 222 8 ls [x, .int s1] h Q := wr_getfield (n := 1003) rfl
theorem q222_8 (ls : mm_V) (s0 : Int32) (s1 : Int32) : ww (mp_P fx) d 222 8 ls [.int s0, .int s1] h Q ↔ (if s0 ≤ s1 then ww (mp_P fx) d 222 52 ls [] h Q else ww (mp_P fx) d 222 11 ls [] h Q) := wr_icmp_ge (t := 52) rfl
theorem q222_11 (l1 : Option Value) (x : Nat) : ww (mp_P fx) d 222 11 [some (.ref x), l1] [] h Q ↔ ww (mp_P fx) d 222 12 [some (.ref x), l1] [.ref x] h Q := ww_step rfl
theorem q222_12 (ls : mm_V) (s0 : Nat) : ww (mp_P fx) d 222 12 ls [.ref s0] h Q ↔ ∃ x, mm_gF h s0 10 2 = some x ∧ ww (mp_P fx) d 222 15 ls [x] h Q := wr_getfield (n := 1002) rfl
theorem q222_15 (l1 : Option Value) (x : Nat) (s0 : Nat) : ww (mp_P fx) d 222 15 [some (.ref x), l1] [.ref s0] h Q ↔ ww (mp_P fx) d 222 16 [some (.ref x), l1] [.ref x, .ref s0] h Q := ww_step rfl
theorem q222_16 (ls : mm_V) (s0 : Nat) (s1 : Nat) : ww (mp_P fx) d 222 16 ls [.ref s0, .ref s1] h Q ↔ ∃ x, mm_gF h s0 10 4 = some x ∧ ww (mp_P fx) d 222 19 ls [x, .ref s1] h Q := wr_getfield (n := 1004) rfl
theorem q222_19 (ls : mm_V) (s0 : Int32) (s1 : Nat) : ww (mp_P fx) d 222 19 ls [.int s0, .ref s1] h Q ↔ ∃ x, mm_gI h s1 0 9 s0 = some x ∧ ww (mp_P fx) d 222 20 ls [.int x] h Q := wr_iaload rfl
theorem q222_20 (ls : mm_V) (s0 : Int32) : ww (mp_P fx) d 222 20 ls [.int s0] h Q ↔ ww (mp_P fx) d 222 22 ls [.int 32, .int s0] h Q := wr_bipush (i := 32) rfl
theorem q222_22 (ls : mm_V) (s0 : Int32) (s1 : Int32) : ww (mp_P fx) d 222 22 ls [.int s0, .int s1] h Q ↔ (if s1 = s0 then ww (mp_P fx) d 222 39 ls [] h Q else ww (mp_P fx) d 222 25 ls [] h Q) := wr_icmp_eq (t := 39) rfl
theorem q222_25 (l1 : Option Value) (x : Nat) : ww (mp_P fx) d 222 25 [some (.ref x), l1] [] h Q ↔ ww (mp_P fx) d 222 26 [some (.ref x), l1] [.ref x] h Q := ww_step rfl
theorem q222_26 (ls : mm_V) (s0 : Nat) : ww (mp_P fx) d 222 26 ls [.ref s0] h Q ↔ ∃ x, mm_gF h s0 10 2 = some x ∧ ww (mp_P fx) d 222 29 ls [x] h Q := wr_getfield (n := 1002) rfl
theorem q222_29 (l1 : Option Value) (x : Nat) (s0 : Nat) : ww (mp_P fx) d 222 29 [some (.ref x), l1] [.ref s0] h Q ↔ ww (mp_P fx) d 222 30 [some (.ref x), l1] [.ref x, .ref s0] h Q := ww_step rfl
theorem q222_30 (ls : mm_V) (s0 : Nat) (s1 : Nat) : ww (mp_P fx) d 222 30 ls [.ref s0, .ref s1] h Q ↔ ∃ x, mm_gF h s0 10 4 = some x ∧ ww (mp_P fx) d 222 33 ls [x, .ref s1] h Q := wr_getfield (n := 1004) rfl
theorem q222_33 (ls : mm_V) (s0 : Int32) (s1 : Nat) : ww (mp_P fx) d 222 33 ls [.int s0, .ref s1] h Q ↔ ∃ x, mm_gI h s1 0 9 s0 = some x ∧ ww (mp_P fx) d 222 34 ls [.int x] h Q := wr_iaload rfl
theorem q222_34 (ls : mm_V) (s0 : Int32) : ww (mp_P fx) d 222 34 ls [.int s0] h Q ↔ ww (mp_P fx) d 222 36 ls [.int 10, .int s0] h Q := wr_bipush (i := 10) rfl
theorem q222_36 (ls : mm_V) (s0 : Int32) (s1 : Int32) : ww (mp_P fx) d 222 36 ls [.int s0, .int s1] h Q ↔ (if ¬ s1 = s0 then ww (mp_P fx) d 222 52 ls [] h Q else ww (mp_P fx) d 222 39 ls [] h Q) := wr_icmp_ne (t := 52) rfl
theorem q222_39 (l1 : Option Value) (x : Nat) : ww (mp_P fx) d 222 39 [some (.ref x), l1] [] h Q ↔ ww (mp_P fx) d 222 40 [some (.ref x), l1] [.ref x] h Q := ww_step rfl
theorem q222_40 (ls : mm_V) (s0 : Nat) : ww (mp_P fx) d 222 40 ls [.ref s0] h Q ↔ ww (mp_P fx) d 222 41 ls [.ref s0, .ref s0] h Q := ww_step rfl
theorem q222_41 (ls : mm_V) (s0 : Nat) (s1 : Nat) : ww (mp_P fx) d 222 41 ls [.ref s0, .ref s1] h Q ↔ ∃ x, mm_gF h s0 10 4 = some x ∧ ww (mp_P fx) d 222 44 ls [x, .ref s1] h Q := wr_getfield (n := 1004) rfl
theorem q222_44 (ls : mm_V) (s0 : Int32) (s1 : Nat) : ww (mp_P fx) d 222 44 ls [.int s0, .ref s1] h Q ↔ ww (mp_P fx) d 222 45 ls [.int 1, .int s0, .ref s1] h Q := wr_iconst (i := 1) rfl
theorem q222_45 (ls : mm_V) (s0 : Int32) (s1 : Int32) (s2 : Nat) : ww (mp_P fx) d 222 45 ls [.int s0, .int s1, .ref s2] h Q ↔ ww (mp_P fx) d 222 46 ls [.int (s1 + s0), .ref s2] h Q := wr_iadd rfl
theorem q222_46 (ls : mm_V) (s0 : Int32) (s1 : Nat) : ww (mp_P fx) d 222 46 ls [.int s0, .ref s1] h Q ↔ ∃ h', mm_sF (mp_P fx) h s1 10 4 (.int s0) = some h' ∧ ww (mp_P fx) d 222 49 ls [] h' Q := wr_putfield (n := 1004) rfl
theorem q222_49 (ls : mm_V) : ww (mp_P fx) d 222 49 ls [] h Q ↔ ww (mp_P fx) d 222 0 ls [] h Q := wr_goto (t := 0) rfl
theorem q222_52 (l1 : Option Value) (x : Nat) : ww (mp_P fx) d 222 52 [some (.ref x), l1] [] h Q ↔ ww (mp_P fx) d 222 53 [some (.ref x), l1] [.ref x] h Q := ww_step rfl
theorem q222_53 (l1 : Option Value) (x : Nat) (s0 : Nat) : ww (mp_P fx) d 222 53 [some (.ref x), l1] [.ref s0] h Q ↔ ww (mp_P fx) d 222 54 [some (.ref x), l1] [.ref x, .ref s0] h Q := ww_step rfl
theorem q222_54 (ls : mm_V) (s0 : Nat) (s1 : Nat) : ww (mp_P fx) d 222 54 ls [.ref s0, .ref s1] h Q ↔ ∃ x, mm_gF h s0 10 4 = some x ∧ ww (mp_P fx) d 222 57 ls [x, .ref s1] h Q := wr_getfield (n := 1004) rfl
theorem q222_57 (ls : mm_V) (s0 : Int32) (s1 : Nat) : ww (mp_P fx) d 222 57 ls [.int s0, .ref s1] h Q ↔ ∃ h', mm_sF (mp_P fx) h s1 10 5 (.int s0) = some h' ∧ ww (mp_P fx) d 222 60 ls [] h' Q := wr_putfield (n := 1005) rfl
theorem q222_60 (l1 : Option Value) (x : Nat) : ww (mp_P fx) d 222 60 [some (.ref x), l1] [] h Q ↔ ww (mp_P fx) d 222 61 [some (.ref x), l1] [.ref x] h Q := ww_step rfl
theorem q222_61 (ls : mm_V) (s0 : Nat) : ww (mp_P fx) d 222 61 ls [.ref s0] h Q ↔ ww (mp_P fx) d 222 62 ls [.long 0, .ref s0] h Q := wr_lconst (i := 0) rfl
theorem q222_62 (ls : mm_V) (s0 : Int64) (s1 : Nat) : ww (mp_P fx) d 222 62 ls [.long s0, .ref s1] h Q ↔ ∃ h', mm_sF (mp_P fx) h s1 10 7 (.long s0) = some h' ∧ ww (mp_P fx) d 222 65 ls [] h' Q := wr_putfield (n := 1007) rfl
theorem q222_65 (l1 : Option Value) (x : Nat) : ww (mp_P fx) d 222 65 [some (.ref x), l1] [] h Q ↔ ww (mp_P fx) d 222 66 [some (.ref x), l1] [.ref x] h Q := ww_step rfl
theorem q222_66 (ls : mm_V) (s0 : Nat) : ww (mp_P fx) d 222 66 ls [.ref s0] h Q ↔ ww (mp_P fx) d 222 67 ls [.int 0, .ref s0] h Q := wr_iconst (i := 0) rfl
theorem q222_67 (ls : mm_V) (s0 : Int32) (s1 : Nat) : ww (mp_P fx) d 222 67 ls [.int s0, .ref s1] h Q ↔ ∃ h', mm_sF (mp_P fx) h s1 10 8 (.int s0) = some h' ∧ ww (mp_P fx) d 222 70 ls [] h' Q := wr_putfield (n := 1008) rfl
theorem q222_70 (l1 : Option Value) (x : Nat) : ww (mp_P fx) d 222 70 [some (.ref x), l1] [] h Q ↔ ww (mp_P fx) d 222 71 [some (.ref x), l1] [.ref x] h Q := ww_step rfl
theorem q222_71 (ls : mm_V) (s0 : Nat) : ww (mp_P fx) d 222 71 ls [.ref s0] h Q ↔ ∃ x, mm_gF h s0 10 4 = some x ∧ ww (mp_P fx) d 222 74 ls [x] h Q := wr_getfield (n := 1004) rfl
theorem q222_74 (l1 : Option Value) (x : Nat) (s0 : Int32) : ww (mp_P fx) d 222 74 [some (.ref x), l1] [.int s0] h Q ↔ ww (mp_P fx) d 222 75 [some (.ref x), l1] [.ref x, .int s0] h Q := ww_step rfl
theorem q222_75 (ls : mm_V) (s0 : Nat) (s1 : Int32) : ww (mp_P fx) d 222 75 ls [.ref s0, .int s1] h Q ↔ ∃ x, mm_gF h s0 10 3 = some x ∧ ww (mp_P fx) d 222 78 ls [x, .int s1] h Q := wr_getfield (n := 1003) rfl
theorem q222_78 (ls : mm_V) (s0 : Int32) (s1 : Int32) : ww (mp_P fx) d 222 78 ls [.int s0, .int s1] h Q ↔ (if ¬ s1 = s0 then ww (mp_P fx) d 222 87 ls [] h Q else ww (mp_P fx) d 222 81 ls [] h Q) := wr_icmp_ne (t := 87) rfl
theorem q222_81 (l1 : Option Value) (x : Nat) : ww (mp_P fx) d 222 81 [some (.ref x), l1] [] h Q ↔ ww (mp_P fx) d 222 82 [some (.ref x), l1] [.ref x] h Q := ww_step rfl
theorem q222_82 (ls : mm_V) (s0 : Nat) : ww (mp_P fx) d 222 82 ls [.ref s0] h Q ↔ ww (mp_P fx) d 222 83 ls [.int 0, .ref s0] h Q := wr_iconst (i := 0) rfl
theorem q222_83 (ls : mm_V) (s0 : Int32) (s1 : Nat) : ww (mp_P fx) d 222 83 ls [.int s0, .ref s1] h Q ↔ ∃ h', mm_sF (mp_P fx) h s1 10 6 (.int s0) = some h' ∧ ww (mp_P fx) d 222 86 ls [] h' Q := wr_putfield (n := 1006) rfl
theorem q222_86 (ls : mm_V) : ww (mp_P fx) d 222 86 ls [] h Q ↔ Q none h := wr_return rfl rfl
theorem q222_87 (l1 : Option Value) (x : Nat) : ww (mp_P fx) d 222 87 [some (.ref x), l1] [] h Q ↔ ww (mp_P fx) d 222 88 [some (.ref x), l1] [.ref x] h Q := ww_step rfl
theorem q222_88 (ls : mm_V) (s0 : Nat) : ww (mp_P fx) d 222 88 ls [.ref s0] h Q ↔ ∃ x, mm_gF h s0 10 2 = some x ∧ ww (mp_P fx) d 222 91 ls [x] h Q := wr_getfield (n := 1002) rfl
theorem q222_91 (l1 : Option Value) (x : Nat) (s0 : Nat) : ww (mp_P fx) d 222 91 [some (.ref x), l1] [.ref s0] h Q ↔ ww (mp_P fx) d 222 92 [some (.ref x), l1] [.ref x, .ref s0] h Q := ww_step rfl
theorem q222_92 (ls : mm_V) (s0 : Nat) (s1 : Nat) : ww (mp_P fx) d 222 92 ls [.ref s0, .ref s1] h Q ↔ ∃ x, mm_gF h s0 10 4 = some x ∧ ww (mp_P fx) d 222 95 ls [x, .ref s1] h Q := wr_getfield (n := 1004) rfl
theorem q222_95 (ls : mm_V) (s0 : Int32) (s1 : Nat) : ww (mp_P fx) d 222 95 ls [.int s0, .ref s1] h Q ↔ ∃ x, mm_gI h s1 0 9 s0 = some x ∧ ww (mp_P fx) d 222 96 ls [.int x] h Q := wr_iaload rfl
theorem q222_96r (l1 : Option Value) (y : Nat) (s0 : Int32) : ww (mp_P fx) d 222 96 [some (.ref y), l1] [.int s0] h Q ↔ ww (mp_P fx) d 222 97 [some (.ref y), some (.int s0)] [] h Q := wr_istore_n rfl (mm_s1_ok (Nat.le_of_ble_eq_true rfl) rfl)
theorem q222_97 (l0 : Option Value) (x : Int32) : ww (mp_P fx) d 222 97 [l0, some (.int x)] [] h Q ↔ ww (mp_P fx) d 222 98 [l0, some (.int x)] [.int x] h Q := ww_step rfl
theorem q222_98 (ls : mm_V) (s0 : Int32) : ww (mp_P fx) d 222 98 ls [.int s0] h Q ↔ ww (mp_P fx) d 222 100 ls [.int 97, .int s0] h Q := wr_bipush (i := 97) rfl
theorem q222_100 (ls : mm_V) (s0 : Int32) (s1 : Int32) : ww (mp_P fx) d 222 100 ls [.int s0, .int s1] h Q ↔ (if s1 < s0 then ww (mp_P fx) d 222 212 ls [] h Q else ww (mp_P fx) d 222 103 ls [] h Q) := wr_icmp_lt (t := 212) rfl
theorem q222_103 (l0 : Option Value) (x : Int32) : ww (mp_P fx) d 222 103 [l0, some (.int x)] [] h Q ↔ ww (mp_P fx) d 222 104 [l0, some (.int x)] [.int x] h Q := ww_step rfl
theorem q222_104 (ls : mm_V) (s0 : Int32) : ww (mp_P fx) d 222 104 ls [.int s0] h Q ↔ ww (mp_P fx) d 222 106 ls [.int 122, .int s0] h Q := wr_bipush (i := 122) rfl
theorem q222_106 (ls : mm_V) (s0 : Int32) (s1 : Int32) : ww (mp_P fx) d 222 106 ls [.int s0, .int s1] h Q ↔ (if s0 < s1 then ww (mp_P fx) d 222 212 ls [] h Q else ww (mp_P fx) d 222 109 ls [] h Q) := wr_icmp_gt (t := 212) rfl
theorem q222_109 (l1 : Option Value) (x : Nat) : ww (mp_P fx) d 222 109 [some (.ref x), l1] [] h Q ↔ ww (mp_P fx) d 222 110 [some (.ref x), l1] [.ref x] h Q := ww_step rfl
theorem q222_110 (l1 : Option Value) (x : Nat) (s0 : Nat) : ww (mp_P fx) d 222 110 [some (.ref x), l1] [.ref s0] h Q ↔ ww (mp_P fx) d 222 111 [some (.ref x), l1] [.ref x, .ref s0] h Q := ww_step rfl
theorem q222_111 (ls : mm_V) (s0 : Nat) (s1 : Nat) : ww (mp_P fx) d 222 111 ls [.ref s0, .ref s1] h Q ↔ ∃ x, mm_gF h s0 10 4 = some x ∧ ww (mp_P fx) d 222 114 ls [x, .ref s1] h Q := wr_getfield (n := 1004) rfl
theorem q222_114 (ls : mm_V) (s0 : Int32) (s1 : Nat) (hc : mm_cls h s1 = 10) : ww (mp_P fx) (d + 1) 222 114 ls [.int s0, .ref s1] h Q ↔ wm (mp_P fx) d 223 [.ref s1, .int s0] h (fun r h' => ww (mp_P fx) (d + 1) 222 117 ls (r.toList ++ []) h' Q) := wr_virtual rfl (mm_recv_ok (n := 1) (rc := 10) ⟨rfl, rfl⟩ rfl hc (by decide)) rfl
theorem q222_117 (ls : mm_V) (s0 : Int32) : ww (mp_P fx) d 222 117 ls [.int s0] h Q ↔ ww (mp_P fx) d 222 119 ls [.int 97, .int s0] h Q := wr_bipush (i := 97) rfl
theorem q222_119 (ls : mm_V) (s0 : Int32) (s1 : Int32) : ww (mp_P fx) d 222 119 ls [.int s0, .int s1] h Q ↔ (if s1 < s0 then ww (mp_P fx) d 222 188 ls [] h Q else ww (mp_P fx) d 222 122 ls [] h Q) := wr_icmp_lt (t := 188) rfl
theorem q222_122 (l1 : Option Value) (x : Nat) : ww (mp_P fx) d 222 122 [some (.ref x), l1] [] h Q ↔ ww (mp_P fx) d 222 123 [some (.ref x), l1] [.ref x] h Q := ww_step rfl
theorem q222_123 (l1 : Option Value) (x : Nat) (s0 : Nat) : ww (mp_P fx) d 222 123 [some (.ref x), l1] [.ref s0] h Q ↔ ww (mp_P fx) d 222 124 [some (.ref x), l1] [.ref x, .ref s0] h Q := ww_step rfl
theorem q222_124 (ls : mm_V) (s0 : Nat) (s1 : Nat) : ww (mp_P fx) d 222 124 ls [.ref s0, .ref s1] h Q ↔ ∃ x, mm_gF h s0 10 4 = some x ∧ ww (mp_P fx) d 222 127 ls [x, .ref s1] h Q := wr_getfield (n := 1004) rfl
theorem q222_127 (ls : mm_V) (s0 : Int32) (s1 : Nat) (hc : mm_cls h s1 = 10) : ww (mp_P fx) (d + 1) 222 127 ls [.int s0, .ref s1] h Q ↔ wm (mp_P fx) d 223 [.ref s1, .int s0] h (fun r h' => ww (mp_P fx) (d + 1) 222 130 ls (r.toList ++ []) h' Q) := wr_virtual rfl (mm_recv_ok (n := 1) (rc := 10) ⟨rfl, rfl⟩ rfl hc (by decide)) rfl
theorem q222_130 (ls : mm_V) (s0 : Int32) : ww (mp_P fx) d 222 130 ls [.int s0] h Q ↔ ww (mp_P fx) d 222 132 ls [.int 122, .int s0] h Q := wr_bipush (i := 122) rfl
theorem q222_132 (ls : mm_V) (s0 : Int32) (s1 : Int32) : ww (mp_P fx) d 222 132 ls [.int s0, .int s1] h Q ↔ (if s0 < s1 then ww (mp_P fx) d 222 188 ls [] h Q else ww (mp_P fx) d 222 135 ls [] h Q) := wr_icmp_gt (t := 188) rfl
theorem q222_135 (l1 : Option Value) (x : Nat) : ww (mp_P fx) d 222 135 [some (.ref x), l1] [] h Q ↔ ww (mp_P fx) d 222 136 [some (.ref x), l1] [.ref x] h Q := ww_step rfl
theorem q222_136 (ls : mm_V) (s0 : Nat) : ww (mp_P fx) d 222 136 ls [.ref s0] h Q ↔ ∃ x, mm_gF h s0 10 4 = some x ∧ ww (mp_P fx) d 222 139 ls [x] h Q := wr_getfield (n := 1004) rfl
theorem q222_139 (l1 : Option Value) (x : Nat) (s0 : Int32) : ww (mp_P fx) d 222 139 [some (.ref x), l1] [.int s0] h Q ↔ ww (mp_P fx) d 222 140 [some (.ref x), l1] [.ref x, .int s0] h Q := ww_step rfl
theorem q222_140 (ls : mm_V) (s0 : Nat) (s1 : Int32) : ww (mp_P fx) d 222 140 ls [.ref s0, .int s1] h Q ↔ ∃ x, mm_gF h s0 10 5 = some x ∧ ww (mp_P fx) d 222 143 ls [x, .int s1] h Q := wr_getfield (n := 1005) rfl
theorem q222_143 (ls : mm_V) (s0 : Int32) (s1 : Int32) : ww (mp_P fx) d 222 143 ls [.int s0, .int s1] h Q ↔ ww (mp_P fx) d 222 144 ls [.int (s1 - s0)] h Q := wr_isub rfl
theorem q222_144 (ls : mm_V) (s0 : Int32) : ww (mp_P fx) d 222 144 ls [.int s0] h Q ↔ ww (mp_P fx) d 222 146 ls [.int 8, .int s0] h Q := wr_bipush (i := 8) rfl
theorem q222_146 (ls : mm_V) (s0 : Int32) (s1 : Int32) : ww (mp_P fx) d 222 146 ls [.int s0, .int s1] h Q ↔ (if s0 ≤ s1 then ww (mp_P fx) d 222 175 ls [] h Q else ww (mp_P fx) d 222 149 ls [] h Q) := wr_icmp_ge (t := 175) rfl
theorem q222_149 (l1 : Option Value) (x : Nat) : ww (mp_P fx) d 222 149 [some (.ref x), l1] [] h Q ↔ ww (mp_P fx) d 222 150 [some (.ref x), l1] [.ref x] h Q := ww_step rfl
theorem q222_150 (l1 : Option Value) (x : Nat) (s0 : Nat) : ww (mp_P fx) d 222 150 [some (.ref x), l1] [.ref s0] h Q ↔ ww (mp_P fx) d 222 151 [some (.ref x), l1] [.ref x, .ref s0] h Q := ww_step rfl
theorem q222_151 (ls : mm_V) (s0 : Nat) (s1 : Nat) : ww (mp_P fx) d 222 151 ls [.ref s0, .ref s1] h Q ↔ ∃ x, mm_gF h s0 10 7 = some x ∧ ww (mp_P fx) d 222 154 ls [x, .ref s1] h Q := wr_getfield (n := 1007) rfl
theorem q222_154 (ls : mm_V) (s0 : Int64) (s1 : Nat) : ww (mp_P fx) d 222 154 ls [.long s0, .ref s1] h Q ↔ ww (mp_P fx) d 222 157 ls [.long 27, .long s0, .ref s1] h Q := wr_ldc2_w (i := 27) rfl
theorem q222_157 (ls : mm_V) (s0 : Int64) (s1 : Int64) (s2 : Nat) : ww (mp_P fx) d 222 157 ls [.long s0, .long s1, .ref s2] h Q ↔ ww (mp_P fx) d 222 158 ls [.long (s1 * s0), .ref s2] h Q := wr_lmul rfl
theorem q222_158 (l1 : Option Value) (x : Nat) (s0 : Int64) (s1 : Nat) : ww (mp_P fx) d 222 158 [some (.ref x), l1] [.long s0, .ref s1] h Q ↔ ww (mp_P fx) d 222 159 [some (.ref x), l1] [.ref x, .long s0, .ref s1] h Q := ww_step rfl
theorem q222_159 (l1 : Option Value) (x : Nat) (s0 : Nat) (s1 : Int64) (s2 : Nat) : ww (mp_P fx) d 222 159 [some (.ref x), l1] [.ref s0, .long s1, .ref s2] h Q ↔ ww (mp_P fx) d 222 160 [some (.ref x), l1] [.ref x, .ref s0, .long s1, .ref s2] h Q := ww_step rfl
theorem q222_160 (ls : mm_V) (s0 : Nat) (s1 : Nat) (s2 : Int64) (s3 : Nat) : ww (mp_P fx) d 222 160 ls [.ref s0, .ref s1, .long s2, .ref s3] h Q ↔ ∃ x, mm_gF h s0 10 4 = some x ∧ ww (mp_P fx) d 222 163 ls [x, .ref s1, .long s2, .ref s3] h Q := wr_getfield (n := 1004) rfl
theorem q222_163 (ls : mm_V) (s0 : Int32) (s1 : Nat) (s2 : Int64) (s3 : Nat) (hc : mm_cls h s1 = 10) : ww (mp_P fx) (d + 1) 222 163 ls [.int s0, .ref s1, .long s2, .ref s3] h Q ↔ wm (mp_P fx) d 223 [.ref s1, .int s0] h (fun r h' => ww (mp_P fx) (d + 1) 222 166 ls (r.toList ++ [.long s2, .ref s3]) h' Q) := wr_virtual rfl (mm_recv_ok (n := 1) (rc := 10) ⟨rfl, rfl⟩ rfl hc (by decide)) rfl
theorem q222_166 (ls : mm_V) (s0 : Int32) (s1 : Int64) (s2 : Nat) : ww (mp_P fx) d 222 166 ls [.int s0, .long s1, .ref s2] h Q ↔ ww (mp_P fx) d 222 167 ls [.long s0.toInt64, .long s1, .ref s2] h Q := wr_i2l rfl
theorem q222_167 (ls : mm_V) (s0 : Int64) (s1 : Int64) (s2 : Nat) : ww (mp_P fx) d 222 167 ls [.long s0, .long s1, .ref s2] h Q ↔ ww (mp_P fx) d 222 168 ls [.long (s1 + s0), .ref s2] h Q := wr_ladd rfl
theorem q222_168 (ls : mm_V) (s0 : Int64) (s1 : Nat) : ww (mp_P fx) d 222 168 ls [.long s0, .ref s1] h Q ↔ ww (mp_P fx) d 222 171 ls [.long 96, .long s0, .ref s1] h Q := wr_ldc2_w (i := 96) rfl
theorem q222_171 (ls : mm_V) (s0 : Int64) (s1 : Int64) (s2 : Nat) : ww (mp_P fx) d 222 171 ls [.long s0, .long s1, .ref s2] h Q ↔ ww (mp_P fx) d 222 172 ls [.long (s1 - s0), .ref s2] h Q := wr_lsub rfl
theorem q222_172 (ls : mm_V) (s0 : Int64) (s1 : Nat) : ww (mp_P fx) d 222 172 ls [.long s0, .ref s1] h Q ↔ ∃ h', mm_sF (mp_P fx) h s1 10 7 (.long s0) = some h' ∧ ww (mp_P fx) d 222 175 ls [] h' Q := wr_putfield (n := 1007) rfl
theorem q222_175 (l1 : Option Value) (x : Nat) : ww (mp_P fx) d 222 175 [some (.ref x), l1] [] h Q ↔ ww (mp_P fx) d 222 176 [some (.ref x), l1] [.ref x] h Q := ww_step rfl
theorem q222_176 (ls : mm_V) (s0 : Nat) : ww (mp_P fx) d 222 176 ls [.ref s0] h Q ↔ ww (mp_P fx) d 222 177 ls [.ref s0, .ref s0] h Q := ww_step rfl
theorem q222_177 (ls : mm_V) (s0 : Nat) (s1 : Nat) : ww (mp_P fx) d 222 177 ls [.ref s0, .ref s1] h Q ↔ ∃ x, mm_gF h s0 10 4 = some x ∧ ww (mp_P fx) d 222 180 ls [x, .ref s1] h Q := wr_getfield (n := 1004) rfl
theorem q222_180 (ls : mm_V) (s0 : Int32) (s1 : Nat) : ww (mp_P fx) d 222 180 ls [.int s0, .ref s1] h Q ↔ ww (mp_P fx) d 222 181 ls [.int 1, .int s0, .ref s1] h Q := wr_iconst (i := 1) rfl
theorem q222_181 (ls : mm_V) (s0 : Int32) (s1 : Int32) (s2 : Nat) : ww (mp_P fx) d 222 181 ls [.int s0, .int s1, .ref s2] h Q ↔ ww (mp_P fx) d 222 182 ls [.int (s1 + s0), .ref s2] h Q := wr_iadd rfl
theorem q222_182 (ls : mm_V) (s0 : Int32) (s1 : Nat) : ww (mp_P fx) d 222 182 ls [.int s0, .ref s1] h Q ↔ ∃ h', mm_sF (mp_P fx) h s1 10 4 (.int s0) = some h' ∧ ww (mp_P fx) d 222 185 ls [] h' Q := wr_putfield (n := 1004) rfl
theorem q222_185 (ls : mm_V) : ww (mp_P fx) d 222 185 ls [] h Q ↔ ww (mp_P fx) d 222 109 ls [] h Q := wr_goto (t := 109) rfl
theorem q222_188 (l1 : Option Value) (x : Nat) : ww (mp_P fx) d 222 188 [some (.ref x), l1] [] h Q ↔ ww (mp_P fx) d 222 189 [some (.ref x), l1] [.ref x] h Q := ww_step rfl
theorem q222_189 (l1 : Option Value) (x : Nat) (s0 : Nat) : ww (mp_P fx) d 222 189 [some (.ref x), l1] [.ref s0] h Q ↔ ww (mp_P fx) d 222 190 [some (.ref x), l1] [.ref x, .ref s0] h Q := ww_step rfl
theorem q222_190 (ls : mm_V) (s0 : Nat) (s1 : Nat) : ww (mp_P fx) d 222 190 ls [.ref s0, .ref s1] h Q ↔ ∃ x, mm_gF h s0 10 4 = some x ∧ ww (mp_P fx) d 222 193 ls [x, .ref s1] h Q := wr_getfield (n := 1004) rfl
theorem q222_193 (l1 : Option Value) (x : Nat) (s0 : Int32) (s1 : Nat) : ww (mp_P fx) d 222 193 [some (.ref x), l1] [.int s0, .ref s1] h Q ↔ ww (mp_P fx) d 222 194 [some (.ref x), l1] [.ref x, .int s0, .ref s1] h Q := ww_step rfl
theorem q222_194 (ls : mm_V) (s0 : Nat) (s1 : Int32) (s2 : Nat) : ww (mp_P fx) d 222 194 ls [.ref s0, .int s1, .ref s2] h Q ↔ ∃ x, mm_gF h s0 10 5 = some x ∧ ww (mp_P fx) d 222 197 ls [x, .int s1, .ref s2] h Q := wr_getfield (n := 1005) rfl
theorem q222_197 (ls : mm_V) (s0 : Int32) (s1 : Int32) (s2 : Nat) : ww (mp_P fx) d 222 197 ls [.int s0, .int s1, .ref s2] h Q ↔ ww (mp_P fx) d 222 198 ls [.int (s1 - s0), .ref s2] h Q := wr_isub rfl
theorem q222_198 (ls : mm_V) (s0 : Int32) (s1 : Nat) : ww (mp_P fx) d 222 198 ls [.int s0, .ref s1] h Q ↔ ww (mp_P fx) d 222 200 ls [.int 8, .int s0, .ref s1] h Q := wr_bipush (i := 8) rfl
theorem q222_200 (ls : mm_V) (s0 : Int32) (s1 : Int32) (s2 : Nat) : ww (mp_P fx) d 222 200 ls [.int s0, .int s1, .ref s2] h Q ↔ (if s1 ≤ s0 then ww (mp_P fx) d 222 207 ls [.ref s2] h Q else ww (mp_P fx) d 222 203 ls [.ref s2] h Q) := wr_icmp_le (t := 207) rfl
theorem q222_203 (ls : mm_V) (s0 : Nat) : ww (mp_P fx) d 222 203 ls [.ref s0] h Q ↔ ww (mp_P fx) d 222 204 ls [.int 4, .ref s0] h Q := wr_iconst (i := 4) rfl
theorem q222_204 (ls : mm_V) (s0 : Int32) (s1 : Nat) : ww (mp_P fx) d 222 204 ls [.int s0, .ref s1] h Q ↔ ww (mp_P fx) d 222 208 ls [.int s0, .ref s1] h Q := wr_goto (t := 208) rfl
theorem q222_207 (ls : mm_V) (s0 : Nat) : ww (mp_P fx) d 222 207 ls [.ref s0] h Q ↔ ww (mp_P fx) d 222 208 ls [.int 1, .ref s0] h Q := wr_iconst (i := 1) rfl
theorem q222_208 (ls : mm_V) (s0 : Int32) (s1 : Nat) : ww (mp_P fx) d 222 208 ls [.int s0, .ref s1] h Q ↔ ∃ h', mm_sF (mp_P fx) h s1 10 6 (.int s0) = some h' ∧ ww (mp_P fx) d 222 211 ls [] h' Q := wr_putfield (n := 1006) rfl
theorem q222_211 (ls : mm_V) : ww (mp_P fx) d 222 211 ls [] h Q ↔ Q none h := wr_return rfl rfl
theorem q222_212 (l0 : Option Value) (x : Int32) : ww (mp_P fx) d 222 212 [l0, some (.int x)] [] h Q ↔ ww (mp_P fx) d 222 213 [l0, some (.int x)] [.int x] h Q := ww_step rfl
theorem q222_213 (ls : mm_V) (s0 : Int32) : ww (mp_P fx) d 222 213 ls [.int s0] h Q ↔ ww (mp_P fx) d 222 215 ls [.int 48, .int s0] h Q := wr_bipush (i := 48) rfl
theorem q222_215 (ls : mm_V) (s0 : Int32) (s1 : Int32) : ww (mp_P fx) d 222 215 ls [.int s0, .int s1] h Q ↔ (if s1 < s0 then ww (mp_P fx) d 222 322 ls [] h Q else ww (mp_P fx) d 222 218 ls [] h Q) := wr_icmp_lt (t := 322) rfl
theorem q222_218 (l0 : Option Value) (x : Int32) : ww (mp_P fx) d 222 218 [l0, some (.int x)] [] h Q ↔ ww (mp_P fx) d 222 219 [l0, some (.int x)] [.int x] h Q := ww_step rfl
theorem q222_219 (ls : mm_V) (s0 : Int32) : ww (mp_P fx) d 222 219 ls [.int s0] h Q ↔ ww (mp_P fx) d 222 221 ls [.int 57, .int s0] h Q := wr_bipush (i := 57) rfl
theorem q222_221 (ls : mm_V) (s0 : Int32) (s1 : Int32) : ww (mp_P fx) d 222 221 ls [.int s0, .int s1] h Q ↔ (if s0 < s1 then ww (mp_P fx) d 222 322 ls [] h Q else ww (mp_P fx) d 222 224 ls [] h Q) := wr_icmp_gt (t := 322) rfl
theorem q222_224 (l1 : Option Value) (x : Nat) : ww (mp_P fx) d 222 224 [some (.ref x), l1] [] h Q ↔ ww (mp_P fx) d 222 225 [some (.ref x), l1] [.ref x] h Q := ww_step rfl
theorem q222_225 (l1 : Option Value) (x : Nat) (s0 : Nat) : ww (mp_P fx) d 222 225 [some (.ref x), l1] [.ref s0] h Q ↔ ww (mp_P fx) d 222 226 [some (.ref x), l1] [.ref x, .ref s0] h Q := ww_step rfl
theorem q222_226 (ls : mm_V) (s0 : Nat) (s1 : Nat) : ww (mp_P fx) d 222 226 ls [.ref s0, .ref s1] h Q ↔ ∃ x, mm_gF h s0 10 4 = some x ∧ ww (mp_P fx) d 222 229 ls [x, .ref s1] h Q := wr_getfield (n := 1004) rfl
theorem q222_229 (ls : mm_V) (s0 : Int32) (s1 : Nat) (hc : mm_cls h s1 = 10) : ww (mp_P fx) (d + 1) 222 229 ls [.int s0, .ref s1] h Q ↔ wm (mp_P fx) d 223 [.ref s1, .int s0] h (fun r h' => ww (mp_P fx) (d + 1) 222 232 ls (r.toList ++ []) h' Q) := wr_virtual rfl (mm_recv_ok (n := 1) (rc := 10) ⟨rfl, rfl⟩ rfl hc (by decide)) rfl
theorem q222_232 (ls : mm_V) (s0 : Int32) : ww (mp_P fx) d 222 232 ls [.int s0] h Q ↔ ww (mp_P fx) d 222 234 ls [.int 48, .int s0] h Q := wr_bipush (i := 48) rfl
theorem q222_234 (ls : mm_V) (s0 : Int32) (s1 : Int32) : ww (mp_P fx) d 222 234 ls [.int s0, .int s1] h Q ↔ (if s1 < s0 then ww (mp_P fx) d 222 299 ls [] h Q else ww (mp_P fx) d 222 237 ls [] h Q) := wr_icmp_lt (t := 299) rfl
theorem q222_237 (l1 : Option Value) (x : Nat) : ww (mp_P fx) d 222 237 [some (.ref x), l1] [] h Q ↔ ww (mp_P fx) d 222 238 [some (.ref x), l1] [.ref x] h Q := ww_step rfl
theorem q222_238 (l1 : Option Value) (x : Nat) (s0 : Nat) : ww (mp_P fx) d 222 238 [some (.ref x), l1] [.ref s0] h Q ↔ ww (mp_P fx) d 222 239 [some (.ref x), l1] [.ref x, .ref s0] h Q := ww_step rfl
theorem q222_239 (ls : mm_V) (s0 : Nat) (s1 : Nat) : ww (mp_P fx) d 222 239 ls [.ref s0, .ref s1] h Q ↔ ∃ x, mm_gF h s0 10 4 = some x ∧ ww (mp_P fx) d 222 242 ls [x, .ref s1] h Q := wr_getfield (n := 1004) rfl
theorem q222_242 (ls : mm_V) (s0 : Int32) (s1 : Nat) (hc : mm_cls h s1 = 10) : ww (mp_P fx) (d + 1) 222 242 ls [.int s0, .ref s1] h Q ↔ wm (mp_P fx) d 223 [.ref s1, .int s0] h (fun r h' => ww (mp_P fx) (d + 1) 222 245 ls (r.toList ++ []) h' Q) := wr_virtual rfl (mm_recv_ok (n := 1) (rc := 10) ⟨rfl, rfl⟩ rfl hc (by decide)) rfl
theorem q222_245 (ls : mm_V) (s0 : Int32) : ww (mp_P fx) d 222 245 ls [.int s0] h Q ↔ ww (mp_P fx) d 222 247 ls [.int 57, .int s0] h Q := wr_bipush (i := 57) rfl
theorem q222_247 (ls : mm_V) (s0 : Int32) (s1 : Int32) : ww (mp_P fx) d 222 247 ls [.int s0, .int s1] h Q ↔ (if s0 < s1 then ww (mp_P fx) d 222 299 ls [] h Q else ww (mp_P fx) d 222 250 ls [] h Q) := wr_icmp_gt (t := 299) rfl
theorem q222_250 (l1 : Option Value) (x : Nat) : ww (mp_P fx) d 222 250 [some (.ref x), l1] [] h Q ↔ ww (mp_P fx) d 222 251 [some (.ref x), l1] [.ref x] h Q := ww_step rfl
theorem q222_251 (ls : mm_V) (s0 : Nat) : ww (mp_P fx) d 222 251 ls [.ref s0] h Q ↔ ∃ x, mm_gF h s0 10 4 = some x ∧ ww (mp_P fx) d 222 254 ls [x] h Q := wr_getfield (n := 1004) rfl
theorem q222_254 (l1 : Option Value) (x : Nat) (s0 : Int32) : ww (mp_P fx) d 222 254 [some (.ref x), l1] [.int s0] h Q ↔ ww (mp_P fx) d 222 255 [some (.ref x), l1] [.ref x, .int s0] h Q := ww_step rfl
theorem q222_255 (ls : mm_V) (s0 : Nat) (s1 : Int32) : ww (mp_P fx) d 222 255 ls [.ref s0, .int s1] h Q ↔ ∃ x, mm_gF h s0 10 5 = some x ∧ ww (mp_P fx) d 222 258 ls [x, .int s1] h Q := wr_getfield (n := 1005) rfl
theorem q222_258 (ls : mm_V) (s0 : Int32) (s1 : Int32) : ww (mp_P fx) d 222 258 ls [.int s0, .int s1] h Q ↔ ww (mp_P fx) d 222 259 ls [.int (s1 - s0)] h Q := wr_isub rfl
theorem q222_259 (ls : mm_V) (s0 : Int32) : ww (mp_P fx) d 222 259 ls [.int s0] h Q ↔ ww (mp_P fx) d 222 260 ls [.int 4, .int s0] h Q := wr_iconst (i := 4) rfl
theorem q222_260 (ls : mm_V) (s0 : Int32) (s1 : Int32) : ww (mp_P fx) d 222 260 ls [.int s0, .int s1] h Q ↔ (if s0 ≤ s1 then ww (mp_P fx) d 222 286 ls [] h Q else ww (mp_P fx) d 222 263 ls [] h Q) := wr_icmp_ge (t := 286) rfl
theorem q222_263 (l1 : Option Value) (x : Nat) : ww (mp_P fx) d 222 263 [some (.ref x), l1] [] h Q ↔ ww (mp_P fx) d 222 264 [some (.ref x), l1] [.ref x] h Q := ww_step rfl
theorem q222_264 (l1 : Option Value) (x : Nat) (s0 : Nat) : ww (mp_P fx) d 222 264 [some (.ref x), l1] [.ref s0] h Q ↔ ww (mp_P fx) d 222 265 [some (.ref x), l1] [.ref x, .ref s0] h Q := ww_step rfl
theorem q222_265 (ls : mm_V) (s0 : Nat) (s1 : Nat) : ww (mp_P fx) d 222 265 ls [.ref s0, .ref s1] h Q ↔ ∃ x, mm_gF h s0 10 8 = some x ∧ ww (mp_P fx) d 222 268 ls [x, .ref s1] h Q := wr_getfield (n := 1008) rfl
theorem q222_268 (ls : mm_V) (s0 : Int32) (s1 : Nat) : ww (mp_P fx) d 222 268 ls [.int s0, .ref s1] h Q ↔ ww (mp_P fx) d 222 270 ls [.int 10, .int s0, .ref s1] h Q := wr_bipush (i := 10) rfl
theorem q222_270 (ls : mm_V) (s0 : Int32) (s1 : Int32) (s2 : Nat) : ww (mp_P fx) d 222 270 ls [.int s0, .int s1, .ref s2] h Q ↔ ww (mp_P fx) d 222 271 ls [.int (s1 * s0), .ref s2] h Q := wr_imul rfl
theorem q222_271 (l1 : Option Value) (x : Nat) (s0 : Int32) (s1 : Nat) : ww (mp_P fx) d 222 271 [some (.ref x), l1] [.int s0, .ref s1] h Q ↔ ww (mp_P fx) d 222 272 [some (.ref x), l1] [.ref x, .int s0, .ref s1] h Q := ww_step rfl
theorem q222_272 (l1 : Option Value) (x : Nat) (s0 : Nat) (s1 : Int32) (s2 : Nat) : ww (mp_P fx) d 222 272 [some (.ref x), l1] [.ref s0, .int s1, .ref s2] h Q ↔ ww (mp_P fx) d 222 273 [some (.ref x), l1] [.ref x, .ref s0, .int s1, .ref s2] h Q := ww_step rfl
theorem q222_273 (ls : mm_V) (s0 : Nat) (s1 : Nat) (s2 : Int32) (s3 : Nat) : ww (mp_P fx) d 222 273 ls [.ref s0, .ref s1, .int s2, .ref s3] h Q ↔ ∃ x, mm_gF h s0 10 4 = some x ∧ ww (mp_P fx) d 222 276 ls [x, .ref s1, .int s2, .ref s3] h Q := wr_getfield (n := 1004) rfl
theorem q222_276 (ls : mm_V) (s0 : Int32) (s1 : Nat) (s2 : Int32) (s3 : Nat) (hc : mm_cls h s1 = 10) : ww (mp_P fx) (d + 1) 222 276 ls [.int s0, .ref s1, .int s2, .ref s3] h Q ↔ wm (mp_P fx) d 223 [.ref s1, .int s0] h (fun r h' => ww (mp_P fx) (d + 1) 222 279 ls (r.toList ++ [.int s2, .ref s3]) h' Q) := wr_virtual rfl (mm_recv_ok (n := 1) (rc := 10) ⟨rfl, rfl⟩ rfl hc (by decide)) rfl
theorem q222_279 (ls : mm_V) (s0 : Int32) (s1 : Int32) (s2 : Nat) : ww (mp_P fx) d 222 279 ls [.int s0, .int s1, .ref s2] h Q ↔ ww (mp_P fx) d 222 280 ls [.int (s1 + s0), .ref s2] h Q := wr_iadd rfl
theorem q222_280 (ls : mm_V) (s0 : Int32) (s1 : Nat) : ww (mp_P fx) d 222 280 ls [.int s0, .ref s1] h Q ↔ ww (mp_P fx) d 222 282 ls [.int 48, .int s0, .ref s1] h Q := wr_bipush (i := 48) rfl
theorem q222_282 (ls : mm_V) (s0 : Int32) (s1 : Int32) (s2 : Nat) : ww (mp_P fx) d 222 282 ls [.int s0, .int s1, .ref s2] h Q ↔ ww (mp_P fx) d 222 283 ls [.int (s1 - s0), .ref s2] h Q := wr_isub rfl
theorem q222_283 (ls : mm_V) (s0 : Int32) (s1 : Nat) : ww (mp_P fx) d 222 283 ls [.int s0, .ref s1] h Q ↔ ∃ h', mm_sF (mp_P fx) h s1 10 8 (.int s0) = some h' ∧ ww (mp_P fx) d 222 286 ls [] h' Q := wr_putfield (n := 1008) rfl
theorem q222_286 (l1 : Option Value) (x : Nat) : ww (mp_P fx) d 222 286 [some (.ref x), l1] [] h Q ↔ ww (mp_P fx) d 222 287 [some (.ref x), l1] [.ref x] h Q := ww_step rfl
theorem q222_287 (ls : mm_V) (s0 : Nat) : ww (mp_P fx) d 222 287 ls [.ref s0] h Q ↔ ww (mp_P fx) d 222 288 ls [.ref s0, .ref s0] h Q := ww_step rfl
theorem q222_288 (ls : mm_V) (s0 : Nat) (s1 : Nat) : ww (mp_P fx) d 222 288 ls [.ref s0, .ref s1] h Q ↔ ∃ x, mm_gF h s0 10 4 = some x ∧ ww (mp_P fx) d 222 291 ls [x, .ref s1] h Q := wr_getfield (n := 1004) rfl
theorem q222_291 (ls : mm_V) (s0 : Int32) (s1 : Nat) : ww (mp_P fx) d 222 291 ls [.int s0, .ref s1] h Q ↔ ww (mp_P fx) d 222 292 ls [.int 1, .int s0, .ref s1] h Q := wr_iconst (i := 1) rfl
theorem q222_292 (ls : mm_V) (s0 : Int32) (s1 : Int32) (s2 : Nat) : ww (mp_P fx) d 222 292 ls [.int s0, .int s1, .ref s2] h Q ↔ ww (mp_P fx) d 222 293 ls [.int (s1 + s0), .ref s2] h Q := wr_iadd rfl
theorem q222_293 (ls : mm_V) (s0 : Int32) (s1 : Nat) : ww (mp_P fx) d 222 293 ls [.int s0, .ref s1] h Q ↔ ∃ h', mm_sF (mp_P fx) h s1 10 4 (.int s0) = some h' ∧ ww (mp_P fx) d 222 296 ls [] h' Q := wr_putfield (n := 1004) rfl
theorem q222_296 (ls : mm_V) : ww (mp_P fx) d 222 296 ls [] h Q ↔ ww (mp_P fx) d 222 224 ls [] h Q := wr_goto (t := 224) rfl
theorem q222_299 (l1 : Option Value) (x : Nat) : ww (mp_P fx) d 222 299 [some (.ref x), l1] [] h Q ↔ ww (mp_P fx) d 222 300 [some (.ref x), l1] [.ref x] h Q := ww_step rfl
theorem q222_300 (l1 : Option Value) (x : Nat) (s0 : Nat) : ww (mp_P fx) d 222 300 [some (.ref x), l1] [.ref s0] h Q ↔ ww (mp_P fx) d 222 301 [some (.ref x), l1] [.ref x, .ref s0] h Q := ww_step rfl
theorem q222_301 (ls : mm_V) (s0 : Nat) (s1 : Nat) : ww (mp_P fx) d 222 301 ls [.ref s0, .ref s1] h Q ↔ ∃ x, mm_gF h s0 10 4 = some x ∧ ww (mp_P fx) d 222 304 ls [x, .ref s1] h Q := wr_getfield (n := 1004) rfl
theorem q222_304 (l1 : Option Value) (x : Nat) (s0 : Int32) (s1 : Nat) : ww (mp_P fx) d 222 304 [some (.ref x), l1] [.int s0, .ref s1] h Q ↔ ww (mp_P fx) d 222 305 [some (.ref x), l1] [.ref x, .int s0, .ref s1] h Q := ww_step rfl
theorem q222_305 (ls : mm_V) (s0 : Nat) (s1 : Int32) (s2 : Nat) : ww (mp_P fx) d 222 305 ls [.ref s0, .int s1, .ref s2] h Q ↔ ∃ x, mm_gF h s0 10 5 = some x ∧ ww (mp_P fx) d 222 308 ls [x, .int s1, .ref s2] h Q := wr_getfield (n := 1005) rfl
theorem q222_308 (ls : mm_V) (s0 : Int32) (s1 : Int32) (s2 : Nat) : ww (mp_P fx) d 222 308 ls [.int s0, .int s1, .ref s2] h Q ↔ ww (mp_P fx) d 222 309 ls [.int (s1 - s0), .ref s2] h Q := wr_isub rfl
theorem q222_309 (ls : mm_V) (s0 : Int32) (s1 : Nat) : ww (mp_P fx) d 222 309 ls [.int s0, .ref s1] h Q ↔ ww (mp_P fx) d 222 310 ls [.int 4, .int s0, .ref s1] h Q := wr_iconst (i := 4) rfl
theorem q222_310 (ls : mm_V) (s0 : Int32) (s1 : Int32) (s2 : Nat) : ww (mp_P fx) d 222 310 ls [.int s0, .int s1, .ref s2] h Q ↔ (if s1 ≤ s0 then ww (mp_P fx) d 222 317 ls [.ref s2] h Q else ww (mp_P fx) d 222 313 ls [.ref s2] h Q) := wr_icmp_le (t := 317) rfl
theorem q222_313 (ls : mm_V) (s0 : Nat) : ww (mp_P fx) d 222 313 ls [.ref s0] h Q ↔ ww (mp_P fx) d 222 314 ls [.int 4, .ref s0] h Q := wr_iconst (i := 4) rfl
theorem q222_314 (ls : mm_V) (s0 : Int32) (s1 : Nat) : ww (mp_P fx) d 222 314 ls [.int s0, .ref s1] h Q ↔ ww (mp_P fx) d 222 318 ls [.int s0, .ref s1] h Q := wr_goto (t := 318) rfl
theorem q222_317 (ls : mm_V) (s0 : Nat) : ww (mp_P fx) d 222 317 ls [.ref s0] h Q ↔ ww (mp_P fx) d 222 318 ls [.int 2, .ref s0] h Q := wr_iconst (i := 2) rfl
theorem q222_318 (ls : mm_V) (s0 : Int32) (s1 : Nat) : ww (mp_P fx) d 222 318 ls [.int s0, .ref s1] h Q ↔ ∃ h', mm_sF (mp_P fx) h s1 10 6 (.int s0) = some h' ∧ ww (mp_P fx) d 222 321 ls [] h' Q := wr_putfield (n := 1006) rfl
theorem q222_321 (ls : mm_V) : ww (mp_P fx) d 222 321 ls [] h Q ↔ Q none h := wr_return rfl rfl
theorem q222_322 (l1 : Option Value) (x : Nat) : ww (mp_P fx) d 222 322 [some (.ref x), l1] [] h Q ↔ ww (mp_P fx) d 222 323 [some (.ref x), l1] [.ref x] h Q := ww_step rfl
theorem q222_323 (ls : mm_V) (s0 : Nat) : ww (mp_P fx) d 222 323 ls [.ref s0] h Q ↔ ww (mp_P fx) d 222 324 ls [.ref s0, .ref s0] h Q := ww_step rfl
theorem q222_324 (ls : mm_V) (s0 : Nat) (s1 : Nat) : ww (mp_P fx) d 222 324 ls [.ref s0, .ref s1] h Q ↔ ∃ x, mm_gF h s0 10 4 = some x ∧ ww (mp_P fx) d 222 327 ls [x, .ref s1] h Q := wr_getfield (n := 1004) rfl
theorem q222_327 (ls : mm_V) (s0 : Int32) (s1 : Nat) : ww (mp_P fx) d 222 327 ls [.int s0, .ref s1] h Q ↔ ww (mp_P fx) d 222 328 ls [.int 1, .int s0, .ref s1] h Q := wr_iconst (i := 1) rfl
theorem q222_328 (ls : mm_V) (s0 : Int32) (s1 : Int32) (s2 : Nat) : ww (mp_P fx) d 222 328 ls [.int s0, .int s1, .ref s2] h Q ↔ ww (mp_P fx) d 222 329 ls [.int (s1 + s0), .ref s2] h Q := wr_iadd rfl
theorem q222_329 (ls : mm_V) (s0 : Int32) (s1 : Nat) : ww (mp_P fx) d 222 329 ls [.int s0, .ref s1] h Q ↔ ∃ h', mm_sF (mp_P fx) h s1 10 4 (.int s0) = some h' ∧ ww (mp_P fx) d 222 332 ls [] h' Q := wr_putfield (n := 1004) rfl
theorem q222_332 (l1 : Option Value) (x : Nat) : ww (mp_P fx) d 222 332 [some (.ref x), l1] [] h Q ↔ ww (mp_P fx) d 222 333 [some (.ref x), l1] [.ref x] h Q := ww_step rfl
theorem q222_333 (l0 : Option Value) (x : Int32) (s0 : Nat) : ww (mp_P fx) d 222 333 [l0, some (.int x)] [.ref s0] h Q ↔ ww (mp_P fx) d 222 334 [l0, some (.int x)] [.int x, .ref s0] h Q := ww_step rfl
theorem q222_334 (ls : mm_V) (s0 : Int32) (s1 : Nat) : ww (mp_P fx) d 222 334 ls [.int s0, .ref s1] h Q ↔ ww (mp_P fx) d 222 336 ls [.int 40, .int s0, .ref s1] h Q := wr_bipush (i := 40) rfl
theorem q222_336 (ls : mm_V) (s0 : Int32) (s1 : Int32) (s2 : Nat) : ww (mp_P fx) d 222 336 ls [.int s0, .int s1, .ref s2] h Q ↔ (if s1 < s0 then ww (mp_P fx) d 222 345 ls [.ref s2] h Q else ww (mp_P fx) d 222 339 ls [.ref s2] h Q) := wr_icmp_lt (t := 345) rfl
theorem q222_339 (l0 : Option Value) (x : Int32) (s0 : Nat) : ww (mp_P fx) d 222 339 [l0, some (.int x)] [.ref s0] h Q ↔ ww (mp_P fx) d 222 340 [l0, some (.int x)] [.int x, .ref s0] h Q := ww_step rfl
theorem q222_340 (ls : mm_V) (s0 : Int32) (s1 : Nat) : ww (mp_P fx) d 222 340 ls [.int s0, .ref s1] h Q ↔ ww (mp_P fx) d 222 342 ls [.int 43, .int s0, .ref s1] h Q := wr_bipush (i := 43) rfl
theorem q222_342 (ls : mm_V) (s0 : Int32) (s1 : Int32) (s2 : Nat) : ww (mp_P fx) d 222 342 ls [.int s0, .int s1, .ref s2] h Q ↔ (if s1 ≤ s0 then ww (mp_P fx) d 222 363 ls [.ref s2] h Q else ww (mp_P fx) d 222 345 ls [.ref s2] h Q) := wr_icmp_le (t := 363) rfl
theorem q222_345 (l0 : Option Value) (x : Int32) (s0 : Nat) : ww (mp_P fx) d 222 345 [l0, some (.int x)] [.ref s0] h Q ↔ ww (mp_P fx) d 222 346 [l0, some (.int x)] [.int x, .ref s0] h Q := ww_step rfl
theorem q222_346 (ls : mm_V) (s0 : Int32) (s1 : Nat) : ww (mp_P fx) d 222 346 ls [.int s0, .ref s1] h Q ↔ ww (mp_P fx) d 222 348 ls [.int 45, .int s0, .ref s1] h Q := wr_bipush (i := 45) rfl
theorem q222_348 (ls : mm_V) (s0 : Int32) (s1 : Int32) (s2 : Nat) : ww (mp_P fx) d 222 348 ls [.int s0, .int s1, .ref s2] h Q ↔ (if s1 = s0 then ww (mp_P fx) d 222 363 ls [.ref s2] h Q else ww (mp_P fx) d 222 351 ls [.ref s2] h Q) := wr_icmp_eq (t := 363) rfl
theorem q222_351 (l0 : Option Value) (x : Int32) (s0 : Nat) : ww (mp_P fx) d 222 351 [l0, some (.int x)] [.ref s0] h Q ↔ ww (mp_P fx) d 222 352 [l0, some (.int x)] [.int x, .ref s0] h Q := ww_step rfl
theorem q222_352 (ls : mm_V) (s0 : Int32) (s1 : Nat) : ww (mp_P fx) d 222 352 ls [.int s0, .ref s1] h Q ↔ ww (mp_P fx) d 222 354 ls [.int 59, .int s0, .ref s1] h Q := wr_bipush (i := 59) rfl
theorem q222_354 (ls : mm_V) (s0 : Int32) (s1 : Int32) (s2 : Nat) : ww (mp_P fx) d 222 354 ls [.int s0, .int s1, .ref s2] h Q ↔ (if s1 < s0 then ww (mp_P fx) d 222 367 ls [.ref s2] h Q else ww (mp_P fx) d 222 357 ls [.ref s2] h Q) := wr_icmp_lt (t := 367) rfl
theorem q222_357 (l0 : Option Value) (x : Int32) (s0 : Nat) : ww (mp_P fx) d 222 357 [l0, some (.int x)] [.ref s0] h Q ↔ ww (mp_P fx) d 222 358 [l0, some (.int x)] [.int x, .ref s0] h Q := ww_step rfl
theorem q222_358 (ls : mm_V) (s0 : Int32) (s1 : Nat) : ww (mp_P fx) d 222 358 ls [.int s0, .ref s1] h Q ↔ ww (mp_P fx) d 222 360 ls [.int 61, .int s0, .ref s1] h Q := wr_bipush (i := 61) rfl
theorem q222_360 (ls : mm_V) (s0 : Int32) (s1 : Int32) (s2 : Nat) : ww (mp_P fx) d 222 360 ls [.int s0, .int s1, .ref s2] h Q ↔ (if s0 < s1 then ww (mp_P fx) d 222 367 ls [.ref s2] h Q else ww (mp_P fx) d 222 363 ls [.ref s2] h Q) := wr_icmp_gt (t := 367) rfl
theorem q222_363 (ls : mm_V) (s0 : Nat) : ww (mp_P fx) d 222 363 ls [.ref s0] h Q ↔ ww (mp_P fx) d 222 364 ls [.int 3, .ref s0] h Q := wr_iconst (i := 3) rfl
theorem q222_364 (ls : mm_V) (s0 : Int32) (s1 : Nat) : ww (mp_P fx) d 222 364 ls [.int s0, .ref s1] h Q ↔ ww (mp_P fx) d 222 368 ls [.int s0, .ref s1] h Q := wr_goto (t := 368) rfl
theorem q222_367 (ls : mm_V) (s0 : Nat) : ww (mp_P fx) d 222 367 ls [.ref s0] h Q ↔ ww (mp_P fx) d 222 368 ls [.int 4, .ref s0] h Q := wr_iconst (i := 4) rfl
theorem q222_368 (ls : mm_V) (s0 : Int32) (s1 : Nat) : ww (mp_P fx) d 222 368 ls [.int s0, .ref s1] h Q ↔ ∃ h', mm_sF (mp_P fx) h s1 10 6 (.int s0) = some h' ∧ ww (mp_P fx) d 222 371 ls [] h' Q := wr_putfield (n := 1006) rfl
theorem q222_371 (ls : mm_V) : ww (mp_P fx) d 222 371 ls [] h Q ↔ Q none h := wr_return rfl rfl
theorem e222 (a0 : Nat) : wm (mp_P fx) d 222 [.ref a0] h Q ↔ ww (mp_P fx) d 222 0 [some (.ref a0), none] [] h Q := Iff.rfl
/- 223 RainGrammarModel.signAt.(I)I -/
theorem q223_0 (l0 : Option Value) (x : Int32) : ww (mp_P fx) d 223 0 [l0, some (.int x)] [] h Q ↔ ww (mp_P fx) d 223 1 [l0, some (.int x)] [.int x] h Q := ww_step rfl
theorem q223_1 (l1 : Option Value) (x : Nat) (s0 : Int32) : ww (mp_P fx) d 223 1 [some (.ref x), l1] [.int s0] h Q ↔ ww (mp_P fx) d 223 2 [some (.ref x), l1] [.ref x, .int s0] h Q := ww_step rfl
theorem q223_2 (ls : mm_V) (s0 : Nat) (s1 : Int32) : ww (mp_P fx) d 223 2 ls [.ref s0, .int s1] h Q ↔ ∃ x, mm_gF h s0 10 3 = some x ∧ ww (mp_P fx) d 223 5 ls [x, .int s1] h Q := wr_getfield (n := 1003) rfl
theorem q223_5 (ls : mm_V) (s0 : Int32) (s1 : Int32) : ww (mp_P fx) d 223 5 ls [.int s0, .int s1] h Q ↔ (if s0 ≤ s1 then ww (mp_P fx) d 223 17 ls [] h Q else ww (mp_P fx) d 223 8 ls [] h Q) := wr_icmp_ge (t := 17) rfl
theorem q223_8 (l1 : Option Value) (x : Nat) : ww (mp_P fx) d 223 8 [some (.ref x), l1] [] h Q ↔ ww (mp_P fx) d 223 9 [some (.ref x), l1] [.ref x] h Q := ww_step rfl
theorem q223_9 (ls : mm_V) (s0 : Nat) : ww (mp_P fx) d 223 9 ls [.ref s0] h Q ↔ ∃ x, mm_gF h s0 10 2 = some x ∧ ww (mp_P fx) d 223 12 ls [x] h Q := wr_getfield (n := 1002) rfl
theorem q223_12 (l0 : Option Value) (x : Int32) (s0 : Nat) : ww (mp_P fx) d 223 12 [l0, some (.int x)] [.ref s0] h Q ↔ ww (mp_P fx) d 223 13 [l0, some (.int x)] [.int x, .ref s0] h Q := ww_step rfl
theorem q223_13 (ls : mm_V) (s0 : Int32) (s1 : Nat) : ww (mp_P fx) d 223 13 ls [.int s0, .ref s1] h Q ↔ ∃ x, mm_gI h s1 0 9 s0 = some x ∧ ww (mp_P fx) d 223 14 ls [.int x] h Q := wr_iaload rfl
theorem q223_14 (ls : mm_V) (s0 : Int32) : ww (mp_P fx) d 223 14 ls [.int s0] h Q ↔ ww (mp_P fx) d 223 18 ls [.int s0] h Q := wr_goto (t := 18) rfl
theorem q223_17 (ls : mm_V) : ww (mp_P fx) d 223 17 ls [] h Q ↔ ww (mp_P fx) d 223 18 ls [.int 0] h Q := wr_iconst (i := 0) rfl
theorem q223_18 (ls : mm_V) (s0 : Int32) : ww (mp_P fx) d 223 18 ls [.int s0] h Q ↔ Q (some (.int s0)) h := wr_ireturn rfl rfl
theorem e223 (a0 : Nat) (a1 : Int32) : wm (mp_P fx) d 223 [.ref a0, .int a1] h Q ↔ ww (mp_P fx) d 223 0 [some (.ref a0), some (.int a1)] [] h Q := Iff.rfl
/- 224 RainGrammarModel.isWord.(J)Z -/
theorem q224_0 (l1 : Option Value) (l2 : Option Value) (x : Nat) : ww (mp_P fx) d 224 0 [some (.ref x), l1, l2] [] h Q ↔ ww (mp_P fx) d 224 1 [some (.ref x), l1, l2] [.ref x] h Q := ww_step rfl
theorem q224_1 (ls : mm_V) (s0 : Nat) : ww (mp_P fx) d 224 1 ls [.ref s0] h Q ↔ ∃ x, mm_gF h s0 10 6 = some x ∧ ww (mp_P fx) d 224 4 ls [x] h Q := wr_getfield (n := 1006) rfl
theorem q224_4 (ls : mm_V) (s0 : Int32) : ww (mp_P fx) d 224 4 ls [.int s0] h Q ↔ ww (mp_P fx) d 224 5 ls [.int 1, .int s0] h Q := wr_iconst (i := 1) rfl
theorem q224_5 (ls : mm_V) (s0 : Int32) (s1 : Int32) : ww (mp_P fx) d 224 5 ls [.int s0, .int s1] h Q ↔ (if ¬ s1 = s0 then ww (mp_P fx) d 224 21 ls [] h Q else ww (mp_P fx) d 224 8 ls [] h Q) := wr_icmp_ne (t := 21) rfl
theorem q224_8 (l1 : Option Value) (l2 : Option Value) (x : Nat) : ww (mp_P fx) d 224 8 [some (.ref x), l1, l2] [] h Q ↔ ww (mp_P fx) d 224 9 [some (.ref x), l1, l2] [.ref x] h Q := ww_step rfl
theorem q224_9 (ls : mm_V) (s0 : Nat) : ww (mp_P fx) d 224 9 ls [.ref s0] h Q ↔ ∃ x, mm_gF h s0 10 7 = some x ∧ ww (mp_P fx) d 224 12 ls [x] h Q := wr_getfield (n := 1007) rfl
theorem q224_12 (l0 : Option Value) (l2 : Option Value) (x : Int64) (s0 : Int64) : ww (mp_P fx) d 224 12 [l0, some (.long x), l2] [.long s0] h Q ↔ ww (mp_P fx) d 224 13 [l0, some (.long x), l2] [.long x, .long s0] h Q := ww_step rfl
theorem q224_13 (ls : mm_V) (s0 : Int64) (s1 : Int64) : ww (mp_P fx) d 224 13 ls [.long s0, .long s1] h Q ↔ ww (mp_P fx) d 224 14 ls [.int (lg_cmp s1 s0)] h Q := wr_lcmp rfl
theorem q224_14 (ls : mm_V) (s0 : Int32) : ww (mp_P fx) d 224 14 ls [.int s0] h Q ↔ (if ¬ s0 = 0 then ww (mp_P fx) d 224 21 ls [] h Q else ww (mp_P fx) d 224 17 ls [] h Q) := wr_if_ne (t := 21) rfl
theorem q224_17 (ls : mm_V) : ww (mp_P fx) d 224 17 ls [] h Q ↔ ww (mp_P fx) d 224 18 ls [.int 1] h Q := wr_iconst (i := 1) rfl
theorem q224_18 (ls : mm_V) (s0 : Int32) : ww (mp_P fx) d 224 18 ls [.int s0] h Q ↔ ww (mp_P fx) d 224 22 ls [.int s0] h Q := wr_goto (t := 22) rfl
theorem q224_21 (ls : mm_V) : ww (mp_P fx) d 224 21 ls [] h Q ↔ ww (mp_P fx) d 224 22 ls [.int 0] h Q := wr_iconst (i := 0) rfl
theorem q224_22 (ls : mm_V) (s0 : Int32) (hb : mm_ret (mp_sig 224).2.2.2 (.int s0) = true) : ww (mp_P fx) d 224 22 ls [.int s0] h Q ↔ Q (some (.int s0)) h := wr_ireturn rfl hb
theorem b224_0 : mm_ret (mp_sig 224).2.2.2 (.int 0) = true := by decide +kernel
theorem b224_1 : mm_ret (mp_sig 224).2.2.2 (.int 1) = true := by decide +kernel
theorem e224 (a0 : Nat) (a1 : Int64) : wm (mp_P fx) d 224 [.ref a0, .long a1] h Q ↔ ww (mp_P fx) d 224 0 [some (.ref a0), some (.long a1), none] [] h Q := Iff.rfl
/- 225 RainGrammarModel.readsSort.()Z -/
theorem q225_0 (ls : mm_V) : ww (mp_P fx) d 225 0 ls [] h Q ↔ ww (mp_P fx) d 225 2 ls [.int 6] h Q := wr_bipush (i := 6) rfl
theorem q225_2 (l1 : Option Value) (x : Nat) (s0 : Int32) : ww (mp_P fx) d 225 2 [some (.ref x), l1] [.int s0] h Q ↔ ww (mp_P fx) d 225 3 [some (.ref x), l1] [.ref x, .int s0] h Q := ww_step rfl
theorem q225_3 (ls : mm_V) (s0 : Nat) (s1 : Int32) : ww (mp_P fx) d 225 3 ls [.ref s0, .int s1] h Q ↔ ∃ x, mm_gF h s0 10 10 = some x ∧ ww (mp_P fx) d 225 6 ls [x, .int s1] h Q := wr_getfield (n := 1010) rfl
theorem q225_6 (ls : mm_V) (s0 : Nat) (s1 : Int32) : ww (mp_P fx) d 225 6 ls [.ref s0, .int s1] h Q ↔ ww (mp_P fx) d 225 8 ls [.int 6, .ref s0, .int s1] h Q := wr_bipush (i := 6) rfl
theorem q225_8 (ls : mm_V) (s0 : Int32) (s1 : Nat) (s2 : Int32) : ww (mp_P fx) d 225 8 ls [.int s0, .ref s1, .int s2] h Q ↔ ∃ x, mm_gI h s1 0 9 s0 = some x ∧ ww (mp_P fx) d 225 9 ls [.int x, .int s2] h Q := wr_iaload rfl
theorem q225_9 (ls : mm_V) (s0 : Int32) (s1 : Int32) : ww (mp_P fx) d 225 9 ls [.int s0, .int s1] h Q ↔ ww (mp_P fx) d 225 10 ls [.int (s1 + s0)] h Q := wr_iadd rfl
theorem q225_10r (l1 : Option Value) (y : Nat) (s0 : Int32) : ww (mp_P fx) d 225 10 [some (.ref y), l1] [.int s0] h Q ↔ ww (mp_P fx) d 225 11 [some (.ref y), some (.int s0)] [] h Q := wr_istore_n rfl (mm_s1_ok (Nat.le_of_ble_eq_true rfl) rfl)
theorem q225_11 (l0 : Option Value) (x : Int32) : ww (mp_P fx) d 225 11 [l0, some (.int x)] [] h Q ↔ ww (mp_P fx) d 225 12 [l0, some (.int x)] [.int x] h Q := ww_step rfl
theorem q225_12 (ls : mm_V) (s0 : Int32) : ww (mp_P fx) d 225 12 ls [.int s0] h Q ↔ ww (mp_P fx) d 225 14 ls [.int 12, .int s0] h Q := wr_bipush (i := 12) rfl
theorem q225_14 (ls : mm_V) (s0 : Int32) (s1 : Int32) : ww (mp_P fx) d 225 14 ls [.int s0, .int s1] h Q ↔ (if ¬ s1 = s0 then ww (mp_P fx) d 225 23 ls [] h Q else ww (mp_P fx) d 225 17 ls [] h Q) := wr_icmp_ne (t := 23) rfl
theorem q225_17 (l1 : Option Value) (x : Nat) : ww (mp_P fx) d 225 17 [some (.ref x), l1] [] h Q ↔ ww (mp_P fx) d 225 18 [some (.ref x), l1] [.ref x] h Q := ww_step rfl
theorem q225_18 (ls : mm_V) (s0 : Nat) : ww (mp_P fx) d 225 18 ls [.ref s0] h Q ↔ ww (mp_P fx) d 225 19 ls [.int 5, .ref s0] h Q := wr_iconst (i := 5) rfl
theorem q225_19 (ls : mm_V) (s0 : Int32) (s1 : Nat) (hc : mm_cls h s1 = 10) : ww (mp_P fx) (d + 1) 225 19 ls [.int s0, .ref s1] h Q ↔ wm (mp_P fx) d 226 [.ref s1, .int s0] h (fun r h' => ww (mp_P fx) (d + 1) 225 22 ls (r.toList ++ []) h' Q) := wr_virtual rfl (mm_recv_ok (n := 1) (rc := 10) ⟨rfl, rfl⟩ rfl hc (by decide)) rfl
theorem q225_22 (ls : mm_V) (s0 : Int32) (hb : mm_ret (mp_sig 225).2.2.2 (.int s0) = true) : ww (mp_P fx) d 225 22 ls [.int s0] h Q ↔ Q (some (.int s0)) h := wr_ireturn rfl hb
theorem q225_23 (l1 : Option Value) (x : Nat) : ww (mp_P fx) d 225 23 [some (.ref x), l1] [] h Q ↔ ww (mp_P fx) d 225 24 [some (.ref x), l1] [.ref x] h Q := ww_step rfl
theorem q225_24 (ls : mm_V) (s0 : Nat) (hc : mm_cls h s0 = 10) : ww (mp_P fx) (d + 1) 225 24 ls [.ref s0] h Q ↔ wm (mp_P fx) d 222 [.ref s0] h (fun r h' => ww (mp_P fx) (d + 1) 225 27 ls (r.toList ++ []) h' Q) := wr_virtual rfl (mm_recv_ok (n := 0) (rc := 10) ⟨rfl, rfl⟩ rfl hc (by decide)) rfl
theorem q225_27 (l1 : Option Value) (x : Nat) : ww (mp_P fx) d 225 27 [some (.ref x), l1] [] h Q ↔ ww (mp_P fx) d 225 28 [some (.ref x), l1] [.ref x] h Q := ww_step rfl
theorem q225_28 (ls : mm_V) (s0 : Nat) (hc : mm_cls h s0 = 10) : ww (mp_P fx) (d + 1) 225 28 ls [.ref s0] h Q ↔ wm (mp_P fx) d 227 [.ref s0] h (fun r h' => ww (mp_P fx) (d + 1) 225 31 ls (r.toList ++ []) h' Q) := wr_virtual rfl (mm_recv_ok (n := 0) (rc := 10) ⟨rfl, rfl⟩ rfl hc (by decide)) rfl
theorem q225_31 (ls : mm_V) (s0 : Int32) : ww (mp_P fx) d 225 31 ls [.int s0] h Q ↔ (if ¬ s0 = 0 then ww (mp_P fx) d 225 36 ls [] h Q else ww (mp_P fx) d 225 34 ls [] h Q) := wr_if_ne (t := 36) rfl
theorem q225_34 (ls : mm_V) : ww (mp_P fx) d 225 34 ls [] h Q ↔ ww (mp_P fx) d 225 35 ls [.int 0] h Q := wr_iconst (i := 0) rfl
theorem q225_35 (ls : mm_V) (s0 : Int32) (hb : mm_ret (mp_sig 225).2.2.2 (.int s0) = true) : ww (mp_P fx) d 225 35 ls [.int s0] h Q ↔ Q (some (.int s0)) h := wr_ireturn rfl hb
theorem q225_36 (l1 : Option Value) (x : Nat) : ww (mp_P fx) d 225 36 [some (.ref x), l1] [] h Q ↔ ww (mp_P fx) d 225 37 [some (.ref x), l1] [.ref x] h Q := ww_step rfl
theorem q225_37 (ls : mm_V) (s0 : Nat) : ww (mp_P fx) d 225 37 ls [.ref s0] h Q ↔ ∃ x, mm_gF h s0 10 11 = some x ∧ ww (mp_P fx) d 225 40 ls [x] h Q := wr_getfield (n := 1011) rfl
theorem q225_40 (l0 : Option Value) (x : Int32) (s0 : Nat) : ww (mp_P fx) d 225 40 [l0, some (.int x)] [.ref s0] h Q ↔ ww (mp_P fx) d 225 41 [l0, some (.int x)] [.int x, .ref s0] h Q := ww_step rfl
theorem q225_41 (l1 : Option Value) (x : Nat) (s0 : Int32) (s1 : Nat) : ww (mp_P fx) d 225 41 [some (.ref x), l1] [.int s0, .ref s1] h Q ↔ ww (mp_P fx) d 225 42 [some (.ref x), l1] [.ref x, .int s0, .ref s1] h Q := ww_step rfl
theorem q225_42 (ls : mm_V) (s0 : Nat) (s1 : Int32) (s2 : Nat) : ww (mp_P fx) d 225 42 ls [.ref s0, .int s1, .ref s2] h Q ↔ ∃ x, mm_gF h s0 10 39 = some x ∧ ww (mp_P fx) d 225 45 ls [x, .int s1, .ref s2] h Q := wr_getfield (n := 1039) rfl
theorem q225_45 (ls : mm_V) (s0 : Int64) (s1 : Int32) (s2 : Nat) : ww (mp_P fx) d 225 45 ls [.long s0, .int s1, .ref s2] h Q ↔ ∃ h', mm_sL h s2 s1 s0 = some h' ∧ ww (mp_P fx) d 225 46 ls [] h' Q := wr_lastore rfl
theorem q225_46 (l1 : Option Value) (x : Nat) : ww (mp_P fx) d 225 46 [some (.ref x), l1] [] h Q ↔ ww (mp_P fx) d 225 47 [some (.ref x), l1] [.ref x] h Q := ww_step rfl
theorem q225_47 (ls : mm_V) (s0 : Nat) : ww (mp_P fx) d 225 47 ls [.ref s0] h Q ↔ ∃ x, mm_gF h s0 10 10 = some x ∧ ww (mp_P fx) d 225 50 ls [x] h Q := wr_getfield (n := 1010) rfl
theorem q225_50 (ls : mm_V) (s0 : Nat) : ww (mp_P fx) d 225 50 ls [.ref s0] h Q ↔ ww (mp_P fx) d 225 52 ls [.int 6, .ref s0] h Q := wr_bipush (i := 6) rfl
theorem q225_52 (ls : mm_V) (s0 : Int32) (s1 : Nat) : ww (mp_P fx) d 225 52 ls [.int s0, .ref s1] h Q ↔ ww (mp_P fx) d 225 53 ls [.int s0, .ref s1, .int s0, .ref s1] h Q := ww_step rfl
theorem q225_53 (ls : mm_V) (s0 : Int32) (s1 : Nat) (s2 : Int32) (s3 : Nat) : ww (mp_P fx) d 225 53 ls [.int s0, .ref s1, .int s2, .ref s3] h Q ↔ ∃ x, mm_gI h s1 0 9 s0 = some x ∧ ww (mp_P fx) d 225 54 ls [.int x, .int s2, .ref s3] h Q := wr_iaload rfl
theorem q225_54 (ls : mm_V) (s0 : Int32) (s1 : Int32) (s2 : Nat) : ww (mp_P fx) d 225 54 ls [.int s0, .int s1, .ref s2] h Q ↔ ww (mp_P fx) d 225 55 ls [.int 1, .int s0, .int s1, .ref s2] h Q := wr_iconst (i := 1) rfl
theorem q225_55 (ls : mm_V) (s0 : Int32) (s1 : Int32) (s2 : Int32) (s3 : Nat) : ww (mp_P fx) d 225 55 ls [.int s0, .int s1, .int s2, .ref s3] h Q ↔ ww (mp_P fx) d 225 56 ls [.int (s1 + s0), .int s2, .ref s3] h Q := wr_iadd rfl
theorem q225_56 (ls : mm_V) (s0 : Int32) (s1 : Int32) (s2 : Nat) : ww (mp_P fx) d 225 56 ls [.int s0, .int s1, .ref s2] h Q ↔ ∃ h', mm_sI h s2 0 s1 s0 = some h' ∧ ww (mp_P fx) d 225 57 ls [] h' Q := wr_iastore rfl
theorem q225_57 (l1 : Option Value) (x : Nat) : ww (mp_P fx) d 225 57 [some (.ref x), l1] [] h Q ↔ ww (mp_P fx) d 225 58 [some (.ref x), l1] [.ref x] h Q := ww_step rfl
theorem q225_58 (ls : mm_V) (s0 : Nat) (hc : mm_cls h s0 = 10) : ww (mp_P fx) (d + 1) 225 58 ls [.ref s0] h Q ↔ wm (mp_P fx) d 232 [.ref s0] h (fun r h' => ww (mp_P fx) (d + 1) 225 61 ls (r.toList ++ []) h' Q) := wr_virtual rfl (mm_recv_ok (n := 0) (rc := 10) ⟨rfl, rfl⟩ rfl hc (by decide)) rfl
theorem q225_61 (ls : mm_V) (s0 : Int32) (hb : mm_ret (mp_sig 225).2.2.2 (.int s0) = true) : ww (mp_P fx) d 225 61 ls [.int s0] h Q ↔ Q (some (.int s0)) h := wr_ireturn rfl hb
theorem b225_0 : mm_ret (mp_sig 225).2.2.2 (.int 0) = true := by decide +kernel
theorem b225_1 : mm_ret (mp_sig 225).2.2.2 (.int 1) = true := by decide +kernel
theorem e225 (a0 : Nat) : wm (mp_P fx) d 225 [.ref a0] h Q ↔ ww (mp_P fx) d 225 0 [some (.ref a0), none] [] h Q := Iff.rfl
/- 226 RainGrammarModel.fails.(I)Z -/
theorem q226_0 (l1 : Option Value) (x : Nat) : ww (mp_P fx) d 226 0 [some (.ref x), l1] [] h Q ↔ ww (mp_P fx) d 226 1 [some (.ref x), l1] [.ref x] h Q := ww_step rfl
theorem q226_1 (l0 : Option Value) (x : Int32) (s0 : Nat) : ww (mp_P fx) d 226 1 [l0, some (.int x)] [.ref s0] h Q ↔ ww (mp_P fx) d 226 2 [l0, some (.int x)] [.int x, .ref s0] h Q := ww_step rfl
theorem q226_2 (ls : mm_V) (s0 : Int32) (s1 : Nat) : ww (mp_P fx) d 226 2 ls [.int s0, .ref s1] h Q ↔ ww (mp_P fx) d 226 4 ls [.int 16, .int s0, .ref s1] h Q := wr_bipush (i := 16) rfl
theorem q226_4 (l1 : Option Value) (x : Nat) (s0 : Int32) (s1 : Int32) (s2 : Nat) : ww (mp_P fx) d 226 4 [some (.ref x), l1] [.int s0, .int s1, .ref s2] h Q ↔ ww (mp_P fx) d 226 5 [some (.ref x), l1] [.ref x, .int s0, .int s1, .ref s2] h Q := ww_step rfl
theorem q226_5 (ls : mm_V) (s0 : Nat) (s1 : Int32) (s2 : Int32) (s3 : Nat) : ww (mp_P fx) d 226 5 ls [.ref s0, .int s1, .int s2, .ref s3] h Q ↔ ∃ x, mm_gF h s0 10 5 = some x ∧ ww (mp_P fx) d 226 8 ls [x, .int s1, .int s2, .ref s3] h Q := wr_getfield (n := 1005) rfl
theorem q226_8 (ls : mm_V) (s0 : Int32) (s1 : Int32) (s2 : Int32) (s3 : Nat) : ww (mp_P fx) d 226 8 ls [.int s0, .int s1, .int s2, .ref s3] h Q ↔ ww (mp_P fx) d 226 9 ls [.int (s1 * s0), .int s2, .ref s3] h Q := wr_imul rfl
theorem q226_9 (ls : mm_V) (s0 : Int32) (s1 : Int32) (s2 : Nat) : ww (mp_P fx) d 226 9 ls [.int s0, .int s1, .ref s2] h Q ↔ ww (mp_P fx) d 226 10 ls [.int (s1 + s0), .ref s2] h Q := wr_iadd rfl
theorem q226_10 (ls : mm_V) (s0 : Int32) (s1 : Nat) : ww (mp_P fx) d 226 10 ls [.int s0, .ref s1] h Q ↔ ∃ h', mm_sF (mp_P fx) h s1 10 9 (.int s0) = some h' ∧ ww (mp_P fx) d 226 13 ls [] h' Q := wr_putfield (n := 1009) rfl
theorem q226_13 (ls : mm_V) : ww (mp_P fx) d 226 13 ls [] h Q ↔ ww (mp_P fx) d 226 14 ls [.int 0] h Q := wr_iconst (i := 0) rfl
theorem q226_14 (ls : mm_V) (s0 : Int32) (hb : mm_ret (mp_sig 226).2.2.2 (.int s0) = true) : ww (mp_P fx) d 226 14 ls [.int s0] h Q ↔ Q (some (.int s0)) h := wr_ireturn rfl hb
theorem b226_0 : mm_ret (mp_sig 226).2.2.2 (.int 0) = true := by decide +kernel
theorem b226_1 : mm_ret (mp_sig 226).2.2.2 (.int 1) = true := by decide +kernel
theorem e226 (a0 : Nat) (a1 : Int32) : wm (mp_P fx) d 226 [.ref a0, .int a1] h Q ↔ ww (mp_P fx) d 226 0 [some (.ref a0), some (.int a1)] [] h Q := Iff.rfl
/- 227 RainGrammarModel.needsNew.()Z -/
theorem q227_0  (x : Nat) : ww (mp_P fx) d 227 0 [some (.ref x)] [] h Q ↔ ww (mp_P fx) d 227 1 [some (.ref x)] [.ref x] h Q := ww_step rfl
theorem q227_1 (ls : mm_V) (s0 : Nat) (hc : mm_cls h s0 = 10) : ww (mp_P fx) (d + 1) 227 1 ls [.ref s0] h Q ↔ wm (mp_P fx) d 228 [.ref s0] h (fun r h' => ww (mp_P fx) (d + 1) 227 4 ls (r.toList ++ []) h' Q) := wr_virtual rfl (mm_recv_ok (n := 0) (rc := 10) ⟨rfl, rfl⟩ rfl hc (by decide)) rfl
theorem q227_4 (ls : mm_V) (s0 : Int32) : ww (mp_P fx) d 227 4 ls [.int s0] h Q ↔ (if s0 = 0 then ww (mp_P fx) d 227 13 ls [] h Q else ww (mp_P fx) d 227 7 ls [] h Q) := wr_if_eq (t := 13) rfl
theorem q227_7  (x : Nat) : ww (mp_P fx) d 227 7 [some (.ref x)] [] h Q ↔ ww (mp_P fx) d 227 8 [some (.ref x)] [.ref x] h Q := ww_step rfl
theorem q227_8 (ls : mm_V) (s0 : Nat) : ww (mp_P fx) d 227 8 ls [.ref s0] h Q ↔ ww (mp_P fx) d 227 9 ls [.int 1, .ref s0] h Q := wr_iconst (i := 1) rfl
theorem q227_9 (ls : mm_V) (s0 : Int32) (s1 : Nat) (hc : mm_cls h s1 = 10) : ww (mp_P fx) (d + 1) 227 9 ls [.int s0, .ref s1] h Q ↔ wm (mp_P fx) d 226 [.ref s1, .int s0] h (fun r h' => ww (mp_P fx) (d + 1) 227 12 ls (r.toList ++ []) h' Q) := wr_virtual rfl (mm_recv_ok (n := 1) (rc := 10) ⟨rfl, rfl⟩ rfl hc (by decide)) rfl
theorem q227_12 (ls : mm_V) (s0 : Int32) (hb : mm_ret (mp_sig 227).2.2.2 (.int s0) = true) : ww (mp_P fx) d 227 12 ls [.int s0] h Q ↔ Q (some (.int s0)) h := wr_ireturn rfl hb
theorem q227_13  (x : Nat) : ww (mp_P fx) d 227 13 [some (.ref x)] [] h Q ↔ ww (mp_P fx) d 227 14 [some (.ref x)] [.ref x] h Q := ww_step rfl
theorem q227_14 (ls : mm_V) (s0 : Nat) : ww (mp_P fx) d 227 14 ls [.ref s0] h Q ↔ ww (mp_P fx) d 227 15 ls [.int 1, .ref s0] h Q := wr_iconst (i := 1) rfl
theorem q227_15 (ls : mm_V) (s0 : Int32) (s1 : Nat) (hc : mm_cls h s1 = 10) : ww (mp_P fx) (d + 1) 227 15 ls [.int s0, .ref s1] h Q ↔ wm (mp_P fx) d 229 [.ref s1, .int s0] h (fun r h' => ww (mp_P fx) (d + 1) 227 18 ls (r.toList ++ []) h' Q) := wr_virtual rfl (mm_recv_ok (n := 1) (rc := 10) ⟨rfl, rfl⟩ rfl hc (by decide)) rfl
theorem q227_18 (ls : mm_V) (s0 : Int32) : ww (mp_P fx) d 227 18 ls [.int s0] h Q ↔ (if 0 ≤ s0 then ww (mp_P fx) d 227 37 ls [] h Q else ww (mp_P fx) d 227 21 ls [] h Q) := wr_if_ge (t := 37) rfl
theorem q227_21  (x : Nat) : ww (mp_P fx) d 227 21 [some (.ref x)] [] h Q ↔ ww (mp_P fx) d 227 22 [some (.ref x)] [.ref x] h Q := ww_step rfl
theorem q227_22 (ls : mm_V) (s0 : Nat) : ww (mp_P fx) d 227 22 ls [.ref s0] h Q ↔ ww (mp_P fx) d 227 23 ls [.int 1, .ref s0] h Q := wr_iconst (i := 1) rfl
theorem q227_23 (ls : mm_V) (s0 : Int32) (s1 : Nat) (hc : mm_cls h s1 = 10) : ww (mp_P fx) (d + 1) 227 23 ls [.int s0, .ref s1] h Q ↔ wm (mp_P fx) d 230 [.ref s1, .int s0] h (fun r h' => ww (mp_P fx) (d + 1) 227 26 ls (r.toList ++ []) h' Q) := wr_virtual rfl (mm_recv_ok (n := 1) (rc := 10) ⟨rfl, rfl⟩ rfl hc (by decide)) rfl
theorem q227_26 (ls : mm_V) (s0 : Int32) : ww (mp_P fx) d 227 26 ls [.int s0] h Q ↔ (if 0 ≤ s0 then ww (mp_P fx) d 227 37 ls [] h Q else ww (mp_P fx) d 227 29 ls [] h Q) := wr_if_ge (t := 37) rfl
theorem q227_29  (x : Nat) : ww (mp_P fx) d 227 29 [some (.ref x)] [] h Q ↔ ww (mp_P fx) d 227 30 [some (.ref x)] [.ref x] h Q := ww_step rfl
theorem q227_30 (ls : mm_V) (s0 : Nat) : ww (mp_P fx) d 227 30 ls [.ref s0] h Q ↔ ww (mp_P fx) d 227 31 ls [.int 1, .ref s0] h Q := wr_iconst (i := 1) rfl
theorem q227_31 (ls : mm_V) (s0 : Int32) (s1 : Nat) (hc : mm_cls h s1 = 10) : ww (mp_P fx) (d + 1) 227 31 ls [.int s0, .ref s1] h Q ↔ wm (mp_P fx) d 231 [.ref s1, .int s0] h (fun r h' => ww (mp_P fx) (d + 1) 227 34 ls (r.toList ++ []) h' Q) := wr_virtual rfl (mm_recv_ok (n := 1) (rc := 10) ⟨rfl, rfl⟩ rfl hc (by decide)) rfl
theorem q227_34 (ls : mm_V) (s0 : Int32) : ww (mp_P fx) d 227 34 ls [.int s0] h Q ↔ (if s0 < 0 then ww (mp_P fx) d 227 43 ls [] h Q else ww (mp_P fx) d 227 37 ls [] h Q) := wr_if_lt (t := 43) rfl
theorem q227_37  (x : Nat) : ww (mp_P fx) d 227 37 [some (.ref x)] [] h Q ↔ ww (mp_P fx) d 227 38 [some (.ref x)] [.ref x] h Q := ww_step rfl
theorem q227_38 (ls : mm_V) (s0 : Nat) : ww (mp_P fx) d 227 38 ls [.ref s0] h Q ↔ ww (mp_P fx) d 227 39 ls [.int 3, .ref s0] h Q := wr_iconst (i := 3) rfl
theorem q227_39 (ls : mm_V) (s0 : Int32) (s1 : Nat) (hc : mm_cls h s1 = 10) : ww (mp_P fx) (d + 1) 227 39 ls [.int s0, .ref s1] h Q ↔ wm (mp_P fx) d 226 [.ref s1, .int s0] h (fun r h' => ww (mp_P fx) (d + 1) 227 42 ls (r.toList ++ []) h' Q) := wr_virtual rfl (mm_recv_ok (n := 1) (rc := 10) ⟨rfl, rfl⟩ rfl hc (by decide)) rfl
theorem q227_42 (ls : mm_V) (s0 : Int32) (hb : mm_ret (mp_sig 227).2.2.2 (.int s0) = true) : ww (mp_P fx) d 227 42 ls [.int s0] h Q ↔ Q (some (.int s0)) h := wr_ireturn rfl hb
theorem q227_43  (x : Nat) : ww (mp_P fx) d 227 43 [some (.ref x)] [] h Q ↔ ww (mp_P fx) d 227 44 [some (.ref x)] [.ref x] h Q := ww_step rfl
theorem q227_44  (x : Nat) (s0 : Nat) : ww (mp_P fx) d 227 44 [some (.ref x)] [.ref s0] h Q ↔ ww (mp_P fx) d 227 45 [some (.ref x)] [.ref x, .ref s0] h Q := ww_step rfl
theorem q227_45 (ls : mm_V) (s0 : Nat) (s1 : Nat) : ww (mp_P fx) d 227 45 ls [.ref s0, .ref s1] h Q ↔ ∃ x, mm_gF h s0 10 7 = some x ∧ ww (mp_P fx) d 227 48 ls [x, .ref s1] h Q := wr_getfield (n := 1007) rfl
theorem q227_48 (ls : mm_V) (s0 : Int64) (s1 : Nat) : ww (mp_P fx) d 227 48 ls [.long s0, .ref s1] h Q ↔ ∃ h', mm_sF (mp_P fx) h s1 10 39 (.long s0) = some h' ∧ ww (mp_P fx) d 227 51 ls [] h' Q := wr_putfield (n := 1039) rfl
theorem q227_51  (x : Nat) : ww (mp_P fx) d 227 51 [some (.ref x)] [] h Q ↔ ww (mp_P fx) d 227 52 [some (.ref x)] [.ref x] h Q := ww_step rfl
theorem q227_52 (ls : mm_V) (s0 : Nat) (hc : mm_cls h s0 = 10) : ww (mp_P fx) (d + 1) 227 52 ls [.ref s0] h Q ↔ wm (mp_P fx) d 222 [.ref s0] h (fun r h' => ww (mp_P fx) (d + 1) 227 55 ls (r.toList ++ []) h' Q) := wr_virtual rfl (mm_recv_ok (n := 0) (rc := 10) ⟨rfl, rfl⟩ rfl hc (by decide)) rfl
theorem q227_55 (ls : mm_V) : ww (mp_P fx) d 227 55 ls [] h Q ↔ ww (mp_P fx) d 227 56 ls [.int 1] h Q := wr_iconst (i := 1) rfl
theorem q227_56 (ls : mm_V) (s0 : Int32) (hb : mm_ret (mp_sig 227).2.2.2 (.int s0) = true) : ww (mp_P fx) d 227 56 ls [.int s0] h Q ↔ Q (some (.int s0)) h := wr_ireturn rfl hb
theorem b227_0 : mm_ret (mp_sig 227).2.2.2 (.int 0) = true := by decide +kernel
theorem b227_1 : mm_ret (mp_sig 227).2.2.2 (.int 1) = true := by decide +kernel
theorem e227 (a0 : Nat) : wm (mp_P fx) d 227 [.ref a0] h Q ↔ ww (mp_P fx) d 227 0 [some (.ref a0)] [] h Q := Iff.rfl
/- 228 RainGrammarModel.isKept.()Z -/
theorem q228_0  (x : Nat) : ww (mp_P fx) d 228 0 [some (.ref x)] [] h Q ↔ ww (mp_P fx) d 228 1 [some (.ref x)] [.ref x] h Q := ww_step rfl
theorem q228_1 (ls : mm_V) (s0 : Nat) : ww (mp_P fx) d 228 1 ls [.ref s0] h Q ↔ ∃ x, mm_gF h s0 10 6 = some x ∧ ww (mp_P fx) d 228 4 ls [x] h Q := wr_getfield (n := 1006) rfl
theorem q228_4 (ls : mm_V) (s0 : Int32) : ww (mp_P fx) d 228 4 ls [.int s0] h Q ↔ ww (mp_P fx) d 228 5 ls [.int 1, .int s0] h Q := wr_iconst (i := 1) rfl
theorem q228_5 (ls : mm_V) (s0 : Int32) (s1 : Int32) : ww (mp_P fx) d 228 5 ls [.int s0, .int s1] h Q ↔ (if s1 = s0 then ww (mp_P fx) d 228 10 ls [] h Q else ww (mp_P fx) d 228 8 ls [] h Q) := wr_icmp_eq (t := 10) rfl
theorem q228_8 (ls : mm_V) : ww (mp_P fx) d 228 8 ls [] h Q ↔ ww (mp_P fx) d 228 9 ls [.int 1] h Q := wr_iconst (i := 1) rfl
theorem q228_9 (ls : mm_V) (s0 : Int32) (hb : mm_ret (mp_sig 228).2.2.2 (.int s0) = true) : ww (mp_P fx) d 228 9 ls [.int s0] h Q ↔ Q (some (.int s0)) h := wr_ireturn rfl hb
theorem q228_10  (x : Nat) : ww (mp_P fx) d 228 10 [some (.ref x)] [] h Q ↔ ww (mp_P fx) d 228 11 [some (.ref x)] [.ref x] h Q := ww_step rfl
theorem q228_11 (ls : mm_V) (s0 : Nat) : ww (mp_P fx) d 228 11 ls [.ref s0] h Q ↔ ∃ x, mm_gF h s0 10 7 = some x ∧ ww (mp_P fx) d 228 14 ls [x] h Q := wr_getfield (n := 1007) rfl
theorem q228_14 (ls : mm_V) (s0 : Int64) : ww (mp_P fx) d 228 14 ls [.long s0] h Q ↔ ww (mp_P fx) d 228 17 ls [.long 385418, .long s0] h Q := wr_ldc2_w (i := 385418) rfl
theorem q228_17 (ls : mm_V) (s0 : Int64) (s1 : Int64) : ww (mp_P fx) d 228 17 ls [.long s0, .long s1] h Q ↔ ww (mp_P fx) d 228 18 ls [.int (lg_cmp s1 s0)] h Q := wr_lcmp rfl
theorem q228_18 (ls : mm_V) (s0 : Int32) : ww (mp_P fx) d 228 18 ls [.int s0] h Q ↔ (if s0 = 0 then ww (mp_P fx) d 228 252 ls [] h Q else ww (mp_P fx) d 228 21 ls [] h Q) := wr_if_eq (t := 252) rfl
theorem q228_21  (x : Nat) : ww (mp_P fx) d 228 21 [some (.ref x)] [] h Q ↔ ww (mp_P fx) d 228 22 [some (.ref x)] [.ref x] h Q := ww_step rfl
theorem q228_22 (ls : mm_V) (s0 : Nat) : ww (mp_P fx) d 228 22 ls [.ref s0] h Q ↔ ∃ x, mm_gF h s0 10 7 = some x ∧ ww (mp_P fx) d 228 25 ls [x] h Q := wr_getfield (n := 1007) rfl
theorem q228_25 (ls : mm_V) (s0 : Int64) : ww (mp_P fx) d 228 25 ls [.long s0] h Q ↔ ww (mp_P fx) d 228 28 ls [.long 51266052, .long s0] h Q := wr_ldc2_w (i := 51266052) rfl
theorem q228_28 (ls : mm_V) (s0 : Int64) (s1 : Int64) : ww (mp_P fx) d 228 28 ls [.long s0, .long s1] h Q ↔ ww (mp_P fx) d 228 29 ls [.int (lg_cmp s1 s0)] h Q := wr_lcmp rfl
theorem q228_29 (ls : mm_V) (s0 : Int32) : ww (mp_P fx) d 228 29 ls [.int s0] h Q ↔ (if s0 = 0 then ww (mp_P fx) d 228 252 ls [] h Q else ww (mp_P fx) d 228 32 ls [] h Q) := wr_if_eq (t := 252) rfl
theorem q228_32  (x : Nat) : ww (mp_P fx) d 228 32 [some (.ref x)] [] h Q ↔ ww (mp_P fx) d 228 33 [some (.ref x)] [.ref x] h Q := ww_step rfl
theorem q228_33 (ls : mm_V) (s0 : Nat) : ww (mp_P fx) d 228 33 ls [.ref s0] h Q ↔ ∃ x, mm_gF h s0 10 7 = some x ∧ ww (mp_P fx) d 228 36 ls [x] h Q := wr_getfield (n := 1007) rfl
theorem q228_36 (ls : mm_V) (s0 : Int64) : ww (mp_P fx) d 228 36 ls [.long s0] h Q ↔ ww (mp_P fx) d 228 39 ls [.long 46, .long s0] h Q := wr_ldc2_w (i := 46) rfl
theorem q228_39 (ls : mm_V) (s0 : Int64) (s1 : Int64) : ww (mp_P fx) d 228 39 ls [.long s0, .long s1] h Q ↔ ww (mp_P fx) d 228 40 ls [.int (lg_cmp s1 s0)] h Q := wr_lcmp rfl
theorem q228_40 (ls : mm_V) (s0 : Int32) : ww (mp_P fx) d 228 40 ls [.int s0] h Q ↔ (if s0 = 0 then ww (mp_P fx) d 228 252 ls [] h Q else ww (mp_P fx) d 228 43 ls [] h Q) := wr_if_eq (t := 252) rfl
theorem q228_43  (x : Nat) : ww (mp_P fx) d 228 43 [some (.ref x)] [] h Q ↔ ww (mp_P fx) d 228 44 [some (.ref x)] [.ref x] h Q := ww_step rfl
theorem q228_44 (ls : mm_V) (s0 : Nat) : ww (mp_P fx) d 228 44 ls [.ref s0] h Q ↔ ∃ x, mm_gF h s0 10 7 = some x ∧ ww (mp_P fx) d 228 47 ls [x] h Q := wr_getfield (n := 1007) rfl
theorem q228_47 (ls : mm_V) (s0 : Int64) : ww (mp_P fx) d 228 47 ls [.long s0] h Q ↔ ww (mp_P fx) d 228 50 ls [.long 369932, .long s0] h Q := wr_ldc2_w (i := 369932) rfl
theorem q228_50 (ls : mm_V) (s0 : Int64) (s1 : Int64) : ww (mp_P fx) d 228 50 ls [.long s0, .long s1] h Q ↔ ww (mp_P fx) d 228 51 ls [.int (lg_cmp s1 s0)] h Q := wr_lcmp rfl
theorem q228_51 (ls : mm_V) (s0 : Int32) : ww (mp_P fx) d 228 51 ls [.int s0] h Q ↔ (if s0 = 0 then ww (mp_P fx) d 228 252 ls [] h Q else ww (mp_P fx) d 228 54 ls [] h Q) := wr_if_eq (t := 252) rfl
theorem q228_54  (x : Nat) : ww (mp_P fx) d 228 54 [some (.ref x)] [] h Q ↔ ww (mp_P fx) d 228 55 [some (.ref x)] [.ref x] h Q := ww_step rfl
theorem q228_55 (ls : mm_V) (s0 : Nat) : ww (mp_P fx) d 228 55 ls [.ref s0] h Q ↔ ∃ x, mm_gF h s0 10 7 = some x ∧ ww (mp_P fx) d 228 58 ls [x] h Q := wr_getfield (n := 1007) rfl
theorem q228_58 (ls : mm_V) (s0 : Int64) : ww (mp_P fx) d 228 58 ls [.long s0] h Q ↔ ww (mp_P fx) d 228 61 ls [.long 262, .long s0] h Q := wr_ldc2_w (i := 262) rfl
theorem q228_61 (ls : mm_V) (s0 : Int64) (s1 : Int64) : ww (mp_P fx) d 228 61 ls [.long s0, .long s1] h Q ↔ ww (mp_P fx) d 228 62 ls [.int (lg_cmp s1 s0)] h Q := wr_lcmp rfl
theorem q228_62 (ls : mm_V) (s0 : Int32) : ww (mp_P fx) d 228 62 ls [.int s0] h Q ↔ (if s0 = 0 then ww (mp_P fx) d 228 252 ls [] h Q else ww (mp_P fx) d 228 65 ls [] h Q) := wr_if_eq (t := 252) rfl
theorem q228_65  (x : Nat) : ww (mp_P fx) d 228 65 [some (.ref x)] [] h Q ↔ ww (mp_P fx) d 228 66 [some (.ref x)] [.ref x] h Q := ww_step rfl
theorem q228_66 (ls : mm_V) (s0 : Nat) : ww (mp_P fx) d 228 66 ls [.ref s0] h Q ↔ ∃ x, mm_gF h s0 10 7 = some x ∧ ww (mp_P fx) d 228 69 ls [x] h Q := wr_getfield (n := 1007) rfl
theorem q228_69 (ls : mm_V) (s0 : Int64) : ww (mp_P fx) d 228 69 ls [.long s0] h Q ↔ ww (mp_P fx) d 228 72 ls [.long 375400, .long s0] h Q := wr_ldc2_w (i := 375400) rfl
theorem q228_72 (ls : mm_V) (s0 : Int64) (s1 : Int64) : ww (mp_P fx) d 228 72 ls [.long s0, .long s1] h Q ↔ ww (mp_P fx) d 228 73 ls [.int (lg_cmp s1 s0)] h Q := wr_lcmp rfl
theorem q228_73 (ls : mm_V) (s0 : Int32) : ww (mp_P fx) d 228 73 ls [.int s0] h Q ↔ (if s0 = 0 then ww (mp_P fx) d 228 252 ls [] h Q else ww (mp_P fx) d 228 76 ls [] h Q) := wr_if_eq (t := 252) rfl
theorem q228_76  (x : Nat) : ww (mp_P fx) d 228 76 [some (.ref x)] [] h Q ↔ ww (mp_P fx) d 228 77 [some (.ref x)] [.ref x] h Q := ww_step rfl
theorem q228_77 (ls : mm_V) (s0 : Nat) : ww (mp_P fx) d 228 77 ls [.ref s0] h Q ↔ ∃ x, mm_gF h s0 10 7 = some x ∧ ww (mp_P fx) d 228 80 ls [x] h Q := wr_getfield (n := 1007) rfl
theorem q228_80 (ls : mm_V) (s0 : Int64) : ww (mp_P fx) d 228 80 ls [.long s0] h Q ↔ ww (mp_P fx) d 228 83 ls [.long 330800670, .long s0] h Q := wr_ldc2_w (i := 330800670) rfl
theorem q228_83 (ls : mm_V) (s0 : Int64) (s1 : Int64) : ww (mp_P fx) d 228 83 ls [.long s0, .long s1] h Q ↔ ww (mp_P fx) d 228 84 ls [.int (lg_cmp s1 s0)] h Q := wr_lcmp rfl
theorem q228_84 (ls : mm_V) (s0 : Int32) : ww (mp_P fx) d 228 84 ls [.int s0] h Q ↔ (if s0 = 0 then ww (mp_P fx) d 228 252 ls [] h Q else ww (mp_P fx) d 228 87 ls [] h Q) := wr_if_eq (t := 252) rfl
theorem q228_87  (x : Nat) : ww (mp_P fx) d 228 87 [some (.ref x)] [] h Q ↔ ww (mp_P fx) d 228 88 [some (.ref x)] [.ref x] h Q := ww_step rfl
theorem q228_88 (ls : mm_V) (s0 : Nat) : ww (mp_P fx) d 228 88 ls [.ref s0] h Q ↔ ∃ x, mm_gF h s0 10 7 = some x ∧ ww (mp_P fx) d 228 91 ls [x] h Q := wr_getfield (n := 1007) rfl
theorem q228_91 (ls : mm_V) (s0 : Int64) : ww (mp_P fx) d 228 91 ls [.long s0] h Q ↔ ww (mp_P fx) d 228 94 ls [.long 47, .long s0] h Q := wr_ldc2_w (i := 47) rfl
theorem q228_94 (ls : mm_V) (s0 : Int64) (s1 : Int64) : ww (mp_P fx) d 228 94 ls [.long s0, .long s1] h Q ↔ ww (mp_P fx) d 228 95 ls [.int (lg_cmp s1 s0)] h Q := wr_lcmp rfl
theorem q228_95 (ls : mm_V) (s0 : Int32) : ww (mp_P fx) d 228 95 ls [.int s0] h Q ↔ (if s0 = 0 then ww (mp_P fx) d 228 252 ls [] h Q else ww (mp_P fx) d 228 98 ls [] h Q) := wr_if_eq (t := 252) rfl
theorem q228_98  (x : Nat) : ww (mp_P fx) d 228 98 [some (.ref x)] [] h Q ↔ ww (mp_P fx) d 228 99 [some (.ref x)] [.ref x] h Q := ww_step rfl
theorem q228_99 (ls : mm_V) (s0 : Nat) : ww (mp_P fx) d 228 99 ls [.ref s0] h Q ↔ ∃ x, mm_gF h s0 10 7 = some x ∧ ww (mp_P fx) d 228 102 ls [x] h Q := wr_getfield (n := 1007) rfl
theorem q228_102 (ls : mm_V) (s0 : Int64) : ww (mp_P fx) d 228 102 ls [.long s0] h Q ↔ ww (mp_P fx) d 228 105 ls [.long 148870, .long s0] h Q := wr_ldc2_w (i := 148870) rfl
theorem q228_105 (ls : mm_V) (s0 : Int64) (s1 : Int64) : ww (mp_P fx) d 228 105 ls [.long s0, .long s1] h Q ↔ ww (mp_P fx) d 228 106 ls [.int (lg_cmp s1 s0)] h Q := wr_lcmp rfl
theorem q228_106 (ls : mm_V) (s0 : Int32) : ww (mp_P fx) d 228 106 ls [.int s0] h Q ↔ (if s0 = 0 then ww (mp_P fx) d 228 252 ls [] h Q else ww (mp_P fx) d 228 109 ls [] h Q) := wr_if_eq (t := 252) rfl
theorem q228_109  (x : Nat) : ww (mp_P fx) d 228 109 [some (.ref x)] [] h Q ↔ ww (mp_P fx) d 228 110 [some (.ref x)] [.ref x] h Q := ww_step rfl
theorem q228_110 (ls : mm_V) (s0 : Nat) : ww (mp_P fx) d 228 110 ls [.ref s0] h Q ↔ ∃ x, mm_gF h s0 10 7 = some x ∧ ww (mp_P fx) d 228 113 ls [x] h Q := wr_getfield (n := 1007) rfl
theorem q228_113 (ls : mm_V) (s0 : Int64) : ww (mp_P fx) d 228 113 ls [.long s0] h Q ↔ ww (mp_P fx) d 228 116 ls [.long 4147840, .long s0] h Q := wr_ldc2_w (i := 4147840) rfl
theorem q228_116 (ls : mm_V) (s0 : Int64) (s1 : Int64) : ww (mp_P fx) d 228 116 ls [.long s0, .long s1] h Q ↔ ww (mp_P fx) d 228 117 ls [.int (lg_cmp s1 s0)] h Q := wr_lcmp rfl
theorem q228_117 (ls : mm_V) (s0 : Int32) : ww (mp_P fx) d 228 117 ls [.int s0] h Q ↔ (if s0 = 0 then ww (mp_P fx) d 228 252 ls [] h Q else ww (mp_P fx) d 228 120 ls [] h Q) := wr_if_eq (t := 252) rfl
theorem q228_120  (x : Nat) : ww (mp_P fx) d 228 120 [some (.ref x)] [] h Q ↔ ww (mp_P fx) d 228 121 [some (.ref x)] [.ref x] h Q := ww_step rfl
theorem q228_121 (ls : mm_V) (s0 : Nat) : ww (mp_P fx) d 228 121 ls [.ref s0] h Q ↔ ∃ x, mm_gF h s0 10 7 = some x ∧ ww (mp_P fx) d 228 124 ls [x] h Q := wr_getfield (n := 1007) rfl
theorem q228_124 (ls : mm_V) (s0 : Int64) : ww (mp_P fx) d 228 124 ls [.long s0] h Q ↔ ww (mp_P fx) d 228 127 ls [.long 9665209, .long s0] h Q := wr_ldc2_w (i := 9665209) rfl
theorem q228_127 (ls : mm_V) (s0 : Int64) (s1 : Int64) : ww (mp_P fx) d 228 127 ls [.long s0, .long s1] h Q ↔ ww (mp_P fx) d 228 128 ls [.int (lg_cmp s1 s0)] h Q := wr_lcmp rfl
theorem q228_128 (ls : mm_V) (s0 : Int32) : ww (mp_P fx) d 228 128 ls [.int s0] h Q ↔ (if s0 = 0 then ww (mp_P fx) d 228 252 ls [] h Q else ww (mp_P fx) d 228 131 ls [] h Q) := wr_if_eq (t := 252) rfl
theorem q228_131  (x : Nat) : ww (mp_P fx) d 228 131 [some (.ref x)] [] h Q ↔ ww (mp_P fx) d 228 132 [some (.ref x)] [.ref x] h Q := ww_step rfl
theorem q228_132 (ls : mm_V) (s0 : Nat) : ww (mp_P fx) d 228 132 ls [.ref s0] h Q ↔ ∃ x, mm_gF h s0 10 7 = some x ∧ ww (mp_P fx) d 228 135 ls [x] h Q := wr_getfield (n := 1007) rfl
theorem q228_135 (ls : mm_V) (s0 : Int64) : ww (mp_P fx) d 228 135 ls [.long s0] h Q ↔ ww (mp_P fx) d 228 138 ls [.long 400313, .long s0] h Q := wr_ldc2_w (i := 400313) rfl
theorem q228_138 (ls : mm_V) (s0 : Int64) (s1 : Int64) : ww (mp_P fx) d 228 138 ls [.long s0, .long s1] h Q ↔ ww (mp_P fx) d 228 139 ls [.int (lg_cmp s1 s0)] h Q := wr_lcmp rfl
theorem q228_139 (ls : mm_V) (s0 : Int32) : ww (mp_P fx) d 228 139 ls [.int s0] h Q ↔ (if s0 = 0 then ww (mp_P fx) d 228 252 ls [] h Q else ww (mp_P fx) d 228 142 ls [] h Q) := wr_if_eq (t := 252) rfl
theorem q228_142  (x : Nat) : ww (mp_P fx) d 228 142 [some (.ref x)] [] h Q ↔ ww (mp_P fx) d 228 143 [some (.ref x)] [.ref x] h Q := ww_step rfl
theorem q228_143 (ls : mm_V) (s0 : Nat) : ww (mp_P fx) d 228 143 ls [.ref s0] h Q ↔ ∃ x, mm_gF h s0 10 7 = some x ∧ ww (mp_P fx) d 228 146 ls [x] h Q := wr_getfield (n := 1007) rfl
theorem q228_146 (ls : mm_V) (s0 : Int64) : ww (mp_P fx) d 228 146 ls [.long s0] h Q ↔ ww (mp_P fx) d 228 149 ls [.long 267413, .long s0] h Q := wr_ldc2_w (i := 267413) rfl
theorem q228_149 (ls : mm_V) (s0 : Int64) (s1 : Int64) : ww (mp_P fx) d 228 149 ls [.long s0, .long s1] h Q ↔ ww (mp_P fx) d 228 150 ls [.int (lg_cmp s1 s0)] h Q := wr_lcmp rfl
theorem q228_150 (ls : mm_V) (s0 : Int32) : ww (mp_P fx) d 228 150 ls [.int s0] h Q ↔ (if s0 = 0 then ww (mp_P fx) d 228 252 ls [] h Q else ww (mp_P fx) d 228 153 ls [] h Q) := wr_if_eq (t := 252) rfl
theorem q228_153  (x : Nat) : ww (mp_P fx) d 228 153 [some (.ref x)] [] h Q ↔ ww (mp_P fx) d 228 154 [some (.ref x)] [.ref x] h Q := ww_step rfl
theorem q228_154 (ls : mm_V) (s0 : Nat) : ww (mp_P fx) d 228 154 ls [.ref s0] h Q ↔ ∃ x, mm_gF h s0 10 7 = some x ∧ ww (mp_P fx) d 228 157 ls [x] h Q := wr_getfield (n := 1007) rfl
theorem q228_157 (ls : mm_V) (s0 : Int64) : ww (mp_P fx) d 228 157 ls [.long s0] h Q ↔ ww (mp_P fx) d 228 160 ls [.long 380396, .long s0] h Q := wr_ldc2_w (i := 380396) rfl
theorem q228_160 (ls : mm_V) (s0 : Int64) (s1 : Int64) : ww (mp_P fx) d 228 160 ls [.long s0, .long s1] h Q ↔ ww (mp_P fx) d 228 161 ls [.int (lg_cmp s1 s0)] h Q := wr_lcmp rfl
theorem q228_161 (ls : mm_V) (s0 : Int32) : ww (mp_P fx) d 228 161 ls [.int s0] h Q ↔ (if s0 = 0 then ww (mp_P fx) d 228 252 ls [] h Q else ww (mp_P fx) d 228 164 ls [] h Q) := wr_if_eq (t := 252) rfl
theorem q228_164  (x : Nat) : ww (mp_P fx) d 228 164 [some (.ref x)] [] h Q ↔ ww (mp_P fx) d 228 165 [some (.ref x)] [.ref x] h Q := ww_step rfl
theorem q228_165 (ls : mm_V) (s0 : Nat) : ww (mp_P fx) d 228 165 ls [.ref s0] h Q ↔ ∃ x, mm_gF h s0 10 7 = some x ∧ ww (mp_P fx) d 228 168 ls [x] h Q := wr_getfield (n := 1007) rfl
theorem q228_168 (ls : mm_V) (s0 : Int64) : ww (mp_P fx) d 228 168 ls [.long s0] h Q ↔ ww (mp_P fx) d 228 171 ls [.long 307058, .long s0] h Q := wr_ldc2_w (i := 307058) rfl
theorem q228_171 (ls : mm_V) (s0 : Int64) (s1 : Int64) : ww (mp_P fx) d 228 171 ls [.long s0, .long s1] h Q ↔ ww (mp_P fx) d 228 172 ls [.int (lg_cmp s1 s0)] h Q := wr_lcmp rfl
theorem q228_172 (ls : mm_V) (s0 : Int32) : ww (mp_P fx) d 228 172 ls [.int s0] h Q ↔ (if s0 = 0 then ww (mp_P fx) d 228 252 ls [] h Q else ww (mp_P fx) d 228 175 ls [] h Q) := wr_if_eq (t := 252) rfl
theorem q228_175  (x : Nat) : ww (mp_P fx) d 228 175 [some (.ref x)] [] h Q ↔ ww (mp_P fx) d 228 176 [some (.ref x)] [.ref x] h Q := ww_step rfl
theorem q228_176 (ls : mm_V) (s0 : Nat) : ww (mp_P fx) d 228 176 ls [.ref s0] h Q ↔ ∃ x, mm_gF h s0 10 7 = some x ∧ ww (mp_P fx) d 228 179 ls [x] h Q := wr_getfield (n := 1007) rfl
theorem q228_179 (ls : mm_V) (s0 : Int64) : ww (mp_P fx) d 228 179 ls [.long s0] h Q ↔ ww (mp_P fx) d 228 182 ls [.long 8740238, .long s0] h Q := wr_ldc2_w (i := 8740238) rfl
theorem q228_182 (ls : mm_V) (s0 : Int64) (s1 : Int64) : ww (mp_P fx) d 228 182 ls [.long s0, .long s1] h Q ↔ ww (mp_P fx) d 228 183 ls [.int (lg_cmp s1 s0)] h Q := wr_lcmp rfl
theorem q228_183 (ls : mm_V) (s0 : Int32) : ww (mp_P fx) d 228 183 ls [.int s0] h Q ↔ (if s0 = 0 then ww (mp_P fx) d 228 252 ls [] h Q else ww (mp_P fx) d 228 186 ls [] h Q) := wr_if_eq (t := 252) rfl
theorem q228_186  (x : Nat) : ww (mp_P fx) d 228 186 [some (.ref x)] [] h Q ↔ ww (mp_P fx) d 228 187 [some (.ref x)] [.ref x] h Q := ww_step rfl
theorem q228_187 (ls : mm_V) (s0 : Nat) : ww (mp_P fx) d 228 187 ls [.ref s0] h Q ↔ ∃ x, mm_gF h s0 10 7 = some x ∧ ww (mp_P fx) d 228 190 ls [x] h Q := wr_getfield (n := 1007) rfl
theorem q228_190 (ls : mm_V) (s0 : Int64) : ww (mp_P fx) d 228 190 ls [.long s0] h Q ↔ ww (mp_P fx) d 228 193 ls [.long 40586, .long s0] h Q := wr_ldc2_w (i := 40586) rfl
theorem q228_193 (ls : mm_V) (s0 : Int64) (s1 : Int64) : ww (mp_P fx) d 228 193 ls [.long s0, .long s1] h Q ↔ ww (mp_P fx) d 228 194 ls [.int (lg_cmp s1 s0)] h Q := wr_lcmp rfl
theorem q228_194 (ls : mm_V) (s0 : Int32) : ww (mp_P fx) d 228 194 ls [.int s0] h Q ↔ (if s0 = 0 then ww (mp_P fx) d 228 252 ls [] h Q else ww (mp_P fx) d 228 197 ls [] h Q) := wr_if_eq (t := 252) rfl
theorem q228_197  (x : Nat) : ww (mp_P fx) d 228 197 [some (.ref x)] [] h Q ↔ ww (mp_P fx) d 228 198 [some (.ref x)] [.ref x] h Q := ww_step rfl
theorem q228_198 (ls : mm_V) (s0 : Nat) : ww (mp_P fx) d 228 198 ls [.ref s0] h Q ↔ ∃ x, mm_gF h s0 10 7 = some x ∧ ww (mp_P fx) d 228 201 ls [x] h Q := wr_getfield (n := 1007) rfl
theorem q228_201 (ls : mm_V) (s0 : Int64) : ww (mp_P fx) d 228 201 ls [.long s0] h Q ↔ ww (mp_P fx) d 228 204 ls [.long 6688728, .long s0] h Q := wr_ldc2_w (i := 6688728) rfl
theorem q228_204 (ls : mm_V) (s0 : Int64) (s1 : Int64) : ww (mp_P fx) d 228 204 ls [.long s0, .long s1] h Q ↔ ww (mp_P fx) d 228 205 ls [.int (lg_cmp s1 s0)] h Q := wr_lcmp rfl
theorem q228_205 (ls : mm_V) (s0 : Int32) : ww (mp_P fx) d 228 205 ls [.int s0] h Q ↔ (if s0 = 0 then ww (mp_P fx) d 228 252 ls [] h Q else ww (mp_P fx) d 228 208 ls [] h Q) := wr_if_eq (t := 252) rfl
theorem q228_208  (x : Nat) : ww (mp_P fx) d 228 208 [some (.ref x)] [] h Q ↔ ww (mp_P fx) d 228 209 [some (.ref x)] [.ref x] h Q := ww_step rfl
theorem q228_209 (ls : mm_V) (s0 : Nat) : ww (mp_P fx) d 228 209 ls [.ref s0] h Q ↔ ∃ x, mm_gF h s0 10 7 = some x ∧ ww (mp_P fx) d 228 212 ls [x] h Q := wr_getfield (n := 1007) rfl
theorem q228_212 (ls : mm_V) (s0 : Int64) : ww (mp_P fx) d 228 212 ls [.long s0] h Q ↔ ww (mp_P fx) d 228 215 ls [.long 43409, .long s0] h Q := wr_ldc2_w (i := 43409) rfl
theorem q228_215 (ls : mm_V) (s0 : Int64) (s1 : Int64) : ww (mp_P fx) d 228 215 ls [.long s0, .long s1] h Q ↔ ww (mp_P fx) d 228 216 ls [.int (lg_cmp s1 s0)] h Q := wr_lcmp rfl
theorem q228_216 (ls : mm_V) (s0 : Int32) : ww (mp_P fx) d 228 216 ls [.int s0] h Q ↔ (if s0 = 0 then ww (mp_P fx) d 228 252 ls [] h Q else ww (mp_P fx) d 228 219 ls [] h Q) := wr_if_eq (t := 252) rfl
theorem q228_219  (x : Nat) : ww (mp_P fx) d 228 219 [some (.ref x)] [] h Q ↔ ww (mp_P fx) d 228 220 [some (.ref x)] [.ref x] h Q := ww_step rfl
theorem q228_220 (ls : mm_V) (s0 : Nat) : ww (mp_P fx) d 228 220 ls [.ref s0] h Q ↔ ∃ x, mm_gF h s0 10 7 = some x ∧ ww (mp_P fx) d 228 223 ls [x] h Q := wr_getfield (n := 1007) rfl
theorem q228_223 (ls : mm_V) (s0 : Int64) : ww (mp_P fx) d 228 223 ls [.long s0] h Q ↔ ww (mp_P fx) d 228 226 ls [.long 10631, .long s0] h Q := wr_ldc2_w (i := 10631) rfl
theorem q228_226 (ls : mm_V) (s0 : Int64) (s1 : Int64) : ww (mp_P fx) d 228 226 ls [.long s0, .long s1] h Q ↔ ww (mp_P fx) d 228 227 ls [.int (lg_cmp s1 s0)] h Q := wr_lcmp rfl
theorem q228_227 (ls : mm_V) (s0 : Int32) : ww (mp_P fx) d 228 227 ls [.int s0] h Q ↔ (if s0 = 0 then ww (mp_P fx) d 228 252 ls [] h Q else ww (mp_P fx) d 228 230 ls [] h Q) := wr_if_eq (t := 252) rfl
theorem q228_230  (x : Nat) : ww (mp_P fx) d 228 230 [some (.ref x)] [] h Q ↔ ww (mp_P fx) d 228 231 [some (.ref x)] [.ref x] h Q := ww_step rfl
theorem q228_231 (ls : mm_V) (s0 : Nat) : ww (mp_P fx) d 228 231 ls [.ref s0] h Q ↔ ∃ x, mm_gF h s0 10 7 = some x ∧ ww (mp_P fx) d 228 234 ls [x] h Q := wr_getfield (n := 1007) rfl
theorem q228_234 (ls : mm_V) (s0 : Int64) : ww (mp_P fx) d 228 234 ls [.long s0] h Q ↔ ww (mp_P fx) d 228 237 ls [.long 1111, .long s0] h Q := wr_ldc2_w (i := 1111) rfl
theorem q228_237 (ls : mm_V) (s0 : Int64) (s1 : Int64) : ww (mp_P fx) d 228 237 ls [.long s0, .long s1] h Q ↔ ww (mp_P fx) d 228 238 ls [.int (lg_cmp s1 s0)] h Q := wr_lcmp rfl
theorem q228_238 (ls : mm_V) (s0 : Int32) : ww (mp_P fx) d 228 238 ls [.int s0] h Q ↔ (if s0 = 0 then ww (mp_P fx) d 228 252 ls [] h Q else ww (mp_P fx) d 228 241 ls [] h Q) := wr_if_eq (t := 252) rfl
theorem q228_241  (x : Nat) : ww (mp_P fx) d 228 241 [some (.ref x)] [] h Q ↔ ww (mp_P fx) d 228 242 [some (.ref x)] [.ref x] h Q := ww_step rfl
theorem q228_242 (ls : mm_V) (s0 : Nat) : ww (mp_P fx) d 228 242 ls [.ref s0] h Q ↔ ∃ x, mm_gF h s0 10 7 = some x ∧ ww (mp_P fx) d 228 245 ls [x] h Q := wr_getfield (n := 1007) rfl
theorem q228_245 (ls : mm_V) (s0 : Int64) : ww (mp_P fx) d 228 245 ls [.long s0] h Q ↔ ww (mp_P fx) d 228 248 ls [.long 423, .long s0] h Q := wr_ldc2_w (i := 423) rfl
theorem q228_248 (ls : mm_V) (s0 : Int64) (s1 : Int64) : ww (mp_P fx) d 228 248 ls [.long s0, .long s1] h Q ↔ ww (mp_P fx) d 228 249 ls [.int (lg_cmp s1 s0)] h Q := wr_lcmp rfl
theorem q228_249 (ls : mm_V) (s0 : Int32) : ww (mp_P fx) d 228 249 ls [.int s0] h Q ↔ (if ¬ s0 = 0 then ww (mp_P fx) d 228 256 ls [] h Q else ww (mp_P fx) d 228 252 ls [] h Q) := wr_if_ne (t := 256) rfl
theorem q228_252 (ls : mm_V) : ww (mp_P fx) d 228 252 ls [] h Q ↔ ww (mp_P fx) d 228 253 ls [.int 1] h Q := wr_iconst (i := 1) rfl
theorem q228_253 (ls : mm_V) (s0 : Int32) : ww (mp_P fx) d 228 253 ls [.int s0] h Q ↔ ww (mp_P fx) d 228 257 ls [.int s0] h Q := wr_goto (t := 257) rfl
theorem q228_256 (ls : mm_V) : ww (mp_P fx) d 228 256 ls [] h Q ↔ ww (mp_P fx) d 228 257 ls [.int 0] h Q := wr_iconst (i := 0) rfl
theorem q228_257 (ls : mm_V) (s0 : Int32) (hb : mm_ret (mp_sig 228).2.2.2 (.int s0) = true) : ww (mp_P fx) d 228 257 ls [.int s0] h Q ↔ Q (some (.int s0)) h := wr_ireturn rfl hb
theorem b228_0 : mm_ret (mp_sig 228).2.2.2 (.int 0) = true := by decide +kernel
theorem b228_1 : mm_ret (mp_sig 228).2.2.2 (.int 1) = true := by decide +kernel
theorem e228 (a0 : Nat) : wm (mp_P fx) d 228 [.ref a0] h Q ↔ ww (mp_P fx) d 228 0 [some (.ref a0)] [] h Q := Iff.rfl
/- 229 RainGrammarModel.sortNamed.(I)I -/
theorem q229_0 (ls : mm_V) : ww (mp_P fx) d 229 0 ls [] h Q ↔ ww (mp_P fx) d 229 2 ls [.int 6] h Q := wr_bipush (i := 6) rfl
theorem q229_2 (l0 : Option Value) (l2 : Option Value) (x : Int32) (s0 : Int32) : ww (mp_P fx) d 229 2 [l0, some (.int x), l2] [.int s0] h Q ↔ ww (mp_P fx) d 229 3 [l0, some (.int x), l2] [.int x, .int s0] h Q := ww_step rfl
theorem q229_3 (ls : mm_V) (s0 : Int32) (s1 : Int32) : ww (mp_P fx) d 229 3 ls [.int s0, .int s1] h Q ↔ ww (mp_P fx) d 229 4 ls [.int (s1 * s0)] h Q := wr_imul rfl
theorem q229_4i (l0 : Option Value) (l2 : Option Value) (y : Int32) (s0 : Int32) : ww (mp_P fx) d 229 4 [l0, some (.int y), l2] [.int s0] h Q ↔ ww (mp_P fx) d 229 5 [l0, some (.int y), some (.int s0)] [] h Q := wr_istore_n rfl (mm_s1_ok (Nat.le_of_ble_eq_true rfl) rfl)
theorem q229_5 (l0 : Option Value) (l1 : Option Value) (x : Int32) : ww (mp_P fx) d 229 5 [l0, l1, some (.int x)] [] h Q ↔ ww (mp_P fx) d 229 6 [l0, l1, some (.int x)] [.int x] h Q := ww_step rfl
theorem q229_6 (ls : mm_V) (s0 : Int32) : ww (mp_P fx) d 229 6 ls [.int s0] h Q ↔ ww (mp_P fx) d 229 8 ls [.int 6, .int s0] h Q := wr_bipush (i := 6) rfl
theorem q229_8 (l0 : Option Value) (l2 : Option Value) (x : Int32) (s0 : Int32) (s1 : Int32) : ww (mp_P fx) d 229 8 [l0, some (.int x), l2] [.int s0, .int s1] h Q ↔ ww (mp_P fx) d 229 9 [l0, some (.int x), l2] [.int x, .int s0, .int s1] h Q := ww_step rfl
theorem q229_9 (ls : mm_V) (s0 : Int32) (s1 : Int32) (s2 : Int32) : ww (mp_P fx) d 229 9 ls [.int s0, .int s1, .int s2] h Q ↔ ww (mp_P fx) d 229 10 ls [.int (s1 * s0), .int s2] h Q := wr_imul rfl
theorem q229_10 (l1 : Option Value) (l2 : Option Value) (x : Nat) (s0 : Int32) (s1 : Int32) : ww (mp_P fx) d 229 10 [some (.ref x), l1, l2] [.int s0, .int s1] h Q ↔ ww (mp_P fx) d 229 11 [some (.ref x), l1, l2] [.ref x, .int s0, .int s1] h Q := ww_step rfl
theorem q229_11 (ls : mm_V) (s0 : Nat) (s1 : Int32) (s2 : Int32) : ww (mp_P fx) d 229 11 ls [.ref s0, .int s1, .int s2] h Q ↔ ∃ x, mm_gF h s0 10 10 = some x ∧ ww (mp_P fx) d 229 14 ls [x, .int s1, .int s2] h Q := wr_getfield (n := 1010) rfl
theorem q229_14 (ls : mm_V) (s0 : Nat) (s1 : Int32) (s2 : Int32) : ww (mp_P fx) d 229 14 ls [.ref s0, .int s1, .int s2] h Q ↔ ww (mp_P fx) d 229 16 ls [.int 6, .ref s0, .int s1, .int s2] h Q := wr_bipush (i := 6) rfl
theorem q229_16 (l0 : Option Value) (l2 : Option Value) (x : Int32) (s0 : Int32) (s1 : Nat) (s2 : Int32) (s3 : Int32) : ww (mp_P fx) d 229 16 [l0, some (.int x), l2] [.int s0, .ref s1, .int s2, .int s3] h Q ↔ ww (mp_P fx) d 229 17 [l0, some (.int x), l2] [.int x, .int s0, .ref s1, .int s2, .int s3] h Q := ww_step rfl
theorem q229_17 (ls : mm_V) (s0 : Int32) (s1 : Int32) (s2 : Nat) (s3 : Int32) (s4 : Int32) : ww (mp_P fx) d 229 17 ls [.int s0, .int s1, .ref s2, .int s3, .int s4] h Q ↔ ww (mp_P fx) d 229 18 ls [.int (s1 * s0), .ref s2, .int s3, .int s4] h Q := wr_imul rfl
theorem q229_18 (ls : mm_V) (s0 : Int32) (s1 : Nat) (s2 : Int32) (s3 : Int32) : ww (mp_P fx) d 229 18 ls [.int s0, .ref s1, .int s2, .int s3] h Q ↔ ww (mp_P fx) d 229 19 ls [.int 0, .int s0, .ref s1, .int s2, .int s3] h Q := wr_iconst (i := 0) rfl
theorem q229_19 (ls : mm_V) (s0 : Int32) (s1 : Int32) (s2 : Nat) (s3 : Int32) (s4 : Int32) : ww (mp_P fx) d 229 19 ls [.int s0, .int s1, .ref s2, .int s3, .int s4] h Q ↔ ww (mp_P fx) d 229 20 ls [.int (s1 + s0), .ref s2, .int s3, .int s4] h Q := wr_iadd rfl
theorem q229_20 (ls : mm_V) (s0 : Int32) (s1 : Nat) (s2 : Int32) (s3 : Int32) : ww (mp_P fx) d 229 20 ls [.int s0, .ref s1, .int s2, .int s3] h Q ↔ ∃ x, mm_gI h s1 0 9 s0 = some x ∧ ww (mp_P fx) d 229 21 ls [.int x, .int s2, .int s3] h Q := wr_iaload rfl
theorem q229_21 (ls : mm_V) (s0 : Int32) (s1 : Int32) (s2 : Int32) : ww (mp_P fx) d 229 21 ls [.int s0, .int s1, .int s2] h Q ↔ ww (mp_P fx) d 229 22 ls [.int (s1 + s0), .int s2] h Q := wr_iadd rfl
theorem q229_22 (ls : mm_V) (s0 : Int32) (s1 : Int32) : ww (mp_P fx) d 229 22 ls [.int s0, .int s1] h Q ↔ (if s0 ≤ s1 then ww (mp_P fx) d 229 52 ls [] h Q else ww (mp_P fx) d 229 25 ls [] h Q) := wr_icmp_ge (t := 52) rfl
theorem q229_25 (l1 : Option Value) (l2 : Option Value) (x : Nat) : ww (mp_P fx) d 229 25 [some (.ref x), l1, l2] [] h Q ↔ ww (mp_P fx) d 229 26 [some (.ref x), l1, l2] [.ref x] h Q := ww_step rfl
theorem q229_26 (ls : mm_V) (s0 : Nat) : ww (mp_P fx) d 229 26 ls [.ref s0] h Q ↔ ∃ x, mm_gF h s0 10 11 = some x ∧ ww (mp_P fx) d 229 29 ls [x] h Q := wr_getfield (n := 1011) rfl
theorem q229_29 (l0 : Option Value) (l1 : Option Value) (x : Int32) (s0 : Nat) : ww (mp_P fx) d 229 29 [l0, l1, some (.int x)] [.ref s0] h Q ↔ ww (mp_P fx) d 229 30 [l0, l1, some (.int x)] [.int x, .ref s0] h Q := ww_step rfl
theorem q229_30 (ls : mm_V) (s0 : Int32) (s1 : Nat) : ww (mp_P fx) d 229 30 ls [.int s0, .ref s1] h Q ↔ ∃ x, mm_gL h s1 s0 = some x ∧ ww (mp_P fx) d 229 31 ls [.long x] h Q := wr_laload rfl
theorem q229_31 (l1 : Option Value) (l2 : Option Value) (x : Nat) (s0 : Int64) : ww (mp_P fx) d 229 31 [some (.ref x), l1, l2] [.long s0] h Q ↔ ww (mp_P fx) d 229 32 [some (.ref x), l1, l2] [.ref x, .long s0] h Q := ww_step rfl
theorem q229_32 (ls : mm_V) (s0 : Nat) (s1 : Int64) : ww (mp_P fx) d 229 32 ls [.ref s0, .long s1] h Q ↔ ∃ x, mm_gF h s0 10 7 = some x ∧ ww (mp_P fx) d 229 35 ls [x, .long s1] h Q := wr_getfield (n := 1007) rfl
theorem q229_35 (ls : mm_V) (s0 : Int64) (s1 : Int64) : ww (mp_P fx) d 229 35 ls [.long s0, .long s1] h Q ↔ ww (mp_P fx) d 229 36 ls [.int (lg_cmp s1 s0)] h Q := wr_lcmp rfl
theorem q229_36 (ls : mm_V) (s0 : Int32) : ww (mp_P fx) d 229 36 ls [.int s0] h Q ↔ (if ¬ s0 = 0 then ww (mp_P fx) d 229 46 ls [] h Q else ww (mp_P fx) d 229 39 ls [] h Q) := wr_if_ne (t := 46) rfl
theorem q229_39 (l0 : Option Value) (l1 : Option Value) (x : Int32) : ww (mp_P fx) d 229 39 [l0, l1, some (.int x)] [] h Q ↔ ww (mp_P fx) d 229 40 [l0, l1, some (.int x)] [.int x] h Q := ww_step rfl
theorem q229_40 (ls : mm_V) (s0 : Int32) : ww (mp_P fx) d 229 40 ls [.int s0] h Q ↔ ww (mp_P fx) d 229 42 ls [.int 6, .int s0] h Q := wr_bipush (i := 6) rfl
theorem q229_42 (l0 : Option Value) (l2 : Option Value) (x : Int32) (s0 : Int32) (s1 : Int32) : ww (mp_P fx) d 229 42 [l0, some (.int x), l2] [.int s0, .int s1] h Q ↔ ww (mp_P fx) d 229 43 [l0, some (.int x), l2] [.int x, .int s0, .int s1] h Q := ww_step rfl
theorem q229_43 (ls : mm_V) (s0 : Int32) (s1 : Int32) (s2 : Int32) : ww (mp_P fx) d 229 43 ls [.int s0, .int s1, .int s2] h Q ↔ ww (mp_P fx) d 229 44 ls [.int (s1 * s0), .int s2] h Q := wr_imul rfl
theorem q229_44 (ls : mm_V) (s0 : Int32) (s1 : Int32) : ww (mp_P fx) d 229 44 ls [.int s0, .int s1] h Q ↔ ww (mp_P fx) d 229 45 ls [.int (s1 - s0)] h Q := wr_isub rfl
theorem q229_45 (ls : mm_V) (s0 : Int32) : ww (mp_P fx) d 229 45 ls [.int s0] h Q ↔ Q (some (.int s0)) h := wr_ireturn rfl rfl
theorem q229_46i (l0 : Option Value) (x : Int32) (y : Int32) : ww (mp_P fx) d 229 46 [l0, some (.int y), some (.int x)] [] h Q ↔ ww (mp_P fx) d 229 49 [l0, some (.int y), some (.int (x + 1))] [] h Q := wr_iinc (n := 2) (i := 1) rfl rfl (mm_s1_ok (Nat.le_of_ble_eq_true rfl) rfl)
theorem q229_49 (ls : mm_V) : ww (mp_P fx) d 229 49 ls [] h Q ↔ ww (mp_P fx) d 229 5 ls [] h Q := wr_goto (t := 5) rfl
theorem q229_52 (ls : mm_V) : ww (mp_P fx) d 229 52 ls [] h Q ↔ ww (mp_P fx) d 229 53 ls [.int (-1)] h Q := wr_iconst (i := (-1)) rfl
theorem q229_53 (ls : mm_V) (s0 : Int32) : ww (mp_P fx) d 229 53 ls [.int s0] h Q ↔ Q (some (.int s0)) h := wr_ireturn rfl rfl
theorem e229 (a0 : Nat) (a1 : Int32) : wm (mp_P fx) d 229 [.ref a0, .int a1] h Q ↔ ww (mp_P fx) d 229 0 [some (.ref a0), some (.int a1), none] [] h Q := Iff.rfl
/- 230 RainGrammarModel.colourNamed.(I)I -/
theorem q230_0 (ls : mm_V) : ww (mp_P fx) d 230 0 ls [] h Q ↔ ww (mp_P fx) d 230 2 ls [.int 6] h Q := wr_bipush (i := 6) rfl
theorem q230_2 (l0 : Option Value) (l2 : Option Value) (x : Int32) (s0 : Int32) : ww (mp_P fx) d 230 2 [l0, some (.int x), l2] [.int s0] h Q ↔ ww (mp_P fx) d 230 3 [l0, some (.int x), l2] [.int x, .int s0] h Q := ww_step rfl
theorem q230_3 (ls : mm_V) (s0 : Int32) (s1 : Int32) : ww (mp_P fx) d 230 3 ls [.int s0, .int s1] h Q ↔ ww (mp_P fx) d 230 4 ls [.int (s1 * s0)] h Q := wr_imul rfl
theorem q230_4i (l0 : Option Value) (l2 : Option Value) (y : Int32) (s0 : Int32) : ww (mp_P fx) d 230 4 [l0, some (.int y), l2] [.int s0] h Q ↔ ww (mp_P fx) d 230 5 [l0, some (.int y), some (.int s0)] [] h Q := wr_istore_n rfl (mm_s1_ok (Nat.le_of_ble_eq_true rfl) rfl)
theorem q230_5 (l0 : Option Value) (l1 : Option Value) (x : Int32) : ww (mp_P fx) d 230 5 [l0, l1, some (.int x)] [] h Q ↔ ww (mp_P fx) d 230 6 [l0, l1, some (.int x)] [.int x] h Q := ww_step rfl
theorem q230_6 (ls : mm_V) (s0 : Int32) : ww (mp_P fx) d 230 6 ls [.int s0] h Q ↔ ww (mp_P fx) d 230 8 ls [.int 6, .int s0] h Q := wr_bipush (i := 6) rfl
theorem q230_8 (l0 : Option Value) (l2 : Option Value) (x : Int32) (s0 : Int32) (s1 : Int32) : ww (mp_P fx) d 230 8 [l0, some (.int x), l2] [.int s0, .int s1] h Q ↔ ww (mp_P fx) d 230 9 [l0, some (.int x), l2] [.int x, .int s0, .int s1] h Q := ww_step rfl
theorem q230_9 (ls : mm_V) (s0 : Int32) (s1 : Int32) (s2 : Int32) : ww (mp_P fx) d 230 9 ls [.int s0, .int s1, .int s2] h Q ↔ ww (mp_P fx) d 230 10 ls [.int (s1 * s0), .int s2] h Q := wr_imul rfl
theorem q230_10 (l1 : Option Value) (l2 : Option Value) (x : Nat) (s0 : Int32) (s1 : Int32) : ww (mp_P fx) d 230 10 [some (.ref x), l1, l2] [.int s0, .int s1] h Q ↔ ww (mp_P fx) d 230 11 [some (.ref x), l1, l2] [.ref x, .int s0, .int s1] h Q := ww_step rfl
theorem q230_11 (ls : mm_V) (s0 : Nat) (s1 : Int32) (s2 : Int32) : ww (mp_P fx) d 230 11 ls [.ref s0, .int s1, .int s2] h Q ↔ ∃ x, mm_gF h s0 10 10 = some x ∧ ww (mp_P fx) d 230 14 ls [x, .int s1, .int s2] h Q := wr_getfield (n := 1010) rfl
theorem q230_14 (ls : mm_V) (s0 : Nat) (s1 : Int32) (s2 : Int32) : ww (mp_P fx) d 230 14 ls [.ref s0, .int s1, .int s2] h Q ↔ ww (mp_P fx) d 230 16 ls [.int 6, .ref s0, .int s1, .int s2] h Q := wr_bipush (i := 6) rfl
theorem q230_16 (l0 : Option Value) (l2 : Option Value) (x : Int32) (s0 : Int32) (s1 : Nat) (s2 : Int32) (s3 : Int32) : ww (mp_P fx) d 230 16 [l0, some (.int x), l2] [.int s0, .ref s1, .int s2, .int s3] h Q ↔ ww (mp_P fx) d 230 17 [l0, some (.int x), l2] [.int x, .int s0, .ref s1, .int s2, .int s3] h Q := ww_step rfl
theorem q230_17 (ls : mm_V) (s0 : Int32) (s1 : Int32) (s2 : Nat) (s3 : Int32) (s4 : Int32) : ww (mp_P fx) d 230 17 ls [.int s0, .int s1, .ref s2, .int s3, .int s4] h Q ↔ ww (mp_P fx) d 230 18 ls [.int (s1 * s0), .ref s2, .int s3, .int s4] h Q := wr_imul rfl
theorem q230_18 (ls : mm_V) (s0 : Int32) (s1 : Nat) (s2 : Int32) (s3 : Int32) : ww (mp_P fx) d 230 18 ls [.int s0, .ref s1, .int s2, .int s3] h Q ↔ ww (mp_P fx) d 230 19 ls [.int 1, .int s0, .ref s1, .int s2, .int s3] h Q := wr_iconst (i := 1) rfl
theorem q230_19 (ls : mm_V) (s0 : Int32) (s1 : Int32) (s2 : Nat) (s3 : Int32) (s4 : Int32) : ww (mp_P fx) d 230 19 ls [.int s0, .int s1, .ref s2, .int s3, .int s4] h Q ↔ ww (mp_P fx) d 230 20 ls [.int (s1 + s0), .ref s2, .int s3, .int s4] h Q := wr_iadd rfl
theorem q230_20 (ls : mm_V) (s0 : Int32) (s1 : Nat) (s2 : Int32) (s3 : Int32) : ww (mp_P fx) d 230 20 ls [.int s0, .ref s1, .int s2, .int s3] h Q ↔ ∃ x, mm_gI h s1 0 9 s0 = some x ∧ ww (mp_P fx) d 230 21 ls [.int x, .int s2, .int s3] h Q := wr_iaload rfl
theorem q230_21 (ls : mm_V) (s0 : Int32) (s1 : Int32) (s2 : Int32) : ww (mp_P fx) d 230 21 ls [.int s0, .int s1, .int s2] h Q ↔ ww (mp_P fx) d 230 22 ls [.int (s1 + s0), .int s2] h Q := wr_iadd rfl
theorem q230_22 (ls : mm_V) (s0 : Int32) (s1 : Int32) : ww (mp_P fx) d 230 22 ls [.int s0, .int s1] h Q ↔ (if s0 ≤ s1 then ww (mp_P fx) d 230 52 ls [] h Q else ww (mp_P fx) d 230 25 ls [] h Q) := wr_icmp_ge (t := 52) rfl
theorem q230_25 (l1 : Option Value) (l2 : Option Value) (x : Nat) : ww (mp_P fx) d 230 25 [some (.ref x), l1, l2] [] h Q ↔ ww (mp_P fx) d 230 26 [some (.ref x), l1, l2] [.ref x] h Q := ww_step rfl
theorem q230_26 (ls : mm_V) (s0 : Nat) : ww (mp_P fx) d 230 26 ls [.ref s0] h Q ↔ ∃ x, mm_gF h s0 10 12 = some x ∧ ww (mp_P fx) d 230 29 ls [x] h Q := wr_getfield (n := 1012) rfl
theorem q230_29 (l0 : Option Value) (l1 : Option Value) (x : Int32) (s0 : Nat) : ww (mp_P fx) d 230 29 [l0, l1, some (.int x)] [.ref s0] h Q ↔ ww (mp_P fx) d 230 30 [l0, l1, some (.int x)] [.int x, .ref s0] h Q := ww_step rfl
theorem q230_30 (ls : mm_V) (s0 : Int32) (s1 : Nat) : ww (mp_P fx) d 230 30 ls [.int s0, .ref s1] h Q ↔ ∃ x, mm_gL h s1 s0 = some x ∧ ww (mp_P fx) d 230 31 ls [.long x] h Q := wr_laload rfl
theorem q230_31 (l1 : Option Value) (l2 : Option Value) (x : Nat) (s0 : Int64) : ww (mp_P fx) d 230 31 [some (.ref x), l1, l2] [.long s0] h Q ↔ ww (mp_P fx) d 230 32 [some (.ref x), l1, l2] [.ref x, .long s0] h Q := ww_step rfl
theorem q230_32 (ls : mm_V) (s0 : Nat) (s1 : Int64) : ww (mp_P fx) d 230 32 ls [.ref s0, .long s1] h Q ↔ ∃ x, mm_gF h s0 10 7 = some x ∧ ww (mp_P fx) d 230 35 ls [x, .long s1] h Q := wr_getfield (n := 1007) rfl
theorem q230_35 (ls : mm_V) (s0 : Int64) (s1 : Int64) : ww (mp_P fx) d 230 35 ls [.long s0, .long s1] h Q ↔ ww (mp_P fx) d 230 36 ls [.int (lg_cmp s1 s0)] h Q := wr_lcmp rfl
theorem q230_36 (ls : mm_V) (s0 : Int32) : ww (mp_P fx) d 230 36 ls [.int s0] h Q ↔ (if ¬ s0 = 0 then ww (mp_P fx) d 230 46 ls [] h Q else ww (mp_P fx) d 230 39 ls [] h Q) := wr_if_ne (t := 46) rfl
theorem q230_39 (l0 : Option Value) (l1 : Option Value) (x : Int32) : ww (mp_P fx) d 230 39 [l0, l1, some (.int x)] [] h Q ↔ ww (mp_P fx) d 230 40 [l0, l1, some (.int x)] [.int x] h Q := ww_step rfl
theorem q230_40 (ls : mm_V) (s0 : Int32) : ww (mp_P fx) d 230 40 ls [.int s0] h Q ↔ ww (mp_P fx) d 230 42 ls [.int 6, .int s0] h Q := wr_bipush (i := 6) rfl
theorem q230_42 (l0 : Option Value) (l2 : Option Value) (x : Int32) (s0 : Int32) (s1 : Int32) : ww (mp_P fx) d 230 42 [l0, some (.int x), l2] [.int s0, .int s1] h Q ↔ ww (mp_P fx) d 230 43 [l0, some (.int x), l2] [.int x, .int s0, .int s1] h Q := ww_step rfl
theorem q230_43 (ls : mm_V) (s0 : Int32) (s1 : Int32) (s2 : Int32) : ww (mp_P fx) d 230 43 ls [.int s0, .int s1, .int s2] h Q ↔ ww (mp_P fx) d 230 44 ls [.int (s1 * s0), .int s2] h Q := wr_imul rfl
theorem q230_44 (ls : mm_V) (s0 : Int32) (s1 : Int32) : ww (mp_P fx) d 230 44 ls [.int s0, .int s1] h Q ↔ ww (mp_P fx) d 230 45 ls [.int (s1 - s0)] h Q := wr_isub rfl
theorem q230_45 (ls : mm_V) (s0 : Int32) : ww (mp_P fx) d 230 45 ls [.int s0] h Q ↔ Q (some (.int s0)) h := wr_ireturn rfl rfl
theorem q230_46i (l0 : Option Value) (x : Int32) (y : Int32) : ww (mp_P fx) d 230 46 [l0, some (.int y), some (.int x)] [] h Q ↔ ww (mp_P fx) d 230 49 [l0, some (.int y), some (.int (x + 1))] [] h Q := wr_iinc (n := 2) (i := 1) rfl rfl (mm_s1_ok (Nat.le_of_ble_eq_true rfl) rfl)
theorem q230_49 (ls : mm_V) : ww (mp_P fx) d 230 49 ls [] h Q ↔ ww (mp_P fx) d 230 5 ls [] h Q := wr_goto (t := 5) rfl
theorem q230_52 (ls : mm_V) : ww (mp_P fx) d 230 52 ls [] h Q ↔ ww (mp_P fx) d 230 53 ls [.int (-1)] h Q := wr_iconst (i := (-1)) rfl
theorem q230_53 (ls : mm_V) (s0 : Int32) : ww (mp_P fx) d 230 53 ls [.int s0] h Q ↔ Q (some (.int s0)) h := wr_ireturn rfl rfl
theorem e230 (a0 : Nat) (a1 : Int32) : wm (mp_P fx) d 230 [.ref a0, .int a1] h Q ↔ ww (mp_P fx) d 230 0 [some (.ref a0), some (.int a1), none] [] h Q := Iff.rfl
/- 231 RainGrammarModel.walkerNamed.(I)I -/
theorem q231_0 (ls : mm_V) : ww (mp_P fx) d 231 0 ls [] h Q ↔ ww (mp_P fx) d 231 2 ls [.int 7] h Q := wr_bipush (i := 7) rfl
theorem q231_2 (l0 : Option Value) (l2 : Option Value) (x : Int32) (s0 : Int32) : ww (mp_P fx) d 231 2 [l0, some (.int x), l2] [.int s0] h Q ↔ ww (mp_P fx) d 231 3 [l0, some (.int x), l2] [.int x, .int s0] h Q := ww_step rfl
theorem q231_3 (ls : mm_V) (s0 : Int32) (s1 : Int32) : ww (mp_P fx) d 231 3 ls [.int s0, .int s1] h Q ↔ ww (mp_P fx) d 231 4 ls [.int (s1 * s0)] h Q := wr_imul rfl
theorem q231_4i (l0 : Option Value) (l2 : Option Value) (y : Int32) (s0 : Int32) : ww (mp_P fx) d 231 4 [l0, some (.int y), l2] [.int s0] h Q ↔ ww (mp_P fx) d 231 5 [l0, some (.int y), some (.int s0)] [] h Q := wr_istore_n rfl (mm_s1_ok (Nat.le_of_ble_eq_true rfl) rfl)
theorem q231_5 (l0 : Option Value) (l1 : Option Value) (x : Int32) : ww (mp_P fx) d 231 5 [l0, l1, some (.int x)] [] h Q ↔ ww (mp_P fx) d 231 6 [l0, l1, some (.int x)] [.int x] h Q := ww_step rfl
theorem q231_6 (ls : mm_V) (s0 : Int32) : ww (mp_P fx) d 231 6 ls [.int s0] h Q ↔ ww (mp_P fx) d 231 8 ls [.int 7, .int s0] h Q := wr_bipush (i := 7) rfl
theorem q231_8 (l0 : Option Value) (l2 : Option Value) (x : Int32) (s0 : Int32) (s1 : Int32) : ww (mp_P fx) d 231 8 [l0, some (.int x), l2] [.int s0, .int s1] h Q ↔ ww (mp_P fx) d 231 9 [l0, some (.int x), l2] [.int x, .int s0, .int s1] h Q := ww_step rfl
theorem q231_9 (ls : mm_V) (s0 : Int32) (s1 : Int32) (s2 : Int32) : ww (mp_P fx) d 231 9 ls [.int s0, .int s1, .int s2] h Q ↔ ww (mp_P fx) d 231 10 ls [.int (s1 * s0), .int s2] h Q := wr_imul rfl
theorem q231_10 (l1 : Option Value) (l2 : Option Value) (x : Nat) (s0 : Int32) (s1 : Int32) : ww (mp_P fx) d 231 10 [some (.ref x), l1, l2] [.int s0, .int s1] h Q ↔ ww (mp_P fx) d 231 11 [some (.ref x), l1, l2] [.ref x, .int s0, .int s1] h Q := ww_step rfl
theorem q231_11 (ls : mm_V) (s0 : Nat) (s1 : Int32) (s2 : Int32) : ww (mp_P fx) d 231 11 ls [.ref s0, .int s1, .int s2] h Q ↔ ∃ x, mm_gF h s0 10 10 = some x ∧ ww (mp_P fx) d 231 14 ls [x, .int s1, .int s2] h Q := wr_getfield (n := 1010) rfl
theorem q231_14 (ls : mm_V) (s0 : Nat) (s1 : Int32) (s2 : Int32) : ww (mp_P fx) d 231 14 ls [.ref s0, .int s1, .int s2] h Q ↔ ww (mp_P fx) d 231 16 ls [.int 6, .ref s0, .int s1, .int s2] h Q := wr_bipush (i := 6) rfl
theorem q231_16 (l0 : Option Value) (l2 : Option Value) (x : Int32) (s0 : Int32) (s1 : Nat) (s2 : Int32) (s3 : Int32) : ww (mp_P fx) d 231 16 [l0, some (.int x), l2] [.int s0, .ref s1, .int s2, .int s3] h Q ↔ ww (mp_P fx) d 231 17 [l0, some (.int x), l2] [.int x, .int s0, .ref s1, .int s2, .int s3] h Q := ww_step rfl
theorem q231_17 (ls : mm_V) (s0 : Int32) (s1 : Int32) (s2 : Nat) (s3 : Int32) (s4 : Int32) : ww (mp_P fx) d 231 17 ls [.int s0, .int s1, .ref s2, .int s3, .int s4] h Q ↔ ww (mp_P fx) d 231 18 ls [.int (s1 * s0), .ref s2, .int s3, .int s4] h Q := wr_imul rfl
theorem q231_18 (ls : mm_V) (s0 : Int32) (s1 : Nat) (s2 : Int32) (s3 : Int32) : ww (mp_P fx) d 231 18 ls [.int s0, .ref s1, .int s2, .int s3] h Q ↔ ww (mp_P fx) d 231 19 ls [.int 3, .int s0, .ref s1, .int s2, .int s3] h Q := wr_iconst (i := 3) rfl
theorem q231_19 (ls : mm_V) (s0 : Int32) (s1 : Int32) (s2 : Nat) (s3 : Int32) (s4 : Int32) : ww (mp_P fx) d 231 19 ls [.int s0, .int s1, .ref s2, .int s3, .int s4] h Q ↔ ww (mp_P fx) d 231 20 ls [.int (s1 + s0), .ref s2, .int s3, .int s4] h Q := wr_iadd rfl
theorem q231_20 (ls : mm_V) (s0 : Int32) (s1 : Nat) (s2 : Int32) (s3 : Int32) : ww (mp_P fx) d 231 20 ls [.int s0, .ref s1, .int s2, .int s3] h Q ↔ ∃ x, mm_gI h s1 0 9 s0 = some x ∧ ww (mp_P fx) d 231 21 ls [.int x, .int s2, .int s3] h Q := wr_iaload rfl
theorem q231_21 (ls : mm_V) (s0 : Int32) (s1 : Int32) (s2 : Int32) : ww (mp_P fx) d 231 21 ls [.int s0, .int s1, .int s2] h Q ↔ ww (mp_P fx) d 231 22 ls [.int (s1 + s0), .int s2] h Q := wr_iadd rfl
theorem q231_22 (ls : mm_V) (s0 : Int32) (s1 : Int32) : ww (mp_P fx) d 231 22 ls [.int s0, .int s1] h Q ↔ (if s0 ≤ s1 then ww (mp_P fx) d 231 52 ls [] h Q else ww (mp_P fx) d 231 25 ls [] h Q) := wr_icmp_ge (t := 52) rfl
theorem q231_25 (l1 : Option Value) (l2 : Option Value) (x : Nat) : ww (mp_P fx) d 231 25 [some (.ref x), l1, l2] [] h Q ↔ ww (mp_P fx) d 231 26 [some (.ref x), l1, l2] [.ref x] h Q := ww_step rfl
theorem q231_26 (ls : mm_V) (s0 : Nat) : ww (mp_P fx) d 231 26 ls [.ref s0] h Q ↔ ∃ x, mm_gF h s0 10 13 = some x ∧ ww (mp_P fx) d 231 29 ls [x] h Q := wr_getfield (n := 1013) rfl
theorem q231_29 (l0 : Option Value) (l1 : Option Value) (x : Int32) (s0 : Nat) : ww (mp_P fx) d 231 29 [l0, l1, some (.int x)] [.ref s0] h Q ↔ ww (mp_P fx) d 231 30 [l0, l1, some (.int x)] [.int x, .ref s0] h Q := ww_step rfl
theorem q231_30 (ls : mm_V) (s0 : Int32) (s1 : Nat) : ww (mp_P fx) d 231 30 ls [.int s0, .ref s1] h Q ↔ ∃ x, mm_gL h s1 s0 = some x ∧ ww (mp_P fx) d 231 31 ls [.long x] h Q := wr_laload rfl
theorem q231_31 (l1 : Option Value) (l2 : Option Value) (x : Nat) (s0 : Int64) : ww (mp_P fx) d 231 31 [some (.ref x), l1, l2] [.long s0] h Q ↔ ww (mp_P fx) d 231 32 [some (.ref x), l1, l2] [.ref x, .long s0] h Q := ww_step rfl
theorem q231_32 (ls : mm_V) (s0 : Nat) (s1 : Int64) : ww (mp_P fx) d 231 32 ls [.ref s0, .long s1] h Q ↔ ∃ x, mm_gF h s0 10 7 = some x ∧ ww (mp_P fx) d 231 35 ls [x, .long s1] h Q := wr_getfield (n := 1007) rfl
theorem q231_35 (ls : mm_V) (s0 : Int64) (s1 : Int64) : ww (mp_P fx) d 231 35 ls [.long s0, .long s1] h Q ↔ ww (mp_P fx) d 231 36 ls [.int (lg_cmp s1 s0)] h Q := wr_lcmp rfl
theorem q231_36 (ls : mm_V) (s0 : Int32) : ww (mp_P fx) d 231 36 ls [.int s0] h Q ↔ (if ¬ s0 = 0 then ww (mp_P fx) d 231 46 ls [] h Q else ww (mp_P fx) d 231 39 ls [] h Q) := wr_if_ne (t := 46) rfl
theorem q231_39 (l0 : Option Value) (l1 : Option Value) (x : Int32) : ww (mp_P fx) d 231 39 [l0, l1, some (.int x)] [] h Q ↔ ww (mp_P fx) d 231 40 [l0, l1, some (.int x)] [.int x] h Q := ww_step rfl
theorem q231_40 (ls : mm_V) (s0 : Int32) : ww (mp_P fx) d 231 40 ls [.int s0] h Q ↔ ww (mp_P fx) d 231 42 ls [.int 7, .int s0] h Q := wr_bipush (i := 7) rfl
theorem q231_42 (l0 : Option Value) (l2 : Option Value) (x : Int32) (s0 : Int32) (s1 : Int32) : ww (mp_P fx) d 231 42 [l0, some (.int x), l2] [.int s0, .int s1] h Q ↔ ww (mp_P fx) d 231 43 [l0, some (.int x), l2] [.int x, .int s0, .int s1] h Q := ww_step rfl
theorem q231_43 (ls : mm_V) (s0 : Int32) (s1 : Int32) (s2 : Int32) : ww (mp_P fx) d 231 43 ls [.int s0, .int s1, .int s2] h Q ↔ ww (mp_P fx) d 231 44 ls [.int (s1 * s0), .int s2] h Q := wr_imul rfl
theorem q231_44 (ls : mm_V) (s0 : Int32) (s1 : Int32) : ww (mp_P fx) d 231 44 ls [.int s0, .int s1] h Q ↔ ww (mp_P fx) d 231 45 ls [.int (s1 - s0)] h Q := wr_isub rfl
theorem q231_45 (ls : mm_V) (s0 : Int32) : ww (mp_P fx) d 231 45 ls [.int s0] h Q ↔ Q (some (.int s0)) h := wr_ireturn rfl rfl
theorem q231_46i (l0 : Option Value) (x : Int32) (y : Int32) : ww (mp_P fx) d 231 46 [l0, some (.int y), some (.int x)] [] h Q ↔ ww (mp_P fx) d 231 49 [l0, some (.int y), some (.int (x + 1))] [] h Q := wr_iinc (n := 2) (i := 1) rfl rfl (mm_s1_ok (Nat.le_of_ble_eq_true rfl) rfl)
theorem q231_49 (ls : mm_V) : ww (mp_P fx) d 231 49 ls [] h Q ↔ ww (mp_P fx) d 231 5 ls [] h Q := wr_goto (t := 5) rfl
theorem q231_52 (ls : mm_V) : ww (mp_P fx) d 231 52 ls [] h Q ↔ ww (mp_P fx) d 231 53 ls [.int (-1)] h Q := wr_iconst (i := (-1)) rfl
theorem q231_53 (ls : mm_V) (s0 : Int32) : ww (mp_P fx) d 231 53 ls [.int s0] h Q ↔ Q (some (.int s0)) h := wr_ireturn rfl rfl
theorem e231 (a0 : Nat) (a1 : Int32) : wm (mp_P fx) d 231 [.ref a0, .int a1] h Q ↔ ww (mp_P fx) d 231 0 [some (.ref a0), some (.int a1), none] [] h Q := Iff.rfl
/- 232 RainGrammarModel.closes.()Z -/
theorem q232_0  (x : Nat) : ww (mp_P fx) d 232 0 [some (.ref x)] [] h Q ↔ ww (mp_P fx) d 232 1 [some (.ref x)] [.ref x] h Q := ww_step rfl
theorem q232_1 (ls : mm_V) (s0 : Nat) : ww (mp_P fx) d 232 1 ls [.ref s0] h Q ↔ ww (mp_P fx) d 232 3 ls [.int 59, .ref s0] h Q := wr_bipush (i := 59) rfl
theorem q232_3 (ls : mm_V) (s0 : Int32) (s1 : Nat) (hc : mm_cls h s1 = 10) : ww (mp_P fx) (d + 1) 232 3 ls [.int s0, .ref s1] h Q ↔ wm (mp_P fx) d 233 [.ref s1, .int s0] h (fun r h' => ww (mp_P fx) (d + 1) 232 6 ls (r.toList ++ []) h' Q) := wr_virtual rfl (mm_recv_ok (n := 1) (rc := 10) ⟨rfl, rfl⟩ rfl hc (by decide)) rfl
theorem q232_6 (ls : mm_V) (s0 : Int32) : ww (mp_P fx) d 232 6 ls [.int s0] h Q ↔ (if ¬ s0 = 0 then ww (mp_P fx) d 232 15 ls [] h Q else ww (mp_P fx) d 232 9 ls [] h Q) := wr_if_ne (t := 15) rfl
theorem q232_9  (x : Nat) : ww (mp_P fx) d 232 9 [some (.ref x)] [] h Q ↔ ww (mp_P fx) d 232 10 [some (.ref x)] [.ref x] h Q := ww_step rfl
theorem q232_10 (ls : mm_V) (s0 : Nat) : ww (mp_P fx) d 232 10 ls [.ref s0] h Q ↔ ww (mp_P fx) d 232 11 ls [.int 1, .ref s0] h Q := wr_iconst (i := 1) rfl
theorem q232_11 (ls : mm_V) (s0 : Int32) (s1 : Nat) (hc : mm_cls h s1 = 10) : ww (mp_P fx) (d + 1) 232 11 ls [.int s0, .ref s1] h Q ↔ wm (mp_P fx) d 226 [.ref s1, .int s0] h (fun r h' => ww (mp_P fx) (d + 1) 232 14 ls (r.toList ++ []) h' Q) := wr_virtual rfl (mm_recv_ok (n := 1) (rc := 10) ⟨rfl, rfl⟩ rfl hc (by decide)) rfl
theorem q232_14 (ls : mm_V) (s0 : Int32) (hb : mm_ret (mp_sig 232).2.2.2 (.int s0) = true) : ww (mp_P fx) d 232 14 ls [.int s0] h Q ↔ Q (some (.int s0)) h := wr_ireturn rfl hb
theorem q232_15  (x : Nat) : ww (mp_P fx) d 232 15 [some (.ref x)] [] h Q ↔ ww (mp_P fx) d 232 16 [some (.ref x)] [.ref x] h Q := ww_step rfl
theorem q232_16 (ls : mm_V) (s0 : Nat) (hc : mm_cls h s0 = 10) : ww (mp_P fx) (d + 1) 232 16 ls [.ref s0] h Q ↔ wm (mp_P fx) d 222 [.ref s0] h (fun r h' => ww (mp_P fx) (d + 1) 232 19 ls (r.toList ++ []) h' Q) := wr_virtual rfl (mm_recv_ok (n := 0) (rc := 10) ⟨rfl, rfl⟩ rfl hc (by decide)) rfl
theorem q232_19 (ls : mm_V) : ww (mp_P fx) d 232 19 ls [] h Q ↔ ww (mp_P fx) d 232 20 ls [.int 1] h Q := wr_iconst (i := 1) rfl
theorem q232_20 (ls : mm_V) (s0 : Int32) (hb : mm_ret (mp_sig 232).2.2.2 (.int s0) = true) : ww (mp_P fx) d 232 20 ls [.int s0] h Q ↔ Q (some (.int s0)) h := wr_ireturn rfl hb
theorem b232_0 : mm_ret (mp_sig 232).2.2.2 (.int 0) = true := by decide +kernel
theorem b232_1 : mm_ret (mp_sig 232).2.2.2 (.int 1) = true := by decide +kernel
theorem e232 (a0 : Nat) : wm (mp_P fx) d 232 [.ref a0] h Q ↔ ww (mp_P fx) d 232 0 [some (.ref a0)] [] h Q := Iff.rfl
/- 233 RainGrammarModel.isSign.(I)Z -/
theorem q233_0 (l1 : Option Value) (x : Nat) : ww (mp_P fx) d 233 0 [some (.ref x), l1] [] h Q ↔ ww (mp_P fx) d 233 1 [some (.ref x), l1] [.ref x] h Q := ww_step rfl
theorem q233_1 (ls : mm_V) (s0 : Nat) : ww (mp_P fx) d 233 1 ls [.ref s0] h Q ↔ ∃ x, mm_gF h s0 10 6 = some x ∧ ww (mp_P fx) d 233 4 ls [x] h Q := wr_getfield (n := 1006) rfl
theorem q233_4 (ls : mm_V) (s0 : Int32) : ww (mp_P fx) d 233 4 ls [.int s0] h Q ↔ ww (mp_P fx) d 233 5 ls [.int 3, .int s0] h Q := wr_iconst (i := 3) rfl
theorem q233_5 (ls : mm_V) (s0 : Int32) (s1 : Int32) : ww (mp_P fx) d 233 5 ls [.int s0, .int s1] h Q ↔ (if ¬ s1 = s0 then ww (mp_P fx) d 233 25 ls [] h Q else ww (mp_P fx) d 233 8 ls [] h Q) := wr_icmp_ne (t := 25) rfl
theorem q233_8 (l1 : Option Value) (x : Nat) : ww (mp_P fx) d 233 8 [some (.ref x), l1] [] h Q ↔ ww (mp_P fx) d 233 9 [some (.ref x), l1] [.ref x] h Q := ww_step rfl
theorem q233_9 (ls : mm_V) (s0 : Nat) : ww (mp_P fx) d 233 9 ls [.ref s0] h Q ↔ ∃ x, mm_gF h s0 10 2 = some x ∧ ww (mp_P fx) d 233 12 ls [x] h Q := wr_getfield (n := 1002) rfl
theorem q233_12 (l1 : Option Value) (x : Nat) (s0 : Nat) : ww (mp_P fx) d 233 12 [some (.ref x), l1] [.ref s0] h Q ↔ ww (mp_P fx) d 233 13 [some (.ref x), l1] [.ref x, .ref s0] h Q := ww_step rfl
theorem q233_13 (ls : mm_V) (s0 : Nat) (s1 : Nat) : ww (mp_P fx) d 233 13 ls [.ref s0, .ref s1] h Q ↔ ∃ x, mm_gF h s0 10 5 = some x ∧ ww (mp_P fx) d 233 16 ls [x, .ref s1] h Q := wr_getfield (n := 1005) rfl
theorem q233_16 (ls : mm_V) (s0 : Int32) (s1 : Nat) : ww (mp_P fx) d 233 16 ls [.int s0, .ref s1] h Q ↔ ∃ x, mm_gI h s1 0 9 s0 = some x ∧ ww (mp_P fx) d 233 17 ls [.int x] h Q := wr_iaload rfl
theorem q233_17 (l0 : Option Value) (x : Int32) (s0 : Int32) : ww (mp_P fx) d 233 17 [l0, some (.int x)] [.int s0] h Q ↔ ww (mp_P fx) d 233 18 [l0, some (.int x)] [.int x, .int s0] h Q := ww_step rfl
theorem q233_18 (ls : mm_V) (s0 : Int32) (s1 : Int32) : ww (mp_P fx) d 233 18 ls [.int s0, .int s1] h Q ↔ (if ¬ s1 = s0 then ww (mp_P fx) d 233 25 ls [] h Q else ww (mp_P fx) d 233 21 ls [] h Q) := wr_icmp_ne (t := 25) rfl
theorem q233_21 (ls : mm_V) : ww (mp_P fx) d 233 21 ls [] h Q ↔ ww (mp_P fx) d 233 22 ls [.int 1] h Q := wr_iconst (i := 1) rfl
theorem q233_22 (ls : mm_V) (s0 : Int32) : ww (mp_P fx) d 233 22 ls [.int s0] h Q ↔ ww (mp_P fx) d 233 26 ls [.int s0] h Q := wr_goto (t := 26) rfl
theorem q233_25 (ls : mm_V) : ww (mp_P fx) d 233 25 ls [] h Q ↔ ww (mp_P fx) d 233 26 ls [.int 0] h Q := wr_iconst (i := 0) rfl
theorem q233_26 (ls : mm_V) (s0 : Int32) (hb : mm_ret (mp_sig 233).2.2.2 (.int s0) = true) : ww (mp_P fx) d 233 26 ls [.int s0] h Q ↔ Q (some (.int s0)) h := wr_ireturn rfl hb
theorem b233_0 : mm_ret (mp_sig 233).2.2.2 (.int 0) = true := by decide +kernel
theorem b233_1 : mm_ret (mp_sig 233).2.2.2 (.int 1) = true := by decide +kernel
theorem e233 (a0 : Nat) (a1 : Int32) : wm (mp_P fx) d 233 [.ref a0, .int a1] h Q ↔ ww (mp_P fx) d 233 0 [some (.ref a0), some (.int a1)] [] h Q := Iff.rfl
/- 234 RainGrammarModel.readsColour.()Z -/
theorem q234_0 (ls : mm_V) : ww (mp_P fx) d 234 0 ls [] h Q ↔ ww (mp_P fx) d 234 2 ls [.int 6] h Q := wr_bipush (i := 6) rfl
theorem q234_2 (l1 : Option Value) (x : Nat) (s0 : Int32) : ww (mp_P fx) d 234 2 [some (.ref x), l1] [.int s0] h Q ↔ ww (mp_P fx) d 234 3 [some (.ref x), l1] [.ref x, .int s0] h Q := ww_step rfl
theorem q234_3 (ls : mm_V) (s0 : Nat) (s1 : Int32) : ww (mp_P fx) d 234 3 ls [.ref s0, .int s1] h Q ↔ ∃ x, mm_gF h s0 10 10 = some x ∧ ww (mp_P fx) d 234 6 ls [x, .int s1] h Q := wr_getfield (n := 1010) rfl
theorem q234_6 (ls : mm_V) (s0 : Nat) (s1 : Int32) : ww (mp_P fx) d 234 6 ls [.ref s0, .int s1] h Q ↔ ww (mp_P fx) d 234 8 ls [.int 7, .ref s0, .int s1] h Q := wr_bipush (i := 7) rfl
theorem q234_8 (ls : mm_V) (s0 : Int32) (s1 : Nat) (s2 : Int32) : ww (mp_P fx) d 234 8 ls [.int s0, .ref s1, .int s2] h Q ↔ ∃ x, mm_gI h s1 0 9 s0 = some x ∧ ww (mp_P fx) d 234 9 ls [.int x, .int s2] h Q := wr_iaload rfl
theorem q234_9 (ls : mm_V) (s0 : Int32) (s1 : Int32) : ww (mp_P fx) d 234 9 ls [.int s0, .int s1] h Q ↔ ww (mp_P fx) d 234 10 ls [.int (s1 + s0)] h Q := wr_iadd rfl
theorem q234_10r (l1 : Option Value) (y : Nat) (s0 : Int32) : ww (mp_P fx) d 234 10 [some (.ref y), l1] [.int s0] h Q ↔ ww (mp_P fx) d 234 11 [some (.ref y), some (.int s0)] [] h Q := wr_istore_n rfl (mm_s1_ok (Nat.le_of_ble_eq_true rfl) rfl)
theorem q234_11 (l0 : Option Value) (x : Int32) : ww (mp_P fx) d 234 11 [l0, some (.int x)] [] h Q ↔ ww (mp_P fx) d 234 12 [l0, some (.int x)] [.int x] h Q := ww_step rfl
theorem q234_12 (ls : mm_V) (s0 : Int32) : ww (mp_P fx) d 234 12 ls [.int s0] h Q ↔ ww (mp_P fx) d 234 14 ls [.int 12, .int s0] h Q := wr_bipush (i := 12) rfl
theorem q234_14 (ls : mm_V) (s0 : Int32) (s1 : Int32) : ww (mp_P fx) d 234 14 ls [.int s0, .int s1] h Q ↔ (if ¬ s1 = s0 then ww (mp_P fx) d 234 23 ls [] h Q else ww (mp_P fx) d 234 17 ls [] h Q) := wr_icmp_ne (t := 23) rfl
theorem q234_17 (l1 : Option Value) (x : Nat) : ww (mp_P fx) d 234 17 [some (.ref x), l1] [] h Q ↔ ww (mp_P fx) d 234 18 [some (.ref x), l1] [.ref x] h Q := ww_step rfl
theorem q234_18 (ls : mm_V) (s0 : Nat) : ww (mp_P fx) d 234 18 ls [.ref s0] h Q ↔ ww (mp_P fx) d 234 19 ls [.int 5, .ref s0] h Q := wr_iconst (i := 5) rfl
theorem q234_19 (ls : mm_V) (s0 : Int32) (s1 : Nat) (hc : mm_cls h s1 = 10) : ww (mp_P fx) (d + 1) 234 19 ls [.int s0, .ref s1] h Q ↔ wm (mp_P fx) d 226 [.ref s1, .int s0] h (fun r h' => ww (mp_P fx) (d + 1) 234 22 ls (r.toList ++ []) h' Q) := wr_virtual rfl (mm_recv_ok (n := 1) (rc := 10) ⟨rfl, rfl⟩ rfl hc (by decide)) rfl
theorem q234_22 (ls : mm_V) (s0 : Int32) (hb : mm_ret (mp_sig 234).2.2.2 (.int s0) = true) : ww (mp_P fx) d 234 22 ls [.int s0] h Q ↔ Q (some (.int s0)) h := wr_ireturn rfl hb
theorem q234_23 (l1 : Option Value) (x : Nat) : ww (mp_P fx) d 234 23 [some (.ref x), l1] [] h Q ↔ ww (mp_P fx) d 234 24 [some (.ref x), l1] [.ref x] h Q := ww_step rfl
theorem q234_24 (ls : mm_V) (s0 : Nat) (hc : mm_cls h s0 = 10) : ww (mp_P fx) (d + 1) 234 24 ls [.ref s0] h Q ↔ wm (mp_P fx) d 222 [.ref s0] h (fun r h' => ww (mp_P fx) (d + 1) 234 27 ls (r.toList ++ []) h' Q) := wr_virtual rfl (mm_recv_ok (n := 0) (rc := 10) ⟨rfl, rfl⟩ rfl hc (by decide)) rfl
theorem q234_27 (l1 : Option Value) (x : Nat) : ww (mp_P fx) d 234 27 [some (.ref x), l1] [] h Q ↔ ww (mp_P fx) d 234 28 [some (.ref x), l1] [.ref x] h Q := ww_step rfl
theorem q234_28 (ls : mm_V) (s0 : Nat) (hc : mm_cls h s0 = 10) : ww (mp_P fx) (d + 1) 234 28 ls [.ref s0] h Q ↔ wm (mp_P fx) d 227 [.ref s0] h (fun r h' => ww (mp_P fx) (d + 1) 234 31 ls (r.toList ++ []) h' Q) := wr_virtual rfl (mm_recv_ok (n := 0) (rc := 10) ⟨rfl, rfl⟩ rfl hc (by decide)) rfl
theorem q234_31 (ls : mm_V) (s0 : Int32) : ww (mp_P fx) d 234 31 ls [.int s0] h Q ↔ (if s0 = 0 then ww (mp_P fx) d 234 51 ls [] h Q else ww (mp_P fx) d 234 34 ls [] h Q) := wr_if_eq (t := 51) rfl
theorem q234_34 (l1 : Option Value) (x : Nat) : ww (mp_P fx) d 234 34 [some (.ref x), l1] [] h Q ↔ ww (mp_P fx) d 234 35 [some (.ref x), l1] [.ref x] h Q := ww_step rfl
theorem q234_35 (ls : mm_V) (s0 : Nat) : ww (mp_P fx) d 234 35 ls [.ref s0] h Q ↔ ww (mp_P fx) d 234 38 ls [.long 46, .ref s0] h Q := wr_ldc2_w (i := 46) rfl
theorem q234_38 (ls : mm_V) (s0 : Int64) (s1 : Nat) (hc : mm_cls h s1 = 10) : ww (mp_P fx) (d + 1) 234 38 ls [.long s0, .ref s1] h Q ↔ wm (mp_P fx) d 235 [.ref s1, .long s0] h (fun r h' => ww (mp_P fx) (d + 1) 234 41 ls (r.toList ++ []) h' Q) := wr_virtual rfl (mm_recv_ok (n := 1) (rc := 10) ⟨rfl, rfl⟩ rfl hc (by decide)) rfl
theorem q234_41 (ls : mm_V) (s0 : Int32) : ww (mp_P fx) d 234 41 ls [.int s0] h Q ↔ (if s0 = 0 then ww (mp_P fx) d 234 51 ls [] h Q else ww (mp_P fx) d 234 44 ls [] h Q) := wr_if_eq (t := 51) rfl
theorem q234_44 (l1 : Option Value) (x : Nat) : ww (mp_P fx) d 234 44 [some (.ref x), l1] [] h Q ↔ ww (mp_P fx) d 234 45 [some (.ref x), l1] [.ref x] h Q := ww_step rfl
theorem q234_45 (ls : mm_V) (s0 : Nat) (hc : mm_cls h s0 = 10) : ww (mp_P fx) (d + 1) 234 45 ls [.ref s0] h Q ↔ wm (mp_P fx) d 236 [.ref s0] h (fun r h' => ww (mp_P fx) (d + 1) 234 48 ls (r.toList ++ []) h' Q) := wr_virtual rfl (mm_recv_ok (n := 0) (rc := 10) ⟨rfl, rfl⟩ rfl hc (by decide)) rfl
theorem q234_48 (ls : mm_V) (s0 : Int32) : ww (mp_P fx) d 234 48 ls [.int s0] h Q ↔ (if ¬ s0 = 0 then ww (mp_P fx) d 234 53 ls [] h Q else ww (mp_P fx) d 234 51 ls [] h Q) := wr_if_ne (t := 53) rfl
theorem q234_51 (ls : mm_V) : ww (mp_P fx) d 234 51 ls [] h Q ↔ ww (mp_P fx) d 234 52 ls [.int 0] h Q := wr_iconst (i := 0) rfl
theorem q234_52 (ls : mm_V) (s0 : Int32) (hb : mm_ret (mp_sig 234).2.2.2 (.int s0) = true) : ww (mp_P fx) d 234 52 ls [.int s0] h Q ↔ Q (some (.int s0)) h := wr_ireturn rfl hb
theorem q234_53 (l1 : Option Value) (x : Nat) : ww (mp_P fx) d 234 53 [some (.ref x), l1] [] h Q ↔ ww (mp_P fx) d 234 54 [some (.ref x), l1] [.ref x] h Q := ww_step rfl
theorem q234_54 (ls : mm_V) (s0 : Nat) : ww (mp_P fx) d 234 54 ls [.ref s0] h Q ↔ ∃ x, mm_gF h s0 10 14 = some x ∧ ww (mp_P fx) d 234 57 ls [x] h Q := wr_getfield (n := 1014) rfl
theorem q234_57 (l0 : Option Value) (x : Int32) (s0 : Nat) : ww (mp_P fx) d 234 57 [l0, some (.int x)] [.ref s0] h Q ↔ ww (mp_P fx) d 234 58 [l0, some (.int x)] [.int x, .ref s0] h Q := ww_step rfl
theorem q234_58 (l1 : Option Value) (x : Nat) (s0 : Int32) (s1 : Nat) : ww (mp_P fx) d 234 58 [some (.ref x), l1] [.int s0, .ref s1] h Q ↔ ww (mp_P fx) d 234 59 [some (.ref x), l1] [.ref x, .int s0, .ref s1] h Q := ww_step rfl
theorem q234_59 (ls : mm_V) (s0 : Nat) (s1 : Int32) (s2 : Nat) : ww (mp_P fx) d 234 59 ls [.ref s0, .int s1, .ref s2] h Q ↔ ∃ x, mm_gF h s0 10 38 = some x ∧ ww (mp_P fx) d 234 62 ls [x, .int s1, .ref s2] h Q := wr_getfield (n := 1038) rfl
theorem q234_62 (ls : mm_V) (s0 : Int32) (s1 : Int32) (s2 : Nat) : ww (mp_P fx) d 234 62 ls [.int s0, .int s1, .ref s2] h Q ↔ ∃ h', mm_sI h s2 0 s1 s0 = some h' ∧ ww (mp_P fx) d 234 63 ls [] h' Q := wr_iastore rfl
theorem q234_63 (l1 : Option Value) (x : Nat) : ww (mp_P fx) d 234 63 [some (.ref x), l1] [] h Q ↔ ww (mp_P fx) d 234 64 [some (.ref x), l1] [.ref x] h Q := ww_step rfl
theorem q234_64 (ls : mm_V) (s0 : Nat) : ww (mp_P fx) d 234 64 ls [.ref s0] h Q ↔ ∃ x, mm_gF h s0 10 12 = some x ∧ ww (mp_P fx) d 234 67 ls [x] h Q := wr_getfield (n := 1012) rfl
theorem q234_67 (l0 : Option Value) (x : Int32) (s0 : Nat) : ww (mp_P fx) d 234 67 [l0, some (.int x)] [.ref s0] h Q ↔ ww (mp_P fx) d 234 68 [l0, some (.int x)] [.int x, .ref s0] h Q := ww_step rfl
theorem q234_68 (l1 : Option Value) (x : Nat) (s0 : Int32) (s1 : Nat) : ww (mp_P fx) d 234 68 [some (.ref x), l1] [.int s0, .ref s1] h Q ↔ ww (mp_P fx) d 234 69 [some (.ref x), l1] [.ref x, .int s0, .ref s1] h Q := ww_step rfl
theorem q234_69 (ls : mm_V) (s0 : Nat) (s1 : Int32) (s2 : Nat) : ww (mp_P fx) d 234 69 ls [.ref s0, .int s1, .ref s2] h Q ↔ ∃ x, mm_gF h s0 10 39 = some x ∧ ww (mp_P fx) d 234 72 ls [x, .int s1, .ref s2] h Q := wr_getfield (n := 1039) rfl
theorem q234_72 (ls : mm_V) (s0 : Int64) (s1 : Int32) (s2 : Nat) : ww (mp_P fx) d 234 72 ls [.long s0, .int s1, .ref s2] h Q ↔ ∃ h', mm_sL h s2 s1 s0 = some h' ∧ ww (mp_P fx) d 234 73 ls [] h' Q := wr_lastore rfl
theorem q234_73 (l1 : Option Value) (x : Nat) : ww (mp_P fx) d 234 73 [some (.ref x), l1] [] h Q ↔ ww (mp_P fx) d 234 74 [some (.ref x), l1] [.ref x] h Q := ww_step rfl
theorem q234_74 (ls : mm_V) (s0 : Nat) : ww (mp_P fx) d 234 74 ls [.ref s0] h Q ↔ ∃ x, mm_gF h s0 10 10 = some x ∧ ww (mp_P fx) d 234 77 ls [x] h Q := wr_getfield (n := 1010) rfl
theorem q234_77 (ls : mm_V) (s0 : Nat) : ww (mp_P fx) d 234 77 ls [.ref s0] h Q ↔ ww (mp_P fx) d 234 79 ls [.int 7, .ref s0] h Q := wr_bipush (i := 7) rfl
theorem q234_79 (ls : mm_V) (s0 : Int32) (s1 : Nat) : ww (mp_P fx) d 234 79 ls [.int s0, .ref s1] h Q ↔ ww (mp_P fx) d 234 80 ls [.int s0, .ref s1, .int s0, .ref s1] h Q := ww_step rfl
theorem q234_80 (ls : mm_V) (s0 : Int32) (s1 : Nat) (s2 : Int32) (s3 : Nat) : ww (mp_P fx) d 234 80 ls [.int s0, .ref s1, .int s2, .ref s3] h Q ↔ ∃ x, mm_gI h s1 0 9 s0 = some x ∧ ww (mp_P fx) d 234 81 ls [.int x, .int s2, .ref s3] h Q := wr_iaload rfl
theorem q234_81 (ls : mm_V) (s0 : Int32) (s1 : Int32) (s2 : Nat) : ww (mp_P fx) d 234 81 ls [.int s0, .int s1, .ref s2] h Q ↔ ww (mp_P fx) d 234 82 ls [.int 1, .int s0, .int s1, .ref s2] h Q := wr_iconst (i := 1) rfl
theorem q234_82 (ls : mm_V) (s0 : Int32) (s1 : Int32) (s2 : Int32) (s3 : Nat) : ww (mp_P fx) d 234 82 ls [.int s0, .int s1, .int s2, .ref s3] h Q ↔ ww (mp_P fx) d 234 83 ls [.int (s1 + s0), .int s2, .ref s3] h Q := wr_iadd rfl
theorem q234_83 (ls : mm_V) (s0 : Int32) (s1 : Int32) (s2 : Nat) : ww (mp_P fx) d 234 83 ls [.int s0, .int s1, .ref s2] h Q ↔ ∃ h', mm_sI h s2 0 s1 s0 = some h' ∧ ww (mp_P fx) d 234 84 ls [] h' Q := wr_iastore rfl
theorem q234_84 (l1 : Option Value) (x : Nat) : ww (mp_P fx) d 234 84 [some (.ref x), l1] [] h Q ↔ ww (mp_P fx) d 234 85 [some (.ref x), l1] [.ref x] h Q := ww_step rfl
theorem q234_85 (ls : mm_V) (s0 : Nat) (hc : mm_cls h s0 = 10) : ww (mp_P fx) (d + 1) 234 85 ls [.ref s0] h Q ↔ wm (mp_P fx) d 232 [.ref s0] h (fun r h' => ww (mp_P fx) (d + 1) 234 88 ls (r.toList ++ []) h' Q) := wr_virtual rfl (mm_recv_ok (n := 0) (rc := 10) ⟨rfl, rfl⟩ rfl hc (by decide)) rfl
theorem q234_88 (ls : mm_V) (s0 : Int32) (hb : mm_ret (mp_sig 234).2.2.2 (.int s0) = true) : ww (mp_P fx) d 234 88 ls [.int s0] h Q ↔ Q (some (.int s0)) h := wr_ireturn rfl hb
theorem b234_0 : mm_ret (mp_sig 234).2.2.2 (.int 0) = true := by decide +kernel
theorem b234_1 : mm_ret (mp_sig 234).2.2.2 (.int 1) = true := by decide +kernel
theorem e234 (a0 : Nat) : wm (mp_P fx) d 234 [.ref a0] h Q ↔ ww (mp_P fx) d 234 0 [some (.ref a0), none] [] h Q := Iff.rfl
end RW
