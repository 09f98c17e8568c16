section RW
variable (fx : List Value → mm_H → Option (List Value × mm_H)) (d : Nat) (h : mm_H) (Q : Option Value → mm_H → Prop)
/- 127 RainGrammar$Scene.placeBehind.(II)I -/
theorem q127_0 (l0 : Option Value) (x : Int32) : ww (mp_P fx) d 127 0 [l0, some (.int x)] [] h Q ↔ ww (mp_P fx) d 127 1 [l0, some (.int x)] [.int x] h Q := ww_step rfl
theorem q127_1 (ls : mm_V) (s0 : Int32) : ww (mp_P fx) d 127 1 ls [.int s0] h Q ↔ ww (mp_P fx) d 127 2 ls [.int 1, .int s0] h Q := wr_iconst (i := 1) rfl
theorem q127_2 (ls : mm_V) (s0 : Int32) (s1 : Int32) : ww (mp_P fx) d 127 2 ls [.int s0, .int s1] h Q ↔ (if ¬ s1 = s0 then ww (mp_P fx) d 127 21 ls [] h Q else ww (mp_P fx) d 127 5 ls [] h Q) := wr_icmp_ne (t := 21) rfl
theorem q127_5 (l1 : Option Value) (x : Int32) : ww (mp_P fx) d 127 5 [some (.int x), l1] [] h Q ↔ ww (mp_P fx) d 127 6 [some (.int x), l1] [.int x] h Q := ww_step rfl
theorem q127_6 (ls : mm_V) (s0 : Int32) : ww (mp_P fx) d 127 6 ls [.int s0] h Q ↔ ww (mp_P fx) d 127 7 ls [.int 1, .int s0] h Q := wr_iconst (i := 1) rfl
theorem q127_7 (ls : mm_V) (s0 : Int32) (s1 : Int32) : ww (mp_P fx) d 127 7 ls [.int s0, .int s1] h Q ↔ ww (mp_P fx) d 127 8 ls [.int (s1 + s0)] h Q := wr_iadd rfl
theorem q127_8 (ls : mm_V) (s0 : Int32) : ww (mp_P fx) d 127 8 ls [.int s0] h Q ↔ ww (mp_P fx) d 127 10 ls [.int 10, .int s0] h Q := wr_bipush (i := 10) rfl
theorem q127_10 (ls : mm_V) (s0 : Int32) (s1 : Int32) : ww (mp_P fx) d 127 10 ls [.int s0, .int s1] h Q ↔ (if s0 ≤ s1 then ww (mp_P fx) d 127 19 ls [] h Q else ww (mp_P fx) d 127 13 ls [] h Q) := wr_icmp_ge (t := 19) rfl
theorem q127_13 (l1 : Option Value) (x : Int32) : ww (mp_P fx) d 127 13 [some (.int x), l1] [] h Q ↔ ww (mp_P fx) d 127 14 [some (.int x), l1] [.int x] h Q := ww_step rfl
theorem q127_14 (ls : mm_V) (s0 : Int32) : ww (mp_P fx) d 127 14 ls [.int s0] h Q ↔ ww (mp_P fx) d 127 15 ls [.int 1, .int s0] h Q := wr_iconst (i := 1) rfl
theorem q127_15 (ls : mm_V) (s0 : Int32) (s1 : Int32) : ww (mp_P fx) d 127 15 ls [.int s0, .int s1] h Q ↔ ww (mp_P fx) d 127 16 ls [.int (s1 + s0)] h Q := wr_iadd rfl
theorem q127_16 (ls : mm_V) (s0 : Int32) : ww (mp_P fx) d 127 16 ls [.int s0] h Q ↔ ww (mp_P fx) d 127 20 ls [.int s0] h Q := wr_goto (t := 20) rfl
theorem q127_19 (l1 : Option Value) (x : Int32) : ww (mp_P fx) d 127 19 [some (.int x), l1] [] h Q ↔ ww (mp_P fx) d 127 20 [some (.int x), l1] [.int x] h Q := ww_step rfl
theorem q127_20 (ls : mm_V) (s0 : Int32) : ww (mp_P fx) d 127 20 ls [.int s0] h Q ↔ Q (some (.int s0)) h := wr_ireturn rfl rfl
theorem q127_21 (l0 : Option Value) (x : Int32) : ww (mp_P fx) d 127 21 [l0, some (.int x)] [] h Q ↔ ww (mp_P fx) d 127 22 [l0, some (.int x)] [.int x] h Q := ww_step rfl
theorem q127_22 (ls : mm_V) (s0 : Int32) : ww (mp_P fx) d 127 22 ls [.int s0] h Q ↔ ww (mp_P fx) d 127 23 ls [.int 2, .int s0] h Q := wr_iconst (i := 2) rfl
theorem q127_23 (ls : mm_V) (s0 : Int32) (s1 : Int32) : ww (mp_P fx) d 127 23 ls [.int s0, .int s1] h Q ↔ (if ¬ s1 = s0 then ww (mp_P fx) d 127 36 ls [] h Q else ww (mp_P fx) d 127 26 ls [] h Q) := wr_icmp_ne (t := 36) rfl
theorem q127_26 (l1 : Option Value) (x : Int32) : ww (mp_P fx) d 127 26 [some (.int x), l1] [] h Q ↔ ww (mp_P fx) d 127 27 [some (.int x), l1] [.int x] h Q := ww_step rfl
theorem q127_27 (ls : mm_V) (s0 : Int32) : ww (mp_P fx) d 127 27 ls [.int s0] h Q ↔ (if s0 ≤ 0 then ww (mp_P fx) d 127 36 ls [] h Q else ww (mp_P fx) d 127 30 ls [] h Q) := wr_if_le (t := 36) rfl
theorem q127_30 (l1 : Option Value) (x : Int32) : ww (mp_P fx) d 127 30 [some (.int x), l1] [] h Q ↔ ww (mp_P fx) d 127 31 [some (.int x), l1] [.int x] h Q := ww_step rfl
theorem q127_31 (ls : mm_V) (s0 : Int32) : ww (mp_P fx) d 127 31 ls [.int s0] h Q ↔ ww (mp_P fx) d 127 32 ls [.int 1, .int s0] h Q := wr_iconst (i := 1) rfl
theorem q127_32 (ls : mm_V) (s0 : Int32) (s1 : Int32) : ww (mp_P fx) d 127 32 ls [.int s0, .int s1] h Q ↔ ww (mp_P fx) d 127 33 ls [.int (s1 - s0)] h Q := wr_isub rfl
theorem q127_33 (ls : mm_V) (s0 : Int32) : ww (mp_P fx) d 127 33 ls [.int s0] h Q ↔ ww (mp_P fx) d 127 37 ls [.int s0] h Q := wr_goto (t := 37) rfl
theorem q127_36 (l1 : Option Value) (x : Int32) : ww (mp_P fx) d 127 36 [some (.int x), l1] [] h Q ↔ ww (mp_P fx) d 127 37 [some (.int x), l1] [.int x] h Q := ww_step rfl
theorem q127_37 (ls : mm_V) (s0 : Int32) : ww (mp_P fx) d 127 37 ls [.int s0] h Q ↔ Q (some (.int s0)) h := wr_ireturn rfl rfl
theorem e127 (a0 : Int32) (a1 : Int32) : wm (mp_P fx) d 127 [.int a0, .int a1] h Q ↔ ww (mp_P fx) d 127 0 [some (.int a0), some (.int a1)] [] h Q := Iff.rfl
/- 106 RainGrammar$Scene.isOpen.(I)Z -/
theorem q106_0 (l1 : Option Value) (x : Nat) : ww (mp_P fx) d 106 0 [some (.ref x), l1] [] h Q ↔ ww (mp_P fx) d 106 1 [some (.ref x), l1] [.ref x] h Q := ww_step rfl
theorem q106_1 (ls : mm_V) (s0 : Nat) : ww (mp_P fx) d 106 1 ls [.ref s0] h Q ↔ ∃ x, mm_gF h s0 2 1 = some x ∧ ww (mp_P fx) d 106 4 ls [x] h Q := wr_getfield (n := 201) rfl
theorem q106_4 (l0 : Option Value) (x : Int32) (s0 : Int32) : ww (mp_P fx) d 106 4 [l0, some (.int x)] [.int s0] h Q ↔ ww (mp_P fx) d 106 5 [l0, some (.int x)] [.int x, .int s0] h Q := ww_step rfl
theorem q106_5 (ls : mm_V) (s0 : Int32) (s1 : Int32) : ww (mp_P fx) d 106 5 ls [.int s0, .int s1] h Q ↔ ww (mp_P fx) d 106 6 ls [.int (s1 >>> (s0 &&& 31))] h Q := wr_ishr rfl
theorem q106_6 (ls : mm_V) (s0 : Int32) : ww (mp_P fx) d 106 6 ls [.int s0] h Q ↔ ww (mp_P fx) d 106 7 ls [.int 1, .int s0] h Q := wr_iconst (i := 1) rfl
theorem q106_7 (ls : mm_V) (s0 : Int32) (s1 : Int32) : ww (mp_P fx) d 106 7 ls [.int s0, .int s1] h Q ↔ ww (mp_P fx) d 106 8 ls [.int (s1 &&& s0)] h Q := wr_iand rfl
theorem q106_8 (ls : mm_V) (s0 : Int32) : ww (mp_P fx) d 106 8 ls [.int s0] h Q ↔ ww (mp_P fx) d 106 9 ls [.int 1, .int s0] h Q := wr_iconst (i := 1) rfl
theorem q106_9 (ls : mm_V) (s0 : Int32) (s1 : Int32) : ww (mp_P fx) d 106 9 ls [.int s0, .int s1] h Q ↔ (if ¬ s1 = s0 then ww (mp_P fx) d 106 16 ls [] h Q else ww (mp_P fx) d 106 12 ls [] h Q) := wr_icmp_ne (t := 16) rfl
theorem q106_12 (ls : mm_V) : ww (mp_P fx) d 106 12 ls [] h Q ↔ ww (mp_P fx) d 106 13 ls [.int 1] h Q := wr_iconst (i := 1) rfl
theorem q106_13 (ls : mm_V) (s0 : Int32) : ww (mp_P fx) d 106 13 ls [.int s0] h Q ↔ ww (mp_P fx) d 106 17 ls [.int s0] h Q := wr_goto (t := 17) rfl
theorem q106_16 (ls : mm_V) : ww (mp_P fx) d 106 16 ls [] h Q ↔ ww (mp_P fx) d 106 17 ls [.int 0] h Q := wr_iconst (i := 0) rfl
theorem q106_17 (ls : mm_V) (s0 : Int32) (hb : mm_ret (mp_sig 106).2.2.2 (.int s0) = true) : ww (mp_P fx) d 106 17 ls [.int s0] h Q ↔ Q (some (.int s0)) h := wr_ireturn rfl hb
theorem b106_0 : mm_ret (mp_sig 106).2.2.2 (.int 0) = true := by decide +kernel
theorem b106_1 : mm_ret (mp_sig 106).2.2.2 (.int 1) = true := by decide +kernel
theorem e106 (a0 : Nat) (a1 : Int32) : wm (mp_P fx) d 106 [.ref a0, .int a1] h Q ↔ ww (mp_P fx) d 106 0 [some (.ref a0), some (.int a1)] [] h Q := Iff.rfl
/- 107 RainGrammar$Square.stepOf.(II)I -/
theorem q107_0 (l1 : Option Value) (l2 : Option Value) (l3 : Option Value) (x : Nat) : ww (mp_P fx) d 107 0 [some (.ref x), l1, l2, l3] [] h Q ↔ ww (mp_P fx) d 107 1 [some (.ref x), l1, l2, l3] [.ref x] h Q := ww_step rfl
theorem q107_1 (ls : mm_V) (s0 : Nat) : ww (mp_P fx) d 107 1 ls [.ref s0] h Q ↔ ∃ x, mm_gF h s0 8 15 = some x ∧ ww (mp_P fx) d 107 4 ls [x] h Q := wr_getfield (n := 815) rfl
theorem q107_4 (l0 : Option Value) (l2 : Option Value) (l3 : Option Value) (x : Int32) (s0 : Nat) : ww (mp_P fx) d 107 4 [l0, some (.int x), l2, l3] [.ref s0] h Q ↔ ww (mp_P fx) d 107 5 [l0, some (.int x), l2, l3] [.int x, .ref s0] h Q := ww_step rfl
theorem q107_5 (ls : mm_V) (s0 : Int32) (s1 : Nat) : ww (mp_P fx) d 107 5 ls [.int s0, .ref s1] h Q ↔ ∃ x, mm_gI h s1 0 9 s0 = some x ∧ ww (mp_P fx) d 107 6 ls [.int x] h Q := wr_iaload rfl
theorem q107_6 (l0 : Option Value) (l1 : Option Value) (l2 : Option Value) (l3 : Option Value) (s0 : Int32) (hl : mm_isL l2 = false) : ww (mp_P fx) d 107 6 [l0, l1, l2, l3] [.int s0] h Q ↔ ww (mp_P fx) d 107 7 [l0, l1, l2, some (.int s0)] [] h Q := wr_istore_n rfl (mm_s1_ok (Nat.le_of_ble_eq_true rfl) (by show (_ || !mm_isL l2) = true; rw [hl]; rfl))
theorem q107_7 (l0 : Option Value) (l1 : Option Value) (l2 : Option Value) (x : Int32) : ww (mp_P fx) d 107 7 [l0, l1, l2, some (.int x)] [] h Q ↔ ww (mp_P fx) d 107 8 [l0, l1, l2, some (.int x)] [.int x] h Q := ww_step rfl
theorem q107_8 (ls : mm_V) (s0 : Int32) : ww (mp_P fx) d 107 8 ls [.int s0] h Q ↔ ww (mp_P fx) d 107 9 ls [.int 1, .int s0] h Q := wr_iconst (i := 1) rfl
theorem q107_9 (ls : mm_V) (s0 : Int32) (s1 : Int32) : ww (mp_P fx) d 107 9 ls [.int s0, .int s1] h Q ↔ (if s1 < s0 then ww (mp_P fx) d 107 16 ls [] h Q else ww (mp_P fx) d 107 12 ls [] h Q) := wr_icmp_lt (t := 16) rfl
theorem q107_12 (l0 : Option Value) (l1 : Option Value) (l3 : Option Value) (x : Int32) : ww (mp_P fx) d 107 12 [l0, l1, some (.int x), l3] [] h Q ↔ ww (mp_P fx) d 107 13 [l0, l1, some (.int x), l3] [.int x] h Q := ww_step rfl
theorem q107_13 (ls : mm_V) (s0 : Int32) : ww (mp_P fx) d 107 13 ls [.int s0] h Q ↔ (if 0 ≤ s0 then ww (mp_P fx) d 107 20 ls [] h Q else ww (mp_P fx) d 107 16 ls [] h Q) := wr_if_ge (t := 20) rfl
theorem q107_16 (ls : mm_V) : ww (mp_P fx) d 107 16 ls [] h Q ↔ ww (mp_P fx) d 107 17 ls [.int 0] h Q := wr_iconst (i := 0) rfl
theorem q107_17 (ls : mm_V) (s0 : Int32) : ww (mp_P fx) d 107 17 ls [.int s0] h Q ↔ ww (mp_P fx) d 107 33 ls [.int s0] h Q := wr_goto (t := 33) rfl
theorem q107_20 (l1 : Option Value) (l2 : Option Value) (l3 : Option Value) (x : Nat) : ww (mp_P fx) d 107 20 [some (.ref x), l1, l2, l3] [] h Q ↔ ww (mp_P fx) d 107 21 [some (.ref x), l1, l2, l3] [.ref x] h Q := ww_step rfl
theorem q107_21 (ls : mm_V) (s0 : Nat) : ww (mp_P fx) d 107 21 ls [.ref s0] h Q ↔ ∃ x, mm_gF h s0 8 14 = some x ∧ ww (mp_P fx) d 107 24 ls [x] h Q := wr_getfield (n := 814) rfl
theorem q107_24 (l0 : Option Value) (l2 : Option Value) (l3 : Option Value) (x : Int32) (s0 : Nat) : ww (mp_P fx) d 107 24 [l0, some (.int x), l2, l3] [.ref s0] h Q ↔ ww (mp_P fx) d 107 25 [l0, some (.int x), l2, l3] [.int x, .ref s0] h Q := ww_step rfl
theorem q107_25 (ls : mm_V) (s0 : Int32) (s1 : Nat) : ww (mp_P fx) d 107 25 ls [.int s0, .ref s1] h Q ↔ ww (mp_P fx) d 107 27 ls [.int 6, .int s0, .ref s1] h Q := wr_bipush (i := 6) rfl
theorem q107_27 (ls : mm_V) (s0 : Int32) (s1 : Int32) (s2 : Nat) : ww (mp_P fx) d 107 27 ls [.int s0, .int s1, .ref s2] h Q ↔ ww (mp_P fx) d 107 28 ls [.int (s1 * s0), .ref s2] h Q := wr_imul rfl
theorem q107_28 (l0 : Option Value) (l1 : Option Value) (l3 : Option Value) (x : Int32) (s0 : Int32) (s1 : Nat) : ww (mp_P fx) d 107 28 [l0, l1, some (.int x), l3] [.int s0, .ref s1] h Q ↔ ww (mp_P fx) d 107 29 [l0, l1, some (.int x), l3] [.int x, .int s0, .ref s1] h Q := ww_step rfl
theorem q107_29 (l0 : Option Value) (l1 : Option Value) (l2 : Option Value) (x : Int32) (s0 : Int32) (s1 : Int32) (s2 : Nat) : ww (mp_P fx) d 107 29 [l0, l1, l2, some (.int x)] [.int s0, .int s1, .ref s2] h Q ↔ ww (mp_P fx) d 107 30 [l0, l1, l2, some (.int x)] [.int x, .int s0, .int s1, .ref s2] h Q := ww_step rfl
theorem q107_30 (ls : mm_V) (s0 : Int32) (s1 : Int32) (s2 : Int32) (s3 : Nat) : ww (mp_P fx) d 107 30 ls [.int s0, .int s1, .int s2, .ref s3] h Q ↔ (if s0 = 0 then False else ww (mp_P fx) d 107 31 ls [.int (s1 - s1 / s0 * s0), .int s2, .ref s3] h Q) := wr_irem rfl
theorem q107_31 (ls : mm_V) (s0 : Int32) (s1 : Int32) (s2 : Nat) : ww (mp_P fx) d 107 31 ls [.int s0, .int s1, .ref s2] h Q ↔ ww (mp_P fx) d 107 32 ls [.int (s1 + s0), .ref s2] h Q := wr_iadd rfl
theorem q107_32 (ls : mm_V) (s0 : Int32) (s1 : Nat) : ww (mp_P fx) d 107 32 ls [.int s0, .ref s1] h Q ↔ ∃ x, mm_gI h s1 0 9 s0 = some x ∧ ww (mp_P fx) d 107 33 ls [.int x] h Q := wr_iaload rfl
theorem q107_33 (ls : mm_V) (s0 : Int32) : ww (mp_P fx) d 107 33 ls [.int s0] h Q ↔ Q (some (.int s0)) h := wr_ireturn rfl rfl
theorem e107 (a0 : Nat) (a1 : Int32) (a2 : Int32) : wm (mp_P fx) d 107 [.ref a0, .int a1, .int a2] h Q ↔ ww (mp_P fx) d 107 0 [some (.ref a0), some (.int a1), some (.int a2), none] [] h Q := Iff.rfl
/- 126 RainGrammar$Scene.goOn.(LRainGrammar$Square;)V -/
theorem q126_0 (ls : mm_V) : ww (mp_P fx) d 126 0 ls [] h Q ↔ ww (mp_P fx) d 126 1 ls [.int 0] h Q := wr_iconst (i := 0) rfl
theorem q126_1 (l0 : Option Value) (l1 : Option Value) (l2 : Option Value) (s0 : Int32) (hl : mm_isL l1 = false) : ww (mp_P fx) d 126 1 [l0, l1, l2] [.int s0] h Q ↔ ww (mp_P fx) d 126 2 [l0, l1, some (.int s0)] [] h Q := wr_istore_n rfl (mm_s1_ok (Nat.le_of_ble_eq_true rfl) (by show (_ || !mm_isL l1) = true; rw [hl]; rfl))
theorem q126_2 (l0 : Option Value) (l1 : Option Value) (x : Int32) : ww (mp_P fx) d 126 2 [l0, l1, some (.int x)] [] h Q ↔ ww (mp_P fx) d 126 3 [l0, l1, some (.int x)] [.int x] h Q := ww_step rfl
theorem q126_3 (l0 : Option Value) (l2 : Option Value) (x : Nat) (s0 : Int32) : ww (mp_P fx) d 126 3 [l0, some (.ref x), l2] [.int s0] h Q ↔ ww (mp_P fx) d 126 4 [l0, some (.ref x), l2] [.ref x, .int s0] h Q := ww_step rfl
theorem q126_4 (ls : mm_V) (s0 : Nat) (s1 : Int32) : ww (mp_P fx) d 126 4 ls [.ref s0, .int s1] h Q ↔ ∃ x, mm_gF h s0 8 16 = some x ∧ ww (mp_P fx) d 126 7 ls [x, .int s1] h Q := wr_getfield (n := 816) rfl
theorem q126_7 (ls : mm_V) (s0 : Int32) (s1 : Int32) : ww (mp_P fx) d 126 7 ls [.int s0, .int s1] h Q ↔ (if s0 ≤ s1 then ww (mp_P fx) d 126 40 ls [] h Q else ww (mp_P fx) d 126 10 ls [] h Q) := wr_icmp_ge (t := 40) rfl
theorem q126_10 (l1 : Option Value) (l2 : Option Value) (x : Nat) : ww (mp_P fx) d 126 10 [some (.ref x), l1, l2] [] h Q ↔ ww (mp_P fx) d 126 11 [some (.ref x), l1, l2] [.ref x] h Q := ww_step rfl
theorem q126_11 (ls : mm_V) (s0 : Nat) : ww (mp_P fx) d 126 11 ls [.ref s0] h Q ↔ ∃ x, mm_gF h s0 2 2 = some x ∧ ww (mp_P fx) d 126 14 ls [x] h Q := wr_getfield (n := 202) rfl
theorem q126_14 (l0 : Option Value) (l1 : Option Value) (x : Int32) (s0 : Nat) : ww (mp_P fx) d 126 14 [l0, l1, some (.int x)] [.ref s0] h Q ↔ ww (mp_P fx) d 126 15 [l0, l1, some (.int x)] [.int x, .ref s0] h Q := ww_step rfl
theorem q126_15 (l1 : Option Value) (l2 : Option Value) (x : Nat) (s0 : Int32) (s1 : Nat) : ww (mp_P fx) d 126 15 [some (.ref x), l1, l2] [.int s0, .ref s1] h Q ↔ ww (mp_P fx) d 126 16 [some (.ref x), l1, l2] [.ref x, .int s0, .ref s1] h Q := ww_step rfl
theorem q126_16 (ls : mm_V) (s0 : Nat) (s1 : Int32) (s2 : Nat) : ww (mp_P fx) d 126 16 ls [.ref s0, .int s1, .ref s2] h Q ↔ ∃ x, mm_gF h s0 2 2 = some x ∧ ww (mp_P fx) d 126 19 ls [x, .int s1, .ref s2] h Q := wr_getfield (n := 202) rfl
theorem q126_19 (l0 : Option Value) (l1 : Option Value) (x : Int32) (s0 : Nat) (s1 : Int32) (s2 : Nat) : ww (mp_P fx) d 126 19 [l0, l1, some (.int x)] [.ref s0, .int s1, .ref s2] h Q ↔ ww (mp_P fx) d 126 20 [l0, l1, some (.int x)] [.int x, .ref s0, .int s1, .ref s2] h Q := ww_step rfl
theorem q126_20 (ls : mm_V) (s0 : Int32) (s1 : Nat) (s2 : Int32) (s3 : Nat) : ww (mp_P fx) d 126 20 ls [.int s0, .ref s1, .int s2, .ref s3] h Q ↔ ∃ x, mm_gI h s1 0 9 s0 = some x ∧ ww (mp_P fx) d 126 21 ls [.int x, .int s2, .ref s3] h Q := wr_iaload rfl
theorem q126_21 (l0 : Option Value) (l2 : Option Value) (x : Nat) (s0 : Int32) (s1 : Int32) (s2 : Nat) : ww (mp_P fx) d 126 21 [l0, some (.ref x), l2] [.int s0, .int s1, .ref s2] h Q ↔ ww (mp_P fx) d 126 22 [l0, some (.ref x), l2] [.ref x, .int s0, .int s1, .ref s2] h Q := ww_step rfl
theorem q126_22 (l0 : Option Value) (l1 : Option Value) (x : Int32) (s0 : Nat) (s1 : Int32) (s2 : Int32) (s3 : Nat) : ww (mp_P fx) d 126 22 [l0, l1, some (.int x)] [.ref s0, .int s1, .int s2, .ref s3] h Q ↔ ww (mp_P fx) d 126 23 [l0, l1, some (.int x)] [.int x, .ref s0, .int s1, .int s2, .ref s3] h Q := ww_step rfl
theorem q126_23 (l1 : Option Value) (l2 : Option Value) (x : Nat) (s0 : Int32) (s1 : Nat) (s2 : Int32) (s3 : Int32) (s4 : Nat) : ww (mp_P fx) d 126 23 [some (.ref x), l1, l2] [.int s0, .ref s1, .int s2, .int s3, .ref s4] h Q ↔ ww (mp_P fx) d 126 24 [some (.ref x), l1, l2] [.ref x, .int s0, .ref s1, .int s2, .int s3, .ref s4] h Q := ww_step rfl
theorem q126_24 (ls : mm_V) (s0 : Nat) (s1 : Int32) (s2 : Nat) (s3 : Int32) (s4 : Int32) (s5 : Nat) : ww (mp_P fx) d 126 24 ls [.ref s0, .int s1, .ref s2, .int s3, .int s4, .ref s5] h Q ↔ ∃ x, mm_gF h s0 2 0 = some x ∧ ww (mp_P fx) d 126 27 ls [x, .int s1, .ref s2, .int s3, .int s4, .ref s5] h Q := wr_getfield (n := 200) rfl
theorem q126_27 (ls : mm_V) (s0 : Int32) (s1 : Int32) (s2 : Nat) (s3 : Int32) (s4 : Int32) (s5 : Nat) (hc : mm_cls h s2 = 8) : ww (mp_P fx) (d + 1) 126 27 ls [.int s0, .int s1, .ref s2, .int s3, .int s4, .ref s5] h Q ↔ wm (mp_P fx) d 107 [.ref s2, .int s1, .int s0] h (fun r h' => ww (mp_P fx) (d + 1) 126 30 ls (r.toList ++ [.int s3, .int s4, .ref s5]) h' Q) := wr_virtual rfl (mm_recv_ok (n := 2) (rc := 8) ⟨rfl, rfl⟩ rfl hc (by decide)) rfl
theorem q126_30 (ls : mm_V) (s0 : Int32) (s1 : Int32) (s2 : Int32) (s3 : Nat) : ww (mp_P fx) (d + 1) 126 30 ls [.int s0, .int s1, .int s2, .ref s3] h Q ↔ wm (mp_P fx) d 127 [.int s1, .int s0] h (fun r h' => ww (mp_P fx) (d + 1) 126 33 ls (r.toList ++ [.int s2, .ref s3]) h' Q) := wr_static rfl rfl
theorem q126_33 (ls : mm_V) (s0 : Int32) (s1 : Int32) (s2 : Nat) : ww (mp_P fx) d 126 33 ls [.int s0, .int s1, .ref s2] h Q ↔ ∃ h', mm_sI h s2 0 s1 s0 = some h' ∧ ww (mp_P fx) d 126 34 ls [] h' Q := wr_iastore rfl
theorem q126_34 (l0 : Option Value) (l1 : Option Value) (x : Int32) (hl : mm_isL l1 = false) : ww (mp_P fx) d 126 34 [l0, l1, some (.int x)] [] h Q ↔ ww (mp_P fx) d 126 37 [l0, l1, some (.int (x + 1))] [] h Q := wr_iinc (n := 2) (i := 1) rfl rfl (mm_s1_ok (Nat.le_of_ble_eq_true rfl) (by show (_ || !mm_isL l1) = true; rw [hl]; rfl))
theorem q126_37 (ls : mm_V) : ww (mp_P fx) d 126 37 ls [] h Q ↔ ww (mp_P fx) d 126 2 ls [] h Q := wr_goto (t := 2) rfl
theorem q126_40 (l1 : Option Value) (l2 : Option Value) (x : Nat) : ww (mp_P fx) d 126 40 [some (.ref x), l1, l2] [] h Q ↔ ww (mp_P fx) d 126 41 [some (.ref x), l1, l2] [.ref x] h Q := ww_step rfl
theorem q126_41 (ls : mm_V) (s0 : Nat) : ww (mp_P fx) d 126 41 ls [.ref s0] h Q ↔ ww (mp_P fx) d 126 42 ls [.ref s0, .ref s0] h Q := ww_step rfl
theorem q126_42 (ls : mm_V) (s0 : Nat) (s1 : Nat) : ww (mp_P fx) d 126 42 ls [.ref s0, .ref s1] h Q ↔ ∃ x, mm_gF h s0 2 0 = some x ∧ ww (mp_P fx) d 126 45 ls [x, .ref s1] h Q := wr_getfield (n := 200) rfl
theorem q126_45 (ls : mm_V) (s0 : Int32) (s1 : Nat) : ww (mp_P fx) d 126 45 ls [.int s0, .ref s1] h Q ↔ ww (mp_P fx) d 126 46 ls [.int 1, .int s0, .ref s1] h Q := wr_iconst (i := 1) rfl
theorem q126_46 (ls : mm_V) (s0 : Int32) (s1 : Int32) (s2 : Nat) : ww (mp_P fx) d 126 46 ls [.int s0, .int s1, .ref s2] h Q ↔ ww (mp_P fx) d 126 47 ls [.int (s1 + s0), .ref s2] h Q := wr_iadd rfl
theorem q126_47 (ls : mm_V) (s0 : Int32) (s1 : Nat) : ww (mp_P fx) d 126 47 ls [.int s0, .ref s1] h Q ↔ ∃ h', mm_sF (mp_P fx) h s1 2 0 (.int s0) = some h' ∧ ww (mp_P fx) d 126 50 ls [] h' Q := wr_putfield (n := 200) rfl
theorem q126_50 (ls : mm_V) : ww (mp_P fx) d 126 50 ls [] h Q ↔ Q none h := wr_return rfl rfl
theorem e126 (a0 : Nat) (a1 : Nat) : wm (mp_P fx) d 126 [.ref a0, .ref a1] h Q ↔ ww (mp_P fx) d 126 0 [some (.ref a0), some (.ref a1), none] [] h Q := Iff.rfl
/- 137 RainGrammar$Scene.canStep.(II)Z -/
theorem q137_0 (l1 : Option Value) (l2 : Option Value) (x : Nat) : ww (mp_P fx) d 137 0 [some (.ref x), l1, l2] [] h Q ↔ ww (mp_P fx) d 137 1 [some (.ref x), l1, l2] [.ref x] h Q := ww_step rfl
theorem q137_1 (ls : mm_V) (s0 : Nat) : ww (mp_P fx) d 137 1 ls [.ref s0] h Q ↔ ∃ x, mm_gF h s0 2 2 = some x ∧ ww (mp_P fx) d 137 4 ls [x] h Q := wr_getfield (n := 202) rfl
theorem q137_4 (l0 : Option Value) (l2 : Option Value) (x : Int32) (s0 : Nat) : ww (mp_P fx) d 137 4 [l0, some (.int x), l2] [.ref s0] h Q ↔ ww (mp_P fx) d 137 5 [l0, some (.int x), l2] [.int x, .ref s0] h Q := ww_step rfl
theorem q137_5 (ls : mm_V) (s0 : Int32) (s1 : Nat) : ww (mp_P fx) d 137 5 ls [.int s0, .ref s1] h Q ↔ ∃ x, mm_gI h s1 0 9 s0 = some x ∧ ww (mp_P fx) d 137 6 ls [.int x] h Q := wr_iaload rfl
theorem q137_6 (l0 : Option Value) (l1 : Option Value) (x : Int32) (s0 : Int32) : ww (mp_P fx) d 137 6 [l0, l1, some (.int x)] [.int s0] h Q ↔ ww (mp_P fx) d 137 7 [l0, l1, some (.int x)] [.int x, .int s0] h Q := ww_step rfl
theorem q137_7 (ls : mm_V) (s0 : Int32) (s1 : Int32) : ww (mp_P fx) (d + 1) 137 7 ls [.int s0, .int s1] h Q ↔ wm (mp_P fx) d 127 [.int s1, .int s0] h (fun r h' => ww (mp_P fx) (d + 1) 137 10 ls (r.toList ++ []) h' Q) := wr_static rfl rfl
theorem q137_10 (l1 : Option Value) (l2 : Option Value) (x : Nat) (s0 : Int32) : ww (mp_P fx) d 137 10 [some (.ref x), l1, l2] [.int s0] h Q ↔ ww (mp_P fx) d 137 11 [some (.ref x), l1, l2] [.ref x, .int s0] h Q := ww_step rfl
theorem q137_11 (ls : mm_V) (s0 : Nat) (s1 : Int32) : ww (mp_P fx) d 137 11 ls [.ref s0, .int s1] h Q ↔ ∃ x, mm_gF h s0 2 2 = some x ∧ ww (mp_P fx) d 137 14 ls [x, .int s1] h Q := wr_getfield (n := 202) rfl
theorem q137_14 (l0 : Option Value) (l2 : Option Value) (x : Int32) (s0 : Nat) (s1 : Int32) : ww (mp_P fx) d 137 14 [l0, some (.int x), l2] [.ref s0, .int s1] h Q ↔ ww (mp_P fx) d 137 15 [l0, some (.int x), l2] [.int x, .ref s0, .int s1] h Q := ww_step rfl
theorem q137_15 (ls : mm_V) (s0 : Int32) (s1 : Nat) (s2 : Int32) : ww (mp_P fx) d 137 15 ls [.int s0, .ref s1, .int s2] h Q ↔ ∃ x, mm_gI h s1 0 9 s0 = some x ∧ ww (mp_P fx) d 137 16 ls [.int x, .int s2] h Q := wr_iaload rfl
theorem q137_16 (ls : mm_V) (s0 : Int32) (s1 : Int32) : ww (mp_P fx) d 137 16 ls [.int s0, .int s1] h Q ↔ (if s1 = s0 then ww (mp_P fx) d 137 23 ls [] h Q else ww (mp_P fx) d 137 19 ls [] h Q) := wr_icmp_eq (t := 23) rfl
theorem q137_19 (ls : mm_V) : ww (mp_P fx) d 137 19 ls [] h Q ↔ ww (mp_P fx) d 137 20 ls [.int 1] h Q := wr_iconst (i := 1) rfl
theorem q137_20 (ls : mm_V) (s0 : Int32) : ww (mp_P fx) d 137 20 ls [.int s0] h Q ↔ ww (mp_P fx) d 137 24 ls [.int s0] h Q := wr_goto (t := 24) rfl
theorem q137_23 (ls : mm_V) : ww (mp_P fx) d 137 23 ls [] h Q ↔ ww (mp_P fx) d 137 24 ls [.int 0] h Q := wr_iconst (i := 0) rfl
theorem q137_24 (ls : mm_V) (s0 : Int32) (hb : mm_ret (mp_sig 137).2.2.2 (.int s0) = true) : ww (mp_P fx) d 137 24 ls [.int s0] h Q ↔ Q (some (.int s0)) h := wr_ireturn rfl hb
theorem b137_0 : mm_ret (mp_sig 137).2.2.2 (.int 0) = true := by decide +kernel
theorem b137_1 : mm_ret (mp_sig 137).2.2.2 (.int 1) = true := by decide +kernel
theorem e137 (a0 : Nat) (a1 : Int32) (a2 : Int32) : wm (mp_P fx) d 137 [.ref a0, .int a1, .int a2] h Q ↔ ww (mp_P fx) d 137 0 [some (.ref a0), some (.int a1), some (.int a2)] [] h Q := Iff.rfl
/- 138 RainGrammar$Scene.stepAside.(II)V -/
theorem q138_0 (l1 : Option Value) (l2 : Option Value) (x : Nat) : ww (mp_P fx) d 138 0 [some (.ref x), l1, l2] [] h Q ↔ ww (mp_P fx) d 138 1 [some (.ref x), l1, l2] [.ref x] h Q := ww_step rfl
theorem q138_1 (ls : mm_V) (s0 : Nat) : ww (mp_P fx) d 138 1 ls [.ref s0] h Q ↔ ∃ x, mm_gF h s0 2 2 = some x ∧ ww (mp_P fx) d 138 4 ls [x] h Q := wr_getfield (n := 202) rfl
theorem q138_4 (l0 : Option Value) (l2 : Option Value) (x : Int32) (s0 : Nat) : ww (mp_P fx) d 138 4 [l0, some (.int x), l2] [.ref s0] h Q ↔ ww (mp_P fx) d 138 5 [l0, some (.int x), l2] [.int x, .ref s0] h Q := ww_step rfl
theorem q138_5 (l1 : Option Value) (l2 : Option Value) (x : Nat) (s0 : Int32) (s1 : Nat) : ww (mp_P fx) d 138 5 [some (.ref x), l1, l2] [.int s0, .ref s1] h Q ↔ ww (mp_P fx) d 138 6 [some (.ref x), l1, l2] [.ref x, .int s0, .ref s1] h Q := ww_step rfl
theorem q138_6 (ls : mm_V) (s0 : Nat) (s1 : Int32) (s2 : Nat) : ww (mp_P fx) d 138 6 ls [.ref s0, .int s1, .ref s2] h Q ↔ ∃ x, mm_gF h s0 2 2 = some x ∧ ww (mp_P fx) d 138 9 ls [x, .int s1, .ref s2] h Q := wr_getfield (n := 202) rfl
theorem q138_9 (l0 : Option Value) (l2 : Option Value) (x : Int32) (s0 : Nat) (s1 : Int32) (s2 : Nat) : ww (mp_P fx) d 138 9 [l0, some (.int x), l2] [.ref s0, .int s1, .ref s2] h Q ↔ ww (mp_P fx) d 138 10 [l0, some (.int x), l2] [.int x, .ref s0, .int s1, .ref s2] h Q := ww_step rfl
theorem q138_10 (ls : mm_V) (s0 : Int32) (s1 : Nat) (s2 : Int32) (s3 : Nat) : ww (mp_P fx) d 138 10 ls [.int s0, .ref s1, .int s2, .ref s3] h Q ↔ ∃ x, mm_gI h s1 0 9 s0 = some x ∧ ww (mp_P fx) d 138 11 ls [.int x, .int s2, .ref s3] h Q := wr_iaload rfl
theorem q138_11 (l0 : Option Value) (l1 : Option Value) (x : Int32) (s0 : Int32) (s1 : Int32) (s2 : Nat) : ww (mp_P fx) d 138 11 [l0, l1, some (.int x)] [.int s0, .int s1, .ref s2] h Q ↔ ww (mp_P fx) d 138 12 [l0, l1, some (.int x)] [.int x, .int s0, .int s1, .ref s2] h Q := ww_step rfl
theorem q138_12 (ls : mm_V) (s0 : Int32) (s1 : Int32) (s2 : Int32) (s3 : Nat) : ww (mp_P fx) (d + 1) 138 12 ls [.int s0, .int s1, .int s2, .ref s3] h Q ↔ wm (mp_P fx) d 127 [.int s1, .int s0] h (fun r h' => ww (mp_P fx) (d + 1) 138 15 ls (r.toList ++ [.int s2, .ref s3]) h' Q) := wr_static rfl rfl
theorem q138_15 (ls : mm_V) (s0 : Int32) (s1 : Int32) (s2 : Nat) : ww (mp_P fx) d 138 15 ls [.int s0, .int s1, .ref s2] h Q ↔ ∃ h', mm_sI h s2 0 s1 s0 = some h' ∧ ww (mp_P fx) d 138 16 ls [] h' Q := wr_iastore rfl
theorem q138_16 (ls : mm_V) : ww (mp_P fx) d 138 16 ls [] h Q ↔ Q none h := wr_return rfl rfl
theorem e138 (a0 : Nat) (a1 : Int32) (a2 : Int32) : wm (mp_P fx) d 138 [.ref a0, .int a1, .int a2] h Q ↔ ww (mp_P fx) d 138 0 [some (.ref a0), some (.int a1), some (.int a2)] [] h Q := Iff.rfl
/- 140 RainGrammar$Scene.close.(I)V -/
theorem q140_0 (l1 : Option Value) (x : Nat) : ww (mp_P fx) d 140 0 [some (.ref x), l1] [] h Q ↔ ww (mp_P fx) d 140 1 [some (.ref x), l1] [.ref x] h Q := ww_step rfl
theorem q140_1 (ls : mm_V) (s0 : Nat) : ww (mp_P fx) d 140 1 ls [.ref s0] h Q ↔ ww (mp_P fx) d 140 2 ls [.ref s0, .ref s0] h Q := ww_step rfl
theorem q140_2 (ls : mm_V) (s0 : Nat) (s1 : Nat) : ww (mp_P fx) d 140 2 ls [.ref s0, .ref s1] h Q ↔ ∃ x, mm_gF h s0 2 1 = some x ∧ ww (mp_P fx) d 140 5 ls [x, .ref s1] h Q := wr_getfield (n := 201) rfl
theorem q140_5 (ls : mm_V) (s0 : Int32) (s1 : Nat) : ww (mp_P fx) d 140 5 ls [.int s0, .ref s1] h Q ↔ ww (mp_P fx) d 140 6 ls [.int 1, .int s0, .ref s1] h Q := wr_iconst (i := 1) rfl
theorem q140_6 (l0 : Option Value) (x : Int32) (s0 : Int32) (s1 : Int32) (s2 : Nat) : ww (mp_P fx) d 140 6 [l0, some (.int x)] [.int s0, .int s1, .ref s2] h Q ↔ ww (mp_P fx) d 140 7 [l0, some (.int x)] [.int x, .int s0, .int s1, .ref s2] h Q := ww_step rfl
theorem q140_7 (ls : mm_V) (s0 : Int32) (s1 : Int32) (s2 : Int32) (s3 : Nat) : ww (mp_P fx) d 140 7 ls [.int s0, .int s1, .int s2, .ref s3] h Q ↔ ww (mp_P fx) d 140 8 ls [.int (s1 <<< (s0 &&& 31)), .int s2, .ref s3] h Q := wr_ishl rfl
theorem q140_8 (ls : mm_V) (s0 : Int32) (s1 : Int32) (s2 : Nat) : ww (mp_P fx) d 140 8 ls [.int s0, .int s1, .ref s2] h Q ↔ ww (mp_P fx) d 140 9 ls [.int (-1), .int s0, .int s1, .ref s2] h Q := wr_iconst (i := (-1)) rfl
theorem q140_9 (ls : mm_V) (s0 : Int32) (s1 : Int32) (s2 : Int32) (s3 : Nat) : ww (mp_P fx) d 140 9 ls [.int s0, .int s1, .int s2, .ref s3] h Q ↔ ww (mp_P fx) d 140 10 ls [.int (s1 ^^^ s0), .int s2, .ref s3] h Q := wr_ixor rfl
theorem q140_10 (ls : mm_V) (s0 : Int32) (s1 : Int32) (s2 : Nat) : ww (mp_P fx) d 140 10 ls [.int s0, .int s1, .ref s2] h Q ↔ ww (mp_P fx) d 140 11 ls [.int (s1 &&& s0), .ref s2] h Q := wr_iand rfl
theorem q140_11 (ls : mm_V) (s0 : Int32) (s1 : Nat) : ww (mp_P fx) d 140 11 ls [.int s0, .ref s1] h Q ↔ ∃ h', mm_sF (mp_P fx) h s1 2 1 (.int s0) = some h' ∧ ww (mp_P fx) d 140 14 ls [] h' Q := wr_putfield (n := 201) rfl
theorem q140_14 (ls : mm_V) : ww (mp_P fx) d 140 14 ls [] h Q ↔ Q none h := wr_return rfl rfl
theorem e140 (a0 : Nat) (a1 : Int32) : wm (mp_P fx) d 140 [.ref a0, .int a1] h Q ↔ ww (mp_P fx) d 140 0 [some (.ref a0), some (.int a1)] [] h Q := Iff.rfl
/- 142 RainGrammar$Scene.putUp.(I)V -/
theorem q142_0 (l1 : Option Value) (x : Nat) : ww (mp_P fx) d 142 0 [some (.ref x), l1] [] h Q ↔ ww (mp_P fx) d 142 1 [some (.ref x), l1] [.ref x] h Q := ww_step rfl
theorem q142_1 (ls : mm_V) (s0 : Nat) : ww (mp_P fx) d 142 1 ls [.ref s0] h Q ↔ ww (mp_P fx) d 142 2 ls [.ref s0, .ref s0] h Q := ww_step rfl
theorem q142_2 (ls : mm_V) (s0 : Nat) (s1 : Nat) : ww (mp_P fx) d 142 2 ls [.ref s0, .ref s1] h Q ↔ ∃ x, mm_gF h s0 2 1 = some x ∧ ww (mp_P fx) d 142 5 ls [x, .ref s1] h Q := wr_getfield (n := 201) rfl
theorem q142_5 (ls : mm_V) (s0 : Int32) (s1 : Nat) : ww (mp_P fx) d 142 5 ls [.int s0, .ref s1] h Q ↔ ww (mp_P fx) d 142 6 ls [.int 1, .int s0, .ref s1] h Q := wr_iconst (i := 1) rfl
theorem q142_6 (l0 : Option Value) (x : Int32) (s0 : Int32) (s1 : Int32) (s2 : Nat) : ww (mp_P fx) d 142 6 [l0, some (.int x)] [.int s0, .int s1, .ref s2] h Q ↔ ww (mp_P fx) d 142 7 [l0, some (.int x)] [.int x, .int s0, .int s1, .ref s2] h Q := ww_step rfl
theorem q142_7 (ls : mm_V) (s0 : Int32) (s1 : Int32) (s2 : Int32) (s3 : Nat) : ww (mp_P fx) d 142 7 ls [.int s0, .int s1, .int s2, .ref s3] h Q ↔ ww (mp_P fx) d 142 8 ls [.int (s1 <<< (s0 &&& 31)), .int s2, .ref s3] h Q := wr_ishl rfl
theorem q142_8 (ls : mm_V) (s0 : Int32) (s1 : Int32) (s2 : Nat) : ww (mp_P fx) d 142 8 ls [.int s0, .int s1, .ref s2] h Q ↔ ww (mp_P fx) d 142 9 ls [.int (s1 ||| s0), .ref s2] h Q := wr_ior rfl
theorem q142_9 (ls : mm_V) (s0 : Int32) (s1 : Nat) : ww (mp_P fx) d 142 9 ls [.int s0, .ref s1] h Q ↔ ∃ h', mm_sF (mp_P fx) h s1 2 1 (.int s0) = some h' ∧ ww (mp_P fx) d 142 12 ls [] h' Q := wr_putfield (n := 201) rfl
theorem q142_12 (ls : mm_V) : ww (mp_P fx) d 142 12 ls [] h Q ↔ Q none h := wr_return rfl rfl
theorem e142 (a0 : Nat) (a1 : Int32) : wm (mp_P fx) d 142 [.ref a0, .int a1] h Q ↔ ww (mp_P fx) d 142 0 [some (.ref a0), some (.int a1)] [] h Q := Iff.rfl
/- 118 RainGrammar$Square.gustOf.(I)I -/
theorem q118_0 (l1 : Option Value) (x : Nat) : ww (mp_P fx) d 118 0 [some (.ref x), l1] [] h Q ↔ ww (mp_P fx) d 118 1 [some (.ref x), l1] [.ref x] h Q := ww_step rfl
theorem q118_1 (ls : mm_V) (s0 : Nat) : ww (mp_P fx) d 118 1 ls [.ref s0] h Q ↔ ∃ x, mm_gF h s0 8 18 = some x ∧ ww (mp_P fx) d 118 4 ls [x] h Q := wr_getfield (n := 818) rfl
theorem q118_4 (ls : mm_V) (s0 : Int32) : ww (mp_P fx) d 118 4 ls [.int s0] h Q ↔ ww (mp_P fx) d 118 5 ls [.int 1, .int s0] h Q := wr_iconst (i := 1) rfl
theorem q118_5 (ls : mm_V) (s0 : Int32) (s1 : Int32) : ww (mp_P fx) d 118 5 ls [.int s0, .int s1] h Q ↔ (if s1 < s0 then ww (mp_P fx) d 118 12 ls [] h Q else ww (mp_P fx) d 118 8 ls [] h Q) := wr_icmp_lt (t := 12) rfl
theorem q118_8 (l0 : Option Value) (x : Int32) : ww (mp_P fx) d 118 8 [l0, some (.int x)] [] h Q ↔ ww (mp_P fx) d 118 9 [l0, some (.int x)] [.int x] h Q := ww_step rfl
theorem q118_9 (ls : mm_V) (s0 : Int32) : ww (mp_P fx) d 118 9 ls [.int s0] h Q ↔ (if 0 ≤ s0 then ww (mp_P fx) d 118 17 ls [] h Q else ww (mp_P fx) d 118 12 ls [] h Q) := wr_if_ge (t := 17) rfl
theorem q118_12 (ls : mm_V) : ww (mp_P fx) d 118 12 ls [] h Q ↔ ww (mp_P fx) d 118 14 ls [.int 10] h Q := wr_bipush (i := 10) rfl
theorem q118_14 (ls : mm_V) (s0 : Int32) : ww (mp_P fx) d 118 14 ls [.int s0] h Q ↔ ww (mp_P fx) d 118 28 ls [.int s0] h Q := wr_goto (t := 28) rfl
theorem q118_17 (l1 : Option Value) (x : Nat) : ww (mp_P fx) d 118 17 [some (.ref x), l1] [] h Q ↔ ww (mp_P fx) d 118 18 [some (.ref x), l1] [.ref x] h Q := ww_step rfl
theorem q118_18 (ls : mm_V) (s0 : Nat) : ww (mp_P fx) d 118 18 ls [.ref s0] h Q ↔ ∃ x, mm_gF h s0 8 17 = some x ∧ ww (mp_P fx) d 118 21 ls [x] h Q := wr_getfield (n := 817) rfl
theorem q118_21 (l0 : Option Value) (x : Int32) (s0 : Nat) : ww (mp_P fx) d 118 21 [l0, some (.int x)] [.ref s0] h Q ↔ ww (mp_P fx) d 118 22 [l0, some (.int x)] [.int x, .ref s0] h Q := ww_step rfl
theorem q118_22 (l1 : Option Value) (x : Nat) (s0 : Int32) (s1 : Nat) : ww (mp_P fx) d 118 22 [some (.ref x), l1] [.int s0, .ref s1] h Q ↔ ww (mp_P fx) d 118 23 [some (.ref x), l1] [.ref x, .int s0, .ref s1] h Q := ww_step rfl
theorem q118_23 (ls : mm_V) (s0 : Nat) (s1 : Int32) (s2 : Nat) : ww (mp_P fx) d 118 23 ls [.ref s0, .int s1, .ref s2] h Q ↔ ∃ x, mm_gF h s0 8 18 = some x ∧ ww (mp_P fx) d 118 26 ls [x, .int s1, .ref s2] h Q := wr_getfield (n := 818) rfl
theorem q118_26 (ls : mm_V) (s0 : Int32) (s1 : Int32) (s2 : Nat) : ww (mp_P fx) d 118 26 ls [.int s0, .int s1, .ref s2] h Q ↔ (if s0 = 0 then False else ww (mp_P fx) d 118 27 ls [.int (s1 - s1 / s0 * s0), .ref s2] h Q) := wr_irem rfl
theorem q118_27 (ls : mm_V) (s0 : Int32) (s1 : Nat) : ww (mp_P fx) d 118 27 ls [.int s0, .ref s1] h Q ↔ ∃ x, mm_gI h s1 0 9 s0 = some x ∧ ww (mp_P fx) d 118 28 ls [.int x] h Q := wr_iaload rfl
theorem q118_28 (ls : mm_V) (s0 : Int32) : ww (mp_P fx) d 118 28 ls [.int s0] h Q ↔ Q (some (.int s0)) h := wr_ireturn rfl rfl
theorem e118 (a0 : Nat) (a1 : Int32) : wm (mp_P fx) d 118 [.ref a0, .int a1] h Q ↔ ww (mp_P fx) d 118 0 [some (.ref a0), some (.int a1)] [] h Q := Iff.rfl
/- 120 RainGrammar$Square.shownBy.(I)I -/
theorem q120_0 (l1 : Option Value) (l2 : Option Value) (x : Nat) : ww (mp_P fx) d 120 0 [some (.ref x), l1, l2] [] h Q ↔ ww (mp_P fx) d 120 1 [some (.ref x), l1, l2] [.ref x] h Q := ww_step rfl
theorem q120_1 (ls : mm_V) (s0 : Nat) : ww (mp_P fx) d 120 1 ls [.ref s0] h Q ↔ ∃ x, mm_gF h s0 8 12 = some x ∧ ww (mp_P fx) d 120 4 ls [x] h Q := wr_getfield (n := 812) rfl
theorem q120_4 (l0 : Option Value) (l2 : Option Value) (x : Int32) (s0 : Nat) : ww (mp_P fx) d 120 4 [l0, some (.int x), l2] [.ref s0] h Q ↔ ww (mp_P fx) d 120 5 [l0, some (.int x), l2] [.int x, .ref s0] h Q := ww_step rfl
theorem q120_5 (ls : mm_V) (s0 : Int32) (s1 : Nat) : ww (mp_P fx) d 120 5 ls [.int s0, .ref s1] h Q ↔ ∃ x, mm_gI h s1 0 9 s0 = some x ∧ ww (mp_P fx) d 120 6 ls [.int x] h Q := wr_iaload rfl
theorem q120_6 (l0 : Option Value) (l1 : Option Value) (l2 : Option Value) (s0 : Int32) (hl : mm_isL l1 = false) : ww (mp_P fx) d 120 6 [l0, l1, l2] [.int s0] h Q ↔ ww (mp_P fx) d 120 7 [l0, l1, some (.int s0)] [] h Q := wr_istore_n rfl (mm_s1_ok (Nat.le_of_ble_eq_true rfl) (by show (_ || !mm_isL l1) = true; rw [hl]; rfl))
theorem q120_7 (l1 : Option Value) (l2 : Option Value) (x : Nat) : ww (mp_P fx) d 120 7 [some (.ref x), l1, l2] [] h Q ↔ ww (mp_P fx) d 120 8 [some (.ref x), l1, l2] [.ref x] h Q := ww_step rfl
theorem q120_8 (ls : mm_V) (s0 : Nat) : ww (mp_P fx) d 120 8 ls [.ref s0] h Q ↔ ∃ x, mm_gF h s0 8 11 = some x ∧ ww (mp_P fx) d 120 11 ls [x] h Q := wr_getfield (n := 811) rfl
theorem q120_11 (l0 : Option Value) (l2 : Option Value) (x : Int32) (s0 : Nat) : ww (mp_P fx) d 120 11 [l0, some (.int x), l2] [.ref s0] h Q ↔ ww (mp_P fx) d 120 12 [l0, some (.int x), l2] [.int x, .ref s0] h Q := ww_step rfl
theorem q120_12 (ls : mm_V) (s0 : Int32) (s1 : Nat) : ww (mp_P fx) d 120 12 ls [.int s0, .ref s1] h Q ↔ ∃ x, mm_gI h s1 0 9 s0 = some x ∧ ww (mp_P fx) d 120 13 ls [.int x] h Q := wr_iaload rfl
theorem q120_13 (ls : mm_V) (s0 : Int32) : ww (mp_P fx) d 120 13 ls [.int s0] h Q ↔ ww (mp_P fx) d 120 14 ls [.int 1, .int s0] h Q := wr_iconst (i := 1) rfl
theorem q120_14 (ls : mm_V) (s0 : Int32) (s1 : Int32) : ww (mp_P fx) d 120 14 ls [.int s0, .int s1] h Q ↔ (if ¬ s1 = s0 then ww (mp_P fx) d 120 20 ls [] h Q else ww (mp_P fx) d 120 17 ls [] h Q) := wr_icmp_ne (t := 20) rfl
theorem q120_17 (ls : mm_V) : ww (mp_P fx) d 120 17 ls [] h Q ↔ ww (mp_P fx) d 120 19 ls [.int 6] h Q := wr_bipush (i := 6) rfl
theorem q120_19 (ls : mm_V) (s0 : Int32) : ww (mp_P fx) d 120 19 ls [.int s0] h Q ↔ Q (some (.int s0)) h := wr_ireturn rfl rfl
theorem q120_20 (l1 : Option Value) (l2 : Option Value) (x : Nat) : ww (mp_P fx) d 120 20 [some (.ref x), l1, l2] [] h Q ↔ ww (mp_P fx) d 120 21 [some (.ref x), l1, l2] [.ref x] h Q := ww_step rfl
theorem q120_21 (ls : mm_V) (s0 : Nat) : ww (mp_P fx) d 120 21 ls [.ref s0] h Q ↔ ∃ x, mm_gF h s0 8 11 = some x ∧ ww (mp_P fx) d 120 24 ls [x] h Q := wr_getfield (n := 811) rfl
theorem q120_24 (l0 : Option Value) (l2 : Option Value) (x : Int32) (s0 : Nat) : ww (mp_P fx) d 120 24 [l0, some (.int x), l2] [.ref s0] h Q ↔ ww (mp_P fx) d 120 25 [l0, some (.int x), l2] [.int x, .ref s0] h Q := ww_step rfl
theorem q120_25 (ls : mm_V) (s0 : Int32) (s1 : Nat) : ww (mp_P fx) d 120 25 ls [.int s0, .ref s1] h Q ↔ ∃ x, mm_gI h s1 0 9 s0 = some x ∧ ww (mp_P fx) d 120 26 ls [.int x] h Q := wr_iaload rfl
theorem q120_26 (ls : mm_V) (s0 : Int32) : ww (mp_P fx) d 120 26 ls [.int s0] h Q ↔ ww (mp_P fx) d 120 27 ls [.int 3, .int s0] h Q := wr_iconst (i := 3) rfl
theorem q120_27 (ls : mm_V) (s0 : Int32) (s1 : Int32) : ww (mp_P fx) d 120 27 ls [.int s0, .int s1] h Q ↔ (if ¬ s1 = s0 then ww (mp_P fx) d 120 48 ls [] h Q else ww (mp_P fx) d 120 30 ls [] h Q) := wr_icmp_ne (t := 48) rfl
theorem q120_30 (l0 : Option Value) (l1 : Option Value) (x : Int32) : ww (mp_P fx) d 120 30 [l0, l1, some (.int x)] [] h Q ↔ ww (mp_P fx) d 120 31 [l0, l1, some (.int x)] [.int x] h Q := ww_step rfl
theorem q120_31 (ls : mm_V) (s0 : Int32) : ww (mp_P fx) d 120 31 ls [.int s0] h Q ↔ ww (mp_P fx) d 120 32 ls [.int 1, .int s0] h Q := wr_iconst (i := 1) rfl
theorem q120_32 (ls : mm_V) (s0 : Int32) (s1 : Int32) : ww (mp_P fx) d 120 32 ls [.int s0, .int s1] h Q ↔ ww (mp_P fx) d 120 33 ls [.int (s1 + s0)] h Q := wr_iadd rfl
theorem q120_33 (l1 : Option Value) (l2 : Option Value) (x : Nat) (s0 : Int32) : ww (mp_P fx) d 120 33 [some (.ref x), l1, l2] [.int s0] h Q ↔ ww (mp_P fx) d 120 34 [some (.ref x), l1, l2] [.ref x, .int s0] h Q := ww_step rfl
theorem q120_34 (ls : mm_V) (s0 : Nat) (s1 : Int32) : ww (mp_P fx) d 120 34 ls [.ref s0, .int s1] h Q ↔ ∃ x, mm_gF h s0 8 4 = some x ∧ ww (mp_P fx) d 120 37 ls [x, .int s1] h Q := wr_getfield (n := 804) rfl
theorem q120_37 (ls : mm_V) (s0 : Int32) (s1 : Int32) : ww (mp_P fx) d 120 37 ls [.int s0, .int s1] h Q ↔ (if s0 ≤ s1 then ww (mp_P fx) d 120 46 ls [] h Q else ww (mp_P fx) d 120 40 ls [] h Q) := wr_icmp_ge (t := 46) rfl
theorem q120_40 (l0 : Option Value) (l1 : Option Value) (x : Int32) : ww (mp_P fx) d 120 40 [l0, l1, some (.int x)] [] h Q ↔ ww (mp_P fx) d 120 41 [l0, l1, some (.int x)] [.int x] h Q := ww_step rfl
theorem q120_41 (ls : mm_V) (s0 : Int32) : ww (mp_P fx) d 120 41 ls [.int s0] h Q ↔ ww (mp_P fx) d 120 42 ls [.int 1, .int s0] h Q := wr_iconst (i := 1) rfl
theorem q120_42 (ls : mm_V) (s0 : Int32) (s1 : Int32) : ww (mp_P fx) d 120 42 ls [.int s0, .int s1] h Q ↔ ww (mp_P fx) d 120 43 ls [.int (s1 + s0)] h Q := wr_iadd rfl
theorem q120_43 (ls : mm_V) (s0 : Int32) : ww (mp_P fx) d 120 43 ls [.int s0] h Q ↔ ww (mp_P fx) d 120 47 ls [.int s0] h Q := wr_goto (t := 47) rfl
theorem q120_46 (ls : mm_V) : ww (mp_P fx) d 120 46 ls [] h Q ↔ ww (mp_P fx) d 120 47 ls [.int 0] h Q := wr_iconst (i := 0) rfl
theorem q120_47 (ls : mm_V) (s0 : Int32) : ww (mp_P fx) d 120 47 ls [.int s0] h Q ↔ Q (some (.int s0)) h := wr_ireturn rfl rfl
theorem q120_48 (l0 : Option Value) (l1 : Option Value) (x : Int32) : ww (mp_P fx) d 120 48 [l0, l1, some (.int x)] [] h Q ↔ ww (mp_P fx) d 120 49 [l0, l1, some (.int x)] [.int x] h Q := ww_step rfl
theorem q120_49 (ls : mm_V) (s0 : Int32) : ww (mp_P fx) d 120 49 ls [.int s0] h Q ↔ Q (some (.int s0)) h := wr_ireturn rfl rfl
theorem e120 (a0 : Nat) (a1 : Int32) : wm (mp_P fx) d 120 [.ref a0, .int a1] h Q ↔ ww (mp_P fx) d 120 0 [some (.ref a0), some (.int a1), none] [] h Q := Iff.rfl
end RW
