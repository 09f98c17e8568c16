section RW
variable (fx : List Value → mm_H → Option (List Value × mm_H)) (d : Nat) (h : mm_H) (Q : Option Value → mm_H → Prop)
/- 23 java/lang/String.length.()I -/
theorem q23_0  (x : Nat) : ww (mp_P fx) d 23 0 [some (.ref x)] [] h Q ↔ ww (mp_P fx) d 23 1 [some (.ref x)] [.ref x] h Q := ww_step rfl
theorem q23_1 (ls : mm_V) (s0 : Nat) : ww (mp_P fx) d 23 1 ls [.ref s0] h Q ↔ ∃ x, mm_gF h s0 900 0 = some x ∧ ww (mp_P fx) d 23 4 ls [x] h Q := wr_getfield (n := 90000) rfl
theorem q23_4 (ls : mm_V) (s0 : Nat) : ww (mp_P fx) d 23 4 ls [.ref s0] h Q ↔ ∃ x, mm_gN h s0 = some x ∧ ww (mp_P fx) d 23 5 ls [.int x] h Q := wr_arraylength rfl
theorem q23_5  (x : Nat) (s0 : Int32) : ww (mp_P fx) d 23 5 [some (.ref x)] [.int s0] h Q ↔ ww (mp_P fx) d 23 6 [some (.ref x)] [.ref x, .int s0] h Q := ww_step rfl
theorem q23_6 (ls : mm_V) (s0 : Nat) (s1 : Int32) (hc : mm_cls h s0 = 900) : ww (mp_P fx) (d + 1) 23 6 ls [.ref s0, .int s1] h Q ↔ wm (mp_P fx) d 24 [.ref s0] h (fun r h' => ww (mp_P fx) (d + 1) 23 9 ls (r.toList ++ [.int s1]) h' Q) := wr_virtual rfl (mm_recv_ok (n := 0) (rc := 900) ⟨rfl, rfl⟩ rfl hc (by decide)) rfl
theorem q23_9 (ls : mm_V) (s0 : Int32) (s1 : Int32) : ww (mp_P fx) d 23 9 ls [.int s0, .int s1] h Q ↔ ww (mp_P fx) d 23 10 ls [.int (s1 >>> (s0 &&& 31))] h Q := wr_ishr rfl
theorem q23_10 (ls : mm_V) (s0 : Int32) : ww (mp_P fx) d 23 10 ls [.int s0] h Q ↔ Q (some (.int s0)) h := wr_ireturn rfl rfl
theorem e23 (a0 : Nat) : wm (mp_P fx) d 23 [.ref a0] h Q ↔ ww (mp_P fx) d 23 0 [some (.ref a0)] [] h Q := Iff.rfl
/- 24 java/lang/String.coder.()B -/
theorem q24_0 (ls : mm_V) : ww (mp_P fx) d 24 0 ls [] h Q ↔ ww (mp_P fx) d 24 3 ls [.int 1] h Q := wr_getstatic (i := 1) rfl
theorem q24_3 (ls : mm_V) (s0 : Int32) : ww (mp_P fx) d 24 3 ls [.int s0] h Q ↔ (if s0 = 0 then ww (mp_P fx) d 24 13 ls [] h Q else ww (mp_P fx) d 24 6 ls [] h Q) := wr_if_eq (t := 13) rfl
theorem q24_6  (x : Nat) : ww (mp_P fx) d 24 6 [some (.ref x)] [] h Q ↔ ww (mp_P fx) d 24 7 [some (.ref x)] [.ref x] h Q := ww_step rfl
theorem q24_7 (ls : mm_V) (s0 : Nat) : ww (mp_P fx) d 24 7 ls [.ref s0] h Q ↔ ∃ x, mm_gF h s0 900 1 = some x ∧ ww (mp_P fx) d 24 10 ls [x] h Q := wr_getfield (n := 90001) rfl
theorem q24_10 (ls : mm_V) (s0 : Int32) : ww (mp_P fx) d 24 10 ls [.int s0] h Q ↔ ww (mp_P fx) d 24 14 ls [.int s0] h Q := wr_goto (t := 14) rfl
theorem q24_13 (ls : mm_V) : ww (mp_P fx) d 24 13 ls [] h Q ↔ ww (mp_P fx) d 24 14 ls [.int 1] h Q := wr_iconst (i := 1) rfl
theorem q24_14 (ls : mm_V) (s0 : Int32) (hb : mm_ret (mp_sig 24).2.2.2 (.int s0) = true) : ww (mp_P fx) d 24 14 ls [.int s0] h Q ↔ Q (some (.int s0)) h := wr_ireturn rfl hb
theorem e24 (a0 : Nat) : wm (mp_P fx) d 24 [.ref a0] h Q ↔ ww (mp_P fx) d 24 0 [some (.ref a0)] [] h Q := Iff.rfl
/- 25 java/lang/String.charAt.(I)C -/
theorem q25_0 (l1 : Option Value) (x : Nat) : ww (mp_P fx) d 25 0 [some (.ref x), l1] [] h Q ↔ ww (mp_P fx) d 25 1 [some (.ref x), l1] [.ref x] h Q := ww_step rfl
theorem q25_1 (ls : mm_V) (s0 : Nat) (hc : mm_cls h s0 = 900) : ww (mp_P fx) (d + 1) 25 1 ls [.ref s0] h Q ↔ wm (mp_P fx) d 26 [.ref s0] h (fun r h' => ww (mp_P fx) (d + 1) 25 4 ls (r.toList ++ []) h' Q) := wr_virtual rfl (mm_recv_ok (n := 0) (rc := 900) ⟨rfl, rfl⟩ rfl hc (by decide)) rfl
theorem q25_4 (ls : mm_V) (s0 : Int32) : ww (mp_P fx) d 25 4 ls [.int s0] h Q ↔ (if s0 = 0 then ww (mp_P fx) d 25 16 ls [] h Q else ww (mp_P fx) d 25 7 ls [] h Q) := wr_if_eq (t := 16) rfl
theorem q25_7 (l1 : Option Value) (x : Nat) : ww (mp_P fx) d 25 7 [some (.ref x), l1] [] h Q ↔ ww (mp_P fx) d 25 8 [some (.ref x), l1] [.ref x] h Q := ww_step rfl
theorem q25_8 (ls : mm_V) (s0 : Nat) : ww (mp_P fx) d 25 8 ls [.ref s0] h Q ↔ ∃ x, mm_gF h s0 900 0 = some x ∧ ww (mp_P fx) d 25 11 ls [x] h Q := wr_getfield (n := 90000) rfl
theorem q25_11 (l0 : Option Value) (x : Int32) (s0 : Nat) : ww (mp_P fx) d 25 11 [l0, some (.int x)] [.ref s0] h Q ↔ ww (mp_P fx) d 25 12 [l0, some (.int x)] [.int x, .ref s0] h Q := ww_step rfl
theorem q25_12 (ls : mm_V) (s0 : Int32) (s1 : Nat) : ww (mp_P fx) (d + 1) 25 12 ls [.int s0, .ref s1] h Q ↔ wm (mp_P fx) d 27 [.ref s1, .int s0] h (fun r h' => ww (mp_P fx) (d + 1) 25 15 ls (r.toList ++ []) h' Q) := wr_static rfl rfl
theorem q25_15 (ls : mm_V) (s0 : Int32) (hb : mm_ret (mp_sig 25).2.2.2 (.int s0) = true) : ww (mp_P fx) d 25 15 ls [.int s0] h Q ↔ Q (some (.int s0)) h := wr_ireturn rfl hb
theorem q25_16 (l1 : Option Value) (x : Nat) : ww (mp_P fx) d 25 16 [some (.ref x), l1] [] h Q ↔ ww (mp_P fx) d 25 17 [some (.ref x), l1] [.ref x] h Q := ww_step rfl
theorem q25_17 (ls : mm_V) (s0 : Nat) : ww (mp_P fx) d 25 17 ls [.ref s0] h Q ↔ ∃ x, mm_gF h s0 900 0 = some x ∧ ww (mp_P fx) d 25 20 ls [x] h Q := wr_getfield (n := 90000) rfl
theorem q25_20 (l0 : Option Value) (x : Int32) (s0 : Nat) : ww (mp_P fx) d 25 20 [l0, some (.int x)] [.ref s0] h Q ↔ ww (mp_P fx) d 25 21 [l0, some (.int x)] [.int x, .ref s0] h Q := ww_step rfl
theorem q25_21 (ls : mm_V) (s0 : Int32) (s1 : Nat) : ww (mp_P fx) (d + 1) 25 21 ls [.int s0, .ref s1] h Q ↔ wm (mp_P fx) d 28 [.ref s1, .int s0] h (fun r h' => ww (mp_P fx) (d + 1) 25 24 ls (r.toList ++ []) h' Q) := wr_static rfl rfl
theorem q25_24 (ls : mm_V) (s0 : Int32) (hb : mm_ret (mp_sig 25).2.2.2 (.int s0) = true) : ww (mp_P fx) d 25 24 ls [.int s0] h Q ↔ Q (some (.int s0)) h := wr_ireturn rfl hb
theorem e25 (a0 : Nat) (a1 : Int32) : wm (mp_P fx) d 25 [.ref a0, .int a1] h Q ↔ ww (mp_P fx) d 25 0 [some (.ref a0), some (.int a1)] [] h Q := Iff.rfl
/- 26 java/lang/String.isLatin1.()Z -/
theorem q26_0 (ls : mm_V) : ww (mp_P fx) d 26 0 ls [] h Q ↔ ww (mp_P fx) d 26 3 ls [.int 1] h Q := wr_getstatic (i := 1) rfl
theorem q26_3 (ls : mm_V) (s0 : Int32) : ww (mp_P fx) d 26 3 ls [.int s0] h Q ↔ (if s0 = 0 then ww (mp_P fx) d 26 17 ls [] h Q else ww (mp_P fx) d 26 6 ls [] h Q) := wr_if_eq (t := 17) rfl
theorem q26_6  (x : Nat) : ww (mp_P fx) d 26 6 [some (.ref x)] [] h Q ↔ ww (mp_P fx) d 26 7 [some (.ref x)] [.ref x] h Q := ww_step rfl
theorem q26_7 (ls : mm_V) (s0 : Nat) : ww (mp_P fx) d 26 7 ls [.ref s0] h Q ↔ ∃ x, mm_gF h s0 900 1 = some x ∧ ww (mp_P fx) d 26 10 ls [x] h Q := wr_getfield (n := 90001) rfl
theorem q26_10 (ls : mm_V) (s0 : Int32) : ww (mp_P fx) d 26 10 ls [.int s0] h Q ↔ (if ¬ s0 = 0 then ww (mp_P fx) d 26 17 ls [] h Q else ww (mp_P fx) d 26 13 ls [] h Q) := wr_if_ne (t := 17) rfl
theorem q26_13 (ls : mm_V) : ww (mp_P fx) d 26 13 ls [] h Q ↔ ww (mp_P fx) d 26 14 ls [.int 1] h Q := wr_iconst (i := 1) rfl
theorem q26_14 (ls : mm_V) (s0 : Int32) : ww (mp_P fx) d 26 14 ls [.int s0] h Q ↔ ww (mp_P fx) d 26 18 ls [.int s0] h Q := wr_goto (t := 18) rfl
theorem q26_17 (ls : mm_V) : ww (mp_P fx) d 26 17 ls [] h Q ↔ ww (mp_P fx) d 26 18 ls [.int 0] h Q := wr_iconst (i := 0) rfl
theorem q26_18 (ls : mm_V) (s0 : Int32) (hb : mm_ret (mp_sig 26).2.2.2 (.int s0) = true) : ww (mp_P fx) d 26 18 ls [.int s0] h Q ↔ Q (some (.int s0)) h := wr_ireturn rfl hb
theorem b26_0 : mm_ret (mp_sig 26).2.2.2 (.int 0) = true := by decide +kernel
theorem b26_1 : mm_ret (mp_sig 26).2.2.2 (.int 1) = true := by decide +kernel
theorem e26 (a0 : Nat) : wm (mp_P fx) d 26 [.ref a0] h Q ↔ ww (mp_P fx) d 26 0 [some (.ref a0)] [] h Q := Iff.rfl
/- 27 java/lang/StringLatin1.charAt.([BI)C -/
theorem q27_0 (l0 : Option Value) (x : Int32) : ww (mp_P fx) d 27 0 [l0, some (.int x)] [] h Q ↔ ww (mp_P fx) d 27 1 [l0, some (.int x)] [.int x] h Q := ww_step rfl
theorem q27_1 (l1 : Option Value) (x : Nat) (s0 : Int32) : ww (mp_P fx) d 27 1 [some (.ref x), l1] [.int s0] h Q ↔ ww (mp_P fx) d 27 2 [some (.ref x), l1] [.ref x, .int s0] h Q := ww_step rfl
theorem q27_2 (ls : mm_V) (s0 : Nat) (s1 : Int32) : ww (mp_P fx) d 27 2 ls [.ref s0, .int s1] h Q ↔ ∃ x, mm_gN h s0 = some x ∧ ww (mp_P fx) d 27 3 ls [.int x, .int s1] h Q := wr_arraylength rfl
theorem q27_3 (ls : mm_V) (s0 : Int32) (s1 : Int32) : ww (mp_P fx) d 27 3 ls [.int s0, .int s1] h Q ↔ ((¬ s1 < 0 ∧ s1 < s0) ∧ ww (mp_P fx) d 27 6 ls [] h Q) := wr_chk rfl (Nat.le_of_ble_eq_true rfl)
theorem q27_6 (l1 : Option Value) (x : Nat) : ww (mp_P fx) d 27 6 [some (.ref x), l1] [] h Q ↔ ww (mp_P fx) d 27 7 [some (.ref x), l1] [.ref x] h Q := ww_step rfl
theorem q27_7 (l0 : Option Value) (x : Int32) (s0 : Nat) : ww (mp_P fx) d 27 7 [l0, some (.int x)] [.ref s0] h Q ↔ ww (mp_P fx) d 27 8 [l0, some (.int x)] [.int x, .ref s0] h Q := ww_step rfl
theorem q27_8 (ls : mm_V) (s0 : Int32) (s1 : Nat) : ww (mp_P fx) d 27 8 ls [.int s0, .ref s1] h Q ↔ ∃ x, mm_gI h s1 2 8 s0 = some x ∧ ww (mp_P fx) d 27 9 ls [.int x] h Q := wr_baload rfl
theorem q27_9 (ls : mm_V) (s0 : Int32) : ww (mp_P fx) d 27 9 ls [.int s0] h Q ↔ ww (mp_P fx) d 27 12 ls [.int 255, .int s0] h Q := wr_sipush (i := 255) rfl
theorem q27_12 (ls : mm_V) (s0 : Int32) (s1 : Int32) : ww (mp_P fx) d 27 12 ls [.int s0, .int s1] h Q ↔ ww (mp_P fx) d 27 13 ls [.int (s1 &&& s0)] h Q := wr_iand rfl
theorem q27_13 (ls : mm_V) (s0 : Int32) : ww (mp_P fx) d 27 13 ls [.int s0] h Q ↔ ww (mp_P fx) d 27 14 ls [.int (s0.toUInt32 % 65536).toInt32] h Q := wr_i2c rfl
theorem q27_14 (ls : mm_V) (s0 : Int32) (hb : mm_ret (mp_sig 27).2.2.2 (.int s0) = true) : ww (mp_P fx) d 27 14 ls [.int s0] h Q ↔ Q (some (.int s0)) h := wr_ireturn rfl hb
theorem e27 (a0 : Nat) (a1 : Int32) : wm (mp_P fx) d 27 [.ref a0, .int a1] h Q ↔ ww (mp_P fx) d 27 0 [some (.ref a0), some (.int a1)] [] h Q := Iff.rfl
/- 35 java/lang/String.indexOf.(I)I -/
theorem q35_0 (l1 : Option Value) (x : Nat) : ww (mp_P fx) d 35 0 [some (.ref x), l1] [] h Q ↔ ww (mp_P fx) d 35 1 [some (.ref x), l1] [.ref x] h Q := ww_step rfl
theorem q35_1 (l0 : Option Value) (x : Int32) (s0 : Nat) : ww (mp_P fx) d 35 1 [l0, some (.int x)] [.ref s0] h Q ↔ ww (mp_P fx) d 35 2 [l0, some (.int x)] [.int x, .ref s0] h Q := ww_step rfl
theorem q35_2 (ls : mm_V) (s0 : Int32) (s1 : Nat) : ww (mp_P fx) d 35 2 ls [.int s0, .ref s1] h Q ↔ ww (mp_P fx) d 35 3 ls [.int 0, .int s0, .ref s1] h Q := wr_iconst (i := 0) rfl
theorem q35_3 (ls : mm_V) (s0 : Int32) (s1 : Int32) (s2 : Nat) (hc : mm_cls h s2 = 900) : ww (mp_P fx) (d + 1) 35 3 ls [.int s0, .int s1, .ref s2] h Q ↔ wm (mp_P fx) d 36 [.ref s2, .int s1, .int s0] h (fun r h' => ww (mp_P fx) (d + 1) 35 6 ls (r.toList ++ []) h' Q) := wr_virtual rfl (mm_recv_ok (n := 2) (rc := 900) ⟨rfl, rfl⟩ rfl hc (by decide)) rfl
theorem q35_6 (ls : mm_V) (s0 : Int32) : ww (mp_P fx) d 35 6 ls [.int s0] h Q ↔ Q (some (.int s0)) h := wr_ireturn rfl rfl
theorem e35 (a0 : Nat) (a1 : Int32) : wm (mp_P fx) d 35 [.ref a0, .int a1] h Q ↔ ww (mp_P fx) d 35 0 [some (.ref a0), some (.int a1)] [] h Q := Iff.rfl
/- 36 java/lang/String.indexOf.(II)I -/
theorem q36_0 (l1 : Option Value) (l2 : Option Value) (x : Nat) : ww (mp_P fx) d 36 0 [some (.ref x), l1, l2] [] h Q ↔ ww (mp_P fx) d 36 1 [some (.ref x), l1, l2] [.ref x] h Q := ww_step rfl
theorem q36_1 (ls : mm_V) (s0 : Nat) (hc : mm_cls h s0 = 900) : ww (mp_P fx) (d + 1) 36 1 ls [.ref s0] h Q ↔ wm (mp_P fx) d 26 [.ref s0] h (fun r h' => ww (mp_P fx) (d + 1) 36 4 ls (r.toList ++ []) h' Q) := wr_virtual rfl (mm_recv_ok (n := 0) (rc := 900) ⟨rfl, rfl⟩ rfl hc (by decide)) rfl
theorem q36_4 (ls : mm_V) (s0 : Int32) : ww (mp_P fx) d 36 4 ls [.int s0] h Q ↔ (if s0 = 0 then ww (mp_P fx) d 36 23 ls [] h Q else ww (mp_P fx) d 36 7 ls [] h Q) := wr_if_eq (t := 23) rfl
theorem q36_7 (l1 : Option Value) (l2 : Option Value) (x : Nat) : ww (mp_P fx) d 36 7 [some (.ref x), l1, l2] [] h Q ↔ ww (mp_P fx) d 36 8 [some (.ref x), l1, l2] [.ref x] h Q := ww_step rfl
theorem q36_8 (ls : mm_V) (s0 : Nat) : ww (mp_P fx) d 36 8 ls [.ref s0] h Q ↔ ∃ x, mm_gF h s0 900 0 = some x ∧ ww (mp_P fx) d 36 11 ls [x] h Q := wr_getfield (n := 90000) rfl
theorem q36_11 (l0 : Option Value) (l2 : Option Value) (x : Int32) (s0 : Nat) : ww (mp_P fx) d 36 11 [l0, some (.int x), l2] [.ref s0] h Q ↔ ww (mp_P fx) d 36 12 [l0, some (.int x), l2] [.int x, .ref s0] h Q := ww_step rfl
theorem q36_12 (l0 : Option Value) (l1 : Option Value) (x : Int32) (s0 : Int32) (s1 : Nat) : ww (mp_P fx) d 36 12 [l0, l1, some (.int x)] [.int s0, .ref s1] h Q ↔ ww (mp_P fx) d 36 13 [l0, l1, some (.int x)] [.int x, .int s0, .ref s1] h Q := ww_step rfl
theorem q36_13 (l1 : Option Value) (l2 : Option Value) (x : Nat) (s0 : Int32) (s1 : Int32) (s2 : Nat) : ww (mp_P fx) d 36 13 [some (.ref x), l1, l2] [.int s0, .int s1, .ref s2] h Q ↔ ww (mp_P fx) d 36 14 [some (.ref x), l1, l2] [.ref x, .int s0, .int s1, .ref s2] h Q := ww_step rfl
theorem q36_14 (ls : mm_V) (s0 : Nat) (s1 : Int32) (s2 : Int32) (s3 : Nat) (hc : mm_cls h s0 = 900) : ww (mp_P fx) (d + 1) 36 14 ls [.ref s0, .int s1, .int s2, .ref s3] h Q ↔ wm (mp_P fx) d 23 [.ref s0] h (fun r h' => ww (mp_P fx) (d + 1) 36 17 ls (r.toList ++ [.int s1, .int s2, .ref s3]) h' Q) := wr_virtual rfl (mm_recv_ok (n := 0) (rc := 900) ⟨rfl, rfl⟩ rfl hc (by decide)) rfl
theorem q36_17 (ls : mm_V) (s0 : Int32) (s1 : Int32) (s2 : Int32) (s3 : Nat) : ww (mp_P fx) (d + 1) 36 17 ls [.int s0, .int s1, .int s2, .ref s3] h Q ↔ wm (mp_P fx) d 37 [.ref s3, .int s2, .int s1, .int s0] h (fun r h' => ww (mp_P fx) (d + 1) 36 20 ls (r.toList ++ []) h' Q) := wr_static rfl rfl
theorem q36_20 (ls : mm_V) (s0 : Int32) : ww (mp_P fx) d 36 20 ls [.int s0] h Q ↔ ww (mp_P fx) d 36 36 ls [.int s0] h Q := wr_goto (t := 36) rfl
theorem q36_23 (l1 : Option Value) (l2 : Option Value) (x : Nat) : ww (mp_P fx) d 36 23 [some (.ref x), l1, l2] [] h Q ↔ ww (mp_P fx) d 36 24 [some (.ref x), l1, l2] [.ref x] h Q := ww_step rfl
theorem q36_24 (ls : mm_V) (s0 : Nat) : ww (mp_P fx) d 36 24 ls [.ref s0] h Q ↔ ∃ x, mm_gF h s0 900 0 = some x ∧ ww (mp_P fx) d 36 27 ls [x] h Q := wr_getfield (n := 90000) rfl
theorem q36_27 (l0 : Option Value) (l2 : Option Value) (x : Int32) (s0 : Nat) : ww (mp_P fx) d 36 27 [l0, some (.int x), l2] [.ref s0] h Q ↔ ww (mp_P fx) d 36 28 [l0, some (.int x), l2] [.int x, .ref s0] h Q := ww_step rfl
theorem q36_28 (l0 : Option Value) (l1 : Option Value) (x : Int32) (s0 : Int32) (s1 : Nat) : ww (mp_P fx) d 36 28 [l0, l1, some (.int x)] [.int s0, .ref s1] h Q ↔ ww (mp_P fx) d 36 29 [l0, l1, some (.int x)] [.int x, .int s0, .ref s1] h Q := ww_step rfl
theorem q36_29 (l1 : Option Value) (l2 : Option Value) (x : Nat) (s0 : Int32) (s1 : Int32) (s2 : Nat) : ww (mp_P fx) d 36 29 [some (.ref x), l1, l2] [.int s0, .int s1, .ref s2] h Q ↔ ww (mp_P fx) d 36 30 [some (.ref x), l1, l2] [.ref x, .int s0, .int s1, .ref s2] h Q := ww_step rfl
theorem q36_30 (ls : mm_V) (s0 : Nat) (s1 : Int32) (s2 : Int32) (s3 : Nat) (hc : mm_cls h s0 = 900) : ww (mp_P fx) (d + 1) 36 30 ls [.ref s0, .int s1, .int s2, .ref s3] h Q ↔ wm (mp_P fx) d 23 [.ref s0] h (fun r h' => ww (mp_P fx) (d + 1) 36 33 ls (r.toList ++ [.int s1, .int s2, .ref s3]) h' Q) := wr_virtual rfl (mm_recv_ok (n := 0) (rc := 900) ⟨rfl, rfl⟩ rfl hc (by decide)) rfl
theorem q36_33 (ls : mm_V) (s0 : Int32) (s1 : Int32) (s2 : Int32) (s3 : Nat) : ww (mp_P fx) (d + 1) 36 33 ls [.int s0, .int s1, .int s2, .ref s3] h Q ↔ wm (mp_P fx) d 40 [.ref s3, .int s2, .int s1, .int s0] h (fun r h' => ww (mp_P fx) (d + 1) 36 36 ls (r.toList ++ []) h' Q) := wr_static rfl rfl
theorem q36_36 (ls : mm_V) (s0 : Int32) : ww (mp_P fx) d 36 36 ls [.int s0] h Q ↔ Q (some (.int s0)) h := wr_ireturn rfl rfl
theorem e36 (a0 : Nat) (a1 : Int32) (a2 : Int32) : wm (mp_P fx) d 36 [.ref a0, .int a1, .int a2] h Q ↔ ww (mp_P fx) d 36 0 [some (.ref a0), some (.int a1), some (.int a2)] [] h Q := Iff.rfl
/- 37 java/lang/StringLatin1.indexOf.([BIII)I -/
theorem q37_0 (l0 : Option Value) (l2 : Option Value) (l3 : Option Value) (x : Int32) : ww (mp_P fx) d 37 0 [l0, some (.int x), l2, l3] [] h Q ↔ ww (mp_P fx) d 37 1 [l0, some (.int x), l2, l3] [.int x] h Q := ww_step rfl
theorem q37_1 (ls : mm_V) (s0 : Int32) : ww (mp_P fx) (d + 1) 37 1 ls [.int s0] h Q ↔ wm (mp_P fx) d 38 [.int s0] h (fun r h' => ww (mp_P fx) (d + 1) 37 4 ls (r.toList ++ []) h' Q) := wr_static rfl rfl
theorem q37_4 (ls : mm_V) (s0 : Int32) : ww (mp_P fx) d 37 4 ls [.int s0] h Q ↔ (if ¬ s0 = 0 then ww (mp_P fx) d 37 9 ls [] h Q else ww (mp_P fx) d 37 7 ls [] h Q) := wr_if_ne (t := 9) rfl
theorem q37_7 (ls : mm_V) : ww (mp_P fx) d 37 7 ls [] h Q ↔ ww (mp_P fx) d 37 8 ls [.int (-1)] h Q := wr_iconst (i := (-1)) rfl
theorem q37_8 (ls : mm_V) (s0 : Int32) : ww (mp_P fx) d 37 8 ls [.int s0] h Q ↔ Q (some (.int s0)) h := wr_ireturn rfl rfl
theorem q37_9 (l0 : Option Value) (l1 : Option Value) (l3 : Option Value) (x : Int32) : ww (mp_P fx) d 37 9 [l0, l1, some (.int x), l3] [] h Q ↔ ww (mp_P fx) d 37 10 [l0, l1, some (.int x), l3] [.int x] h Q := ww_step rfl
theorem q37_10 (ls : mm_V) (s0 : Int32) : ww (mp_P fx) d 37 10 ls [.int s0] h Q ↔ ww (mp_P fx) d 37 11 ls [.int 0, .int s0] h Q := wr_iconst (i := 0) rfl
theorem q37_11 (ls : mm_V) (s0 : Int32) (s1 : Int32) : ww (mp_P fx) d 37 11 ls [.int s0, .int s1] h Q ↔ ww (mp_P fx) d 37 14 ls [.int (if s1 < s0 then s0 else s1)] h Q := wr_max rfl (Nat.le_of_ble_eq_true rfl)
theorem q37_14i (l0 : Option Value) (l2 : Option Value) (l3 : Option Value) (y : Int32) (s0 : Int32) : ww (mp_P fx) d 37 14 [l0, some (.int y), l2, l3] [.int s0] h Q ↔ ww (mp_P fx) d 37 15 [l0, some (.int y), some (.int s0), l3] [] h Q := wr_istore_n rfl (mm_s1_ok (Nat.le_of_ble_eq_true rfl) rfl)
theorem q37_15 (l0 : Option Value) (l1 : Option Value) (l2 : Option Value) (x : Int32) : ww (mp_P fx) d 37 15 [l0, l1, l2, some (.int x)] [] h Q ↔ ww (mp_P fx) d 37 16 [l0, l1, l2, some (.int x)] [.int x] h Q := ww_step rfl
theorem q37_16 (l1 : Option Value) (l2 : Option Value) (l3 : Option Value) (x : Nat) (s0 : Int32) : ww (mp_P fx) d 37 16 [some (.ref x), l1, l2, l3] [.int s0] h Q ↔ ww (mp_P fx) d 37 17 [some (.ref x), l1, l2, l3] [.ref x, .int s0] h Q := ww_step rfl
theorem q37_17 (ls : mm_V) (s0 : Nat) (s1 : Int32) : ww (mp_P fx) d 37 17 ls [.ref s0, .int s1] h Q ↔ ∃ x, mm_gN h s0 = some x ∧ ww (mp_P fx) d 37 18 ls [.int x, .int s1] h Q := wr_arraylength rfl
theorem q37_18 (ls : mm_V) (s0 : Int32) (s1 : Int32) : ww (mp_P fx) d 37 18 ls [.int s0, .int s1] h Q ↔ ww (mp_P fx) d 37 21 ls [.int (if s0 < s1 then s0 else s1)] h Q := wr_min rfl (Nat.le_of_ble_eq_true rfl)
theorem q37_21i (l0 : Option Value) (l1 : Option Value) (l3 : Option Value) (y : Int32) (s0 : Int32) : ww (mp_P fx) d 37 21 [l0, l1, some (.int y), l3] [.int s0] h Q ↔ ww (mp_P fx) d 37 22 [l0, l1, some (.int y), some (.int s0)] [] h Q := wr_istore_n rfl (mm_s1_ok (Nat.le_of_ble_eq_true rfl) rfl)
theorem q37_22 (l0 : Option Value) (l1 : Option Value) (l3 : Option Value) (x : Int32) : ww (mp_P fx) d 37 22 [l0, l1, some (.int x), l3] [] h Q ↔ ww (mp_P fx) d 37 23 [l0, l1, some (.int x), l3] [.int x] h Q := ww_step rfl
theorem q37_23 (l0 : Option Value) (l1 : Option Value) (l2 : Option Value) (x : Int32) (s0 : Int32) : ww (mp_P fx) d 37 23 [l0, l1, l2, some (.int x)] [.int s0] h Q ↔ ww (mp_P fx) d 37 24 [l0, l1, l2, some (.int x)] [.int x, .int s0] h Q := ww_step rfl
theorem q37_24 (ls : mm_V) (s0 : Int32) (s1 : Int32) : ww (mp_P fx) d 37 24 ls [.int s0, .int s1] h Q ↔ (if s1 < s0 then ww (mp_P fx) d 37 29 ls [] h Q else ww (mp_P fx) d 37 27 ls [] h Q) := wr_icmp_lt (t := 29) rfl
theorem q37_27 (ls : mm_V) : ww (mp_P fx) d 37 27 ls [] h Q ↔ ww (mp_P fx) d 37 28 ls [.int (-1)] h Q := wr_iconst (i := (-1)) rfl
theorem q37_28 (ls : mm_V) (s0 : Int32) : ww (mp_P fx) d 37 28 ls [.int s0] h Q ↔ Q (some (.int s0)) h := wr_ireturn rfl rfl
theorem q37_29 (l1 : Option Value) (l2 : Option Value) (l3 : Option Value) (x : Nat) : ww (mp_P fx) d 37 29 [some (.ref x), l1, l2, l3] [] h Q ↔ ww (mp_P fx) d 37 30 [some (.ref x), l1, l2, l3] [.ref x] h Q := ww_step rfl
theorem q37_30 (l0 : Option Value) (l2 : Option Value) (l3 : Option Value) (x : Int32) (s0 : Nat) : ww (mp_P fx) d 37 30 [l0, some (.int x), l2, l3] [.ref s0] h Q ↔ ww (mp_P fx) d 37 31 [l0, some (.int x), l2, l3] [.int x, .ref s0] h Q := ww_step rfl
theorem q37_31 (l0 : Option Value) (l1 : Option Value) (l3 : Option Value) (x : Int32) (s0 : Int32) (s1 : Nat) : ww (mp_P fx) d 37 31 [l0, l1, some (.int x), l3] [.int s0, .ref s1] h Q ↔ ww (mp_P fx) d 37 32 [l0, l1, some (.int x), l3] [.int x, .int s0, .ref s1] h Q := ww_step rfl
theorem q37_32 (l0 : Option Value) (l1 : Option Value) (l2 : Option Value) (x : Int32) (s0 : Int32) (s1 : Int32) (s2 : Nat) : ww (mp_P fx) d 37 32 [l0, l1, l2, some (.int x)] [.int s0, .int s1, .ref s2] h Q ↔ ww (mp_P fx) d 37 33 [l0, l1, l2, some (.int x)] [.int x, .int s0, .int s1, .ref s2] h Q := ww_step rfl
theorem q37_33 (ls : mm_V) (s0 : Int32) (s1 : Int32) (s2 : Int32) (s3 : Nat) : ww (mp_P fx) (d + 1) 37 33 ls [.int s0, .int s1, .int s2, .ref s3] h Q ↔ wm (mp_P fx) d 39 [.ref s3, .int s2, .int s1, .int s0] h (fun r h' => ww (mp_P fx) (d + 1) 37 36 ls (r.toList ++ []) h' Q) := wr_static rfl rfl
theorem q37_36 (ls : mm_V) (s0 : Int32) : ww (mp_P fx) d 37 36 ls [.int s0] h Q ↔ Q (some (.int s0)) h := wr_ireturn rfl rfl
theorem e37 (a0 : Nat) (a1 : Int32) (a2 : Int32) (a3 : Int32) : wm (mp_P fx) d 37 [.ref a0, .int a1, .int a2, .int a3] h Q ↔ ww (mp_P fx) d 37 0 [some (.ref a0), some (.int a1), some (.int a2), some (.int a3)] [] h Q := Iff.rfl
/- 38 java/lang/StringLatin1.canEncode.(I)Z -/
theorem q38_0  (x : Int32) : ww (mp_P fx) d 38 0 [some (.int x)] [] h Q ↔ ww (mp_P fx) d 38 1 [some (.int x)] [.int x] h Q := ww_step rfl
theorem q38_1 (ls : mm_V) (s0 : Int32) : ww (mp_P fx) d 38 1 ls [.int s0] h Q ↔ (if s0 < 0 then ww (mp_P fx) d 38 15 ls [] h Q else ww (mp_P fx) d 38 4 ls [] h Q) := wr_if_lt (t := 15) rfl
theorem q38_4  (x : Int32) : ww (mp_P fx) d 38 4 [some (.int x)] [] h Q ↔ ww (mp_P fx) d 38 5 [some (.int x)] [.int x] h Q := ww_step rfl
theorem q38_5 (ls : mm_V) (s0 : Int32) : ww (mp_P fx) d 38 5 ls [.int s0] h Q ↔ ww (mp_P fx) d 38 8 ls [.int 255, .int s0] h Q := wr_sipush (i := 255) rfl
theorem q38_8 (ls : mm_V) (s0 : Int32) (s1 : Int32) : ww (mp_P fx) d 38 8 ls [.int s0, .int s1] h Q ↔ (if s0 < s1 then ww (mp_P fx) d 38 15 ls [] h Q else ww (mp_P fx) d 38 11 ls [] h Q) := wr_icmp_gt (t := 15) rfl
theorem q38_11 (ls : mm_V) : ww (mp_P fx) d 38 11 ls [] h Q ↔ ww (mp_P fx) d 38 12 ls [.int 1] h Q := wr_iconst (i := 1) rfl
theorem q38_12 (ls : mm_V) (s0 : Int32) : ww (mp_P fx) d 38 12 ls [.int s0] h Q ↔ ww (mp_P fx) d 38 16 ls [.int s0] h Q := wr_goto (t := 16) rfl
theorem q38_15 (ls : mm_V) : ww (mp_P fx) d 38 15 ls [] h Q ↔ ww (mp_P fx) d 38 16 ls [.int 0] h Q := wr_iconst (i := 0) rfl
theorem q38_16 (ls : mm_V) (s0 : Int32) (hb : mm_ret (mp_sig 38).2.2.2 (.int s0) = true) : ww (mp_P fx) d 38 16 ls [.int s0] h Q ↔ Q (some (.int s0)) h := wr_ireturn rfl hb
theorem b38_0 : mm_ret (mp_sig 38).2.2.2 (.int 0) = true := by decide +kernel
theorem b38_1 : mm_ret (mp_sig 38).2.2.2 (.int 1) = true := by decide +kernel
theorem e38 (a0 : Int32) : wm (mp_P fx) d 38 [.int a0] h Q ↔ ww (mp_P fx) d 38 0 [some (.int a0)] [] h Q := Iff.rfl
/- 39 java/lang/StringLatin1.indexOfChar.([BIII)I -/
theorem q39_0 (l0 : Option Value) (l2 : Option Value) (l3 : Option Value) (l4 : Option Value) (l5 : Option Value) (x : Int32) : ww (mp_P fx) d 39 0 [l0, some (.int x), l2, l3, l4, l5] [] h Q ↔ ww (mp_P fx) d 39 1 [l0, some (.int x), l2, l3, l4, l5] [.int x] h Q := ww_step rfl
theorem q39_1 (ls : mm_V) (s0 : Int32) : ww (mp_P fx) d 39 1 ls [.int s0] h Q ↔ ww (mp_P fx) d 39 2 ls [.int s0.toInt8.toInt32] h Q := wr_i2b rfl
theorem q39_2i (l0 : Option Value) (l1 : Option Value) (l2 : Option Value) (l4 : Option Value) (l5 : Option Value) (y : Int32) (s0 : Int32) : ww (mp_P fx) d 39 2 [l0, l1, l2, some (.int y), l4, l5] [.int s0] h Q ↔ ww (mp_P fx) d 39 4 [l0, l1, l2, some (.int y), some (.int s0), l5] [] h Q := wr_istore rfl (mm_s1_ok (Nat.le_of_ble_eq_true rfl) rfl)
theorem q39_4 (l0 : Option Value) (l1 : Option Value) (l3 : Option Value) (l4 : Option Value) (l5 : Option Value) (x : Int32) : ww (mp_P fx) d 39 4 [l0, l1, some (.int x), l3, l4, l5] [] h Q ↔ ww (mp_P fx) d 39 5 [l0, l1, some (.int x), l3, l4, l5] [.int x] h Q := ww_step rfl
theorem q39_5i (l0 : Option Value) (l1 : Option Value) (l2 : Option Value) (l3 : Option Value) (l5 : Option Value) (y : Int32) (s0 : Int32) : ww (mp_P fx) d 39 5 [l0, l1, l2, l3, some (.int y), l5] [.int s0] h Q ↔ ww (mp_P fx) d 39 7 [l0, l1, l2, l3, some (.int y), some (.int s0)] [] h Q := wr_istore rfl (mm_s1_ok (Nat.le_of_ble_eq_true rfl) rfl)
theorem q39_7 (l0 : Option Value) (l1 : Option Value) (l2 : Option Value) (l3 : Option Value) (l4 : Option Value) (x : Int32) : ww (mp_P fx) d 39 7 [l0, l1, l2, l3, l4, some (.int x)] [] h Q ↔ ww (mp_P fx) d 39 9 [l0, l1, l2, l3, l4, some (.int x)] [.int x] h Q := ww_step rfl
theorem q39_9 (l0 : Option Value) (l1 : Option Value) (l2 : Option Value) (l4 : Option Value) (l5 : Option Value) (x : Int32) (s0 : Int32) : ww (mp_P fx) d 39 9 [l0, l1, l2, some (.int x), l4, l5] [.int s0] h Q ↔ ww (mp_P fx) d 39 10 [l0, l1, l2, some (.int x), l4, l5] [.int x, .int s0] h Q := ww_step rfl
theorem q39_10 (ls : mm_V) (s0 : Int32) (s1 : Int32) : ww (mp_P fx) d 39 10 ls [.int s0, .int s1] h Q ↔ (if s0 ≤ s1 then ww (mp_P fx) d 39 31 ls [] h Q else ww (mp_P fx) d 39 13 ls [] h Q) := wr_icmp_ge (t := 31) rfl
theorem q39_13 (l1 : Option Value) (l2 : Option Value) (l3 : Option Value) (l4 : Option Value) (l5 : Option Value) (x : Nat) : ww (mp_P fx) d 39 13 [some (.ref x), l1, l2, l3, l4, l5] [] h Q ↔ ww (mp_P fx) d 39 14 [some (.ref x), l1, l2, l3, l4, l5] [.ref x] h Q := ww_step rfl
theorem q39_14 (l0 : Option Value) (l1 : Option Value) (l2 : Option Value) (l3 : Option Value) (l4 : Option Value) (x : Int32) (s0 : Nat) : ww (mp_P fx) d 39 14 [l0, l1, l2, l3, l4, some (.int x)] [.ref s0] h Q ↔ ww (mp_P fx) d 39 16 [l0, l1, l2, l3, l4, some (.int x)] [.int x, .ref s0] h Q := ww_step rfl
theorem q39_16 (ls : mm_V) (s0 : Int32) (s1 : Nat) : ww (mp_P fx) d 39 16 ls [.int s0, .ref s1] h Q ↔ ∃ x, mm_gI h s1 2 8 s0 = some x ∧ ww (mp_P fx) d 39 17 ls [.int x] h Q := wr_baload rfl
theorem q39_17 (l0 : Option Value) (l1 : Option Value) (l2 : Option Value) (l3 : Option Value) (l5 : Option Value) (x : Int32) (s0 : Int32) : ww (mp_P fx) d 39 17 [l0, l1, l2, l3, some (.int x), l5] [.int s0] h Q ↔ ww (mp_P fx) d 39 19 [l0, l1, l2, l3, some (.int x), l5] [.int x, .int s0] h Q := ww_step rfl
theorem q39_19 (ls : mm_V) (s0 : Int32) (s1 : Int32) : ww (mp_P fx) d 39 19 ls [.int s0, .int s1] h Q ↔ (if ¬ s1 = s0 then ww (mp_P fx) d 39 25 ls [] h Q else ww (mp_P fx) d 39 22 ls [] h Q) := wr_icmp_ne (t := 25) rfl
theorem q39_22 (l0 : Option Value) (l1 : Option Value) (l2 : Option Value) (l3 : Option Value) (l4 : Option Value) (x : Int32) : ww (mp_P fx) d 39 22 [l0, l1, l2, l3, l4, some (.int x)] [] h Q ↔ ww (mp_P fx) d 39 24 [l0, l1, l2, l3, l4, some (.int x)] [.int x] h Q := ww_step rfl
theorem q39_24 (ls : mm_V) (s0 : Int32) : ww (mp_P fx) d 39 24 ls [.int s0] h Q ↔ Q (some (.int s0)) h := wr_ireturn rfl rfl
theorem q39_25i (l0 : Option Value) (l1 : Option Value) (l2 : Option Value) (l3 : Option Value) (x : Int32) (y : Int32) : ww (mp_P fx) d 39 25 [l0, l1, l2, l3, some (.int y), some (.int x)] [] h Q ↔ ww (mp_P fx) d 39 28 [l0, l1, l2, l3, some (.int y), some (.int (x + 1))] [] h Q := wr_iinc (n := 5) (i := 1) rfl rfl (mm_s1_ok (Nat.le_of_ble_eq_true rfl) rfl)
theorem q39_28 (ls : mm_V) : ww (mp_P fx) d 39 28 ls [] h Q ↔ ww (mp_P fx) d 39 7 ls [] h Q := wr_goto (t := 7) rfl
theorem q39_31 (ls : mm_V) : ww (mp_P fx) d 39 31 ls [] h Q ↔ ww (mp_P fx) d 39 32 ls [.int (-1)] h Q := wr_iconst (i := (-1)) rfl
theorem q39_32 (ls : mm_V) (s0 : Int32) : ww (mp_P fx) d 39 32 ls [.int s0] h Q ↔ Q (some (.int s0)) h := wr_ireturn rfl rfl
theorem e39 (a0 : Nat) (a1 : Int32) (a2 : Int32) (a3 : Int32) : wm (mp_P fx) d 39 [.ref a0, .int a1, .int a2, .int a3] h Q ↔ ww (mp_P fx) d 39 0 [some (.ref a0), some (.int a1), some (.int a2), some (.int a3), none, none] [] h Q := Iff.rfl
/- 111 java/util/Arrays.fill.([II)V -/
theorem q111_0 (ls : mm_V) : ww (mp_P fx) d 111 0 ls [] h Q ↔ ww (mp_P fx) d 111 1 ls [.int 0] h Q := wr_iconst (i := 0) rfl
theorem q111_1i (l0 : Option Value) (l2 : Option Value) (l3 : Option Value) (y : Int32) (s0 : Int32) : ww (mp_P fx) d 111 1 [l0, some (.int y), l2, l3] [.int s0] h Q ↔ ww (mp_P fx) d 111 2 [l0, some (.int y), some (.int s0), l3] [] h Q := wr_istore_n rfl (mm_s1_ok (Nat.le_of_ble_eq_true rfl) rfl)
theorem q111_2 (l1 : Option Value) (l2 : Option Value) (l3 : Option Value) (x : Nat) : ww (mp_P fx) d 111 2 [some (.ref x), l1, l2, l3] [] h Q ↔ ww (mp_P fx) d 111 3 [some (.ref x), l1, l2, l3] [.ref x] h Q := ww_step rfl
theorem q111_3 (ls : mm_V) (s0 : Nat) : ww (mp_P fx) d 111 3 ls [.ref s0] h Q ↔ ∃ x, mm_gN h s0 = some x ∧ ww (mp_P fx) d 111 4 ls [.int x] h Q := wr_arraylength rfl
theorem q111_4i (l0 : Option Value) (l1 : Option Value) (l3 : Option Value) (y : Int32) (s0 : Int32) : ww (mp_P fx) d 111 4 [l0, l1, some (.int y), l3] [.int s0] h Q ↔ ww (mp_P fx) d 111 5 [l0, l1, some (.int y), some (.int s0)] [] h Q := wr_istore_n rfl (mm_s1_ok (Nat.le_of_ble_eq_true rfl) rfl)
theorem q111_5 (l0 : Option Value) (l1 : Option Value) (l3 : Option Value) (x : Int32) : ww (mp_P fx) d 111 5 [l0, l1, some (.int x), l3] [] h Q ↔ ww (mp_P fx) d 111 6 [l0, l1, some (.int x), l3] [.int x] h Q := ww_step rfl
theorem q111_6 (l0 : Option Value) (l1 : Option Value) (l2 : Option Value) (x : Int32) (s0 : Int32) : ww (mp_P fx) d 111 6 [l0, l1, l2, some (.int x)] [.int s0] h Q ↔ ww (mp_P fx) d 111 7 [l0, l1, l2, some (.int x)] [.int x, .int s0] h Q := ww_step rfl
theorem q111_7 (ls : mm_V) (s0 : Int32) (s1 : Int32) : ww (mp_P fx) d 111 7 ls [.int s0, .int s1] h Q ↔ (if s0 ≤ s1 then ww (mp_P fx) d 111 20 ls [] h Q else ww (mp_P fx) d 111 10 ls [] h Q) := wr_icmp_ge (t := 20) rfl
theorem q111_10 (l1 : Option Value) (l2 : Option Value) (l3 : Option Value) (x : Nat) : ww (mp_P fx) d 111 10 [some (.ref x), l1, l2, l3] [] h Q ↔ ww (mp_P fx) d 111 11 [some (.ref x), l1, l2, l3] [.ref x] h Q := ww_step rfl
theorem q111_11 (l0 : Option Value) (l1 : Option Value) (l3 : Option Value) (x : Int32) (s0 : Nat) : ww (mp_P fx) d 111 11 [l0, l1, some (.int x), l3] [.ref s0] h Q ↔ ww (mp_P fx) d 111 12 [l0, l1, some (.int x), l3] [.int x, .ref s0] h Q := ww_step rfl
theorem q111_12 (l0 : Option Value) (l2 : Option Value) (l3 : Option Value) (x : Int32) (s0 : Int32) (s1 : Nat) : ww (mp_P fx) d 111 12 [l0, some (.int x), l2, l3] [.int s0, .ref s1] h Q ↔ ww (mp_P fx) d 111 13 [l0, some (.int x), l2, l3] [.int x, .int s0, .ref s1] h Q := ww_step rfl
theorem q111_13 (ls : mm_V) (s0 : Int32) (s1 : Int32) (s2 : Nat) : ww (mp_P fx) d 111 13 ls [.int s0, .int s1, .ref s2] h Q ↔ ∃ h', mm_sI h s2 0 s1 s0 = some h' ∧ ww (mp_P fx) d 111 14 ls [] h' Q := wr_iastore rfl
theorem q111_14i (l0 : Option Value) (l3 : Option Value) (x : Int32) (y : Int32) : ww (mp_P fx) d 111 14 [l0, some (.int y), some (.int x), l3] [] h Q ↔ ww (mp_P fx) d 111 17 [l0, some (.int y), some (.int (x + 1)), l3] [] h Q := wr_iinc (n := 2) (i := 1) rfl rfl (mm_s1_ok (Nat.le_of_ble_eq_true rfl) rfl)
theorem q111_17 (ls : mm_V) : ww (mp_P fx) d 111 17 ls [] h Q ↔ ww (mp_P fx) d 111 5 ls [] h Q := wr_goto (t := 5) rfl
theorem q111_20 (ls : mm_V) : ww (mp_P fx) d 111 20 ls [] h Q ↔ Q none h := wr_return rfl rfl
theorem e111 (a0 : Nat) (a1 : Int32) : wm (mp_P fx) d 111 [.ref a0, .int a1] h Q ↔ ww (mp_P fx) d 111 0 [some (.ref a0), some (.int a1), none, none] [] h Q := Iff.rfl
/- 133 java/util/Arrays.fill.([IIII)V -/
theorem q133_0 (l1 : Option Value) (l2 : Option Value) (l3 : Option Value) (l4 : Option Value) (x : Nat) : ww (mp_P fx) d 133 0 [some (.ref x), l1, l2, l3, l4] [] h Q ↔ ww (mp_P fx) d 133 1 [some (.ref x), l1, l2, l3, l4] [.ref x] h Q := ww_step rfl
theorem q133_1 (ls : mm_V) (s0 : Nat) : ww (mp_P fx) d 133 1 ls [.ref s0] h Q ↔ ∃ x, mm_gN h s0 = some x ∧ ww (mp_P fx) d 133 2 ls [.int x] h Q := wr_arraylength rfl
theorem q133_2 (l0 : Option Value) (l2 : Option Value) (l3 : Option Value) (l4 : Option Value) (x : Int32) (s0 : Int32) : ww (mp_P fx) d 133 2 [l0, some (.int x), l2, l3, l4] [.int s0] h Q ↔ ww (mp_P fx) d 133 3 [l0, some (.int x), l2, l3, l4] [.int x, .int s0] h Q := ww_step rfl
theorem q133_3 (l0 : Option Value) (l1 : Option Value) (l3 : Option Value) (l4 : Option Value) (x : Int32) (s0 : Int32) (s1 : Int32) : ww (mp_P fx) d 133 3 [l0, l1, some (.int x), l3, l4] [.int s0, .int s1] h Q ↔ ww (mp_P fx) d 133 4 [l0, l1, some (.int x), l3, l4] [.int x, .int s0, .int s1] h Q := ww_step rfl
theorem q133_4 (ls : mm_V) (s0 : Int32) (s1 : Int32) (s2 : Int32) : ww (mp_P fx) (d + 1) 133 4 ls [.int s0, .int s1, .int s2] h Q ↔ wm (mp_P fx) d 134 [.int s2, .int s1, .int s0] h (fun r h' => ww (mp_P fx) (d + 1) 133 7 ls (r.toList ++ []) h' Q) := wr_static rfl rfl
theorem q133_7 (l0 : Option Value) (l2 : Option Value) (l3 : Option Value) (l4 : Option Value) (x : Int32) : ww (mp_P fx) d 133 7 [l0, some (.int x), l2, l3, l4] [] h Q ↔ ww (mp_P fx) d 133 8 [l0, some (.int x), l2, l3, l4] [.int x] h Q := ww_step rfl
theorem q133_8i (l0 : Option Value) (l1 : Option Value) (l2 : Option Value) (l4 : Option Value) (y : Int32) (s0 : Int32) : ww (mp_P fx) d 133 8 [l0, l1, l2, some (.int y), l4] [.int s0] h Q ↔ ww (mp_P fx) d 133 10 [l0, l1, l2, some (.int y), some (.int s0)] [] h Q := wr_istore rfl (mm_s1_ok (Nat.le_of_ble_eq_true rfl) rfl)
theorem q133_10 (l0 : Option Value) (l1 : Option Value) (l2 : Option Value) (l3 : Option Value) (x : Int32) : ww (mp_P fx) d 133 10 [l0, l1, l2, l3, some (.int x)] [] h Q ↔ ww (mp_P fx) d 133 12 [l0, l1, l2, l3, some (.int x)] [.int x] h Q := ww_step rfl
theorem q133_12 (l0 : Option Value) (l1 : Option Value) (l3 : Option Value) (l4 : Option Value) (x : Int32) (s0 : Int32) : ww (mp_P fx) d 133 12 [l0, l1, some (.int x), l3, l4] [.int s0] h Q ↔ ww (mp_P fx) d 133 13 [l0, l1, some (.int x), l3, l4] [.int x, .int s0] h Q := ww_step rfl
theorem q133_13 (ls : mm_V) (s0 : Int32) (s1 : Int32) : ww (mp_P fx) d 133 13 ls [.int s0, .int s1] h Q ↔ (if s0 ≤ s1 then ww (mp_P fx) d 133 27 ls [] h Q else ww (mp_P fx) d 133 16 ls [] h Q) := wr_icmp_ge (t := 27) rfl
theorem q133_16 (l1 : Option Value) (l2 : Option Value) (l3 : Option Value) (l4 : Option Value) (x : Nat) : ww (mp_P fx) d 133 16 [some (.ref x), l1, l2, l3, l4] [] h Q ↔ ww (mp_P fx) d 133 17 [some (.ref x), l1, l2, l3, l4] [.ref x] h Q := ww_step rfl
theorem q133_17 (l0 : Option Value) (l1 : Option Value) (l2 : Option Value) (l3 : Option Value) (x : Int32) (s0 : Nat) : ww (mp_P fx) d 133 17 [l0, l1, l2, l3, some (.int x)] [.ref s0] h Q ↔ ww (mp_P fx) d 133 19 [l0, l1, l2, l3, some (.int x)] [.int x, .ref s0] h Q := ww_step rfl
theorem q133_19 (l0 : Option Value) (l1 : Option Value) (l2 : Option Value) (l4 : Option Value) (x : Int32) (s0 : Int32) (s1 : Nat) : ww (mp_P fx) d 133 19 [l0, l1, l2, some (.int x), l4] [.int s0, .ref s1] h Q ↔ ww (mp_P fx) d 133 20 [l0, l1, l2, some (.int x), l4] [.int x, .int s0, .ref s1] h Q := ww_step rfl
theorem q133_20 (ls : mm_V) (s0 : Int32) (s1 : Int32) (s2 : Nat) : ww (mp_P fx) d 133 20 ls [.int s0, .int s1, .ref s2] h Q ↔ ∃ h', mm_sI h s2 0 s1 s0 = some h' ∧ ww (mp_P fx) d 133 21 ls [] h' Q := wr_iastore rfl
theorem q133_21i (l0 : Option Value) (l1 : Option Value) (l2 : Option Value) (x : Int32) (y : Int32) : ww (mp_P fx) d 133 21 [l0, l1, l2, some (.int y), some (.int x)] [] h Q ↔ ww (mp_P fx) d 133 24 [l0, l1, l2, some (.int y), some (.int (x + 1))] [] h Q := wr_iinc (n := 4) (i := 1) rfl rfl (mm_s1_ok (Nat.le_of_ble_eq_true rfl) rfl)
theorem q133_24 (ls : mm_V) : ww (mp_P fx) d 133 24 ls [] h Q ↔ ww (mp_P fx) d 133 10 ls [] h Q := wr_goto (t := 10) rfl
theorem q133_27 (ls : mm_V) : ww (mp_P fx) d 133 27 ls [] h Q ↔ Q none h := wr_return rfl rfl
theorem e133 (a0 : Nat) (a1 : Int32) (a2 : Int32) (a3 : Int32) : wm (mp_P fx) d 133 [.ref a0, .int a1, .int a2, .int a3] h Q ↔ ww (mp_P fx) d 133 0 [some (.ref a0), some (.int a1), some (.int a2), some (.int a3), none] [] h Q := Iff.rfl
/- 134 java/util/Arrays.rangeCheck.(III)V -/
theorem q134_0 (l0 : Option Value) (l2 : Option Value) (x : Int32) : ww (mp_P fx) d 134 0 [l0, some (.int x), l2] [] h Q ↔ ww (mp_P fx) d 134 1 [l0, some (.int x), l2] [.int x] h Q := ww_step rfl
theorem q134_1 (l0 : Option Value) (l1 : Option Value) (x : Int32) (s0 : Int32) : ww (mp_P fx) d 134 1 [l0, l1, some (.int x)] [.int s0] h Q ↔ ww (mp_P fx) d 134 2 [l0, l1, some (.int x)] [.int x, .int s0] h Q := ww_step rfl
theorem q134_2 (ls : mm_V) (s0 : Int32) (s1 : Int32) : ww (mp_P fx) d 134 2 ls [.int s0, .int s1] h Q ↔ (if s1 ≤ s0 then ww (mp_P fx) d 134 46 ls [] h Q else ww (mp_P fx) d 134 5 ls [] h Q) := wr_icmp_le (t := 46) rfl
theorem q134_46 (l0 : Option Value) (l2 : Option Value) (x : Int32) : ww (mp_P fx) d 134 46 [l0, some (.int x), l2] [] h Q ↔ ww (mp_P fx) d 134 47 [l0, some (.int x), l2] [.int x] h Q := ww_step rfl
theorem q134_47 (ls : mm_V) (s0 : Int32) : ww (mp_P fx) d 134 47 ls [.int s0] h Q ↔ (if 0 ≤ s0 then ww (mp_P fx) d 134 59 ls [] h Q else ww (mp_P fx) d 134 50 ls [] h Q) := wr_if_ge (t := 59) rfl
theorem q134_59 (l0 : Option Value) (l1 : Option Value) (x : Int32) : ww (mp_P fx) d 134 59 [l0, l1, some (.int x)] [] h Q ↔ ww (mp_P fx) d 134 60 [l0, l1, some (.int x)] [.int x] h Q := ww_step rfl
theorem q134_60 (l1 : Option Value) (l2 : Option Value) (x : Int32) (s0 : Int32) : ww (mp_P fx) d 134 60 [some (.int x), l1, l2] [.int s0] h Q ↔ ww (mp_P fx) d 134 61 [some (.int x), l1, l2] [.int x, .int s0] h Q := ww_step rfl
theorem q134_61 (ls : mm_V) (s0 : Int32) (s1 : Int32) : ww (mp_P fx) d 134 61 ls [.int s0, .int s1] h Q ↔ (if s1 ≤ s0 then ww (mp_P fx) d 134 73 ls [] h Q else ww (mp_P fx) d 134 64 ls [] h Q) := wr_icmp_le (t := 73) rfl
theorem q134_73 (ls : mm_V) : ww (mp_P fx) d 134 73 ls [] h Q ↔ Q none h := wr_return rfl rfl
theorem e134 (a0 : Int32) (a1 : Int32) (a2 : Int32) : wm (mp_P fx) d 134 [.int a0, .int a1, .int a2] h Q ↔ ww (mp_P fx) d 134 0 [some (.int a0), some (.int a1), some (.int a2)] [] h Q := Iff.rfl
/- 162 java/lang/Integer.bitCount.(I)I -/
theorem q162_0  (x : Int32) : ww (mp_P fx) d 162 0 [some (.int x)] [] h Q ↔ ww (mp_P fx) d 162 1 [some (.int x)] [.int x] h Q := ww_step rfl
theorem q162_1  (x : Int32) (s0 : Int32) : ww (mp_P fx) d 162 1 [some (.int x)] [.int s0] h Q ↔ ww (mp_P fx) d 162 2 [some (.int x)] [.int x, .int s0] h Q := ww_step rfl
theorem q162_2 (ls : mm_V) (s0 : Int32) (s1 : Int32) : ww (mp_P fx) d 162 2 ls [.int s0, .int s1] h Q ↔ ww (mp_P fx) d 162 3 ls [.int 1, .int s0, .int s1] h Q := wr_iconst (i := 1) rfl
theorem q162_3 (ls : mm_V) (s0 : Int32) (s1 : Int32) (s2 : Int32) : ww (mp_P fx) d 162 3 ls [.int s0, .int s1, .int s2] h Q ↔ ww (mp_P fx) d 162 4 ls [.int (s1.toUInt32 >>> (s0.toUInt32 &&& Int32.toUInt32 31)).toInt32, .int s2] h Q := wr_iushr rfl
theorem q162_4 (ls : mm_V) (s0 : Int32) (s1 : Int32) : ww (mp_P fx) d 162 4 ls [.int s0, .int s1] h Q ↔ ww (mp_P fx) d 162 7 ls [.int 1431655765, .int s0, .int s1] h Q := wr_ldc_w (i := 1431655765) rfl
theorem q162_7 (ls : mm_V) (s0 : Int32) (s1 : Int32) (s2 : Int32) : ww (mp_P fx) d 162 7 ls [.int s0, .int s1, .int s2] h Q ↔ ww (mp_P fx) d 162 8 ls [.int (s1 &&& s0), .int s2] h Q := wr_iand rfl
theorem q162_8 (ls : mm_V) (s0 : Int32) (s1 : Int32) : ww (mp_P fx) d 162 8 ls [.int s0, .int s1] h Q ↔ ww (mp_P fx) d 162 9 ls [.int (s1 - s0)] h Q := wr_isub rfl
theorem q162_9 (l0 : Option Value) (s0 : Int32) : ww (mp_P fx) d 162 9 [l0] [.int s0] h Q ↔ ww (mp_P fx) d 162 10 [some (.int s0)] [] h Q := wr_istore_n rfl (mm_s1_ok (Nat.le_of_ble_eq_true rfl) rfl)
theorem q162_10  (x : Int32) : ww (mp_P fx) d 162 10 [some (.int x)] [] h Q ↔ ww (mp_P fx) d 162 11 [some (.int x)] [.int x] h Q := ww_step rfl
theorem q162_11 (ls : mm_V) (s0 : Int32) : ww (mp_P fx) d 162 11 ls [.int s0] h Q ↔ ww (mp_P fx) d 162 14 ls [.int 858993459, .int s0] h Q := wr_ldc_w (i := 858993459) rfl
theorem q162_14 (ls : mm_V) (s0 : Int32) (s1 : Int32) : ww (mp_P fx) d 162 14 ls [.int s0, .int s1] h Q ↔ ww (mp_P fx) d 162 15 ls [.int (s1 &&& s0)] h Q := wr_iand rfl
theorem q162_15  (x : Int32) (s0 : Int32) : ww (mp_P fx) d 162 15 [some (.int x)] [.int s0] h Q ↔ ww (mp_P fx) d 162 16 [some (.int x)] [.int x, .int s0] h Q := ww_step rfl
theorem q162_16 (ls : mm_V) (s0 : Int32) (s1 : Int32) : ww (mp_P fx) d 162 16 ls [.int s0, .int s1] h Q ↔ ww (mp_P fx) d 162 17 ls [.int 2, .int s0, .int s1] h Q := wr_iconst (i := 2) rfl
theorem q162_17 (ls : mm_V) (s0 : Int32) (s1 : Int32) (s2 : Int32) : ww (mp_P fx) d 162 17 ls [.int s0, .int s1, .int s2] h Q ↔ ww (mp_P fx) d 162 18 ls [.int (s1.toUInt32 >>> (s0.toUInt32 &&& Int32.toUInt32 31)).toInt32, .int s2] h Q := wr_iushr rfl
theorem q162_18 (ls : mm_V) (s0 : Int32) (s1 : Int32) : ww (mp_P fx) d 162 18 ls [.int s0, .int s1] h Q ↔ ww (mp_P fx) d 162 21 ls [.int 858993459, .int s0, .int s1] h Q := wr_ldc_w (i := 858993459) rfl
theorem q162_21 (ls : mm_V) (s0 : Int32) (s1 : Int32) (s2 : Int32) : ww (mp_P fx) d 162 21 ls [.int s0, .int s1, .int s2] h Q ↔ ww (mp_P fx) d 162 22 ls [.int (s1 &&& s0), .int s2] h Q := wr_iand rfl
theorem q162_22 (ls : mm_V) (s0 : Int32) (s1 : Int32) : ww (mp_P fx) d 162 22 ls [.int s0, .int s1] h Q ↔ ww (mp_P fx) d 162 23 ls [.int (s1 + s0)] h Q := wr_iadd rfl
theorem q162_23 (l0 : Option Value) (s0 : Int32) : ww (mp_P fx) d 162 23 [l0] [.int s0] h Q ↔ ww (mp_P fx) d 162 24 [some (.int s0)] [] h Q := wr_istore_n rfl (mm_s1_ok (Nat.le_of_ble_eq_true rfl) rfl)
theorem q162_24  (x : Int32) : ww (mp_P fx) d 162 24 [some (.int x)] [] h Q ↔ ww (mp_P fx) d 162 25 [some (.int x)] [.int x] h Q := ww_step rfl
theorem q162_25  (x : Int32) (s0 : Int32) : ww (mp_P fx) d 162 25 [some (.int x)] [.int s0] h Q ↔ ww (mp_P fx) d 162 26 [some (.int x)] [.int x, .int s0] h Q := ww_step rfl
theorem q162_26 (ls : mm_V) (s0 : Int32) (s1 : Int32) : ww (mp_P fx) d 162 26 ls [.int s0, .int s1] h Q ↔ ww (mp_P fx) d 162 27 ls [.int 4, .int s0, .int s1] h Q := wr_iconst (i := 4) rfl
theorem q162_27 (ls : mm_V) (s0 : Int32) (s1 : Int32) (s2 : Int32) : ww (mp_P fx) d 162 27 ls [.int s0, .int s1, .int s2] h Q ↔ ww (mp_P fx) d 162 28 ls [.int (s1.toUInt32 >>> (s0.toUInt32 &&& Int32.toUInt32 31)).toInt32, .int s2] h Q := wr_iushr rfl
theorem q162_28 (ls : mm_V) (s0 : Int32) (s1 : Int32) : ww (mp_P fx) d 162 28 ls [.int s0, .int s1] h Q ↔ ww (mp_P fx) d 162 29 ls [.int (s1 + s0)] h Q := wr_iadd rfl
theorem q162_29 (ls : mm_V) (s0 : Int32) : ww (mp_P fx) d 162 29 ls [.int s0] h Q ↔ ww (mp_P fx) d 162 32 ls [.int 252645135, .int s0] h Q := wr_ldc_w (i := 252645135) rfl
theorem q162_32 (ls : mm_V) (s0 : Int32) (s1 : Int32) : ww (mp_P fx) d 162 32 ls [.int s0, .int s1] h Q ↔ ww (mp_P fx) d 162 33 ls [.int (s1 &&& s0)] h Q := wr_iand rfl
theorem q162_33 (l0 : Option Value) (s0 : Int32) : ww (mp_P fx) d 162 33 [l0] [.int s0] h Q ↔ ww (mp_P fx) d 162 34 [some (.int s0)] [] h Q := wr_istore_n rfl (mm_s1_ok (Nat.le_of_ble_eq_true rfl) rfl)
theorem q162_34  (x : Int32) : ww (mp_P fx) d 162 34 [some (.int x)] [] h Q ↔ ww (mp_P fx) d 162 35 [some (.int x)] [.int x] h Q := ww_step rfl
theorem q162_35  (x : Int32) (s0 : Int32) : ww (mp_P fx) d 162 35 [some (.int x)] [.int s0] h Q ↔ ww (mp_P fx) d 162 36 [some (.int x)] [.int x, .int s0] h Q := ww_step rfl
theorem q162_36 (ls : mm_V) (s0 : Int32) (s1 : Int32) : ww (mp_P fx) d 162 36 ls [.int s0, .int s1] h Q ↔ ww (mp_P fx) d 162 38 ls [.int 8, .int s0, .int s1] h Q := wr_bipush (i := 8) rfl
theorem q162_38 (ls : mm_V) (s0 : Int32) (s1 : Int32) (s2 : Int32) : ww (mp_P fx) d 162 38 ls [.int s0, .int s1, .int s2] h Q ↔ ww (mp_P fx) d 162 39 ls [.int (s1.toUInt32 >>> (s0.toUInt32 &&& Int32.toUInt32 31)).toInt32, .int s2] h Q := wr_iushr rfl
theorem q162_39 (ls : mm_V) (s0 : Int32) (s1 : Int32) : ww (mp_P fx) d 162 39 ls [.int s0, .int s1] h Q ↔ ww (mp_P fx) d 162 40 ls [.int (s1 + s0)] h Q := wr_iadd rfl
theorem q162_40 (l0 : Option Value) (s0 : Int32) : ww (mp_P fx) d 162 40 [l0] [.int s0] h Q ↔ ww (mp_P fx) d 162 41 [some (.int s0)] [] h Q := wr_istore_n rfl (mm_s1_ok (Nat.le_of_ble_eq_true rfl) rfl)
theorem q162_41  (x : Int32) : ww (mp_P fx) d 162 41 [some (.int x)] [] h Q ↔ ww (mp_P fx) d 162 42 [some (.int x)] [.int x] h Q := ww_step rfl
theorem q162_42  (x : Int32) (s0 : Int32) : ww (mp_P fx) d 162 42 [some (.int x)] [.int s0] h Q ↔ ww (mp_P fx) d 162 43 [some (.int x)] [.int x, .int s0] h Q := ww_step rfl
theorem q162_43 (ls : mm_V) (s0 : Int32) (s1 : Int32) : ww (mp_P fx) d 162 43 ls [.int s0, .int s1] h Q ↔ ww (mp_P fx) d 162 45 ls [.int 16, .int s0, .int s1] h Q := wr_bipush (i := 16) rfl
theorem q162_45 (ls : mm_V) (s0 : Int32) (s1 : Int32) (s2 : Int32) : ww (mp_P fx) d 162 45 ls [.int s0, .int s1, .int s2] h Q ↔ ww (mp_P fx) d 162 46 ls [.int (s1.toUInt32 >>> (s0.toUInt32 &&& Int32.toUInt32 31)).toInt32, .int s2] h Q := wr_iushr rfl
theorem q162_46 (ls : mm_V) (s0 : Int32) (s1 : Int32) : ww (mp_P fx) d 162 46 ls [.int s0, .int s1] h Q ↔ ww (mp_P fx) d 162 47 ls [.int (s1 + s0)] h Q := wr_iadd rfl
theorem q162_47 (l0 : Option Value) (s0 : Int32) : ww (mp_P fx) d 162 47 [l0] [.int s0] h Q ↔ ww (mp_P fx) d 162 48 [some (.int s0)] [] h Q := wr_istore_n rfl (mm_s1_ok (Nat.le_of_ble_eq_true rfl) rfl)
theorem q162_48  (x : Int32) : ww (mp_P fx) d 162 48 [some (.int x)] [] h Q ↔ ww (mp_P fx) d 162 49 [some (.int x)] [.int x] h Q := ww_step rfl
theorem q162_49 (ls : mm_V) (s0 : Int32) : ww (mp_P fx) d 162 49 ls [.int s0] h Q ↔ ww (mp_P fx) d 162 51 ls [.int 63, .int s0] h Q := wr_bipush (i := 63) rfl
theorem q162_51 (ls : mm_V) (s0 : Int32) (s1 : Int32) : ww (mp_P fx) d 162 51 ls [.int s0, .int s1] h Q ↔ ww (mp_P fx) d 162 52 ls [.int (s1 &&& s0)] h Q := wr_iand rfl
theorem q162_52 (ls : mm_V) (s0 : Int32) : ww (mp_P fx) d 162 52 ls [.int s0] h Q ↔ Q (some (.int s0)) h := wr_ireturn rfl rfl
theorem e162 (a0 : Int32) : wm (mp_P fx) d 162 [.int a0] h Q ↔ ww (mp_P fx) d 162 0 [some (.int a0)] [] h Q := Iff.rfl
/- 10 RainGrammar.feed.(JJJ)I -/
theorem q10_0 (l1 : Option Value) (l2 : Option Value) (l3 : Option Value) (l4 : Option Value) (l5 : Option Value) (l6 : Option Value) (x : Nat) : ww (mp_P fx) d 10 0 [some (.ref x), l1, l2, l3, l4, l5, l6] [] h Q ↔ ww (mp_P fx) d 10 1 [some (.ref x), l1, l2, l3, l4, l5, l6] [.ref x] h Q := ww_step rfl
theorem q10_1 (ls : mm_V) (s0 : Nat) : ww (mp_P fx) d 10 1 ls [.ref s0] h Q ↔ ∃ x, mm_gF h s0 9 0 = some x ∧ ww (mp_P fx) d 10 4 ls [x] h Q := wr_getfield (n := 900) rfl
theorem q10_4 (l0 : Option Value) (l2 : Option Value) (l3 : Option Value) (l4 : Option Value) (l5 : Option Value) (l6 : Option Value) (x : Int64) (s0 : Nat) : ww (mp_P fx) d 10 4 [l0, some (.long x), l2, l3, l4, l5, l6] [.ref s0] h Q ↔ ww (mp_P fx) d 10 5 [l0, some (.long x), l2, l3, l4, l5, l6] [.long x, .ref s0] h Q := ww_step rfl
theorem q10_5 (ls : mm_V) (s0 : Int64) (s1 : Nat) (hc : mm_cls h s1 = 0) : ww (mp_P fx) (d + 1) 10 5 ls [.long s0, .ref s1] h Q ↔ wm (mp_P fx) d 11 [.ref s1, .long s0] h (fun r h' => ww (mp_P fx) (d + 1) 10 8 ls (r.toList ++ []) h' Q) := wr_virtual rfl (mm_recv_ok (n := 1) (rc := 0) ⟨rfl, rfl⟩ rfl hc (by decide)) rfl
theorem q10_8 (l1 : Option Value) (l2 : Option Value) (l3 : Option Value) (l4 : Option Value) (l5 : Option Value) (l6 : Option Value) (x : Nat) : ww (mp_P fx) d 10 8 [some (.ref x), l1, l2, l3, l4, l5, l6] [] h Q ↔ ww (mp_P fx) d 10 9 [some (.ref x), l1, l2, l3, l4, l5, l6] [.ref x] h Q := ww_step rfl
theorem q10_9 (ls : mm_V) (s0 : Nat) : ww (mp_P fx) d 10 9 ls [.ref s0] h Q ↔ ∃ x, mm_gF h s0 9 0 = some x ∧ ww (mp_P fx) d 10 12 ls [x] h Q := wr_getfield (n := 900) rfl
theorem q10_12 (l0 : Option Value) (l1 : Option Value) (l2 : Option Value) (l4 : Option Value) (l5 : Option Value) (l6 : Option Value) (x : Int64) (s0 : Nat) : ww (mp_P fx) d 10 12 [l0, l1, l2, some (.long x), l4, l5, l6] [.ref s0] h Q ↔ ww (mp_P fx) d 10 13 [l0, l1, l2, some (.long x), l4, l5, l6] [.long x, .ref s0] h Q := ww_step rfl
theorem q10_13 (ls : mm_V) (s0 : Int64) (s1 : Nat) (hc : mm_cls h s1 = 0) : ww (mp_P fx) (d + 1) 10 13 ls [.long s0, .ref s1] h Q ↔ wm (mp_P fx) d 11 [.ref s1, .long s0] h (fun r h' => ww (mp_P fx) (d + 1) 10 16 ls (r.toList ++ []) h' Q) := wr_virtual rfl (mm_recv_ok (n := 1) (rc := 0) ⟨rfl, rfl⟩ rfl hc (by decide)) rfl
theorem q10_16 (l1 : Option Value) (l2 : Option Value) (l3 : Option Value) (l4 : Option Value) (l5 : Option Value) (l6 : Option Value) (x : Nat) : ww (mp_P fx) d 10 16 [some (.ref x), l1, l2, l3, l4, l5, l6] [] h Q ↔ ww (mp_P fx) d 10 17 [some (.ref x), l1, l2, l3, l4, l5, l6] [.ref x] h Q := ww_step rfl
theorem q10_17 (ls : mm_V) (s0 : Nat) : ww (mp_P fx) d 10 17 ls [.ref s0] h Q ↔ ∃ x, mm_gF h s0 9 0 = some x ∧ ww (mp_P fx) d 10 20 ls [x] h Q := wr_getfield (n := 900) rfl
theorem q10_20 (l0 : Option Value) (l1 : Option Value) (l2 : Option Value) (l3 : Option Value) (l4 : Option Value) (l6 : Option Value) (x : Int64) (s0 : Nat) : ww (mp_P fx) d 10 20 [l0, l1, l2, l3, l4, some (.long x), l6] [.ref s0] h Q ↔ ww (mp_P fx) d 10 22 [l0, l1, l2, l3, l4, some (.long x), l6] [.long x, .ref s0] h Q := ww_step rfl
theorem q10_22 (ls : mm_V) (s0 : Int64) (s1 : Nat) (hc : mm_cls h s1 = 0) : ww (mp_P fx) (d + 1) 10 22 ls [.long s0, .ref s1] h Q ↔ wm (mp_P fx) d 11 [.ref s1, .long s0] h (fun r h' => ww (mp_P fx) (d + 1) 10 25 ls (r.toList ++ []) h' Q) := wr_virtual rfl (mm_recv_ok (n := 1) (rc := 0) ⟨rfl, rfl⟩ rfl hc (by decide)) rfl
theorem q10_25 (l1 : Option Value) (l2 : Option Value) (l3 : Option Value) (l4 : Option Value) (l5 : Option Value) (l6 : Option Value) (x : Nat) : ww (mp_P fx) d 10 25 [some (.ref x), l1, l2, l3, l4, l5, l6] [] h Q ↔ ww (mp_P fx) d 10 26 [some (.ref x), l1, l2, l3, l4, l5, l6] [.ref x] h Q := ww_step rfl
theorem q10_26 (ls : mm_V) (s0 : Nat) : ww (mp_P fx) d 10 26 ls [.ref s0] h Q ↔ ∃ x, mm_gF h s0 9 0 = some x ∧ ww (mp_P fx) d 10 29 ls [x] h Q := wr_getfield (n := 900) rfl
theorem q10_29 (ls : mm_V) (s0 : Nat) : ww (mp_P fx) d 10 29 ls [.ref s0] h Q ↔ ∃ x, mm_gF h s0 0 1 = some x ∧ ww (mp_P fx) d 10 32 ls [x] h Q := wr_getfield (n := 1) rfl
theorem q10_32 (ls : mm_V) (s0 : Int32) : ww (mp_P fx) d 10 32 ls [.int s0] h Q ↔ Q (some (.int s0)) h := wr_ireturn rfl rfl
theorem e10 (a0 : Nat) (a1 : Int64) (a2 : Int64) (a3 : Int64) : wm (mp_P fx) d 10 [.ref a0, .long a1, .long a2, .long a3] h Q ↔ ww (mp_P fx) d 10 0 [some (.ref a0), some (.long a1), none, some (.long a2), none, some (.long a3), none] [] h Q := Iff.rfl
/- 11 RainGrammar$Tape.addBytes.(J)V -/
theorem q11_0 (ls : mm_V) : ww (mp_P fx) d 11 0 ls [] h Q ↔ ww (mp_P fx) d 11 2 ls [.int 56] h Q := wr_bipush (i := 56) rfl
theorem q11_2n (l0 : Option Value) (l1 : Option Value) (l3 : Option Value) (l4 : Option Value) (l5 : Option Value) (s0 : Int32) : ww (mp_P fx) d 11 2 [l0, l1, none, l3, l4, l5] [.int s0] h Q ↔ ww (mp_P fx) d 11 3 [l0, l1, none, some (.int s0), l4, l5] [] h Q := wr_istore_n rfl (mm_s1_ok (Nat.le_of_ble_eq_true rfl) rfl)
theorem q11_3 (l0 : Option Value) (l1 : Option Value) (l2 : Option Value) (l4 : Option Value) (l5 : Option Value) (x : Int32) : ww (mp_P fx) d 11 3 [l0, l1, l2, some (.int x), l4, l5] [] h Q ↔ ww (mp_P fx) d 11 4 [l0, l1, l2, some (.int x), l4, l5] [.int x] h Q := ww_step rfl
theorem q11_4 (ls : mm_V) (s0 : Int32) : ww (mp_P fx) d 11 4 ls [.int s0] h Q ↔ (if s0 < 0 then ww (mp_P fx) d 11 88 ls [] h Q else ww (mp_P fx) d 11 7 ls [] h Q) := wr_if_lt (t := 88) rfl
theorem q11_7 (l0 : Option Value) (l2 : Option Value) (l3 : Option Value) (l4 : Option Value) (l5 : Option Value) (x : Int64) : ww (mp_P fx) d 11 7 [l0, some (.long x), l2, l3, l4, l5] [] h Q ↔ ww (mp_P fx) d 11 8 [l0, some (.long x), l2, l3, l4, l5] [.long x] h Q := ww_step rfl
theorem q11_8 (l0 : Option Value) (l1 : Option Value) (l2 : Option Value) (l4 : Option Value) (l5 : Option Value) (x : Int32) (s0 : Int64) : ww (mp_P fx) d 11 8 [l0, l1, l2, some (.int x), l4, l5] [.long s0] h Q ↔ ww (mp_P fx) d 11 9 [l0, l1, l2, some (.int x), l4, l5] [.int x, .long s0] h Q := ww_step rfl
theorem q11_9 (ls : mm_V) (s0 : Int32) (s1 : Int64) : ww (mp_P fx) d 11 9 ls [.int s0, .long s1] h Q ↔ ww (mp_P fx) d 11 10 ls [.long (s1.toUInt64 >>> (s0.toInt64.toUInt64 &&& Int64.toUInt64 63)).toInt64] h Q := wr_lushr rfl
theorem q11_10 (ls : mm_V) (s0 : Int64) : ww (mp_P fx) d 11 10 ls [.long s0] h Q ↔ ww (mp_P fx) d 11 13 ls [.long 255, .long s0] h Q := wr_ldc2_w (i := 255) rfl
theorem q11_13 (ls : mm_V) (s0 : Int64) (s1 : Int64) : ww (mp_P fx) d 11 13 ls [.long s0, .long s1] h Q ↔ ww (mp_P fx) d 11 14 ls [.long (s1 &&& s0)] h Q := wr_land rfl
theorem q11_14 (ls : mm_V) (s0 : Int64) : ww (mp_P fx) d 11 14 ls [.long s0] h Q ↔ ww (mp_P fx) d 11 15 ls [.int s0.toInt32] h Q := wr_l2i rfl
theorem q11_15i (l0 : Option Value) (l1 : Option Value) (l2 : Option Value) (l4 : Option Value) (l5 : Option Value) (y : Int32) (s0 : Int32) : ww (mp_P fx) d 11 15 [l0, l1, l2, some (.int y), l4, l5] [.int s0] h Q ↔ ww (mp_P fx) d 11 17 [l0, l1, l2, some (.int y), some (.int s0), l5] [] h Q := wr_istore rfl (mm_s1_ok (Nat.le_of_ble_eq_true rfl) rfl)
theorem q11_17 (l0 : Option Value) (l1 : Option Value) (l2 : Option Value) (l3 : Option Value) (l5 : Option Value) (x : Int32) : ww (mp_P fx) d 11 17 [l0, l1, l2, l3, some (.int x), l5] [] h Q ↔ ww (mp_P fx) d 11 19 [l0, l1, l2, l3, some (.int x), l5] [.int x] h Q := ww_step rfl
theorem q11_19 (ls : mm_V) (s0 : Int32) : ww (mp_P fx) d 11 19 ls [.int s0] h Q ↔ ww (mp_P fx) d 11 21 ls [.int 10, .int s0] h Q := wr_bipush (i := 10) rfl
theorem q11_21 (ls : mm_V) (s0 : Int32) (s1 : Int32) : ww (mp_P fx) d 11 21 ls [.int s0, .int s1] h Q ↔ (if s1 = s0 then ww (mp_P fx) d 11 38 ls [] h Q else ww (mp_P fx) d 11 24 ls [] h Q) := wr_icmp_eq (t := 38) rfl
theorem q11_24 (l0 : Option Value) (l1 : Option Value) (l2 : Option Value) (l3 : Option Value) (l5 : Option Value) (x : Int32) : ww (mp_P fx) d 11 24 [l0, l1, l2, l3, some (.int x), l5] [] h Q ↔ ww (mp_P fx) d 11 26 [l0, l1, l2, l3, some (.int x), l5] [.int x] h Q := ww_step rfl
theorem q11_26 (ls : mm_V) (s0 : Int32) : ww (mp_P fx) d 11 26 ls [.int s0] h Q ↔ ww (mp_P fx) d 11 28 ls [.int 32, .int s0] h Q := wr_bipush (i := 32) rfl
theorem q11_28 (ls : mm_V) (s0 : Int32) (s1 : Int32) : ww (mp_P fx) d 11 28 ls [.int s0, .int s1] h Q ↔ (if s1 < s0 then ww (mp_P fx) d 11 42 ls [] h Q else ww (mp_P fx) d 11 31 ls [] h Q) := wr_icmp_lt (t := 42) rfl
theorem q11_31 (l0 : Option Value) (l1 : Option Value) (l2 : Option Value) (l3 : Option Value) (l5 : Option Value) (x : Int32) : ww (mp_P fx) d 11 31 [l0, l1, l2, l3, some (.int x), l5] [] h Q ↔ ww (mp_P fx) d 11 33 [l0, l1, l2, l3, some (.int x), l5] [.int x] h Q := ww_step rfl
theorem q11_33 (ls : mm_V) (s0 : Int32) : ww (mp_P fx) d 11 33 ls [.int s0] h Q ↔ ww (mp_P fx) d 11 35 ls [.int 126, .int s0] h Q := wr_bipush (i := 126) rfl
theorem q11_35 (ls : mm_V) (s0 : Int32) (s1 : Int32) : ww (mp_P fx) d 11 35 ls [.int s0, .int s1] h Q ↔ (if s0 < s1 then ww (mp_P fx) d 11 42 ls [] h Q else ww (mp_P fx) d 11 38 ls [] h Q) := wr_icmp_gt (t := 42) rfl
theorem q11_38 (ls : mm_V) : ww (mp_P fx) d 11 38 ls [] h Q ↔ ww (mp_P fx) d 11 39 ls [.int 1] h Q := wr_iconst (i := 1) rfl
theorem q11_39 (ls : mm_V) (s0 : Int32) : ww (mp_P fx) d 11 39 ls [.int s0] h Q ↔ ww (mp_P fx) d 11 43 ls [.int s0] h Q := wr_goto (t := 43) rfl
theorem q11_42 (ls : mm_V) : ww (mp_P fx) d 11 42 ls [] h Q ↔ ww (mp_P fx) d 11 43 ls [.int 0] h Q := wr_iconst (i := 0) rfl
theorem q11_43i (l0 : Option Value) (l1 : Option Value) (l2 : Option Value) (l3 : Option Value) (l5 : Option Value) (y : Int32) (s0 : Int32) : ww (mp_P fx) d 11 43 [l0, l1, l2, l3, some (.int y), l5] [.int s0] h Q ↔ ww (mp_P fx) d 11 45 [l0, l1, l2, l3, some (.int y), some (.int s0)] [] h Q := wr_istore rfl (mm_s1_ok (Nat.le_of_ble_eq_true rfl) rfl)
theorem q11_45 (l0 : Option Value) (l1 : Option Value) (l2 : Option Value) (l3 : Option Value) (l4 : Option Value) (x : Int32) : ww (mp_P fx) d 11 45 [l0, l1, l2, l3, l4, some (.int x)] [] h Q ↔ ww (mp_P fx) d 11 47 [l0, l1, l2, l3, l4, some (.int x)] [.int x] h Q := ww_step rfl
theorem q11_47 (ls : mm_V) (s0 : Int32) : ww (mp_P fx) d 11 47 ls [.int s0] h Q ↔ (if s0 = 0 then ww (mp_P fx) d 11 82 ls [] h Q else ww (mp_P fx) d 11 50 ls [] h Q) := wr_if_eq (t := 82) rfl
theorem q11_50 (l1 : Option Value) (l2 : Option Value) (l3 : Option Value) (l4 : Option Value) (l5 : Option Value) (x : Nat) : ww (mp_P fx) d 11 50 [some (.ref x), l1, l2, l3, l4, l5] [] h Q ↔ ww (mp_P fx) d 11 51 [some (.ref x), l1, l2, l3, l4, l5] [.ref x] h Q := ww_step rfl
theorem q11_51 (ls : mm_V) (s0 : Nat) : ww (mp_P fx) d 11 51 ls [.ref s0] h Q ↔ ∃ x, mm_gF h s0 0 1 = some x ∧ ww (mp_P fx) d 11 54 ls [x] h Q := wr_getfield (n := 1) rfl
theorem q11_54 (ls : mm_V) (s0 : Int32) : ww (mp_P fx) d 11 54 ls [.int s0] h Q ↔ ww (mp_P fx) d 11 57 ls [.int 1000, .int s0] h Q := wr_sipush (i := 1000) rfl
theorem q11_57 (ls : mm_V) (s0 : Int32) (s1 : Int32) : ww (mp_P fx) d 11 57 ls [.int s0, .int s1] h Q ↔ (if s0 ≤ s1 then ww (mp_P fx) d 11 82 ls [] h Q else ww (mp_P fx) d 11 60 ls [] h Q) := wr_icmp_ge (t := 82) rfl
theorem q11_60 (l1 : Option Value) (l2 : Option Value) (l3 : Option Value) (l4 : Option Value) (l5 : Option Value) (x : Nat) : ww (mp_P fx) d 11 60 [some (.ref x), l1, l2, l3, l4, l5] [] h Q ↔ ww (mp_P fx) d 11 61 [some (.ref x), l1, l2, l3, l4, l5] [.ref x] h Q := ww_step rfl
theorem q11_61 (ls : mm_V) (s0 : Nat) : ww (mp_P fx) d 11 61 ls [.ref s0] h Q ↔ ∃ x, mm_gF h s0 0 0 = some x ∧ ww (mp_P fx) d 11 64 ls [x] h Q := wr_getfield (n := 0) rfl
theorem q11_64 (l1 : Option Value) (l2 : Option Value) (l3 : Option Value) (l4 : Option Value) (l5 : Option Value) (x : Nat) (s0 : Nat) : ww (mp_P fx) d 11 64 [some (.ref x), l1, l2, l3, l4, l5] [.ref s0] h Q ↔ ww (mp_P fx) d 11 65 [some (.ref x), l1, l2, l3, l4, l5] [.ref x, .ref s0] h Q := ww_step rfl
theorem q11_65 (ls : mm_V) (s0 : Nat) (s1 : Nat) : ww (mp_P fx) d 11 65 ls [.ref s0, .ref s1] h Q ↔ ∃ x, mm_gF h s0 0 1 = some x ∧ ww (mp_P fx) d 11 68 ls [x, .ref s1] h Q := wr_getfield (n := 1) rfl
theorem q11_68 (l0 : Option Value) (l1 : Option Value) (l2 : Option Value) (l3 : Option Value) (l5 : Option Value) (x : Int32) (s0 : Int32) (s1 : Nat) : ww (mp_P fx) d 11 68 [l0, l1, l2, l3, some (.int x), l5] [.int s0, .ref s1] h Q ↔ ww (mp_P fx) d 11 70 [l0, l1, l2, l3, some (.int x), l5] [.int x, .int s0, .ref s1] h Q := ww_step rfl
theorem q11_70 (ls : mm_V) (s0 : Int32) (s1 : Int32) (s2 : Nat) : ww (mp_P fx) d 11 70 ls [.int s0, .int s1, .ref s2] h Q ↔ ww (mp_P fx) d 11 71 ls [.int (s0.toUInt32 % 65536).toInt32, .int s1, .ref s2] h Q := wr_i2c rfl
theorem q11_71 (ls : mm_V) (s0 : Int32) (s1 : Int32) (s2 : Nat) : ww (mp_P fx) d 11 71 ls [.int s0, .int s1, .ref s2] h Q ↔ ∃ h', mm_sI h s2 1 s1 (vp_nar .char s0) = some h' ∧ ww (mp_P fx) d 11 72 ls [] h' Q := wr_castore rfl
theorem q11_72 (l1 : Option Value) (l2 : Option Value) (l3 : Option Value) (l4 : Option Value) (l5 : Option Value) (x : Nat) : ww (mp_P fx) d 11 72 [some (.ref x), l1, l2, l3, l4, l5] [] h Q ↔ ww (mp_P fx) d 11 73 [some (.ref x), l1, l2, l3, l4, l5] [.ref x] h Q := ww_step rfl
theorem q11_73 (ls : mm_V) (s0 : Nat) : ww (mp_P fx) d 11 73 ls [.ref s0] h Q ↔ ww (mp_P fx) d 11 74 ls [.ref s0, .ref s0] h Q := ww_step rfl
theorem q11_74 (ls : mm_V) (s0 : Nat) (s1 : Nat) : ww (mp_P fx) d 11 74 ls [.ref s0, .ref s1] h Q ↔ ∃ x, mm_gF h s0 0 1 = some x ∧ ww (mp_P fx) d 11 77 ls [x, .ref s1] h Q := wr_getfield (n := 1) rfl
theorem q11_77 (ls : mm_V) (s0 : Int32) (s1 : Nat) : ww (mp_P fx) d 11 77 ls [.int s0, .ref s1] h Q ↔ ww (mp_P fx) d 11 78 ls [.int 1, .int s0, .ref s1] h Q := wr_iconst (i := 1) rfl
theorem q11_78 (ls : mm_V) (s0 : Int32) (s1 : Int32) (s2 : Nat) : ww (mp_P fx) d 11 78 ls [.int s0, .int s1, .ref s2] h Q ↔ ww (mp_P fx) d 11 79 ls [.int (s1 + s0), .ref s2] h Q := wr_iadd rfl
theorem q11_79 (ls : mm_V) (s0 : Int32) (s1 : Nat) : ww (mp_P fx) d 11 79 ls [.int s0, .ref s1] h Q ↔ ∃ h', mm_sF (mp_P fx) h s1 0 1 (.int s0) = some h' ∧ ww (mp_P fx) d 11 82 ls [] h' Q := wr_putfield (n := 1) rfl
theorem q11_82n (l0 : Option Value) (l1 : Option Value) (l4 : Option Value) (l5 : Option Value) (x : Int32) : ww (mp_P fx) d 11 82 [l0, l1, none, some (.int x), l4, l5] [] h Q ↔ ww (mp_P fx) d 11 85 [l0, l1, none, some (.int (x + (-8))), l4, l5] [] h Q := wr_iinc (n := 3) (i := (-8)) rfl rfl (mm_s1_ok (Nat.le_of_ble_eq_true rfl) rfl)
theorem q11_85 (ls : mm_V) : ww (mp_P fx) d 11 85 ls [] h Q ↔ ww (mp_P fx) d 11 3 ls [] h Q := wr_goto (t := 3) rfl
theorem q11_88 (ls : mm_V) : ww (mp_P fx) d 11 88 ls [] h Q ↔ Q none h := wr_return rfl rfl
theorem e11 (a0 : Nat) (a1 : Int64) : wm (mp_P fx) d 11 [.ref a0, .long a1] h Q ↔ ww (mp_P fx) d 11 0 [some (.ref a0), some (.long a1), none, none, none, none] [] h Q := Iff.rfl
/- 12 RainGrammar.square.()I -/
theorem q12_0 (l1 : Option Value) (l2 : Option Value) (x : Nat) : ww (mp_P fx) d 12 0 [some (.ref x), l1, l2] [] h Q ↔ ww (mp_P fx) d 12 1 [some (.ref x), l1, l2] [.ref x] h Q := ww_step rfl
theorem q12_1 (ls : mm_V) (s0 : Nat) : ww (mp_P fx) d 12 1 ls [.ref s0] h Q ↔ ∃ x, mm_gF h s0 9 0 = some x ∧ ww (mp_P fx) d 12 4 ls [x] h Q := wr_getfield (n := 900) rfl
theorem q12_4 (l1 : Option Value) (l2 : Option Value) (x : Nat) (s0 : Nat) : ww (mp_P fx) d 12 4 [some (.ref x), l1, l2] [.ref s0] h Q ↔ ww (mp_P fx) d 12 5 [some (.ref x), l1, l2] [.ref x, .ref s0] h Q := ww_step rfl
theorem q12_5 (ls : mm_V) (s0 : Nat) (s1 : Nat) : ww (mp_P fx) d 12 5 ls [.ref s0, .ref s1] h Q ↔ ∃ x, mm_gF h s0 9 13 = some x ∧ ww (mp_P fx) d 12 8 ls [x, .ref s1] h Q := wr_getfield (n := 913) rfl
theorem q12_8 (ls : mm_V) (s0 : Nat) (s1 : Nat) : ww (mp_P fx) (d + 1) 12 8 ls [.ref s0, .ref s1] h Q ↔ wm (mp_P fx) d 13 [.ref s1, .ref s0] h (fun r h' => ww (mp_P fx) (d + 1) 12 11 ls (r.toList ++ []) h' Q) := wr_static rfl rfl
theorem q12_11r (l1 : Option Value) (l2 : Option Value) (y : Nat) (s0 : Int32) : ww (mp_P fx) d 12 11 [some (.ref y), l1, l2] [.int s0] h Q ↔ ww (mp_P fx) d 12 12 [some (.ref y), some (.int s0), l2] [] h Q := wr_istore_n rfl (mm_s1_ok (Nat.le_of_ble_eq_true rfl) rfl)
theorem q12_12 (l0 : Option Value) (l2 : Option Value) (x : Int32) : ww (mp_P fx) d 12 12 [l0, some (.int x), l2] [] h Q ↔ ww (mp_P fx) d 12 13 [l0, some (.int x), l2] [.int x] h Q := ww_step rfl
theorem q12_13 (ls : mm_V) (s0 : Int32) : ww (mp_P fx) d 12 13 ls [.int s0] h Q ↔ (if ¬ s0 = 0 then ww (mp_P fx) d 12 38 ls [] h Q else ww (mp_P fx) d 12 16 ls [] h Q) := wr_if_ne (t := 38) rfl
theorem q12_16 (l1 : Option Value) (l2 : Option Value) (x : Nat) : ww (mp_P fx) d 12 16 [some (.ref x), l1, l2] [] h Q ↔ ww (mp_P fx) d 12 17 [some (.ref x), l1, l2] [.ref x] h Q := ww_step rfl
theorem q12_17 (ls : mm_V) (s0 : Nat) : ww (mp_P fx) d 12 17 ls [.ref s0] h Q ↔ ∃ x, mm_gF h s0 9 12 = some x ∧ ww (mp_P fx) d 12 20 ls [x] h Q := wr_getfield (n := 912) rfl
theorem q12_20i (l0 : Option Value) (l2 : Option Value) (y : Int32) (s0 : Nat) : ww (mp_P fx) d 12 20 [l0, some (.int y), l2] [.ref s0] h Q ↔ ww (mp_P fx) d 12 21 [l0, some (.int y), some (.ref s0)] [] h Q := wr_astore_n rfl (mm_s1_ok (Nat.le_of_ble_eq_true rfl) rfl)
theorem q12_21 (l1 : Option Value) (l2 : Option Value) (x : Nat) : ww (mp_P fx) d 12 21 [some (.ref x), l1, l2] [] h Q ↔ ww (mp_P fx) d 12 22 [some (.ref x), l1, l2] [.ref x] h Q := ww_step rfl
theorem q12_22 (l1 : Option Value) (l2 : Option Value) (x : Nat) (s0 : Nat) : ww (mp_P fx) d 12 22 [some (.ref x), l1, l2] [.ref s0] h Q ↔ ww (mp_P fx) d 12 23 [some (.ref x), l1, l2] [.ref x, .ref s0] h Q := ww_step rfl
theorem q12_23 (ls : mm_V) (s0 : Nat) (s1 : Nat) : ww (mp_P fx) d 12 23 ls [.ref s0, .ref s1] h Q ↔ ∃ x, mm_gF h s0 9 13 = some x ∧ ww (mp_P fx) d 12 26 ls [x, .ref s1] h Q := wr_getfield (n := 913) rfl
theorem q12_26 (ls : mm_V) (s0 : Nat) (s1 : Nat) : ww (mp_P fx) d 12 26 ls [.ref s0, .ref s1] h Q ↔ ∃ h', mm_sF (mp_P fx) h s1 9 12 (.ref s0) = some h' ∧ ww (mp_P fx) d 12 29 ls [] h' Q := wr_putfield (n := 912) rfl
theorem q12_29 (l1 : Option Value) (l2 : Option Value) (x : Nat) : ww (mp_P fx) d 12 29 [some (.ref x), l1, l2] [] h Q ↔ ww (mp_P fx) d 12 30 [some (.ref x), l1, l2] [.ref x] h Q := ww_step rfl
theorem q12_30 (l0 : Option Value) (l1 : Option Value) (x : Nat) (s0 : Nat) : ww (mp_P fx) d 12 30 [l0, l1, some (.ref x)] [.ref s0] h Q ↔ ww (mp_P fx) d 12 31 [l0, l1, some (.ref x)] [.ref x, .ref s0] h Q := ww_step rfl
theorem q12_31 (ls : mm_V) (s0 : Nat) (s1 : Nat) : ww (mp_P fx) d 12 31 ls [.ref s0, .ref s1] h Q ↔ ∃ h', mm_sF (mp_P fx) h s1 9 13 (.ref s0) = some h' ∧ ww (mp_P fx) d 12 34 ls [] h' Q := wr_putfield (n := 913) rfl
theorem q12_34 (l1 : Option Value) (l2 : Option Value) (x : Nat) : ww (mp_P fx) d 12 34 [some (.ref x), l1, l2] [] h Q ↔ ww (mp_P fx) d 12 35 [some (.ref x), l1, l2] [.ref x] h Q := ww_step rfl
theorem q12_35 (ls : mm_V) (s0 : Nat) (hc : mm_cls h s0 = 9) : ww (mp_P fx) (d + 1) 12 35 ls [.ref s0] h Q ↔ wm (mp_P fx) d 90 [.ref s0] h (fun r h' => ww (mp_P fx) (d + 1) 12 38 ls (r.toList ++ []) h' Q) := wr_virtual rfl (mm_recv_ok (n := 0) (rc := 9) ⟨rfl, rfl⟩ rfl hc (by decide)) rfl
theorem q12_38 (l0 : Option Value) (l2 : Option Value) (x : Int32) : ww (mp_P fx) d 12 38 [l0, some (.int x), l2] [] h Q ↔ ww (mp_P fx) d 12 39 [l0, some (.int x), l2] [.int x] h Q := ww_step rfl
theorem q12_39 (ls : mm_V) (s0 : Int32) : ww (mp_P fx) d 12 39 ls [.int s0] h Q ↔ Q (some (.int s0)) h := wr_ireturn rfl rfl
theorem e12 (a0 : Nat) : wm (mp_P fx) d 12 [.ref a0] h Q ↔ ww (mp_P fx) d 12 0 [some (.ref a0), none, none] [] h Q := Iff.rfl
/- 13 RainGrammar$SquareReader.fill.(LRainGrammar$Tape;LRainGrammar$Square;)I -/
theorem q13_0 (l0 : Option Value) (l2 : Option Value) (l3 : Option Value) (x : Nat) : ww (mp_P fx) d 13 0 [l0, some (.ref x), l2, l3] [] h Q ↔ ww (mp_P fx) d 13 1 [l0, some (.ref x), l2, l3] [.ref x] h Q := ww_step rfl
theorem q13_1 (ls : mm_V) (s0 : Nat) (hc : mm_cls h s0 = 8) : ww (mp_P fx) (d + 1) 13 1 ls [.ref s0] h Q ↔ wm (mp_P fx) d 14 [.ref s0] h (fun r h' => ww (mp_P fx) (d + 1) 13 4 ls (r.toList ++ []) h' Q) := wr_virtual rfl (mm_recv_ok (n := 0) (rc := 8) ⟨rfl, rfl⟩ rfl hc (by decide)) rfl
theorem q13_4 (l1 : Option Value) (l2 : Option Value) (l3 : Option Value) (x : Nat) : ww (mp_P fx) d 13 4 [some (.ref x), l1, l2, l3] [] h Q ↔ ww (mp_P fx) d 13 5 [some (.ref x), l1, l2, l3] [.ref x] h Q := ww_step rfl
theorem q13_5 (ls : mm_V) (s0 : Nat) (hc : mm_cls h s0 = 0) : ww (mp_P fx) (d + 1) 13 5 ls [.ref s0] h Q ↔ wm (mp_P fx) d 16 [.ref s0] h (fun r h' => ww (mp_P fx) (d + 1) 13 8 ls (r.toList ++ []) h' Q) := wr_virtual rfl (mm_recv_ok (n := 0) (rc := 0) ⟨rfl, rfl⟩ rfl hc (by decide)) rfl
theorem q13_8 (ls : mm_V) : ww (mp_P fx) d 13 8 ls [] h Q ↔ ww (mp_P fx) d 13 9 ls [.int 1] h Q := wr_iconst (i := 1) rfl
theorem q13_9r (l0 : Option Value) (l2 : Option Value) (l3 : Option Value) (y : Nat) (s0 : Int32) : ww (mp_P fx) d 13 9 [l0, some (.ref y), l2, l3] [.int s0] h Q ↔ ww (mp_P fx) d 13 10 [l0, some (.ref y), some (.int s0), l3] [] h Q := wr_istore_n rfl (mm_s1_ok (Nat.le_of_ble_eq_true rfl) rfl)
theorem q13_10 (ls : mm_V) : ww (mp_P fx) d 13 10 ls [] h Q ↔ ww (mp_P fx) d 13 11 ls [.int 0] h Q := wr_iconst (i := 0) rfl
theorem q13_11i (l0 : Option Value) (l1 : Option Value) (l3 : Option Value) (y : Int32) (s0 : Int32) : ww (mp_P fx) d 13 11 [l0, l1, some (.int y), l3] [.int s0] h Q ↔ ww (mp_P fx) d 13 12 [l0, l1, some (.int y), some (.int s0)] [] h Q := wr_istore_n rfl (mm_s1_ok (Nat.le_of_ble_eq_true rfl) rfl)
theorem q13_12 (l0 : Option Value) (l1 : Option Value) (l3 : Option Value) (x : Int32) : ww (mp_P fx) d 13 12 [l0, l1, some (.int x), l3] [] h Q ↔ ww (mp_P fx) d 13 13 [l0, l1, some (.int x), l3] [.int x] h Q := ww_step rfl
theorem q13_13 (ls : mm_V) (s0 : Int32) : ww (mp_P fx) d 13 13 ls [.int s0] h Q ↔ (if s0 = 0 then ww (mp_P fx) d 13 59 ls [] h Q else ww (mp_P fx) d 13 16 ls [] h Q) := wr_if_eq (t := 59) rfl
theorem q13_16 (l0 : Option Value) (l1 : Option Value) (l2 : Option Value) (x : Int32) : ww (mp_P fx) d 13 16 [l0, l1, l2, some (.int x)] [] h Q ↔ ww (mp_P fx) d 13 17 [l0, l1, l2, some (.int x)] [.int x] h Q := ww_step rfl
theorem q13_17 (ls : mm_V) (s0 : Int32) : ww (mp_P fx) d 13 17 ls [.int s0] h Q ↔ ww (mp_P fx) d 13 20 ls [.int 1000, .int s0] h Q := wr_sipush (i := 1000) rfl
theorem q13_20 (ls : mm_V) (s0 : Int32) (s1 : Int32) : ww (mp_P fx) d 13 20 ls [.int s0, .int s1] h Q ↔ (if s0 ≤ s1 then ww (mp_P fx) d 13 59 ls [] h Q else ww (mp_P fx) d 13 23 ls [] h Q) := wr_icmp_ge (t := 59) rfl
theorem q13_23 (l1 : Option Value) (l2 : Option Value) (l3 : Option Value) (x : Nat) : ww (mp_P fx) d 13 23 [some (.ref x), l1, l2, l3] [] h Q ↔ ww (mp_P fx) d 13 24 [some (.ref x), l1, l2, l3] [.ref x] h Q := ww_step rfl
theorem q13_24 (ls : mm_V) (s0 : Nat) (hc : mm_cls h s0 = 0) : ww (mp_P fx) (d + 1) 13 24 ls [.ref s0] h Q ↔ wm (mp_P fx) d 50 [.ref s0] h (fun r h' => ww (mp_P fx) (d + 1) 13 27 ls (r.toList ++ []) h' Q) := wr_virtual rfl (mm_recv_ok (n := 0) (rc := 0) ⟨rfl, rfl⟩ rfl hc (by decide)) rfl
theorem q13_27 (ls : mm_V) (s0 : Int32) : ww (mp_P fx) d 13 27 ls [.int s0] h Q ↔ (if ¬ s0 = 0 then ww (mp_P fx) d 13 59 ls [] h Q else ww (mp_P fx) d 13 30 ls [] h Q) := wr_if_ne (t := 59) rfl
theorem q13_30 (l1 : Option Value) (l2 : Option Value) (l3 : Option Value) (x : Nat) : ww (mp_P fx) d 13 30 [some (.ref x), l1, l2, l3] [] h Q ↔ ww (mp_P fx) d 13 31 [some (.ref x), l1, l2, l3] [.ref x] h Q := ww_step rfl
theorem q13_31 (l0 : Option Value) (l2 : Option Value) (l3 : Option Value) (x : Nat) (s0 : Nat) : ww (mp_P fx) d 13 31 [l0, some (.ref x), l2, l3] [.ref s0] h Q ↔ ww (mp_P fx) d 13 32 [l0, some (.ref x), l2, l3] [.ref x, .ref s0] h Q := ww_step rfl
theorem q13_32 (ls : mm_V) (s0 : Nat) (s1 : Nat) : ww (mp_P fx) (d + 1) 13 32 ls [.ref s0, .ref s1] h Q ↔ wm (mp_P fx) d 51 [.ref s1, .ref s0] h (fun r h' => ww (mp_P fx) (d + 1) 13 35 ls (r.toList ++ []) h' Q) := wr_static rfl rfl
theorem q13_35 (ls : mm_V) (s0 : Int32) : ww (mp_P fx) d 13 35 ls [.int s0] h Q ↔ (if s0 = 0 then ww (mp_P fx) d 13 51 ls [] h Q else ww (mp_P fx) d 13 38 ls [] h Q) := wr_if_eq (t := 51) rfl
theorem q13_38 (l1 : Option Value) (l2 : Option Value) (l3 : Option Value) (x : Nat) : ww (mp_P fx) d 13 38 [some (.ref x), l1, l2, l3] [] h Q ↔ ww (mp_P fx) d 13 39 [some (.ref x), l1, l2, l3] [.ref x] h Q := ww_step rfl
theorem q13_39 (ls : mm_V) (s0 : Nat) : ww (mp_P fx) d 13 39 ls [.ref s0] h Q ↔ ww (mp_P fx) d 13 41 ls [.int 59, .ref s0] h Q := wr_bipush (i := 59) rfl
theorem q13_41 (ls : mm_V) (s0 : Int32) (s1 : Nat) (hc : mm_cls h s1 = 0) : ww (mp_P fx) (d + 1) 13 41 ls [.int s0, .ref s1] h Q ↔ wm (mp_P fx) d 89 [.ref s1, .int s0] h (fun r h' => ww (mp_P fx) (d + 1) 13 44 ls (r.toList ++ []) h' Q) := wr_virtual rfl (mm_recv_ok (n := 1) (rc := 0) ⟨rfl, rfl⟩ rfl hc (by decide)) rfl
theorem q13_44 (ls : mm_V) (s0 : Int32) : ww (mp_P fx) d 13 44 ls [.int s0] h Q ↔ (if s0 = 0 then ww (mp_P fx) d 13 51 ls [] h Q else ww (mp_P fx) d 13 47 ls [] h Q) := wr_if_eq (t := 51) rfl
theorem q13_47 (ls : mm_V) : ww (mp_P fx) d 13 47 ls [] h Q ↔ ww (mp_P fx) d 13 48 ls [.int 1] h Q := wr_iconst (i := 1) rfl
theorem q13_48 (ls : mm_V) (s0 : Int32) : ww (mp_P fx) d 13 48 ls [.int s0] h Q ↔ ww (mp_P fx) d 13 52 ls [.int s0] h Q := wr_goto (t := 52) rfl
theorem q13_51 (ls : mm_V) : ww (mp_P fx) d 13 51 ls [] h Q ↔ ww (mp_P fx) d 13 52 ls [.int 0] h Q := wr_iconst (i := 0) rfl
theorem q13_52r (l0 : Option Value) (l2 : Option Value) (l3 : Option Value) (y : Nat) (s0 : Int32) : ww (mp_P fx) d 13 52 [l0, some (.ref y), l2, l3] [.int s0] h Q ↔ ww (mp_P fx) d 13 53 [l0, some (.ref y), some (.int s0), l3] [] h Q := wr_istore_n rfl (mm_s1_ok (Nat.le_of_ble_eq_true rfl) rfl)
theorem q13_53i (l0 : Option Value) (l1 : Option Value) (x : Int32) (y : Int32) : ww (mp_P fx) d 13 53 [l0, l1, some (.int y), some (.int x)] [] h Q ↔ ww (mp_P fx) d 13 56 [l0, l1, some (.int y), some (.int (x + 1))] [] h Q := wr_iinc (n := 3) (i := 1) rfl rfl (mm_s1_ok (Nat.le_of_ble_eq_true rfl) rfl)
theorem q13_56 (ls : mm_V) : ww (mp_P fx) d 13 56 ls [] h Q ↔ ww (mp_P fx) d 13 12 ls [] h Q := wr_goto (t := 12) rfl
theorem q13_59 (l1 : Option Value) (l2 : Option Value) (l3 : Option Value) (x : Nat) : ww (mp_P fx) d 13 59 [some (.ref x), l1, l2, l3] [] h Q ↔ ww (mp_P fx) d 13 60 [some (.ref x), l1, l2, l3] [.ref x] h Q := ww_step rfl
theorem q13_60 (ls : mm_V) (s0 : Nat) : ww (mp_P fx) d 13 60 ls [.ref s0] h Q ↔ ∃ x, mm_gF h s0 0 2 = some x ∧ ww (mp_P fx) d 13 63 ls [x] h Q := wr_getfield (n := 2) rfl
theorem q13_63 (ls : mm_V) (s0 : Int32) : ww (mp_P fx) d 13 63 ls [.int s0] h Q ↔ Q (some (.int s0)) h := wr_ireturn rfl rfl
theorem e13 (a0 : Nat) (a1 : Nat) : wm (mp_P fx) d 13 [.ref a0, .ref a1] h Q ↔ ww (mp_P fx) d 13 0 [some (.ref a0), some (.ref a1), none, none] [] h Q := Iff.rfl
/- 14 RainGrammar$Square.clear.()V -/
theorem q14_0  (x : Nat) : ww (mp_P fx) d 14 0 [some (.ref x)] [] h Q ↔ ww (mp_P fx) d 14 1 [some (.ref x)] [.ref x] h Q := ww_step rfl
theorem q14_1 (ls : mm_V) (s0 : Nat) : ww (mp_P fx) d 14 1 ls [.ref s0] h Q ↔ ww (mp_P fx) d 14 2 ls [.int 0, .ref s0] h Q := wr_iconst (i := 0) rfl
theorem q14_2 (ls : mm_V) (s0 : Int32) (s1 : Nat) : ww (mp_P fx) d 14 2 ls [.int s0, .ref s1] h Q ↔ ∃ h', mm_sF (mp_P fx) h s1 8 1 (.int s0) = some h' ∧ ww (mp_P fx) d 14 5 ls [] h' Q := wr_putfield (n := 801) rfl
theorem q14_5  (x : Nat) : ww (mp_P fx) d 14 5 [some (.ref x)] [] h Q ↔ ww (mp_P fx) d 14 6 [some (.ref x)] [.ref x] h Q := ww_step rfl
theorem q14_6 (ls : mm_V) (s0 : Nat) : ww (mp_P fx) d 14 6 ls [.ref s0] h Q ↔ ww (mp_P fx) d 14 7 ls [.int 0, .ref s0] h Q := wr_iconst (i := 0) rfl
theorem q14_7 (ls : mm_V) (s0 : Int32) (s1 : Nat) : ww (mp_P fx) d 14 7 ls [.int s0, .ref s1] h Q ↔ ∃ h', mm_sF (mp_P fx) h s1 8 4 (.int s0) = some h' ∧ ww (mp_P fx) d 14 10 ls [] h' Q := wr_putfield (n := 804) rfl
theorem q14_10  (x : Nat) : ww (mp_P fx) d 14 10 [some (.ref x)] [] h Q ↔ ww (mp_P fx) d 14 11 [some (.ref x)] [.ref x] h Q := ww_step rfl
theorem q14_11 (ls : mm_V) (s0 : Nat) : ww (mp_P fx) d 14 11 ls [.ref s0] h Q ↔ ww (mp_P fx) d 14 12 ls [.int 0, .ref s0] h Q := wr_iconst (i := 0) rfl
theorem q14_12 (ls : mm_V) (s0 : Int32) (s1 : Nat) : ww (mp_P fx) d 14 12 ls [.int s0, .ref s1] h Q ↔ ∃ h', mm_sF (mp_P fx) h s1 8 8 (.int s0) = some h' ∧ ww (mp_P fx) d 14 15 ls [] h' Q := wr_putfield (n := 808) rfl
theorem q14_15  (x : Nat) : ww (mp_P fx) d 14 15 [some (.ref x)] [] h Q ↔ ww (mp_P fx) d 14 16 [some (.ref x)] [.ref x] h Q := ww_step rfl
theorem q14_16 (ls : mm_V) (s0 : Nat) : ww (mp_P fx) d 14 16 ls [.ref s0] h Q ↔ ww (mp_P fx) d 14 17 ls [.int (-1), .ref s0] h Q := wr_iconst (i := (-1)) rfl
theorem q14_17 (ls : mm_V) (s0 : Int32) (s1 : Nat) : ww (mp_P fx) d 14 17 ls [.int s0, .ref s1] h Q ↔ ∃ h', mm_sF (mp_P fx) h s1 8 9 (.int s0) = some h' ∧ ww (mp_P fx) d 14 20 ls [] h' Q := wr_putfield (n := 809) rfl
theorem q14_20  (x : Nat) : ww (mp_P fx) d 14 20 [some (.ref x)] [] h Q ↔ ww (mp_P fx) d 14 21 [some (.ref x)] [.ref x] h Q := ww_step rfl
theorem q14_21 (ls : mm_V) (s0 : Nat) : ww (mp_P fx) d 14 21 ls [.ref s0] h Q ↔ ww (mp_P fx) d 14 22 ls [.int 0, .ref s0] h Q := wr_iconst (i := 0) rfl
theorem q14_22 (ls : mm_V) (s0 : Int32) (s1 : Nat) : ww (mp_P fx) d 14 22 ls [.int s0, .ref s1] h Q ↔ ∃ h', mm_sF (mp_P fx) h s1 8 16 (.int s0) = some h' ∧ ww (mp_P fx) d 14 25 ls [] h' Q := wr_putfield (n := 816) rfl
theorem q14_25  (x : Nat) : ww (mp_P fx) d 14 25 [some (.ref x)] [] h Q ↔ ww (mp_P fx) d 14 26 [some (.ref x)] [.ref x] h Q := ww_step rfl
theorem q14_26 (ls : mm_V) (s0 : Nat) : ww (mp_P fx) d 14 26 ls [.ref s0] h Q ↔ ww (mp_P fx) d 14 27 ls [.int 0, .ref s0] h Q := wr_iconst (i := 0) rfl
theorem q14_27 (ls : mm_V) (s0 : Int32) (s1 : Nat) : ww (mp_P fx) d 14 27 ls [.int s0, .ref s1] h Q ↔ ∃ h', mm_sF (mp_P fx) h s1 8 18 (.int s0) = some h' ∧ ww (mp_P fx) d 14 30 ls [] h' Q := wr_putfield (n := 818) rfl
theorem q14_30  (x : Nat) : ww (mp_P fx) d 14 30 [some (.ref x)] [] h Q ↔ ww (mp_P fx) d 14 31 [some (.ref x)] [.ref x] h Q := ww_step rfl
theorem q14_31 (ls : mm_V) (s0 : Nat) : ww (mp_P fx) d 14 31 ls [.ref s0] h Q ↔ ∃ x, mm_gF h s0 8 19 = some x ∧ ww (mp_P fx) d 14 34 ls [x] h Q := wr_getfield (n := 819) rfl
theorem q14_34 (ls : mm_V) (s0 : Nat) (hc : mm_cls h s0 = 7) : ww (mp_P fx) (d + 1) 14 34 ls [.ref s0] h Q ↔ wm (mp_P fx) d 15 [.ref s0] h (fun r h' => ww (mp_P fx) (d + 1) 14 37 ls (r.toList ++ []) h' Q) := wr_virtual rfl (mm_recv_ok (n := 0) (rc := 7) ⟨rfl, rfl⟩ rfl hc (by decide)) rfl
theorem q14_37 (ls : mm_V) : ww (mp_P fx) d 14 37 ls [] h Q ↔ Q none h := wr_return rfl rfl
theorem e14 (a0 : Nat) : wm (mp_P fx) d 14 [.ref a0] h Q ↔ ww (mp_P fx) d 14 0 [some (.ref a0)] [] h Q := Iff.rfl
/- 15 RainGrammar$Law.clear.()V -/
theorem q15_0  (x : Nat) : ww (mp_P fx) d 15 0 [some (.ref x)] [] h Q ↔ ww (mp_P fx) d 15 1 [some (.ref x)] [.ref x] h Q := ww_step rfl
theorem q15_1 (ls : mm_V) (s0 : Nat) : ww (mp_P fx) d 15 1 ls [.ref s0] h Q ↔ ww (mp_P fx) d 15 2 ls [.int 0, .ref s0] h Q := wr_iconst (i := 0) rfl
theorem q15_2 (ls : mm_V) (s0 : Int32) (s1 : Nat) : ww (mp_P fx) d 15 2 ls [.int s0, .ref s1] h Q ↔ ∃ h', mm_sF (mp_P fx) h s1 7 1 (.int s0) = some h' ∧ ww (mp_P fx) d 15 5 ls [] h' Q := wr_putfield (n := 701) rfl
theorem q15_5 (ls : mm_V) : ww (mp_P fx) d 15 5 ls [] h Q ↔ Q none h := wr_return rfl rfl
theorem e15 (a0 : Nat) : wm (mp_P fx) d 15 [.ref a0] h Q ↔ ww (mp_P fx) d 15 0 [some (.ref a0)] [] h Q := Iff.rfl
/- 16 RainGrammar$Tape.begin.()V -/
theorem q16_0 (l1 : Option Value) (x : Nat) : ww (mp_P fx) d 16 0 [some (.ref x), l1] [] h Q ↔ ww (mp_P fx) d 16 1 [some (.ref x), l1] [.ref x] h Q := ww_step rfl
theorem q16_1 (ls : mm_V) (s0 : Nat) : ww (mp_P fx) d 16 1 ls [.ref s0] h Q ↔ ww (mp_P fx) d 16 2 ls [.int 0, .ref s0] h Q := wr_iconst (i := 0) rfl
theorem q16_2 (ls : mm_V) (s0 : Int32) (s1 : Nat) : ww (mp_P fx) d 16 2 ls [.int s0, .ref s1] h Q ↔ ∃ h', mm_sF (mp_P fx) h s1 0 2 (.int s0) = some h' ∧ ww (mp_P fx) d 16 5 ls [] h' Q := wr_putfield (n := 2) rfl
theorem q16_5 (l1 : Option Value) (x : Nat) : ww (mp_P fx) d 16 5 [some (.ref x), l1] [] h Q ↔ ww (mp_P fx) d 16 6 [some (.ref x), l1] [.ref x] h Q := ww_step rfl
theorem q16_6 (ls : mm_V) (s0 : Nat) : ww (mp_P fx) d 16 6 ls [.ref s0] h Q ↔ ww (mp_P fx) d 16 7 ls [.int 0, .ref s0] h Q := wr_iconst (i := 0) rfl
theorem q16_7 (ls : mm_V) (s0 : Int32) (s1 : Nat) : ww (mp_P fx) d 16 7 ls [.int s0, .ref s1] h Q ↔ ∃ h', mm_sF (mp_P fx) h s1 0 6 (.int s0) = some h' ∧ ww (mp_P fx) d 16 10 ls [] h' Q := wr_putfield (n := 6) rfl
theorem q16_10 (l1 : Option Value) (x : Nat) : ww (mp_P fx) d 16 10 [some (.ref x), l1] [] h Q ↔ ww (mp_P fx) d 16 11 [some (.ref x), l1] [.ref x] h Q := ww_step rfl
theorem q16_11 (ls : mm_V) (s0 : Nat) : ww (mp_P fx) d 16 11 ls [.ref s0] h Q ↔ ww (mp_P fx) d 16 12 ls [.int 0, .ref s0] h Q := wr_iconst (i := 0) rfl
theorem q16_12 (ls : mm_V) (s0 : Int32) (s1 : Nat) : ww (mp_P fx) d 16 12 ls [.int s0, .ref s1] h Q ↔ ∃ h', mm_sF (mp_P fx) h s1 0 8 (.int s0) = some h' ∧ ww (mp_P fx) d 16 15 ls [] h' Q := wr_putfield (n := 8) rfl
theorem q16_15 (ls : mm_V) : ww (mp_P fx) d 16 15 ls [] h Q ↔ ww (mp_P fx) d 16 16 ls [.int 0] h Q := wr_iconst (i := 0) rfl
theorem q16_16r (l1 : Option Value) (y : Nat) (s0 : Int32) : ww (mp_P fx) d 16 16 [some (.ref y), l1] [.int s0] h Q ↔ ww (mp_P fx) d 16 17 [some (.ref y), some (.int s0)] [] h Q := wr_istore_n rfl (mm_s1_ok (Nat.le_of_ble_eq_true rfl) rfl)
theorem q16_17 (l0 : Option Value) (x : Int32) : ww (mp_P fx) d 16 17 [l0, some (.int x)] [] h Q ↔ ww (mp_P fx) d 16 18 [l0, some (.int x)] [.int x] h Q := ww_step rfl
theorem q16_18 (ls : mm_V) (s0 : Int32) : ww (mp_P fx) d 16 18 ls [.int s0] h Q ↔ ww (mp_P fx) d 16 21 ls [.int 1000, .int s0] h Q := wr_sipush (i := 1000) rfl
theorem q16_21 (ls : mm_V) (s0 : Int32) (s1 : Int32) : ww (mp_P fx) d 16 21 ls [.int s0, .int s1] h Q ↔ (if s0 ≤ s1 then ww (mp_P fx) d 16 51 ls [] h Q else ww (mp_P fx) d 16 24 ls [] h Q) := wr_icmp_ge (t := 51) rfl
theorem q16_24 (l1 : Option Value) (x : Nat) : ww (mp_P fx) d 16 24 [some (.ref x), l1] [] h Q ↔ ww (mp_P fx) d 16 25 [some (.ref x), l1] [.ref x] h Q := ww_step rfl
theorem q16_25 (ls : mm_V) (s0 : Nat) (hc : mm_cls h s0 = 0) : ww (mp_P fx) (d + 1) 16 25 ls [.ref s0] h Q ↔ wm (mp_P fx) d 17 [.ref s0] h (fun r h' => ww (mp_P fx) (d + 1) 16 28 ls (r.toList ++ []) h' Q) := wr_virtual rfl (mm_recv_ok (n := 0) (rc := 0) ⟨rfl, rfl⟩ rfl hc (by decide)) rfl
theorem q16_28 (ls : mm_V) (s0 : Int32) : ww (mp_P fx) d 16 28 ls [.int s0] h Q ↔ (if s0 = 0 then ww (mp_P fx) d 16 51 ls [] h Q else ww (mp_P fx) d 16 31 ls [] h Q) := wr_if_eq (t := 51) rfl
theorem q16_31 (l1 : Option Value) (x : Nat) : ww (mp_P fx) d 16 31 [some (.ref x), l1] [] h Q ↔ ww (mp_P fx) d 16 32 [some (.ref x), l1] [.ref x] h Q := ww_step rfl
theorem q16_32 (ls : mm_V) (s0 : Nat) (hc : mm_cls h s0 = 0) : ww (mp_P fx) (d + 1) 16 32 ls [.ref s0] h Q ↔ wm (mp_P fx) d 18 [.ref s0] h (fun r h' => ww (mp_P fx) (d + 1) 16 35 ls (r.toList ++ []) h' Q) := wr_virtual rfl (mm_recv_ok (n := 0) (rc := 0) ⟨rfl, rfl⟩ rfl hc (by decide)) rfl
theorem q16_35 (l1 : Option Value) (x : Nat) : ww (mp_P fx) d 16 35 [some (.ref x), l1] [] h Q ↔ ww (mp_P fx) d 16 36 [some (.ref x), l1] [.ref x] h Q := ww_step rfl
theorem q16_36 (ls : mm_V) (s0 : Nat) : ww (mp_P fx) d 16 36 ls [.ref s0] h Q ↔ ww (mp_P fx) d 16 37 ls [.ref s0, .ref s0] h Q := ww_step rfl
theorem q16_37 (ls : mm_V) (s0 : Nat) (s1 : Nat) : ww (mp_P fx) d 16 37 ls [.ref s0, .ref s1] h Q ↔ ∃ x, mm_gF h s0 0 6 = some x ∧ ww (mp_P fx) d 16 40 ls [x, .ref s1] h Q := wr_getfield (n := 6) rfl
theorem q16_40 (ls : mm_V) (s0 : Int32) (s1 : Nat) : ww (mp_P fx) d 16 40 ls [.int s0, .ref s1] h Q ↔ ww (mp_P fx) d 16 41 ls [.int 1, .int s0, .ref s1] h Q := wr_iconst (i := 1) rfl
theorem q16_41 (ls : mm_V) (s0 : Int32) (s1 : Int32) (s2 : Nat) : ww (mp_P fx) d 16 41 ls [.int s0, .int s1, .ref s2] h Q ↔ ww (mp_P fx) d 16 42 ls [.int (s1 + s0), .ref s2] h Q := wr_iadd rfl
theorem q16_42 (ls : mm_V) (s0 : Int32) (s1 : Nat) : ww (mp_P fx) d 16 42 ls [.int s0, .ref s1] h Q ↔ ∃ h', mm_sF (mp_P fx) h s1 0 6 (.int s0) = some h' ∧ ww (mp_P fx) d 16 45 ls [] h' Q := wr_putfield (n := 6) rfl
theorem q16_45r  (x : Int32) (y : Nat) : ww (mp_P fx) d 16 45 [some (.ref y), some (.int x)] [] h Q ↔ ww (mp_P fx) d 16 48 [some (.ref y), some (.int (x + 1))] [] h Q := wr_iinc (n := 1) (i := 1) rfl rfl (mm_s1_ok (Nat.le_of_ble_eq_true rfl) rfl)
theorem q16_48 (ls : mm_V) : ww (mp_P fx) d 16 48 ls [] h Q ↔ ww (mp_P fx) d 16 17 ls [] h Q := wr_goto (t := 17) rfl
theorem q16_51 (l1 : Option Value) (x : Nat) : ww (mp_P fx) d 16 51 [some (.ref x), l1] [] h Q ↔ ww (mp_P fx) d 16 52 [some (.ref x), l1] [.ref x] h Q := ww_step rfl
theorem q16_52 (ls : mm_V) (s0 : Nat) : ww (mp_P fx) d 16 52 ls [.ref s0] h Q ↔ ∃ x, mm_gF h s0 0 3 = some x ∧ ww (mp_P fx) d 16 55 ls [x] h Q := wr_getfield (n := 3) rfl
theorem q16_55 (l1 : Option Value) (x : Nat) (s0 : Nat) : ww (mp_P fx) d 16 55 [some (.ref x), l1] [.ref s0] h Q ↔ ww (mp_P fx) d 16 56 [some (.ref x), l1] [.ref x, .ref s0] h Q := ww_step rfl
theorem q16_56 (ls : mm_V) (s0 : Nat) (s1 : Nat) : ww (mp_P fx) d 16 56 ls [.ref s0, .ref s1] h Q ↔ ∃ x, mm_gF h s0 0 6 = some x ∧ ww (mp_P fx) d 16 59 ls [x, .ref s1] h Q := wr_getfield (n := 6) rfl
theorem q16_59 (ls : mm_V) (s0 : Int32) (s1 : Nat) : ww (mp_P fx) d 16 59 ls [.int s0, .ref s1] h Q ↔ ww (mp_P fx) d 16 60 ls [.int 0, .int s0, .ref s1] h Q := wr_iconst (i := 0) rfl
theorem q16_60 (ls : mm_V) (s0 : Int32) (s1 : Int32) (s2 : Nat) : ww (mp_P fx) d 16 60 ls [.int s0, .int s1, .ref s2] h Q ↔ ∃ h', mm_sI h s2 0 s1 s0 = some h' ∧ ww (mp_P fx) d 16 61 ls [] h' Q := wr_iastore rfl
theorem q16_61 (l1 : Option Value) (x : Nat) : ww (mp_P fx) d 16 61 [some (.ref x), l1] [] h Q ↔ ww (mp_P fx) d 16 62 [some (.ref x), l1] [.ref x] h Q := ww_step rfl
theorem q16_62 (ls : mm_V) (s0 : Nat) : ww (mp_P fx) d 16 62 ls [.ref s0] h Q ↔ ∃ x, mm_gF h s0 0 4 = some x ∧ ww (mp_P fx) d 16 65 ls [x] h Q := wr_getfield (n := 4) rfl
theorem q16_65 (l1 : Option Value) (x : Nat) (s0 : Nat) : ww (mp_P fx) d 16 65 [some (.ref x), l1] [.ref s0] h Q ↔ ww (mp_P fx) d 16 66 [some (.ref x), l1] [.ref x, .ref s0] h Q := ww_step rfl
theorem q16_66 (ls : mm_V) (s0 : Nat) (s1 : Nat) : ww (mp_P fx) d 16 66 ls [.ref s0, .ref s1] h Q ↔ ∃ x, mm_gF h s0 0 6 = some x ∧ ww (mp_P fx) d 16 69 ls [x, .ref s1] h Q := wr_getfield (n := 6) rfl
theorem q16_69 (l1 : Option Value) (x : Nat) (s0 : Int32) (s1 : Nat) : ww (mp_P fx) d 16 69 [some (.ref x), l1] [.int s0, .ref s1] h Q ↔ ww (mp_P fx) d 16 70 [some (.ref x), l1] [.ref x, .int s0, .ref s1] h Q := ww_step rfl
theorem q16_70 (ls : mm_V) (s0 : Nat) (s1 : Int32) (s2 : Nat) : ww (mp_P fx) d 16 70 ls [.ref s0, .int s1, .ref s2] h Q ↔ ∃ x, mm_gF h s0 0 1 = some x ∧ ww (mp_P fx) d 16 73 ls [x, .int s1, .ref s2] h Q := wr_getfield (n := 1) rfl
theorem q16_73 (ls : mm_V) (s0 : Int32) (s1 : Int32) (s2 : Nat) : ww (mp_P fx) d 16 73 ls [.int s0, .int s1, .ref s2] h Q ↔ ∃ h', mm_sI h s2 0 s1 s0 = some h' ∧ ww (mp_P fx) d 16 74 ls [] h' Q := wr_iastore rfl
theorem q16_74 (l1 : Option Value) (x : Nat) : ww (mp_P fx) d 16 74 [some (.ref x), l1] [] h Q ↔ ww (mp_P fx) d 16 75 [some (.ref x), l1] [.ref x] h Q := ww_step rfl
theorem q16_75 (ls : mm_V) (s0 : Nat) : ww (mp_P fx) d 16 75 ls [.ref s0] h Q ↔ ww (mp_P fx) d 16 76 ls [.int 0, .ref s0] h Q := wr_iconst (i := 0) rfl
theorem q16_76 (ls : mm_V) (s0 : Int32) (s1 : Nat) : ww (mp_P fx) d 16 76 ls [.int s0, .ref s1] h Q ↔ ∃ h', mm_sF (mp_P fx) h s1 0 7 (.int s0) = some h' ∧ ww (mp_P fx) d 16 79 ls [] h' Q := wr_putfield (n := 7) rfl
theorem q16_79 (l1 : Option Value) (x : Nat) : ww (mp_P fx) d 16 79 [some (.ref x), l1] [] h Q ↔ ww (mp_P fx) d 16 80 [some (.ref x), l1] [.ref x] h Q := ww_step rfl
theorem q16_80 (ls : mm_V) (s0 : Nat) : ww (mp_P fx) d 16 80 ls [.ref s0] h Q ↔ ww (mp_P fx) d 16 81 ls [.int 0, .ref s0] h Q := wr_iconst (i := 0) rfl
theorem q16_81 (ls : mm_V) (s0 : Int32) (s1 : Nat) : ww (mp_P fx) d 16 81 ls [.int s0, .ref s1] h Q ↔ ∃ h', mm_sF (mp_P fx) h s1 0 1 (.int s0) = some h' ∧ ww (mp_P fx) d 16 84 ls [] h' Q := wr_putfield (n := 1) rfl
theorem q16_84 (ls : mm_V) : ww (mp_P fx) d 16 84 ls [] h Q ↔ Q none h := wr_return rfl rfl
theorem e16 (a0 : Nat) : wm (mp_P fx) d 16 [.ref a0] h Q ↔ ww (mp_P fx) d 16 0 [some (.ref a0), none] [] h Q := Iff.rfl
/- 17 RainGrammar$Tape.skipBlanks.()Z -/
theorem q17_0  (x : Nat) : ww (mp_P fx) d 17 0 [some (.ref x)] [] h Q ↔ ww (mp_P fx) d 17 1 [some (.ref x)] [.ref x] h Q := ww_step rfl
theorem q17_1 (ls : mm_V) (s0 : Nat) : ww (mp_P fx) d 17 1 ls [.ref s0] h Q ↔ ∃ x, mm_gF h s0 0 8 = some x ∧ ww (mp_P fx) d 17 4 ls [x] h Q := wr_getfield (n := 8) rfl
theorem q17_4  (x : Nat) (s0 : Int32) : ww (mp_P fx) d 17 4 [some (.ref x)] [.int s0] h Q ↔ ww (mp_P fx) d 17 5 [some (.ref x)] [.ref x, .int s0] h Q := ww_step rfl
theorem q17_5 (ls : mm_V) (s0 : Nat) (s1 : Int32) : ww (mp_P fx) d 17 5 ls [.ref s0, .int s1] h Q ↔ ∃ x, mm_gF h s0 0 1 = some x ∧ ww (mp_P fx) d 17 8 ls [x, .int s1] h Q := wr_getfield (n := 1) rfl
theorem q17_8 (ls : mm_V) (s0 : Int32) (s1 : Int32) : ww (mp_P fx) d 17 8 ls [.int s0, .int s1] h Q ↔ (if s0 ≤ s1 then ww (mp_P fx) d 17 52 ls [] h Q else ww (mp_P fx) d 17 11 ls [] h Q) := wr_icmp_ge (t := 52) rfl
theorem q17_11  (x : Nat) : ww (mp_P fx) d 17 11 [some (.ref x)] [] h Q ↔ ww (mp_P fx) d 17 12 [some (.ref x)] [.ref x] h Q := ww_step rfl
theorem q17_12 (ls : mm_V) (s0 : Nat) : ww (mp_P fx) d 17 12 ls [.ref s0] h Q ↔ ∃ x, mm_gF h s0 0 0 = some x ∧ ww (mp_P fx) d 17 15 ls [x] h Q := wr_getfield (n := 0) rfl
theorem q17_15  (x : Nat) (s0 : Nat) : ww (mp_P fx) d 17 15 [some (.ref x)] [.ref s0] h Q ↔ ww (mp_P fx) d 17 16 [some (.ref x)] [.ref x, .ref s0] h Q := ww_step rfl
theorem q17_16 (ls : mm_V) (s0 : Nat) (s1 : Nat) : ww (mp_P fx) d 17 16 ls [.ref s0, .ref s1] h Q ↔ ∃ x, mm_gF h s0 0 8 = some x ∧ ww (mp_P fx) d 17 19 ls [x, .ref s1] h Q := wr_getfield (n := 8) rfl
theorem q17_19 (ls : mm_V) (s0 : Int32) (s1 : Nat) : ww (mp_P fx) d 17 19 ls [.int s0, .ref s1] h Q ↔ ∃ x, mm_gI h s1 1 1 s0 = some x ∧ ww (mp_P fx) d 17 20 ls [.int x] h Q := wr_caload rfl
theorem q17_20 (ls : mm_V) (s0 : Int32) : ww (mp_P fx) d 17 20 ls [.int s0] h Q ↔ ww (mp_P fx) d 17 22 ls [.int 10, .int s0] h Q := wr_bipush (i := 10) rfl
theorem q17_22 (ls : mm_V) (s0 : Int32) (s1 : Int32) : ww (mp_P fx) d 17 22 ls [.int s0, .int s1] h Q ↔ (if s1 = s0 then ww (mp_P fx) d 17 39 ls [] h Q else ww (mp_P fx) d 17 25 ls [] h Q) := wr_icmp_eq (t := 39) rfl
theorem q17_25  (x : Nat) : ww (mp_P fx) d 17 25 [some (.ref x)] [] h Q ↔ ww (mp_P fx) d 17 26 [some (.ref x)] [.ref x] h Q := ww_step rfl
theorem q17_26 (ls : mm_V) (s0 : Nat) : ww (mp_P fx) d 17 26 ls [.ref s0] h Q ↔ ∃ x, mm_gF h s0 0 0 = some x ∧ ww (mp_P fx) d 17 29 ls [x] h Q := wr_getfield (n := 0) rfl
theorem q17_29  (x : Nat) (s0 : Nat) : ww (mp_P fx) d 17 29 [some (.ref x)] [.ref s0] h Q ↔ ww (mp_P fx) d 17 30 [some (.ref x)] [.ref x, .ref s0] h Q := ww_step rfl
theorem q17_30 (ls : mm_V) (s0 : Nat) (s1 : Nat) : ww (mp_P fx) d 17 30 ls [.ref s0, .ref s1] h Q ↔ ∃ x, mm_gF h s0 0 8 = some x ∧ ww (mp_P fx) d 17 33 ls [x, .ref s1] h Q := wr_getfield (n := 8) rfl
theorem q17_33 (ls : mm_V) (s0 : Int32) (s1 : Nat) : ww (mp_P fx) d 17 33 ls [.int s0, .ref s1] h Q ↔ ∃ x, mm_gI h s1 1 1 s0 = some x ∧ ww (mp_P fx) d 17 34 ls [.int x] h Q := wr_caload rfl
theorem q17_34 (ls : mm_V) (s0 : Int32) : ww (mp_P fx) d 17 34 ls [.int s0] h Q ↔ ww (mp_P fx) d 17 36 ls [.int 32, .int s0] h Q := wr_bipush (i := 32) rfl
theorem q17_36 (ls : mm_V) (s0 : Int32) (s1 : Int32) : ww (mp_P fx) d 17 36 ls [.int s0, .int s1] h Q ↔ (if ¬ s1 = s0 then ww (mp_P fx) d 17 52 ls [] h Q else ww (mp_P fx) d 17 39 ls [] h Q) := wr_icmp_ne (t := 52) rfl
theorem q17_39  (x : Nat) : ww (mp_P fx) d 17 39 [some (.ref x)] [] h Q ↔ ww (mp_P fx) d 17 40 [some (.ref x)] [.ref x] h Q := ww_step rfl
theorem q17_40 (ls : mm_V) (s0 : Nat) : ww (mp_P fx) d 17 40 ls [.ref s0] h Q ↔ ww (mp_P fx) d 17 41 ls [.ref s0, .ref s0] h Q := ww_step rfl
theorem q17_41 (ls : mm_V) (s0 : Nat) (s1 : Nat) : ww (mp_P fx) d 17 41 ls [.ref s0, .ref s1] h Q ↔ ∃ x, mm_gF h s0 0 8 = some x ∧ ww (mp_P fx) d 17 44 ls [x, .ref s1] h Q := wr_getfield (n := 8) rfl
theorem q17_44 (ls : mm_V) (s0 : Int32) (s1 : Nat) : ww (mp_P fx) d 17 44 ls [.int s0, .ref s1] h Q ↔ ww (mp_P fx) d 17 45 ls [.int 1, .int s0, .ref s1] h Q := wr_iconst (i := 1) rfl
theorem q17_45 (ls : mm_V) (s0 : Int32) (s1 : Int32) (s2 : Nat) : ww (mp_P fx) d 17 45 ls [.int s0, .int s1, .ref s2] h Q ↔ ww (mp_P fx) d 17 46 ls [.int (s1 + s0), .ref s2] h Q := wr_iadd rfl
theorem q17_46 (ls : mm_V) (s0 : Int32) (s1 : Nat) : ww (mp_P fx) d 17 46 ls [.int s0, .ref s1] h Q ↔ ∃ h', mm_sF (mp_P fx) h s1 0 8 (.int s0) = some h' ∧ ww (mp_P fx) d 17 49 ls [] h' Q := wr_putfield (n := 8) rfl
theorem q17_49 (ls : mm_V) : ww (mp_P fx) d 17 49 ls [] h Q ↔ ww (mp_P fx) d 17 0 ls [] h Q := wr_goto (t := 0) rfl
theorem q17_52  (x : Nat) : ww (mp_P fx) d 17 52 [some (.ref x)] [] h Q ↔ ww (mp_P fx) d 17 53 [some (.ref x)] [.ref x] h Q := ww_step rfl
theorem q17_53 (ls : mm_V) (s0 : Nat) : ww (mp_P fx) d 17 53 ls [.ref s0] h Q ↔ ∃ x, mm_gF h s0 0 8 = some x ∧ ww (mp_P fx) d 17 56 ls [x] h Q := wr_getfield (n := 8) rfl
theorem q17_56  (x : Nat) (s0 : Int32) : ww (mp_P fx) d 17 56 [some (.ref x)] [.int s0] h Q ↔ ww (mp_P fx) d 17 57 [some (.ref x)] [.ref x, .int s0] h Q := ww_step rfl
theorem q17_57 (ls : mm_V) (s0 : Nat) (s1 : Int32) : ww (mp_P fx) d 17 57 ls [.ref s0, .int s1] h Q ↔ ∃ x, mm_gF h s0 0 1 = some x ∧ ww (mp_P fx) d 17 60 ls [x, .int s1] h Q := wr_getfield (n := 1) rfl
theorem q17_60 (ls : mm_V) (s0 : Int32) (s1 : Int32) : ww (mp_P fx) d 17 60 ls [.int s0, .int s1] h Q ↔ (if s0 ≤ s1 then ww (mp_P fx) d 17 67 ls [] h Q else ww (mp_P fx) d 17 63 ls [] h Q) := wr_icmp_ge (t := 67) rfl
theorem q17_63 (ls : mm_V) : ww (mp_P fx) d 17 63 ls [] h Q ↔ ww (mp_P fx) d 17 64 ls [.int 1] h Q := wr_iconst (i := 1) rfl
theorem q17_64 (ls : mm_V) (s0 : Int32) : ww (mp_P fx) d 17 64 ls [.int s0] h Q ↔ ww (mp_P fx) d 17 68 ls [.int s0] h Q := wr_goto (t := 68) rfl
theorem q17_67 (ls : mm_V) : ww (mp_P fx) d 17 67 ls [] h Q ↔ ww (mp_P fx) d 17 68 ls [.int 0] h Q := wr_iconst (i := 0) rfl
theorem q17_68 (ls : mm_V) (s0 : Int32) (hb : mm_ret (mp_sig 17).2.2.2 (.int s0) = true) : ww (mp_P fx) d 17 68 ls [.int s0] h Q ↔ Q (some (.int s0)) h := wr_ireturn rfl hb
theorem b17_0 : mm_ret (mp_sig 17).2.2.2 (.int 0) = true := by decide +kernel
theorem b17_1 : mm_ret (mp_sig 17).2.2.2 (.int 1) = true := by decide +kernel
theorem e17 (a0 : Nat) : wm (mp_P fx) d 17 [.ref a0] h Q ↔ ww (mp_P fx) d 17 0 [some (.ref a0)] [] h Q := Iff.rfl
/- 18 RainGrammar$Tape.addToken.()V -/
theorem q18_0 (l1 : Option Value) (x : Nat) : ww (mp_P fx) d 18 0 [some (.ref x), l1] [] h Q ↔ ww (mp_P fx) d 18 1 [some (.ref x), l1] [.ref x] h Q := ww_step rfl
theorem q18_1 (ls : mm_V) (s0 : Nat) : ww (mp_P fx) d 18 1 ls [.ref s0] h Q ↔ ∃ x, mm_gF h s0 0 0 = some x ∧ ww (mp_P fx) d 18 4 ls [x] h Q := wr_getfield (n := 0) rfl
theorem q18_4 (l1 : Option Value) (x : Nat) (s0 : Nat) : ww (mp_P fx) d 18 4 [some (.ref x), l1] [.ref s0] h Q ↔ ww (mp_P fx) d 18 5 [some (.ref x), l1] [.ref x, .ref s0] h Q := ww_step rfl
theorem q18_5 (ls : mm_V) (s0 : Nat) (s1 : Nat) : ww (mp_P fx) d 18 5 ls [.ref s0, .ref s1] h Q ↔ ∃ x, mm_gF h s0 0 8 = some x ∧ ww (mp_P fx) d 18 8 ls [x, .ref s1] h Q := wr_getfield (n := 8) rfl
theorem q18_8 (ls : mm_V) (s0 : Int32) (s1 : Nat) : ww (mp_P fx) d 18 8 ls [.int s0, .ref s1] h Q ↔ ∃ x, mm_gI h s1 1 1 s0 = some x ∧ ww (mp_P fx) d 18 9 ls [.int x] h Q := wr_caload rfl
theorem q18_9r (l1 : Option Value) (y : Nat) (s0 : Int32) : ww (mp_P fx) d 18 9 [some (.ref y), l1] [.int s0] h Q ↔ ww (mp_P fx) d 18 10 [some (.ref y), some (.int s0)] [] h Q := wr_istore_n rfl (mm_s1_ok (Nat.le_of_ble_eq_true rfl) rfl)
theorem q18_10 (l1 : Option Value) (x : Nat) : ww (mp_P fx) d 18 10 [some (.ref x), l1] [] h Q ↔ ww (mp_P fx) d 18 11 [some (.ref x), l1] [.ref x] h Q := ww_step rfl
theorem q18_11 (ls : mm_V) (s0 : Nat) : ww (mp_P fx) d 18 11 ls [.ref s0] h Q ↔ ∃ x, mm_gF h s0 0 4 = some x ∧ ww (mp_P fx) d 18 14 ls [x] h Q := wr_getfield (n := 4) rfl
theorem q18_14 (l1 : Option Value) (x : Nat) (s0 : Nat) : ww (mp_P fx) d 18 14 [some (.ref x), l1] [.ref s0] h Q ↔ ww (mp_P fx) d 18 15 [some (.ref x), l1] [.ref x, .ref s0] h Q := ww_step rfl
theorem q18_15 (ls : mm_V) (s0 : Nat) (s1 : Nat) : ww (mp_P fx) d 18 15 ls [.ref s0, .ref s1] h Q ↔ ∃ x, mm_gF h s0 0 6 = some x ∧ ww (mp_P fx) d 18 18 ls [x, .ref s1] h Q := wr_getfield (n := 6) rfl
theorem q18_18 (l1 : Option Value) (x : Nat) (s0 : Int32) (s1 : Nat) : ww (mp_P fx) d 18 18 [some (.ref x), l1] [.int s0, .ref s1] h Q ↔ ww (mp_P fx) d 18 19 [some (.ref x), l1] [.ref x, .int s0, .ref s1] h Q := ww_step rfl
theorem q18_19 (ls : mm_V) (s0 : Nat) (s1 : Int32) (s2 : Nat) : ww (mp_P fx) d 18 19 ls [.ref s0, .int s1, .ref s2] h Q ↔ ∃ x, mm_gF h s0 0 8 = some x ∧ ww (mp_P fx) d 18 22 ls [x, .int s1, .ref s2] h Q := wr_getfield (n := 8) rfl
theorem q18_22 (ls : mm_V) (s0 : Int32) (s1 : Int32) (s2 : Nat) : ww (mp_P fx) d 18 22 ls [.int s0, .int s1, .ref s2] h Q ↔ ∃ h', mm_sI h s2 0 s1 s0 = some h' ∧ ww (mp_P fx) d 18 23 ls [] h' Q := wr_iastore rfl
theorem q18_23 (l0 : Option Value) (x : Int32) : ww (mp_P fx) d 18 23 [l0, some (.int x)] [] h Q ↔ ww (mp_P fx) d 18 24 [l0, some (.int x)] [.int x] h Q := ww_step rfl
theorem q18_24 (ls : mm_V) (s0 : Int32) : ww (mp_P fx) (d + 1) 18 24 ls [.int s0] h Q ↔ wm (mp_P fx) d 19 [.int s0] h (fun r h' => ww (mp_P fx) (d + 1) 18 27 ls (r.toList ++ []) h' Q) := wr_static rfl rfl
theorem q18_27 (ls : mm_V) (s0 : Int32) : ww (mp_P fx) d 18 27 ls [.int s0] h Q ↔ (if s0 = 0 then ww (mp_P fx) d 18 37 ls [] h Q else ww (mp_P fx) d 18 30 ls [] h Q) := wr_if_eq (t := 37) rfl
theorem q18_30 (l1 : Option Value) (x : Nat) : ww (mp_P fx) d 18 30 [some (.ref x), l1] [] h Q ↔ ww (mp_P fx) d 18 31 [some (.ref x), l1] [.ref x] h Q := ww_step rfl
theorem q18_31 (ls : mm_V) (s0 : Nat) (hc : mm_cls h s0 = 0) : ww (mp_P fx) (d + 1) 18 31 ls [.ref s0] h Q ↔ wm (mp_P fx) d 20 [.ref s0] h (fun r h' => ww (mp_P fx) (d + 1) 18 34 ls (r.toList ++ []) h' Q) := wr_virtual rfl (mm_recv_ok (n := 0) (rc := 0) ⟨rfl, rfl⟩ rfl hc (by decide)) rfl
theorem q18_34 (ls : mm_V) : ww (mp_P fx) d 18 34 ls [] h Q ↔ ww (mp_P fx) d 18 95 ls [] h Q := wr_goto (t := 95) rfl
theorem q18_37 (l0 : Option Value) (x : Int32) : ww (mp_P fx) d 18 37 [l0, some (.int x)] [] h Q ↔ ww (mp_P fx) d 18 38 [l0, some (.int x)] [.int x] h Q := ww_step rfl
theorem q18_38 (ls : mm_V) (s0 : Int32) : ww (mp_P fx) (d + 1) 18 38 ls [.int s0] h Q ↔ wm (mp_P fx) d 33 [.int s0] h (fun r h' => ww (mp_P fx) (d + 1) 18 41 ls (r.toList ++ []) h' Q) := wr_static rfl rfl
theorem q18_41 (ls : mm_V) (s0 : Int32) : ww (mp_P fx) d 18 41 ls [.int s0] h Q ↔ (if s0 = 0 then ww (mp_P fx) d 18 51 ls [] h Q else ww (mp_P fx) d 18 44 ls [] h Q) := wr_if_eq (t := 51) rfl
theorem q18_44 (l1 : Option Value) (x : Nat) : ww (mp_P fx) d 18 44 [some (.ref x), l1] [] h Q ↔ ww (mp_P fx) d 18 45 [some (.ref x), l1] [.ref x] h Q := ww_step rfl
theorem q18_45 (ls : mm_V) (s0 : Nat) (hc : mm_cls h s0 = 0) : ww (mp_P fx) (d + 1) 18 45 ls [.ref s0] h Q ↔ wm (mp_P fx) d 34 [.ref s0] h (fun r h' => ww (mp_P fx) (d + 1) 18 48 ls (r.toList ++ []) h' Q) := wr_virtual rfl (mm_recv_ok (n := 0) (rc := 0) ⟨rfl, rfl⟩ rfl hc (by decide)) rfl
theorem q18_48 (ls : mm_V) : ww (mp_P fx) d 18 48 ls [] h Q ↔ ww (mp_P fx) d 18 95 ls [] h Q := wr_goto (t := 95) rfl
theorem q18_51 (l1 : Option Value) (x : Nat) : ww (mp_P fx) d 18 51 [some (.ref x), l1] [] h Q ↔ ww (mp_P fx) d 18 52 [some (.ref x), l1] [.ref x] h Q := ww_step rfl
theorem q18_52 (ls : mm_V) (s0 : Nat) : ww (mp_P fx) d 18 52 ls [.ref s0] h Q ↔ ww (mp_P fx) d 18 53 ls [.ref s0, .ref s0] h Q := ww_step rfl
theorem q18_53 (ls : mm_V) (s0 : Nat) (s1 : Nat) : ww (mp_P fx) d 18 53 ls [.ref s0, .ref s1] h Q ↔ ∃ x, mm_gF h s0 0 8 = some x ∧ ww (mp_P fx) d 18 56 ls [x, .ref s1] h Q := wr_getfield (n := 8) rfl
theorem q18_56 (ls : mm_V) (s0 : Int32) (s1 : Nat) : ww (mp_P fx) d 18 56 ls [.int s0, .ref s1] h Q ↔ ww (mp_P fx) d 18 57 ls [.int 1, .int s0, .ref s1] h Q := wr_iconst (i := 1) rfl
theorem q18_57 (ls : mm_V) (s0 : Int32) (s1 : Int32) (s2 : Nat) : ww (mp_P fx) d 18 57 ls [.int s0, .int s1, .ref s2] h Q ↔ ww (mp_P fx) d 18 58 ls [.int (s1 + s0), .ref s2] h Q := wr_iadd rfl
theorem q18_58 (ls : mm_V) (s0 : Int32) (s1 : Nat) : ww (mp_P fx) d 18 58 ls [.int s0, .ref s1] h Q ↔ ∃ h', mm_sF (mp_P fx) h s1 0 8 (.int s0) = some h' ∧ ww (mp_P fx) d 18 61 ls [] h' Q := wr_putfield (n := 8) rfl
theorem q18_61 (l1 : Option Value) (x : Nat) : ww (mp_P fx) d 18 61 [some (.ref x), l1] [] h Q ↔ ww (mp_P fx) d 18 62 [some (.ref x), l1] [.ref x] h Q := ww_step rfl
theorem q18_62 (ls : mm_V) (s0 : Nat) : ww (mp_P fx) d 18 62 ls [.ref s0] h Q ↔ ∃ x, mm_gF h s0 0 3 = some x ∧ ww (mp_P fx) d 18 65 ls [x] h Q := wr_getfield (n := 3) rfl
theorem q18_65 (l1 : Option Value) (x : Nat) (s0 : Nat) : ww (mp_P fx) d 18 65 [some (.ref x), l1] [.ref s0] h Q ↔ ww (mp_P fx) d 18 66 [some (.ref x), l1] [.ref x, .ref s0] h Q := ww_step rfl
theorem q18_66 (ls : mm_V) (s0 : Nat) (s1 : Nat) : ww (mp_P fx) d 18 66 ls [.ref s0, .ref s1] h Q ↔ ∃ x, mm_gF h s0 0 6 = some x ∧ ww (mp_P fx) d 18 69 ls [x, .ref s1] h Q := wr_getfield (n := 6) rfl
theorem q18_69 (ls : mm_V) (s0 : Int32) (s1 : Nat) : ww (mp_P fx) d 18 69 ls [.int s0, .ref s1] h Q ↔ ww (mp_P fx) d 18 71 ls [.ref 45, .int s0, .ref s1] h Q := wr_fload (i := 45) rfl
theorem q18_71 (l0 : Option Value) (x : Int32) (s0 : Nat) (s1 : Int32) (s2 : Nat) : ww (mp_P fx) d 18 71 [l0, some (.int x)] [.ref s0, .int s1, .ref s2] h Q ↔ ww (mp_P fx) d 18 72 [l0, some (.int x)] [.int x, .ref s0, .int s1, .ref s2] h Q := ww_step rfl
theorem q18_72 (ls : mm_V) (s0 : Int32) (s1 : Nat) (s2 : Int32) (s3 : Nat) (hc : mm_cls h s1 = 900) : ww (mp_P fx) (d + 1) 18 72 ls [.int s0, .ref s1, .int s2, .ref s3] h Q ↔ wm (mp_P fx) d 35 [.ref s1, .int s0] h (fun r h' => ww (mp_P fx) (d + 1) 18 75 ls (r.toList ++ [.int s2, .ref s3]) h' Q) := wr_virtual rfl (mm_recv_ok (n := 1) (rc := 900) ⟨rfl, rfl⟩ rfl hc (by decide)) rfl
theorem q18_75 (ls : mm_V) (s0 : Int32) (s1 : Int32) (s2 : Nat) : ww (mp_P fx) d 18 75 ls [.int s0, .int s1, .ref s2] h Q ↔ (if s0 < 0 then ww (mp_P fx) d 18 82 ls [.int s1, .ref s2] h Q else ww (mp_P fx) d 18 78 ls [.int s1, .ref s2] h Q) := wr_if_lt (t := 82) rfl
theorem q18_78 (ls : mm_V) (s0 : Int32) (s1 : Nat) : ww (mp_P fx) d 18 78 ls [.int s0, .ref s1] h Q ↔ ww (mp_P fx) d 18 79 ls [.int 5, .int s0, .ref s1] h Q := wr_iconst (i := 5) rfl
theorem q18_79 (ls : mm_V) (s0 : Int32) (s1 : Int32) (s2 : Nat) : ww (mp_P fx) d 18 79 ls [.int s0, .int s1, .ref s2] h Q ↔ ww (mp_P fx) d 18 83 ls [.int s0, .int s1, .ref s2] h Q := wr_goto (t := 83) rfl
theorem q18_82 (ls : mm_V) (s0 : Int32) (s1 : Nat) : ww (mp_P fx) d 18 82 ls [.int s0, .ref s1] h Q ↔ ww (mp_P fx) d 18 83 ls [.int 1, .int s0, .ref s1] h Q := wr_iconst (i := 1) rfl
theorem q18_83 (ls : mm_V) (s0 : Int32) (s1 : Int32) (s2 : Nat) : ww (mp_P fx) d 18 83 ls [.int s0, .int s1, .ref s2] h Q ↔ ∃ h', mm_sI h s2 0 s1 s0 = some h' ∧ ww (mp_P fx) d 18 84 ls [] h' Q := wr_iastore rfl
theorem q18_84 (l1 : Option Value) (x : Nat) : ww (mp_P fx) d 18 84 [some (.ref x), l1] [] h Q ↔ ww (mp_P fx) d 18 85 [some (.ref x), l1] [.ref x] h Q := ww_step rfl
theorem q18_85 (ls : mm_V) (s0 : Nat) : ww (mp_P fx) d 18 85 ls [.ref s0] h Q ↔ ∃ x, mm_gF h s0 0 5 = some x ∧ ww (mp_P fx) d 18 88 ls [x] h Q := wr_getfield (n := 5) rfl
theorem q18_88 (l1 : Option Value) (x : Nat) (s0 : Nat) : ww (mp_P fx) d 18 88 [some (.ref x), l1] [.ref s0] h Q ↔ ww (mp_P fx) d 18 89 [some (.ref x), l1] [.ref x, .ref s0] h Q := ww_step rfl
theorem q18_89 (ls : mm_V) (s0 : Nat) (s1 : Nat) : ww (mp_P fx) d 18 89 ls [.ref s0, .ref s1] h Q ↔ ∃ x, mm_gF h s0 0 6 = some x ∧ ww (mp_P fx) d 18 92 ls [x, .ref s1] h Q := wr_getfield (n := 6) rfl
theorem q18_92 (l0 : Option Value) (x : Int32) (s0 : Int32) (s1 : Nat) : ww (mp_P fx) d 18 92 [l0, some (.int x)] [.int s0, .ref s1] h Q ↔ ww (mp_P fx) d 18 93 [l0, some (.int x)] [.int x, .int s0, .ref s1] h Q := ww_step rfl
theorem q18_93 (ls : mm_V) (s0 : Int32) (s1 : Int32) (s2 : Nat) : ww (mp_P fx) d 18 93 ls [.int s0, .int s1, .ref s2] h Q ↔ ww (mp_P fx) d 18 94 ls [.long s0.toInt64, .int s1, .ref s2] h Q := wr_i2l rfl
theorem q18_94 (ls : mm_V) (s0 : Int64) (s1 : Int32) (s2 : Nat) : ww (mp_P fx) d 18 94 ls [.long s0, .int s1, .ref s2] h Q ↔ ∃ h', mm_sL h s2 s1 s0 = some h' ∧ ww (mp_P fx) d 18 95 ls [] h' Q := wr_lastore rfl
theorem q18_95 (ls : mm_V) : ww (mp_P fx) d 18 95 ls [] h Q ↔ Q none h := wr_return rfl rfl
theorem e18 (a0 : Nat) : wm (mp_P fx) d 18 [.ref a0] h Q ↔ ww (mp_P fx) d 18 0 [some (.ref a0), none] [] h Q := Iff.rfl
/- 19 RainGrammar$Tape.isLetter.(C)Z -/
theorem q19_0  (x : Int32) : ww (mp_P fx) d 19 0 [some (.int x)] [] h Q ↔ ww (mp_P fx) d 19 1 [some (.int x)] [.int x] h Q := ww_step rfl
theorem q19_1 (ls : mm_V) (s0 : Int32) : ww (mp_P fx) d 19 1 ls [.int s0] h Q ↔ ww (mp_P fx) d 19 3 ls [.int 97, .int s0] h Q := wr_bipush (i := 97) rfl
theorem q19_3 (ls : mm_V) (s0 : Int32) (s1 : Int32) : ww (mp_P fx) d 19 3 ls [.int s0, .int s1] h Q ↔ (if s1 < s0 then ww (mp_P fx) d 19 16 ls [] h Q else ww (mp_P fx) d 19 6 ls [] h Q) := wr_icmp_lt (t := 16) rfl
theorem q19_6  (x : Int32) : ww (mp_P fx) d 19 6 [some (.int x)] [] h Q ↔ ww (mp_P fx) d 19 7 [some (.int x)] [.int x] h Q := ww_step rfl
theorem q19_7 (ls : mm_V) (s0 : Int32) : ww (mp_P fx) d 19 7 ls [.int s0] h Q ↔ ww (mp_P fx) d 19 9 ls [.int 122, .int s0] h Q := wr_bipush (i := 122) rfl
theorem q19_9 (ls : mm_V) (s0 : Int32) (s1 : Int32) : ww (mp_P fx) d 19 9 ls [.int s0, .int s1] h Q ↔ (if s0 < s1 then ww (mp_P fx) d 19 16 ls [] h Q else ww (mp_P fx) d 19 12 ls [] h Q) := wr_icmp_gt (t := 16) rfl
theorem q19_12 (ls : mm_V) : ww (mp_P fx) d 19 12 ls [] h Q ↔ ww (mp_P fx) d 19 13 ls [.int 1] h Q := wr_iconst (i := 1) rfl
theorem q19_13 (ls : mm_V) (s0 : Int32) : ww (mp_P fx) d 19 13 ls [.int s0] h Q ↔ ww (mp_P fx) d 19 17 ls [.int s0] h Q := wr_goto (t := 17) rfl
theorem q19_16 (ls : mm_V) : ww (mp_P fx) d 19 16 ls [] h Q ↔ ww (mp_P fx) d 19 17 ls [.int 0] h Q := wr_iconst (i := 0) rfl
theorem q19_17 (ls : mm_V) (s0 : Int32) (hb : mm_ret (mp_sig 19).2.2.2 (.int s0) = true) : ww (mp_P fx) d 19 17 ls [.int s0] h Q ↔ Q (some (.int s0)) h := wr_ireturn rfl hb
theorem b19_0 : mm_ret (mp_sig 19).2.2.2 (.int 0) = true := by decide +kernel
theorem b19_1 : mm_ret (mp_sig 19).2.2.2 (.int 1) = true := by decide +kernel
theorem e19 (a0 : Int32) : wm (mp_P fx) d 19 [.int a0] h Q ↔ ww (mp_P fx) d 19 0 [some (.int a0)] [] h Q := Iff.rfl
/- 20 RainGrammar$Tape.addWord.()V -/
theorem q20_0 (l1 : Option Value) (l2 : Option Value) (l3 : Option Value) (x : Nat) : ww (mp_P fx) d 20 0 [some (.ref x), l1, l2, l3] [] h Q ↔ ww (mp_P fx) d 20 1 [some (.ref x), l1, l2, l3] [.ref x] h Q := ww_step rfl
theorem q20_1 (ls : mm_V) (s0 : Nat) : ww (mp_P fx) d 20 1 ls [.ref s0] h Q ↔ ∃ x, mm_gF h s0 0 8 = some x ∧ ww (mp_P fx) d 20 4 ls [x] h Q := wr_getfield (n := 8) rfl
theorem q20_4r (l1 : Option Value) (l2 : Option Value) (l3 : Option Value) (y : Nat) (s0 : Int32) : ww (mp_P fx) d 20 4 [some (.ref y), l1, l2, l3] [.int s0] h Q ↔ ww (mp_P fx) d 20 5 [some (.ref y), some (.int s0), l2, l3] [] h Q := wr_istore_n rfl (mm_s1_ok (Nat.le_of_ble_eq_true rfl) rfl)
theorem q20_5 (ls : mm_V) : ww (mp_P fx) d 20 5 ls [] h Q ↔ ww (mp_P fx) d 20 6 ls [.long 0] h Q := wr_lconst (i := 0) rfl
theorem q20_6i (l0 : Option Value) (l2 : Option Value) (l3 : Option Value) (y : Int32) (s0 : Int64) : ww (mp_P fx) d 20 6 [l0, some (.int y), l2, l3] [.long s0] h Q ↔ ww (mp_P fx) d 20 7 [l0, some (.int y), some (.long s0), none] [] h Q := wr_lstore_n rfl (mm_s2_ok (Nat.le_of_ble_eq_true rfl) rfl)
theorem q20_7 (l1 : Option Value) (l2 : Option Value) (l3 : Option Value) (x : Nat) : ww (mp_P fx) d 20 7 [some (.ref x), l1, l2, l3] [] h Q ↔ ww (mp_P fx) d 20 8 [some (.ref x), l1, l2, l3] [.ref x] h Q := ww_step rfl
theorem q20_8 (ls : mm_V) (s0 : Nat) : ww (mp_P fx) d 20 8 ls [.ref s0] h Q ↔ ∃ x, mm_gF h s0 0 8 = some x ∧ ww (mp_P fx) d 20 11 ls [x] h Q := wr_getfield (n := 8) rfl
theorem q20_11 (l1 : Option Value) (l2 : Option Value) (l3 : Option Value) (x : Nat) (s0 : Int32) : ww (mp_P fx) d 20 11 [some (.ref x), l1, l2, l3] [.int s0] h Q ↔ ww (mp_P fx) d 20 12 [some (.ref x), l1, l2, l3] [.ref x, .int s0] h Q := ww_step rfl
theorem q20_12 (ls : mm_V) (s0 : Nat) (s1 : Int32) : ww (mp_P fx) d 20 12 ls [.ref s0, .int s1] h Q ↔ ∃ x, mm_gF h s0 0 1 = some x ∧ ww (mp_P fx) d 20 15 ls [x, .int s1] h Q := wr_getfield (n := 1) rfl
theorem q20_15 (ls : mm_V) (s0 : Int32) (s1 : Int32) : ww (mp_P fx) d 20 15 ls [.int s0, .int s1] h Q ↔ (if s0 ≤ s1 then ww (mp_P fx) d 20 66 ls [] h Q else ww (mp_P fx) d 20 18 ls [] h Q) := wr_icmp_ge (t := 66) rfl
theorem q20_18 (l1 : Option Value) (l2 : Option Value) (l3 : Option Value) (x : Nat) : ww (mp_P fx) d 20 18 [some (.ref x), l1, l2, l3] [] h Q ↔ ww (mp_P fx) d 20 19 [some (.ref x), l1, l2, l3] [.ref x] h Q := ww_step rfl
theorem q20_19 (ls : mm_V) (s0 : Nat) : ww (mp_P fx) d 20 19 ls [.ref s0] h Q ↔ ∃ x, mm_gF h s0 0 0 = some x ∧ ww (mp_P fx) d 20 22 ls [x] h Q := wr_getfield (n := 0) rfl
theorem q20_22 (l1 : Option Value) (l2 : Option Value) (l3 : Option Value) (x : Nat) (s0 : Nat) : ww (mp_P fx) d 20 22 [some (.ref x), l1, l2, l3] [.ref s0] h Q ↔ ww (mp_P fx) d 20 23 [some (.ref x), l1, l2, l3] [.ref x, .ref s0] h Q := ww_step rfl
theorem q20_23 (ls : mm_V) (s0 : Nat) (s1 : Nat) : ww (mp_P fx) d 20 23 ls [.ref s0, .ref s1] h Q ↔ ∃ x, mm_gF h s0 0 8 = some x ∧ ww (mp_P fx) d 20 26 ls [x, .ref s1] h Q := wr_getfield (n := 8) rfl
theorem q20_26 (ls : mm_V) (s0 : Int32) (s1 : Nat) : ww (mp_P fx) d 20 26 ls [.int s0, .ref s1] h Q ↔ ∃ x, mm_gI h s1 1 1 s0 = some x ∧ ww (mp_P fx) d 20 27 ls [.int x] h Q := wr_caload rfl
theorem q20_27 (ls : mm_V) (s0 : Int32) : ww (mp_P fx) (d + 1) 20 27 ls [.int s0] h Q ↔ wm (mp_P fx) d 19 [.int s0] h (fun r h' => ww (mp_P fx) (d + 1) 20 30 ls (r.toList ++ []) h' Q) := wr_static rfl rfl
theorem q20_30 (ls : mm_V) (s0 : Int32) : ww (mp_P fx) d 20 30 ls [.int s0] h Q ↔ (if s0 = 0 then ww (mp_P fx) d 20 66 ls [] h Q else ww (mp_P fx) d 20 33 ls [] h Q) := wr_if_eq (t := 66) rfl
theorem q20_33 (l0 : Option Value) (l1 : Option Value) (l3 : Option Value) (x : Int64) : ww (mp_P fx) d 20 33 [l0, l1, some (.long x), l3] [] h Q ↔ ww (mp_P fx) d 20 34 [l0, l1, some (.long x), l3] [.long x] h Q := ww_step rfl
theorem q20_34 (ls : mm_V) (s0 : Int64) : ww (mp_P fx) d 20 34 ls [.long s0] h Q ↔ ww (mp_P fx) d 20 35 ls [.int 5, .long s0] h Q := wr_iconst (i := 5) rfl
theorem q20_35 (ls : mm_V) (s0 : Int32) (s1 : Int64) : ww (mp_P fx) d 20 35 ls [.int s0, .long s1] h Q ↔ ww (mp_P fx) d 20 36 ls [.long (s1 <<< (s0.toInt64 &&& 63))] h Q := wr_lshl rfl
theorem q20_36 (l1 : Option Value) (l2 : Option Value) (l3 : Option Value) (x : Nat) (s0 : Int64) : ww (mp_P fx) d 20 36 [some (.ref x), l1, l2, l3] [.long s0] h Q ↔ ww (mp_P fx) d 20 37 [some (.ref x), l1, l2, l3] [.ref x, .long s0] h Q := ww_step rfl
theorem q20_37 (ls : mm_V) (s0 : Nat) (s1 : Int64) : ww (mp_P fx) d 20 37 ls [.ref s0, .long s1] h Q ↔ ∃ x, mm_gF h s0 0 0 = some x ∧ ww (mp_P fx) d 20 40 ls [x, .long s1] h Q := wr_getfield (n := 0) rfl
theorem q20_40 (l1 : Option Value) (l2 : Option Value) (l3 : Option Value) (x : Nat) (s0 : Nat) (s1 : Int64) : ww (mp_P fx) d 20 40 [some (.ref x), l1, l2, l3] [.ref s0, .long s1] h Q ↔ ww (mp_P fx) d 20 41 [some (.ref x), l1, l2, l3] [.ref x, .ref s0, .long s1] h Q := ww_step rfl
theorem q20_41 (ls : mm_V) (s0 : Nat) (s1 : Nat) (s2 : Int64) : ww (mp_P fx) d 20 41 ls [.ref s0, .ref s1, .long s2] h Q ↔ ∃ x, mm_gF h s0 0 8 = some x ∧ ww (mp_P fx) d 20 44 ls [x, .ref s1, .long s2] h Q := wr_getfield (n := 8) rfl
theorem q20_44 (ls : mm_V) (s0 : Int32) (s1 : Nat) (s2 : Int64) : ww (mp_P fx) d 20 44 ls [.int s0, .ref s1, .long s2] h Q ↔ ∃ x, mm_gI h s1 1 1 s0 = some x ∧ ww (mp_P fx) d 20 45 ls [.int x, .long s2] h Q := wr_caload rfl
theorem q20_45 (ls : mm_V) (s0 : Int32) (s1 : Int64) : ww (mp_P fx) d 20 45 ls [.int s0, .long s1] h Q ↔ ww (mp_P fx) d 20 47 ls [.int 97, .int s0, .long s1] h Q := wr_bipush (i := 97) rfl
theorem q20_47 (ls : mm_V) (s0 : Int32) (s1 : Int32) (s2 : Int64) : ww (mp_P fx) d 20 47 ls [.int s0, .int s1, .long s2] h Q ↔ ww (mp_P fx) d 20 48 ls [.int (s1 - s0), .long s2] h Q := wr_isub rfl
theorem q20_48 (ls : mm_V) (s0 : Int32) (s1 : Int64) : ww (mp_P fx) d 20 48 ls [.int s0, .long s1] h Q ↔ ww (mp_P fx) d 20 49 ls [.int 1, .int s0, .long s1] h Q := wr_iconst (i := 1) rfl
theorem q20_49 (ls : mm_V) (s0 : Int32) (s1 : Int32) (s2 : Int64) : ww (mp_P fx) d 20 49 ls [.int s0, .int s1, .long s2] h Q ↔ ww (mp_P fx) d 20 50 ls [.int (s1 + s0), .long s2] h Q := wr_iadd rfl
theorem q20_50 (ls : mm_V) (s0 : Int32) (s1 : Int64) : ww (mp_P fx) d 20 50 ls [.int s0, .long s1] h Q ↔ ww (mp_P fx) d 20 51 ls [.long s0.toInt64, .long s1] h Q := wr_i2l rfl
theorem q20_51 (ls : mm_V) (s0 : Int64) (s1 : Int64) : ww (mp_P fx) d 20 51 ls [.long s0, .long s1] h Q ↔ ww (mp_P fx) d 20 52 ls [.long (s1 + s0)] h Q := wr_ladd rfl
theorem q20_52i (l0 : Option Value) (l2 : Option Value) (l3 : Option Value) (y : Int32) (s0 : Int64) : ww (mp_P fx) d 20 52 [l0, some (.int y), l2, l3] [.long s0] h Q ↔ ww (mp_P fx) d 20 53 [l0, some (.int y), some (.long s0), none] [] h Q := wr_lstore_n rfl (mm_s2_ok (Nat.le_of_ble_eq_true rfl) rfl)
theorem q20_53 (l1 : Option Value) (l2 : Option Value) (l3 : Option Value) (x : Nat) : ww (mp_P fx) d 20 53 [some (.ref x), l1, l2, l3] [] h Q ↔ ww (mp_P fx) d 20 54 [some (.ref x), l1, l2, l3] [.ref x] h Q := ww_step rfl
theorem q20_54 (ls : mm_V) (s0 : Nat) : ww (mp_P fx) d 20 54 ls [.ref s0] h Q ↔ ww (mp_P fx) d 20 55 ls [.ref s0, .ref s0] h Q := ww_step rfl
theorem q20_55 (ls : mm_V) (s0 : Nat) (s1 : Nat) : ww (mp_P fx) d 20 55 ls [.ref s0, .ref s1] h Q ↔ ∃ x, mm_gF h s0 0 8 = some x ∧ ww (mp_P fx) d 20 58 ls [x, .ref s1] h Q := wr_getfield (n := 8) rfl
theorem q20_58 (ls : mm_V) (s0 : Int32) (s1 : Nat) : ww (mp_P fx) d 20 58 ls [.int s0, .ref s1] h Q ↔ ww (mp_P fx) d 20 59 ls [.int 1, .int s0, .ref s1] h Q := wr_iconst (i := 1) rfl
theorem q20_59 (ls : mm_V) (s0 : Int32) (s1 : Int32) (s2 : Nat) : ww (mp_P fx) d 20 59 ls [.int s0, .int s1, .ref s2] h Q ↔ ww (mp_P fx) d 20 60 ls [.int (s1 + s0), .ref s2] h Q := wr_iadd rfl
theorem q20_60 (ls : mm_V) (s0 : Int32) (s1 : Nat) : ww (mp_P fx) d 20 60 ls [.int s0, .ref s1] h Q ↔ ∃ h', mm_sF (mp_P fx) h s1 0 8 (.int s0) = some h' ∧ ww (mp_P fx) d 20 63 ls [] h' Q := wr_putfield (n := 8) rfl
theorem q20_63 (ls : mm_V) : ww (mp_P fx) d 20 63 ls [] h Q ↔ ww (mp_P fx) d 20 7 ls [] h Q := wr_goto (t := 7) rfl
theorem q20_66 (l1 : Option Value) (l2 : Option Value) (l3 : Option Value) (x : Nat) : ww (mp_P fx) d 20 66 [some (.ref x), l1, l2, l3] [] h Q ↔ ww (mp_P fx) d 20 67 [some (.ref x), l1, l2, l3] [.ref x] h Q := ww_step rfl
theorem q20_67 (ls : mm_V) (s0 : Nat) : ww (mp_P fx) d 20 67 ls [.ref s0] h Q ↔ ∃ x, mm_gF h s0 0 8 = some x ∧ ww (mp_P fx) d 20 70 ls [x] h Q := wr_getfield (n := 8) rfl
theorem q20_70 (l0 : Option Value) (l2 : Option Value) (l3 : Option Value) (x : Int32) (s0 : Int32) : ww (mp_P fx) d 20 70 [l0, some (.int x), l2, l3] [.int s0] h Q ↔ ww (mp_P fx) d 20 71 [l0, some (.int x), l2, l3] [.int x, .int s0] h Q := ww_step rfl
theorem q20_71 (ls : mm_V) (s0 : Int32) (s1 : Int32) : ww (mp_P fx) d 20 71 ls [.int s0, .int s1] h Q ↔ ww (mp_P fx) d 20 72 ls [.int (s1 - s0)] h Q := wr_isub rfl
theorem q20_72 (ls : mm_V) (s0 : Int32) : ww (mp_P fx) d 20 72 ls [.int s0] h Q ↔ ww (mp_P fx) d 20 74 ls [.int 8, .int s0] h Q := wr_bipush (i := 8) rfl
theorem q20_74 (ls : mm_V) (s0 : Int32) (s1 : Int32) : ww (mp_P fx) d 20 74 ls [.int s0, .int s1] h Q ↔ (if s1 ≤ s0 then ww (mp_P fx) d 20 88 ls [] h Q else ww (mp_P fx) d 20 77 ls [] h Q) := wr_icmp_le (t := 88) rfl
theorem q20_77 (l1 : Option Value) (l2 : Option Value) (l3 : Option Value) (x : Nat) : ww (mp_P fx) d 20 77 [some (.ref x), l1, l2, l3] [] h Q ↔ ww (mp_P fx) d 20 78 [some (.ref x), l1, l2, l3] [.ref x] h Q := ww_step rfl
theorem q20_78 (ls : mm_V) (s0 : Nat) : ww (mp_P fx) d 20 78 ls [.ref s0] h Q ↔ ∃ x, mm_gF h s0 0 3 = some x ∧ ww (mp_P fx) d 20 81 ls [x] h Q := wr_getfield (n := 3) rfl
theorem q20_81 (l1 : Option Value) (l2 : Option Value) (l3 : Option Value) (x : Nat) (s0 : Nat) : ww (mp_P fx) d 20 81 [some (.ref x), l1, l2, l3] [.ref s0] h Q ↔ ww (mp_P fx) d 20 82 [some (.ref x), l1, l2, l3] [.ref x, .ref s0] h Q := ww_step rfl
theorem q20_82 (ls : mm_V) (s0 : Nat) (s1 : Nat) : ww (mp_P fx) d 20 82 ls [.ref s0, .ref s1] h Q ↔ ∃ x, mm_gF h s0 0 6 = some x ∧ ww (mp_P fx) d 20 85 ls [x, .ref s1] h Q := wr_getfield (n := 6) rfl
theorem q20_85 (ls : mm_V) (s0 : Int32) (s1 : Nat) : ww (mp_P fx) d 20 85 ls [.int s0, .ref s1] h Q ↔ ww (mp_P fx) d 20 86 ls [.int 1, .int s0, .ref s1] h Q := wr_iconst (i := 1) rfl
theorem q20_86 (ls : mm_V) (s0 : Int32) (s1 : Int32) (s2 : Nat) : ww (mp_P fx) d 20 86 ls [.int s0, .int s1, .ref s2] h Q ↔ ∃ h', mm_sI h s2 0 s1 s0 = some h' ∧ ww (mp_P fx) d 20 87 ls [] h' Q := wr_iastore rfl
theorem q20_87 (ls : mm_V) : ww (mp_P fx) d 20 87 ls [] h Q ↔ Q none h := wr_return rfl rfl
theorem q20_88 (l1 : Option Value) (l2 : Option Value) (l3 : Option Value) (x : Nat) : ww (mp_P fx) d 20 88 [some (.ref x), l1, l2, l3] [] h Q ↔ ww (mp_P fx) d 20 89 [some (.ref x), l1, l2, l3] [.ref x] h Q := ww_step rfl
theorem q20_89 (ls : mm_V) (s0 : Nat) : ww (mp_P fx) d 20 89 ls [.ref s0] h Q ↔ ∃ x, mm_gF h s0 0 5 = some x ∧ ww (mp_P fx) d 20 92 ls [x] h Q := wr_getfield (n := 5) rfl
theorem q20_92 (l1 : Option Value) (l2 : Option Value) (l3 : Option Value) (x : Nat) (s0 : Nat) : ww (mp_P fx) d 20 92 [some (.ref x), l1, l2, l3] [.ref s0] h Q ↔ ww (mp_P fx) d 20 93 [some (.ref x), l1, l2, l3] [.ref x, .ref s0] h Q := ww_step rfl
theorem q20_93 (ls : mm_V) (s0 : Nat) (s1 : Nat) : ww (mp_P fx) d 20 93 ls [.ref s0, .ref s1] h Q ↔ ∃ x, mm_gF h s0 0 6 = some x ∧ ww (mp_P fx) d 20 96 ls [x, .ref s1] h Q := wr_getfield (n := 6) rfl
theorem q20_96 (l1 : Option Value) (l2 : Option Value) (l3 : Option Value) (x : Nat) (s0 : Int32) (s1 : Nat) : ww (mp_P fx) d 20 96 [some (.ref x), l1, l2, l3] [.int s0, .ref s1] h Q ↔ ww (mp_P fx) d 20 97 [some (.ref x), l1, l2, l3] [.ref x, .int s0, .ref s1] h Q := ww_step rfl
theorem q20_97 (ls : mm_V) (s0 : Nat) (s1 : Int32) (s2 : Nat) : ww (mp_P fx) d 20 97 ls [.ref s0, .int s1, .ref s2] h Q ↔ ∃ x, mm_gF h s0 0 8 = some x ∧ ww (mp_P fx) d 20 100 ls [x, .int s1, .ref s2] h Q := wr_getfield (n := 8) rfl
theorem q20_100 (l0 : Option Value) (l2 : Option Value) (l3 : Option Value) (x : Int32) (s0 : Int32) (s1 : Int32) (s2 : Nat) : ww (mp_P fx) d 20 100 [l0, some (.int x), l2, l3] [.int s0, .int s1, .ref s2] h Q ↔ ww (mp_P fx) d 20 101 [l0, some (.int x), l2, l3] [.int x, .int s0, .int s1, .ref s2] h Q := ww_step rfl
theorem q20_101 (ls : mm_V) (s0 : Int32) (s1 : Int32) (s2 : Int32) (s3 : Nat) : ww (mp_P fx) d 20 101 ls [.int s0, .int s1, .int s2, .ref s3] h Q ↔ ww (mp_P fx) d 20 102 ls [.int (s1 - s0), .int s2, .ref s3] h Q := wr_isub rfl
theorem q20_102 (ls : mm_V) (s0 : Int32) (s1 : Int32) (s2 : Nat) : ww (mp_P fx) d 20 102 ls [.int s0, .int s1, .ref s2] h Q ↔ ww (mp_P fx) d 20 103 ls [.long s0.toInt64, .int s1, .ref s2] h Q := wr_i2l rfl
theorem q20_103 (ls : mm_V) (s0 : Int64) (s1 : Int32) (s2 : Nat) : ww (mp_P fx) d 20 103 ls [.long s0, .int s1, .ref s2] h Q ↔ ww (mp_P fx) d 20 105 ls [.int 40, .long s0, .int s1, .ref s2] h Q := wr_bipush (i := 40) rfl
theorem q20_105 (ls : mm_V) (s0 : Int32) (s1 : Int64) (s2 : Int32) (s3 : Nat) : ww (mp_P fx) d 20 105 ls [.int s0, .long s1, .int s2, .ref s3] h Q ↔ ww (mp_P fx) d 20 106 ls [.long (s1 <<< (s0.toInt64 &&& 63)), .int s2, .ref s3] h Q := wr_lshl rfl
theorem q20_106 (l0 : Option Value) (l1 : Option Value) (l3 : Option Value) (x : Int64) (s0 : Int64) (s1 : Int32) (s2 : Nat) : ww (mp_P fx) d 20 106 [l0, l1, some (.long x), l3] [.long s0, .int s1, .ref s2] h Q ↔ ww (mp_P fx) d 20 107 [l0, l1, some (.long x), l3] [.long x, .long s0, .int s1, .ref s2] h Q := ww_step rfl
theorem q20_107 (ls : mm_V) (s0 : Int64) (s1 : Int64) (s2 : Int32) (s3 : Nat) : ww (mp_P fx) d 20 107 ls [.long s0, .long s1, .int s2, .ref s3] h Q ↔ ww (mp_P fx) d 20 108 ls [.long (s1 + s0), .int s2, .ref s3] h Q := wr_ladd rfl
theorem q20_108 (ls : mm_V) (s0 : Int64) (s1 : Int32) (s2 : Nat) : ww (mp_P fx) d 20 108 ls [.long s0, .int s1, .ref s2] h Q ↔ ∃ h', mm_sL h s2 s1 s0 = some h' ∧ ww (mp_P fx) d 20 109 ls [] h' Q := wr_lastore rfl
theorem q20_109 (l1 : Option Value) (l2 : Option Value) (l3 : Option Value) (x : Nat) : ww (mp_P fx) d 20 109 [some (.ref x), l1, l2, l3] [] h Q ↔ ww (mp_P fx) d 20 110 [some (.ref x), l1, l2, l3] [.ref x] h Q := ww_step rfl
theorem q20_110 (ls : mm_V) (s0 : Nat) : ww (mp_P fx) d 20 110 ls [.ref s0] h Q ↔ ∃ x, mm_gF h s0 0 3 = some x ∧ ww (mp_P fx) d 20 113 ls [x] h Q := wr_getfield (n := 3) rfl
theorem q20_113 (l1 : Option Value) (l2 : Option Value) (l3 : Option Value) (x : Nat) (s0 : Nat) : ww (mp_P fx) d 20 113 [some (.ref x), l1, l2, l3] [.ref s0] h Q ↔ ww (mp_P fx) d 20 114 [some (.ref x), l1, l2, l3] [.ref x, .ref s0] h Q := ww_step rfl
theorem q20_114 (ls : mm_V) (s0 : Nat) (s1 : Nat) : ww (mp_P fx) d 20 114 ls [.ref s0, .ref s1] h Q ↔ ∃ x, mm_gF h s0 0 6 = some x ∧ ww (mp_P fx) d 20 117 ls [x, .ref s1] h Q := wr_getfield (n := 6) rfl
theorem q20_117 (l1 : Option Value) (l2 : Option Value) (l3 : Option Value) (x : Nat) (s0 : Int32) (s1 : Nat) : ww (mp_P fx) d 20 117 [some (.ref x), l1, l2, l3] [.int s0, .ref s1] h Q ↔ ww (mp_P fx) d 20 118 [some (.ref x), l1, l2, l3] [.ref x, .int s0, .ref s1] h Q := ww_step rfl
theorem q20_118 (l1 : Option Value) (l2 : Option Value) (l3 : Option Value) (x : Nat) (s0 : Nat) (s1 : Int32) (s2 : Nat) : ww (mp_P fx) d 20 118 [some (.ref x), l1, l2, l3] [.ref s0, .int s1, .ref s2] h Q ↔ ww (mp_P fx) d 20 119 [some (.ref x), l1, l2, l3] [.ref x, .ref s0, .int s1, .ref s2] h Q := ww_step rfl
theorem q20_119 (ls : mm_V) (s0 : Nat) (s1 : Nat) (s2 : Int32) (s3 : Nat) : ww (mp_P fx) d 20 119 ls [.ref s0, .ref s1, .int s2, .ref s3] h Q ↔ ∃ x, mm_gF h s0 0 6 = some x ∧ ww (mp_P fx) d 20 122 ls [x, .ref s1, .int s2, .ref s3] h Q := wr_getfield (n := 6) rfl
theorem q20_122 (ls : mm_V) (s0 : Int32) (s1 : Nat) (s2 : Int32) (s3 : Nat) (hc : mm_cls h s1 = 0) : ww (mp_P fx) (d + 1) 20 122 ls [.int s0, .ref s1, .int s2, .ref s3] h Q ↔ wm (mp_P fx) d 21 [.ref s1, .int s0] h (fun r h' => ww (mp_P fx) (d + 1) 20 125 ls (r.toList ++ [.int s2, .ref s3]) h' Q) := wr_virtual rfl (mm_recv_ok (n := 1) (rc := 0) ⟨rfl, rfl⟩ rfl hc (by decide)) rfl
theorem q20_125 (ls : mm_V) (s0 : Int32) (s1 : Int32) (s2 : Nat) : ww (mp_P fx) d 20 125 ls [.int s0, .int s1, .ref s2] h Q ↔ (if ¬ s0 = 0 then ww (mp_P fx) d 20 139 ls [.int s1, .ref s2] h Q else ww (mp_P fx) d 20 128 ls [.int s1, .ref s2] h Q) := wr_if_ne (t := 139) rfl
theorem q20_128 (l1 : Option Value) (l2 : Option Value) (l3 : Option Value) (x : Nat) (s0 : Int32) (s1 : Nat) : ww (mp_P fx) d 20 128 [some (.ref x), l1, l2, l3] [.int s0, .ref s1] h Q ↔ ww (mp_P fx) d 20 129 [some (.ref x), l1, l2, l3] [.ref x, .int s0, .ref s1] h Q := ww_step rfl
theorem q20_129 (l1 : Option Value) (l2 : Option Value) (l3 : Option Value) (x : Nat) (s0 : Nat) (s1 : Int32) (s2 : Nat) : ww (mp_P fx) d 20 129 [some (.ref x), l1, l2, l3] [.ref s0, .int s1, .ref s2] h Q ↔ ww (mp_P fx) d 20 130 [some (.ref x), l1, l2, l3] [.ref x, .ref s0, .int s1, .ref s2] h Q := ww_step rfl
theorem q20_130 (ls : mm_V) (s0 : Nat) (s1 : Nat) (s2 : Int32) (s3 : Nat) : ww (mp_P fx) d 20 130 ls [.ref s0, .ref s1, .int s2, .ref s3] h Q ↔ ∃ x, mm_gF h s0 0 6 = some x ∧ ww (mp_P fx) d 20 133 ls [x, .ref s1, .int s2, .ref s3] h Q := wr_getfield (n := 6) rfl
theorem q20_133 (ls : mm_V) (s0 : Int32) (s1 : Nat) (s2 : Int32) (s3 : Nat) (hc : mm_cls h s1 = 0) : ww (mp_P fx) (d + 1) 20 133 ls [.int s0, .ref s1, .int s2, .ref s3] h Q ↔ wm (mp_P fx) d 32 [.ref s1, .int s0] h (fun r h' => ww (mp_P fx) (d + 1) 20 136 ls (r.toList ++ [.int s2, .ref s3]) h' Q) := wr_virtual rfl (mm_recv_ok (n := 1) (rc := 0) ⟨rfl, rfl⟩ rfl hc (by decide)) rfl
theorem q20_136 (ls : mm_V) (s0 : Int32) (s1 : Int32) (s2 : Nat) : ww (mp_P fx) d 20 136 ls [.int s0, .int s1, .ref s2] h Q ↔ (if s0 = 0 then ww (mp_P fx) d 20 143 ls [.int s1, .ref s2] h Q else ww (mp_P fx) d 20 139 ls [.int s1, .ref s2] h Q) := wr_if_eq (t := 143) rfl
theorem q20_139 (ls : mm_V) (s0 : Int32) (s1 : Nat) : ww (mp_P fx) d 20 139 ls [.int s0, .ref s1] h Q ↔ ww (mp_P fx) d 20 140 ls [.int 2, .int s0, .ref s1] h Q := wr_iconst (i := 2) rfl
theorem q20_140 (ls : mm_V) (s0 : Int32) (s1 : Int32) (s2 : Nat) : ww (mp_P fx) d 20 140 ls [.int s0, .int s1, .ref s2] h Q ↔ ww (mp_P fx) d 20 144 ls [.int s0, .int s1, .ref s2] h Q := wr_goto (t := 144) rfl
theorem q20_143 (ls : mm_V) (s0 : Int32) (s1 : Nat) : ww (mp_P fx) d 20 143 ls [.int s0, .ref s1] h Q ↔ ww (mp_P fx) d 20 144 ls [.int 3, .int s0, .ref s1] h Q := wr_iconst (i := 3) rfl
theorem q20_144 (ls : mm_V) (s0 : Int32) (s1 : Int32) (s2 : Nat) : ww (mp_P fx) d 20 144 ls [.int s0, .int s1, .ref s2] h Q ↔ ∃ h', mm_sI h s2 0 s1 s0 = some h' ∧ ww (mp_P fx) d 20 145 ls [] h' Q := wr_iastore rfl
theorem q20_145 (ls : mm_V) : ww (mp_P fx) d 20 145 ls [] h Q ↔ Q none h := wr_return rfl rfl
theorem e20 (a0 : Nat) : wm (mp_P fx) d 20 [.ref a0] h Q ↔ ww (mp_P fx) d 20 0 [some (.ref a0), none, none, none] [] h Q := Iff.rfl
/- 21 RainGrammar$Tape.isSquareWord.(I)Z -/
theorem q21_0 (l1 : Option Value) (x : Nat) : ww (mp_P fx) d 21 0 [some (.ref x), l1] [] h Q ↔ ww (mp_P fx) d 21 1 [some (.ref x), l1] [.ref x] h Q := ww_step rfl
theorem q21_1 (l0 : Option Value) (x : Int32) (s0 : Nat) : ww (mp_P fx) d 21 1 [l0, some (.int x)] [.ref s0] h Q ↔ ww (mp_P fx) d 21 2 [l0, some (.int x)] [.int x, .ref s0] h Q := ww_step rfl
theorem q21_2 (ls : mm_V) (s0 : Int32) (s1 : Nat) : ww (mp_P fx) d 21 2 ls [.int s0, .ref s1] h Q ↔ ww (mp_P fx) d 21 4 ls [.ref 1, .int s0, .ref s1] h Q := wr_fload (i := 1) rfl
theorem q21_4 (ls : mm_V) (s0 : Nat) (s1 : Int32) (s2 : Nat) (hc : mm_cls h s2 = 0) : ww (mp_P fx) (d + 1) 21 4 ls [.ref s0, .int s1, .ref s2] h Q ↔ wm (mp_P fx) d 22 [.ref s2, .int s1, .ref s0] h (fun r h' => ww (mp_P fx) (d + 1) 21 7 ls (r.toList ++ []) h' Q) := wr_virtual rfl (mm_recv_ok (n := 2) (rc := 0) ⟨rfl, rfl⟩ rfl hc (by decide)) rfl
theorem q21_7 (ls : mm_V) (s0 : Int32) : ww (mp_P fx) d 21 7 ls [.int s0] h Q ↔ (if ¬ s0 = 0 then ww (mp_P fx) d 21 110 ls [] h Q else ww (mp_P fx) d 21 10 ls [] h Q) := wr_if_ne (t := 110) rfl
theorem q21_10 (l1 : Option Value) (x : Nat) : ww (mp_P fx) d 21 10 [some (.ref x), l1] [] h Q ↔ ww (mp_P fx) d 21 11 [some (.ref x), l1] [.ref x] h Q := ww_step rfl
theorem q21_11 (l0 : Option Value) (x : Int32) (s0 : Nat) : ww (mp_P fx) d 21 11 [l0, some (.int x)] [.ref s0] h Q ↔ ww (mp_P fx) d 21 12 [l0, some (.int x)] [.int x, .ref s0] h Q := ww_step rfl
theorem q21_12 (ls : mm_V) (s0 : Int32) (s1 : Nat) : ww (mp_P fx) d 21 12 ls [.int s0, .ref s1] h Q ↔ ww (mp_P fx) d 21 14 ls [.ref 3, .int s0, .ref s1] h Q := wr_fload (i := 3) rfl
theorem q21_14 (ls : mm_V) (s0 : Nat) (s1 : Int32) (s2 : Nat) (hc : mm_cls h s2 = 0) : ww (mp_P fx) (d + 1) 21 14 ls [.ref s0, .int s1, .ref s2] h Q ↔ wm (mp_P fx) d 22 [.ref s2, .int s1, .ref s0] h (fun r h' => ww (mp_P fx) (d + 1) 21 17 ls (r.toList ++ []) h' Q) := wr_virtual rfl (mm_recv_ok (n := 2) (rc := 0) ⟨rfl, rfl⟩ rfl hc (by decide)) rfl
theorem q21_17 (ls : mm_V) (s0 : Int32) : ww (mp_P fx) d 21 17 ls [.int s0] h Q ↔ (if ¬ s0 = 0 then ww (mp_P fx) d 21 110 ls [] h Q else ww (mp_P fx) d 21 20 ls [] h Q) := wr_if_ne (t := 110) rfl
theorem q21_20 (l1 : Option Value) (x : Nat) : ww (mp_P fx) d 21 20 [some (.ref x), l1] [] h Q ↔ ww (mp_P fx) d 21 21 [some (.ref x), l1] [.ref x] h Q := ww_step rfl
theorem q21_21 (l0 : Option Value) (x : Int32) (s0 : Nat) : ww (mp_P fx) d 21 21 [l0, some (.int x)] [.ref s0] h Q ↔ ww (mp_P fx) d 21 22 [l0, some (.int x)] [.int x, .ref s0] h Q := ww_step rfl
theorem q21_22 (ls : mm_V) (s0 : Int32) (s1 : Nat) : ww (mp_P fx) d 21 22 ls [.int s0, .ref s1] h Q ↔ ww (mp_P fx) d 21 24 ls [.ref 5, .int s0, .ref s1] h Q := wr_fload (i := 5) rfl
theorem q21_24 (ls : mm_V) (s0 : Nat) (s1 : Int32) (s2 : Nat) (hc : mm_cls h s2 = 0) : ww (mp_P fx) (d + 1) 21 24 ls [.ref s0, .int s1, .ref s2] h Q ↔ wm (mp_P fx) d 22 [.ref s2, .int s1, .ref s0] h (fun r h' => ww (mp_P fx) (d + 1) 21 27 ls (r.toList ++ []) h' Q) := wr_virtual rfl (mm_recv_ok (n := 2) (rc := 0) ⟨rfl, rfl⟩ rfl hc (by decide)) rfl
theorem q21_27 (ls : mm_V) (s0 : Int32) : ww (mp_P fx) d 21 27 ls [.int s0] h Q ↔ (if ¬ s0 = 0 then ww (mp_P fx) d 21 110 ls [] h Q else ww (mp_P fx) d 21 30 ls [] h Q) := wr_if_ne (t := 110) rfl
theorem q21_30 (l1 : Option Value) (x : Nat) : ww (mp_P fx) d 21 30 [some (.ref x), l1] [] h Q ↔ ww (mp_P fx) d 21 31 [some (.ref x), l1] [.ref x] h Q := ww_step rfl
theorem q21_31 (l0 : Option Value) (x : Int32) (s0 : Nat) : ww (mp_P fx) d 21 31 [l0, some (.int x)] [.ref s0] h Q ↔ ww (mp_P fx) d 21 32 [l0, some (.int x)] [.int x, .ref s0] h Q := ww_step rfl
theorem q21_32 (ls : mm_V) (s0 : Int32) (s1 : Nat) : ww (mp_P fx) d 21 32 ls [.int s0, .ref s1] h Q ↔ ww (mp_P fx) d 21 34 ls [.ref 7, .int s0, .ref s1] h Q := wr_fload (i := 7) rfl
theorem q21_34 (ls : mm_V) (s0 : Nat) (s1 : Int32) (s2 : Nat) (hc : mm_cls h s2 = 0) : ww (mp_P fx) (d + 1) 21 34 ls [.ref s0, .int s1, .ref s2] h Q ↔ wm (mp_P fx) d 22 [.ref s2, .int s1, .ref s0] h (fun r h' => ww (mp_P fx) (d + 1) 21 37 ls (r.toList ++ []) h' Q) := wr_virtual rfl (mm_recv_ok (n := 2) (rc := 0) ⟨rfl, rfl⟩ rfl hc (by decide)) rfl
theorem q21_37 (ls : mm_V) (s0 : Int32) : ww (mp_P fx) d 21 37 ls [.int s0] h Q ↔ (if ¬ s0 = 0 then ww (mp_P fx) d 21 110 ls [] h Q else ww (mp_P fx) d 21 40 ls [] h Q) := wr_if_ne (t := 110) rfl
theorem q21_40 (l1 : Option Value) (x : Nat) : ww (mp_P fx) d 21 40 [some (.ref x), l1] [] h Q ↔ ww (mp_P fx) d 21 41 [some (.ref x), l1] [.ref x] h Q := ww_step rfl
theorem q21_41 (l0 : Option Value) (x : Int32) (s0 : Nat) : ww (mp_P fx) d 21 41 [l0, some (.int x)] [.ref s0] h Q ↔ ww (mp_P fx) d 21 42 [l0, some (.int x)] [.int x, .ref s0] h Q := ww_step rfl
theorem q21_42 (ls : mm_V) (s0 : Int32) (s1 : Nat) : ww (mp_P fx) d 21 42 ls [.int s0, .ref s1] h Q ↔ ww (mp_P fx) d 21 44 ls [.ref 9, .int s0, .ref s1] h Q := wr_fload (i := 9) rfl
theorem q21_44 (ls : mm_V) (s0 : Nat) (s1 : Int32) (s2 : Nat) (hc : mm_cls h s2 = 0) : ww (mp_P fx) (d + 1) 21 44 ls [.ref s0, .int s1, .ref s2] h Q ↔ wm (mp_P fx) d 22 [.ref s2, .int s1, .ref s0] h (fun r h' => ww (mp_P fx) (d + 1) 21 47 ls (r.toList ++ []) h' Q) := wr_virtual rfl (mm_recv_ok (n := 2) (rc := 0) ⟨rfl, rfl⟩ rfl hc (by decide)) rfl
theorem q21_47 (ls : mm_V) (s0 : Int32) : ww (mp_P fx) d 21 47 ls [.int s0] h Q ↔ (if ¬ s0 = 0 then ww (mp_P fx) d 21 110 ls [] h Q else ww (mp_P fx) d 21 50 ls [] h Q) := wr_if_ne (t := 110) rfl
theorem q21_50 (l1 : Option Value) (x : Nat) : ww (mp_P fx) d 21 50 [some (.ref x), l1] [] h Q ↔ ww (mp_P fx) d 21 51 [some (.ref x), l1] [.ref x] h Q := ww_step rfl
theorem q21_51 (l0 : Option Value) (x : Int32) (s0 : Nat) : ww (mp_P fx) d 21 51 [l0, some (.int x)] [.ref s0] h Q ↔ ww (mp_P fx) d 21 52 [l0, some (.int x)] [.int x, .ref s0] h Q := ww_step rfl
theorem q21_52 (ls : mm_V) (s0 : Int32) (s1 : Nat) : ww (mp_P fx) d 21 52 ls [.int s0, .ref s1] h Q ↔ ww (mp_P fx) d 21 54 ls [.ref 11, .int s0, .ref s1] h Q := wr_fload (i := 11) rfl
theorem q21_54 (ls : mm_V) (s0 : Nat) (s1 : Int32) (s2 : Nat) (hc : mm_cls h s2 = 0) : ww (mp_P fx) (d + 1) 21 54 ls [.ref s0, .int s1, .ref s2] h Q ↔ wm (mp_P fx) d 22 [.ref s2, .int s1, .ref s0] h (fun r h' => ww (mp_P fx) (d + 1) 21 57 ls (r.toList ++ []) h' Q) := wr_virtual rfl (mm_recv_ok (n := 2) (rc := 0) ⟨rfl, rfl⟩ rfl hc (by decide)) rfl
theorem q21_57 (ls : mm_V) (s0 : Int32) : ww (mp_P fx) d 21 57 ls [.int s0] h Q ↔ (if ¬ s0 = 0 then ww (mp_P fx) d 21 110 ls [] h Q else ww (mp_P fx) d 21 60 ls [] h Q) := wr_if_ne (t := 110) rfl
theorem q21_60 (l1 : Option Value) (x : Nat) : ww (mp_P fx) d 21 60 [some (.ref x), l1] [] h Q ↔ ww (mp_P fx) d 21 61 [some (.ref x), l1] [.ref x] h Q := ww_step rfl
theorem q21_61 (l0 : Option Value) (x : Int32) (s0 : Nat) : ww (mp_P fx) d 21 61 [l0, some (.int x)] [.ref s0] h Q ↔ ww (mp_P fx) d 21 62 [l0, some (.int x)] [.int x, .ref s0] h Q := ww_step rfl
theorem q21_62 (ls : mm_V) (s0 : Int32) (s1 : Nat) : ww (mp_P fx) d 21 62 ls [.int s0, .ref s1] h Q ↔ ww (mp_P fx) d 21 64 ls [.ref 13, .int s0, .ref s1] h Q := wr_fload (i := 13) rfl
theorem q21_64 (ls : mm_V) (s0 : Nat) (s1 : Int32) (s2 : Nat) (hc : mm_cls h s2 = 0) : ww (mp_P fx) (d + 1) 21 64 ls [.ref s0, .int s1, .ref s2] h Q ↔ wm (mp_P fx) d 22 [.ref s2, .int s1, .ref s0] h (fun r h' => ww (mp_P fx) (d + 1) 21 67 ls (r.toList ++ []) h' Q) := wr_virtual rfl (mm_recv_ok (n := 2) (rc := 0) ⟨rfl, rfl⟩ rfl hc (by decide)) rfl
theorem q21_67 (ls : mm_V) (s0 : Int32) : ww (mp_P fx) d 21 67 ls [.int s0] h Q ↔ (if ¬ s0 = 0 then ww (mp_P fx) d 21 110 ls [] h Q else ww (mp_P fx) d 21 70 ls [] h Q) := wr_if_ne (t := 110) rfl
theorem q21_70 (l1 : Option Value) (x : Nat) : ww (mp_P fx) d 21 70 [some (.ref x), l1] [] h Q ↔ ww (mp_P fx) d 21 71 [some (.ref x), l1] [.ref x] h Q := ww_step rfl
theorem q21_71 (l0 : Option Value) (x : Int32) (s0 : Nat) : ww (mp_P fx) d 21 71 [l0, some (.int x)] [.ref s0] h Q ↔ ww (mp_P fx) d 21 72 [l0, some (.int x)] [.int x, .ref s0] h Q := ww_step rfl
theorem q21_72 (ls : mm_V) (s0 : Int32) (s1 : Nat) : ww (mp_P fx) d 21 72 ls [.int s0, .ref s1] h Q ↔ ww (mp_P fx) d 21 74 ls [.ref 15, .int s0, .ref s1] h Q := wr_fload (i := 15) rfl
theorem q21_74 (ls : mm_V) (s0 : Nat) (s1 : Int32) (s2 : Nat) (hc : mm_cls h s2 = 0) : ww (mp_P fx) (d + 1) 21 74 ls [.ref s0, .int s1, .ref s2] h Q ↔ wm (mp_P fx) d 22 [.ref s2, .int s1, .ref s0] h (fun r h' => ww (mp_P fx) (d + 1) 21 77 ls (r.toList ++ []) h' Q) := wr_virtual rfl (mm_recv_ok (n := 2) (rc := 0) ⟨rfl, rfl⟩ rfl hc (by decide)) rfl
theorem q21_77 (ls : mm_V) (s0 : Int32) : ww (mp_P fx) d 21 77 ls [.int s0] h Q ↔ (if ¬ s0 = 0 then ww (mp_P fx) d 21 110 ls [] h Q else ww (mp_P fx) d 21 80 ls [] h Q) := wr_if_ne (t := 110) rfl
theorem q21_80 (l1 : Option Value) (x : Nat) : ww (mp_P fx) d 21 80 [some (.ref x), l1] [] h Q ↔ ww (mp_P fx) d 21 81 [some (.ref x), l1] [.ref x] h Q := ww_step rfl
theorem q21_81 (l0 : Option Value) (x : Int32) (s0 : Nat) : ww (mp_P fx) d 21 81 [l0, some (.int x)] [.ref s0] h Q ↔ ww (mp_P fx) d 21 82 [l0, some (.int x)] [.int x, .ref s0] h Q := ww_step rfl
theorem q21_82 (ls : mm_V) (s0 : Int32) (s1 : Nat) : ww (mp_P fx) d 21 82 ls [.int s0, .ref s1] h Q ↔ ww (mp_P fx) d 21 84 ls [.ref 17, .int s0, .ref s1] h Q := wr_fload (i := 17) rfl
theorem q21_84 (ls : mm_V) (s0 : Nat) (s1 : Int32) (s2 : Nat) (hc : mm_cls h s2 = 0) : ww (mp_P fx) (d + 1) 21 84 ls [.ref s0, .int s1, .ref s2] h Q ↔ wm (mp_P fx) d 22 [.ref s2, .int s1, .ref s0] h (fun r h' => ww (mp_P fx) (d + 1) 21 87 ls (r.toList ++ []) h' Q) := wr_virtual rfl (mm_recv_ok (n := 2) (rc := 0) ⟨rfl, rfl⟩ rfl hc (by decide)) rfl
theorem q21_87 (ls : mm_V) (s0 : Int32) : ww (mp_P fx) d 21 87 ls [.int s0] h Q ↔ (if ¬ s0 = 0 then ww (mp_P fx) d 21 110 ls [] h Q else ww (mp_P fx) d 21 90 ls [] h Q) := wr_if_ne (t := 110) rfl
theorem q21_90 (l1 : Option Value) (x : Nat) : ww (mp_P fx) d 21 90 [some (.ref x), l1] [] h Q ↔ ww (mp_P fx) d 21 91 [some (.ref x), l1] [.ref x] h Q := ww_step rfl
theorem q21_91 (l0 : Option Value) (x : Int32) (s0 : Nat) : ww (mp_P fx) d 21 91 [l0, some (.int x)] [.ref s0] h Q ↔ ww (mp_P fx) d 21 92 [l0, some (.int x)] [.int x, .ref s0] h Q := ww_step rfl
theorem q21_92 (ls : mm_V) (s0 : Int32) (s1 : Nat) : ww (mp_P fx) d 21 92 ls [.int s0, .ref s1] h Q ↔ ww (mp_P fx) d 21 94 ls [.ref 19, .int s0, .ref s1] h Q := wr_fload (i := 19) rfl
theorem q21_94 (ls : mm_V) (s0 : Nat) (s1 : Int32) (s2 : Nat) (hc : mm_cls h s2 = 0) : ww (mp_P fx) (d + 1) 21 94 ls [.ref s0, .int s1, .ref s2] h Q ↔ wm (mp_P fx) d 22 [.ref s2, .int s1, .ref s0] h (fun r h' => ww (mp_P fx) (d + 1) 21 97 ls (r.toList ++ []) h' Q) := wr_virtual rfl (mm_recv_ok (n := 2) (rc := 0) ⟨rfl, rfl⟩ rfl hc (by decide)) rfl
theorem q21_97 (ls : mm_V) (s0 : Int32) : ww (mp_P fx) d 21 97 ls [.int s0] h Q ↔ (if ¬ s0 = 0 then ww (mp_P fx) d 21 110 ls [] h Q else ww (mp_P fx) d 21 100 ls [] h Q) := wr_if_ne (t := 110) rfl
theorem q21_100 (l1 : Option Value) (x : Nat) : ww (mp_P fx) d 21 100 [some (.ref x), l1] [] h Q ↔ ww (mp_P fx) d 21 101 [some (.ref x), l1] [.ref x] h Q := ww_step rfl
theorem q21_101 (l0 : Option Value) (x : Int32) (s0 : Nat) : ww (mp_P fx) d 21 101 [l0, some (.int x)] [.ref s0] h Q ↔ ww (mp_P fx) d 21 102 [l0, some (.int x)] [.int x, .ref s0] h Q := ww_step rfl
theorem q21_102 (ls : mm_V) (s0 : Int32) (s1 : Nat) : ww (mp_P fx) d 21 102 ls [.int s0, .ref s1] h Q ↔ ww (mp_P fx) d 21 104 ls [.ref 21, .int s0, .ref s1] h Q := wr_fload (i := 21) rfl
theorem q21_104 (ls : mm_V) (s0 : Nat) (s1 : Int32) (s2 : Nat) (hc : mm_cls h s2 = 0) : ww (mp_P fx) (d + 1) 21 104 ls [.ref s0, .int s1, .ref s2] h Q ↔ wm (mp_P fx) d 22 [.ref s2, .int s1, .ref s0] h (fun r h' => ww (mp_P fx) (d + 1) 21 107 ls (r.toList ++ []) h' Q) := wr_virtual rfl (mm_recv_ok (n := 2) (rc := 0) ⟨rfl, rfl⟩ rfl hc (by decide)) rfl
theorem q21_107 (ls : mm_V) (s0 : Int32) : ww (mp_P fx) d 21 107 ls [.int s0] h Q ↔ (if s0 = 0 then ww (mp_P fx) d 21 114 ls [] h Q else ww (mp_P fx) d 21 110 ls [] h Q) := wr_if_eq (t := 114) rfl
theorem q21_110 (ls : mm_V) : ww (mp_P fx) d 21 110 ls [] h Q ↔ ww (mp_P fx) d 21 111 ls [.int 1] h Q := wr_iconst (i := 1) rfl
theorem q21_111 (ls : mm_V) (s0 : Int32) : ww (mp_P fx) d 21 111 ls [.int s0] h Q ↔ ww (mp_P fx) d 21 115 ls [.int s0] h Q := wr_goto (t := 115) rfl
theorem q21_114 (ls : mm_V) : ww (mp_P fx) d 21 114 ls [] h Q ↔ ww (mp_P fx) d 21 115 ls [.int 0] h Q := wr_iconst (i := 0) rfl
theorem q21_115 (ls : mm_V) (s0 : Int32) (hb : mm_ret (mp_sig 21).2.2.2 (.int s0) = true) : ww (mp_P fx) d 21 115 ls [.int s0] h Q ↔ Q (some (.int s0)) h := wr_ireturn rfl hb
theorem b21_0 : mm_ret (mp_sig 21).2.2.2 (.int 0) = true := by decide +kernel
theorem b21_1 : mm_ret (mp_sig 21).2.2.2 (.int 1) = true := by decide +kernel
theorem e21 (a0 : Nat) (a1 : Int32) : wm (mp_P fx) d 21 [.ref a0, .int a1] h Q ↔ ww (mp_P fx) d 21 0 [some (.ref a0), some (.int a1)] [] h Q := Iff.rfl
/- 22 RainGrammar$Tape.spells.(ILjava/lang/String;)Z -/
theorem q22_0 (l1 : Option Value) (l2 : Option Value) (l3 : Option Value) (x : Nat) : ww (mp_P fx) d 22 0 [some (.ref x), l1, l2, l3] [] h Q ↔ ww (mp_P fx) d 22 1 [some (.ref x), l1, l2, l3] [.ref x] h Q := ww_step rfl
theorem q22_1 (ls : mm_V) (s0 : Nat) : ww (mp_P fx) d 22 1 ls [.ref s0] h Q ↔ ∃ x, mm_gF h s0 0 5 = some x ∧ ww (mp_P fx) d 22 4 ls [x] h Q := wr_getfield (n := 5) rfl
theorem q22_4 (l0 : Option Value) (l2 : Option Value) (l3 : Option Value) (x : Int32) (s0 : Nat) : ww (mp_P fx) d 22 4 [l0, some (.int x), l2, l3] [.ref s0] h Q ↔ ww (mp_P fx) d 22 5 [l0, some (.int x), l2, l3] [.int x, .ref s0] h Q := ww_step rfl
theorem q22_5 (ls : mm_V) (s0 : Int32) (s1 : Nat) : ww (mp_P fx) d 22 5 ls [.int s0, .ref s1] h Q ↔ ∃ x, mm_gL h s1 s0 = some x ∧ ww (mp_P fx) d 22 6 ls [.long x] h Q := wr_laload rfl
theorem q22_6 (ls : mm_V) (s0 : Int64) : ww (mp_P fx) d 22 6 ls [.long s0] h Q ↔ ww (mp_P fx) d 22 8 ls [.int 40, .long s0] h Q := wr_bipush (i := 40) rfl
theorem q22_8 (ls : mm_V) (s0 : Int32) (s1 : Int64) : ww (mp_P fx) d 22 8 ls [.int s0, .long s1] h Q ↔ ww (mp_P fx) d 22 9 ls [.long (s1 >>> (s0.toInt64 &&& 63))] h Q := wr_lshr rfl
theorem q22_9 (l0 : Option Value) (l1 : Option Value) (l3 : Option Value) (x : Nat) (s0 : Int64) : ww (mp_P fx) d 22 9 [l0, l1, some (.ref x), l3] [.long s0] h Q ↔ ww (mp_P fx) d 22 10 [l0, l1, some (.ref x), l3] [.ref x, .long s0] h Q := ww_step rfl
theorem q22_10 (ls : mm_V) (s0 : Nat) (s1 : Int64) (hc : mm_cls h s0 = 900) : ww (mp_P fx) (d + 1) 22 10 ls [.ref s0, .long s1] h Q ↔ wm (mp_P fx) d 23 [.ref s0] h (fun r h' => ww (mp_P fx) (d + 1) 22 13 ls (r.toList ++ [.long s1]) h' Q) := wr_virtual rfl (mm_recv_ok (n := 0) (rc := 900) ⟨rfl, rfl⟩ rfl hc (by decide)) rfl
theorem q22_13 (ls : mm_V) (s0 : Int32) (s1 : Int64) : ww (mp_P fx) d 22 13 ls [.int s0, .long s1] h Q ↔ ww (mp_P fx) d 22 14 ls [.long s0.toInt64, .long s1] h Q := wr_i2l rfl
theorem q22_14 (ls : mm_V) (s0 : Int64) (s1 : Int64) : ww (mp_P fx) d 22 14 ls [.long s0, .long s1] h Q ↔ ww (mp_P fx) d 22 15 ls [.int (lg_cmp s1 s0)] h Q := wr_lcmp rfl
theorem q22_15 (ls : mm_V) (s0 : Int32) : ww (mp_P fx) d 22 15 ls [.int s0] h Q ↔ (if s0 = 0 then ww (mp_P fx) d 22 20 ls [] h Q else ww (mp_P fx) d 22 18 ls [] h Q) := wr_if_eq (t := 20) rfl
theorem q22_18 (ls : mm_V) : ww (mp_P fx) d 22 18 ls [] h Q ↔ ww (mp_P fx) d 22 19 ls [.int 0] h Q := wr_iconst (i := 0) rfl
theorem q22_19 (ls : mm_V) (s0 : Int32) (hb : mm_ret (mp_sig 22).2.2.2 (.int s0) = true) : ww (mp_P fx) d 22 19 ls [.int s0] h Q ↔ Q (some (.int s0)) h := wr_ireturn rfl hb
theorem q22_20 (ls : mm_V) : ww (mp_P fx) d 22 20 ls [] h Q ↔ ww (mp_P fx) d 22 21 ls [.int 0] h Q := wr_iconst (i := 0) rfl
theorem q22_21r (l0 : Option Value) (l1 : Option Value) (l3 : Option Value) (y : Nat) (s0 : Int32) : ww (mp_P fx) d 22 21 [l0, l1, some (.ref y), l3] [.int s0] h Q ↔ ww (mp_P fx) d 22 22 [l0, l1, some (.ref y), some (.int s0)] [] h Q := wr_istore_n rfl (mm_s1_ok (Nat.le_of_ble_eq_true rfl) rfl)
theorem q22_22 (l0 : Option Value) (l1 : Option Value) (l2 : Option Value) (x : Int32) : ww (mp_P fx) d 22 22 [l0, l1, l2, some (.int x)] [] h Q ↔ ww (mp_P fx) d 22 23 [l0, l1, l2, some (.int x)] [.int x] h Q := ww_step rfl
theorem q22_23 (l0 : Option Value) (l1 : Option Value) (l3 : Option Value) (x : Nat) (s0 : Int32) : ww (mp_P fx) d 22 23 [l0, l1, some (.ref x), l3] [.int s0] h Q ↔ ww (mp_P fx) d 22 24 [l0, l1, some (.ref x), l3] [.ref x, .int s0] h Q := ww_step rfl
theorem q22_24 (ls : mm_V) (s0 : Nat) (s1 : Int32) (hc : mm_cls h s0 = 900) : ww (mp_P fx) (d + 1) 22 24 ls [.ref s0, .int s1] h Q ↔ wm (mp_P fx) d 23 [.ref s0] h (fun r h' => ww (mp_P fx) (d + 1) 22 27 ls (r.toList ++ [.int s1]) h' Q) := wr_virtual rfl (mm_recv_ok (n := 0) (rc := 900) ⟨rfl, rfl⟩ rfl hc (by decide)) rfl
theorem q22_27 (ls : mm_V) (s0 : Int32) (s1 : Int32) : ww (mp_P fx) d 22 27 ls [.int s0, .int s1] h Q ↔ (if s0 ≤ s1 then ww (mp_P fx) d 22 59 ls [] h Q else ww (mp_P fx) d 22 30 ls [] h Q) := wr_icmp_ge (t := 59) rfl
theorem q22_30 (l1 : Option Value) (l2 : Option Value) (l3 : Option Value) (x : Nat) : ww (mp_P fx) d 22 30 [some (.ref x), l1, l2, l3] [] h Q ↔ ww (mp_P fx) d 22 31 [some (.ref x), l1, l2, l3] [.ref x] h Q := ww_step rfl
theorem q22_31 (ls : mm_V) (s0 : Nat) : ww (mp_P fx) d 22 31 ls [.ref s0] h Q ↔ ∃ x, mm_gF h s0 0 0 = some x ∧ ww (mp_P fx) d 22 34 ls [x] h Q := wr_getfield (n := 0) rfl
theorem q22_34 (l1 : Option Value) (l2 : Option Value) (l3 : Option Value) (x : Nat) (s0 : Nat) : ww (mp_P fx) d 22 34 [some (.ref x), l1, l2, l3] [.ref s0] h Q ↔ ww (mp_P fx) d 22 35 [some (.ref x), l1, l2, l3] [.ref x, .ref s0] h Q := ww_step rfl
theorem q22_35 (ls : mm_V) (s0 : Nat) (s1 : Nat) : ww (mp_P fx) d 22 35 ls [.ref s0, .ref s1] h Q ↔ ∃ x, mm_gF h s0 0 4 = some x ∧ ww (mp_P fx) d 22 38 ls [x, .ref s1] h Q := wr_getfield (n := 4) rfl
theorem q22_38 (l0 : Option Value) (l2 : Option Value) (l3 : Option Value) (x : Int32) (s0 : Nat) (s1 : Nat) : ww (mp_P fx) d 22 38 [l0, some (.int x), l2, l3] [.ref s0, .ref s1] h Q ↔ ww (mp_P fx) d 22 39 [l0, some (.int x), l2, l3] [.int x, .ref s0, .ref s1] h Q := ww_step rfl
theorem q22_39 (ls : mm_V) (s0 : Int32) (s1 : Nat) (s2 : Nat) : ww (mp_P fx) d 22 39 ls [.int s0, .ref s1, .ref s2] h Q ↔ ∃ x, mm_gI h s1 0 9 s0 = some x ∧ ww (mp_P fx) d 22 40 ls [.int x, .ref s2] h Q := wr_iaload rfl
theorem q22_40 (l0 : Option Value) (l1 : Option Value) (l2 : Option Value) (x : Int32) (s0 : Int32) (s1 : Nat) : ww (mp_P fx) d 22 40 [l0, l1, l2, some (.int x)] [.int s0, .ref s1] h Q ↔ ww (mp_P fx) d 22 41 [l0, l1, l2, some (.int x)] [.int x, .int s0, .ref s1] h Q := ww_step rfl
theorem q22_41 (ls : mm_V) (s0 : Int32) (s1 : Int32) (s2 : Nat) : ww (mp_P fx) d 22 41 ls [.int s0, .int s1, .ref s2] h Q ↔ ww (mp_P fx) d 22 42 ls [.int (s1 + s0), .ref s2] h Q := wr_iadd rfl
theorem q22_42 (ls : mm_V) (s0 : Int32) (s1 : Nat) : ww (mp_P fx) d 22 42 ls [.int s0, .ref s1] h Q ↔ ∃ x, mm_gI h s1 1 1 s0 = some x ∧ ww (mp_P fx) d 22 43 ls [.int x] h Q := wr_caload rfl
theorem q22_43 (l0 : Option Value) (l1 : Option Value) (l3 : Option Value) (x : Nat) (s0 : Int32) : ww (mp_P fx) d 22 43 [l0, l1, some (.ref x), l3] [.int s0] h Q ↔ ww (mp_P fx) d 22 44 [l0, l1, some (.ref x), l3] [.ref x, .int s0] h Q := ww_step rfl
theorem q22_44 (l0 : Option Value) (l1 : Option Value) (l2 : Option Value) (x : Int32) (s0 : Nat) (s1 : Int32) : ww (mp_P fx) d 22 44 [l0, l1, l2, some (.int x)] [.ref s0, .int s1] h Q ↔ ww (mp_P fx) d 22 45 [l0, l1, l2, some (.int x)] [.int x, .ref s0, .int s1] h Q := ww_step rfl
theorem q22_45 (ls : mm_V) (s0 : Int32) (s1 : Nat) (s2 : Int32) (hc : mm_cls h s1 = 900) : ww (mp_P fx) (d + 1) 22 45 ls [.int s0, .ref s1, .int s2] h Q ↔ wm (mp_P fx) d 25 [.ref s1, .int s0] h (fun r h' => ww (mp_P fx) (d + 1) 22 48 ls (r.toList ++ [.int s2]) h' Q) := wr_virtual rfl (mm_recv_ok (n := 1) (rc := 900) ⟨rfl, rfl⟩ rfl hc (by decide)) rfl
theorem q22_48 (ls : mm_V) (s0 : Int32) (s1 : Int32) : ww (mp_P fx) d 22 48 ls [.int s0, .int s1] h Q ↔ (if s1 = s0 then ww (mp_P fx) d 22 53 ls [] h Q else ww (mp_P fx) d 22 51 ls [] h Q) := wr_icmp_eq (t := 53) rfl
theorem q22_51 (ls : mm_V) : ww (mp_P fx) d 22 51 ls [] h Q ↔ ww (mp_P fx) d 22 52 ls [.int 0] h Q := wr_iconst (i := 0) rfl
theorem q22_52 (ls : mm_V) (s0 : Int32) (hb : mm_ret (mp_sig 22).2.2.2 (.int s0) = true) : ww (mp_P fx) d 22 52 ls [.int s0] h Q ↔ Q (some (.int s0)) h := wr_ireturn rfl hb
theorem q22_53r (l0 : Option Value) (l1 : Option Value) (x : Int32) (y : Nat) : ww (mp_P fx) d 22 53 [l0, l1, some (.ref y), some (.int x)] [] h Q ↔ ww (mp_P fx) d 22 56 [l0, l1, some (.ref y), some (.int (x + 1))] [] h Q := wr_iinc (n := 3) (i := 1) rfl rfl (mm_s1_ok (Nat.le_of_ble_eq_true rfl) rfl)
theorem q22_56 (ls : mm_V) : ww (mp_P fx) d 22 56 ls [] h Q ↔ ww (mp_P fx) d 22 22 ls [] h Q := wr_goto (t := 22) rfl
theorem q22_59 (ls : mm_V) : ww (mp_P fx) d 22 59 ls [] h Q ↔ ww (mp_P fx) d 22 60 ls [.int 1] h Q := wr_iconst (i := 1) rfl
theorem q22_60 (ls : mm_V) (s0 : Int32) (hb : mm_ret (mp_sig 22).2.2.2 (.int s0) = true) : ww (mp_P fx) d 22 60 ls [.int s0] h Q ↔ Q (some (.int s0)) h := wr_ireturn rfl hb
theorem b22_0 : mm_ret (mp_sig 22).2.2.2 (.int 0) = true := by decide +kernel
theorem b22_1 : mm_ret (mp_sig 22).2.2.2 (.int 1) = true := by decide +kernel
theorem e22 (a0 : Nat) (a1 : Int32) (a2 : Nat) : wm (mp_P fx) d 22 [.ref a0, .int a1, .ref a2] h Q ↔ ww (mp_P fx) d 22 0 [some (.ref a0), some (.int a1), some (.ref a2), none] [] h Q := Iff.rfl
/- 32 RainGrammar$Tape.isOtherWord.(I)Z -/
theorem q32_0 (l1 : Option Value) (x : Nat) : ww (mp_P fx) d 32 0 [some (.ref x), l1] [] h Q ↔ ww (mp_P fx) d 32 1 [some (.ref x), l1] [.ref x] h Q := ww_step rfl
theorem q32_1 (l0 : Option Value) (x : Int32) (s0 : Nat) : ww (mp_P fx) d 32 1 [l0, some (.int x)] [.ref s0] h Q ↔ ww (mp_P fx) d 32 2 [l0, some (.int x)] [.int x, .ref s0] h Q := ww_step rfl
theorem q32_2 (ls : mm_V) (s0 : Int32) (s1 : Nat) : ww (mp_P fx) d 32 2 ls [.int s0, .ref s1] h Q ↔ ww (mp_P fx) d 32 4 ls [.ref 23, .int s0, .ref s1] h Q := wr_fload (i := 23) rfl
theorem q32_4 (ls : mm_V) (s0 : Nat) (s1 : Int32) (s2 : Nat) (hc : mm_cls h s2 = 0) : ww (mp_P fx) (d + 1) 32 4 ls [.ref s0, .int s1, .ref s2] h Q ↔ wm (mp_P fx) d 22 [.ref s2, .int s1, .ref s0] h (fun r h' => ww (mp_P fx) (d + 1) 32 7 ls (r.toList ++ []) h' Q) := wr_virtual rfl (mm_recv_ok (n := 2) (rc := 0) ⟨rfl, rfl⟩ rfl hc (by decide)) rfl
theorem q32_7 (ls : mm_V) (s0 : Int32) : ww (mp_P fx) d 32 7 ls [.int s0] h Q ↔ (if ¬ s0 = 0 then ww (mp_P fx) d 32 110 ls [] h Q else ww (mp_P fx) d 32 10 ls [] h Q) := wr_if_ne (t := 110) rfl
theorem q32_10 (l1 : Option Value) (x : Nat) : ww (mp_P fx) d 32 10 [some (.ref x), l1] [] h Q ↔ ww (mp_P fx) d 32 11 [some (.ref x), l1] [.ref x] h Q := ww_step rfl
theorem q32_11 (l0 : Option Value) (x : Int32) (s0 : Nat) : ww (mp_P fx) d 32 11 [l0, some (.int x)] [.ref s0] h Q ↔ ww (mp_P fx) d 32 12 [l0, some (.int x)] [.int x, .ref s0] h Q := ww_step rfl
theorem q32_12 (ls : mm_V) (s0 : Int32) (s1 : Nat) : ww (mp_P fx) d 32 12 ls [.int s0, .ref s1] h Q ↔ ww (mp_P fx) d 32 14 ls [.ref 25, .int s0, .ref s1] h Q := wr_fload (i := 25) rfl
theorem q32_14 (ls : mm_V) (s0 : Nat) (s1 : Int32) (s2 : Nat) (hc : mm_cls h s2 = 0) : ww (mp_P fx) (d + 1) 32 14 ls [.ref s0, .int s1, .ref s2] h Q ↔ wm (mp_P fx) d 22 [.ref s2, .int s1, .ref s0] h (fun r h' => ww (mp_P fx) (d + 1) 32 17 ls (r.toList ++ []) h' Q) := wr_virtual rfl (mm_recv_ok (n := 2) (rc := 0) ⟨rfl, rfl⟩ rfl hc (by decide)) rfl
theorem q32_17 (ls : mm_V) (s0 : Int32) : ww (mp_P fx) d 32 17 ls [.int s0] h Q ↔ (if ¬ s0 = 0 then ww (mp_P fx) d 32 110 ls [] h Q else ww (mp_P fx) d 32 20 ls [] h Q) := wr_if_ne (t := 110) rfl
theorem q32_20 (l1 : Option Value) (x : Nat) : ww (mp_P fx) d 32 20 [some (.ref x), l1] [] h Q ↔ ww (mp_P fx) d 32 21 [some (.ref x), l1] [.ref x] h Q := ww_step rfl
theorem q32_21 (l0 : Option Value) (x : Int32) (s0 : Nat) : ww (mp_P fx) d 32 21 [l0, some (.int x)] [.ref s0] h Q ↔ ww (mp_P fx) d 32 22 [l0, some (.int x)] [.int x, .ref s0] h Q := ww_step rfl
theorem q32_22 (ls : mm_V) (s0 : Int32) (s1 : Nat) : ww (mp_P fx) d 32 22 ls [.int s0, .ref s1] h Q ↔ ww (mp_P fx) d 32 24 ls [.ref 27, .int s0, .ref s1] h Q := wr_fload (i := 27) rfl
theorem q32_24 (ls : mm_V) (s0 : Nat) (s1 : Int32) (s2 : Nat) (hc : mm_cls h s2 = 0) : ww (mp_P fx) (d + 1) 32 24 ls [.ref s0, .int s1, .ref s2] h Q ↔ wm (mp_P fx) d 22 [.ref s2, .int s1, .ref s0] h (fun r h' => ww (mp_P fx) (d + 1) 32 27 ls (r.toList ++ []) h' Q) := wr_virtual rfl (mm_recv_ok (n := 2) (rc := 0) ⟨rfl, rfl⟩ rfl hc (by decide)) rfl
theorem q32_27 (ls : mm_V) (s0 : Int32) : ww (mp_P fx) d 32 27 ls [.int s0] h Q ↔ (if ¬ s0 = 0 then ww (mp_P fx) d 32 110 ls [] h Q else ww (mp_P fx) d 32 30 ls [] h Q) := wr_if_ne (t := 110) rfl
theorem q32_30 (l1 : Option Value) (x : Nat) : ww (mp_P fx) d 32 30 [some (.ref x), l1] [] h Q ↔ ww (mp_P fx) d 32 31 [some (.ref x), l1] [.ref x] h Q := ww_step rfl
theorem q32_31 (l0 : Option Value) (x : Int32) (s0 : Nat) : ww (mp_P fx) d 32 31 [l0, some (.int x)] [.ref s0] h Q ↔ ww (mp_P fx) d 32 32 [l0, some (.int x)] [.int x, .ref s0] h Q := ww_step rfl
theorem q32_32 (ls : mm_V) (s0 : Int32) (s1 : Nat) : ww (mp_P fx) d 32 32 ls [.int s0, .ref s1] h Q ↔ ww (mp_P fx) d 32 34 ls [.ref 29, .int s0, .ref s1] h Q := wr_fload (i := 29) rfl
theorem q32_34 (ls : mm_V) (s0 : Nat) (s1 : Int32) (s2 : Nat) (hc : mm_cls h s2 = 0) : ww (mp_P fx) (d + 1) 32 34 ls [.ref s0, .int s1, .ref s2] h Q ↔ wm (mp_P fx) d 22 [.ref s2, .int s1, .ref s0] h (fun r h' => ww (mp_P fx) (d + 1) 32 37 ls (r.toList ++ []) h' Q) := wr_virtual rfl (mm_recv_ok (n := 2) (rc := 0) ⟨rfl, rfl⟩ rfl hc (by decide)) rfl
theorem q32_37 (ls : mm_V) (s0 : Int32) : ww (mp_P fx) d 32 37 ls [.int s0] h Q ↔ (if ¬ s0 = 0 then ww (mp_P fx) d 32 110 ls [] h Q else ww (mp_P fx) d 32 40 ls [] h Q) := wr_if_ne (t := 110) rfl
theorem q32_40 (l1 : Option Value) (x : Nat) : ww (mp_P fx) d 32 40 [some (.ref x), l1] [] h Q ↔ ww (mp_P fx) d 32 41 [some (.ref x), l1] [.ref x] h Q := ww_step rfl
theorem q32_41 (l0 : Option Value) (x : Int32) (s0 : Nat) : ww (mp_P fx) d 32 41 [l0, some (.int x)] [.ref s0] h Q ↔ ww (mp_P fx) d 32 42 [l0, some (.int x)] [.int x, .ref s0] h Q := ww_step rfl
theorem q32_42 (ls : mm_V) (s0 : Int32) (s1 : Nat) : ww (mp_P fx) d 32 42 ls [.int s0, .ref s1] h Q ↔ ww (mp_P fx) d 32 44 ls [.ref 31, .int s0, .ref s1] h Q := wr_fload (i := 31) rfl
theorem q32_44 (ls : mm_V) (s0 : Nat) (s1 : Int32) (s2 : Nat) (hc : mm_cls h s2 = 0) : ww (mp_P fx) (d + 1) 32 44 ls [.ref s0, .int s1, .ref s2] h Q ↔ wm (mp_P fx) d 22 [.ref s2, .int s1, .ref s0] h (fun r h' => ww (mp_P fx) (d + 1) 32 47 ls (r.toList ++ []) h' Q) := wr_virtual rfl (mm_recv_ok (n := 2) (rc := 0) ⟨rfl, rfl⟩ rfl hc (by decide)) rfl
theorem q32_47 (ls : mm_V) (s0 : Int32) : ww (mp_P fx) d 32 47 ls [.int s0] h Q ↔ (if ¬ s0 = 0 then ww (mp_P fx) d 32 110 ls [] h Q else ww (mp_P fx) d 32 50 ls [] h Q) := wr_if_ne (t := 110) rfl
theorem q32_50 (l1 : Option Value) (x : Nat) : ww (mp_P fx) d 32 50 [some (.ref x), l1] [] h Q ↔ ww (mp_P fx) d 32 51 [some (.ref x), l1] [.ref x] h Q := ww_step rfl
theorem q32_51 (l0 : Option Value) (x : Int32) (s0 : Nat) : ww (mp_P fx) d 32 51 [l0, some (.int x)] [.ref s0] h Q ↔ ww (mp_P fx) d 32 52 [l0, some (.int x)] [.int x, .ref s0] h Q := ww_step rfl
theorem q32_52 (ls : mm_V) (s0 : Int32) (s1 : Nat) : ww (mp_P fx) d 32 52 ls [.int s0, .ref s1] h Q ↔ ww (mp_P fx) d 32 54 ls [.ref 33, .int s0, .ref s1] h Q := wr_fload (i := 33) rfl
theorem q32_54 (ls : mm_V) (s0 : Nat) (s1 : Int32) (s2 : Nat) (hc : mm_cls h s2 = 0) : ww (mp_P fx) (d + 1) 32 54 ls [.ref s0, .int s1, .ref s2] h Q ↔ wm (mp_P fx) d 22 [.ref s2, .int s1, .ref s0] h (fun r h' => ww (mp_P fx) (d + 1) 32 57 ls (r.toList ++ []) h' Q) := wr_virtual rfl (mm_recv_ok (n := 2) (rc := 0) ⟨rfl, rfl⟩ rfl hc (by decide)) rfl
theorem q32_57 (ls : mm_V) (s0 : Int32) : ww (mp_P fx) d 32 57 ls [.int s0] h Q ↔ (if ¬ s0 = 0 then ww (mp_P fx) d 32 110 ls [] h Q else ww (mp_P fx) d 32 60 ls [] h Q) := wr_if_ne (t := 110) rfl
theorem q32_60 (l1 : Option Value) (x : Nat) : ww (mp_P fx) d 32 60 [some (.ref x), l1] [] h Q ↔ ww (mp_P fx) d 32 61 [some (.ref x), l1] [.ref x] h Q := ww_step rfl
theorem q32_61 (l0 : Option Value) (x : Int32) (s0 : Nat) : ww (mp_P fx) d 32 61 [l0, some (.int x)] [.ref s0] h Q ↔ ww (mp_P fx) d 32 62 [l0, some (.int x)] [.int x, .ref s0] h Q := ww_step rfl
theorem q32_62 (ls : mm_V) (s0 : Int32) (s1 : Nat) : ww (mp_P fx) d 32 62 ls [.int s0, .ref s1] h Q ↔ ww (mp_P fx) d 32 64 ls [.ref 35, .int s0, .ref s1] h Q := wr_fload (i := 35) rfl
theorem q32_64 (ls : mm_V) (s0 : Nat) (s1 : Int32) (s2 : Nat) (hc : mm_cls h s2 = 0) : ww (mp_P fx) (d + 1) 32 64 ls [.ref s0, .int s1, .ref s2] h Q ↔ wm (mp_P fx) d 22 [.ref s2, .int s1, .ref s0] h (fun r h' => ww (mp_P fx) (d + 1) 32 67 ls (r.toList ++ []) h' Q) := wr_virtual rfl (mm_recv_ok (n := 2) (rc := 0) ⟨rfl, rfl⟩ rfl hc (by decide)) rfl
theorem q32_67 (ls : mm_V) (s0 : Int32) : ww (mp_P fx) d 32 67 ls [.int s0] h Q ↔ (if ¬ s0 = 0 then ww (mp_P fx) d 32 110 ls [] h Q else ww (mp_P fx) d 32 70 ls [] h Q) := wr_if_ne (t := 110) rfl
theorem q32_70 (l1 : Option Value) (x : Nat) : ww (mp_P fx) d 32 70 [some (.ref x), l1] [] h Q ↔ ww (mp_P fx) d 32 71 [some (.ref x), l1] [.ref x] h Q := ww_step rfl
theorem q32_71 (l0 : Option Value) (x : Int32) (s0 : Nat) : ww (mp_P fx) d 32 71 [l0, some (.int x)] [.ref s0] h Q ↔ ww (mp_P fx) d 32 72 [l0, some (.int x)] [.int x, .ref s0] h Q := ww_step rfl
theorem q32_72 (ls : mm_V) (s0 : Int32) (s1 : Nat) : ww (mp_P fx) d 32 72 ls [.int s0, .ref s1] h Q ↔ ww (mp_P fx) d 32 74 ls [.ref 37, .int s0, .ref s1] h Q := wr_fload (i := 37) rfl
theorem q32_74 (ls : mm_V) (s0 : Nat) (s1 : Int32) (s2 : Nat) (hc : mm_cls h s2 = 0) : ww (mp_P fx) (d + 1) 32 74 ls [.ref s0, .int s1, .ref s2] h Q ↔ wm (mp_P fx) d 22 [.ref s2, .int s1, .ref s0] h (fun r h' => ww (mp_P fx) (d + 1) 32 77 ls (r.toList ++ []) h' Q) := wr_virtual rfl (mm_recv_ok (n := 2) (rc := 0) ⟨rfl, rfl⟩ rfl hc (by decide)) rfl
theorem q32_77 (ls : mm_V) (s0 : Int32) : ww (mp_P fx) d 32 77 ls [.int s0] h Q ↔ (if ¬ s0 = 0 then ww (mp_P fx) d 32 110 ls [] h Q else ww (mp_P fx) d 32 80 ls [] h Q) := wr_if_ne (t := 110) rfl
theorem q32_80 (l1 : Option Value) (x : Nat) : ww (mp_P fx) d 32 80 [some (.ref x), l1] [] h Q ↔ ww (mp_P fx) d 32 81 [some (.ref x), l1] [.ref x] h Q := ww_step rfl
theorem q32_81 (l0 : Option Value) (x : Int32) (s0 : Nat) : ww (mp_P fx) d 32 81 [l0, some (.int x)] [.ref s0] h Q ↔ ww (mp_P fx) d 32 82 [l0, some (.int x)] [.int x, .ref s0] h Q := ww_step rfl
theorem q32_82 (ls : mm_V) (s0 : Int32) (s1 : Nat) : ww (mp_P fx) d 32 82 ls [.int s0, .ref s1] h Q ↔ ww (mp_P fx) d 32 84 ls [.ref 39, .int s0, .ref s1] h Q := wr_fload (i := 39) rfl
theorem q32_84 (ls : mm_V) (s0 : Nat) (s1 : Int32) (s2 : Nat) (hc : mm_cls h s2 = 0) : ww (mp_P fx) (d + 1) 32 84 ls [.ref s0, .int s1, .ref s2] h Q ↔ wm (mp_P fx) d 22 [.ref s2, .int s1, .ref s0] h (fun r h' => ww (mp_P fx) (d + 1) 32 87 ls (r.toList ++ []) h' Q) := wr_virtual rfl (mm_recv_ok (n := 2) (rc := 0) ⟨rfl, rfl⟩ rfl hc (by decide)) rfl
theorem q32_87 (ls : mm_V) (s0 : Int32) : ww (mp_P fx) d 32 87 ls [.int s0] h Q ↔ (if ¬ s0 = 0 then ww (mp_P fx) d 32 110 ls [] h Q else ww (mp_P fx) d 32 90 ls [] h Q) := wr_if_ne (t := 110) rfl
theorem q32_90 (l1 : Option Value) (x : Nat) : ww (mp_P fx) d 32 90 [some (.ref x), l1] [] h Q ↔ ww (mp_P fx) d 32 91 [some (.ref x), l1] [.ref x] h Q := ww_step rfl
theorem q32_91 (l0 : Option Value) (x : Int32) (s0 : Nat) : ww (mp_P fx) d 32 91 [l0, some (.int x)] [.ref s0] h Q ↔ ww (mp_P fx) d 32 92 [l0, some (.int x)] [.int x, .ref s0] h Q := ww_step rfl
theorem q32_92 (ls : mm_V) (s0 : Int32) (s1 : Nat) : ww (mp_P fx) d 32 92 ls [.int s0, .ref s1] h Q ↔ ww (mp_P fx) d 32 94 ls [.ref 41, .int s0, .ref s1] h Q := wr_fload (i := 41) rfl
theorem q32_94 (ls : mm_V) (s0 : Nat) (s1 : Int32) (s2 : Nat) (hc : mm_cls h s2 = 0) : ww (mp_P fx) (d + 1) 32 94 ls [.ref s0, .int s1, .ref s2] h Q ↔ wm (mp_P fx) d 22 [.ref s2, .int s1, .ref s0] h (fun r h' => ww (mp_P fx) (d + 1) 32 97 ls (r.toList ++ []) h' Q) := wr_virtual rfl (mm_recv_ok (n := 2) (rc := 0) ⟨rfl, rfl⟩ rfl hc (by decide)) rfl
theorem q32_97 (ls : mm_V) (s0 : Int32) : ww (mp_P fx) d 32 97 ls [.int s0] h Q ↔ (if ¬ s0 = 0 then ww (mp_P fx) d 32 110 ls [] h Q else ww (mp_P fx) d 32 100 ls [] h Q) := wr_if_ne (t := 110) rfl
theorem q32_100 (l1 : Option Value) (x : Nat) : ww (mp_P fx) d 32 100 [some (.ref x), l1] [] h Q ↔ ww (mp_P fx) d 32 101 [some (.ref x), l1] [.ref x] h Q := ww_step rfl
theorem q32_101 (l0 : Option Value) (x : Int32) (s0 : Nat) : ww (mp_P fx) d 32 101 [l0, some (.int x)] [.ref s0] h Q ↔ ww (mp_P fx) d 32 102 [l0, some (.int x)] [.int x, .ref s0] h Q := ww_step rfl
theorem q32_102 (ls : mm_V) (s0 : Int32) (s1 : Nat) : ww (mp_P fx) d 32 102 ls [.int s0, .ref s1] h Q ↔ ww (mp_P fx) d 32 104 ls [.ref 43, .int s0, .ref s1] h Q := wr_fload (i := 43) rfl
theorem q32_104 (ls : mm_V) (s0 : Nat) (s1 : Int32) (s2 : Nat) (hc : mm_cls h s2 = 0) : ww (mp_P fx) (d + 1) 32 104 ls [.ref s0, .int s1, .ref s2] h Q ↔ wm (mp_P fx) d 22 [.ref s2, .int s1, .ref s0] h (fun r h' => ww (mp_P fx) (d + 1) 32 107 ls (r.toList ++ []) h' Q) := wr_virtual rfl (mm_recv_ok (n := 2) (rc := 0) ⟨rfl, rfl⟩ rfl hc (by decide)) rfl
theorem q32_107 (ls : mm_V) (s0 : Int32) : ww (mp_P fx) d 32 107 ls [.int s0] h Q ↔ (if s0 = 0 then ww (mp_P fx) d 32 114 ls [] h Q else ww (mp_P fx) d 32 110 ls [] h Q) := wr_if_eq (t := 114) rfl
theorem q32_110 (ls : mm_V) : ww (mp_P fx) d 32 110 ls [] h Q ↔ ww (mp_P fx) d 32 111 ls [.int 1] h Q := wr_iconst (i := 1) rfl
theorem q32_111 (ls : mm_V) (s0 : Int32) : ww (mp_P fx) d 32 111 ls [.int s0] h Q ↔ ww (mp_P fx) d 32 115 ls [.int s0] h Q := wr_goto (t := 115) rfl
theorem q32_114 (ls : mm_V) : ww (mp_P fx) d 32 114 ls [] h Q ↔ ww (mp_P fx) d 32 115 ls [.int 0] h Q := wr_iconst (i := 0) rfl
theorem q32_115 (ls : mm_V) (s0 : Int32) (hb : mm_ret (mp_sig 32).2.2.2 (.int s0) = true) : ww (mp_P fx) d 32 115 ls [.int s0] h Q ↔ Q (some (.int s0)) h := wr_ireturn rfl hb
theorem b32_0 : mm_ret (mp_sig 32).2.2.2 (.int 0) = true := by decide +kernel
theorem b32_1 : mm_ret (mp_sig 32).2.2.2 (.int 1) = true := by decide +kernel
theorem e32 (a0 : Nat) (a1 : Int32) : wm (mp_P fx) d 32 [.ref a0, .int a1] h Q ↔ ww (mp_P fx) d 32 0 [some (.ref a0), some (.int a1)] [] h Q := Iff.rfl
/- 33 RainGrammar$Tape.isFigure.(C)Z -/
theorem q33_0  (x : Int32) : ww (mp_P fx) d 33 0 [some (.int x)] [] h Q ↔ ww (mp_P fx) d 33 1 [some (.int x)] [.int x] h Q := ww_step rfl
theorem q33_1 (ls : mm_V) (s0 : Int32) : ww (mp_P fx) d 33 1 ls [.int s0] h Q ↔ ww (mp_P fx) d 33 3 ls [.int 48, .int s0] h Q := wr_bipush (i := 48) rfl
theorem q33_3 (ls : mm_V) (s0 : Int32) (s1 : Int32) : ww (mp_P fx) d 33 3 ls [.int s0, .int s1] h Q ↔ (if s1 < s0 then ww (mp_P fx) d 33 16 ls [] h Q else ww (mp_P fx) d 33 6 ls [] h Q) := wr_icmp_lt (t := 16) rfl
theorem q33_6  (x : Int32) : ww (mp_P fx) d 33 6 [some (.int x)] [] h Q ↔ ww (mp_P fx) d 33 7 [some (.int x)] [.int x] h Q := ww_step rfl
theorem q33_7 (ls : mm_V) (s0 : Int32) : ww (mp_P fx) d 33 7 ls [.int s0] h Q ↔ ww (mp_P fx) d 33 9 ls [.int 57, .int s0] h Q := wr_bipush (i := 57) rfl
theorem q33_9 (ls : mm_V) (s0 : Int32) (s1 : Int32) : ww (mp_P fx) d 33 9 ls [.int s0, .int s1] h Q ↔ (if s0 < s1 then ww (mp_P fx) d 33 16 ls [] h Q else ww (mp_P fx) d 33 12 ls [] h Q) := wr_icmp_gt (t := 16) rfl
theorem q33_12 (ls : mm_V) : ww (mp_P fx) d 33 12 ls [] h Q ↔ ww (mp_P fx) d 33 13 ls [.int 1] h Q := wr_iconst (i := 1) rfl
theorem q33_13 (ls : mm_V) (s0 : Int32) : ww (mp_P fx) d 33 13 ls [.int s0] h Q ↔ ww (mp_P fx) d 33 17 ls [.int s0] h Q := wr_goto (t := 17) rfl
theorem q33_16 (ls : mm_V) : ww (mp_P fx) d 33 16 ls [] h Q ↔ ww (mp_P fx) d 33 17 ls [.int 0] h Q := wr_iconst (i := 0) rfl
theorem q33_17 (ls : mm_V) (s0 : Int32) (hb : mm_ret (mp_sig 33).2.2.2 (.int s0) = true) : ww (mp_P fx) d 33 17 ls [.int s0] h Q ↔ Q (some (.int s0)) h := wr_ireturn rfl hb
theorem b33_0 : mm_ret (mp_sig 33).2.2.2 (.int 0) = true := by decide +kernel
theorem b33_1 : mm_ret (mp_sig 33).2.2.2 (.int 1) = true := by decide +kernel
theorem e33 (a0 : Int32) : wm (mp_P fx) d 33 [.int a0] h Q ↔ ww (mp_P fx) d 33 0 [some (.int a0)] [] h Q := Iff.rfl
/- 34 RainGrammar$Tape.addNumber.()V -/
theorem q34_0 (l1 : Option Value) (l2 : Option Value) (x : Nat) : ww (mp_P fx) d 34 0 [some (.ref x), l1, l2] [] h Q ↔ ww (mp_P fx) d 34 1 [some (.ref x), l1, l2] [.ref x] h Q := ww_step rfl
theorem q34_1 (ls : mm_V) (s0 : Nat) : ww (mp_P fx) d 34 1 ls [.ref s0] h Q ↔ ∃ x, mm_gF h s0 0 8 = some x ∧ ww (mp_P fx) d 34 4 ls [x] h Q := wr_getfield (n := 8) rfl
theorem q34_4r (l1 : Option Value) (l2 : Option Value) (y : Nat) (s0 : Int32) : ww (mp_P fx) d 34 4 [some (.ref y), l1, l2] [.int s0] h Q ↔ ww (mp_P fx) d 34 5 [some (.ref y), some (.int s0), l2] [] h Q := wr_istore_n rfl (mm_s1_ok (Nat.le_of_ble_eq_true rfl) rfl)
theorem q34_5 (ls : mm_V) : ww (mp_P fx) d 34 5 ls [] h Q ↔ ww (mp_P fx) d 34 6 ls [.int 0] h Q := wr_iconst (i := 0) rfl
theorem q34_6i (l0 : Option Value) (l2 : Option Value) (y : Int32) (s0 : Int32) : ww (mp_P fx) d 34 6 [l0, some (.int y), l2] [.int s0] h Q ↔ ww (mp_P fx) d 34 7 [l0, some (.int y), some (.int s0)] [] h Q := wr_istore_n rfl (mm_s1_ok (Nat.le_of_ble_eq_true rfl) rfl)
theorem q34_7 (l1 : Option Value) (l2 : Option Value) (x : Nat) : ww (mp_P fx) d 34 7 [some (.ref x), l1, l2] [] h Q ↔ ww (mp_P fx) d 34 8 [some (.ref x), l1, l2] [.ref x] h Q := ww_step rfl
theorem q34_8 (ls : mm_V) (s0 : Nat) : ww (mp_P fx) d 34 8 ls [.ref s0] h Q ↔ ∃ x, mm_gF h s0 0 8 = some x ∧ ww (mp_P fx) d 34 11 ls [x] h Q := wr_getfield (n := 8) rfl
theorem q34_11 (l1 : Option Value) (l2 : Option Value) (x : Nat) (s0 : Int32) : ww (mp_P fx) d 34 11 [some (.ref x), l1, l2] [.int s0] h Q ↔ ww (mp_P fx) d 34 12 [some (.ref x), l1, l2] [.ref x, .int s0] h Q := ww_step rfl
theorem q34_12 (ls : mm_V) (s0 : Nat) (s1 : Int32) : ww (mp_P fx) d 34 12 ls [.ref s0, .int s1] h Q ↔ ∃ x, mm_gF h s0 0 1 = some x ∧ ww (mp_P fx) d 34 15 ls [x, .int s1] h Q := wr_getfield (n := 1) rfl
theorem q34_15 (ls : mm_V) (s0 : Int32) (s1 : Int32) : ww (mp_P fx) d 34 15 ls [.int s0, .int s1] h Q ↔ (if s0 ≤ s1 then ww (mp_P fx) d 34 64 ls [] h Q else ww (mp_P fx) d 34 18 ls [] h Q) := wr_icmp_ge (t := 64) rfl
theorem q34_18 (l1 : Option Value) (l2 : Option Value) (x : Nat) : ww (mp_P fx) d 34 18 [some (.ref x), l1, l2] [] h Q ↔ ww (mp_P fx) d 34 19 [some (.ref x), l1, l2] [.ref x] h Q := ww_step rfl
theorem q34_19 (ls : mm_V) (s0 : Nat) : ww (mp_P fx) d 34 19 ls [.ref s0] h Q ↔ ∃ x, mm_gF h s0 0 0 = some x ∧ ww (mp_P fx) d 34 22 ls [x] h Q := wr_getfield (n := 0) rfl
theorem q34_22 (l1 : Option Value) (l2 : Option Value) (x : Nat) (s0 : Nat) : ww (mp_P fx) d 34 22 [some (.ref x), l1, l2] [.ref s0] h Q ↔ ww (mp_P fx) d 34 23 [some (.ref x), l1, l2] [.ref x, .ref s0] h Q := ww_step rfl
theorem q34_23 (ls : mm_V) (s0 : Nat) (s1 : Nat) : ww (mp_P fx) d 34 23 ls [.ref s0, .ref s1] h Q ↔ ∃ x, mm_gF h s0 0 8 = some x ∧ ww (mp_P fx) d 34 26 ls [x, .ref s1] h Q := wr_getfield (n := 8) rfl
theorem q34_26 (ls : mm_V) (s0 : Int32) (s1 : Nat) : ww (mp_P fx) d 34 26 ls [.int s0, .ref s1] h Q ↔ ∃ x, mm_gI h s1 1 1 s0 = some x ∧ ww (mp_P fx) d 34 27 ls [.int x] h Q := wr_caload rfl
theorem q34_27 (ls : mm_V) (s0 : Int32) : ww (mp_P fx) (d + 1) 34 27 ls [.int s0] h Q ↔ wm (mp_P fx) d 33 [.int s0] h (fun r h' => ww (mp_P fx) (d + 1) 34 30 ls (r.toList ++ []) h' Q) := wr_static rfl rfl
theorem q34_30 (ls : mm_V) (s0 : Int32) : ww (mp_P fx) d 34 30 ls [.int s0] h Q ↔ (if s0 = 0 then ww (mp_P fx) d 34 64 ls [] h Q else ww (mp_P fx) d 34 33 ls [] h Q) := wr_if_eq (t := 64) rfl
theorem q34_33 (l0 : Option Value) (l1 : Option Value) (x : Int32) : ww (mp_P fx) d 34 33 [l0, l1, some (.int x)] [] h Q ↔ ww (mp_P fx) d 34 34 [l0, l1, some (.int x)] [.int x] h Q := ww_step rfl
theorem q34_34 (ls : mm_V) (s0 : Int32) : ww (mp_P fx) d 34 34 ls [.int s0] h Q ↔ ww (mp_P fx) d 34 36 ls [.int 10, .int s0] h Q := wr_bipush (i := 10) rfl
theorem q34_36 (ls : mm_V) (s0 : Int32) (s1 : Int32) : ww (mp_P fx) d 34 36 ls [.int s0, .int s1] h Q ↔ ww (mp_P fx) d 34 37 ls [.int (s1 * s0)] h Q := wr_imul rfl
theorem q34_37 (l1 : Option Value) (l2 : Option Value) (x : Nat) (s0 : Int32) : ww (mp_P fx) d 34 37 [some (.ref x), l1, l2] [.int s0] h Q ↔ ww (mp_P fx) d 34 38 [some (.ref x), l1, l2] [.ref x, .int s0] h Q := ww_step rfl
theorem q34_38 (ls : mm_V) (s0 : Nat) (s1 : Int32) : ww (mp_P fx) d 34 38 ls [.ref s0, .int s1] h Q ↔ ∃ x, mm_gF h s0 0 0 = some x ∧ ww (mp_P fx) d 34 41 ls [x, .int s1] h Q := wr_getfield (n := 0) rfl
theorem q34_41 (l1 : Option Value) (l2 : Option Value) (x : Nat) (s0 : Nat) (s1 : Int32) : ww (mp_P fx) d 34 41 [some (.ref x), l1, l2] [.ref s0, .int s1] h Q ↔ ww (mp_P fx) d 34 42 [some (.ref x), l1, l2] [.ref x, .ref s0, .int s1] h Q := ww_step rfl
theorem q34_42 (ls : mm_V) (s0 : Nat) (s1 : Nat) (s2 : Int32) : ww (mp_P fx) d 34 42 ls [.ref s0, .ref s1, .int s2] h Q ↔ ∃ x, mm_gF h s0 0 8 = some x ∧ ww (mp_P fx) d 34 45 ls [x, .ref s1, .int s2] h Q := wr_getfield (n := 8) rfl
theorem q34_45 (ls : mm_V) (s0 : Int32) (s1 : Nat) (s2 : Int32) : ww (mp_P fx) d 34 45 ls [.int s0, .ref s1, .int s2] h Q ↔ ∃ x, mm_gI h s1 1 1 s0 = some x ∧ ww (mp_P fx) d 34 46 ls [.int x, .int s2] h Q := wr_caload rfl
theorem q34_46 (ls : mm_V) (s0 : Int32) (s1 : Int32) : ww (mp_P fx) d 34 46 ls [.int s0, .int s1] h Q ↔ ww (mp_P fx) d 34 48 ls [.int 48, .int s0, .int s1] h Q := wr_bipush (i := 48) rfl
theorem q34_48 (ls : mm_V) (s0 : Int32) (s1 : Int32) (s2 : Int32) : ww (mp_P fx) d 34 48 ls [.int s0, .int s1, .int s2] h Q ↔ ww (mp_P fx) d 34 49 ls [.int (s1 - s0), .int s2] h Q := wr_isub rfl
theorem q34_49 (ls : mm_V) (s0 : Int32) (s1 : Int32) : ww (mp_P fx) d 34 49 ls [.int s0, .int s1] h Q ↔ ww (mp_P fx) d 34 50 ls [.int (s1 + s0)] h Q := wr_iadd rfl
theorem q34_50i (l0 : Option Value) (l2 : Option Value) (y : Int32) (s0 : Int32) : ww (mp_P fx) d 34 50 [l0, some (.int y), l2] [.int s0] h Q ↔ ww (mp_P fx) d 34 51 [l0, some (.int y), some (.int s0)] [] h Q := wr_istore_n rfl (mm_s1_ok (Nat.le_of_ble_eq_true rfl) rfl)
theorem q34_51 (l1 : Option Value) (l2 : Option Value) (x : Nat) : ww (mp_P fx) d 34 51 [some (.ref x), l1, l2] [] h Q ↔ ww (mp_P fx) d 34 52 [some (.ref x), l1, l2] [.ref x] h Q := ww_step rfl
theorem q34_52 (ls : mm_V) (s0 : Nat) : ww (mp_P fx) d 34 52 ls [.ref s0] h Q ↔ ww (mp_P fx) d 34 53 ls [.ref s0, .ref s0] h Q := ww_step rfl
theorem q34_53 (ls : mm_V) (s0 : Nat) (s1 : Nat) : ww (mp_P fx) d 34 53 ls [.ref s0, .ref s1] h Q ↔ ∃ x, mm_gF h s0 0 8 = some x ∧ ww (mp_P fx) d 34 56 ls [x, .ref s1] h Q := wr_getfield (n := 8) rfl
theorem q34_56 (ls : mm_V) (s0 : Int32) (s1 : Nat) : ww (mp_P fx) d 34 56 ls [.int s0, .ref s1] h Q ↔ ww (mp_P fx) d 34 57 ls [.int 1, .int s0, .ref s1] h Q := wr_iconst (i := 1) rfl
theorem q34_57 (ls : mm_V) (s0 : Int32) (s1 : Int32) (s2 : Nat) : ww (mp_P fx) d 34 57 ls [.int s0, .int s1, .ref s2] h Q ↔ ww (mp_P fx) d 34 58 ls [.int (s1 + s0), .ref s2] h Q := wr_iadd rfl
theorem q34_58 (ls : mm_V) (s0 : Int32) (s1 : Nat) : ww (mp_P fx) d 34 58 ls [.int s0, .ref s1] h Q ↔ ∃ h', mm_sF (mp_P fx) h s1 0 8 (.int s0) = some h' ∧ ww (mp_P fx) d 34 61 ls [] h' Q := wr_putfield (n := 8) rfl
theorem q34_61 (ls : mm_V) : ww (mp_P fx) d 34 61 ls [] h Q ↔ ww (mp_P fx) d 34 7 ls [] h Q := wr_goto (t := 7) rfl
theorem q34_64 (l1 : Option Value) (l2 : Option Value) (x : Nat) : ww (mp_P fx) d 34 64 [some (.ref x), l1, l2] [] h Q ↔ ww (mp_P fx) d 34 65 [some (.ref x), l1, l2] [.ref x] h Q := ww_step rfl
theorem q34_65 (ls : mm_V) (s0 : Nat) : ww (mp_P fx) d 34 65 ls [.ref s0] h Q ↔ ∃ x, mm_gF h s0 0 5 = some x ∧ ww (mp_P fx) d 34 68 ls [x] h Q := wr_getfield (n := 5) rfl
theorem q34_68 (l1 : Option Value) (l2 : Option Value) (x : Nat) (s0 : Nat) : ww (mp_P fx) d 34 68 [some (.ref x), l1, l2] [.ref s0] h Q ↔ ww (mp_P fx) d 34 69 [some (.ref x), l1, l2] [.ref x, .ref s0] h Q := ww_step rfl
theorem q34_69 (ls : mm_V) (s0 : Nat) (s1 : Nat) : ww (mp_P fx) d 34 69 ls [.ref s0, .ref s1] h Q ↔ ∃ x, mm_gF h s0 0 6 = some x ∧ ww (mp_P fx) d 34 72 ls [x, .ref s1] h Q := wr_getfield (n := 6) rfl
theorem q34_72 (l0 : Option Value) (l1 : Option Value) (x : Int32) (s0 : Int32) (s1 : Nat) : ww (mp_P fx) d 34 72 [l0, l1, some (.int x)] [.int s0, .ref s1] h Q ↔ ww (mp_P fx) d 34 73 [l0, l1, some (.int x)] [.int x, .int s0, .ref s1] h Q := ww_step rfl
theorem q34_73 (ls : mm_V) (s0 : Int32) (s1 : Int32) (s2 : Nat) : ww (mp_P fx) d 34 73 ls [.int s0, .int s1, .ref s2] h Q ↔ ww (mp_P fx) d 34 74 ls [.long s0.toInt64, .int s1, .ref s2] h Q := wr_i2l rfl
theorem q34_74 (ls : mm_V) (s0 : Int64) (s1 : Int32) (s2 : Nat) : ww (mp_P fx) d 34 74 ls [.long s0, .int s1, .ref s2] h Q ↔ ∃ h', mm_sL h s2 s1 s0 = some h' ∧ ww (mp_P fx) d 34 75 ls [] h' Q := wr_lastore rfl
theorem q34_75 (l1 : Option Value) (l2 : Option Value) (x : Nat) : ww (mp_P fx) d 34 75 [some (.ref x), l1, l2] [] h Q ↔ ww (mp_P fx) d 34 76 [some (.ref x), l1, l2] [.ref x] h Q := ww_step rfl
theorem q34_76 (ls : mm_V) (s0 : Nat) : ww (mp_P fx) d 34 76 ls [.ref s0] h Q ↔ ∃ x, mm_gF h s0 0 3 = some x ∧ ww (mp_P fx) d 34 79 ls [x] h Q := wr_getfield (n := 3) rfl
theorem q34_79 (l1 : Option Value) (l2 : Option Value) (x : Nat) (s0 : Nat) : ww (mp_P fx) d 34 79 [some (.ref x), l1, l2] [.ref s0] h Q ↔ ww (mp_P fx) d 34 80 [some (.ref x), l1, l2] [.ref x, .ref s0] h Q := ww_step rfl
theorem q34_80 (ls : mm_V) (s0 : Nat) (s1 : Nat) : ww (mp_P fx) d 34 80 ls [.ref s0, .ref s1] h Q ↔ ∃ x, mm_gF h s0 0 6 = some x ∧ ww (mp_P fx) d 34 83 ls [x, .ref s1] h Q := wr_getfield (n := 6) rfl
theorem q34_83 (l1 : Option Value) (l2 : Option Value) (x : Nat) (s0 : Int32) (s1 : Nat) : ww (mp_P fx) d 34 83 [some (.ref x), l1, l2] [.int s0, .ref s1] h Q ↔ ww (mp_P fx) d 34 84 [some (.ref x), l1, l2] [.ref x, .int s0, .ref s1] h Q := ww_step rfl
theorem q34_84 (ls : mm_V) (s0 : Nat) (s1 : Int32) (s2 : Nat) : ww (mp_P fx) d 34 84 ls [.ref s0, .int s1, .ref s2] h Q ↔ ∃ x, mm_gF h s0 0 8 = some x ∧ ww (mp_P fx) d 34 87 ls [x, .int s1, .ref s2] h Q := wr_getfield (n := 8) rfl
theorem q34_87 (l0 : Option Value) (l2 : Option Value) (x : Int32) (s0 : Int32) (s1 : Int32) (s2 : Nat) : ww (mp_P fx) d 34 87 [l0, some (.int x), l2] [.int s0, .int s1, .ref s2] h Q ↔ ww (mp_P fx) d 34 88 [l0, some (.int x), l2] [.int x, .int s0, .int s1, .ref s2] h Q := ww_step rfl
theorem q34_88 (ls : mm_V) (s0 : Int32) (s1 : Int32) (s2 : Int32) (s3 : Nat) : ww (mp_P fx) d 34 88 ls [.int s0, .int s1, .int s2, .ref s3] h Q ↔ ww (mp_P fx) d 34 89 ls [.int (s1 - s0), .int s2, .ref s3] h Q := wr_isub rfl
theorem q34_89 (ls : mm_V) (s0 : Int32) (s1 : Int32) (s2 : Nat) : ww (mp_P fx) d 34 89 ls [.int s0, .int s1, .ref s2] h Q ↔ ww (mp_P fx) d 34 90 ls [.int 4, .int s0, .int s1, .ref s2] h Q := wr_iconst (i := 4) rfl
theorem q34_90 (ls : mm_V) (s0 : Int32) (s1 : Int32) (s2 : Int32) (s3 : Nat) : ww (mp_P fx) d 34 90 ls [.int s0, .int s1, .int s2, .ref s3] h Q ↔ (if s1 ≤ s0 then ww (mp_P fx) d 34 97 ls [.int s2, .ref s3] h Q else ww (mp_P fx) d 34 93 ls [.int s2, .ref s3] h Q) := wr_icmp_le (t := 97) rfl
theorem q34_93 (ls : mm_V) (s0 : Int32) (s1 : Nat) : ww (mp_P fx) d 34 93 ls [.int s0, .ref s1] h Q ↔ ww (mp_P fx) d 34 94 ls [.int 1, .int s0, .ref s1] h Q := wr_iconst (i := 1) rfl
theorem q34_94 (ls : mm_V) (s0 : Int32) (s1 : Int32) (s2 : Nat) : ww (mp_P fx) d 34 94 ls [.int s0, .int s1, .ref s2] h Q ↔ ww (mp_P fx) d 34 98 ls [.int s0, .int s1, .ref s2] h Q := wr_goto (t := 98) rfl
theorem q34_97 (ls : mm_V) (s0 : Int32) (s1 : Nat) : ww (mp_P fx) d 34 97 ls [.int s0, .ref s1] h Q ↔ ww (mp_P fx) d 34 98 ls [.int 4, .int s0, .ref s1] h Q := wr_iconst (i := 4) rfl
theorem q34_98 (ls : mm_V) (s0 : Int32) (s1 : Int32) (s2 : Nat) : ww (mp_P fx) d 34 98 ls [.int s0, .int s1, .ref s2] h Q ↔ ∃ h', mm_sI h s2 0 s1 s0 = some h' ∧ ww (mp_P fx) d 34 99 ls [] h' Q := wr_iastore rfl
theorem q34_99 (ls : mm_V) : ww (mp_P fx) d 34 99 ls [] h Q ↔ Q none h := wr_return rfl rfl
theorem e34 (a0 : Nat) : wm (mp_P fx) d 34 [.ref a0] h Q ↔ ww (mp_P fx) d 34 0 [some (.ref a0), none, none] [] h Q := Iff.rfl
/- 50 RainGrammar$Tape.atEnd.()Z -/
theorem q50_0  (x : Nat) : ww (mp_P fx) d 50 0 [some (.ref x)] [] h Q ↔ ww (mp_P fx) d 50 1 [some (.ref x)] [.ref x] h Q := ww_step rfl
theorem q50_1 (ls : mm_V) (s0 : Nat) : ww (mp_P fx) d 50 1 ls [.ref s0] h Q ↔ ∃ x, mm_gF h s0 0 3 = some x ∧ ww (mp_P fx) d 50 4 ls [x] h Q := wr_getfield (n := 3) rfl
theorem q50_4  (x : Nat) (s0 : Nat) : ww (mp_P fx) d 50 4 [some (.ref x)] [.ref s0] h Q ↔ ww (mp_P fx) d 50 5 [some (.ref x)] [.ref x, .ref s0] h Q := ww_step rfl
theorem q50_5 (ls : mm_V) (s0 : Nat) (s1 : Nat) : ww (mp_P fx) d 50 5 ls [.ref s0, .ref s1] h Q ↔ ∃ x, mm_gF h s0 0 7 = some x ∧ ww (mp_P fx) d 50 8 ls [x, .ref s1] h Q := wr_getfield (n := 7) rfl
theorem q50_8 (ls : mm_V) (s0 : Int32) (s1 : Nat) : ww (mp_P fx) d 50 8 ls [.int s0, .ref s1] h Q ↔ ∃ x, mm_gI h s1 0 9 s0 = some x ∧ ww (mp_P fx) d 50 9 ls [.int x] h Q := wr_iaload rfl
theorem q50_9 (ls : mm_V) (s0 : Int32) : ww (mp_P fx) d 50 9 ls [.int s0] h Q ↔ (if ¬ s0 = 0 then ww (mp_P fx) d 50 16 ls [] h Q else ww (mp_P fx) d 50 12 ls [] h Q) := wr_if_ne (t := 16) rfl
theorem q50_12 (ls : mm_V) : ww (mp_P fx) d 50 12 ls [] h Q ↔ ww (mp_P fx) d 50 13 ls [.int 1] h Q := wr_iconst (i := 1) rfl
theorem q50_13 (ls : mm_V) (s0 : Int32) : ww (mp_P fx) d 50 13 ls [.int s0] h Q ↔ ww (mp_P fx) d 50 17 ls [.int s0] h Q := wr_goto (t := 17) rfl
theorem q50_16 (ls : mm_V) : ww (mp_P fx) d 50 16 ls [] h Q ↔ ww (mp_P fx) d 50 17 ls [.int 0] h Q := wr_iconst (i := 0) rfl
theorem q50_17 (ls : mm_V) (s0 : Int32) (hb : mm_ret (mp_sig 50).2.2.2 (.int s0) = true) : ww (mp_P fx) d 50 17 ls [.int s0] h Q ↔ Q (some (.int s0)) h := wr_ireturn rfl hb
theorem b50_0 : mm_ret (mp_sig 50).2.2.2 (.int 0) = true := by decide +kernel
theorem b50_1 : mm_ret (mp_sig 50).2.2.2 (.int 1) = true := by decide +kernel
theorem e50 (a0 : Nat) : wm (mp_P fx) d 50 [.ref a0] h Q ↔ ww (mp_P fx) d 50 0 [some (.ref a0)] [] h Q := Iff.rfl
/- 51 RainGrammar$SquareReader.addLine.(LRainGrammar$Tape;LRainGrammar$Square;)Z -/
theorem q51_0 (l1 : Option Value) (x : Nat) : ww (mp_P fx) d 51 0 [some (.ref x), l1] [] h Q ↔ ww (mp_P fx) d 51 1 [some (.ref x), l1] [.ref x] h Q := ww_step rfl
theorem q51_1 (ls : mm_V) (s0 : Nat) : ww (mp_P fx) d 51 1 ls [.ref s0] h Q ↔ ww (mp_P fx) d 51 3 ls [.ref 1, .ref s0] h Q := wr_fload (i := 1) rfl
theorem q51_3 (ls : mm_V) (s0 : Nat) (s1 : Nat) (hc : mm_cls h s1 = 0) : ww (mp_P fx) (d + 1) 51 3 ls [.ref s0, .ref s1] h Q ↔ wm (mp_P fx) d 52 [.ref s1, .ref s0] h (fun r h' => ww (mp_P fx) (d + 1) 51 6 ls (r.toList ++ []) h' Q) := wr_virtual rfl (mm_recv_ok (n := 1) (rc := 0) ⟨rfl, rfl⟩ rfl hc (by decide)) rfl
theorem q51_6 (ls : mm_V) (s0 : Int32) : ww (mp_P fx) d 51 6 ls [.int s0] h Q ↔ (if s0 = 0 then ww (mp_P fx) d 51 15 ls [] h Q else ww (mp_P fx) d 51 9 ls [] h Q) := wr_if_eq (t := 15) rfl
theorem q51_9 (l1 : Option Value) (x : Nat) : ww (mp_P fx) d 51 9 [some (.ref x), l1] [] h Q ↔ ww (mp_P fx) d 51 10 [some (.ref x), l1] [.ref x] h Q := ww_step rfl
theorem q51_10 (l0 : Option Value) (x : Nat) (s0 : Nat) : ww (mp_P fx) d 51 10 [l0, some (.ref x)] [.ref s0] h Q ↔ ww (mp_P fx) d 51 11 [l0, some (.ref x)] [.ref x, .ref s0] h Q := ww_step rfl
theorem q51_11 (ls : mm_V) (s0 : Nat) (s1 : Nat) : ww (mp_P fx) (d + 1) 51 11 ls [.ref s0, .ref s1] h Q ↔ wm (mp_P fx) d 53 [.ref s1, .ref s0] h (fun r h' => ww (mp_P fx) (d + 1) 51 14 ls (r.toList ++ []) h' Q) := wr_static rfl rfl
theorem q51_14 (ls : mm_V) (s0 : Int32) (hb : mm_ret (mp_sig 51).2.2.2 (.int s0) = true) : ww (mp_P fx) d 51 14 ls [.int s0] h Q ↔ Q (some (.int s0)) h := wr_ireturn rfl hb
theorem q51_15 (l1 : Option Value) (x : Nat) : ww (mp_P fx) d 51 15 [some (.ref x), l1] [] h Q ↔ ww (mp_P fx) d 51 16 [some (.ref x), l1] [.ref x] h Q := ww_step rfl
theorem q51_16 (ls : mm_V) (s0 : Nat) : ww (mp_P fx) d 51 16 ls [.ref s0] h Q ↔ ww (mp_P fx) d 51 18 ls [.ref 3, .ref s0] h Q := wr_fload (i := 3) rfl
theorem q51_18 (ls : mm_V) (s0 : Nat) (s1 : Nat) (hc : mm_cls h s1 = 0) : ww (mp_P fx) (d + 1) 51 18 ls [.ref s0, .ref s1] h Q ↔ wm (mp_P fx) d 52 [.ref s1, .ref s0] h (fun r h' => ww (mp_P fx) (d + 1) 51 21 ls (r.toList ++ []) h' Q) := wr_virtual rfl (mm_recv_ok (n := 1) (rc := 0) ⟨rfl, rfl⟩ rfl hc (by decide)) rfl
theorem q51_21 (ls : mm_V) (s0 : Int32) : ww (mp_P fx) d 51 21 ls [.int s0] h Q ↔ (if s0 = 0 then ww (mp_P fx) d 51 30 ls [] h Q else ww (mp_P fx) d 51 24 ls [] h Q) := wr_if_eq (t := 30) rfl
theorem q51_24 (l1 : Option Value) (x : Nat) : ww (mp_P fx) d 51 24 [some (.ref x), l1] [] h Q ↔ ww (mp_P fx) d 51 25 [some (.ref x), l1] [.ref x] h Q := ww_step rfl
theorem q51_25 (l0 : Option Value) (x : Nat) (s0 : Nat) : ww (mp_P fx) d 51 25 [l0, some (.ref x)] [.ref s0] h Q ↔ ww (mp_P fx) d 51 26 [l0, some (.ref x)] [.ref x, .ref s0] h Q := ww_step rfl
theorem q51_26 (ls : mm_V) (s0 : Nat) (s1 : Nat) : ww (mp_P fx) (d + 1) 51 26 ls [.ref s0, .ref s1] h Q ↔ wm (mp_P fx) d 64 [.ref s1, .ref s0] h (fun r h' => ww (mp_P fx) (d + 1) 51 29 ls (r.toList ++ []) h' Q) := wr_static rfl rfl
theorem q51_29 (ls : mm_V) (s0 : Int32) (hb : mm_ret (mp_sig 51).2.2.2 (.int s0) = true) : ww (mp_P fx) d 51 29 ls [.int s0] h Q ↔ Q (some (.int s0)) h := wr_ireturn rfl hb
theorem q51_30 (l1 : Option Value) (x : Nat) : ww (mp_P fx) d 51 30 [some (.ref x), l1] [] h Q ↔ ww (mp_P fx) d 51 31 [some (.ref x), l1] [.ref x] h Q := ww_step rfl
theorem q51_31 (ls : mm_V) (s0 : Nat) : ww (mp_P fx) d 51 31 ls [.ref s0] h Q ↔ ww (mp_P fx) d 51 33 ls [.ref 7, .ref s0] h Q := wr_fload (i := 7) rfl
theorem q51_33 (ls : mm_V) (s0 : Nat) (s1 : Nat) (hc : mm_cls h s1 = 0) : ww (mp_P fx) (d + 1) 51 33 ls [.ref s0, .ref s1] h Q ↔ wm (mp_P fx) d 52 [.ref s1, .ref s0] h (fun r h' => ww (mp_P fx) (d + 1) 51 36 ls (r.toList ++ []) h' Q) := wr_virtual rfl (mm_recv_ok (n := 1) (rc := 0) ⟨rfl, rfl⟩ rfl hc (by decide)) rfl
theorem q51_36 (ls : mm_V) (s0 : Int32) : ww (mp_P fx) d 51 36 ls [.int s0] h Q ↔ (if s0 = 0 then ww (mp_P fx) d 51 45 ls [] h Q else ww (mp_P fx) d 51 39 ls [] h Q) := wr_if_eq (t := 45) rfl
theorem q51_39 (l1 : Option Value) (x : Nat) : ww (mp_P fx) d 51 39 [some (.ref x), l1] [] h Q ↔ ww (mp_P fx) d 51 40 [some (.ref x), l1] [.ref x] h Q := ww_step rfl
theorem q51_40 (l0 : Option Value) (x : Nat) (s0 : Nat) : ww (mp_P fx) d 51 40 [l0, some (.ref x)] [.ref s0] h Q ↔ ww (mp_P fx) d 51 41 [l0, some (.ref x)] [.ref x, .ref s0] h Q := ww_step rfl
theorem q51_41 (ls : mm_V) (s0 : Nat) (s1 : Nat) : ww (mp_P fx) (d + 1) 51 41 ls [.ref s0, .ref s1] h Q ↔ wm (mp_P fx) d 67 [.ref s1, .ref s0] h (fun r h' => ww (mp_P fx) (d + 1) 51 44 ls (r.toList ++ []) h' Q) := wr_static rfl rfl
theorem q51_44 (ls : mm_V) (s0 : Int32) (hb : mm_ret (mp_sig 51).2.2.2 (.int s0) = true) : ww (mp_P fx) d 51 44 ls [.int s0] h Q ↔ Q (some (.int s0)) h := wr_ireturn rfl hb
theorem q51_45 (l1 : Option Value) (x : Nat) : ww (mp_P fx) d 51 45 [some (.ref x), l1] [] h Q ↔ ww (mp_P fx) d 51 46 [some (.ref x), l1] [.ref x] h Q := ww_step rfl
theorem q51_46 (ls : mm_V) (s0 : Nat) : ww (mp_P fx) d 51 46 ls [.ref s0] h Q ↔ ww (mp_P fx) d 51 48 ls [.ref 11, .ref s0] h Q := wr_fload (i := 11) rfl
theorem q51_48 (ls : mm_V) (s0 : Nat) (s1 : Nat) (hc : mm_cls h s1 = 0) : ww (mp_P fx) (d + 1) 51 48 ls [.ref s0, .ref s1] h Q ↔ wm (mp_P fx) d 52 [.ref s1, .ref s0] h (fun r h' => ww (mp_P fx) (d + 1) 51 51 ls (r.toList ++ []) h' Q) := wr_virtual rfl (mm_recv_ok (n := 1) (rc := 0) ⟨rfl, rfl⟩ rfl hc (by decide)) rfl
theorem q51_51 (ls : mm_V) (s0 : Int32) : ww (mp_P fx) d 51 51 ls [.int s0] h Q ↔ (if s0 = 0 then ww (mp_P fx) d 51 60 ls [] h Q else ww (mp_P fx) d 51 54 ls [] h Q) := wr_if_eq (t := 60) rfl
theorem q51_54 (l1 : Option Value) (x : Nat) : ww (mp_P fx) d 51 54 [some (.ref x), l1] [] h Q ↔ ww (mp_P fx) d 51 55 [some (.ref x), l1] [.ref x] h Q := ww_step rfl
theorem q51_55 (l0 : Option Value) (x : Nat) (s0 : Nat) : ww (mp_P fx) d 51 55 [l0, some (.ref x)] [.ref s0] h Q ↔ ww (mp_P fx) d 51 56 [l0, some (.ref x)] [.ref x, .ref s0] h Q := ww_step rfl
theorem q51_56 (ls : mm_V) (s0 : Nat) (s1 : Nat) : ww (mp_P fx) (d + 1) 51 56 ls [.ref s0, .ref s1] h Q ↔ wm (mp_P fx) d 69 [.ref s1, .ref s0] h (fun r h' => ww (mp_P fx) (d + 1) 51 59 ls (r.toList ++ []) h' Q) := wr_static rfl rfl
theorem q51_59 (ls : mm_V) (s0 : Int32) (hb : mm_ret (mp_sig 51).2.2.2 (.int s0) = true) : ww (mp_P fx) d 51 59 ls [.int s0] h Q ↔ Q (some (.int s0)) h := wr_ireturn rfl hb
theorem q51_60 (l1 : Option Value) (x : Nat) : ww (mp_P fx) d 51 60 [some (.ref x), l1] [] h Q ↔ ww (mp_P fx) d 51 61 [some (.ref x), l1] [.ref x] h Q := ww_step rfl
theorem q51_61 (ls : mm_V) (s0 : Nat) : ww (mp_P fx) d 51 61 ls [.ref s0] h Q ↔ ww (mp_P fx) d 51 63 ls [.ref 13, .ref s0] h Q := wr_fload (i := 13) rfl
theorem q51_63 (ls : mm_V) (s0 : Nat) (s1 : Nat) (hc : mm_cls h s1 = 0) : ww (mp_P fx) (d + 1) 51 63 ls [.ref s0, .ref s1] h Q ↔ wm (mp_P fx) d 52 [.ref s1, .ref s0] h (fun r h' => ww (mp_P fx) (d + 1) 51 66 ls (r.toList ++ []) h' Q) := wr_virtual rfl (mm_recv_ok (n := 1) (rc := 0) ⟨rfl, rfl⟩ rfl hc (by decide)) rfl
theorem q51_66 (ls : mm_V) (s0 : Int32) : ww (mp_P fx) d 51 66 ls [.int s0] h Q ↔ (if s0 = 0 then ww (mp_P fx) d 51 91 ls [] h Q else ww (mp_P fx) d 51 69 ls [] h Q) := wr_if_eq (t := 91) rfl
theorem q51_69 (l1 : Option Value) (x : Nat) : ww (mp_P fx) d 51 69 [some (.ref x), l1] [] h Q ↔ ww (mp_P fx) d 51 70 [some (.ref x), l1] [.ref x] h Q := ww_step rfl
theorem q51_70 (l0 : Option Value) (x : Nat) (s0 : Nat) : ww (mp_P fx) d 51 70 [l0, some (.ref x)] [.ref s0] h Q ↔ ww (mp_P fx) d 51 71 [l0, some (.ref x)] [.ref x, .ref s0] h Q := ww_step rfl
theorem q51_71 (ls : mm_V) (s0 : Nat) (s1 : Nat) : ww (mp_P fx) (d + 1) 51 71 ls [.ref s0, .ref s1] h Q ↔ wm (mp_P fx) d 70 [.ref s1, .ref s0] h (fun r h' => ww (mp_P fx) (d + 1) 51 74 ls (r.toList ++ []) h' Q) := wr_static rfl rfl
theorem q51_74 (ls : mm_V) (s0 : Int32) : ww (mp_P fx) d 51 74 ls [.int s0] h Q ↔ (if s0 = 0 then ww (mp_P fx) d 51 89 ls [] h Q else ww (mp_P fx) d 51 77 ls [] h Q) := wr_if_eq (t := 89) rfl
theorem q51_77 (l1 : Option Value) (x : Nat) : ww (mp_P fx) d 51 77 [some (.ref x), l1] [] h Q ↔ ww (mp_P fx) d 51 78 [some (.ref x), l1] [.ref x] h Q := ww_step rfl
theorem q51_78 (l0 : Option Value) (x : Nat) (s0 : Nat) : ww (mp_P fx) d 51 78 [l0, some (.ref x)] [.ref s0] h Q ↔ ww (mp_P fx) d 51 79 [l0, some (.ref x)] [.ref x, .ref s0] h Q := ww_step rfl
theorem q51_79 (ls : mm_V) (s0 : Nat) (s1 : Nat) : ww (mp_P fx) (d + 1) 51 79 ls [.ref s0, .ref s1] h Q ↔ wm (mp_P fx) d 73 [.ref s1, .ref s0] h (fun r h' => ww (mp_P fx) (d + 1) 51 82 ls (r.toList ++ []) h' Q) := wr_static rfl rfl
theorem q51_82 (ls : mm_V) (s0 : Int32) : ww (mp_P fx) d 51 82 ls [.int s0] h Q ↔ (if s0 = 0 then ww (mp_P fx) d 51 89 ls [] h Q else ww (mp_P fx) d 51 85 ls [] h Q) := wr_if_eq (t := 89) rfl
theorem q51_85 (ls : mm_V) : ww (mp_P fx) d 51 85 ls [] h Q ↔ ww (mp_P fx) d 51 86 ls [.int 1] h Q := wr_iconst (i := 1) rfl
theorem q51_86 (ls : mm_V) (s0 : Int32) : ww (mp_P fx) d 51 86 ls [.int s0] h Q ↔ ww (mp_P fx) d 51 90 ls [.int s0] h Q := wr_goto (t := 90) rfl
theorem q51_89 (ls : mm_V) : ww (mp_P fx) d 51 89 ls [] h Q ↔ ww (mp_P fx) d 51 90 ls [.int 0] h Q := wr_iconst (i := 0) rfl
theorem q51_90 (ls : mm_V) (s0 : Int32) (hb : mm_ret (mp_sig 51).2.2.2 (.int s0) = true) : ww (mp_P fx) d 51 90 ls [.int s0] h Q ↔ Q (some (.int s0)) h := wr_ireturn rfl hb
theorem q51_91 (l1 : Option Value) (x : Nat) : ww (mp_P fx) d 51 91 [some (.ref x), l1] [] h Q ↔ ww (mp_P fx) d 51 92 [some (.ref x), l1] [.ref x] h Q := ww_step rfl
theorem q51_92 (ls : mm_V) (s0 : Nat) : ww (mp_P fx) d 51 92 ls [.ref s0] h Q ↔ ww (mp_P fx) d 51 94 ls [.ref 19, .ref s0] h Q := wr_fload (i := 19) rfl
theorem q51_94 (ls : mm_V) (s0 : Nat) (s1 : Nat) (hc : mm_cls h s1 = 0) : ww (mp_P fx) (d + 1) 51 94 ls [.ref s0, .ref s1] h Q ↔ wm (mp_P fx) d 52 [.ref s1, .ref s0] h (fun r h' => ww (mp_P fx) (d + 1) 51 97 ls (r.toList ++ []) h' Q) := wr_virtual rfl (mm_recv_ok (n := 1) (rc := 0) ⟨rfl, rfl⟩ rfl hc (by decide)) rfl
theorem q51_97 (ls : mm_V) (s0 : Int32) : ww (mp_P fx) d 51 97 ls [.int s0] h Q ↔ (if s0 = 0 then ww (mp_P fx) d 51 106 ls [] h Q else ww (mp_P fx) d 51 100 ls [] h Q) := wr_if_eq (t := 106) rfl
theorem q51_100 (l1 : Option Value) (x : Nat) : ww (mp_P fx) d 51 100 [some (.ref x), l1] [] h Q ↔ ww (mp_P fx) d 51 101 [some (.ref x), l1] [.ref x] h Q := ww_step rfl
theorem q51_101 (l0 : Option Value) (x : Nat) (s0 : Nat) : ww (mp_P fx) d 51 101 [l0, some (.ref x)] [.ref s0] h Q ↔ ww (mp_P fx) d 51 102 [l0, some (.ref x)] [.ref x, .ref s0] h Q := ww_step rfl
theorem q51_102 (ls : mm_V) (s0 : Nat) (s1 : Nat) : ww (mp_P fx) (d + 1) 51 102 ls [.ref s0, .ref s1] h Q ↔ wm (mp_P fx) d 78 [.ref s1, .ref s0] h (fun r h' => ww (mp_P fx) (d + 1) 51 105 ls (r.toList ++ []) h' Q) := wr_static rfl rfl
theorem q51_105 (ls : mm_V) (s0 : Int32) (hb : mm_ret (mp_sig 51).2.2.2 (.int s0) = true) : ww (mp_P fx) d 51 105 ls [.int s0] h Q ↔ Q (some (.int s0)) h := wr_ireturn rfl hb
theorem q51_106 (l1 : Option Value) (x : Nat) : ww (mp_P fx) d 51 106 [some (.ref x), l1] [] h Q ↔ ww (mp_P fx) d 51 107 [some (.ref x), l1] [.ref x] h Q := ww_step rfl
theorem q51_107 (ls : mm_V) (s0 : Nat) : ww (mp_P fx) d 51 107 ls [.ref s0] h Q ↔ ww (mp_P fx) d 51 109 ls [.ref 21, .ref s0] h Q := wr_fload (i := 21) rfl
theorem q51_109 (ls : mm_V) (s0 : Nat) (s1 : Nat) (hc : mm_cls h s1 = 0) : ww (mp_P fx) (d + 1) 51 109 ls [.ref s0, .ref s1] h Q ↔ wm (mp_P fx) d 52 [.ref s1, .ref s0] h (fun r h' => ww (mp_P fx) (d + 1) 51 112 ls (r.toList ++ []) h' Q) := wr_virtual rfl (mm_recv_ok (n := 1) (rc := 0) ⟨rfl, rfl⟩ rfl hc (by decide)) rfl
theorem q51_112 (ls : mm_V) (s0 : Int32) : ww (mp_P fx) d 51 112 ls [.int s0] h Q ↔ (if s0 = 0 then ww (mp_P fx) d 51 123 ls [] h Q else ww (mp_P fx) d 51 115 ls [] h Q) := wr_if_eq (t := 123) rfl
theorem q51_115 (l1 : Option Value) (x : Nat) : ww (mp_P fx) d 51 115 [some (.ref x), l1] [] h Q ↔ ww (mp_P fx) d 51 116 [some (.ref x), l1] [.ref x] h Q := ww_step rfl
theorem q51_116 (l0 : Option Value) (x : Nat) (s0 : Nat) : ww (mp_P fx) d 51 116 [l0, some (.ref x)] [.ref s0] h Q ↔ ww (mp_P fx) d 51 117 [l0, some (.ref x)] [.ref x, .ref s0] h Q := ww_step rfl
theorem q51_117 (ls : mm_V) (s0 : Nat) (s1 : Nat) : ww (mp_P fx) (d + 1) 51 117 ls [.ref s0, .ref s1] h Q ↔ wm (mp_P fx) d 79 [.ref s1, .ref s0] h (fun r h' => ww (mp_P fx) (d + 1) 51 120 ls (r.toList ++ []) h' Q) := wr_static rfl rfl
theorem q51_120 (ls : mm_V) (s0 : Int32) : ww (mp_P fx) d 51 120 ls [.int s0] h Q ↔ ww (mp_P fx) d 51 128 ls [.int s0] h Q := wr_goto (t := 128) rfl
theorem q51_123 (l1 : Option Value) (x : Nat) : ww (mp_P fx) d 51 123 [some (.ref x), l1] [] h Q ↔ ww (mp_P fx) d 51 124 [some (.ref x), l1] [.ref x] h Q := ww_step rfl
theorem q51_124 (ls : mm_V) (s0 : Nat) : ww (mp_P fx) d 51 124 ls [.ref s0] h Q ↔ ww (mp_P fx) d 51 125 ls [.int 1, .ref s0] h Q := wr_iconst (i := 1) rfl
theorem q51_125 (ls : mm_V) (s0 : Int32) (s1 : Nat) (hc : mm_cls h s1 = 0) : ww (mp_P fx) (d + 1) 51 125 ls [.int s0, .ref s1] h Q ↔ wm (mp_P fx) d 54 [.ref s1, .int s0] h (fun r h' => ww (mp_P fx) (d + 1) 51 128 ls (r.toList ++ []) h' Q) := wr_virtual rfl (mm_recv_ok (n := 1) (rc := 0) ⟨rfl, rfl⟩ rfl hc (by decide)) rfl
theorem q51_128 (ls : mm_V) (s0 : Int32) (hb : mm_ret (mp_sig 51).2.2.2 (.int s0) = true) : ww (mp_P fx) d 51 128 ls [.int s0] h Q ↔ Q (some (.int s0)) h := wr_ireturn rfl hb
theorem b51_0 : mm_ret (mp_sig 51).2.2.2 (.int 0) = true := by decide +kernel
theorem b51_1 : mm_ret (mp_sig 51).2.2.2 (.int 1) = true := by decide +kernel
theorem e51 (a0 : Nat) (a1 : Nat) : wm (mp_P fx) d 51 [.ref a0, .ref a1] h Q ↔ ww (mp_P fx) d 51 0 [some (.ref a0), some (.ref a1)] [] h Q := Iff.rfl
end RW
