section RW
variable (fx : List Value → mm_H → Option (List Value × mm_H)) (d : Nat) (h : mm_H) (Q : Option Value → mm_H → Prop)
theorem q5000_23 (l0 : Option Value) (l1 : Option Value) (l2 : Option Value) (l3 : Option Value) (l5 : Option Value) (l6 : Option Value) (x : Int32) : ww (mp_P fx) d 5000 23 [l0, l1, l2, l3, some (.int x), l5, l6] [] h Q ↔ ww (mp_P fx) d 5000 25 [l0, l1, l2, l3, some (.int x), l5, l6] [.int x] h Q := ww_step rfl
theorem q5000_25 (l1 : Option Value) (l2 : Option Value) (l3 : Option Value) (l4 : Option Value) (l5 : Option Value) (l6 : Option Value) (x : Nat) (s0 : Int32) : ww (mp_P fx) d 5000 25 [some (.ref x), l1, l2, l3, l4, l5, l6] [.int s0] h Q ↔ ww (mp_P fx) d 5000 26 [some (.ref x), l1, l2, l3, l4, l5, l6] [.ref x, .int s0] h Q := ww_step rfl
theorem q5000_26 (ls : mm_V) (s0 : Nat) (s1 : Int32) : ww (mp_P fx) d 5000 26 ls [.ref s0, .int s1] h Q ↔ ∃ x, mm_gN h s0 = some x ∧ ww (mp_P fx) d 5000 27 ls [.int x, .int s1] h Q := wr_arraylength rfl
theorem q5000_27 (ls : mm_V) (s0 : Int32) (s1 : Int32) : ww (mp_P fx) d 5000 27 ls [.int s0, .int s1] h Q ↔ ww (mp_P fx) d 5000 29 ls [.int 7, .int s0, .int s1] h Q := wr_bipush (i := 7) rfl
theorem q5000_29 (ls : mm_V) (s0 : Int32) (s1 : Int32) (s2 : Int32) : ww (mp_P fx) d 5000 29 ls [.int s0, .int s1, .int s2] h Q ↔ ww (mp_P fx) d 5000 30 ls [.int (s1 - s0), .int s2] h Q := wr_isub rfl
theorem q5000_30 (ls : mm_V) (s0 : Int32) (s1 : Int32) : ww (mp_P fx) d 5000 30 ls [.int s0, .int s1] h Q ↔ (if s0 < s1 then ww (mp_P fx) d 5000 1337 ls [] h Q else ww (mp_P fx) d 5000 33 ls [] h Q) := wr_icmp_gt (t := 1337) rfl
theorem q5000_33 (l1 : Option Value) (l2 : Option Value) (l3 : Option Value) (l4 : Option Value) (l5 : Option Value) (l6 : Option Value) (x : Nat) : ww (mp_P fx) d 5000 33 [some (.ref x), l1, l2, l3, l4, l5, l6] [] h Q ↔ ww (mp_P fx) d 5000 34 [some (.ref x), l1, l2, l3, l4, l5, l6] [.ref x] h Q := ww_step rfl
theorem q5000_34 (l0 : Option Value) (l1 : Option Value) (l2 : Option Value) (l3 : Option Value) (l5 : Option Value) (l6 : Option Value) (x : Int32) (s0 : Nat) : ww (mp_P fx) d 5000 34 [l0, l1, l2, l3, some (.int x), l5, l6] [.ref s0] h Q ↔ ww (mp_P fx) d 5000 36 [l0, l1, l2, l3, some (.int x), l5, l6] [.int x, .ref s0] h Q := ww_step rfl
theorem q5000_36 (ls : mm_V) (s0 : Int32) (s1 : Nat) : ww (mp_P fx) d 5000 36 ls [.int s0, .ref s1] h Q ↔ ∃ x, mm_gI h s1 0 9 s0 = some x ∧ ww (mp_P fx) d 5000 37 ls [.int x] h Q := wr_iaload rfl
theorem q5000_37 (ls : mm_V) (s0 : Int32) : ww (mp_P fx) d 5000 37 ls [.int s0] h Q ↔ ww (mp_P fx) d 5000 39 ls [.int 63, .int s0] h Q := wr_bipush (i := 63) rfl
theorem q5000_39 (ls : mm_V) (s0 : Int32) (s1 : Int32) : ww (mp_P fx) d 5000 39 ls [.int s0, .int s1] h Q ↔ ww (mp_P fx) d 5000 40 ls [.int (s1 &&& s0)] h Q := wr_iand rfl
theorem q5000_40 (ls : mm_V) (s0 : Int32) : ww (mp_P fx) d 5000 40 ls [.int s0] h Q ↔ ww (mp_P fx) d 5000 (mm_tsw 1331 0 37 #[208, 355, 368, 381, 394, 431, 456, 469, 506, 531, 556, 569, 594, 607, 632, 681, 706, 743, 756, 769, 806, 819, 832, 857, 870, 895, 908, 933, 958, 983, 996, 1061, 1074, 1087, 1112, 1204, 1253, 1306] s0).toNat ls [] h Q := wr_tsw (d0 := 1331) (lo := 0) (hi0 := 37) (offs := #[208, 355, 368, 381, 394, 431, 456, 469, 506, 531, 556, 569, 594, 607, 632, 681, 706, 743, 756, 769, 806, 819, 832, 857, 870, 895, 908, 933, 958, 983, 996, 1061, 1074, 1087, 1112, 1204, 1253, 1306]) rfl
theorem q5000_208 (l0 : Option Value) (l2 : Option Value) (l3 : Option Value) (l4 : Option Value) (l5 : Option Value) (l6 : Option Value) (x : Nat) : ww (mp_P fx) d 5000 208 [l0, some (.ref x), l2, l3, l4, l5, l6] [] h Q ↔ ww (mp_P fx) d 5000 209 [l0, some (.ref x), l2, l3, l4, l5, l6] [.ref x] h Q := ww_step rfl
theorem q5000_209 (l1 : Option Value) (l2 : Option Value) (l3 : Option Value) (l4 : Option Value) (l5 : Option Value) (l6 : Option Value) (x : Nat) (s0 : Nat) : ww (mp_P fx) d 5000 209 [some (.ref x), l1, l2, l3, l4, l5, l6] [.ref s0] h Q ↔ ww (mp_P fx) d 5000 210 [some (.ref x), l1, l2, l3, l4, l5, l6] [.ref x, .ref s0] h Q := ww_step rfl
theorem q5000_210 (l0 : Option Value) (l1 : Option Value) (l2 : Option Value) (l3 : Option Value) (l5 : Option Value) (l6 : Option Value) (x : Int32) (s0 : Nat) (s1 : Nat) : ww (mp_P fx) d 5000 210 [l0, l1, l2, l3, some (.int x), l5, l6] [.ref s0, .ref s1] h Q ↔ ww (mp_P fx) d 5000 212 [l0, l1, l2, l3, some (.int x), l5, l6] [.int x, .ref s0, .ref s1] h Q := ww_step rfl
theorem q5000_212 (ls : mm_V) (s0 : Int32) (s1 : Nat) (s2 : Nat) : ww (mp_P fx) d 5000 212 ls [.int s0, .ref s1, .ref s2] h Q ↔ ww (mp_P fx) d 5000 213 ls [.int 1, .int s0, .ref s1, .ref s2] h Q := wr_iconst (i := 1) rfl
theorem q5000_213 (ls : mm_V) (s0 : Int32) (s1 : Int32) (s2 : Nat) (s3 : Nat) : ww (mp_P fx) d 5000 213 ls [.int s0, .int s1, .ref s2, .ref s3] h Q ↔ ww (mp_P fx) d 5000 214 ls [.int (s1 + s0), .ref s2, .ref s3] h Q := wr_iadd rfl
theorem q5000_214 (ls : mm_V) (s0 : Int32) (s1 : Nat) (s2 : Nat) : ww (mp_P fx) d 5000 214 ls [.int s0, .ref s1, .ref s2] h Q ↔ ∃ x, mm_gI h s1 0 9 s0 = some x ∧ ww (mp_P fx) d 5000 215 ls [.int x, .ref s2] h Q := wr_iaload rfl
theorem q5000_215 (ls : mm_V) (s0 : Int32) (s1 : Nat) : ww (mp_P fx) d 5000 215 ls [.int s0, .ref s1] h Q ↔ ww (mp_P fx) d 5000 216 ls [.long s0.toInt64, .ref s1] h Q := wr_i2l rfl
theorem q5000_216 (ls : mm_V) (s0 : Int64) (s1 : Nat) : ww (mp_P fx) d 5000 216 ls [.long s0, .ref s1] h Q ↔ ww (mp_P fx) d 5000 218 ls [.int 32, .long s0, .ref s1] h Q := wr_bipush (i := 32) rfl
theorem q5000_218 (ls : mm_V) (s0 : Int32) (s1 : Int64) (s2 : Nat) : ww (mp_P fx) d 5000 218 ls [.int s0, .long s1, .ref s2] h Q ↔ ww (mp_P fx) d 5000 219 ls [.long (s1 <<< (s0.toInt64 &&& 63)), .ref s2] h Q := wr_lshl rfl
theorem q5000_219 (l1 : Option Value) (l2 : Option Value) (l3 : Option Value) (l4 : Option Value) (l5 : Option Value) (l6 : Option Value) (x : Nat) (s0 : Int64) (s1 : Nat) : ww (mp_P fx) d 5000 219 [some (.ref x), l1, l2, l3, l4, l5, l6] [.long s0, .ref s1] h Q ↔ ww (mp_P fx) d 5000 220 [some (.ref x), l1, l2, l3, l4, l5, l6] [.ref x, .long s0, .ref s1] h Q := ww_step rfl
theorem q5000_220 (l0 : Option Value) (l1 : Option Value) (l2 : Option Value) (l3 : Option Value) (l5 : Option Value) (l6 : Option Value) (x : Int32) (s0 : Nat) (s1 : Int64) (s2 : Nat) : ww (mp_P fx) d 5000 220 [l0, l1, l2, l3, some (.int x), l5, l6] [.ref s0, .long s1, .ref s2] h Q ↔ ww (mp_P fx) d 5000 222 [l0, l1, l2, l3, some (.int x), l5, l6] [.int x, .ref s0, .long s1, .ref s2] h Q := ww_step rfl
theorem q5000_222 (ls : mm_V) (s0 : Int32) (s1 : Nat) (s2 : Int64) (s3 : Nat) : ww (mp_P fx) d 5000 222 ls [.int s0, .ref s1, .long s2, .ref s3] h Q ↔ ww (mp_P fx) d 5000 223 ls [.int 2, .int s0, .ref s1, .long s2, .ref s3] h Q := wr_iconst (i := 2) rfl
theorem q5000_223 (ls : mm_V) (s0 : Int32) (s1 : Int32) (s2 : Nat) (s3 : Int64) (s4 : Nat) : ww (mp_P fx) d 5000 223 ls [.int s0, .int s1, .ref s2, .long s3, .ref s4] h Q ↔ ww (mp_P fx) d 5000 224 ls [.int (s1 + s0), .ref s2, .long s3, .ref s4] h Q := wr_iadd rfl
theorem q5000_224 (ls : mm_V) (s0 : Int32) (s1 : Nat) (s2 : Int64) (s3 : Nat) : ww (mp_P fx) d 5000 224 ls [.int s0, .ref s1, .long s2, .ref s3] h Q ↔ ∃ x, mm_gI h s1 0 9 s0 = some x ∧ ww (mp_P fx) d 5000 225 ls [.int x, .long s2, .ref s3] h Q := wr_iaload rfl
theorem q5000_225 (ls : mm_V) (s0 : Int32) (s1 : Int64) (s2 : Nat) : ww (mp_P fx) d 5000 225 ls [.int s0, .long s1, .ref s2] h Q ↔ ww (mp_P fx) d 5000 226 ls [.long s0.toInt64, .long s1, .ref s2] h Q := wr_i2l rfl
theorem q5000_226 (ls : mm_V) (s0 : Int64) (s1 : Int64) (s2 : Nat) : ww (mp_P fx) d 5000 226 ls [.long s0, .long s1, .ref s2] h Q ↔ ww (mp_P fx) d 5000 229 ls [.long 4294967295, .long s0, .long s1, .ref s2] h Q := wr_ldc2_w (i := 4294967295) rfl
theorem q5000_229 (ls : mm_V) (s0 : Int64) (s1 : Int64) (s2 : Int64) (s3 : Nat) : ww (mp_P fx) d 5000 229 ls [.long s0, .long s1, .long s2, .ref s3] h Q ↔ ww (mp_P fx) d 5000 230 ls [.long (s1 &&& s0), .long s2, .ref s3] h Q := wr_land rfl
theorem q5000_230 (ls : mm_V) (s0 : Int64) (s1 : Int64) (s2 : Nat) : ww (mp_P fx) d 5000 230 ls [.long s0, .long s1, .ref s2] h Q ↔ ww (mp_P fx) d 5000 231 ls [.long (s1 ||| s0), .ref s2] h Q := wr_lor rfl
theorem q5000_231 (l1 : Option Value) (l2 : Option Value) (l3 : Option Value) (l4 : Option Value) (l5 : Option Value) (l6 : Option Value) (x : Nat) (s0 : Int64) (s1 : Nat) : ww (mp_P fx) d 5000 231 [some (.ref x), l1, l2, l3, l4, l5, l6] [.long s0, .ref s1] h Q ↔ ww (mp_P fx) d 5000 232 [some (.ref x), l1, l2, l3, l4, l5, l6] [.ref x, .long s0, .ref s1] h Q := ww_step rfl
theorem q5000_232 (l0 : Option Value) (l1 : Option Value) (l2 : Option Value) (l3 : Option Value) (l5 : Option Value) (l6 : Option Value) (x : Int32) (s0 : Nat) (s1 : Int64) (s2 : Nat) : ww (mp_P fx) d 5000 232 [l0, l1, l2, l3, some (.int x), l5, l6] [.ref s0, .long s1, .ref s2] h Q ↔ ww (mp_P fx) d 5000 234 [l0, l1, l2, l3, some (.int x), l5, l6] [.int x, .ref s0, .long s1, .ref s2] h Q := ww_step rfl
theorem q5000_234 (ls : mm_V) (s0 : Int32) (s1 : Nat) (s2 : Int64) (s3 : Nat) : ww (mp_P fx) d 5000 234 ls [.int s0, .ref s1, .long s2, .ref s3] h Q ↔ ww (mp_P fx) d 5000 235 ls [.int 3, .int s0, .ref s1, .long s2, .ref s3] h Q := wr_iconst (i := 3) rfl
theorem q5000_235 (ls : mm_V) (s0 : Int32) (s1 : Int32) (s2 : Nat) (s3 : Int64) (s4 : Nat) : ww (mp_P fx) d 5000 235 ls [.int s0, .int s1, .ref s2, .long s3, .ref s4] h Q ↔ ww (mp_P fx) d 5000 236 ls [.int (s1 + s0), .ref s2, .long s3, .ref s4] h Q := wr_iadd rfl
theorem q5000_236 (ls : mm_V) (s0 : Int32) (s1 : Nat) (s2 : Int64) (s3 : Nat) : ww (mp_P fx) d 5000 236 ls [.int s0, .ref s1, .long s2, .ref s3] h Q ↔ ∃ x, mm_gI h s1 0 9 s0 = some x ∧ ww (mp_P fx) d 5000 237 ls [.int x, .long s2, .ref s3] h Q := wr_iaload rfl
theorem q5000_237 (ls : mm_V) (s0 : Int32) (s1 : Int64) (s2 : Nat) : ww (mp_P fx) d 5000 237 ls [.int s0, .long s1, .ref s2] h Q ↔ ww (mp_P fx) d 5000 238 ls [.long s0.toInt64, .long s1, .ref s2] h Q := wr_i2l rfl
theorem q5000_238 (ls : mm_V) (s0 : Int64) (s1 : Int64) (s2 : Nat) : ww (mp_P fx) d 5000 238 ls [.long s0, .long s1, .ref s2] h Q ↔ ww (mp_P fx) d 5000 240 ls [.int 32, .long s0, .long s1, .ref s2] h Q := wr_bipush (i := 32) rfl
theorem q5000_240 (ls : mm_V) (s0 : Int32) (s1 : Int64) (s2 : Int64) (s3 : Nat) : ww (mp_P fx) d 5000 240 ls [.int s0, .long s1, .long s2, .ref s3] h Q ↔ ww (mp_P fx) d 5000 241 ls [.long (s1 <<< (s0.toInt64 &&& 63)), .long s2, .ref s3] h Q := wr_lshl rfl
theorem q5000_241 (l1 : Option Value) (l2 : Option Value) (l3 : Option Value) (l4 : Option Value) (l5 : Option Value) (l6 : Option Value) (x : Nat) (s0 : Int64) (s1 : Int64) (s2 : Nat) : ww (mp_P fx) d 5000 241 [some (.ref x), l1, l2, l3, l4, l5, l6] [.long s0, .long s1, .ref s2] h Q ↔ ww (mp_P fx) d 5000 242 [some (.ref x), l1, l2, l3, l4, l5, l6] [.ref x, .long s0, .long s1, .ref s2] h Q := ww_step rfl
theorem q5000_242 (l0 : Option Value) (l1 : Option Value) (l2 : Option Value) (l3 : Option Value) (l5 : Option Value) (l6 : Option Value) (x : Int32) (s0 : Nat) (s1 : Int64) (s2 : Int64) (s3 : Nat) : ww (mp_P fx) d 5000 242 [l0, l1, l2, l3, some (.int x), l5, l6] [.ref s0, .long s1, .long s2, .ref s3] h Q ↔ ww (mp_P fx) d 5000 244 [l0, l1, l2, l3, some (.int x), l5, l6] [.int x, .ref s0, .long s1, .long s2, .ref s3] h Q := ww_step rfl
theorem q5000_244 (ls : mm_V) (s0 : Int32) (s1 : Nat) (s2 : Int64) (s3 : Int64) (s4 : Nat) : ww (mp_P fx) d 5000 244 ls [.int s0, .ref s1, .long s2, .long s3, .ref s4] h Q ↔ ww (mp_P fx) d 5000 245 ls [.int 4, .int s0, .ref s1, .long s2, .long s3, .ref s4] h Q := wr_iconst (i := 4) rfl
theorem q5000_245 (ls : mm_V) (s0 : Int32) (s1 : Int32) (s2 : Nat) (s3 : Int64) (s4 : Int64) (s5 : Nat) : ww (mp_P fx) d 5000 245 ls [.int s0, .int s1, .ref s2, .long s3, .long s4, .ref s5] h Q ↔ ww (mp_P fx) d 5000 246 ls [.int (s1 + s0), .ref s2, .long s3, .long s4, .ref s5] h Q := wr_iadd rfl
theorem q5000_246 (ls : mm_V) (s0 : Int32) (s1 : Nat) (s2 : Int64) (s3 : Int64) (s4 : Nat) : ww (mp_P fx) d 5000 246 ls [.int s0, .ref s1, .long s2, .long s3, .ref s4] h Q ↔ ∃ x, mm_gI h s1 0 9 s0 = some x ∧ ww (mp_P fx) d 5000 247 ls [.int x, .long s2, .long s3, .ref s4] h Q := wr_iaload rfl
theorem q5000_247 (ls : mm_V) (s0 : Int32) (s1 : Int64) (s2 : Int64) (s3 : Nat) : ww (mp_P fx) d 5000 247 ls [.int s0, .long s1, .long s2, .ref s3] h Q ↔ ww (mp_P fx) d 5000 248 ls [.long s0.toInt64, .long s1, .long s2, .ref s3] h Q := wr_i2l rfl
theorem q5000_248 (ls : mm_V) (s0 : Int64) (s1 : Int64) (s2 : Int64) (s3 : Nat) : ww (mp_P fx) d 5000 248 ls [.long s0, .long s1, .long s2, .ref s3] h Q ↔ ww (mp_P fx) d 5000 251 ls [.long 4294967295, .long s0, .long s1, .long s2, .ref s3] h Q := wr_ldc2_w (i := 4294967295) rfl
theorem q5000_251 (ls : mm_V) (s0 : Int64) (s1 : Int64) (s2 : Int64) (s3 : Int64) (s4 : Nat) : ww (mp_P fx) d 5000 251 ls [.long s0, .long s1, .long s2, .long s3, .ref s4] h Q ↔ ww (mp_P fx) d 5000 252 ls [.long (s1 &&& s0), .long s2, .long s3, .ref s4] h Q := wr_land rfl
theorem q5000_252 (ls : mm_V) (s0 : Int64) (s1 : Int64) (s2 : Int64) (s3 : Nat) : ww (mp_P fx) d 5000 252 ls [.long s0, .long s1, .long s2, .ref s3] h Q ↔ ww (mp_P fx) d 5000 253 ls [.long (s1 ||| s0), .long s2, .ref s3] h Q := wr_lor rfl
theorem q5000_253 (l1 : Option Value) (l2 : Option Value) (l3 : Option Value) (l4 : Option Value) (l5 : Option Value) (l6 : Option Value) (x : Nat) (s0 : Int64) (s1 : Int64) (s2 : Nat) : ww (mp_P fx) d 5000 253 [some (.ref x), l1, l2, l3, l4, l5, l6] [.long s0, .long s1, .ref s2] h Q ↔ ww (mp_P fx) d 5000 254 [some (.ref x), l1, l2, l3, l4, l5, l6] [.ref x, .long s0, .long s1, .ref s2] h Q := ww_step rfl
theorem q5000_254 (l0 : Option Value) (l1 : Option Value) (l2 : Option Value) (l3 : Option Value) (l5 : Option Value) (l6 : Option Value) (x : Int32) (s0 : Nat) (s1 : Int64) (s2 : Int64) (s3 : Nat) : ww (mp_P fx) d 5000 254 [l0, l1, l2, l3, some (.int x), l5, l6] [.ref s0, .long s1, .long s2, .ref s3] h Q ↔ ww (mp_P fx) d 5000 256 [l0, l1, l2, l3, some (.int x), l5, l6] [.int x, .ref s0, .long s1, .long s2, .ref s3] h Q := ww_step rfl
theorem q5000_256 (ls : mm_V) (s0 : Int32) (s1 : Nat) (s2 : Int64) (s3 : Int64) (s4 : Nat) : ww (mp_P fx) d 5000 256 ls [.int s0, .ref s1, .long s2, .long s3, .ref s4] h Q ↔ ww (mp_P fx) d 5000 257 ls [.int 5, .int s0, .ref s1, .long s2, .long s3, .ref s4] h Q := wr_iconst (i := 5) rfl
theorem q5000_257 (ls : mm_V) (s0 : Int32) (s1 : Int32) (s2 : Nat) (s3 : Int64) (s4 : Int64) (s5 : Nat) : ww (mp_P fx) d 5000 257 ls [.int s0, .int s1, .ref s2, .long s3, .long s4, .ref s5] h Q ↔ ww (mp_P fx) d 5000 258 ls [.int (s1 + s0), .ref s2, .long s3, .long s4, .ref s5] h Q := wr_iadd rfl
theorem q5000_258 (ls : mm_V) (s0 : Int32) (s1 : Nat) (s2 : Int64) (s3 : Int64) (s4 : Nat) : ww (mp_P fx) d 5000 258 ls [.int s0, .ref s1, .long s2, .long s3, .ref s4] h Q ↔ ∃ x, mm_gI h s1 0 9 s0 = some x ∧ ww (mp_P fx) d 5000 259 ls [.int x, .long s2, .long s3, .ref s4] h Q := wr_iaload rfl
theorem q5000_259 (ls : mm_V) (s0 : Int32) (s1 : Int64) (s2 : Int64) (s3 : Nat) : ww (mp_P fx) d 5000 259 ls [.int s0, .long s1, .long s2, .ref s3] h Q ↔ ww (mp_P fx) d 5000 260 ls [.long s0.toInt64, .long s1, .long s2, .ref s3] h Q := wr_i2l rfl
theorem q5000_260 (ls : mm_V) (s0 : Int64) (s1 : Int64) (s2 : Int64) (s3 : Nat) : ww (mp_P fx) d 5000 260 ls [.long s0, .long s1, .long s2, .ref s3] h Q ↔ ww (mp_P fx) d 5000 262 ls [.int 32, .long s0, .long s1, .long s2, .ref s3] h Q := wr_bipush (i := 32) rfl
theorem q5000_262 (ls : mm_V) (s0 : Int32) (s1 : Int64) (s2 : Int64) (s3 : Int64) (s4 : Nat) : ww (mp_P fx) d 5000 262 ls [.int s0, .long s1, .long s2, .long s3, .ref s4] h Q ↔ ww (mp_P fx) d 5000 263 ls [.long (s1 <<< (s0.toInt64 &&& 63)), .long s2, .long s3, .ref s4] h Q := wr_lshl rfl
theorem q5000_263 (l1 : Option Value) (l2 : Option Value) (l3 : Option Value) (l4 : Option Value) (l5 : Option Value) (l6 : Option Value) (x : Nat) (s0 : Int64) (s1 : Int64) (s2 : Int64) (s3 : Nat) : ww (mp_P fx) d 5000 263 [some (.ref x), l1, l2, l3, l4, l5, l6] [.long s0, .long s1, .long s2, .ref s3] h Q ↔ ww (mp_P fx) d 5000 264 [some (.ref x), l1, l2, l3, l4, l5, l6] [.ref x, .long s0, .long s1, .long s2, .ref s3] h Q := ww_step rfl
theorem q5000_264 (l0 : Option Value) (l1 : Option Value) (l2 : Option Value) (l3 : Option Value) (l5 : Option Value) (l6 : Option Value) (x : Int32) (s0 : Nat) (s1 : Int64) (s2 : Int64) (s3 : Int64) (s4 : Nat) : ww (mp_P fx) d 5000 264 [l0, l1, l2, l3, some (.int x), l5, l6] [.ref s0, .long s1, .long s2, .long s3, .ref s4] h Q ↔ ww (mp_P fx) d 5000 266 [l0, l1, l2, l3, some (.int x), l5, l6] [.int x, .ref s0, .long s1, .long s2, .long s3, .ref s4] h Q := ww_step rfl
theorem q5000_266 (ls : mm_V) (s0 : Int32) (s1 : Nat) (s2 : Int64) (s3 : Int64) (s4 : Int64) (s5 : Nat) : ww (mp_P fx) d 5000 266 ls [.int s0, .ref s1, .long s2, .long s3, .long s4, .ref s5] h Q ↔ ww (mp_P fx) d 5000 268 ls [.int 6, .int s0, .ref s1, .long s2, .long s3, .long s4, .ref s5] h Q := wr_bipush (i := 6) rfl
theorem q5000_268 (ls : mm_V) (s0 : Int32) (s1 : Int32) (s2 : Nat) (s3 : Int64) (s4 : Int64) (s5 : Int64) (s6 : Nat) : ww (mp_P fx) d 5000 268 ls [.int s0, .int s1, .ref s2, .long s3, .long s4, .long s5, .ref s6] h Q ↔ ww (mp_P fx) d 5000 269 ls [.int (s1 + s0), .ref s2, .long s3, .long s4, .long s5, .ref s6] h Q := wr_iadd rfl
theorem q5000_269 (ls : mm_V) (s0 : Int32) (s1 : Nat) (s2 : Int64) (s3 : Int64) (s4 : Int64) (s5 : Nat) : ww (mp_P fx) d 5000 269 ls [.int s0, .ref s1, .long s2, .long s3, .long s4, .ref s5] h Q ↔ ∃ x, mm_gI h s1 0 9 s0 = some x ∧ ww (mp_P fx) d 5000 270 ls [.int x, .long s2, .long s3, .long s4, .ref s5] h Q := wr_iaload rfl
theorem q5000_270 (ls : mm_V) (s0 : Int32) (s1 : Int64) (s2 : Int64) (s3 : Int64) (s4 : Nat) : ww (mp_P fx) d 5000 270 ls [.int s0, .long s1, .long s2, .long s3, .ref s4] h Q ↔ ww (mp_P fx) d 5000 271 ls [.long s0.toInt64, .long s1, .long s2, .long s3, .ref s4] h Q := wr_i2l rfl
theorem q5000_271 (ls : mm_V) (s0 : Int64) (s1 : Int64) (s2 : Int64) (s3 : Int64) (s4 : Nat) : ww (mp_P fx) d 5000 271 ls [.long s0, .long s1, .long s2, .long s3, .ref s4] h Q ↔ ww (mp_P fx) d 5000 274 ls [.long 4294967295, .long s0, .long s1, .long s2, .long s3, .ref s4] h Q := wr_ldc2_w (i := 4294967295) rfl
theorem q5000_274 (ls : mm_V) (s0 : Int64) (s1 : Int64) (s2 : Int64) (s3 : Int64) (s4 : Int64) (s5 : Nat) : ww (mp_P fx) d 5000 274 ls [.long s0, .long s1, .long s2, .long s3, .long s4, .ref s5] h Q ↔ ww (mp_P fx) d 5000 275 ls [.long (s1 &&& s0), .long s2, .long s3, .long s4, .ref s5] h Q := wr_land rfl
theorem q5000_275 (ls : mm_V) (s0 : Int64) (s1 : Int64) (s2 : Int64) (s3 : Int64) (s4 : Nat) : ww (mp_P fx) d 5000 275 ls [.long s0, .long s1, .long s2, .long s3, .ref s4] h Q ↔ ww (mp_P fx) d 5000 276 ls [.long (s1 ||| s0), .long s2, .long s3, .ref s4] h Q := wr_lor rfl
theorem q5000_276 (ls : mm_V) (s0 : Int64) (s1 : Int64) (s2 : Int64) (s3 : Nat) (hc : mm_cls h s3 = 9) : ww (mp_P fx) (d + 1) 5000 276 ls [.long s0, .long s1, .long s2, .ref s3] h Q ↔ wm (mp_P fx) d 10 [.ref s3, .long s2, .long s1, .long s0] h (fun r h' => ww (mp_P fx) (d + 1) 5000 279 ls (r.toList ++ []) h' Q) := wr_virtual rfl (mm_recv_ok (n := 3) (rc := 9) ⟨rfl, rfl⟩ rfl hc (by decide)) rfl
theorem q5000_279 (l0 : Option Value) (l1 : Option Value) (l3 : Option Value) (l4 : Option Value) (l5 : Option Value) (l6 : Option Value) (x : Nat) (s0 : Int32) : ww (mp_P fx) d 5000 279 [l0, l1, some (.ref x), l3, l4, l5, l6] [.int s0] h Q ↔ ww (mp_P fx) d 5000 280 [l0, l1, some (.ref x), l3, l4, l5, l6] [.ref x, .int s0] h Q := ww_step rfl
theorem q5000_280 (l1 : Option Value) (l2 : Option Value) (l3 : Option Value) (l4 : Option Value) (l5 : Option Value) (l6 : Option Value) (x : Nat) (s0 : Nat) (s1 : Int32) : ww (mp_P fx) d 5000 280 [some (.ref x), l1, l2, l3, l4, l5, l6] [.ref s0, .int s1] h Q ↔ ww (mp_P fx) d 5000 281 [some (.ref x), l1, l2, l3, l4, l5, l6] [.ref x, .ref s0, .int s1] h Q := ww_step rfl
theorem q5000_281 (l0 : Option Value) (l1 : Option Value) (l2 : Option Value) (l3 : Option Value) (l5 : Option Value) (l6 : Option Value) (x : Int32) (s0 : Nat) (s1 : Nat) (s2 : Int32) : ww (mp_P fx) d 5000 281 [l0, l1, l2, l3, some (.int x), l5, l6] [.ref s0, .ref s1, .int s2] h Q ↔ ww (mp_P fx) d 5000 283 [l0, l1, l2, l3, some (.int x), l5, l6] [.int x, .ref s0, .ref s1, .int s2] h Q := ww_step rfl
theorem q5000_283 (ls : mm_V) (s0 : Int32) (s1 : Nat) (s2 : Nat) (s3 : Int32) : ww (mp_P fx) d 5000 283 ls [.int s0, .ref s1, .ref s2, .int s3] h Q ↔ ww (mp_P fx) d 5000 284 ls [.int 1, .int s0, .ref s1, .ref s2, .int s3] h Q := wr_iconst (i := 1) rfl
theorem q5000_284 (ls : mm_V) (s0 : Int32) (s1 : Int32) (s2 : Nat) (s3 : Nat) (s4 : Int32) : ww (mp_P fx) d 5000 284 ls [.int s0, .int s1, .ref s2, .ref s3, .int s4] h Q ↔ ww (mp_P fx) d 5000 285 ls [.int (s1 + s0), .ref s2, .ref s3, .int s4] h Q := wr_iadd rfl
theorem q5000_285 (ls : mm_V) (s0 : Int32) (s1 : Nat) (s2 : Nat) (s3 : Int32) : ww (mp_P fx) d 5000 285 ls [.int s0, .ref s1, .ref s2, .int s3] h Q ↔ ∃ x, mm_gI h s1 0 9 s0 = some x ∧ ww (mp_P fx) d 5000 286 ls [.int x, .ref s2, .int s3] h Q := wr_iaload rfl
theorem q5000_286 (ls : mm_V) (s0 : Int32) (s1 : Nat) (s2 : Int32) : ww (mp_P fx) d 5000 286 ls [.int s0, .ref s1, .int s2] h Q ↔ ww (mp_P fx) d 5000 287 ls [.long s0.toInt64, .ref s1, .int s2] h Q := wr_i2l rfl
theorem q5000_287 (ls : mm_V) (s0 : Int64) (s1 : Nat) (s2 : Int32) : ww (mp_P fx) d 5000 287 ls [.long s0, .ref s1, .int s2] h Q ↔ ww (mp_P fx) d 5000 289 ls [.int 32, .long s0, .ref s1, .int s2] h Q := wr_bipush (i := 32) rfl
theorem q5000_289 (ls : mm_V) (s0 : Int32) (s1 : Int64) (s2 : Nat) (s3 : Int32) : ww (mp_P fx) d 5000 289 ls [.int s0, .long s1, .ref s2, .int s3] h Q ↔ ww (mp_P fx) d 5000 290 ls [.long (s1 <<< (s0.toInt64 &&& 63)), .ref s2, .int s3] h Q := wr_lshl rfl
theorem q5000_290 (l1 : Option Value) (l2 : Option Value) (l3 : Option Value) (l4 : Option Value) (l5 : Option Value) (l6 : Option Value) (x : Nat) (s0 : Int64) (s1 : Nat) (s2 : Int32) : ww (mp_P fx) d 5000 290 [some (.ref x), l1, l2, l3, l4, l5, l6] [.long s0, .ref s1, .int s2] h Q ↔ ww (mp_P fx) d 5000 291 [some (.ref x), l1, l2, l3, l4, l5, l6] [.ref x, .long s0, .ref s1, .int s2] h Q := ww_step rfl
theorem q5000_291 (l0 : Option Value) (l1 : Option Value) (l2 : Option Value) (l3 : Option Value) (l5 : Option Value) (l6 : Option Value) (x : Int32) (s0 : Nat) (s1 : Int64) (s2 : Nat) (s3 : Int32) : ww (mp_P fx) d 5000 291 [l0, l1, l2, l3, some (.int x), l5, l6] [.ref s0, .long s1, .ref s2, .int s3] h Q ↔ ww (mp_P fx) d 5000 293 [l0, l1, l2, l3, some (.int x), l5, l6] [.int x, .ref s0, .long s1, .ref s2, .int s3] h Q := ww_step rfl
theorem q5000_293 (ls : mm_V) (s0 : Int32) (s1 : Nat) (s2 : Int64) (s3 : Nat) (s4 : Int32) : ww (mp_P fx) d 5000 293 ls [.int s0, .ref s1, .long s2, .ref s3, .int s4] h Q ↔ ww (mp_P fx) d 5000 294 ls [.int 2, .int s0, .ref s1, .long s2, .ref s3, .int s4] h Q := wr_iconst (i := 2) rfl
theorem q5000_294 (ls : mm_V) (s0 : Int32) (s1 : Int32) (s2 : Nat) (s3 : Int64) (s4 : Nat) (s5 : Int32) : ww (mp_P fx) d 5000 294 ls [.int s0, .int s1, .ref s2, .long s3, .ref s4, .int s5] h Q ↔ ww (mp_P fx) d 5000 295 ls [.int (s1 + s0), .ref s2, .long s3, .ref s4, .int s5] h Q := wr_iadd rfl
theorem q5000_295 (ls : mm_V) (s0 : Int32) (s1 : Nat) (s2 : Int64) (s3 : Nat) (s4 : Int32) : ww (mp_P fx) d 5000 295 ls [.int s0, .ref s1, .long s2, .ref s3, .int s4] h Q ↔ ∃ x, mm_gI h s1 0 9 s0 = some x ∧ ww (mp_P fx) d 5000 296 ls [.int x, .long s2, .ref s3, .int s4] h Q := wr_iaload rfl
theorem q5000_296 (ls : mm_V) (s0 : Int32) (s1 : Int64) (s2 : Nat) (s3 : Int32) : ww (mp_P fx) d 5000 296 ls [.int s0, .long s1, .ref s2, .int s3] h Q ↔ ww (mp_P fx) d 5000 297 ls [.long s0.toInt64, .long s1, .ref s2, .int s3] h Q := wr_i2l rfl
theorem q5000_297 (ls : mm_V) (s0 : Int64) (s1 : Int64) (s2 : Nat) (s3 : Int32) : ww (mp_P fx) d 5000 297 ls [.long s0, .long s1, .ref s2, .int s3] h Q ↔ ww (mp_P fx) d 5000 300 ls [.long 4294967295, .long s0, .long s1, .ref s2, .int s3] h Q := wr_ldc2_w (i := 4294967295) rfl
theorem q5000_300 (ls : mm_V) (s0 : Int64) (s1 : Int64) (s2 : Int64) (s3 : Nat) (s4 : Int32) : ww (mp_P fx) d 5000 300 ls [.long s0, .long s1, .long s2, .ref s3, .int s4] h Q ↔ ww (mp_P fx) d 5000 301 ls [.long (s1 &&& s0), .long s2, .ref s3, .int s4] h Q := wr_land rfl
theorem q5000_301 (ls : mm_V) (s0 : Int64) (s1 : Int64) (s2 : Nat) (s3 : Int32) : ww (mp_P fx) d 5000 301 ls [.long s0, .long s1, .ref s2, .int s3] h Q ↔ ww (mp_P fx) d 5000 302 ls [.long (s1 ||| s0), .ref s2, .int s3] h Q := wr_lor rfl
theorem q5000_302 (l1 : Option Value) (l2 : Option Value) (l3 : Option Value) (l4 : Option Value) (l5 : Option Value) (l6 : Option Value) (x : Nat) (s0 : Int64) (s1 : Nat) (s2 : Int32) : ww (mp_P fx) d 5000 302 [some (.ref x), l1, l2, l3, l4, l5, l6] [.long s0, .ref s1, .int s2] h Q ↔ ww (mp_P fx) d 5000 303 [some (.ref x), l1, l2, l3, l4, l5, l6] [.ref x, .long s0, .ref s1, .int s2] h Q := ww_step rfl
theorem q5000_303 (l0 : Option Value) (l1 : Option Value) (l2 : Option Value) (l3 : Option Value) (l5 : Option Value) (l6 : Option Value) (x : Int32) (s0 : Nat) (s1 : Int64) (s2 : Nat) (s3 : Int32) : ww (mp_P fx) d 5000 303 [l0, l1, l2, l3, some (.int x), l5, l6] [.ref s0, .long s1, .ref s2, .int s3] h Q ↔ ww (mp_P fx) d 5000 305 [l0, l1, l2, l3, some (.int x), l5, l6] [.int x, .ref s0, .long s1, .ref s2, .int s3] h Q := ww_step rfl
theorem q5000_305 (ls : mm_V) (s0 : Int32) (s1 : Nat) (s2 : Int64) (s3 : Nat) (s4 : Int32) : ww (mp_P fx) d 5000 305 ls [.int s0, .ref s1, .long s2, .ref s3, .int s4] h Q ↔ ww (mp_P fx) d 5000 306 ls [.int 3, .int s0, .ref s1, .long s2, .ref s3, .int s4] h Q := wr_iconst (i := 3) rfl
theorem q5000_306 (ls : mm_V) (s0 : Int32) (s1 : Int32) (s2 : Nat) (s3 : Int64) (s4 : Nat) (s5 : Int32) : ww (mp_P fx) d 5000 306 ls [.int s0, .int s1, .ref s2, .long s3, .ref s4, .int s5] h Q ↔ ww (mp_P fx) d 5000 307 ls [.int (s1 + s0), .ref s2, .long s3, .ref s4, .int s5] h Q := wr_iadd rfl
theorem q5000_307 (ls : mm_V) (s0 : Int32) (s1 : Nat) (s2 : Int64) (s3 : Nat) (s4 : Int32) : ww (mp_P fx) d 5000 307 ls [.int s0, .ref s1, .long s2, .ref s3, .int s4] h Q ↔ ∃ x, mm_gI h s1 0 9 s0 = some x ∧ ww (mp_P fx) d 5000 308 ls [.int x, .long s2, .ref s3, .int s4] h Q := wr_iaload rfl
theorem q5000_308 (ls : mm_V) (s0 : Int32) (s1 : Int64) (s2 : Nat) (s3 : Int32) : ww (mp_P fx) d 5000 308 ls [.int s0, .long s1, .ref s2, .int s3] h Q ↔ ww (mp_P fx) d 5000 309 ls [.long s0.toInt64, .long s1, .ref s2, .int s3] h Q := wr_i2l rfl
theorem q5000_309 (ls : mm_V) (s0 : Int64) (s1 : Int64) (s2 : Nat) (s3 : Int32) : ww (mp_P fx) d 5000 309 ls [.long s0, .long s1, .ref s2, .int s3] h Q ↔ ww (mp_P fx) d 5000 311 ls [.int 32, .long s0, .long s1, .ref s2, .int s3] h Q := wr_bipush (i := 32) rfl
theorem q5000_311 (ls : mm_V) (s0 : Int32) (s1 : Int64) (s2 : Int64) (s3 : Nat) (s4 : Int32) : ww (mp_P fx) d 5000 311 ls [.int s0, .long s1, .long s2, .ref s3, .int s4] h Q ↔ ww (mp_P fx) d 5000 312 ls [.long (s1 <<< (s0.toInt64 &&& 63)), .long s2, .ref s3, .int s4] h Q := wr_lshl rfl
theorem q5000_312 (l1 : Option Value) (l2 : Option Value) (l3 : Option Value) (l4 : Option Value) (l5 : Option Value) (l6 : Option Value) (x : Nat) (s0 : Int64) (s1 : Int64) (s2 : Nat) (s3 : Int32) : ww (mp_P fx) d 5000 312 [some (.ref x), l1, l2, l3, l4, l5, l6] [.long s0, .long s1, .ref s2, .int s3] h Q ↔ ww (mp_P fx) d 5000 313 [some (.ref x), l1, l2, l3, l4, l5, l6] [.ref x, .long s0, .long s1, .ref s2, .int s3] h Q := ww_step rfl
theorem q5000_313 (l0 : Option Value) (l1 : Option Value) (l2 : Option Value) (l3 : Option Value) (l5 : Option Value) (l6 : Option Value) (x : Int32) (s0 : Nat) (s1 : Int64) (s2 : Int64) (s3 : Nat) (s4 : Int32) : ww (mp_P fx) d 5000 313 [l0, l1, l2, l3, some (.int x), l5, l6] [.ref s0, .long s1, .long s2, .ref s3, .int s4] h Q ↔ ww (mp_P fx) d 5000 315 [l0, l1, l2, l3, some (.int x), l5, l6] [.int x, .ref s0, .long s1, .long s2, .ref s3, .int s4] h Q := ww_step rfl
theorem q5000_315 (ls : mm_V) (s0 : Int32) (s1 : Nat) (s2 : Int64) (s3 : Int64) (s4 : Nat) (s5 : Int32) : ww (mp_P fx) d 5000 315 ls [.int s0, .ref s1, .long s2, .long s3, .ref s4, .int s5] h Q ↔ ww (mp_P fx) d 5000 316 ls [.int 4, .int s0, .ref s1, .long s2, .long s3, .ref s4, .int s5] h Q := wr_iconst (i := 4) rfl
theorem q5000_316 (ls : mm_V) (s0 : Int32) (s1 : Int32) (s2 : Nat) (s3 : Int64) (s4 : Int64) (s5 : Nat) (s6 : Int32) : ww (mp_P fx) d 5000 316 ls [.int s0, .int s1, .ref s2, .long s3, .long s4, .ref s5, .int s6] h Q ↔ ww (mp_P fx) d 5000 317 ls [.int (s1 + s0), .ref s2, .long s3, .long s4, .ref s5, .int s6] h Q := wr_iadd rfl
theorem q5000_317 (ls : mm_V) (s0 : Int32) (s1 : Nat) (s2 : Int64) (s3 : Int64) (s4 : Nat) (s5 : Int32) : ww (mp_P fx) d 5000 317 ls [.int s0, .ref s1, .long s2, .long s3, .ref s4, .int s5] h Q ↔ ∃ x, mm_gI h s1 0 9 s0 = some x ∧ ww (mp_P fx) d 5000 318 ls [.int x, .long s2, .long s3, .ref s4, .int s5] h Q := wr_iaload rfl
theorem q5000_318 (ls : mm_V) (s0 : Int32) (s1 : Int64) (s2 : Int64) (s3 : Nat) (s4 : Int32) : ww (mp_P fx) d 5000 318 ls [.int s0, .long s1, .long s2, .ref s3, .int s4] h Q ↔ ww (mp_P fx) d 5000 319 ls [.long s0.toInt64, .long s1, .long s2, .ref s3, .int s4] h Q := wr_i2l rfl
theorem q5000_319 (ls : mm_V) (s0 : Int64) (s1 : Int64) (s2 : Int64) (s3 : Nat) (s4 : Int32) : ww (mp_P fx) d 5000 319 ls [.long s0, .long s1, .long s2, .ref s3, .int s4] h Q ↔ ww (mp_P fx) d 5000 322 ls [.long 4294967295, .long s0, .long s1, .long s2, .ref s3, .int s4] h Q := wr_ldc2_w (i := 4294967295) rfl
theorem q5000_322 (ls : mm_V) (s0 : Int64) (s1 : Int64) (s2 : Int64) (s3 : Int64) (s4 : Nat) (s5 : Int32) : ww (mp_P fx) d 5000 322 ls [.long s0, .long s1, .long s2, .long s3, .ref s4, .int s5] h Q ↔ ww (mp_P fx) d 5000 323 ls [.long (s1 &&& s0), .long s2, .long s3, .ref s4, .int s5] h Q := wr_land rfl
theorem q5000_323 (ls : mm_V) (s0 : Int64) (s1 : Int64) (s2 : Int64) (s3 : Nat) (s4 : Int32) : ww (mp_P fx) d 5000 323 ls [.long s0, .long s1, .long s2, .ref s3, .int s4] h Q ↔ ww (mp_P fx) d 5000 324 ls [.long (s1 ||| s0), .long s2, .ref s3, .int s4] h Q := wr_lor rfl
theorem q5000_324 (l1 : Option Value) (l2 : Option Value) (l3 : Option Value) (l4 : Option Value) (l5 : Option Value) (l6 : Option Value) (x : Nat) (s0 : Int64) (s1 : Int64) (s2 : Nat) (s3 : Int32) : ww (mp_P fx) d 5000 324 [some (.ref x), l1, l2, l3, l4, l5, l6] [.long s0, .long s1, .ref s2, .int s3] h Q ↔ ww (mp_P fx) d 5000 325 [some (.ref x), l1, l2, l3, l4, l5, l6] [.ref x, .long s0, .long s1, .ref s2, .int s3] h Q := ww_step rfl
theorem q5000_325 (l0 : Option Value) (l1 : Option Value) (l2 : Option Value) (l3 : Option Value) (l5 : Option Value) (l6 : Option Value) (x : Int32) (s0 : Nat) (s1 : Int64) (s2 : Int64) (s3 : Nat) (s4 : Int32) : ww (mp_P fx) d 5000 325 [l0, l1, l2, l3, some (.int x), l5, l6] [.ref s0, .long s1, .long s2, .ref s3, .int s4] h Q ↔ ww (mp_P fx) d 5000 327 [l0, l1, l2, l3, some (.int x), l5, l6] [.int x, .ref s0, .long s1, .long s2, .ref s3, .int s4] h Q := ww_step rfl
theorem q5000_327 (ls : mm_V) (s0 : Int32) (s1 : Nat) (s2 : Int64) (s3 : Int64) (s4 : Nat) (s5 : Int32) : ww (mp_P fx) d 5000 327 ls [.int s0, .ref s1, .long s2, .long s3, .ref s4, .int s5] h Q ↔ ww (mp_P fx) d 5000 328 ls [.int 5, .int s0, .ref s1, .long s2, .long s3, .ref s4, .int s5] h Q := wr_iconst (i := 5) rfl
theorem q5000_328 (ls : mm_V) (s0 : Int32) (s1 : Int32) (s2 : Nat) (s3 : Int64) (s4 : Int64) (s5 : Nat) (s6 : Int32) : ww (mp_P fx) d 5000 328 ls [.int s0, .int s1, .ref s2, .long s3, .long s4, .ref s5, .int s6] h Q ↔ ww (mp_P fx) d 5000 329 ls [.int (s1 + s0), .ref s2, .long s3, .long s4, .ref s5, .int s6] h Q := wr_iadd rfl
theorem q5000_329 (ls : mm_V) (s0 : Int32) (s1 : Nat) (s2 : Int64) (s3 : Int64) (s4 : Nat) (s5 : Int32) : ww (mp_P fx) d 5000 329 ls [.int s0, .ref s1, .long s2, .long s3, .ref s4, .int s5] h Q ↔ ∃ x, mm_gI h s1 0 9 s0 = some x ∧ ww (mp_P fx) d 5000 330 ls [.int x, .long s2, .long s3, .ref s4, .int s5] h Q := wr_iaload rfl
theorem q5000_330 (ls : mm_V) (s0 : Int32) (s1 : Int64) (s2 : Int64) (s3 : Nat) (s4 : Int32) : ww (mp_P fx) d 5000 330 ls [.int s0, .long s1, .long s2, .ref s3, .int s4] h Q ↔ ww (mp_P fx) d 5000 331 ls [.long s0.toInt64, .long s1, .long s2, .ref s3, .int s4] h Q := wr_i2l rfl
theorem q5000_331 (ls : mm_V) (s0 : Int64) (s1 : Int64) (s2 : Int64) (s3 : Nat) (s4 : Int32) : ww (mp_P fx) d 5000 331 ls [.long s0, .long s1, .long s2, .ref s3, .int s4] h Q ↔ ww (mp_P fx) d 5000 333 ls [.int 32, .long s0, .long s1, .long s2, .ref s3, .int s4] h Q := wr_bipush (i := 32) rfl
theorem q5000_333 (ls : mm_V) (s0 : Int32) (s1 : Int64) (s2 : Int64) (s3 : Int64) (s4 : Nat) (s5 : Int32) : ww (mp_P fx) d 5000 333 ls [.int s0, .long s1, .long s2, .long s3, .ref s4, .int s5] h Q ↔ ww (mp_P fx) d 5000 334 ls [.long (s1 <<< (s0.toInt64 &&& 63)), .long s2, .long s3, .ref s4, .int s5] h Q := wr_lshl rfl
theorem q5000_334 (l1 : Option Value) (l2 : Option Value) (l3 : Option Value) (l4 : Option Value) (l5 : Option Value) (l6 : Option Value) (x : Nat) (s0 : Int64) (s1 : Int64) (s2 : Int64) (s3 : Nat) (s4 : Int32) : ww (mp_P fx) d 5000 334 [some (.ref x), l1, l2, l3, l4, l5, l6] [.long s0, .long s1, .long s2, .ref s3, .int s4] h Q ↔ ww (mp_P fx) d 5000 335 [some (.ref x), l1, l2, l3, l4, l5, l6] [.ref x, .long s0, .long s1, .long s2, .ref s3, .int s4] h Q := ww_step rfl
theorem q5000_335 (l0 : Option Value) (l1 : Option Value) (l2 : Option Value) (l3 : Option Value) (l5 : Option Value) (l6 : Option Value) (x : Int32) (s0 : Nat) (s1 : Int64) (s2 : Int64) (s3 : Int64) (s4 : Nat) (s5 : Int32) : ww (mp_P fx) d 5000 335 [l0, l1, l2, l3, some (.int x), l5, l6] [.ref s0, .long s1, .long s2, .long s3, .ref s4, .int s5] h Q ↔ ww (mp_P fx) d 5000 337 [l0, l1, l2, l3, some (.int x), l5, l6] [.int x, .ref s0, .long s1, .long s2, .long s3, .ref s4, .int s5] h Q := ww_step rfl
theorem q5000_337 (ls : mm_V) (s0 : Int32) (s1 : Nat) (s2 : Int64) (s3 : Int64) (s4 : Int64) (s5 : Nat) (s6 : Int32) : ww (mp_P fx) d 5000 337 ls [.int s0, .ref s1, .long s2, .long s3, .long s4, .ref s5, .int s6] h Q ↔ ww (mp_P fx) d 5000 339 ls [.int 6, .int s0, .ref s1, .long s2, .long s3, .long s4, .ref s5, .int s6] h Q := wr_bipush (i := 6) rfl
theorem q5000_339 (ls : mm_V) (s0 : Int32) (s1 : Int32) (s2 : Nat) (s3 : Int64) (s4 : Int64) (s5 : Int64) (s6 : Nat) (s7 : Int32) : ww (mp_P fx) d 5000 339 ls [.int s0, .int s1, .ref s2, .long s3, .long s4, .long s5, .ref s6, .int s7] h Q ↔ ww (mp_P fx) d 5000 340 ls [.int (s1 + s0), .ref s2, .long s3, .long s4, .long s5, .ref s6, .int s7] h Q := wr_iadd rfl
theorem q5000_340 (ls : mm_V) (s0 : Int32) (s1 : Nat) (s2 : Int64) (s3 : Int64) (s4 : Int64) (s5 : Nat) (s6 : Int32) : ww (mp_P fx) d 5000 340 ls [.int s0, .ref s1, .long s2, .long s3, .long s4, .ref s5, .int s6] h Q ↔ ∃ x, mm_gI h s1 0 9 s0 = some x ∧ ww (mp_P fx) d 5000 341 ls [.int x, .long s2, .long s3, .long s4, .ref s5, .int s6] h Q := wr_iaload rfl
theorem q5000_341 (ls : mm_V) (s0 : Int32) (s1 : Int64) (s2 : Int64) (s3 : Int64) (s4 : Nat) (s5 : Int32) : ww (mp_P fx) d 5000 341 ls [.int s0, .long s1, .long s2, .long s3, .ref s4, .int s5] h Q ↔ ww (mp_P fx) d 5000 342 ls [.long s0.toInt64, .long s1, .long s2, .long s3, .ref s4, .int s5] h Q := wr_i2l rfl
theorem q5000_342 (ls : mm_V) (s0 : Int64) (s1 : Int64) (s2 : Int64) (s3 : Int64) (s4 : Nat) (s5 : Int32) : ww (mp_P fx) d 5000 342 ls [.long s0, .long s1, .long s2, .long s3, .ref s4, .int s5] h Q ↔ ww (mp_P fx) d 5000 345 ls [.long 4294967295, .long s0, .long s1, .long s2, .long s3, .ref s4, .int s5] h Q := wr_ldc2_w (i := 4294967295) rfl
theorem q5000_345 (ls : mm_V) (s0 : Int64) (s1 : Int64) (s2 : Int64) (s3 : Int64) (s4 : Int64) (s5 : Nat) (s6 : Int32) : ww (mp_P fx) d 5000 345 ls [.long s0, .long s1, .long s2, .long s3, .long s4, .ref s5, .int s6] h Q ↔ ww (mp_P fx) d 5000 346 ls [.long (s1 &&& s0), .long s2, .long s3, .long s4, .ref s5, .int s6] h Q := wr_land rfl
theorem q5000_346 (ls : mm_V) (s0 : Int64) (s1 : Int64) (s2 : Int64) (s3 : Int64) (s4 : Nat) (s5 : Int32) : ww (mp_P fx) d 5000 346 ls [.long s0, .long s1, .long s2, .long s3, .ref s4, .int s5] h Q ↔ ww (mp_P fx) d 5000 347 ls [.long (s1 ||| s0), .long s2, .long s3, .ref s4, .int s5] h Q := wr_lor rfl
theorem q5000_347 (ls : mm_V) (s0 : Int64) (s1 : Int64) (s2 : Int64) (s3 : Nat) (s4 : Int32) (hc : mm_cls h s3 = 10) : ww (mp_P fx) (d + 1) 5000 347 ls [.long s0, .long s1, .long s2, .ref s3, .int s4] h Q ↔ wm (mp_P fx) d 218 [.ref s3, .long s2, .long s1, .long s0] h (fun r h' => ww (mp_P fx) (d + 1) 5000 350 ls (r.toList ++ [.int s4]) h' Q) := wr_virtual rfl (mm_recv_ok (n := 3) (rc := 10) ⟨rfl, rfl⟩ rfl hc (by decide)) rfl
theorem q5000_350 (ls : mm_V) (s0 : Int32) (s1 : Int32) : ww (mp_P fx) d 5000 350 ls [.int s0, .int s1] h Q ↔ (if s1 = s0 then ww (mp_P fx) d 5000 1331 ls [] h Q else ww (mp_P fx) d 5000 353 ls [] h Q) := wr_icmp_eq (t := 1331) rfl
theorem q5000_353 (ls : mm_V) : ww (mp_P fx) d 5000 353 ls [] h Q ↔ ww (mp_P fx) d 5000 354 ls [.int 0] h Q := wr_iconst (i := 0) rfl
theorem q5000_354 (ls : mm_V) (s0 : Int32) (hb : mm_ret (mp_sig 5000).2.2.2 (.int s0) = true) : ww (mp_P fx) d 5000 354 ls [.int s0] h Q ↔ Q (some (.int s0)) h := wr_ireturn rfl hb
theorem q5000_355 (l0 : Option Value) (l2 : Option Value) (l3 : Option Value) (l4 : Option Value) (l5 : Option Value) (l6 : Option Value) (x : Nat) : ww (mp_P fx) d 5000 355 [l0, some (.ref x), l2, l3, l4, l5, l6] [] h Q ↔ ww (mp_P fx) d 5000 356 [l0, some (.ref x), l2, l3, l4, l5, l6] [.ref x] h Q := ww_step rfl
theorem q5000_356 (ls : mm_V) (s0 : Nat) (hc : mm_cls h s0 = 9) : ww (mp_P fx) (d + 1) 5000 356 ls [.ref s0] h Q ↔ wm (mp_P fx) d 12 [.ref s0] h (fun r h' => ww (mp_P fx) (d + 1) 5000 359 ls (r.toList ++ []) h' Q) := wr_virtual rfl (mm_recv_ok (n := 0) (rc := 9) ⟨rfl, rfl⟩ rfl hc (by decide)) rfl
theorem q5000_359 (l0 : Option Value) (l1 : Option Value) (l3 : Option Value) (l4 : Option Value) (l5 : Option Value) (l6 : Option Value) (x : Nat) (s0 : Int32) : ww (mp_P fx) d 5000 359 [l0, l1, some (.ref x), l3, l4, l5, l6] [.int s0] h Q ↔ ww (mp_P fx) d 5000 360 [l0, l1, some (.ref x), l3, l4, l5, l6] [.ref x, .int s0] h Q := ww_step rfl
theorem q5000_360 (ls : mm_V) (s0 : Nat) (s1 : Int32) (hc : mm_cls h s0 = 10) : ww (mp_P fx) (d + 1) 5000 360 ls [.ref s0, .int s1] h Q ↔ wm (mp_P fx) d 219 [.ref s0] h (fun r h' => ww (mp_P fx) (d + 1) 5000 363 ls (r.toList ++ [.int s1]) h' Q) := wr_virtual rfl (mm_recv_ok (n := 0) (rc := 10) ⟨rfl, rfl⟩ rfl hc (by decide)) rfl
theorem q5000_363 (ls : mm_V) (s0 : Int32) (s1 : Int32) : ww (mp_P fx) d 5000 363 ls [.int s0, .int s1] h Q ↔ (if s1 = s0 then ww (mp_P fx) d 5000 1331 ls [] h Q else ww (mp_P fx) d 5000 366 ls [] h Q) := wr_icmp_eq (t := 1331) rfl
theorem q5000_366 (ls : mm_V) : ww (mp_P fx) d 5000 366 ls [] h Q ↔ ww (mp_P fx) d 5000 367 ls [.int 0] h Q := wr_iconst (i := 0) rfl
theorem q5000_367 (ls : mm_V) (s0 : Int32) (hb : mm_ret (mp_sig 5000).2.2.2 (.int s0) = true) : ww (mp_P fx) d 5000 367 ls [.int s0] h Q ↔ Q (some (.int s0)) h := wr_ireturn rfl hb
theorem q5000_368 (l0 : Option Value) (l2 : Option Value) (l3 : Option Value) (l4 : Option Value) (l5 : Option Value) (l6 : Option Value) (x : Nat) : ww (mp_P fx) d 5000 368 [l0, some (.ref x), l2, l3, l4, l5, l6] [] h Q ↔ ww (mp_P fx) d 5000 369 [l0, some (.ref x), l2, l3, l4, l5, l6] [.ref x] h Q := ww_step rfl
theorem q5000_369 (ls : mm_V) (s0 : Nat) (hc : mm_cls h s0 = 9) : ww (mp_P fx) (d + 1) 5000 369 ls [.ref s0] h Q ↔ wm (mp_P fx) d 94 [.ref s0] h (fun r h' => ww (mp_P fx) (d + 1) 5000 372 ls (r.toList ++ []) h' Q) := wr_virtual rfl (mm_recv_ok (n := 0) (rc := 9) ⟨rfl, rfl⟩ rfl hc (by decide)) rfl
theorem q5000_372 (l0 : Option Value) (l1 : Option Value) (l3 : Option Value) (l4 : Option Value) (l5 : Option Value) (l6 : Option Value) (x : Nat) (s0 : Int32) : ww (mp_P fx) d 5000 372 [l0, l1, some (.ref x), l3, l4, l5, l6] [.int s0] h Q ↔ ww (mp_P fx) d 5000 373 [l0, l1, some (.ref x), l3, l4, l5, l6] [.ref x, .int s0] h Q := ww_step rfl
theorem q5000_373 (ls : mm_V) (s0 : Nat) (s1 : Int32) (hc : mm_cls h s0 = 10) : ww (mp_P fx) (d + 1) 5000 373 ls [.ref s0, .int s1] h Q ↔ wm (mp_P fx) d 252 [.ref s0] h (fun r h' => ww (mp_P fx) (d + 1) 5000 376 ls (r.toList ++ [.int s1]) h' Q) := wr_virtual rfl (mm_recv_ok (n := 0) (rc := 10) ⟨rfl, rfl⟩ rfl hc (by decide)) rfl
theorem q5000_376 (ls : mm_V) (s0 : Int32) (s1 : Int32) : ww (mp_P fx) d 5000 376 ls [.int s0, .int s1] h Q ↔ (if s1 = s0 then ww (mp_P fx) d 5000 1331 ls [] h Q else ww (mp_P fx) d 5000 379 ls [] h Q) := wr_icmp_eq (t := 1331) rfl
theorem q5000_379 (ls : mm_V) : ww (mp_P fx) d 5000 379 ls [] h Q ↔ ww (mp_P fx) d 5000 380 ls [.int 0] h Q := wr_iconst (i := 0) rfl
theorem q5000_380 (ls : mm_V) (s0 : Int32) (hb : mm_ret (mp_sig 5000).2.2.2 (.int s0) = true) : ww (mp_P fx) d 5000 380 ls [.int s0] h Q ↔ Q (some (.int s0)) h := wr_ireturn rfl hb
theorem q5000_381 (l0 : Option Value) (l2 : Option Value) (l3 : Option Value) (l4 : Option Value) (l5 : Option Value) (l6 : Option Value) (x : Nat) : ww (mp_P fx) d 5000 381 [l0, some (.ref x), l2, l3, l4, l5, l6] [] h Q ↔ ww (mp_P fx) d 5000 382 [l0, some (.ref x), l2, l3, l4, l5, l6] [.ref x] h Q := ww_step rfl
theorem q5000_382 (ls : mm_V) (s0 : Nat) (hc : mm_cls h s0 = 9) : ww (mp_P fx) (d + 1) 5000 382 ls [.ref s0] h Q ↔ wm (mp_P fx) d 101 [.ref s0] h (fun r h' => ww (mp_P fx) (d + 1) 5000 385 ls (r.toList ++ []) h' Q) := wr_virtual rfl (mm_recv_ok (n := 0) (rc := 9) ⟨rfl, rfl⟩ rfl hc (by decide)) rfl
theorem q5000_385 (l0 : Option Value) (l1 : Option Value) (l3 : Option Value) (l4 : Option Value) (l5 : Option Value) (l6 : Option Value) (x : Nat) (s0 : Int32) : ww (mp_P fx) d 5000 385 [l0, l1, some (.ref x), l3, l4, l5, l6] [.int s0] h Q ↔ ww (mp_P fx) d 5000 386 [l0, l1, some (.ref x), l3, l4, l5, l6] [.ref x, .int s0] h Q := ww_step rfl
theorem q5000_386 (ls : mm_V) (s0 : Nat) (s1 : Int32) (hc : mm_cls h s0 = 10) : ww (mp_P fx) (d + 1) 5000 386 ls [.ref s0, .int s1] h Q ↔ wm (mp_P fx) d 255 [.ref s0] h (fun r h' => ww (mp_P fx) (d + 1) 5000 389 ls (r.toList ++ [.int s1]) h' Q) := wr_virtual rfl (mm_recv_ok (n := 0) (rc := 10) ⟨rfl, rfl⟩ rfl hc (by decide)) rfl
theorem q5000_389 (ls : mm_V) (s0 : Int32) (s1 : Int32) : ww (mp_P fx) d 5000 389 ls [.int s0, .int s1] h Q ↔ (if s1 = s0 then ww (mp_P fx) d 5000 1331 ls [] h Q else ww (mp_P fx) d 5000 392 ls [] h Q) := wr_icmp_eq (t := 1331) rfl
theorem q5000_392 (ls : mm_V) : ww (mp_P fx) d 5000 392 ls [] h Q ↔ ww (mp_P fx) d 5000 393 ls [.int 0] h Q := wr_iconst (i := 0) rfl
theorem q5000_393 (ls : mm_V) (s0 : Int32) (hb : mm_ret (mp_sig 5000).2.2.2 (.int s0) = true) : ww (mp_P fx) d 5000 393 ls [.int s0] h Q ↔ Q (some (.int s0)) h := wr_ireturn rfl hb
theorem q5000_394 (l0 : Option Value) (l2 : Option Value) (l3 : Option Value) (l4 : Option Value) (l5 : Option Value) (l6 : Option Value) (x : Nat) : ww (mp_P fx) d 5000 394 [l0, some (.ref x), l2, l3, l4, l5, l6] [] h Q ↔ ww (mp_P fx) d 5000 395 [l0, some (.ref x), l2, l3, l4, l5, l6] [.ref x] h Q := ww_step rfl
theorem q5000_395 (l1 : Option Value) (l2 : Option Value) (l3 : Option Value) (l4 : Option Value) (l5 : Option Value) (l6 : Option Value) (x : Nat) (s0 : Nat) : ww (mp_P fx) d 5000 395 [some (.ref x), l1, l2, l3, l4, l5, l6] [.ref s0] h Q ↔ ww (mp_P fx) d 5000 396 [some (.ref x), l1, l2, l3, l4, l5, l6] [.ref x, .ref s0] h Q := ww_step rfl
theorem q5000_396 (l0 : Option Value) (l1 : Option Value) (l2 : Option Value) (l3 : Option Value) (l5 : Option Value) (l6 : Option Value) (x : Int32) (s0 : Nat) (s1 : Nat) : ww (mp_P fx) d 5000 396 [l0, l1, l2, l3, some (.int x), l5, l6] [.ref s0, .ref s1] h Q ↔ ww (mp_P fx) d 5000 398 [l0, l1, l2, l3, some (.int x), l5, l6] [.int x, .ref s0, .ref s1] h Q := ww_step rfl
theorem q5000_398 (ls : mm_V) (s0 : Int32) (s1 : Nat) (s2 : Nat) : ww (mp_P fx) d 5000 398 ls [.int s0, .ref s1, .ref s2] h Q ↔ ww (mp_P fx) d 5000 399 ls [.int 1, .int s0, .ref s1, .ref s2] h Q := wr_iconst (i := 1) rfl
theorem q5000_399 (ls : mm_V) (s0 : Int32) (s1 : Int32) (s2 : Nat) (s3 : Nat) : ww (mp_P fx) d 5000 399 ls [.int s0, .int s1, .ref s2, .ref s3] h Q ↔ ww (mp_P fx) d 5000 400 ls [.int (s1 + s0), .ref s2, .ref s3] h Q := wr_iadd rfl
set_option maxRecDepth 20000 in
theorem q5000_400 (ls : mm_V) (s0 : Int32) (s1 : Nat) (s2 : Nat) : ww (mp_P fx) d 5000 400 ls [.int s0, .ref s1, .ref s2] h Q ↔ ∃ x, mm_gI h s1 0 9 s0 = some x ∧ ww (mp_P fx) d 5000 401 ls [.int x, .ref s2] h Q := wr_iaload rfl
set_option maxRecDepth 20000 in
theorem q5000_401 (l1 : Option Value) (l2 : Option Value) (l3 : Option Value) (l4 : Option Value) (l5 : Option Value) (l6 : Option Value) (x : Nat) (s0 : Int32) (s1 : Nat) : ww (mp_P fx) d 5000 401 [some (.ref x), l1, l2, l3, l4, l5, l6] [.int s0, .ref s1] h Q ↔ ww (mp_P fx) d 5000 402 [some (.ref x), l1, l2, l3, l4, l5, l6] [.ref x, .int s0, .ref s1] h Q := ww_step rfl
set_option maxRecDepth 20000 in
theorem q5000_402 (l0 : Option Value) (l1 : Option Value) (l2 : Option Value) (l3 : Option Value) (l5 : Option Value) (l6 : Option Value) (x : Int32) (s0 : Nat) (s1 : Int32) (s2 : Nat) : ww (mp_P fx) d 5000 402 [l0, l1, l2, l3, some (.int x), l5, l6] [.ref s0, .int s1, .ref s2] h Q ↔ ww (mp_P fx) d 5000 404 [l0, l1, l2, l3, some (.int x), l5, l6] [.int x, .ref s0, .int s1, .ref s2] h Q := ww_step rfl
set_option maxRecDepth 20000 in
theorem q5000_404 (ls : mm_V) (s0 : Int32) (s1 : Nat) (s2 : Int32) (s3 : Nat) : ww (mp_P fx) d 5000 404 ls [.int s0, .ref s1, .int s2, .ref s3] h Q ↔ ww (mp_P fx) d 5000 405 ls [.int 2, .int s0, .ref s1, .int s2, .ref s3] h Q := wr_iconst (i := 2) rfl
set_option maxRecDepth 20000 in
theorem q5000_405 (ls : mm_V) (s0 : Int32) (s1 : Int32) (s2 : Nat) (s3 : Int32) (s4 : Nat) : ww (mp_P fx) d 5000 405 ls [.int s0, .int s1, .ref s2, .int s3, .ref s4] h Q ↔ ww (mp_P fx) d 5000 406 ls [.int (s1 + s0), .ref s2, .int s3, .ref s4] h Q := wr_iadd rfl
set_option maxRecDepth 20000 in
theorem q5000_406 (ls : mm_V) (s0 : Int32) (s1 : Nat) (s2 : Int32) (s3 : Nat) : ww (mp_P fx) d 5000 406 ls [.int s0, .ref s1, .int s2, .ref s3] h Q ↔ ∃ x, mm_gI h s1 0 9 s0 = some x ∧ ww (mp_P fx) d 5000 407 ls [.int x, .int s2, .ref s3] h Q := wr_iaload rfl
set_option maxRecDepth 20000 in
theorem q5000_407 (ls : mm_V) (s0 : Int32) (s1 : Int32) (s2 : Nat) (hc : mm_cls h s2 = 9) : ww (mp_P fx) (d + 1) 5000 407 ls [.int s0, .int s1, .ref s2] h Q ↔ wm (mp_P fx) d 104 [.ref s2, .int s1, .int s0] h (fun r h' => ww (mp_P fx) (d + 1) 5000 410 ls (r.toList ++ []) h' Q) := wr_virtual rfl (mm_recv_ok (n := 2) (rc := 9) ⟨rfl, rfl⟩ rfl hc (by decide)) rfl
set_option maxRecDepth 20000 in
theorem q5000_410 (l0 : Option Value) (l1 : Option Value) (l3 : Option Value) (l4 : Option Value) (l5 : Option Value) (l6 : Option Value) (x : Nat) (s0 : Int32) : ww (mp_P fx) d 5000 410 [l0, l1, some (.ref x), l3, l4, l5, l6] [.int s0] h Q ↔ ww (mp_P fx) d 5000 411 [l0, l1, some (.ref x), l3, l4, l5, l6] [.ref x, .int s0] h Q := ww_step rfl
set_option maxRecDepth 20000 in
theorem q5000_411 (l1 : Option Value) (l2 : Option Value) (l3 : Option Value) (l4 : Option Value) (l5 : Option Value) (l6 : Option Value) (x : Nat) (s0 : Nat) (s1 : Int32) : ww (mp_P fx) d 5000 411 [some (.ref x), l1, l2, l3, l4, l5, l6] [.ref s0, .int s1] h Q ↔ ww (mp_P fx) d 5000 412 [some (.ref x), l1, l2, l3, l4, l5, l6] [.ref x, .ref s0, .int s1] h Q := ww_step rfl
set_option maxRecDepth 20000 in
theorem q5000_412 (l0 : Option Value) (l1 : Option Value) (l2 : Option Value) (l3 : Option Value) (l5 : Option Value) (l6 : Option Value) (x : Int32) (s0 : Nat) (s1 : Nat) (s2 : Int32) : ww (mp_P fx) d 5000 412 [l0, l1, l2, l3, some (.int x), l5, l6] [.ref s0, .ref s1, .int s2] h Q ↔ ww (mp_P fx) d 5000 414 [l0, l1, l2, l3, some (.int x), l5, l6] [.int x, .ref s0, .ref s1, .int s2] h Q := ww_step rfl
set_option maxRecDepth 20000 in
theorem q5000_414 (ls : mm_V) (s0 : Int32) (s1 : Nat) (s2 : Nat) (s3 : Int32) : ww (mp_P fx) d 5000 414 ls [.int s0, .ref s1, .ref s2, .int s3] h Q ↔ ww (mp_P fx) d 5000 415 ls [.int 1, .int s0, .ref s1, .ref s2, .int s3] h Q := wr_iconst (i := 1) rfl
set_option maxRecDepth 20000 in
theorem q5000_415 (ls : mm_V) (s0 : Int32) (s1 : Int32) (s2 : Nat) (s3 : Nat) (s4 : Int32) : ww (mp_P fx) d 5000 415 ls [.int s0, .int s1, .ref s2, .ref s3, .int s4] h Q ↔ ww (mp_P fx) d 5000 416 ls [.int (s1 + s0), .ref s2, .ref s3, .int s4] h Q := wr_iadd rfl
set_option maxRecDepth 20000 in
theorem q5000_416 (ls : mm_V) (s0 : Int32) (s1 : Nat) (s2 : Nat) (s3 : Int32) : ww (mp_P fx) d 5000 416 ls [.int s0, .ref s1, .ref s2, .int s3] h Q ↔ ∃ x, mm_gI h s1 0 9 s0 = some x ∧ ww (mp_P fx) d 5000 417 ls [.int x, .ref s2, .int s3] h Q := wr_iaload rfl
set_option maxRecDepth 20000 in
theorem q5000_417 (l1 : Option Value) (l2 : Option Value) (l3 : Option Value) (l4 : Option Value) (l5 : Option Value) (l6 : Option Value) (x : Nat) (s0 : Int32) (s1 : Nat) (s2 : Int32) : ww (mp_P fx) d 5000 417 [some (.ref x), l1, l2, l3, l4, l5, l6] [.int s0, .ref s1, .int s2] h Q ↔ ww (mp_P fx) d 5000 418 [some (.ref x), l1, l2, l3, l4, l5, l6] [.ref x, .int s0, .ref s1, .int s2] h Q := ww_step rfl
set_option maxRecDepth 20000 in
theorem q5000_418 (l0 : Option Value) (l1 : Option Value) (l2 : Option Value) (l3 : Option Value) (l5 : Option Value) (l6 : Option Value) (x : Int32) (s0 : Nat) (s1 : Int32) (s2 : Nat) (s3 : Int32) : ww (mp_P fx) d 5000 418 [l0, l1, l2, l3, some (.int x), l5, l6] [.ref s0, .int s1, .ref s2, .int s3] h Q ↔ ww (mp_P fx) d 5000 420 [l0, l1, l2, l3, some (.int x), l5, l6] [.int x, .ref s0, .int s1, .ref s2, .int s3] h Q := ww_step rfl
set_option maxRecDepth 20000 in
theorem q5000_420 (ls : mm_V) (s0 : Int32) (s1 : Nat) (s2 : Int32) (s3 : Nat) (s4 : Int32) : ww (mp_P fx) d 5000 420 ls [.int s0, .ref s1, .int s2, .ref s3, .int s4] h Q ↔ ww (mp_P fx) d 5000 421 ls [.int 2, .int s0, .ref s1, .int s2, .ref s3, .int s4] h Q := wr_iconst (i := 2) rfl
set_option maxRecDepth 20000 in
theorem q5000_421 (ls : mm_V) (s0 : Int32) (s1 : Int32) (s2 : Nat) (s3 : Int32) (s4 : Nat) (s5 : Int32) : ww (mp_P fx) d 5000 421 ls [.int s0, .int s1, .ref s2, .int s3, .ref s4, .int s5] h Q ↔ ww (mp_P fx) d 5000 422 ls [.int (s1 + s0), .ref s2, .int s3, .ref s4, .int s5] h Q := wr_iadd rfl
set_option maxRecDepth 20000 in
theorem q5000_422 (ls : mm_V) (s0 : Int32) (s1 : Nat) (s2 : Int32) (s3 : Nat) (s4 : Int32) : ww (mp_P fx) d 5000 422 ls [.int s0, .ref s1, .int s2, .ref s3, .int s4] h Q ↔ ∃ x, mm_gI h s1 0 9 s0 = some x ∧ ww (mp_P fx) d 5000 423 ls [.int x, .int s2, .ref s3, .int s4] h Q := wr_iaload rfl
set_option maxRecDepth 20000 in
theorem q5000_423 (ls : mm_V) (s0 : Int32) (s1 : Int32) (s2 : Nat) (s3 : Int32) (hc : mm_cls h s2 = 10) : ww (mp_P fx) (d + 1) 5000 423 ls [.int s0, .int s1, .ref s2, .int s3] h Q ↔ wm (mp_P fx) d 258 [.ref s2, .int s1, .int s0] h (fun r h' => ww (mp_P fx) (d + 1) 5000 426 ls (r.toList ++ [.int s3]) h' Q) := wr_virtual rfl (mm_recv_ok (n := 2) (rc := 10) ⟨rfl, rfl⟩ rfl hc (by decide)) rfl
set_option maxRecDepth 20000 in
theorem q5000_426 (ls : mm_V) (s0 : Int32) (s1 : Int32) : ww (mp_P fx) d 5000 426 ls [.int s0, .int s1] h Q ↔ (if s1 = s0 then ww (mp_P fx) d 5000 1331 ls [] h Q else ww (mp_P fx) d 5000 429 ls [] h Q) := wr_icmp_eq (t := 1331) rfl
set_option maxRecDepth 20000 in
theorem q5000_429 (ls : mm_V) : ww (mp_P fx) d 5000 429 ls [] h Q ↔ ww (mp_P fx) d 5000 430 ls [.int 0] h Q := wr_iconst (i := 0) rfl
set_option maxRecDepth 20000 in
theorem q5000_430 (ls : mm_V) (s0 : Int32) (hb : mm_ret (mp_sig 5000).2.2.2 (.int s0) = true) : ww (mp_P fx) d 5000 430 ls [.int s0] h Q ↔ Q (some (.int s0)) h := wr_ireturn rfl hb
set_option maxRecDepth 20000 in
theorem q5000_431 (l0 : Option Value) (l2 : Option Value) (l3 : Option Value) (l4 : Option Value) (l5 : Option Value) (l6 : Option Value) (x : Nat) : ww (mp_P fx) d 5000 431 [l0, some (.ref x), l2, l3, l4, l5, l6] [] h Q ↔ ww (mp_P fx) d 5000 432 [l0, some (.ref x), l2, l3, l4, l5, l6] [.ref x] h Q := ww_step rfl
set_option maxRecDepth 20000 in
theorem q5000_432 (l1 : Option Value) (l2 : Option Value) (l3 : Option Value) (l4 : Option Value) (l5 : Option Value) (l6 : Option Value) (x : Nat) (s0 : Nat) : ww (mp_P fx) d 5000 432 [some (.ref x), l1, l2, l3, l4, l5, l6] [.ref s0] h Q ↔ ww (mp_P fx) d 5000 433 [some (.ref x), l1, l2, l3, l4, l5, l6] [.ref x, .ref s0] h Q := ww_step rfl
set_option maxRecDepth 20000 in
theorem q5000_433 (l0 : Option Value) (l1 : Option Value) (l2 : Option Value) (l3 : Option Value) (l5 : Option Value) (l6 : Option Value) (x : Int32) (s0 : Nat) (s1 : Nat) : ww (mp_P fx) d 5000 433 [l0, l1, l2, l3, some (.int x), l5, l6] [.ref s0, .ref s1] h Q ↔ ww (mp_P fx) d 5000 435 [l0, l1, l2, l3, some (.int x), l5, l6] [.int x, .ref s0, .ref s1] h Q := ww_step rfl
set_option maxRecDepth 20000 in
theorem q5000_435 (ls : mm_V) (s0 : Int32) (s1 : Nat) (s2 : Nat) : ww (mp_P fx) d 5000 435 ls [.int s0, .ref s1, .ref s2] h Q ↔ ww (mp_P fx) d 5000 436 ls [.int 1, .int s0, .ref s1, .ref s2] h Q := wr_iconst (i := 1) rfl
set_option maxRecDepth 20000 in
theorem q5000_436 (ls : mm_V) (s0 : Int32) (s1 : Int32) (s2 : Nat) (s3 : Nat) : ww (mp_P fx) d 5000 436 ls [.int s0, .int s1, .ref s2, .ref s3] h Q ↔ ww (mp_P fx) d 5000 437 ls [.int (s1 + s0), .ref s2, .ref s3] h Q := wr_iadd rfl
set_option maxRecDepth 20000 in
theorem q5000_437 (ls : mm_V) (s0 : Int32) (s1 : Nat) (s2 : Nat) : ww (mp_P fx) d 5000 437 ls [.int s0, .ref s1, .ref s2] h Q ↔ ∃ x, mm_gI h s1 0 9 s0 = some x ∧ ww (mp_P fx) d 5000 438 ls [.int x, .ref s2] h Q := wr_iaload rfl
set_option maxRecDepth 20000 in
theorem q5000_438 (ls : mm_V) (s0 : Int32) (s1 : Nat) (hc : mm_cls h s1 = 9) : ww (mp_P fx) (d + 1) 5000 438 ls [.int s0, .ref s1] h Q ↔ wm (mp_P fx) d 122 [.ref s1, .int s0] h (fun r h' => ww (mp_P fx) (d + 1) 5000 441 ls (r.toList ++ []) h' Q) := wr_virtual rfl (mm_recv_ok (n := 1) (rc := 9) ⟨rfl, rfl⟩ rfl hc (by decide)) rfl
set_option maxRecDepth 20000 in
theorem q5000_441 (l0 : Option Value) (l1 : Option Value) (l3 : Option Value) (l4 : Option Value) (l5 : Option Value) (l6 : Option Value) (x : Nat) (s0 : Int32) : ww (mp_P fx) d 5000 441 [l0, l1, some (.ref x), l3, l4, l5, l6] [.int s0] h Q ↔ ww (mp_P fx) d 5000 442 [l0, l1, some (.ref x), l3, l4, l5, l6] [.ref x, .int s0] h Q := ww_step rfl
set_option maxRecDepth 20000 in
theorem q5000_442 (l1 : Option Value) (l2 : Option Value) (l3 : Option Value) (l4 : Option Value) (l5 : Option Value) (l6 : Option Value) (x : Nat) (s0 : Nat) (s1 : Int32) : ww (mp_P fx) d 5000 442 [some (.ref x), l1, l2, l3, l4, l5, l6] [.ref s0, .int s1] h Q ↔ ww (mp_P fx) d 5000 443 [some (.ref x), l1, l2, l3, l4, l5, l6] [.ref x, .ref s0, .int s1] h Q := ww_step rfl
set_option maxRecDepth 20000 in
theorem q5000_443 (l0 : Option Value) (l1 : Option Value) (l2 : Option Value) (l3 : Option Value) (l5 : Option Value) (l6 : Option Value) (x : Int32) (s0 : Nat) (s1 : Nat) (s2 : Int32) : ww (mp_P fx) d 5000 443 [l0, l1, l2, l3, some (.int x), l5, l6] [.ref s0, .ref s1, .int s2] h Q ↔ ww (mp_P fx) d 5000 445 [l0, l1, l2, l3, some (.int x), l5, l6] [.int x, .ref s0, .ref s1, .int s2] h Q := ww_step rfl
set_option maxRecDepth 20000 in
theorem q5000_445 (ls : mm_V) (s0 : Int32) (s1 : Nat) (s2 : Nat) (s3 : Int32) : ww (mp_P fx) d 5000 445 ls [.int s0, .ref s1, .ref s2, .int s3] h Q ↔ ww (mp_P fx) d 5000 446 ls [.int 1, .int s0, .ref s1, .ref s2, .int s3] h Q := wr_iconst (i := 1) rfl
set_option maxRecDepth 20000 in
theorem q5000_446 (ls : mm_V) (s0 : Int32) (s1 : Int32) (s2 : Nat) (s3 : Nat) (s4 : Int32) : ww (mp_P fx) d 5000 446 ls [.int s0, .int s1, .ref s2, .ref s3, .int s4] h Q ↔ ww (mp_P fx) d 5000 447 ls [.int (s1 + s0), .ref s2, .ref s3, .int s4] h Q := wr_iadd rfl
set_option maxRecDepth 20000 in
theorem q5000_447 (ls : mm_V) (s0 : Int32) (s1 : Nat) (s2 : Nat) (s3 : Int32) : ww (mp_P fx) d 5000 447 ls [.int s0, .ref s1, .ref s2, .int s3] h Q ↔ ∃ x, mm_gI h s1 0 9 s0 = some x ∧ ww (mp_P fx) d 5000 448 ls [.int x, .ref s2, .int s3] h Q := wr_iaload rfl
set_option maxRecDepth 20000 in
theorem q5000_448 (ls : mm_V) (s0 : Int32) (s1 : Nat) (s2 : Int32) (hc : mm_cls h s1 = 10) : ww (mp_P fx) (d + 1) 5000 448 ls [.int s0, .ref s1, .int s2] h Q ↔ wm (mp_P fx) d 268 [.ref s1, .int s0] h (fun r h' => ww (mp_P fx) (d + 1) 5000 451 ls (r.toList ++ [.int s2]) h' Q) := wr_virtual rfl (mm_recv_ok (n := 1) (rc := 10) ⟨rfl, rfl⟩ rfl hc (by decide)) rfl
set_option maxRecDepth 20000 in
theorem q5000_451 (ls : mm_V) (s0 : Int32) (s1 : Int32) : ww (mp_P fx) d 5000 451 ls [.int s0, .int s1] h Q ↔ (if s1 = s0 then ww (mp_P fx) d 5000 1331 ls [] h Q else ww (mp_P fx) d 5000 454 ls [] h Q) := wr_icmp_eq (t := 1331) rfl
set_option maxRecDepth 20000 in
theorem q5000_454 (ls : mm_V) : ww (mp_P fx) d 5000 454 ls [] h Q ↔ ww (mp_P fx) d 5000 455 ls [.int 0] h Q := wr_iconst (i := 0) rfl
set_option maxRecDepth 20000 in
theorem q5000_455 (ls : mm_V) (s0 : Int32) (hb : mm_ret (mp_sig 5000).2.2.2 (.int s0) = true) : ww (mp_P fx) d 5000 455 ls [.int s0] h Q ↔ Q (some (.int s0)) h := wr_ireturn rfl hb
set_option maxRecDepth 20000 in
theorem q5000_456 (l0 : Option Value) (l2 : Option Value) (l3 : Option Value) (l4 : Option Value) (l5 : Option Value) (l6 : Option Value) (x : Nat) : ww (mp_P fx) d 5000 456 [l0, some (.ref x), l2, l3, l4, l5, l6] [] h Q ↔ ww (mp_P fx) d 5000 457 [l0, some (.ref x), l2, l3, l4, l5, l6] [.ref x] h Q := ww_step rfl
set_option maxRecDepth 20000 in
theorem q5000_457 (ls : mm_V) (s0 : Nat) (hc : mm_cls h s0 = 9) : ww (mp_P fx) (d + 1) 5000 457 ls [.ref s0] h Q ↔ wm (mp_P fx) d 123 [.ref s0] h (fun r h' => ww (mp_P fx) (d + 1) 5000 460 ls (r.toList ++ []) h' Q) := wr_virtual rfl (mm_recv_ok (n := 0) (rc := 9) ⟨rfl, rfl⟩ rfl hc (by decide)) rfl
set_option maxRecDepth 20000 in
theorem q5000_460 (l0 : Option Value) (l1 : Option Value) (l3 : Option Value) (l4 : Option Value) (l5 : Option Value) (l6 : Option Value) (x : Nat) (s0 : Int32) : ww (mp_P fx) d 5000 460 [l0, l1, some (.ref x), l3, l4, l5, l6] [.int s0] h Q ↔ ww (mp_P fx) d 5000 461 [l0, l1, some (.ref x), l3, l4, l5, l6] [.ref x, .int s0] h Q := ww_step rfl
set_option maxRecDepth 20000 in
theorem q5000_461 (ls : mm_V) (s0 : Nat) (s1 : Int32) (hc : mm_cls h s0 = 10) : ww (mp_P fx) (d + 1) 5000 461 ls [.ref s0, .int s1] h Q ↔ wm (mp_P fx) d 271 [.ref s0] h (fun r h' => ww (mp_P fx) (d + 1) 5000 464 ls (r.toList ++ [.int s1]) h' Q) := wr_virtual rfl (mm_recv_ok (n := 0) (rc := 10) ⟨rfl, rfl⟩ rfl hc (by decide)) rfl
set_option maxRecDepth 20000 in
theorem q5000_464 (ls : mm_V) (s0 : Int32) (s1 : Int32) : ww (mp_P fx) d 5000 464 ls [.int s0, .int s1] h Q ↔ (if s1 = s0 then ww (mp_P fx) d 5000 1331 ls [] h Q else ww (mp_P fx) d 5000 467 ls [] h Q) := wr_icmp_eq (t := 1331) rfl
set_option maxRecDepth 20000 in
theorem q5000_467 (ls : mm_V) : ww (mp_P fx) d 5000 467 ls [] h Q ↔ ww (mp_P fx) d 5000 468 ls [.int 0] h Q := wr_iconst (i := 0) rfl
set_option maxRecDepth 20000 in
theorem q5000_468 (ls : mm_V) (s0 : Int32) (hb : mm_ret (mp_sig 5000).2.2.2 (.int s0) = true) : ww (mp_P fx) d 5000 468 ls [.int s0] h Q ↔ Q (some (.int s0)) h := wr_ireturn rfl hb
set_option maxRecDepth 20000 in
theorem q5000_469 (l0 : Option Value) (l2 : Option Value) (l3 : Option Value) (l4 : Option Value) (l5 : Option Value) (l6 : Option Value) (x : Nat) : ww (mp_P fx) d 5000 469 [l0, some (.ref x), l2, l3, l4, l5, l6] [] h Q ↔ ww (mp_P fx) d 5000 470 [l0, some (.ref x), l2, l3, l4, l5, l6] [.ref x] h Q := ww_step rfl
set_option maxRecDepth 20000 in
theorem q5000_470 (l1 : Option Value) (l2 : Option Value) (l3 : Option Value) (l4 : Option Value) (l5 : Option Value) (l6 : Option Value) (x : Nat) (s0 : Nat) : ww (mp_P fx) d 5000 470 [some (.ref x), l1, l2, l3, l4, l5, l6] [.ref s0] h Q ↔ ww (mp_P fx) d 5000 471 [some (.ref x), l1, l2, l3, l4, l5, l6] [.ref x, .ref s0] h Q := ww_step rfl
set_option maxRecDepth 20000 in
theorem q5000_471 (l0 : Option Value) (l1 : Option Value) (l2 : Option Value) (l3 : Option Value) (l5 : Option Value) (l6 : Option Value) (x : Int32) (s0 : Nat) (s1 : Nat) : ww (mp_P fx) d 5000 471 [l0, l1, l2, l3, some (.int x), l5, l6] [.ref s0, .ref s1] h Q ↔ ww (mp_P fx) d 5000 473 [l0, l1, l2, l3, some (.int x), l5, l6] [.int x, .ref s0, .ref s1] h Q := ww_step rfl
set_option maxRecDepth 20000 in
theorem q5000_473 (ls : mm_V) (s0 : Int32) (s1 : Nat) (s2 : Nat) : ww (mp_P fx) d 5000 473 ls [.int s0, .ref s1, .ref s2] h Q ↔ ww (mp_P fx) d 5000 474 ls [.int 1, .int s0, .ref s1, .ref s2] h Q := wr_iconst (i := 1) rfl
set_option maxRecDepth 20000 in
theorem q5000_474 (ls : mm_V) (s0 : Int32) (s1 : Int32) (s2 : Nat) (s3 : Nat) : ww (mp_P fx) d 5000 474 ls [.int s0, .int s1, .ref s2, .ref s3] h Q ↔ ww (mp_P fx) d 5000 475 ls [.int (s1 + s0), .ref s2, .ref s3] h Q := wr_iadd rfl
set_option maxRecDepth 20000 in
theorem q5000_475 (ls : mm_V) (s0 : Int32) (s1 : Nat) (s2 : Nat) : ww (mp_P fx) d 5000 475 ls [.int s0, .ref s1, .ref s2] h Q ↔ ∃ x, mm_gI h s1 0 9 s0 = some x ∧ ww (mp_P fx) d 5000 476 ls [.int x, .ref s2] h Q := wr_iaload rfl
set_option maxRecDepth 20000 in
theorem q5000_476 (l1 : Option Value) (l2 : Option Value) (l3 : Option Value) (l4 : Option Value) (l5 : Option Value) (l6 : Option Value) (x : Nat) (s0 : Int32) (s1 : Nat) : ww (mp_P fx) d 5000 476 [some (.ref x), l1, l2, l3, l4, l5, l6] [.int s0, .ref s1] h Q ↔ ww (mp_P fx) d 5000 477 [some (.ref x), l1, l2, l3, l4, l5, l6] [.ref x, .int s0, .ref s1] h Q := ww_step rfl
set_option maxRecDepth 20000 in
theorem q5000_477 (l0 : Option Value) (l1 : Option Value) (l2 : Option Value) (l3 : Option Value) (l5 : Option Value) (l6 : Option Value) (x : Int32) (s0 : Nat) (s1 : Int32) (s2 : Nat) : ww (mp_P fx) d 5000 477 [l0, l1, l2, l3, some (.int x), l5, l6] [.ref s0, .int s1, .ref s2] h Q ↔ ww (mp_P fx) d 5000 479 [l0, l1, l2, l3, some (.int x), l5, l6] [.int x, .ref s0, .int s1, .ref s2] h Q := ww_step rfl
set_option maxRecDepth 20000 in
theorem q5000_479 (ls : mm_V) (s0 : Int32) (s1 : Nat) (s2 : Int32) (s3 : Nat) : ww (mp_P fx) d 5000 479 ls [.int s0, .ref s1, .int s2, .ref s3] h Q ↔ ww (mp_P fx) d 5000 480 ls [.int 2, .int s0, .ref s1, .int s2, .ref s3] h Q := wr_iconst (i := 2) rfl
set_option maxRecDepth 20000 in
theorem q5000_480 (ls : mm_V) (s0 : Int32) (s1 : Int32) (s2 : Nat) (s3 : Int32) (s4 : Nat) : ww (mp_P fx) d 5000 480 ls [.int s0, .int s1, .ref s2, .int s3, .ref s4] h Q ↔ ww (mp_P fx) d 5000 481 ls [.int (s1 + s0), .ref s2, .int s3, .ref s4] h Q := wr_iadd rfl
set_option maxRecDepth 20000 in
theorem q5000_481 (ls : mm_V) (s0 : Int32) (s1 : Nat) (s2 : Int32) (s3 : Nat) : ww (mp_P fx) d 5000 481 ls [.int s0, .ref s1, .int s2, .ref s3] h Q ↔ ∃ x, mm_gI h s1 0 9 s0 = some x ∧ ww (mp_P fx) d 5000 482 ls [.int x, .int s2, .ref s3] h Q := wr_iaload rfl
set_option maxRecDepth 20000 in
theorem q5000_482 (ls : mm_V) (s0 : Int32) (s1 : Int32) (s2 : Nat) (hc : mm_cls h s2 = 9) : ww (mp_P fx) (d + 1) 5000 482 ls [.int s0, .int s1, .ref s2] h Q ↔ wm (mp_P fx) d 137 [.ref s2, .int s1, .int s0] h (fun r h' => ww (mp_P fx) (d + 1) 5000 485 ls (r.toList ++ []) h' Q) := wr_virtual rfl (mm_recv_ok (n := 2) (rc := 9) ⟨rfl, rfl⟩ rfl hc (by decide)) rfl
set_option maxRecDepth 20000 in
theorem q5000_485 (l0 : Option Value) (l1 : Option Value) (l3 : Option Value) (l4 : Option Value) (l5 : Option Value) (l6 : Option Value) (x : Nat) (s0 : Int32) : ww (mp_P fx) d 5000 485 [l0, l1, some (.ref x), l3, l4, l5, l6] [.int s0] h Q ↔ ww (mp_P fx) d 5000 486 [l0, l1, some (.ref x), l3, l4, l5, l6] [.ref x, .int s0] h Q := ww_step rfl
set_option maxRecDepth 20000 in
theorem q5000_486 (l1 : Option Value) (l2 : Option Value) (l3 : Option Value) (l4 : Option Value) (l5 : Option Value) (l6 : Option Value) (x : Nat) (s0 : Nat) (s1 : Int32) : ww (mp_P fx) d 5000 486 [some (.ref x), l1, l2, l3, l4, l5, l6] [.ref s0, .int s1] h Q ↔ ww (mp_P fx) d 5000 487 [some (.ref x), l1, l2, l3, l4, l5, l6] [.ref x, .ref s0, .int s1] h Q := ww_step rfl
set_option maxRecDepth 20000 in
theorem q5000_487 (l0 : Option Value) (l1 : Option Value) (l2 : Option Value) (l3 : Option Value) (l5 : Option Value) (l6 : Option Value) (x : Int32) (s0 : Nat) (s1 : Nat) (s2 : Int32) : ww (mp_P fx) d 5000 487 [l0, l1, l2, l3, some (.int x), l5, l6] [.ref s0, .ref s1, .int s2] h Q ↔ ww (mp_P fx) d 5000 489 [l0, l1, l2, l3, some (.int x), l5, l6] [.int x, .ref s0, .ref s1, .int s2] h Q := ww_step rfl
set_option maxRecDepth 20000 in
theorem q5000_489 (ls : mm_V) (s0 : Int32) (s1 : Nat) (s2 : Nat) (s3 : Int32) : ww (mp_P fx) d 5000 489 ls [.int s0, .ref s1, .ref s2, .int s3] h Q ↔ ww (mp_P fx) d 5000 490 ls [.int 1, .int s0, .ref s1, .ref s2, .int s3] h Q := wr_iconst (i := 1) rfl
set_option maxRecDepth 20000 in
theorem q5000_490 (ls : mm_V) (s0 : Int32) (s1 : Int32) (s2 : Nat) (s3 : Nat) (s4 : Int32) : ww (mp_P fx) d 5000 490 ls [.int s0, .int s1, .ref s2, .ref s3, .int s4] h Q ↔ ww (mp_P fx) d 5000 491 ls [.int (s1 + s0), .ref s2, .ref s3, .int s4] h Q := wr_iadd rfl
set_option maxRecDepth 20000 in
theorem q5000_491 (ls : mm_V) (s0 : Int32) (s1 : Nat) (s2 : Nat) (s3 : Int32) : ww (mp_P fx) d 5000 491 ls [.int s0, .ref s1, .ref s2, .int s3] h Q ↔ ∃ x, mm_gI h s1 0 9 s0 = some x ∧ ww (mp_P fx) d 5000 492 ls [.int x, .ref s2, .int s3] h Q := wr_iaload rfl
set_option maxRecDepth 20000 in
theorem q5000_492 (l1 : Option Value) (l2 : Option Value) (l3 : Option Value) (l4 : Option Value) (l5 : Option Value) (l6 : Option Value) (x : Nat) (s0 : Int32) (s1 : Nat) (s2 : Int32) : ww (mp_P fx) d 5000 492 [some (.ref x), l1, l2, l3, l4, l5, l6] [.int s0, .ref s1, .int s2] h Q ↔ ww (mp_P fx) d 5000 493 [some (.ref x), l1, l2, l3, l4, l5, l6] [.ref x, .int s0, .ref s1, .int s2] h Q := ww_step rfl
set_option maxRecDepth 20000 in
theorem q5000_493 (l0 : Option Value) (l1 : Option Value) (l2 : Option Value) (l3 : Option Value) (l5 : Option Value) (l6 : Option Value) (x : Int32) (s0 : Nat) (s1 : Int32) (s2 : Nat) (s3 : Int32) : ww (mp_P fx) d 5000 493 [l0, l1, l2, l3, some (.int x), l5, l6] [.ref s0, .int s1, .ref s2, .int s3] h Q ↔ ww (mp_P fx) d 5000 495 [l0, l1, l2, l3, some (.int x), l5, l6] [.int x, .ref s0, .int s1, .ref s2, .int s3] h Q := ww_step rfl
set_option maxRecDepth 20000 in
theorem q5000_495 (ls : mm_V) (s0 : Int32) (s1 : Nat) (s2 : Int32) (s3 : Nat) (s4 : Int32) : ww (mp_P fx) d 5000 495 ls [.int s0, .ref s1, .int s2, .ref s3, .int s4] h Q ↔ ww (mp_P fx) d 5000 496 ls [.int 2, .int s0, .ref s1, .int s2, .ref s3, .int s4] h Q := wr_iconst (i := 2) rfl
set_option maxRecDepth 20000 in
theorem q5000_496 (ls : mm_V) (s0 : Int32) (s1 : Int32) (s2 : Nat) (s3 : Int32) (s4 : Nat) (s5 : Int32) : ww (mp_P fx) d 5000 496 ls [.int s0, .int s1, .ref s2, .int s3, .ref s4, .int s5] h Q ↔ ww (mp_P fx) d 5000 497 ls [.int (s1 + s0), .ref s2, .int s3, .ref s4, .int s5] h Q := wr_iadd rfl
set_option maxRecDepth 20000 in
theorem q5000_497 (ls : mm_V) (s0 : Int32) (s1 : Nat) (s2 : Int32) (s3 : Nat) (s4 : Int32) : ww (mp_P fx) d 5000 497 ls [.int s0, .ref s1, .int s2, .ref s3, .int s4] h Q ↔ ∃ x, mm_gI h s1 0 9 s0 = some x ∧ ww (mp_P fx) d 5000 498 ls [.int x, .int s2, .ref s3, .int s4] h Q := wr_iaload rfl
set_option maxRecDepth 20000 in
theorem q5000_498 (ls : mm_V) (s0 : Int32) (s1 : Int32) (s2 : Nat) (s3 : Int32) (hc : mm_cls h s2 = 10) : ww (mp_P fx) (d + 1) 5000 498 ls [.int s0, .int s1, .ref s2, .int s3] h Q ↔ wm (mp_P fx) d 282 [.ref s2, .int s1, .int s0] h (fun r h' => ww (mp_P fx) (d + 1) 5000 501 ls (r.toList ++ [.int s3]) h' Q) := wr_virtual rfl (mm_recv_ok (n := 2) (rc := 10) ⟨rfl, rfl⟩ rfl hc (by decide)) rfl
set_option maxRecDepth 20000 in
theorem q5000_501 (ls : mm_V) (s0 : Int32) (s1 : Int32) : ww (mp_P fx) d 5000 501 ls [.int s0, .int s1] h Q ↔ (if s1 = s0 then ww (mp_P fx) d 5000 1331 ls [] h Q else ww (mp_P fx) d 5000 504 ls [] h Q) := wr_icmp_eq (t := 1331) rfl
set_option maxRecDepth 20000 in
theorem q5000_504 (ls : mm_V) : ww (mp_P fx) d 5000 504 ls [] h Q ↔ ww (mp_P fx) d 5000 505 ls [.int 0] h Q := wr_iconst (i := 0) rfl
set_option maxRecDepth 20000 in
theorem q5000_505 (ls : mm_V) (s0 : Int32) (hb : mm_ret (mp_sig 5000).2.2.2 (.int s0) = true) : ww (mp_P fx) d 5000 505 ls [.int s0] h Q ↔ Q (some (.int s0)) h := wr_ireturn rfl hb
set_option maxRecDepth 20000 in
theorem q5000_506 (l0 : Option Value) (l2 : Option Value) (l3 : Option Value) (l4 : Option Value) (l5 : Option Value) (l6 : Option Value) (x : Nat) : ww (mp_P fx) d 5000 506 [l0, some (.ref x), l2, l3, l4, l5, l6] [] h Q ↔ ww (mp_P fx) d 5000 507 [l0, some (.ref x), l2, l3, l4, l5, l6] [.ref x] h Q := ww_step rfl
set_option maxRecDepth 20000 in
theorem q5000_507 (l1 : Option Value) (l2 : Option Value) (l3 : Option Value) (l4 : Option Value) (l5 : Option Value) (l6 : Option Value) (x : Nat) (s0 : Nat) : ww (mp_P fx) d 5000 507 [some (.ref x), l1, l2, l3, l4, l5, l6] [.ref s0] h Q ↔ ww (mp_P fx) d 5000 508 [some (.ref x), l1, l2, l3, l4, l5, l6] [.ref x, .ref s0] h Q := ww_step rfl
set_option maxRecDepth 20000 in
theorem q5000_508 (l0 : Option Value) (l1 : Option Value) (l2 : Option Value) (l3 : Option Value) (l5 : Option Value) (l6 : Option Value) (x : Int32) (s0 : Nat) (s1 : Nat) : ww (mp_P fx) d 5000 508 [l0, l1, l2, l3, some (.int x), l5, l6] [.ref s0, .ref s1] h Q ↔ ww (mp_P fx) d 5000 510 [l0, l1, l2, l3, some (.int x), l5, l6] [.int x, .ref s0, .ref s1] h Q := ww_step rfl
set_option maxRecDepth 20000 in
theorem q5000_510 (ls : mm_V) (s0 : Int32) (s1 : Nat) (s2 : Nat) : ww (mp_P fx) d 5000 510 ls [.int s0, .ref s1, .ref s2] h Q ↔ ww (mp_P fx) d 5000 511 ls [.int 1, .int s0, .ref s1, .ref s2] h Q := wr_iconst (i := 1) rfl
set_option maxRecDepth 20000 in
theorem q5000_511 (ls : mm_V) (s0 : Int32) (s1 : Int32) (s2 : Nat) (s3 : Nat) : ww (mp_P fx) d 5000 511 ls [.int s0, .int s1, .ref s2, .ref s3] h Q ↔ ww (mp_P fx) d 5000 512 ls [.int (s1 + s0), .ref s2, .ref s3] h Q := wr_iadd rfl
set_option maxRecDepth 20000 in
theorem q5000_512 (ls : mm_V) (s0 : Int32) (s1 : Nat) (s2 : Nat) : ww (mp_P fx) d 5000 512 ls [.int s0, .ref s1, .ref s2] h Q ↔ ∃ x, mm_gI h s1 0 9 s0 = some x ∧ ww (mp_P fx) d 5000 513 ls [.int x, .ref s2] h Q := wr_iaload rfl
set_option maxRecDepth 20000 in
theorem q5000_513 (ls : mm_V) (s0 : Int32) (s1 : Nat) (hc : mm_cls h s1 = 9) : ww (mp_P fx) (d + 1) 5000 513 ls [.int s0, .ref s1] h Q ↔ wm (mp_P fx) d 140 [.ref s1, .int s0] h (fun r h' => ww (mp_P fx) (d + 1) 5000 516 ls (r.toList ++ []) h' Q) := wr_virtual rfl (mm_recv_ok (n := 1) (rc := 9) ⟨rfl, rfl⟩ rfl hc (by decide)) rfl
set_option maxRecDepth 20000 in
theorem q5000_516 (l0 : Option Value) (l1 : Option Value) (l3 : Option Value) (l4 : Option Value) (l5 : Option Value) (l6 : Option Value) (x : Nat) (s0 : Int32) : ww (mp_P fx) d 5000 516 [l0, l1, some (.ref x), l3, l4, l5, l6] [.int s0] h Q ↔ ww (mp_P fx) d 5000 517 [l0, l1, some (.ref x), l3, l4, l5, l6] [.ref x, .int s0] h Q := ww_step rfl
set_option maxRecDepth 20000 in
theorem q5000_517 (l1 : Option Value) (l2 : Option Value) (l3 : Option Value) (l4 : Option Value) (l5 : Option Value) (l6 : Option Value) (x : Nat) (s0 : Nat) (s1 : Int32) : ww (mp_P fx) d 5000 517 [some (.ref x), l1, l2, l3, l4, l5, l6] [.ref s0, .int s1] h Q ↔ ww (mp_P fx) d 5000 518 [some (.ref x), l1, l2, l3, l4, l5, l6] [.ref x, .ref s0, .int s1] h Q := ww_step rfl
set_option maxRecDepth 20000 in
theorem q5000_518 (l0 : Option Value) (l1 : Option Value) (l2 : Option Value) (l3 : Option Value) (l5 : Option Value) (l6 : Option Value) (x : Int32) (s0 : Nat) (s1 : Nat) (s2 : Int32) : ww (mp_P fx) d 5000 518 [l0, l1, l2, l3, some (.int x), l5, l6] [.ref s0, .ref s1, .int s2] h Q ↔ ww (mp_P fx) d 5000 520 [l0, l1, l2, l3, some (.int x), l5, l6] [.int x, .ref s0, .ref s1, .int s2] h Q := ww_step rfl
set_option maxRecDepth 20000 in
theorem q5000_520 (ls : mm_V) (s0 : Int32) (s1 : Nat) (s2 : Nat) (s3 : Int32) : ww (mp_P fx) d 5000 520 ls [.int s0, .ref s1, .ref s2, .int s3] h Q ↔ ww (mp_P fx) d 5000 521 ls [.int 1, .int s0, .ref s1, .ref s2, .int s3] h Q := wr_iconst (i := 1) rfl
set_option maxRecDepth 20000 in
theorem q5000_521 (ls : mm_V) (s0 : Int32) (s1 : Int32) (s2 : Nat) (s3 : Nat) (s4 : Int32) : ww (mp_P fx) d 5000 521 ls [.int s0, .int s1, .ref s2, .ref s3, .int s4] h Q ↔ ww (mp_P fx) d 5000 522 ls [.int (s1 + s0), .ref s2, .ref s3, .int s4] h Q := wr_iadd rfl
set_option maxRecDepth 20000 in
theorem q5000_522 (ls : mm_V) (s0 : Int32) (s1 : Nat) (s2 : Nat) (s3 : Int32) : ww (mp_P fx) d 5000 522 ls [.int s0, .ref s1, .ref s2, .int s3] h Q ↔ ∃ x, mm_gI h s1 0 9 s0 = some x ∧ ww (mp_P fx) d 5000 523 ls [.int x, .ref s2, .int s3] h Q := wr_iaload rfl
set_option maxRecDepth 20000 in
theorem q5000_523 (ls : mm_V) (s0 : Int32) (s1 : Nat) (s2 : Int32) (hc : mm_cls h s1 = 10) : ww (mp_P fx) (d + 1) 5000 523 ls [.int s0, .ref s1, .int s2] h Q ↔ wm (mp_P fx) d 283 [.ref s1, .int s0] h (fun r h' => ww (mp_P fx) (d + 1) 5000 526 ls (r.toList ++ [.int s2]) h' Q) := wr_virtual rfl (mm_recv_ok (n := 1) (rc := 10) ⟨rfl, rfl⟩ rfl hc (by decide)) rfl
set_option maxRecDepth 20000 in
theorem q5000_526 (ls : mm_V) (s0 : Int32) (s1 : Int32) : ww (mp_P fx) d 5000 526 ls [.int s0, .int s1] h Q ↔ (if s1 = s0 then ww (mp_P fx) d 5000 1331 ls [] h Q else ww (mp_P fx) d 5000 529 ls [] h Q) := wr_icmp_eq (t := 1331) rfl
set_option maxRecDepth 20000 in
theorem q5000_529 (ls : mm_V) : ww (mp_P fx) d 5000 529 ls [] h Q ↔ ww (mp_P fx) d 5000 530 ls [.int 0] h Q := wr_iconst (i := 0) rfl
set_option maxRecDepth 20000 in
theorem q5000_530 (ls : mm_V) (s0 : Int32) (hb : mm_ret (mp_sig 5000).2.2.2 (.int s0) = true) : ww (mp_P fx) d 5000 530 ls [.int s0] h Q ↔ Q (some (.int s0)) h := wr_ireturn rfl hb
set_option maxRecDepth 20000 in
theorem q5000_531 (l0 : Option Value) (l2 : Option Value) (l3 : Option Value) (l4 : Option Value) (l5 : Option Value) (l6 : Option Value) (x : Nat) : ww (mp_P fx) d 5000 531 [l0, some (.ref x), l2, l3, l4, l5, l6] [] h Q ↔ ww (mp_P fx) d 5000 532 [l0, some (.ref x), l2, l3, l4, l5, l6] [.ref x] h Q := ww_step rfl
set_option maxRecDepth 20000 in
theorem q5000_532 (l1 : Option Value) (l2 : Option Value) (l3 : Option Value) (l4 : Option Value) (l5 : Option Value) (l6 : Option Value) (x : Nat) (s0 : Nat) : ww (mp_P fx) d 5000 532 [some (.ref x), l1, l2, l3, l4, l5, l6] [.ref s0] h Q ↔ ww (mp_P fx) d 5000 533 [some (.ref x), l1, l2, l3, l4, l5, l6] [.ref x, .ref s0] h Q := ww_step rfl
set_option maxRecDepth 20000 in
theorem q5000_533 (l0 : Option Value) (l1 : Option Value) (l2 : Option Value) (l3 : Option Value) (l5 : Option Value) (l6 : Option Value) (x : Int32) (s0 : Nat) (s1 : Nat) : ww (mp_P fx) d 5000 533 [l0, l1, l2, l3, some (.int x), l5, l6] [.ref s0, .ref s1] h Q ↔ ww (mp_P fx) d 5000 535 [l0, l1, l2, l3, some (.int x), l5, l6] [.int x, .ref s0, .ref s1] h Q := ww_step rfl
set_option maxRecDepth 20000 in
theorem q5000_535 (ls : mm_V) (s0 : Int32) (s1 : Nat) (s2 : Nat) : ww (mp_P fx) d 5000 535 ls [.int s0, .ref s1, .ref s2] h Q ↔ ww (mp_P fx) d 5000 536 ls [.int 1, .int s0, .ref s1, .ref s2] h Q := wr_iconst (i := 1) rfl
set_option maxRecDepth 20000 in
theorem q5000_536 (ls : mm_V) (s0 : Int32) (s1 : Int32) (s2 : Nat) (s3 : Nat) : ww (mp_P fx) d 5000 536 ls [.int s0, .int s1, .ref s2, .ref s3] h Q ↔ ww (mp_P fx) d 5000 537 ls [.int (s1 + s0), .ref s2, .ref s3] h Q := wr_iadd rfl
set_option maxRecDepth 20000 in
theorem q5000_537 (ls : mm_V) (s0 : Int32) (s1 : Nat) (s2 : Nat) : ww (mp_P fx) d 5000 537 ls [.int s0, .ref s1, .ref s2] h Q ↔ ∃ x, mm_gI h s1 0 9 s0 = some x ∧ ww (mp_P fx) d 5000 538 ls [.int x, .ref s2] h Q := wr_iaload rfl
set_option maxRecDepth 20000 in
theorem q5000_538 (ls : mm_V) (s0 : Int32) (s1 : Nat) (hc : mm_cls h s1 = 9) : ww (mp_P fx) (d + 1) 5000 538 ls [.int s0, .ref s1] h Q ↔ wm (mp_P fx) d 142 [.ref s1, .int s0] h (fun r h' => ww (mp_P fx) (d + 1) 5000 541 ls (r.toList ++ []) h' Q) := wr_virtual rfl (mm_recv_ok (n := 1) (rc := 9) ⟨rfl, rfl⟩ rfl hc (by decide)) rfl
set_option maxRecDepth 20000 in
theorem q5000_541 (l0 : Option Value) (l1 : Option Value) (l3 : Option Value) (l4 : Option Value) (l5 : Option Value) (l6 : Option Value) (x : Nat) (s0 : Int32) : ww (mp_P fx) d 5000 541 [l0, l1, some (.ref x), l3, l4, l5, l6] [.int s0] h Q ↔ ww (mp_P fx) d 5000 542 [l0, l1, some (.ref x), l3, l4, l5, l6] [.ref x, .int s0] h Q := ww_step rfl
set_option maxRecDepth 20000 in
theorem q5000_542 (l1 : Option Value) (l2 : Option Value) (l3 : Option Value) (l4 : Option Value) (l5 : Option Value) (l6 : Option Value) (x : Nat) (s0 : Nat) (s1 : Int32) : ww (mp_P fx) d 5000 542 [some (.ref x), l1, l2, l3, l4, l5, l6] [.ref s0, .int s1] h Q ↔ ww (mp_P fx) d 5000 543 [some (.ref x), l1, l2, l3, l4, l5, l6] [.ref x, .ref s0, .int s1] h Q := ww_step rfl
set_option maxRecDepth 20000 in
theorem q5000_543 (l0 : Option Value) (l1 : Option Value) (l2 : Option Value) (l3 : Option Value) (l5 : Option Value) (l6 : Option Value) (x : Int32) (s0 : Nat) (s1 : Nat) (s2 : Int32) : ww (mp_P fx) d 5000 543 [l0, l1, l2, l3, some (.int x), l5, l6] [.ref s0, .ref s1, .int s2] h Q ↔ ww (mp_P fx) d 5000 545 [l0, l1, l2, l3, some (.int x), l5, l6] [.int x, .ref s0, .ref s1, .int s2] h Q := ww_step rfl
set_option maxRecDepth 20000 in
theorem q5000_545 (ls : mm_V) (s0 : Int32) (s1 : Nat) (s2 : Nat) (s3 : Int32) : ww (mp_P fx) d 5000 545 ls [.int s0, .ref s1, .ref s2, .int s3] h Q ↔ ww (mp_P fx) d 5000 546 ls [.int 1, .int s0, .ref s1, .ref s2, .int s3] h Q := wr_iconst (i := 1) rfl
set_option maxRecDepth 20000 in
theorem q5000_546 (ls : mm_V) (s0 : Int32) (s1 : Int32) (s2 : Nat) (s3 : Nat) (s4 : Int32) : ww (mp_P fx) d 5000 546 ls [.int s0, .int s1, .ref s2, .ref s3, .int s4] h Q ↔ ww (mp_P fx) d 5000 547 ls [.int (s1 + s0), .ref s2, .ref s3, .int s4] h Q := wr_iadd rfl
set_option maxRecDepth 20000 in
theorem q5000_547 (ls : mm_V) (s0 : Int32) (s1 : Nat) (s2 : Nat) (s3 : Int32) : ww (mp_P fx) d 5000 547 ls [.int s0, .ref s1, .ref s2, .int s3] h Q ↔ ∃ x, mm_gI h s1 0 9 s0 = some x ∧ ww (mp_P fx) d 5000 548 ls [.int x, .ref s2, .int s3] h Q := wr_iaload rfl
set_option maxRecDepth 20000 in
theorem q5000_548 (ls : mm_V) (s0 : Int32) (s1 : Nat) (s2 : Int32) (hc : mm_cls h s1 = 10) : ww (mp_P fx) (d + 1) 5000 548 ls [.int s0, .ref s1, .int s2] h Q ↔ wm (mp_P fx) d 284 [.ref s1, .int s0] h (fun r h' => ww (mp_P fx) (d + 1) 5000 551 ls (r.toList ++ [.int s2]) h' Q) := wr_virtual rfl (mm_recv_ok (n := 1) (rc := 10) ⟨rfl, rfl⟩ rfl hc (by decide)) rfl
set_option maxRecDepth 20000 in
theorem q5000_551 (ls : mm_V) (s0 : Int32) (s1 : Int32) : ww (mp_P fx) d 5000 551 ls [.int s0, .int s1] h Q ↔ (if s1 = s0 then ww (mp_P fx) d 5000 1331 ls [] h Q else ww (mp_P fx) d 5000 554 ls [] h Q) := wr_icmp_eq (t := 1331) rfl
set_option maxRecDepth 20000 in
theorem q5000_554 (ls : mm_V) : ww (mp_P fx) d 5000 554 ls [] h Q ↔ ww (mp_P fx) d 5000 555 ls [.int 0] h Q := wr_iconst (i := 0) rfl
set_option maxRecDepth 20000 in
theorem q5000_555 (ls : mm_V) (s0 : Int32) (hb : mm_ret (mp_sig 5000).2.2.2 (.int s0) = true) : ww (mp_P fx) d 5000 555 ls [.int s0] h Q ↔ Q (some (.int s0)) h := wr_ireturn rfl hb
set_option maxRecDepth 20000 in
theorem q5000_556 (l0 : Option Value) (l2 : Option Value) (l3 : Option Value) (l4 : Option Value) (l5 : Option Value) (l6 : Option Value) (x : Nat) : ww (mp_P fx) d 5000 556 [l0, some (.ref x), l2, l3, l4, l5, l6] [] h Q ↔ ww (mp_P fx) d 5000 557 [l0, some (.ref x), l2, l3, l4, l5, l6] [.ref x] h Q := ww_step rfl
set_option maxRecDepth 20000 in
theorem q5000_557 (ls : mm_V) (s0 : Nat) (hc : mm_cls h s0 = 9) : ww (mp_P fx) (d + 1) 5000 557 ls [.ref s0] h Q ↔ wm (mp_P fx) d 144 [.ref s0] h (fun r h' => ww (mp_P fx) (d + 1) 5000 560 ls (r.toList ++ []) h' Q) := wr_virtual rfl (mm_recv_ok (n := 0) (rc := 9) ⟨rfl, rfl⟩ rfl hc (by decide)) rfl
set_option maxRecDepth 20000 in
theorem q5000_560 (l0 : Option Value) (l1 : Option Value) (l3 : Option Value) (l4 : Option Value) (l5 : Option Value) (l6 : Option Value) (x : Nat) (s0 : Int32) : ww (mp_P fx) d 5000 560 [l0, l1, some (.ref x), l3, l4, l5, l6] [.int s0] h Q ↔ ww (mp_P fx) d 5000 561 [l0, l1, some (.ref x), l3, l4, l5, l6] [.ref x, .int s0] h Q := ww_step rfl
set_option maxRecDepth 20000 in
theorem q5000_561 (ls : mm_V) (s0 : Nat) (s1 : Int32) (hc : mm_cls h s0 = 10) : ww (mp_P fx) (d + 1) 5000 561 ls [.ref s0, .int s1] h Q ↔ wm (mp_P fx) d 285 [.ref s0] h (fun r h' => ww (mp_P fx) (d + 1) 5000 564 ls (r.toList ++ [.int s1]) h' Q) := wr_virtual rfl (mm_recv_ok (n := 0) (rc := 10) ⟨rfl, rfl⟩ rfl hc (by decide)) rfl
set_option maxRecDepth 20000 in
theorem q5000_564 (ls : mm_V) (s0 : Int32) (s1 : Int32) : ww (mp_P fx) d 5000 564 ls [.int s0, .int s1] h Q ↔ (if s1 = s0 then ww (mp_P fx) d 5000 1331 ls [] h Q else ww (mp_P fx) d 5000 567 ls [] h Q) := wr_icmp_eq (t := 1331) rfl
set_option maxRecDepth 20000 in
theorem q5000_567 (ls : mm_V) : ww (mp_P fx) d 5000 567 ls [] h Q ↔ ww (mp_P fx) d 5000 568 ls [.int 0] h Q := wr_iconst (i := 0) rfl
set_option maxRecDepth 20000 in
theorem q5000_568 (ls : mm_V) (s0 : Int32) (hb : mm_ret (mp_sig 5000).2.2.2 (.int s0) = true) : ww (mp_P fx) d 5000 568 ls [.int s0] h Q ↔ Q (some (.int s0)) h := wr_ireturn rfl hb
set_option maxRecDepth 20000 in
theorem q5000_569 (l0 : Option Value) (l2 : Option Value) (l3 : Option Value) (l4 : Option Value) (l5 : Option Value) (l6 : Option Value) (x : Nat) : ww (mp_P fx) d 5000 569 [l0, some (.ref x), l2, l3, l4, l5, l6] [] h Q ↔ ww (mp_P fx) d 5000 570 [l0, some (.ref x), l2, l3, l4, l5, l6] [.ref x] h Q := ww_step rfl
set_option maxRecDepth 20000 in
theorem q5000_570 (l1 : Option Value) (l2 : Option Value) (l3 : Option Value) (l4 : Option Value) (l5 : Option Value) (l6 : Option Value) (x : Nat) (s0 : Nat) : ww (mp_P fx) d 5000 570 [some (.ref x), l1, l2, l3, l4, l5, l6] [.ref s0] h Q ↔ ww (mp_P fx) d 5000 571 [some (.ref x), l1, l2, l3, l4, l5, l6] [.ref x, .ref s0] h Q := ww_step rfl
set_option maxRecDepth 20000 in
theorem q5000_571 (l0 : Option Value) (l1 : Option Value) (l2 : Option Value) (l3 : Option Value) (l5 : Option Value) (l6 : Option Value) (x : Int32) (s0 : Nat) (s1 : Nat) : ww (mp_P fx) d 5000 571 [l0, l1, l2, l3, some (.int x), l5, l6] [.ref s0, .ref s1] h Q ↔ ww (mp_P fx) d 5000 573 [l0, l1, l2, l3, some (.int x), l5, l6] [.int x, .ref s0, .ref s1] h Q := ww_step rfl
set_option maxRecDepth 20000 in
theorem q5000_573 (ls : mm_V) (s0 : Int32) (s1 : Nat) (s2 : Nat) : ww (mp_P fx) d 5000 573 ls [.int s0, .ref s1, .ref s2] h Q ↔ ww (mp_P fx) d 5000 574 ls [.int 1, .int s0, .ref s1, .ref s2] h Q := wr_iconst (i := 1) rfl
set_option maxRecDepth 20000 in
theorem q5000_574 (ls : mm_V) (s0 : Int32) (s1 : Int32) (s2 : Nat) (s3 : Nat) : ww (mp_P fx) d 5000 574 ls [.int s0, .int s1, .ref s2, .ref s3] h Q ↔ ww (mp_P fx) d 5000 575 ls [.int (s1 + s0), .ref s2, .ref s3] h Q := wr_iadd rfl
set_option maxRecDepth 20000 in
theorem q5000_575 (ls : mm_V) (s0 : Int32) (s1 : Nat) (s2 : Nat) : ww (mp_P fx) d 5000 575 ls [.int s0, .ref s1, .ref s2] h Q ↔ ∃ x, mm_gI h s1 0 9 s0 = some x ∧ ww (mp_P fx) d 5000 576 ls [.int x, .ref s2] h Q := wr_iaload rfl
set_option maxRecDepth 20000 in
theorem q5000_576 (ls : mm_V) (s0 : Int32) (s1 : Nat) (hc : mm_cls h s1 = 9) : ww (mp_P fx) (d + 1) 5000 576 ls [.int s0, .ref s1] h Q ↔ wm (mp_P fx) d 146 [.ref s1, .int s0] h (fun r h' => ww (mp_P fx) (d + 1) 5000 579 ls (r.toList ++ []) h' Q) := wr_virtual rfl (mm_recv_ok (n := 1) (rc := 9) ⟨rfl, rfl⟩ rfl hc (by decide)) rfl
set_option maxRecDepth 20000 in
theorem q5000_579 (l0 : Option Value) (l1 : Option Value) (l3 : Option Value) (l4 : Option Value) (l5 : Option Value) (l6 : Option Value) (x : Nat) (s0 : Int32) : ww (mp_P fx) d 5000 579 [l0, l1, some (.ref x), l3, l4, l5, l6] [.int s0] h Q ↔ ww (mp_P fx) d 5000 580 [l0, l1, some (.ref x), l3, l4, l5, l6] [.ref x, .int s0] h Q := ww_step rfl
set_option maxRecDepth 20000 in
theorem q5000_580 (l1 : Option Value) (l2 : Option Value) (l3 : Option Value) (l4 : Option Value) (l5 : Option Value) (l6 : Option Value) (x : Nat) (s0 : Nat) (s1 : Int32) : ww (mp_P fx) d 5000 580 [some (.ref x), l1, l2, l3, l4, l5, l6] [.ref s0, .int s1] h Q ↔ ww (mp_P fx) d 5000 581 [some (.ref x), l1, l2, l3, l4, l5, l6] [.ref x, .ref s0, .int s1] h Q := ww_step rfl
set_option maxRecDepth 20000 in
theorem q5000_581 (l0 : Option Value) (l1 : Option Value) (l2 : Option Value) (l3 : Option Value) (l5 : Option Value) (l6 : Option Value) (x : Int32) (s0 : Nat) (s1 : Nat) (s2 : Int32) : ww (mp_P fx) d 5000 581 [l0, l1, l2, l3, some (.int x), l5, l6] [.ref s0, .ref s1, .int s2] h Q ↔ ww (mp_P fx) d 5000 583 [l0, l1, l2, l3, some (.int x), l5, l6] [.int x, .ref s0, .ref s1, .int s2] h Q := ww_step rfl
set_option maxRecDepth 20000 in
theorem q5000_583 (ls : mm_V) (s0 : Int32) (s1 : Nat) (s2 : Nat) (s3 : Int32) : ww (mp_P fx) d 5000 583 ls [.int s0, .ref s1, .ref s2, .int s3] h Q ↔ ww (mp_P fx) d 5000 584 ls [.int 1, .int s0, .ref s1, .ref s2, .int s3] h Q := wr_iconst (i := 1) rfl
set_option maxRecDepth 20000 in
theorem q5000_584 (ls : mm_V) (s0 : Int32) (s1 : Int32) (s2 : Nat) (s3 : Nat) (s4 : Int32) : ww (mp_P fx) d 5000 584 ls [.int s0, .int s1, .ref s2, .ref s3, .int s4] h Q ↔ ww (mp_P fx) d 5000 585 ls [.int (s1 + s0), .ref s2, .ref s3, .int s4] h Q := wr_iadd rfl
set_option maxRecDepth 20000 in
theorem q5000_585 (ls : mm_V) (s0 : Int32) (s1 : Nat) (s2 : Nat) (s3 : Int32) : ww (mp_P fx) d 5000 585 ls [.int s0, .ref s1, .ref s2, .int s3] h Q ↔ ∃ x, mm_gI h s1 0 9 s0 = some x ∧ ww (mp_P fx) d 5000 586 ls [.int x, .ref s2, .int s3] h Q := wr_iaload rfl
set_option maxRecDepth 20000 in
theorem q5000_586 (ls : mm_V) (s0 : Int32) (s1 : Nat) (s2 : Int32) (hc : mm_cls h s1 = 10) : ww (mp_P fx) (d + 1) 5000 586 ls [.int s0, .ref s1, .int s2] h Q ↔ wm (mp_P fx) d 286 [.ref s1, .int s0] h (fun r h' => ww (mp_P fx) (d + 1) 5000 589 ls (r.toList ++ [.int s2]) h' Q) := wr_virtual rfl (mm_recv_ok (n := 1) (rc := 10) ⟨rfl, rfl⟩ rfl hc (by decide)) rfl
set_option maxRecDepth 20000 in
theorem q5000_589 (ls : mm_V) (s0 : Int32) (s1 : Int32) : ww (mp_P fx) d 5000 589 ls [.int s0, .int s1] h Q ↔ (if s1 = s0 then ww (mp_P fx) d 5000 1331 ls [] h Q else ww (mp_P fx) d 5000 592 ls [] h Q) := wr_icmp_eq (t := 1331) rfl
set_option maxRecDepth 20000 in
theorem q5000_592 (ls : mm_V) : ww (mp_P fx) d 5000 592 ls [] h Q ↔ ww (mp_P fx) d 5000 593 ls [.int 0] h Q := wr_iconst (i := 0) rfl
set_option maxRecDepth 20000 in
theorem q5000_593 (ls : mm_V) (s0 : Int32) (hb : mm_ret (mp_sig 5000).2.2.2 (.int s0) = true) : ww (mp_P fx) d 5000 593 ls [.int s0] h Q ↔ Q (some (.int s0)) h := wr_ireturn rfl hb
set_option maxRecDepth 20000 in
theorem q5000_594 (l0 : Option Value) (l2 : Option Value) (l3 : Option Value) (l4 : Option Value) (l5 : Option Value) (l6 : Option Value) (x : Nat) : ww (mp_P fx) d 5000 594 [l0, some (.ref x), l2, l3, l4, l5, l6] [] h Q ↔ ww (mp_P fx) d 5000 595 [l0, some (.ref x), l2, l3, l4, l5, l6] [.ref x] h Q := ww_step rfl
set_option maxRecDepth 20000 in
theorem q5000_595 (ls : mm_V) (s0 : Nat) (hc : mm_cls h s0 = 9) : ww (mp_P fx) (d + 1) 5000 595 ls [.ref s0] h Q ↔ wm (mp_P fx) d 148 [.ref s0] h (fun r h' => ww (mp_P fx) (d + 1) 5000 598 ls (r.toList ++ []) h' Q) := wr_virtual rfl (mm_recv_ok (n := 0) (rc := 9) ⟨rfl, rfl⟩ rfl hc (by decide)) rfl
set_option maxRecDepth 20000 in
theorem q5000_598 (l0 : Option Value) (l1 : Option Value) (l3 : Option Value) (l4 : Option Value) (l5 : Option Value) (l6 : Option Value) (x : Nat) (s0 : Int32) : ww (mp_P fx) d 5000 598 [l0, l1, some (.ref x), l3, l4, l5, l6] [.int s0] h Q ↔ ww (mp_P fx) d 5000 599 [l0, l1, some (.ref x), l3, l4, l5, l6] [.ref x, .int s0] h Q := ww_step rfl
set_option maxRecDepth 20000 in
theorem q5000_599 (ls : mm_V) (s0 : Nat) (s1 : Int32) (hc : mm_cls h s0 = 10) : ww (mp_P fx) (d + 1) 5000 599 ls [.ref s0, .int s1] h Q ↔ wm (mp_P fx) d 288 [.ref s0] h (fun r h' => ww (mp_P fx) (d + 1) 5000 602 ls (r.toList ++ [.int s1]) h' Q) := wr_virtual rfl (mm_recv_ok (n := 0) (rc := 10) ⟨rfl, rfl⟩ rfl hc (by decide)) rfl
set_option maxRecDepth 20000 in
theorem q5000_602 (ls : mm_V) (s0 : Int32) (s1 : Int32) : ww (mp_P fx) d 5000 602 ls [.int s0, .int s1] h Q ↔ (if s1 = s0 then ww (mp_P fx) d 5000 1331 ls [] h Q else ww (mp_P fx) d 5000 605 ls [] h Q) := wr_icmp_eq (t := 1331) rfl
set_option maxRecDepth 20000 in
theorem q5000_605 (ls : mm_V) : ww (mp_P fx) d 5000 605 ls [] h Q ↔ ww (mp_P fx) d 5000 606 ls [.int 0] h Q := wr_iconst (i := 0) rfl
set_option maxRecDepth 20000 in
theorem q5000_606 (ls : mm_V) (s0 : Int32) (hb : mm_ret (mp_sig 5000).2.2.2 (.int s0) = true) : ww (mp_P fx) d 5000 606 ls [.int s0] h Q ↔ Q (some (.int s0)) h := wr_ireturn rfl hb
set_option maxRecDepth 20000 in
theorem q5000_607 (l0 : Option Value) (l2 : Option Value) (l3 : Option Value) (l4 : Option Value) (l5 : Option Value) (l6 : Option Value) (x : Nat) : ww (mp_P fx) d 5000 607 [l0, some (.ref x), l2, l3, l4, l5, l6] [] h Q ↔ ww (mp_P fx) d 5000 608 [l0, some (.ref x), l2, l3, l4, l5, l6] [.ref x] h Q := ww_step rfl
set_option maxRecDepth 20000 in
theorem q5000_608 (l1 : Option Value) (l2 : Option Value) (l3 : Option Value) (l4 : Option Value) (l5 : Option Value) (l6 : Option Value) (x : Nat) (s0 : Nat) : ww (mp_P fx) d 5000 608 [some (.ref x), l1, l2, l3, l4, l5, l6] [.ref s0] h Q ↔ ww (mp_P fx) d 5000 609 [some (.ref x), l1, l2, l3, l4, l5, l6] [.ref x, .ref s0] h Q := ww_step rfl
set_option maxRecDepth 20000 in
theorem q5000_609 (l0 : Option Value) (l1 : Option Value) (l2 : Option Value) (l3 : Option Value) (l5 : Option Value) (l6 : Option Value) (x : Int32) (s0 : Nat) (s1 : Nat) : ww (mp_P fx) d 5000 609 [l0, l1, l2, l3, some (.int x), l5, l6] [.ref s0, .ref s1] h Q ↔ ww (mp_P fx) d 5000 611 [l0, l1, l2, l3, some (.int x), l5, l6] [.int x, .ref s0, .ref s1] h Q := ww_step rfl
set_option maxRecDepth 20000 in
theorem q5000_611 (ls : mm_V) (s0 : Int32) (s1 : Nat) (s2 : Nat) : ww (mp_P fx) d 5000 611 ls [.int s0, .ref s1, .ref s2] h Q ↔ ww (mp_P fx) d 5000 612 ls [.int 1, .int s0, .ref s1, .ref s2] h Q := wr_iconst (i := 1) rfl
set_option maxRecDepth 20000 in
theorem q5000_612 (ls : mm_V) (s0 : Int32) (s1 : Int32) (s2 : Nat) (s3 : Nat) : ww (mp_P fx) d 5000 612 ls [.int s0, .int s1, .ref s2, .ref s3] h Q ↔ ww (mp_P fx) d 5000 613 ls [.int (s1 + s0), .ref s2, .ref s3] h Q := wr_iadd rfl
set_option maxRecDepth 20000 in
theorem q5000_613 (ls : mm_V) (s0 : Int32) (s1 : Nat) (s2 : Nat) : ww (mp_P fx) d 5000 613 ls [.int s0, .ref s1, .ref s2] h Q ↔ ∃ x, mm_gI h s1 0 9 s0 = some x ∧ ww (mp_P fx) d 5000 614 ls [.int x, .ref s2] h Q := wr_iaload rfl
set_option maxRecDepth 20000 in
theorem q5000_614 (ls : mm_V) (s0 : Int32) (s1 : Nat) (hc : mm_cls h s1 = 9) : ww (mp_P fx) (d + 1) 5000 614 ls [.int s0, .ref s1] h Q ↔ wm (mp_P fx) d 149 [.ref s1, .int s0] h (fun r h' => ww (mp_P fx) (d + 1) 5000 617 ls (r.toList ++ []) h' Q) := wr_virtual rfl (mm_recv_ok (n := 1) (rc := 9) ⟨rfl, rfl⟩ rfl hc (by decide)) rfl
set_option maxRecDepth 20000 in
theorem q5000_617 (l0 : Option Value) (l1 : Option Value) (l3 : Option Value) (l4 : Option Value) (l5 : Option Value) (l6 : Option Value) (x : Nat) (s0 : Int32) : ww (mp_P fx) d 5000 617 [l0, l1, some (.ref x), l3, l4, l5, l6] [.int s0] h Q ↔ ww (mp_P fx) d 5000 618 [l0, l1, some (.ref x), l3, l4, l5, l6] [.ref x, .int s0] h Q := ww_step rfl
set_option maxRecDepth 20000 in
theorem q5000_618 (l1 : Option Value) (l2 : Option Value) (l3 : Option Value) (l4 : Option Value) (l5 : Option Value) (l6 : Option Value) (x : Nat) (s0 : Nat) (s1 : Int32) : ww (mp_P fx) d 5000 618 [some (.ref x), l1, l2, l3, l4, l5, l6] [.ref s0, .int s1] h Q ↔ ww (mp_P fx) d 5000 619 [some (.ref x), l1, l2, l3, l4, l5, l6] [.ref x, .ref s0, .int s1] h Q := ww_step rfl
set_option maxRecDepth 20000 in
theorem q5000_619 (l0 : Option Value) (l1 : Option Value) (l2 : Option Value) (l3 : Option Value) (l5 : Option Value) (l6 : Option Value) (x : Int32) (s0 : Nat) (s1 : Nat) (s2 : Int32) : ww (mp_P fx) d 5000 619 [l0, l1, l2, l3, some (.int x), l5, l6] [.ref s0, .ref s1, .int s2] h Q ↔ ww (mp_P fx) d 5000 621 [l0, l1, l2, l3, some (.int x), l5, l6] [.int x, .ref s0, .ref s1, .int s2] h Q := ww_step rfl
set_option maxRecDepth 20000 in
theorem q5000_621 (ls : mm_V) (s0 : Int32) (s1 : Nat) (s2 : Nat) (s3 : Int32) : ww (mp_P fx) d 5000 621 ls [.int s0, .ref s1, .ref s2, .int s3] h Q ↔ ww (mp_P fx) d 5000 622 ls [.int 1, .int s0, .ref s1, .ref s2, .int s3] h Q := wr_iconst (i := 1) rfl
set_option maxRecDepth 20000 in
theorem q5000_622 (ls : mm_V) (s0 : Int32) (s1 : Int32) (s2 : Nat) (s3 : Nat) (s4 : Int32) : ww (mp_P fx) d 5000 622 ls [.int s0, .int s1, .ref s2, .ref s3, .int s4] h Q ↔ ww (mp_P fx) d 5000 623 ls [.int (s1 + s0), .ref s2, .ref s3, .int s4] h Q := wr_iadd rfl
set_option maxRecDepth 20000 in
theorem q5000_623 (ls : mm_V) (s0 : Int32) (s1 : Nat) (s2 : Nat) (s3 : Int32) : ww (mp_P fx) d 5000 623 ls [.int s0, .ref s1, .ref s2, .int s3] h Q ↔ ∃ x, mm_gI h s1 0 9 s0 = some x ∧ ww (mp_P fx) d 5000 624 ls [.int x, .ref s2, .int s3] h Q := wr_iaload rfl
set_option maxRecDepth 20000 in
theorem q5000_624 (ls : mm_V) (s0 : Int32) (s1 : Nat) (s2 : Int32) (hc : mm_cls h s1 = 10) : ww (mp_P fx) (d + 1) 5000 624 ls [.int s0, .ref s1, .int s2] h Q ↔ wm (mp_P fx) d 289 [.ref s1, .int s0] h (fun r h' => ww (mp_P fx) (d + 1) 5000 627 ls (r.toList ++ [.int s2]) h' Q) := wr_virtual rfl (mm_recv_ok (n := 1) (rc := 10) ⟨rfl, rfl⟩ rfl hc (by decide)) rfl
set_option maxRecDepth 20000 in
theorem q5000_627 (ls : mm_V) (s0 : Int32) (s1 : Int32) : ww (mp_P fx) d 5000 627 ls [.int s0, .int s1] h Q ↔ (if s1 = s0 then ww (mp_P fx) d 5000 1331 ls [] h Q else ww (mp_P fx) d 5000 630 ls [] h Q) := wr_icmp_eq (t := 1331) rfl
set_option maxRecDepth 20000 in
theorem q5000_630 (ls : mm_V) : ww (mp_P fx) d 5000 630 ls [] h Q ↔ ww (mp_P fx) d 5000 631 ls [.int 0] h Q := wr_iconst (i := 0) rfl
set_option maxRecDepth 20000 in
theorem q5000_631 (ls : mm_V) (s0 : Int32) (hb : mm_ret (mp_sig 5000).2.2.2 (.int s0) = true) : ww (mp_P fx) d 5000 631 ls [.int s0] h Q ↔ Q (some (.int s0)) h := wr_ireturn rfl hb
set_option maxRecDepth 20000 in
theorem q5000_632 (l0 : Option Value) (l2 : Option Value) (l3 : Option Value) (l4 : Option Value) (l5 : Option Value) (l6 : Option Value) (x : Nat) : ww (mp_P fx) d 5000 632 [l0, some (.ref x), l2, l3, l4, l5, l6] [] h Q ↔ ww (mp_P fx) d 5000 633 [l0, some (.ref x), l2, l3, l4, l5, l6] [.ref x] h Q := ww_step rfl
set_option maxRecDepth 20000 in
theorem q5000_633 (l1 : Option Value) (l2 : Option Value) (l3 : Option Value) (l4 : Option Value) (l5 : Option Value) (l6 : Option Value) (x : Nat) (s0 : Nat) : ww (mp_P fx) d 5000 633 [some (.ref x), l1, l2, l3, l4, l5, l6] [.ref s0] h Q ↔ ww (mp_P fx) d 5000 634 [some (.ref x), l1, l2, l3, l4, l5, l6] [.ref x, .ref s0] h Q := ww_step rfl
set_option maxRecDepth 20000 in
theorem q5000_634 (l0 : Option Value) (l1 : Option Value) (l2 : Option Value) (l3 : Option Value) (l5 : Option Value) (l6 : Option Value) (x : Int32) (s0 : Nat) (s1 : Nat) : ww (mp_P fx) d 5000 634 [l0, l1, l2, l3, some (.int x), l5, l6] [.ref s0, .ref s1] h Q ↔ ww (mp_P fx) d 5000 636 [l0, l1, l2, l3, some (.int x), l5, l6] [.int x, .ref s0, .ref s1] h Q := ww_step rfl
set_option maxRecDepth 20000 in
theorem q5000_636 (ls : mm_V) (s0 : Int32) (s1 : Nat) (s2 : Nat) : ww (mp_P fx) d 5000 636 ls [.int s0, .ref s1, .ref s2] h Q ↔ ww (mp_P fx) d 5000 637 ls [.int 1, .int s0, .ref s1, .ref s2] h Q := wr_iconst (i := 1) rfl
set_option maxRecDepth 20000 in
theorem q5000_637 (ls : mm_V) (s0 : Int32) (s1 : Int32) (s2 : Nat) (s3 : Nat) : ww (mp_P fx) d 5000 637 ls [.int s0, .int s1, .ref s2, .ref s3] h Q ↔ ww (mp_P fx) d 5000 638 ls [.int (s1 + s0), .ref s2, .ref s3] h Q := wr_iadd rfl
set_option maxRecDepth 20000 in
theorem q5000_638 (ls : mm_V) (s0 : Int32) (s1 : Nat) (s2 : Nat) : ww (mp_P fx) d 5000 638 ls [.int s0, .ref s1, .ref s2] h Q ↔ ∃ x, mm_gI h s1 0 9 s0 = some x ∧ ww (mp_P fx) d 5000 639 ls [.int x, .ref s2] h Q := wr_iaload rfl
set_option maxRecDepth 20000 in
theorem q5000_639 (l1 : Option Value) (l2 : Option Value) (l3 : Option Value) (l4 : Option Value) (l5 : Option Value) (l6 : Option Value) (x : Nat) (s0 : Int32) (s1 : Nat) : ww (mp_P fx) d 5000 639 [some (.ref x), l1, l2, l3, l4, l5, l6] [.int s0, .ref s1] h Q ↔ ww (mp_P fx) d 5000 640 [some (.ref x), l1, l2, l3, l4, l5, l6] [.ref x, .int s0, .ref s1] h Q := ww_step rfl
set_option maxRecDepth 20000 in
theorem q5000_640 (l0 : Option Value) (l1 : Option Value) (l2 : Option Value) (l3 : Option Value) (l5 : Option Value) (l6 : Option Value) (x : Int32) (s0 : Nat) (s1 : Int32) (s2 : Nat) : ww (mp_P fx) d 5000 640 [l0, l1, l2, l3, some (.int x), l5, l6] [.ref s0, .int s1, .ref s2] h Q ↔ ww (mp_P fx) d 5000 642 [l0, l1, l2, l3, some (.int x), l5, l6] [.int x, .ref s0, .int s1, .ref s2] h Q := ww_step rfl
set_option maxRecDepth 20000 in
theorem q5000_642 (ls : mm_V) (s0 : Int32) (s1 : Nat) (s2 : Int32) (s3 : Nat) : ww (mp_P fx) d 5000 642 ls [.int s0, .ref s1, .int s2, .ref s3] h Q ↔ ww (mp_P fx) d 5000 643 ls [.int 2, .int s0, .ref s1, .int s2, .ref s3] h Q := wr_iconst (i := 2) rfl
set_option maxRecDepth 20000 in
theorem q5000_643 (ls : mm_V) (s0 : Int32) (s1 : Int32) (s2 : Nat) (s3 : Int32) (s4 : Nat) : ww (mp_P fx) d 5000 643 ls [.int s0, .int s1, .ref s2, .int s3, .ref s4] h Q ↔ ww (mp_P fx) d 5000 644 ls [.int (s1 + s0), .ref s2, .int s3, .ref s4] h Q := wr_iadd rfl
set_option maxRecDepth 20000 in
theorem q5000_644 (ls : mm_V) (s0 : Int32) (s1 : Nat) (s2 : Int32) (s3 : Nat) : ww (mp_P fx) d 5000 644 ls [.int s0, .ref s1, .int s2, .ref s3] h Q ↔ ∃ x, mm_gI h s1 0 9 s0 = some x ∧ ww (mp_P fx) d 5000 645 ls [.int x, .int s2, .ref s3] h Q := wr_iaload rfl
set_option maxRecDepth 20000 in
theorem q5000_645 (l1 : Option Value) (l2 : Option Value) (l3 : Option Value) (l4 : Option Value) (l5 : Option Value) (l6 : Option Value) (x : Nat) (s0 : Int32) (s1 : Int32) (s2 : Nat) : ww (mp_P fx) d 5000 645 [some (.ref x), l1, l2, l3, l4, l5, l6] [.int s0, .int s1, .ref s2] h Q ↔ ww (mp_P fx) d 5000 646 [some (.ref x), l1, l2, l3, l4, l5, l6] [.ref x, .int s0, .int s1, .ref s2] h Q := ww_step rfl
set_option maxRecDepth 20000 in
theorem q5000_646 (l0 : Option Value) (l1 : Option Value) (l2 : Option Value) (l3 : Option Value) (l5 : Option Value) (l6 : Option Value) (x : Int32) (s0 : Nat) (s1 : Int32) (s2 : Int32) (s3 : Nat) : ww (mp_P fx) d 5000 646 [l0, l1, l2, l3, some (.int x), l5, l6] [.ref s0, .int s1, .int s2, .ref s3] h Q ↔ ww (mp_P fx) d 5000 648 [l0, l1, l2, l3, some (.int x), l5, l6] [.int x, .ref s0, .int s1, .int s2, .ref s3] h Q := ww_step rfl
set_option maxRecDepth 20000 in
theorem q5000_648 (ls : mm_V) (s0 : Int32) (s1 : Nat) (s2 : Int32) (s3 : Int32) (s4 : Nat) : ww (mp_P fx) d 5000 648 ls [.int s0, .ref s1, .int s2, .int s3, .ref s4] h Q ↔ ww (mp_P fx) d 5000 649 ls [.int 3, .int s0, .ref s1, .int s2, .int s3, .ref s4] h Q := wr_iconst (i := 3) rfl
set_option maxRecDepth 20000 in
theorem q5000_649 (ls : mm_V) (s0 : Int32) (s1 : Int32) (s2 : Nat) (s3 : Int32) (s4 : Int32) (s5 : Nat) : ww (mp_P fx) d 5000 649 ls [.int s0, .int s1, .ref s2, .int s3, .int s4, .ref s5] h Q ↔ ww (mp_P fx) d 5000 650 ls [.int (s1 + s0), .ref s2, .int s3, .int s4, .ref s5] h Q := wr_iadd rfl
set_option maxRecDepth 20000 in
theorem q5000_650 (ls : mm_V) (s0 : Int32) (s1 : Nat) (s2 : Int32) (s3 : Int32) (s4 : Nat) : ww (mp_P fx) d 5000 650 ls [.int s0, .ref s1, .int s2, .int s3, .ref s4] h Q ↔ ∃ x, mm_gI h s1 0 9 s0 = some x ∧ ww (mp_P fx) d 5000 651 ls [.int x, .int s2, .int s3, .ref s4] h Q := wr_iaload rfl
set_option maxRecDepth 20000 in
theorem q5000_651 (ls : mm_V) (s0 : Int32) (s1 : Int32) (s2 : Int32) (s3 : Nat) (hc : mm_cls h s3 = 9) : ww (mp_P fx) (d + 1) 5000 651 ls [.int s0, .int s1, .int s2, .ref s3] h Q ↔ wm (mp_P fx) d 151 [.ref s3, .int s2, .int s1, .int s0] h (fun r h' => ww (mp_P fx) (d + 1) 5000 654 ls (r.toList ++ []) h' Q) := wr_virtual rfl (mm_recv_ok (n := 3) (rc := 9) ⟨rfl, rfl⟩ rfl hc (by decide)) rfl
set_option maxRecDepth 20000 in
theorem q5000_654 (l0 : Option Value) (l1 : Option Value) (l3 : Option Value) (l4 : Option Value) (l5 : Option Value) (l6 : Option Value) (x : Nat) (s0 : Int32) : ww (mp_P fx) d 5000 654 [l0, l1, some (.ref x), l3, l4, l5, l6] [.int s0] h Q ↔ ww (mp_P fx) d 5000 655 [l0, l1, some (.ref x), l3, l4, l5, l6] [.ref x, .int s0] h Q := ww_step rfl
set_option maxRecDepth 20000 in
theorem q5000_655 (l1 : Option Value) (l2 : Option Value) (l3 : Option Value) (l4 : Option Value) (l5 : Option Value) (l6 : Option Value) (x : Nat) (s0 : Nat) (s1 : Int32) : ww (mp_P fx) d 5000 655 [some (.ref x), l1, l2, l3, l4, l5, l6] [.ref s0, .int s1] h Q ↔ ww (mp_P fx) d 5000 656 [some (.ref x), l1, l2, l3, l4, l5, l6] [.ref x, .ref s0, .int s1] h Q := ww_step rfl
set_option maxRecDepth 20000 in
theorem q5000_656 (l0 : Option Value) (l1 : Option Value) (l2 : Option Value) (l3 : Option Value) (l5 : Option Value) (l6 : Option Value) (x : Int32) (s0 : Nat) (s1 : Nat) (s2 : Int32) : ww (mp_P fx) d 5000 656 [l0, l1, l2, l3, some (.int x), l5, l6] [.ref s0, .ref s1, .int s2] h Q ↔ ww (mp_P fx) d 5000 658 [l0, l1, l2, l3, some (.int x), l5, l6] [.int x, .ref s0, .ref s1, .int s2] h Q := ww_step rfl
set_option maxRecDepth 20000 in
theorem q5000_658 (ls : mm_V) (s0 : Int32) (s1 : Nat) (s2 : Nat) (s3 : Int32) : ww (mp_P fx) d 5000 658 ls [.int s0, .ref s1, .ref s2, .int s3] h Q ↔ ww (mp_P fx) d 5000 659 ls [.int 1, .int s0, .ref s1, .ref s2, .int s3] h Q := wr_iconst (i := 1) rfl
set_option maxRecDepth 20000 in
theorem q5000_659 (ls : mm_V) (s0 : Int32) (s1 : Int32) (s2 : Nat) (s3 : Nat) (s4 : Int32) : ww (mp_P fx) d 5000 659 ls [.int s0, .int s1, .ref s2, .ref s3, .int s4] h Q ↔ ww (mp_P fx) d 5000 660 ls [.int (s1 + s0), .ref s2, .ref s3, .int s4] h Q := wr_iadd rfl
set_option maxRecDepth 20000 in
theorem q5000_660 (ls : mm_V) (s0 : Int32) (s1 : Nat) (s2 : Nat) (s3 : Int32) : ww (mp_P fx) d 5000 660 ls [.int s0, .ref s1, .ref s2, .int s3] h Q ↔ ∃ x, mm_gI h s1 0 9 s0 = some x ∧ ww (mp_P fx) d 5000 661 ls [.int x, .ref s2, .int s3] h Q := wr_iaload rfl
set_option maxRecDepth 20000 in
theorem q5000_661 (l1 : Option Value) (l2 : Option Value) (l3 : Option Value) (l4 : Option Value) (l5 : Option Value) (l6 : Option Value) (x : Nat) (s0 : Int32) (s1 : Nat) (s2 : Int32) : ww (mp_P fx) d 5000 661 [some (.ref x), l1, l2, l3, l4, l5, l6] [.int s0, .ref s1, .int s2] h Q ↔ ww (mp_P fx) d 5000 662 [some (.ref x), l1, l2, l3, l4, l5, l6] [.ref x, .int s0, .ref s1, .int s2] h Q := ww_step rfl
set_option maxRecDepth 20000 in
theorem q5000_662 (l0 : Option Value) (l1 : Option Value) (l2 : Option Value) (l3 : Option Value) (l5 : Option Value) (l6 : Option Value) (x : Int32) (s0 : Nat) (s1 : Int32) (s2 : Nat) (s3 : Int32) : ww (mp_P fx) d 5000 662 [l0, l1, l2, l3, some (.int x), l5, l6] [.ref s0, .int s1, .ref s2, .int s3] h Q ↔ ww (mp_P fx) d 5000 664 [l0, l1, l2, l3, some (.int x), l5, l6] [.int x, .ref s0, .int s1, .ref s2, .int s3] h Q := ww_step rfl
set_option maxRecDepth 20000 in
theorem q5000_664 (ls : mm_V) (s0 : Int32) (s1 : Nat) (s2 : Int32) (s3 : Nat) (s4 : Int32) : ww (mp_P fx) d 5000 664 ls [.int s0, .ref s1, .int s2, .ref s3, .int s4] h Q ↔ ww (mp_P fx) d 5000 665 ls [.int 2, .int s0, .ref s1, .int s2, .ref s3, .int s4] h Q := wr_iconst (i := 2) rfl
set_option maxRecDepth 20000 in
theorem q5000_665 (ls : mm_V) (s0 : Int32) (s1 : Int32) (s2 : Nat) (s3 : Int32) (s4 : Nat) (s5 : Int32) : ww (mp_P fx) d 5000 665 ls [.int s0, .int s1, .ref s2, .int s3, .ref s4, .int s5] h Q ↔ ww (mp_P fx) d 5000 666 ls [.int (s1 + s0), .ref s2, .int s3, .ref s4, .int s5] h Q := wr_iadd rfl
set_option maxRecDepth 20000 in
theorem q5000_666 (ls : mm_V) (s0 : Int32) (s1 : Nat) (s2 : Int32) (s3 : Nat) (s4 : Int32) : ww (mp_P fx) d 5000 666 ls [.int s0, .ref s1, .int s2, .ref s3, .int s4] h Q ↔ ∃ x, mm_gI h s1 0 9 s0 = some x ∧ ww (mp_P fx) d 5000 667 ls [.int x, .int s2, .ref s3, .int s4] h Q := wr_iaload rfl
set_option maxRecDepth 20000 in
theorem q5000_667 (l1 : Option Value) (l2 : Option Value) (l3 : Option Value) (l4 : Option Value) (l5 : Option Value) (l6 : Option Value) (x : Nat) (s0 : Int32) (s1 : Int32) (s2 : Nat) (s3 : Int32) : ww (mp_P fx) d 5000 667 [some (.ref x), l1, l2, l3, l4, l5, l6] [.int s0, .int s1, .ref s2, .int s3] h Q ↔ ww (mp_P fx) d 5000 668 [some (.ref x), l1, l2, l3, l4, l5, l6] [.ref x, .int s0, .int s1, .ref s2, .int s3] h Q := ww_step rfl
set_option maxRecDepth 20000 in
theorem q5000_668 (l0 : Option Value) (l1 : Option Value) (l2 : Option Value) (l3 : Option Value) (l5 : Option Value) (l6 : Option Value) (x : Int32) (s0 : Nat) (s1 : Int32) (s2 : Int32) (s3 : Nat) (s4 : Int32) : ww (mp_P fx) d 5000 668 [l0, l1, l2, l3, some (.int x), l5, l6] [.ref s0, .int s1, .int s2, .ref s3, .int s4] h Q ↔ ww (mp_P fx) d 5000 670 [l0, l1, l2, l3, some (.int x), l5, l6] [.int x, .ref s0, .int s1, .int s2, .ref s3, .int s4] h Q := ww_step rfl
set_option maxRecDepth 20000 in
theorem q5000_670 (ls : mm_V) (s0 : Int32) (s1 : Nat) (s2 : Int32) (s3 : Int32) (s4 : Nat) (s5 : Int32) : ww (mp_P fx) d 5000 670 ls [.int s0, .ref s1, .int s2, .int s3, .ref s4, .int s5] h Q ↔ ww (mp_P fx) d 5000 671 ls [.int 3, .int s0, .ref s1, .int s2, .int s3, .ref s4, .int s5] h Q := wr_iconst (i := 3) rfl
set_option maxRecDepth 20000 in
theorem q5000_671 (ls : mm_V) (s0 : Int32) (s1 : Int32) (s2 : Nat) (s3 : Int32) (s4 : Int32) (s5 : Nat) (s6 : Int32) : ww (mp_P fx) d 5000 671 ls [.int s0, .int s1, .ref s2, .int s3, .int s4, .ref s5, .int s6] h Q ↔ ww (mp_P fx) d 5000 672 ls [.int (s1 + s0), .ref s2, .int s3, .int s4, .ref s5, .int s6] h Q := wr_iadd rfl
set_option maxRecDepth 20000 in
theorem q5000_672 (ls : mm_V) (s0 : Int32) (s1 : Nat) (s2 : Int32) (s3 : Int32) (s4 : Nat) (s5 : Int32) : ww (mp_P fx) d 5000 672 ls [.int s0, .ref s1, .int s2, .int s3, .ref s4, .int s5] h Q ↔ ∃ x, mm_gI h s1 0 9 s0 = some x ∧ ww (mp_P fx) d 5000 673 ls [.int x, .int s2, .int s3, .ref s4, .int s5] h Q := wr_iaload rfl
set_option maxRecDepth 20000 in
theorem q5000_673 (ls : mm_V) (s0 : Int32) (s1 : Int32) (s2 : Int32) (s3 : Nat) (s4 : Int32) (hc : mm_cls h s3 = 10) : ww (mp_P fx) (d + 1) 5000 673 ls [.int s0, .int s1, .int s2, .ref s3, .int s4] h Q ↔ wm (mp_P fx) d 291 [.ref s3, .int s2, .int s1, .int s0] h (fun r h' => ww (mp_P fx) (d + 1) 5000 676 ls (r.toList ++ [.int s4]) h' Q) := wr_virtual rfl (mm_recv_ok (n := 3) (rc := 10) ⟨rfl, rfl⟩ rfl hc (by decide)) rfl
set_option maxRecDepth 20000 in
theorem q5000_676 (ls : mm_V) (s0 : Int32) (s1 : Int32) : ww (mp_P fx) d 5000 676 ls [.int s0, .int s1] h Q ↔ (if s1 = s0 then ww (mp_P fx) d 5000 1331 ls [] h Q else ww (mp_P fx) d 5000 679 ls [] h Q) := wr_icmp_eq (t := 1331) rfl
set_option maxRecDepth 20000 in
theorem q5000_679 (ls : mm_V) : ww (mp_P fx) d 5000 679 ls [] h Q ↔ ww (mp_P fx) d 5000 680 ls [.int 0] h Q := wr_iconst (i := 0) rfl
set_option maxRecDepth 20000 in
theorem q5000_680 (ls : mm_V) (s0 : Int32) (hb : mm_ret (mp_sig 5000).2.2.2 (.int s0) = true) : ww (mp_P fx) d 5000 680 ls [.int s0] h Q ↔ Q (some (.int s0)) h := wr_ireturn rfl hb
set_option maxRecDepth 20000 in
theorem q5000_681 (l0 : Option Value) (l2 : Option Value) (l3 : Option Value) (l4 : Option Value) (l5 : Option Value) (l6 : Option Value) (x : Nat) : ww (mp_P fx) d 5000 681 [l0, some (.ref x), l2, l3, l4, l5, l6] [] h Q ↔ ww (mp_P fx) d 5000 682 [l0, some (.ref x), l2, l3, l4, l5, l6] [.ref x] h Q := ww_step rfl
set_option maxRecDepth 20000 in
theorem q5000_682 (l1 : Option Value) (l2 : Option Value) (l3 : Option Value) (l4 : Option Value) (l5 : Option Value) (l6 : Option Value) (x : Nat) (s0 : Nat) : ww (mp_P fx) d 5000 682 [some (.ref x), l1, l2, l3, l4, l5, l6] [.ref s0] h Q ↔ ww (mp_P fx) d 5000 683 [some (.ref x), l1, l2, l3, l4, l5, l6] [.ref x, .ref s0] h Q := ww_step rfl
set_option maxRecDepth 20000 in
theorem q5000_683 (l0 : Option Value) (l1 : Option Value) (l2 : Option Value) (l3 : Option Value) (l5 : Option Value) (l6 : Option Value) (x : Int32) (s0 : Nat) (s1 : Nat) : ww (mp_P fx) d 5000 683 [l0, l1, l2, l3, some (.int x), l5, l6] [.ref s0, .ref s1] h Q ↔ ww (mp_P fx) d 5000 685 [l0, l1, l2, l3, some (.int x), l5, l6] [.int x, .ref s0, .ref s1] h Q := ww_step rfl
set_option maxRecDepth 20000 in
theorem q5000_685 (ls : mm_V) (s0 : Int32) (s1 : Nat) (s2 : Nat) : ww (mp_P fx) d 5000 685 ls [.int s0, .ref s1, .ref s2] h Q ↔ ww (mp_P fx) d 5000 686 ls [.int 1, .int s0, .ref s1, .ref s2] h Q := wr_iconst (i := 1) rfl
set_option maxRecDepth 20000 in
theorem q5000_686 (ls : mm_V) (s0 : Int32) (s1 : Int32) (s2 : Nat) (s3 : Nat) : ww (mp_P fx) d 5000 686 ls [.int s0, .int s1, .ref s2, .ref s3] h Q ↔ ww (mp_P fx) d 5000 687 ls [.int (s1 + s0), .ref s2, .ref s3] h Q := wr_iadd rfl
set_option maxRecDepth 20000 in
theorem q5000_687 (ls : mm_V) (s0 : Int32) (s1 : Nat) (s2 : Nat) : ww (mp_P fx) d 5000 687 ls [.int s0, .ref s1, .ref s2] h Q ↔ ∃ x, mm_gI h s1 0 9 s0 = some x ∧ ww (mp_P fx) d 5000 688 ls [.int x, .ref s2] h Q := wr_iaload rfl
set_option maxRecDepth 20000 in
theorem q5000_688 (ls : mm_V) (s0 : Int32) (s1 : Nat) (hc : mm_cls h s1 = 9) : ww (mp_P fx) (d + 1) 5000 688 ls [.int s0, .ref s1] h Q ↔ wm (mp_P fx) d 153 [.ref s1, .int s0] h (fun r h' => ww (mp_P fx) (d + 1) 5000 691 ls (r.toList ++ []) h' Q) := wr_virtual rfl (mm_recv_ok (n := 1) (rc := 9) ⟨rfl, rfl⟩ rfl hc (by decide)) rfl
set_option maxRecDepth 20000 in
theorem q5000_691 (l0 : Option Value) (l1 : Option Value) (l3 : Option Value) (l4 : Option Value) (l5 : Option Value) (l6 : Option Value) (x : Nat) (s0 : Int32) : ww (mp_P fx) d 5000 691 [l0, l1, some (.ref x), l3, l4, l5, l6] [.int s0] h Q ↔ ww (mp_P fx) d 5000 692 [l0, l1, some (.ref x), l3, l4, l5, l6] [.ref x, .int s0] h Q := ww_step rfl
set_option maxRecDepth 20000 in
theorem q5000_692 (l1 : Option Value) (l2 : Option Value) (l3 : Option Value) (l4 : Option Value) (l5 : Option Value) (l6 : Option Value) (x : Nat) (s0 : Nat) (s1 : Int32) : ww (mp_P fx) d 5000 692 [some (.ref x), l1, l2, l3, l4, l5, l6] [.ref s0, .int s1] h Q ↔ ww (mp_P fx) d 5000 693 [some (.ref x), l1, l2, l3, l4, l5, l6] [.ref x, .ref s0, .int s1] h Q := ww_step rfl
set_option maxRecDepth 20000 in
theorem q5000_693 (l0 : Option Value) (l1 : Option Value) (l2 : Option Value) (l3 : Option Value) (l5 : Option Value) (l6 : Option Value) (x : Int32) (s0 : Nat) (s1 : Nat) (s2 : Int32) : ww (mp_P fx) d 5000 693 [l0, l1, l2, l3, some (.int x), l5, l6] [.ref s0, .ref s1, .int s2] h Q ↔ ww (mp_P fx) d 5000 695 [l0, l1, l2, l3, some (.int x), l5, l6] [.int x, .ref s0, .ref s1, .int s2] h Q := ww_step rfl
set_option maxRecDepth 20000 in
theorem q5000_695 (ls : mm_V) (s0 : Int32) (s1 : Nat) (s2 : Nat) (s3 : Int32) : ww (mp_P fx) d 5000 695 ls [.int s0, .ref s1, .ref s2, .int s3] h Q ↔ ww (mp_P fx) d 5000 696 ls [.int 1, .int s0, .ref s1, .ref s2, .int s3] h Q := wr_iconst (i := 1) rfl
set_option maxRecDepth 20000 in
theorem q5000_696 (ls : mm_V) (s0 : Int32) (s1 : Int32) (s2 : Nat) (s3 : Nat) (s4 : Int32) : ww (mp_P fx) d 5000 696 ls [.int s0, .int s1, .ref s2, .ref s3, .int s4] h Q ↔ ww (mp_P fx) d 5000 697 ls [.int (s1 + s0), .ref s2, .ref s3, .int s4] h Q := wr_iadd rfl
set_option maxRecDepth 20000 in
theorem q5000_697 (ls : mm_V) (s0 : Int32) (s1 : Nat) (s2 : Nat) (s3 : Int32) : ww (mp_P fx) d 5000 697 ls [.int s0, .ref s1, .ref s2, .int s3] h Q ↔ ∃ x, mm_gI h s1 0 9 s0 = some x ∧ ww (mp_P fx) d 5000 698 ls [.int x, .ref s2, .int s3] h Q := wr_iaload rfl
set_option maxRecDepth 20000 in
theorem q5000_698 (ls : mm_V) (s0 : Int32) (s1 : Nat) (s2 : Int32) (hc : mm_cls h s1 = 10) : ww (mp_P fx) (d + 1) 5000 698 ls [.int s0, .ref s1, .int s2] h Q ↔ wm (mp_P fx) d 292 [.ref s1, .int s0] h (fun r h' => ww (mp_P fx) (d + 1) 5000 701 ls (r.toList ++ [.int s2]) h' Q) := wr_virtual rfl (mm_recv_ok (n := 1) (rc := 10) ⟨rfl, rfl⟩ rfl hc (by decide)) rfl
set_option maxRecDepth 20000 in
theorem q5000_701 (ls : mm_V) (s0 : Int32) (s1 : Int32) : ww (mp_P fx) d 5000 701 ls [.int s0, .int s1] h Q ↔ (if s1 = s0 then ww (mp_P fx) d 5000 1331 ls [] h Q else ww (mp_P fx) d 5000 704 ls [] h Q) := wr_icmp_eq (t := 1331) rfl
set_option maxRecDepth 20000 in
theorem q5000_704 (ls : mm_V) : ww (mp_P fx) d 5000 704 ls [] h Q ↔ ww (mp_P fx) d 5000 705 ls [.int 0] h Q := wr_iconst (i := 0) rfl
set_option maxRecDepth 20000 in
theorem q5000_705 (ls : mm_V) (s0 : Int32) (hb : mm_ret (mp_sig 5000).2.2.2 (.int s0) = true) : ww (mp_P fx) d 5000 705 ls [.int s0] h Q ↔ Q (some (.int s0)) h := wr_ireturn rfl hb
set_option maxRecDepth 20000 in
theorem q5000_706 (l0 : Option Value) (l2 : Option Value) (l3 : Option Value) (l4 : Option Value) (l5 : Option Value) (l6 : Option Value) (x : Nat) : ww (mp_P fx) d 5000 706 [l0, some (.ref x), l2, l3, l4, l5, l6] [] h Q ↔ ww (mp_P fx) d 5000 707 [l0, some (.ref x), l2, l3, l4, l5, l6] [.ref x] h Q := ww_step rfl
set_option maxRecDepth 20000 in
theorem q5000_707 (l1 : Option Value) (l2 : Option Value) (l3 : Option Value) (l4 : Option Value) (l5 : Option Value) (l6 : Option Value) (x : Nat) (s0 : Nat) : ww (mp_P fx) d 5000 707 [some (.ref x), l1, l2, l3, l4, l5, l6] [.ref s0] h Q ↔ ww (mp_P fx) d 5000 708 [some (.ref x), l1, l2, l3, l4, l5, l6] [.ref x, .ref s0] h Q := ww_step rfl
set_option maxRecDepth 20000 in
theorem q5000_708 (l0 : Option Value) (l1 : Option Value) (l2 : Option Value) (l3 : Option Value) (l5 : Option Value) (l6 : Option Value) (x : Int32) (s0 : Nat) (s1 : Nat) : ww (mp_P fx) d 5000 708 [l0, l1, l2, l3, some (.int x), l5, l6] [.ref s0, .ref s1] h Q ↔ ww (mp_P fx) d 5000 710 [l0, l1, l2, l3, some (.int x), l5, l6] [.int x, .ref s0, .ref s1] h Q := ww_step rfl
set_option maxRecDepth 20000 in
theorem q5000_710 (ls : mm_V) (s0 : Int32) (s1 : Nat) (s2 : Nat) : ww (mp_P fx) d 5000 710 ls [.int s0, .ref s1, .ref s2] h Q ↔ ww (mp_P fx) d 5000 711 ls [.int 1, .int s0, .ref s1, .ref s2] h Q := wr_iconst (i := 1) rfl
set_option maxRecDepth 20000 in
theorem q5000_711 (ls : mm_V) (s0 : Int32) (s1 : Int32) (s2 : Nat) (s3 : Nat) : ww (mp_P fx) d 5000 711 ls [.int s0, .int s1, .ref s2, .ref s3] h Q ↔ ww (mp_P fx) d 5000 712 ls [.int (s1 + s0), .ref s2, .ref s3] h Q := wr_iadd rfl
set_option maxRecDepth 20000 in
theorem q5000_712 (ls : mm_V) (s0 : Int32) (s1 : Nat) (s2 : Nat) : ww (mp_P fx) d 5000 712 ls [.int s0, .ref s1, .ref s2] h Q ↔ ∃ x, mm_gI h s1 0 9 s0 = some x ∧ ww (mp_P fx) d 5000 713 ls [.int x, .ref s2] h Q := wr_iaload rfl
set_option maxRecDepth 20000 in
theorem q5000_713 (l1 : Option Value) (l2 : Option Value) (l3 : Option Value) (l4 : Option Value) (l5 : Option Value) (l6 : Option Value) (x : Nat) (s0 : Int32) (s1 : Nat) : ww (mp_P fx) d 5000 713 [some (.ref x), l1, l2, l3, l4, l5, l6] [.int s0, .ref s1] h Q ↔ ww (mp_P fx) d 5000 714 [some (.ref x), l1, l2, l3, l4, l5, l6] [.ref x, .int s0, .ref s1] h Q := ww_step rfl
set_option maxRecDepth 20000 in
theorem q5000_714 (l0 : Option Value) (l1 : Option Value) (l2 : Option Value) (l3 : Option Value) (l5 : Option Value) (l6 : Option Value) (x : Int32) (s0 : Nat) (s1 : Int32) (s2 : Nat) : ww (mp_P fx) d 5000 714 [l0, l1, l2, l3, some (.int x), l5, l6] [.ref s0, .int s1, .ref s2] h Q ↔ ww (mp_P fx) d 5000 716 [l0, l1, l2, l3, some (.int x), l5, l6] [.int x, .ref s0, .int s1, .ref s2] h Q := ww_step rfl
set_option maxRecDepth 20000 in
theorem q5000_716 (ls : mm_V) (s0 : Int32) (s1 : Nat) (s2 : Int32) (s3 : Nat) : ww (mp_P fx) d 5000 716 ls [.int s0, .ref s1, .int s2, .ref s3] h Q ↔ ww (mp_P fx) d 5000 717 ls [.int 2, .int s0, .ref s1, .int s2, .ref s3] h Q := wr_iconst (i := 2) rfl
set_option maxRecDepth 20000 in
theorem q5000_717 (ls : mm_V) (s0 : Int32) (s1 : Int32) (s2 : Nat) (s3 : Int32) (s4 : Nat) : ww (mp_P fx) d 5000 717 ls [.int s0, .int s1, .ref s2, .int s3, .ref s4] h Q ↔ ww (mp_P fx) d 5000 718 ls [.int (s1 + s0), .ref s2, .int s3, .ref s4] h Q := wr_iadd rfl
set_option maxRecDepth 20000 in
theorem q5000_718 (ls : mm_V) (s0 : Int32) (s1 : Nat) (s2 : Int32) (s3 : Nat) : ww (mp_P fx) d 5000 718 ls [.int s0, .ref s1, .int s2, .ref s3] h Q ↔ ∃ x, mm_gI h s1 0 9 s0 = some x ∧ ww (mp_P fx) d 5000 719 ls [.int x, .int s2, .ref s3] h Q := wr_iaload rfl
set_option maxRecDepth 20000 in
theorem q5000_719 (ls : mm_V) (s0 : Int32) (s1 : Int32) (s2 : Nat) (hc : mm_cls h s2 = 9) : ww (mp_P fx) (d + 1) 5000 719 ls [.int s0, .int s1, .ref s2] h Q ↔ wm (mp_P fx) d 158 [.ref s2, .int s1, .int s0] h (fun r h' => ww (mp_P fx) (d + 1) 5000 722 ls (r.toList ++ []) h' Q) := wr_virtual rfl (mm_recv_ok (n := 2) (rc := 9) ⟨rfl, rfl⟩ rfl hc (by decide)) rfl
set_option maxRecDepth 20000 in
theorem q5000_722 (l0 : Option Value) (l1 : Option Value) (l3 : Option Value) (l4 : Option Value) (l5 : Option Value) (l6 : Option Value) (x : Nat) (s0 : Int32) : ww (mp_P fx) d 5000 722 [l0, l1, some (.ref x), l3, l4, l5, l6] [.int s0] h Q ↔ ww (mp_P fx) d 5000 723 [l0, l1, some (.ref x), l3, l4, l5, l6] [.ref x, .int s0] h Q := ww_step rfl
set_option maxRecDepth 20000 in
theorem q5000_723 (l1 : Option Value) (l2 : Option Value) (l3 : Option Value) (l4 : Option Value) (l5 : Option Value) (l6 : Option Value) (x : Nat) (s0 : Nat) (s1 : Int32) : ww (mp_P fx) d 5000 723 [some (.ref x), l1, l2, l3, l4, l5, l6] [.ref s0, .int s1] h Q ↔ ww (mp_P fx) d 5000 724 [some (.ref x), l1, l2, l3, l4, l5, l6] [.ref x, .ref s0, .int s1] h Q := ww_step rfl
set_option maxRecDepth 20000 in
theorem q5000_724 (l0 : Option Value) (l1 : Option Value) (l2 : Option Value) (l3 : Option Value) (l5 : Option Value) (l6 : Option Value) (x : Int32) (s0 : Nat) (s1 : Nat) (s2 : Int32) : ww (mp_P fx) d 5000 724 [l0, l1, l2, l3, some (.int x), l5, l6] [.ref s0, .ref s1, .int s2] h Q ↔ ww (mp_P fx) d 5000 726 [l0, l1, l2, l3, some (.int x), l5, l6] [.int x, .ref s0, .ref s1, .int s2] h Q := ww_step rfl
set_option maxRecDepth 20000 in
theorem q5000_726 (ls : mm_V) (s0 : Int32) (s1 : Nat) (s2 : Nat) (s3 : Int32) : ww (mp_P fx) d 5000 726 ls [.int s0, .ref s1, .ref s2, .int s3] h Q ↔ ww (mp_P fx) d 5000 727 ls [.int 1, .int s0, .ref s1, .ref s2, .int s3] h Q := wr_iconst (i := 1) rfl
set_option maxRecDepth 20000 in
theorem q5000_727 (ls : mm_V) (s0 : Int32) (s1 : Int32) (s2 : Nat) (s3 : Nat) (s4 : Int32) : ww (mp_P fx) d 5000 727 ls [.int s0, .int s1, .ref s2, .ref s3, .int s4] h Q ↔ ww (mp_P fx) d 5000 728 ls [.int (s1 + s0), .ref s2, .ref s3, .int s4] h Q := wr_iadd rfl
set_option maxRecDepth 20000 in
theorem q5000_728 (ls : mm_V) (s0 : Int32) (s1 : Nat) (s2 : Nat) (s3 : Int32) : ww (mp_P fx) d 5000 728 ls [.int s0, .ref s1, .ref s2, .int s3] h Q ↔ ∃ x, mm_gI h s1 0 9 s0 = some x ∧ ww (mp_P fx) d 5000 729 ls [.int x, .ref s2, .int s3] h Q := wr_iaload rfl
set_option maxRecDepth 20000 in
theorem q5000_729 (l1 : Option Value) (l2 : Option Value) (l3 : Option Value) (l4 : Option Value) (l5 : Option Value) (l6 : Option Value) (x : Nat) (s0 : Int32) (s1 : Nat) (s2 : Int32) : ww (mp_P fx) d 5000 729 [some (.ref x), l1, l2, l3, l4, l5, l6] [.int s0, .ref s1, .int s2] h Q ↔ ww (mp_P fx) d 5000 730 [some (.ref x), l1, l2, l3, l4, l5, l6] [.ref x, .int s0, .ref s1, .int s2] h Q := ww_step rfl
set_option maxRecDepth 20000 in
theorem q5000_730 (l0 : Option Value) (l1 : Option Value) (l2 : Option Value) (l3 : Option Value) (l5 : Option Value) (l6 : Option Value) (x : Int32) (s0 : Nat) (s1 : Int32) (s2 : Nat) (s3 : Int32) : ww (mp_P fx) d 5000 730 [l0, l1, l2, l3, some (.int x), l5, l6] [.ref s0, .int s1, .ref s2, .int s3] h Q ↔ ww (mp_P fx) d 5000 732 [l0, l1, l2, l3, some (.int x), l5, l6] [.int x, .ref s0, .int s1, .ref s2, .int s3] h Q := ww_step rfl
set_option maxRecDepth 20000 in
theorem q5000_732 (ls : mm_V) (s0 : Int32) (s1 : Nat) (s2 : Int32) (s3 : Nat) (s4 : Int32) : ww (mp_P fx) d 5000 732 ls [.int s0, .ref s1, .int s2, .ref s3, .int s4] h Q ↔ ww (mp_P fx) d 5000 733 ls [.int 2, .int s0, .ref s1, .int s2, .ref s3, .int s4] h Q := wr_iconst (i := 2) rfl
set_option maxRecDepth 20000 in
theorem q5000_733 (ls : mm_V) (s0 : Int32) (s1 : Int32) (s2 : Nat) (s3 : Int32) (s4 : Nat) (s5 : Int32) : ww (mp_P fx) d 5000 733 ls [.int s0, .int s1, .ref s2, .int s3, .ref s4, .int s5] h Q ↔ ww (mp_P fx) d 5000 734 ls [.int (s1 + s0), .ref s2, .int s3, .ref s4, .int s5] h Q := wr_iadd rfl
set_option maxRecDepth 20000 in
theorem q5000_734 (ls : mm_V) (s0 : Int32) (s1 : Nat) (s2 : Int32) (s3 : Nat) (s4 : Int32) : ww (mp_P fx) d 5000 734 ls [.int s0, .ref s1, .int s2, .ref s3, .int s4] h Q ↔ ∃ x, mm_gI h s1 0 9 s0 = some x ∧ ww (mp_P fx) d 5000 735 ls [.int x, .int s2, .ref s3, .int s4] h Q := wr_iaload rfl
set_option maxRecDepth 20000 in
theorem q5000_735 (ls : mm_V) (s0 : Int32) (s1 : Int32) (s2 : Nat) (s3 : Int32) (hc : mm_cls h s2 = 10) : ww (mp_P fx) (d + 1) 5000 735 ls [.int s0, .int s1, .ref s2, .int s3] h Q ↔ wm (mp_P fx) d 297 [.ref s2, .int s1, .int s0] h (fun r h' => ww (mp_P fx) (d + 1) 5000 738 ls (r.toList ++ [.int s3]) h' Q) := wr_virtual rfl (mm_recv_ok (n := 2) (rc := 10) ⟨rfl, rfl⟩ rfl hc (by decide)) rfl
set_option maxRecDepth 20000 in
theorem q5000_738 (ls : mm_V) (s0 : Int32) (s1 : Int32) : ww (mp_P fx) d 5000 738 ls [.int s0, .int s1] h Q ↔ (if s1 = s0 then ww (mp_P fx) d 5000 1331 ls [] h Q else ww (mp_P fx) d 5000 741 ls [] h Q) := wr_icmp_eq (t := 1331) rfl
set_option maxRecDepth 20000 in
theorem q5000_741 (ls : mm_V) : ww (mp_P fx) d 5000 741 ls [] h Q ↔ ww (mp_P fx) d 5000 742 ls [.int 0] h Q := wr_iconst (i := 0) rfl
set_option maxRecDepth 20000 in
theorem q5000_742 (ls : mm_V) (s0 : Int32) (hb : mm_ret (mp_sig 5000).2.2.2 (.int s0) = true) : ww (mp_P fx) d 5000 742 ls [.int s0] h Q ↔ Q (some (.int s0)) h := wr_ireturn rfl hb
set_option maxRecDepth 20000 in
theorem q5000_743 (l0 : Option Value) (l2 : Option Value) (l3 : Option Value) (l4 : Option Value) (l5 : Option Value) (l6 : Option Value) (x : Nat) : ww (mp_P fx) d 5000 743 [l0, some (.ref x), l2, l3, l4, l5, l6] [] h Q ↔ ww (mp_P fx) d 5000 744 [l0, some (.ref x), l2, l3, l4, l5, l6] [.ref x] h Q := ww_step rfl
set_option maxRecDepth 20000 in
theorem q5000_744 (ls : mm_V) (s0 : Nat) (hc : mm_cls h s0 = 9) : ww (mp_P fx) (d + 1) 5000 744 ls [.ref s0] h Q ↔ wm (mp_P fx) d 160 [.ref s0] h (fun r h' => ww (mp_P fx) (d + 1) 5000 747 ls (r.toList ++ []) h' Q) := wr_virtual rfl (mm_recv_ok (n := 0) (rc := 9) ⟨rfl, rfl⟩ rfl hc (by decide)) rfl
set_option maxRecDepth 20000 in
theorem q5000_747 (l0 : Option Value) (l1 : Option Value) (l3 : Option Value) (l4 : Option Value) (l5 : Option Value) (l6 : Option Value) (x : Nat) (s0 : Int32) : ww (mp_P fx) d 5000 747 [l0, l1, some (.ref x), l3, l4, l5, l6] [.int s0] h Q ↔ ww (mp_P fx) d 5000 748 [l0, l1, some (.ref x), l3, l4, l5, l6] [.ref x, .int s0] h Q := ww_step rfl
set_option maxRecDepth 20000 in
theorem q5000_748 (ls : mm_V) (s0 : Nat) (s1 : Int32) (hc : mm_cls h s0 = 10) : ww (mp_P fx) (d + 1) 5000 748 ls [.ref s0, .int s1] h Q ↔ wm (mp_P fx) d 298 [.ref s0] h (fun r h' => ww (mp_P fx) (d + 1) 5000 751 ls (r.toList ++ [.int s1]) h' Q) := wr_virtual rfl (mm_recv_ok (n := 0) (rc := 10) ⟨rfl, rfl⟩ rfl hc (by decide)) rfl
set_option maxRecDepth 20000 in
theorem q5000_751 (ls : mm_V) (s0 : Int32) (s1 : Int32) : ww (mp_P fx) d 5000 751 ls [.int s0, .int s1] h Q ↔ (if s1 = s0 then ww (mp_P fx) d 5000 1331 ls [] h Q else ww (mp_P fx) d 5000 754 ls [] h Q) := wr_icmp_eq (t := 1331) rfl
set_option maxRecDepth 20000 in
theorem q5000_754 (ls : mm_V) : ww (mp_P fx) d 5000 754 ls [] h Q ↔ ww (mp_P fx) d 5000 755 ls [.int 0] h Q := wr_iconst (i := 0) rfl
set_option maxRecDepth 20000 in
theorem q5000_755 (ls : mm_V) (s0 : Int32) (hb : mm_ret (mp_sig 5000).2.2.2 (.int s0) = true) : ww (mp_P fx) d 5000 755 ls [.int s0] h Q ↔ Q (some (.int s0)) h := wr_ireturn rfl hb
set_option maxRecDepth 20000 in
theorem q5000_756 (l0 : Option Value) (l2 : Option Value) (l3 : Option Value) (l4 : Option Value) (l5 : Option Value) (l6 : Option Value) (x : Nat) : ww (mp_P fx) d 5000 756 [l0, some (.ref x), l2, l3, l4, l5, l6] [] h Q ↔ ww (mp_P fx) d 5000 757 [l0, some (.ref x), l2, l3, l4, l5, l6] [.ref x] h Q := ww_step rfl
set_option maxRecDepth 20000 in
theorem q5000_757 (ls : mm_V) (s0 : Nat) (hc : mm_cls h s0 = 9) : ww (mp_P fx) (d + 1) 5000 757 ls [.ref s0] h Q ↔ wm (mp_P fx) d 161 [.ref s0] h (fun r h' => ww (mp_P fx) (d + 1) 5000 760 ls (r.toList ++ []) h' Q) := wr_virtual rfl (mm_recv_ok (n := 0) (rc := 9) ⟨rfl, rfl⟩ rfl hc (by decide)) rfl
set_option maxRecDepth 20000 in
theorem q5000_760 (l0 : Option Value) (l1 : Option Value) (l3 : Option Value) (l4 : Option Value) (l5 : Option Value) (l6 : Option Value) (x : Nat) (s0 : Int32) : ww (mp_P fx) d 5000 760 [l0, l1, some (.ref x), l3, l4, l5, l6] [.int s0] h Q ↔ ww (mp_P fx) d 5000 761 [l0, l1, some (.ref x), l3, l4, l5, l6] [.ref x, .int s0] h Q := ww_step rfl
set_option maxRecDepth 20000 in
theorem q5000_761 (ls : mm_V) (s0 : Nat) (s1 : Int32) (hc : mm_cls h s0 = 10) : ww (mp_P fx) (d + 1) 5000 761 ls [.ref s0, .int s1] h Q ↔ wm (mp_P fx) d 299 [.ref s0] h (fun r h' => ww (mp_P fx) (d + 1) 5000 764 ls (r.toList ++ [.int s1]) h' Q) := wr_virtual rfl (mm_recv_ok (n := 0) (rc := 10) ⟨rfl, rfl⟩ rfl hc (by decide)) rfl
set_option maxRecDepth 20000 in
theorem q5000_764 (ls : mm_V) (s0 : Int32) (s1 : Int32) : ww (mp_P fx) d 5000 764 ls [.int s0, .int s1] h Q ↔ (if s1 = s0 then ww (mp_P fx) d 5000 1331 ls [] h Q else ww (mp_P fx) d 5000 767 ls [] h Q) := wr_icmp_eq (t := 1331) rfl
set_option maxRecDepth 20000 in
theorem q5000_767 (ls : mm_V) : ww (mp_P fx) d 5000 767 ls [] h Q ↔ ww (mp_P fx) d 5000 768 ls [.int 0] h Q := wr_iconst (i := 0) rfl
set_option maxRecDepth 20000 in
theorem q5000_768 (ls : mm_V) (s0 : Int32) (hb : mm_ret (mp_sig 5000).2.2.2 (.int s0) = true) : ww (mp_P fx) d 5000 768 ls [.int s0] h Q ↔ Q (some (.int s0)) h := wr_ireturn rfl hb
set_option maxRecDepth 20000 in
theorem q5000_769 (l0 : Option Value) (l2 : Option Value) (l3 : Option Value) (l4 : Option Value) (l5 : Option Value) (l6 : Option Value) (x : Nat) : ww (mp_P fx) d 5000 769 [l0, some (.ref x), l2, l3, l4, l5, l6] [] h Q ↔ ww (mp_P fx) d 5000 770 [l0, some (.ref x), l2, l3, l4, l5, l6] [.ref x] h Q := ww_step rfl
set_option maxRecDepth 20000 in
theorem q5000_770 (l1 : Option Value) (l2 : Option Value) (l3 : Option Value) (l4 : Option Value) (l5 : Option Value) (l6 : Option Value) (x : Nat) (s0 : Nat) : ww (mp_P fx) d 5000 770 [some (.ref x), l1, l2, l3, l4, l5, l6] [.ref s0] h Q ↔ ww (mp_P fx) d 5000 771 [some (.ref x), l1, l2, l3, l4, l5, l6] [.ref x, .ref s0] h Q := ww_step rfl
set_option maxRecDepth 20000 in
theorem q5000_771 (l0 : Option Value) (l1 : Option Value) (l2 : Option Value) (l3 : Option Value) (l5 : Option Value) (l6 : Option Value) (x : Int32) (s0 : Nat) (s1 : Nat) : ww (mp_P fx) d 5000 771 [l0, l1, l2, l3, some (.int x), l5, l6] [.ref s0, .ref s1] h Q ↔ ww (mp_P fx) d 5000 773 [l0, l1, l2, l3, some (.int x), l5, l6] [.int x, .ref s0, .ref s1] h Q := ww_step rfl
set_option maxRecDepth 20000 in
theorem q5000_773 (ls : mm_V) (s0 : Int32) (s1 : Nat) (s2 : Nat) : ww (mp_P fx) d 5000 773 ls [.int s0, .ref s1, .ref s2] h Q ↔ ww (mp_P fx) d 5000 774 ls [.int 1, .int s0, .ref s1, .ref s2] h Q := wr_iconst (i := 1) rfl
set_option maxRecDepth 20000 in
theorem q5000_774 (ls : mm_V) (s0 : Int32) (s1 : Int32) (s2 : Nat) (s3 : Nat) : ww (mp_P fx) d 5000 774 ls [.int s0, .int s1, .ref s2, .ref s3] h Q ↔ ww (mp_P fx) d 5000 775 ls [.int (s1 + s0), .ref s2, .ref s3] h Q := wr_iadd rfl
set_option maxRecDepth 20000 in
theorem q5000_775 (ls : mm_V) (s0 : Int32) (s1 : Nat) (s2 : Nat) : ww (mp_P fx) d 5000 775 ls [.int s0, .ref s1, .ref s2] h Q ↔ ∃ x, mm_gI h s1 0 9 s0 = some x ∧ ww (mp_P fx) d 5000 776 ls [.int x, .ref s2] h Q := wr_iaload rfl
set_option maxRecDepth 20000 in
theorem q5000_776 (l1 : Option Value) (l2 : Option Value) (l3 : Option Value) (l4 : Option Value) (l5 : Option Value) (l6 : Option Value) (x : Nat) (s0 : Int32) (s1 : Nat) : ww (mp_P fx) d 5000 776 [some (.ref x), l1, l2, l3, l4, l5, l6] [.int s0, .ref s1] h Q ↔ ww (mp_P fx) d 5000 777 [some (.ref x), l1, l2, l3, l4, l5, l6] [.ref x, .int s0, .ref s1] h Q := ww_step rfl
set_option maxRecDepth 20000 in
theorem q5000_777 (l0 : Option Value) (l1 : Option Value) (l2 : Option Value) (l3 : Option Value) (l5 : Option Value) (l6 : Option Value) (x : Int32) (s0 : Nat) (s1 : Int32) (s2 : Nat) : ww (mp_P fx) d 5000 777 [l0, l1, l2, l3, some (.int x), l5, l6] [.ref s0, .int s1, .ref s2] h Q ↔ ww (mp_P fx) d 5000 779 [l0, l1, l2, l3, some (.int x), l5, l6] [.int x, .ref s0, .int s1, .ref s2] h Q := ww_step rfl
set_option maxRecDepth 20000 in
theorem q5000_779 (ls : mm_V) (s0 : Int32) (s1 : Nat) (s2 : Int32) (s3 : Nat) : ww (mp_P fx) d 5000 779 ls [.int s0, .ref s1, .int s2, .ref s3] h Q ↔ ww (mp_P fx) d 5000 780 ls [.int 2, .int s0, .ref s1, .int s2, .ref s3] h Q := wr_iconst (i := 2) rfl
set_option maxRecDepth 20000 in
theorem q5000_780 (ls : mm_V) (s0 : Int32) (s1 : Int32) (s2 : Nat) (s3 : Int32) (s4 : Nat) : ww (mp_P fx) d 5000 780 ls [.int s0, .int s1, .ref s2, .int s3, .ref s4] h Q ↔ ww (mp_P fx) d 5000 781 ls [.int (s1 + s0), .ref s2, .int s3, .ref s4] h Q := wr_iadd rfl
set_option maxRecDepth 20000 in
theorem q5000_781 (ls : mm_V) (s0 : Int32) (s1 : Nat) (s2 : Int32) (s3 : Nat) : ww (mp_P fx) d 5000 781 ls [.int s0, .ref s1, .int s2, .ref s3] h Q ↔ ∃ x, mm_gI h s1 0 9 s0 = some x ∧ ww (mp_P fx) d 5000 782 ls [.int x, .int s2, .ref s3] h Q := wr_iaload rfl
set_option maxRecDepth 20000 in
theorem q5000_782 (ls : mm_V) (s0 : Int32) (s1 : Int32) (s2 : Nat) (hc : mm_cls h s2 = 9) : ww (mp_P fx) (d + 1) 5000 782 ls [.int s0, .int s1, .ref s2] h Q ↔ wm (mp_P fx) d 164 [.ref s2, .int s1, .int s0] h (fun r h' => ww (mp_P fx) (d + 1) 5000 785 ls (r.toList ++ []) h' Q) := wr_virtual rfl (mm_recv_ok (n := 2) (rc := 9) ⟨rfl, rfl⟩ rfl hc (by decide)) rfl
set_option maxRecDepth 20000 in
theorem q5000_785 (l0 : Option Value) (l1 : Option Value) (l3 : Option Value) (l4 : Option Value) (l5 : Option Value) (l6 : Option Value) (x : Nat) (s0 : Int32) : ww (mp_P fx) d 5000 785 [l0, l1, some (.ref x), l3, l4, l5, l6] [.int s0] h Q ↔ ww (mp_P fx) d 5000 786 [l0, l1, some (.ref x), l3, l4, l5, l6] [.ref x, .int s0] h Q := ww_step rfl
set_option maxRecDepth 20000 in
theorem q5000_786 (l1 : Option Value) (l2 : Option Value) (l3 : Option Value) (l4 : Option Value) (l5 : Option Value) (l6 : Option Value) (x : Nat) (s0 : Nat) (s1 : Int32) : ww (mp_P fx) d 5000 786 [some (.ref x), l1, l2, l3, l4, l5, l6] [.ref s0, .int s1] h Q ↔ ww (mp_P fx) d 5000 787 [some (.ref x), l1, l2, l3, l4, l5, l6] [.ref x, .ref s0, .int s1] h Q := ww_step rfl
set_option maxRecDepth 20000 in
theorem q5000_787 (l0 : Option Value) (l1 : Option Value) (l2 : Option Value) (l3 : Option Value) (l5 : Option Value) (l6 : Option Value) (x : Int32) (s0 : Nat) (s1 : Nat) (s2 : Int32) : ww (mp_P fx) d 5000 787 [l0, l1, l2, l3, some (.int x), l5, l6] [.ref s0, .ref s1, .int s2] h Q ↔ ww (mp_P fx) d 5000 789 [l0, l1, l2, l3, some (.int x), l5, l6] [.int x, .ref s0, .ref s1, .int s2] h Q := ww_step rfl
set_option maxRecDepth 20000 in
theorem q5000_789 (ls : mm_V) (s0 : Int32) (s1 : Nat) (s2 : Nat) (s3 : Int32) : ww (mp_P fx) d 5000 789 ls [.int s0, .ref s1, .ref s2, .int s3] h Q ↔ ww (mp_P fx) d 5000 790 ls [.int 1, .int s0, .ref s1, .ref s2, .int s3] h Q := wr_iconst (i := 1) rfl
set_option maxRecDepth 20000 in
theorem q5000_790 (ls : mm_V) (s0 : Int32) (s1 : Int32) (s2 : Nat) (s3 : Nat) (s4 : Int32) : ww (mp_P fx) d 5000 790 ls [.int s0, .int s1, .ref s2, .ref s3, .int s4] h Q ↔ ww (mp_P fx) d 5000 791 ls [.int (s1 + s0), .ref s2, .ref s3, .int s4] h Q := wr_iadd rfl
set_option maxRecDepth 20000 in
theorem q5000_791 (ls : mm_V) (s0 : Int32) (s1 : Nat) (s2 : Nat) (s3 : Int32) : ww (mp_P fx) d 5000 791 ls [.int s0, .ref s1, .ref s2, .int s3] h Q ↔ ∃ x, mm_gI h s1 0 9 s0 = some x ∧ ww (mp_P fx) d 5000 792 ls [.int x, .ref s2, .int s3] h Q := wr_iaload rfl
set_option maxRecDepth 20000 in
theorem q5000_792 (l1 : Option Value) (l2 : Option Value) (l3 : Option Value) (l4 : Option Value) (l5 : Option Value) (l6 : Option Value) (x : Nat) (s0 : Int32) (s1 : Nat) (s2 : Int32) : ww (mp_P fx) d 5000 792 [some (.ref x), l1, l2, l3, l4, l5, l6] [.int s0, .ref s1, .int s2] h Q ↔ ww (mp_P fx) d 5000 793 [some (.ref x), l1, l2, l3, l4, l5, l6] [.ref x, .int s0, .ref s1, .int s2] h Q := ww_step rfl
set_option maxRecDepth 20000 in
theorem q5000_793 (l0 : Option Value) (l1 : Option Value) (l2 : Option Value) (l3 : Option Value) (l5 : Option Value) (l6 : Option Value) (x : Int32) (s0 : Nat) (s1 : Int32) (s2 : Nat) (s3 : Int32) : ww (mp_P fx) d 5000 793 [l0, l1, l2, l3, some (.int x), l5, l6] [.ref s0, .int s1, .ref s2, .int s3] h Q ↔ ww (mp_P fx) d 5000 795 [l0, l1, l2, l3, some (.int x), l5, l6] [.int x, .ref s0, .int s1, .ref s2, .int s3] h Q := ww_step rfl
set_option maxRecDepth 20000 in
theorem q5000_795 (ls : mm_V) (s0 : Int32) (s1 : Nat) (s2 : Int32) (s3 : Nat) (s4 : Int32) : ww (mp_P fx) d 5000 795 ls [.int s0, .ref s1, .int s2, .ref s3, .int s4] h Q ↔ ww (mp_P fx) d 5000 796 ls [.int 2, .int s0, .ref s1, .int s2, .ref s3, .int s4] h Q := wr_iconst (i := 2) rfl
set_option maxRecDepth 20000 in
theorem q5000_796 (ls : mm_V) (s0 : Int32) (s1 : Int32) (s2 : Nat) (s3 : Int32) (s4 : Nat) (s5 : Int32) : ww (mp_P fx) d 5000 796 ls [.int s0, .int s1, .ref s2, .int s3, .ref s4, .int s5] h Q ↔ ww (mp_P fx) d 5000 797 ls [.int (s1 + s0), .ref s2, .int s3, .ref s4, .int s5] h Q := wr_iadd rfl
set_option maxRecDepth 20000 in
theorem q5000_797 (ls : mm_V) (s0 : Int32) (s1 : Nat) (s2 : Int32) (s3 : Nat) (s4 : Int32) : ww (mp_P fx) d 5000 797 ls [.int s0, .ref s1, .int s2, .ref s3, .int s4] h Q ↔ ∃ x, mm_gI h s1 0 9 s0 = some x ∧ ww (mp_P fx) d 5000 798 ls [.int x, .int s2, .ref s3, .int s4] h Q := wr_iaload rfl
set_option maxRecDepth 20000 in
theorem q5000_798 (ls : mm_V) (s0 : Int32) (s1 : Int32) (s2 : Nat) (s3 : Int32) (hc : mm_cls h s2 = 10) : ww (mp_P fx) (d + 1) 5000 798 ls [.int s0, .int s1, .ref s2, .int s3] h Q ↔ wm (mp_P fx) d 301 [.ref s2, .int s1, .int s0] h (fun r h' => ww (mp_P fx) (d + 1) 5000 801 ls (r.toList ++ [.int s3]) h' Q) := wr_virtual rfl (mm_recv_ok (n := 2) (rc := 10) ⟨rfl, rfl⟩ rfl hc (by decide)) rfl
set_option maxRecDepth 20000 in
theorem q5000_801 (ls : mm_V) (s0 : Int32) (s1 : Int32) : ww (mp_P fx) d 5000 801 ls [.int s0, .int s1] h Q ↔ (if s1 = s0 then ww (mp_P fx) d 5000 1331 ls [] h Q else ww (mp_P fx) d 5000 804 ls [] h Q) := wr_icmp_eq (t := 1331) rfl
set_option maxRecDepth 20000 in
theorem q5000_804 (ls : mm_V) : ww (mp_P fx) d 5000 804 ls [] h Q ↔ ww (mp_P fx) d 5000 805 ls [.int 0] h Q := wr_iconst (i := 0) rfl
set_option maxRecDepth 20000 in
theorem q5000_805 (ls : mm_V) (s0 : Int32) (hb : mm_ret (mp_sig 5000).2.2.2 (.int s0) = true) : ww (mp_P fx) d 5000 805 ls [.int s0] h Q ↔ Q (some (.int s0)) h := wr_ireturn rfl hb
set_option maxRecDepth 20000 in
theorem q5000_806 (l0 : Option Value) (l2 : Option Value) (l3 : Option Value) (l4 : Option Value) (l5 : Option Value) (l6 : Option Value) (x : Nat) : ww (mp_P fx) d 5000 806 [l0, some (.ref x), l2, l3, l4, l5, l6] [] h Q ↔ ww (mp_P fx) d 5000 807 [l0, some (.ref x), l2, l3, l4, l5, l6] [.ref x] h Q := ww_step rfl
set_option maxRecDepth 20000 in
theorem q5000_807 (ls : mm_V) (s0 : Nat) (hc : mm_cls h s0 = 9) : ww (mp_P fx) (d + 1) 5000 807 ls [.ref s0] h Q ↔ wm (mp_P fx) d 166 [.ref s0] h (fun r h' => ww (mp_P fx) (d + 1) 5000 810 ls (r.toList ++ []) h' Q) := wr_virtual rfl (mm_recv_ok (n := 0) (rc := 9) ⟨rfl, rfl⟩ rfl hc (by decide)) rfl
set_option maxRecDepth 20000 in
theorem q5000_810 (l0 : Option Value) (l1 : Option Value) (l3 : Option Value) (l4 : Option Value) (l5 : Option Value) (l6 : Option Value) (x : Nat) (s0 : Int32) : ww (mp_P fx) d 5000 810 [l0, l1, some (.ref x), l3, l4, l5, l6] [.int s0] h Q ↔ ww (mp_P fx) d 5000 811 [l0, l1, some (.ref x), l3, l4, l5, l6] [.ref x, .int s0] h Q := ww_step rfl
set_option maxRecDepth 20000 in
theorem q5000_811 (ls : mm_V) (s0 : Nat) (s1 : Int32) (hc : mm_cls h s0 = 10) : ww (mp_P fx) (d + 1) 5000 811 ls [.ref s0, .int s1] h Q ↔ wm (mp_P fx) d 302 [.ref s0] h (fun r h' => ww (mp_P fx) (d + 1) 5000 814 ls (r.toList ++ [.int s1]) h' Q) := wr_virtual rfl (mm_recv_ok (n := 0) (rc := 10) ⟨rfl, rfl⟩ rfl hc (by decide)) rfl
set_option maxRecDepth 20000 in
theorem q5000_814 (ls : mm_V) (s0 : Int32) (s1 : Int32) : ww (mp_P fx) d 5000 814 ls [.int s0, .int s1] h Q ↔ (if s1 = s0 then ww (mp_P fx) d 5000 1331 ls [] h Q else ww (mp_P fx) d 5000 817 ls [] h Q) := wr_icmp_eq (t := 1331) rfl
set_option maxRecDepth 20000 in
theorem q5000_817 (ls : mm_V) : ww (mp_P fx) d 5000 817 ls [] h Q ↔ ww (mp_P fx) d 5000 818 ls [.int 0] h Q := wr_iconst (i := 0) rfl
set_option maxRecDepth 20000 in
theorem q5000_818 (ls : mm_V) (s0 : Int32) (hb : mm_ret (mp_sig 5000).2.2.2 (.int s0) = true) : ww (mp_P fx) d 5000 818 ls [.int s0] h Q ↔ Q (some (.int s0)) h := wr_ireturn rfl hb
set_option maxRecDepth 20000 in
theorem q5000_819 (l0 : Option Value) (l2 : Option Value) (l3 : Option Value) (l4 : Option Value) (l5 : Option Value) (l6 : Option Value) (x : Nat) : ww (mp_P fx) d 5000 819 [l0, some (.ref x), l2, l3, l4, l5, l6] [] h Q ↔ ww (mp_P fx) d 5000 820 [l0, some (.ref x), l2, l3, l4, l5, l6] [.ref x] h Q := ww_step rfl
set_option maxRecDepth 20000 in
theorem q5000_820 (ls : mm_V) (s0 : Nat) (hc : mm_cls h s0 = 9) : ww (mp_P fx) (d + 1) 5000 820 ls [.ref s0] h Q ↔ wm (mp_P fx) d 168 [.ref s0] h (fun r h' => ww (mp_P fx) (d + 1) 5000 823 ls (r.toList ++ []) h' Q) := wr_virtual rfl (mm_recv_ok (n := 0) (rc := 9) ⟨rfl, rfl⟩ rfl hc (by decide)) rfl
set_option maxRecDepth 20000 in
theorem q5000_823 (l0 : Option Value) (l1 : Option Value) (l3 : Option Value) (l4 : Option Value) (l5 : Option Value) (l6 : Option Value) (x : Nat) (s0 : Int32) : ww (mp_P fx) d 5000 823 [l0, l1, some (.ref x), l3, l4, l5, l6] [.int s0] h Q ↔ ww (mp_P fx) d 5000 824 [l0, l1, some (.ref x), l3, l4, l5, l6] [.ref x, .int s0] h Q := ww_step rfl
set_option maxRecDepth 20000 in
theorem q5000_824 (ls : mm_V) (s0 : Nat) (s1 : Int32) (hc : mm_cls h s0 = 10) : ww (mp_P fx) (d + 1) 5000 824 ls [.ref s0, .int s1] h Q ↔ wm (mp_P fx) d 303 [.ref s0] h (fun r h' => ww (mp_P fx) (d + 1) 5000 827 ls (r.toList ++ [.int s1]) h' Q) := wr_virtual rfl (mm_recv_ok (n := 0) (rc := 10) ⟨rfl, rfl⟩ rfl hc (by decide)) rfl
set_option maxRecDepth 20000 in
theorem q5000_827 (ls : mm_V) (s0 : Int32) (s1 : Int32) : ww (mp_P fx) d 5000 827 ls [.int s0, .int s1] h Q ↔ (if s1 = s0 then ww (mp_P fx) d 5000 1331 ls [] h Q else ww (mp_P fx) d 5000 830 ls [] h Q) := wr_icmp_eq (t := 1331) rfl
set_option maxRecDepth 20000 in
theorem q5000_830 (ls : mm_V) : ww (mp_P fx) d 5000 830 ls [] h Q ↔ ww (mp_P fx) d 5000 831 ls [.int 0] h Q := wr_iconst (i := 0) rfl
set_option maxRecDepth 20000 in
theorem q5000_831 (ls : mm_V) (s0 : Int32) (hb : mm_ret (mp_sig 5000).2.2.2 (.int s0) = true) : ww (mp_P fx) d 5000 831 ls [.int s0] h Q ↔ Q (some (.int s0)) h := wr_ireturn rfl hb
set_option maxRecDepth 20000 in
theorem q5000_832 (l0 : Option Value) (l2 : Option Value) (l3 : Option Value) (l4 : Option Value) (l5 : Option Value) (l6 : Option Value) (x : Nat) : ww (mp_P fx) d 5000 832 [l0, some (.ref x), l2, l3, l4, l5, l6] [] h Q ↔ ww (mp_P fx) d 5000 833 [l0, some (.ref x), l2, l3, l4, l5, l6] [.ref x] h Q := ww_step rfl
set_option maxRecDepth 20000 in
theorem q5000_833 (l1 : Option Value) (l2 : Option Value) (l3 : Option Value) (l4 : Option Value) (l5 : Option Value) (l6 : Option Value) (x : Nat) (s0 : Nat) : ww (mp_P fx) d 5000 833 [some (.ref x), l1, l2, l3, l4, l5, l6] [.ref s0] h Q ↔ ww (mp_P fx) d 5000 834 [some (.ref x), l1, l2, l3, l4, l5, l6] [.ref x, .ref s0] h Q := ww_step rfl
set_option maxRecDepth 20000 in
theorem q5000_834 (l0 : Option Value) (l1 : Option Value) (l2 : Option Value) (l3 : Option Value) (l5 : Option Value) (l6 : Option Value) (x : Int32) (s0 : Nat) (s1 : Nat) : ww (mp_P fx) d 5000 834 [l0, l1, l2, l3, some (.int x), l5, l6] [.ref s0, .ref s1] h Q ↔ ww (mp_P fx) d 5000 836 [l0, l1, l2, l3, some (.int x), l5, l6] [.int x, .ref s0, .ref s1] h Q := ww_step rfl
set_option maxRecDepth 20000 in
theorem q5000_836 (ls : mm_V) (s0 : Int32) (s1 : Nat) (s2 : Nat) : ww (mp_P fx) d 5000 836 ls [.int s0, .ref s1, .ref s2] h Q ↔ ww (mp_P fx) d 5000 837 ls [.int 1, .int s0, .ref s1, .ref s2] h Q := wr_iconst (i := 1) rfl
set_option maxRecDepth 20000 in
theorem q5000_837 (ls : mm_V) (s0 : Int32) (s1 : Int32) (s2 : Nat) (s3 : Nat) : ww (mp_P fx) d 5000 837 ls [.int s0, .int s1, .ref s2, .ref s3] h Q ↔ ww (mp_P fx) d 5000 838 ls [.int (s1 + s0), .ref s2, .ref s3] h Q := wr_iadd rfl
set_option maxRecDepth 20000 in
theorem q5000_838 (ls : mm_V) (s0 : Int32) (s1 : Nat) (s2 : Nat) : ww (mp_P fx) d 5000 838 ls [.int s0, .ref s1, .ref s2] h Q ↔ ∃ x, mm_gI h s1 0 9 s0 = some x ∧ ww (mp_P fx) d 5000 839 ls [.int x, .ref s2] h Q := wr_iaload rfl
set_option maxRecDepth 20000 in
theorem q5000_839 (ls : mm_V) (s0 : Int32) (s1 : Nat) (hc : mm_cls h s1 = 9) : ww (mp_P fx) (d + 1) 5000 839 ls [.int s0, .ref s1] h Q ↔ wm (mp_P fx) d 169 [.ref s1, .int s0] h (fun r h' => ww (mp_P fx) (d + 1) 5000 842 ls (r.toList ++ []) h' Q) := wr_virtual rfl (mm_recv_ok (n := 1) (rc := 9) ⟨rfl, rfl⟩ rfl hc (by decide)) rfl
set_option maxRecDepth 20000 in
theorem q5000_842 (l0 : Option Value) (l1 : Option Value) (l3 : Option Value) (l4 : Option Value) (l5 : Option Value) (l6 : Option Value) (x : Nat) (s0 : Int32) : ww (mp_P fx) d 5000 842 [l0, l1, some (.ref x), l3, l4, l5, l6] [.int s0] h Q ↔ ww (mp_P fx) d 5000 843 [l0, l1, some (.ref x), l3, l4, l5, l6] [.ref x, .int s0] h Q := ww_step rfl
set_option maxRecDepth 20000 in
theorem q5000_843 (l1 : Option Value) (l2 : Option Value) (l3 : Option Value) (l4 : Option Value) (l5 : Option Value) (l6 : Option Value) (x : Nat) (s0 : Nat) (s1 : Int32) : ww (mp_P fx) d 5000 843 [some (.ref x), l1, l2, l3, l4, l5, l6] [.ref s0, .int s1] h Q ↔ ww (mp_P fx) d 5000 844 [some (.ref x), l1, l2, l3, l4, l5, l6] [.ref x, .ref s0, .int s1] h Q := ww_step rfl
set_option maxRecDepth 20000 in
theorem q5000_844 (l0 : Option Value) (l1 : Option Value) (l2 : Option Value) (l3 : Option Value) (l5 : Option Value) (l6 : Option Value) (x : Int32) (s0 : Nat) (s1 : Nat) (s2 : Int32) : ww (mp_P fx) d 5000 844 [l0, l1, l2, l3, some (.int x), l5, l6] [.ref s0, .ref s1, .int s2] h Q ↔ ww (mp_P fx) d 5000 846 [l0, l1, l2, l3, some (.int x), l5, l6] [.int x, .ref s0, .ref s1, .int s2] h Q := ww_step rfl
set_option maxRecDepth 20000 in
theorem q5000_846 (ls : mm_V) (s0 : Int32) (s1 : Nat) (s2 : Nat) (s3 : Int32) : ww (mp_P fx) d 5000 846 ls [.int s0, .ref s1, .ref s2, .int s3] h Q ↔ ww (mp_P fx) d 5000 847 ls [.int 1, .int s0, .ref s1, .ref s2, .int s3] h Q := wr_iconst (i := 1) rfl
set_option maxRecDepth 20000 in
theorem q5000_847 (ls : mm_V) (s0 : Int32) (s1 : Int32) (s2 : Nat) (s3 : Nat) (s4 : Int32) : ww (mp_P fx) d 5000 847 ls [.int s0, .int s1, .ref s2, .ref s3, .int s4] h Q ↔ ww (mp_P fx) d 5000 848 ls [.int (s1 + s0), .ref s2, .ref s3, .int s4] h Q := wr_iadd rfl
set_option maxRecDepth 20000 in
theorem q5000_848 (ls : mm_V) (s0 : Int32) (s1 : Nat) (s2 : Nat) (s3 : Int32) : ww (mp_P fx) d 5000 848 ls [.int s0, .ref s1, .ref s2, .int s3] h Q ↔ ∃ x, mm_gI h s1 0 9 s0 = some x ∧ ww (mp_P fx) d 5000 849 ls [.int x, .ref s2, .int s3] h Q := wr_iaload rfl
set_option maxRecDepth 20000 in
theorem q5000_849 (ls : mm_V) (s0 : Int32) (s1 : Nat) (s2 : Int32) (hc : mm_cls h s1 = 10) : ww (mp_P fx) (d + 1) 5000 849 ls [.int s0, .ref s1, .int s2] h Q ↔ wm (mp_P fx) d 304 [.ref s1, .int s0] h (fun r h' => ww (mp_P fx) (d + 1) 5000 852 ls (r.toList ++ [.int s2]) h' Q) := wr_virtual rfl (mm_recv_ok (n := 1) (rc := 10) ⟨rfl, rfl⟩ rfl hc (by decide)) rfl
set_option maxRecDepth 20000 in
theorem q5000_852 (ls : mm_V) (s0 : Int32) (s1 : Int32) : ww (mp_P fx) d 5000 852 ls [.int s0, .int s1] h Q ↔ (if s1 = s0 then ww (mp_P fx) d 5000 1331 ls [] h Q else ww (mp_P fx) d 5000 855 ls [] h Q) := wr_icmp_eq (t := 1331) rfl
set_option maxRecDepth 20000 in
theorem q5000_855 (ls : mm_V) : ww (mp_P fx) d 5000 855 ls [] h Q ↔ ww (mp_P fx) d 5000 856 ls [.int 0] h Q := wr_iconst (i := 0) rfl
set_option maxRecDepth 20000 in
theorem q5000_856 (ls : mm_V) (s0 : Int32) (hb : mm_ret (mp_sig 5000).2.2.2 (.int s0) = true) : ww (mp_P fx) d 5000 856 ls [.int s0] h Q ↔ Q (some (.int s0)) h := wr_ireturn rfl hb
set_option maxRecDepth 20000 in
theorem q5000_857 (l0 : Option Value) (l2 : Option Value) (l3 : Option Value) (l4 : Option Value) (l5 : Option Value) (l6 : Option Value) (x : Nat) : ww (mp_P fx) d 5000 857 [l0, some (.ref x), l2, l3, l4, l5, l6] [] h Q ↔ ww (mp_P fx) d 5000 858 [l0, some (.ref x), l2, l3, l4, l5, l6] [.ref x] h Q := ww_step rfl
set_option maxRecDepth 20000 in
theorem q5000_858 (ls : mm_V) (s0 : Nat) (hc : mm_cls h s0 = 9) : ww (mp_P fx) (d + 1) 5000 858 ls [.ref s0] h Q ↔ wm (mp_P fx) d 170 [.ref s0] h (fun r h' => ww (mp_P fx) (d + 1) 5000 861 ls (r.toList ++ []) h' Q) := wr_virtual rfl (mm_recv_ok (n := 0) (rc := 9) ⟨rfl, rfl⟩ rfl hc (by decide)) rfl
set_option maxRecDepth 20000 in
theorem q5000_861 (l0 : Option Value) (l1 : Option Value) (l3 : Option Value) (l4 : Option Value) (l5 : Option Value) (l6 : Option Value) (x : Nat) (s0 : Int32) : ww (mp_P fx) d 5000 861 [l0, l1, some (.ref x), l3, l4, l5, l6] [.int s0] h Q ↔ ww (mp_P fx) d 5000 862 [l0, l1, some (.ref x), l3, l4, l5, l6] [.ref x, .int s0] h Q := ww_step rfl
set_option maxRecDepth 20000 in
theorem q5000_862 (ls : mm_V) (s0 : Nat) (s1 : Int32) (hc : mm_cls h s0 = 10) : ww (mp_P fx) (d + 1) 5000 862 ls [.ref s0, .int s1] h Q ↔ wm (mp_P fx) d 305 [.ref s0] h (fun r h' => ww (mp_P fx) (d + 1) 5000 865 ls (r.toList ++ [.int s1]) h' Q) := wr_virtual rfl (mm_recv_ok (n := 0) (rc := 10) ⟨rfl, rfl⟩ rfl hc (by decide)) rfl
set_option maxRecDepth 20000 in
theorem q5000_865 (ls : mm_V) (s0 : Int32) (s1 : Int32) : ww (mp_P fx) d 5000 865 ls [.int s0, .int s1] h Q ↔ (if s1 = s0 then ww (mp_P fx) d 5000 1331 ls [] h Q else ww (mp_P fx) d 5000 868 ls [] h Q) := wr_icmp_eq (t := 1331) rfl
set_option maxRecDepth 20000 in
theorem q5000_868 (ls : mm_V) : ww (mp_P fx) d 5000 868 ls [] h Q ↔ ww (mp_P fx) d 5000 869 ls [.int 0] h Q := wr_iconst (i := 0) rfl
set_option maxRecDepth 20000 in
theorem q5000_869 (ls : mm_V) (s0 : Int32) (hb : mm_ret (mp_sig 5000).2.2.2 (.int s0) = true) : ww (mp_P fx) d 5000 869 ls [.int s0] h Q ↔ Q (some (.int s0)) h := wr_ireturn rfl hb
set_option maxRecDepth 20000 in
theorem q5000_870 (l0 : Option Value) (l2 : Option Value) (l3 : Option Value) (l4 : Option Value) (l5 : Option Value) (l6 : Option Value) (x : Nat) : ww (mp_P fx) d 5000 870 [l0, some (.ref x), l2, l3, l4, l5, l6] [] h Q ↔ ww (mp_P fx) d 5000 871 [l0, some (.ref x), l2, l3, l4, l5, l6] [.ref x] h Q := ww_step rfl
set_option maxRecDepth 20000 in
theorem q5000_871 (l1 : Option Value) (l2 : Option Value) (l3 : Option Value) (l4 : Option Value) (l5 : Option Value) (l6 : Option Value) (x : Nat) (s0 : Nat) : ww (mp_P fx) d 5000 871 [some (.ref x), l1, l2, l3, l4, l5, l6] [.ref s0] h Q ↔ ww (mp_P fx) d 5000 872 [some (.ref x), l1, l2, l3, l4, l5, l6] [.ref x, .ref s0] h Q := ww_step rfl
set_option maxRecDepth 20000 in
theorem q5000_872 (l0 : Option Value) (l1 : Option Value) (l2 : Option Value) (l3 : Option Value) (l5 : Option Value) (l6 : Option Value) (x : Int32) (s0 : Nat) (s1 : Nat) : ww (mp_P fx) d 5000 872 [l0, l1, l2, l3, some (.int x), l5, l6] [.ref s0, .ref s1] h Q ↔ ww (mp_P fx) d 5000 874 [l0, l1, l2, l3, some (.int x), l5, l6] [.int x, .ref s0, .ref s1] h Q := ww_step rfl
set_option maxRecDepth 20000 in
theorem q5000_874 (ls : mm_V) (s0 : Int32) (s1 : Nat) (s2 : Nat) : ww (mp_P fx) d 5000 874 ls [.int s0, .ref s1, .ref s2] h Q ↔ ww (mp_P fx) d 5000 875 ls [.int 1, .int s0, .ref s1, .ref s2] h Q := wr_iconst (i := 1) rfl
set_option maxRecDepth 20000 in
theorem q5000_875 (ls : mm_V) (s0 : Int32) (s1 : Int32) (s2 : Nat) (s3 : Nat) : ww (mp_P fx) d 5000 875 ls [.int s0, .int s1, .ref s2, .ref s3] h Q ↔ ww (mp_P fx) d 5000 876 ls [.int (s1 + s0), .ref s2, .ref s3] h Q := wr_iadd rfl
set_option maxRecDepth 20000 in
theorem q5000_876 (ls : mm_V) (s0 : Int32) (s1 : Nat) (s2 : Nat) : ww (mp_P fx) d 5000 876 ls [.int s0, .ref s1, .ref s2] h Q ↔ ∃ x, mm_gI h s1 0 9 s0 = some x ∧ ww (mp_P fx) d 5000 877 ls [.int x, .ref s2] h Q := wr_iaload rfl
set_option maxRecDepth 20000 in
theorem q5000_877 (ls : mm_V) (s0 : Int32) (s1 : Nat) (hc : mm_cls h s1 = 9) : ww (mp_P fx) (d + 1) 5000 877 ls [.int s0, .ref s1] h Q ↔ wm (mp_P fx) d 171 [.ref s1, .int s0] h (fun r h' => ww (mp_P fx) (d + 1) 5000 880 ls (r.toList ++ []) h' Q) := wr_virtual rfl (mm_recv_ok (n := 1) (rc := 9) ⟨rfl, rfl⟩ rfl hc (by decide)) rfl
set_option maxRecDepth 20000 in
theorem q5000_880 (l0 : Option Value) (l1 : Option Value) (l3 : Option Value) (l4 : Option Value) (l5 : Option Value) (l6 : Option Value) (x : Nat) (s0 : Int32) : ww (mp_P fx) d 5000 880 [l0, l1, some (.ref x), l3, l4, l5, l6] [.int s0] h Q ↔ ww (mp_P fx) d 5000 881 [l0, l1, some (.ref x), l3, l4, l5, l6] [.ref x, .int s0] h Q := ww_step rfl
set_option maxRecDepth 20000 in
theorem q5000_881 (l1 : Option Value) (l2 : Option Value) (l3 : Option Value) (l4 : Option Value) (l5 : Option Value) (l6 : Option Value) (x : Nat) (s0 : Nat) (s1 : Int32) : ww (mp_P fx) d 5000 881 [some (.ref x), l1, l2, l3, l4, l5, l6] [.ref s0, .int s1] h Q ↔ ww (mp_P fx) d 5000 882 [some (.ref x), l1, l2, l3, l4, l5, l6] [.ref x, .ref s0, .int s1] h Q := ww_step rfl
set_option maxRecDepth 20000 in
theorem q5000_882 (l0 : Option Value) (l1 : Option Value) (l2 : Option Value) (l3 : Option Value) (l5 : Option Value) (l6 : Option Value) (x : Int32) (s0 : Nat) (s1 : Nat) (s2 : Int32) : ww (mp_P fx) d 5000 882 [l0, l1, l2, l3, some (.int x), l5, l6] [.ref s0, .ref s1, .int s2] h Q ↔ ww (mp_P fx) d 5000 884 [l0, l1, l2, l3, some (.int x), l5, l6] [.int x, .ref s0, .ref s1, .int s2] h Q := ww_step rfl
set_option maxRecDepth 20000 in
theorem q5000_884 (ls : mm_V) (s0 : Int32) (s1 : Nat) (s2 : Nat) (s3 : Int32) : ww (mp_P fx) d 5000 884 ls [.int s0, .ref s1, .ref s2, .int s3] h Q ↔ ww (mp_P fx) d 5000 885 ls [.int 1, .int s0, .ref s1, .ref s2, .int s3] h Q := wr_iconst (i := 1) rfl
set_option maxRecDepth 20000 in
theorem q5000_885 (ls : mm_V) (s0 : Int32) (s1 : Int32) (s2 : Nat) (s3 : Nat) (s4 : Int32) : ww (mp_P fx) d 5000 885 ls [.int s0, .int s1, .ref s2, .ref s3, .int s4] h Q ↔ ww (mp_P fx) d 5000 886 ls [.int (s1 + s0), .ref s2, .ref s3, .int s4] h Q := wr_iadd rfl
set_option maxRecDepth 20000 in
theorem q5000_886 (ls : mm_V) (s0 : Int32) (s1 : Nat) (s2 : Nat) (s3 : Int32) : ww (mp_P fx) d 5000 886 ls [.int s0, .ref s1, .ref s2, .int s3] h Q ↔ ∃ x, mm_gI h s1 0 9 s0 = some x ∧ ww (mp_P fx) d 5000 887 ls [.int x, .ref s2, .int s3] h Q := wr_iaload rfl
set_option maxRecDepth 20000 in
theorem q5000_887 (ls : mm_V) (s0 : Int32) (s1 : Nat) (s2 : Int32) (hc : mm_cls h s1 = 10) : ww (mp_P fx) (d + 1) 5000 887 ls [.int s0, .ref s1, .int s2] h Q ↔ wm (mp_P fx) d 306 [.ref s1, .int s0] h (fun r h' => ww (mp_P fx) (d + 1) 5000 890 ls (r.toList ++ [.int s2]) h' Q) := wr_virtual rfl (mm_recv_ok (n := 1) (rc := 10) ⟨rfl, rfl⟩ rfl hc (by decide)) rfl
set_option maxRecDepth 20000 in
theorem q5000_890 (ls : mm_V) (s0 : Int32) (s1 : Int32) : ww (mp_P fx) d 5000 890 ls [.int s0, .int s1] h Q ↔ (if s1 = s0 then ww (mp_P fx) d 5000 1331 ls [] h Q else ww (mp_P fx) d 5000 893 ls [] h Q) := wr_icmp_eq (t := 1331) rfl
set_option maxRecDepth 20000 in
theorem q5000_893 (ls : mm_V) : ww (mp_P fx) d 5000 893 ls [] h Q ↔ ww (mp_P fx) d 5000 894 ls [.int 0] h Q := wr_iconst (i := 0) rfl
set_option maxRecDepth 20000 in
theorem q5000_894 (ls : mm_V) (s0 : Int32) (hb : mm_ret (mp_sig 5000).2.2.2 (.int s0) = true) : ww (mp_P fx) d 5000 894 ls [.int s0] h Q ↔ Q (some (.int s0)) h := wr_ireturn rfl hb
set_option maxRecDepth 20000 in
theorem q5000_895 (l0 : Option Value) (l2 : Option Value) (l3 : Option Value) (l4 : Option Value) (l5 : Option Value) (l6 : Option Value) (x : Nat) : ww (mp_P fx) d 5000 895 [l0, some (.ref x), l2, l3, l4, l5, l6] [] h Q ↔ ww (mp_P fx) d 5000 896 [l0, some (.ref x), l2, l3, l4, l5, l6] [.ref x] h Q := ww_step rfl
set_option maxRecDepth 20000 in
theorem q5000_896 (ls : mm_V) (s0 : Nat) (hc : mm_cls h s0 = 9) : ww (mp_P fx) (d + 1) 5000 896 ls [.ref s0] h Q ↔ wm (mp_P fx) d 181 [.ref s0] h (fun r h' => ww (mp_P fx) (d + 1) 5000 899 ls (r.toList ++ []) h' Q) := wr_virtual rfl (mm_recv_ok (n := 0) (rc := 9) ⟨rfl, rfl⟩ rfl hc (by decide)) rfl
set_option maxRecDepth 20000 in
theorem q5000_899 (l0 : Option Value) (l1 : Option Value) (l3 : Option Value) (l4 : Option Value) (l5 : Option Value) (l6 : Option Value) (x : Nat) (s0 : Int32) : ww (mp_P fx) d 5000 899 [l0, l1, some (.ref x), l3, l4, l5, l6] [.int s0] h Q ↔ ww (mp_P fx) d 5000 900 [l0, l1, some (.ref x), l3, l4, l5, l6] [.ref x, .int s0] h Q := ww_step rfl
set_option maxRecDepth 20000 in
theorem q5000_900 (ls : mm_V) (s0 : Nat) (s1 : Int32) (hc : mm_cls h s0 = 10) : ww (mp_P fx) (d + 1) 5000 900 ls [.ref s0, .int s1] h Q ↔ wm (mp_P fx) d 309 [.ref s0] h (fun r h' => ww (mp_P fx) (d + 1) 5000 903 ls (r.toList ++ [.int s1]) h' Q) := wr_virtual rfl (mm_recv_ok (n := 0) (rc := 10) ⟨rfl, rfl⟩ rfl hc (by decide)) rfl
set_option maxRecDepth 20000 in
theorem q5000_903 (ls : mm_V) (s0 : Int32) (s1 : Int32) : ww (mp_P fx) d 5000 903 ls [.int s0, .int s1] h Q ↔ (if s1 = s0 then ww (mp_P fx) d 5000 1331 ls [] h Q else ww (mp_P fx) d 5000 906 ls [] h Q) := wr_icmp_eq (t := 1331) rfl
set_option maxRecDepth 20000 in
theorem q5000_906 (ls : mm_V) : ww (mp_P fx) d 5000 906 ls [] h Q ↔ ww (mp_P fx) d 5000 907 ls [.int 0] h Q := wr_iconst (i := 0) rfl
set_option maxRecDepth 20000 in
theorem q5000_907 (ls : mm_V) (s0 : Int32) (hb : mm_ret (mp_sig 5000).2.2.2 (.int s0) = true) : ww (mp_P fx) d 5000 907 ls [.int s0] h Q ↔ Q (some (.int s0)) h := wr_ireturn rfl hb
set_option maxRecDepth 20000 in
theorem q5000_908 (l0 : Option Value) (l2 : Option Value) (l3 : Option Value) (l4 : Option Value) (l5 : Option Value) (l6 : Option Value) (x : Nat) : ww (mp_P fx) d 5000 908 [l0, some (.ref x), l2, l3, l4, l5, l6] [] h Q ↔ ww (mp_P fx) d 5000 909 [l0, some (.ref x), l2, l3, l4, l5, l6] [.ref x] h Q := ww_step rfl
set_option maxRecDepth 20000 in
theorem q5000_909 (l1 : Option Value) (l2 : Option Value) (l3 : Option Value) (l4 : Option Value) (l5 : Option Value) (l6 : Option Value) (x : Nat) (s0 : Nat) : ww (mp_P fx) d 5000 909 [some (.ref x), l1, l2, l3, l4, l5, l6] [.ref s0] h Q ↔ ww (mp_P fx) d 5000 910 [some (.ref x), l1, l2, l3, l4, l5, l6] [.ref x, .ref s0] h Q := ww_step rfl
set_option maxRecDepth 20000 in
theorem q5000_910 (l0 : Option Value) (l1 : Option Value) (l2 : Option Value) (l3 : Option Value) (l5 : Option Value) (l6 : Option Value) (x : Int32) (s0 : Nat) (s1 : Nat) : ww (mp_P fx) d 5000 910 [l0, l1, l2, l3, some (.int x), l5, l6] [.ref s0, .ref s1] h Q ↔ ww (mp_P fx) d 5000 912 [l0, l1, l2, l3, some (.int x), l5, l6] [.int x, .ref s0, .ref s1] h Q := ww_step rfl
set_option maxRecDepth 20000 in
theorem q5000_912 (ls : mm_V) (s0 : Int32) (s1 : Nat) (s2 : Nat) : ww (mp_P fx) d 5000 912 ls [.int s0, .ref s1, .ref s2] h Q ↔ ww (mp_P fx) d 5000 913 ls [.int 1, .int s0, .ref s1, .ref s2] h Q := wr_iconst (i := 1) rfl
set_option maxRecDepth 20000 in
theorem q5000_913 (ls : mm_V) (s0 : Int32) (s1 : Int32) (s2 : Nat) (s3 : Nat) : ww (mp_P fx) d 5000 913 ls [.int s0, .int s1, .ref s2, .ref s3] h Q ↔ ww (mp_P fx) d 5000 914 ls [.int (s1 + s0), .ref s2, .ref s3] h Q := wr_iadd rfl
set_option maxRecDepth 20000 in
theorem q5000_914 (ls : mm_V) (s0 : Int32) (s1 : Nat) (s2 : Nat) : ww (mp_P fx) d 5000 914 ls [.int s0, .ref s1, .ref s2] h Q ↔ ∃ x, mm_gI h s1 0 9 s0 = some x ∧ ww (mp_P fx) d 5000 915 ls [.int x, .ref s2] h Q := wr_iaload rfl
set_option maxRecDepth 20000 in
theorem q5000_915 (ls : mm_V) (s0 : Int32) (s1 : Nat) (hc : mm_cls h s1 = 9) : ww (mp_P fx) (d + 1) 5000 915 ls [.int s0, .ref s1] h Q ↔ wm (mp_P fx) d 182 [.ref s1, .int s0] h (fun r h' => ww (mp_P fx) (d + 1) 5000 918 ls (r.toList ++ []) h' Q) := wr_virtual rfl (mm_recv_ok (n := 1) (rc := 9) ⟨rfl, rfl⟩ rfl hc (by decide)) rfl
set_option maxRecDepth 20000 in
theorem q5000_918 (l0 : Option Value) (l1 : Option Value) (l3 : Option Value) (l4 : Option Value) (l5 : Option Value) (l6 : Option Value) (x : Nat) (s0 : Int32) : ww (mp_P fx) d 5000 918 [l0, l1, some (.ref x), l3, l4, l5, l6] [.int s0] h Q ↔ ww (mp_P fx) d 5000 919 [l0, l1, some (.ref x), l3, l4, l5, l6] [.ref x, .int s0] h Q := ww_step rfl
set_option maxRecDepth 20000 in
theorem q5000_919 (l1 : Option Value) (l2 : Option Value) (l3 : Option Value) (l4 : Option Value) (l5 : Option Value) (l6 : Option Value) (x : Nat) (s0 : Nat) (s1 : Int32) : ww (mp_P fx) d 5000 919 [some (.ref x), l1, l2, l3, l4, l5, l6] [.ref s0, .int s1] h Q ↔ ww (mp_P fx) d 5000 920 [some (.ref x), l1, l2, l3, l4, l5, l6] [.ref x, .ref s0, .int s1] h Q := ww_step rfl
set_option maxRecDepth 20000 in
theorem q5000_920 (l0 : Option Value) (l1 : Option Value) (l2 : Option Value) (l3 : Option Value) (l5 : Option Value) (l6 : Option Value) (x : Int32) (s0 : Nat) (s1 : Nat) (s2 : Int32) : ww (mp_P fx) d 5000 920 [l0, l1, l2, l3, some (.int x), l5, l6] [.ref s0, .ref s1, .int s2] h Q ↔ ww (mp_P fx) d 5000 922 [l0, l1, l2, l3, some (.int x), l5, l6] [.int x, .ref s0, .ref s1, .int s2] h Q := ww_step rfl
set_option maxRecDepth 20000 in
theorem q5000_922 (ls : mm_V) (s0 : Int32) (s1 : Nat) (s2 : Nat) (s3 : Int32) : ww (mp_P fx) d 5000 922 ls [.int s0, .ref s1, .ref s2, .int s3] h Q ↔ ww (mp_P fx) d 5000 923 ls [.int 1, .int s0, .ref s1, .ref s2, .int s3] h Q := wr_iconst (i := 1) rfl
set_option maxRecDepth 20000 in
theorem q5000_923 (ls : mm_V) (s0 : Int32) (s1 : Int32) (s2 : Nat) (s3 : Nat) (s4 : Int32) : ww (mp_P fx) d 5000 923 ls [.int s0, .int s1, .ref s2, .ref s3, .int s4] h Q ↔ ww (mp_P fx) d 5000 924 ls [.int (s1 + s0), .ref s2, .ref s3, .int s4] h Q := wr_iadd rfl
set_option maxRecDepth 20000 in
theorem q5000_924 (ls : mm_V) (s0 : Int32) (s1 : Nat) (s2 : Nat) (s3 : Int32) : ww (mp_P fx) d 5000 924 ls [.int s0, .ref s1, .ref s2, .int s3] h Q ↔ ∃ x, mm_gI h s1 0 9 s0 = some x ∧ ww (mp_P fx) d 5000 925 ls [.int x, .ref s2, .int s3] h Q := wr_iaload rfl
set_option maxRecDepth 20000 in
theorem q5000_925 (ls : mm_V) (s0 : Int32) (s1 : Nat) (s2 : Int32) (hc : mm_cls h s1 = 10) : ww (mp_P fx) (d + 1) 5000 925 ls [.int s0, .ref s1, .int s2] h Q ↔ wm (mp_P fx) d 310 [.ref s1, .int s0] h (fun r h' => ww (mp_P fx) (d + 1) 5000 928 ls (r.toList ++ [.int s2]) h' Q) := wr_virtual rfl (mm_recv_ok (n := 1) (rc := 10) ⟨rfl, rfl⟩ rfl hc (by decide)) rfl
set_option maxRecDepth 20000 in
theorem q5000_928 (ls : mm_V) (s0 : Int32) (s1 : Int32) : ww (mp_P fx) d 5000 928 ls [.int s0, .int s1] h Q ↔ (if s1 = s0 then ww (mp_P fx) d 5000 1331 ls [] h Q else ww (mp_P fx) d 5000 931 ls [] h Q) := wr_icmp_eq (t := 1331) rfl
set_option maxRecDepth 20000 in
theorem q5000_931 (ls : mm_V) : ww (mp_P fx) d 5000 931 ls [] h Q ↔ ww (mp_P fx) d 5000 932 ls [.int 0] h Q := wr_iconst (i := 0) rfl
set_option maxRecDepth 20000 in
theorem q5000_932 (ls : mm_V) (s0 : Int32) (hb : mm_ret (mp_sig 5000).2.2.2 (.int s0) = true) : ww (mp_P fx) d 5000 932 ls [.int s0] h Q ↔ Q (some (.int s0)) h := wr_ireturn rfl hb
set_option maxRecDepth 20000 in
theorem q5000_933 (l0 : Option Value) (l2 : Option Value) (l3 : Option Value) (l4 : Option Value) (l5 : Option Value) (l6 : Option Value) (x : Nat) : ww (mp_P fx) d 5000 933 [l0, some (.ref x), l2, l3, l4, l5, l6] [] h Q ↔ ww (mp_P fx) d 5000 934 [l0, some (.ref x), l2, l3, l4, l5, l6] [.ref x] h Q := ww_step rfl
set_option maxRecDepth 20000 in
theorem q5000_934 (l1 : Option Value) (l2 : Option Value) (l3 : Option Value) (l4 : Option Value) (l5 : Option Value) (l6 : Option Value) (x : Nat) (s0 : Nat) : ww (mp_P fx) d 5000 934 [some (.ref x), l1, l2, l3, l4, l5, l6] [.ref s0] h Q ↔ ww (mp_P fx) d 5000 935 [some (.ref x), l1, l2, l3, l4, l5, l6] [.ref x, .ref s0] h Q := ww_step rfl
set_option maxRecDepth 20000 in
theorem q5000_935 (l0 : Option Value) (l1 : Option Value) (l2 : Option Value) (l3 : Option Value) (l5 : Option Value) (l6 : Option Value) (x : Int32) (s0 : Nat) (s1 : Nat) : ww (mp_P fx) d 5000 935 [l0, l1, l2, l3, some (.int x), l5, l6] [.ref s0, .ref s1] h Q ↔ ww (mp_P fx) d 5000 937 [l0, l1, l2, l3, some (.int x), l5, l6] [.int x, .ref s0, .ref s1] h Q := ww_step rfl
set_option maxRecDepth 20000 in
theorem q5000_937 (ls : mm_V) (s0 : Int32) (s1 : Nat) (s2 : Nat) : ww (mp_P fx) d 5000 937 ls [.int s0, .ref s1, .ref s2] h Q ↔ ww (mp_P fx) d 5000 938 ls [.int 1, .int s0, .ref s1, .ref s2] h Q := wr_iconst (i := 1) rfl
set_option maxRecDepth 20000 in
theorem q5000_938 (ls : mm_V) (s0 : Int32) (s1 : Int32) (s2 : Nat) (s3 : Nat) : ww (mp_P fx) d 5000 938 ls [.int s0, .int s1, .ref s2, .ref s3] h Q ↔ ww (mp_P fx) d 5000 939 ls [.int (s1 + s0), .ref s2, .ref s3] h Q := wr_iadd rfl
set_option maxRecDepth 20000 in
theorem q5000_939 (ls : mm_V) (s0 : Int32) (s1 : Nat) (s2 : Nat) : ww (mp_P fx) d 5000 939 ls [.int s0, .ref s1, .ref s2] h Q ↔ ∃ x, mm_gI h s1 0 9 s0 = some x ∧ ww (mp_P fx) d 5000 940 ls [.int x, .ref s2] h Q := wr_iaload rfl
set_option maxRecDepth 20000 in
theorem q5000_940 (ls : mm_V) (s0 : Int32) (s1 : Nat) (hc : mm_cls h s1 = 9) : ww (mp_P fx) (d + 1) 5000 940 ls [.int s0, .ref s1] h Q ↔ wm (mp_P fx) d 185 [.ref s1, .int s0] h (fun r h' => ww (mp_P fx) (d + 1) 5000 943 ls (r.toList ++ []) h' Q) := wr_virtual rfl (mm_recv_ok (n := 1) (rc := 9) ⟨rfl, rfl⟩ rfl hc (by decide)) rfl
set_option maxRecDepth 20000 in
theorem q5000_943 (l0 : Option Value) (l1 : Option Value) (l3 : Option Value) (l4 : Option Value) (l5 : Option Value) (l6 : Option Value) (x : Nat) (s0 : Int32) : ww (mp_P fx) d 5000 943 [l0, l1, some (.ref x), l3, l4, l5, l6] [.int s0] h Q ↔ ww (mp_P fx) d 5000 944 [l0, l1, some (.ref x), l3, l4, l5, l6] [.ref x, .int s0] h Q := ww_step rfl
set_option maxRecDepth 20000 in
theorem q5000_944 (l1 : Option Value) (l2 : Option Value) (l3 : Option Value) (l4 : Option Value) (l5 : Option Value) (l6 : Option Value) (x : Nat) (s0 : Nat) (s1 : Int32) : ww (mp_P fx) d 5000 944 [some (.ref x), l1, l2, l3, l4, l5, l6] [.ref s0, .int s1] h Q ↔ ww (mp_P fx) d 5000 945 [some (.ref x), l1, l2, l3, l4, l5, l6] [.ref x, .ref s0, .int s1] h Q := ww_step rfl
set_option maxRecDepth 20000 in
theorem q5000_945 (l0 : Option Value) (l1 : Option Value) (l2 : Option Value) (l3 : Option Value) (l5 : Option Value) (l6 : Option Value) (x : Int32) (s0 : Nat) (s1 : Nat) (s2 : Int32) : ww (mp_P fx) d 5000 945 [l0, l1, l2, l3, some (.int x), l5, l6] [.ref s0, .ref s1, .int s2] h Q ↔ ww (mp_P fx) d 5000 947 [l0, l1, l2, l3, some (.int x), l5, l6] [.int x, .ref s0, .ref s1, .int s2] h Q := ww_step rfl
set_option maxRecDepth 20000 in
theorem q5000_947 (ls : mm_V) (s0 : Int32) (s1 : Nat) (s2 : Nat) (s3 : Int32) : ww (mp_P fx) d 5000 947 ls [.int s0, .ref s1, .ref s2, .int s3] h Q ↔ ww (mp_P fx) d 5000 948 ls [.int 1, .int s0, .ref s1, .ref s2, .int s3] h Q := wr_iconst (i := 1) rfl
set_option maxRecDepth 20000 in
theorem q5000_948 (ls : mm_V) (s0 : Int32) (s1 : Int32) (s2 : Nat) (s3 : Nat) (s4 : Int32) : ww (mp_P fx) d 5000 948 ls [.int s0, .int s1, .ref s2, .ref s3, .int s4] h Q ↔ ww (mp_P fx) d 5000 949 ls [.int (s1 + s0), .ref s2, .ref s3, .int s4] h Q := wr_iadd rfl
set_option maxRecDepth 20000 in
theorem q5000_949 (ls : mm_V) (s0 : Int32) (s1 : Nat) (s2 : Nat) (s3 : Int32) : ww (mp_P fx) d 5000 949 ls [.int s0, .ref s1, .ref s2, .int s3] h Q ↔ ∃ x, mm_gI h s1 0 9 s0 = some x ∧ ww (mp_P fx) d 5000 950 ls [.int x, .ref s2, .int s3] h Q := wr_iaload rfl
set_option maxRecDepth 20000 in
theorem q5000_950 (ls : mm_V) (s0 : Int32) (s1 : Nat) (s2 : Int32) (hc : mm_cls h s1 = 10) : ww (mp_P fx) (d + 1) 5000 950 ls [.int s0, .ref s1, .int s2] h Q ↔ wm (mp_P fx) d 313 [.ref s1, .int s0] h (fun r h' => ww (mp_P fx) (d + 1) 5000 953 ls (r.toList ++ [.int s2]) h' Q) := wr_virtual rfl (mm_recv_ok (n := 1) (rc := 10) ⟨rfl, rfl⟩ rfl hc (by decide)) rfl
set_option maxRecDepth 20000 in
theorem q5000_953 (ls : mm_V) (s0 : Int32) (s1 : Int32) : ww (mp_P fx) d 5000 953 ls [.int s0, .int s1] h Q ↔ (if s1 = s0 then ww (mp_P fx) d 5000 1331 ls [] h Q else ww (mp_P fx) d 5000 956 ls [] h Q) := wr_icmp_eq (t := 1331) rfl
set_option maxRecDepth 20000 in
theorem q5000_956 (ls : mm_V) : ww (mp_P fx) d 5000 956 ls [] h Q ↔ ww (mp_P fx) d 5000 957 ls [.int 0] h Q := wr_iconst (i := 0) rfl
set_option maxRecDepth 20000 in
theorem q5000_957 (ls : mm_V) (s0 : Int32) (hb : mm_ret (mp_sig 5000).2.2.2 (.int s0) = true) : ww (mp_P fx) d 5000 957 ls [.int s0] h Q ↔ Q (some (.int s0)) h := wr_ireturn rfl hb
set_option maxRecDepth 20000 in
theorem q5000_958 (l0 : Option Value) (l2 : Option Value) (l3 : Option Value) (l4 : Option Value) (l5 : Option Value) (l6 : Option Value) (x : Nat) : ww (mp_P fx) d 5000 958 [l0, some (.ref x), l2, l3, l4, l5, l6] [] h Q ↔ ww (mp_P fx) d 5000 959 [l0, some (.ref x), l2, l3, l4, l5, l6] [.ref x] h Q := ww_step rfl
set_option maxRecDepth 20000 in
theorem q5000_959 (l1 : Option Value) (l2 : Option Value) (l3 : Option Value) (l4 : Option Value) (l5 : Option Value) (l6 : Option Value) (x : Nat) (s0 : Nat) : ww (mp_P fx) d 5000 959 [some (.ref x), l1, l2, l3, l4, l5, l6] [.ref s0] h Q ↔ ww (mp_P fx) d 5000 960 [some (.ref x), l1, l2, l3, l4, l5, l6] [.ref x, .ref s0] h Q := ww_step rfl
set_option maxRecDepth 20000 in
theorem q5000_960 (l0 : Option Value) (l1 : Option Value) (l2 : Option Value) (l3 : Option Value) (l5 : Option Value) (l6 : Option Value) (x : Int32) (s0 : Nat) (s1 : Nat) : ww (mp_P fx) d 5000 960 [l0, l1, l2, l3, some (.int x), l5, l6] [.ref s0, .ref s1] h Q ↔ ww (mp_P fx) d 5000 962 [l0, l1, l2, l3, some (.int x), l5, l6] [.int x, .ref s0, .ref s1] h Q := ww_step rfl
set_option maxRecDepth 20000 in
theorem q5000_962 (ls : mm_V) (s0 : Int32) (s1 : Nat) (s2 : Nat) : ww (mp_P fx) d 5000 962 ls [.int s0, .ref s1, .ref s2] h Q ↔ ww (mp_P fx) d 5000 963 ls [.int 1, .int s0, .ref s1, .ref s2] h Q := wr_iconst (i := 1) rfl
set_option maxRecDepth 20000 in
theorem q5000_963 (ls : mm_V) (s0 : Int32) (s1 : Int32) (s2 : Nat) (s3 : Nat) : ww (mp_P fx) d 5000 963 ls [.int s0, .int s1, .ref s2, .ref s3] h Q ↔ ww (mp_P fx) d 5000 964 ls [.int (s1 + s0), .ref s2, .ref s3] h Q := wr_iadd rfl
set_option maxRecDepth 20000 in
theorem q5000_964 (ls : mm_V) (s0 : Int32) (s1 : Nat) (s2 : Nat) : ww (mp_P fx) d 5000 964 ls [.int s0, .ref s1, .ref s2] h Q ↔ ∃ x, mm_gI h s1 0 9 s0 = some x ∧ ww (mp_P fx) d 5000 965 ls [.int x, .ref s2] h Q := wr_iaload rfl
set_option maxRecDepth 20000 in
theorem q5000_965 (ls : mm_V) (s0 : Int32) (s1 : Nat) (hc : mm_cls h s1 = 9) : ww (mp_P fx) (d + 1) 5000 965 ls [.int s0, .ref s1] h Q ↔ wm (mp_P fx) d 186 [.ref s1, .int s0] h (fun r h' => ww (mp_P fx) (d + 1) 5000 968 ls (r.toList ++ []) h' Q) := wr_virtual rfl (mm_recv_ok (n := 1) (rc := 9) ⟨rfl, rfl⟩ rfl hc (by decide)) rfl
set_option maxRecDepth 20000 in
theorem q5000_968 (l0 : Option Value) (l1 : Option Value) (l3 : Option Value) (l4 : Option Value) (l5 : Option Value) (l6 : Option Value) (x : Nat) (s0 : Int32) : ww (mp_P fx) d 5000 968 [l0, l1, some (.ref x), l3, l4, l5, l6] [.int s0] h Q ↔ ww (mp_P fx) d 5000 969 [l0, l1, some (.ref x), l3, l4, l5, l6] [.ref x, .int s0] h Q := ww_step rfl
set_option maxRecDepth 20000 in
theorem q5000_969 (l1 : Option Value) (l2 : Option Value) (l3 : Option Value) (l4 : Option Value) (l5 : Option Value) (l6 : Option Value) (x : Nat) (s0 : Nat) (s1 : Int32) : ww (mp_P fx) d 5000 969 [some (.ref x), l1, l2, l3, l4, l5, l6] [.ref s0, .int s1] h Q ↔ ww (mp_P fx) d 5000 970 [some (.ref x), l1, l2, l3, l4, l5, l6] [.ref x, .ref s0, .int s1] h Q := ww_step rfl
set_option maxRecDepth 20000 in
theorem q5000_970 (l0 : Option Value) (l1 : Option Value) (l2 : Option Value) (l3 : Option Value) (l5 : Option Value) (l6 : Option Value) (x : Int32) (s0 : Nat) (s1 : Nat) (s2 : Int32) : ww (mp_P fx) d 5000 970 [l0, l1, l2, l3, some (.int x), l5, l6] [.ref s0, .ref s1, .int s2] h Q ↔ ww (mp_P fx) d 5000 972 [l0, l1, l2, l3, some (.int x), l5, l6] [.int x, .ref s0, .ref s1, .int s2] h Q := ww_step rfl
set_option maxRecDepth 20000 in
theorem q5000_972 (ls : mm_V) (s0 : Int32) (s1 : Nat) (s2 : Nat) (s3 : Int32) : ww (mp_P fx) d 5000 972 ls [.int s0, .ref s1, .ref s2, .int s3] h Q ↔ ww (mp_P fx) d 5000 973 ls [.int 1, .int s0, .ref s1, .ref s2, .int s3] h Q := wr_iconst (i := 1) rfl
set_option maxRecDepth 20000 in
theorem q5000_973 (ls : mm_V) (s0 : Int32) (s1 : Int32) (s2 : Nat) (s3 : Nat) (s4 : Int32) : ww (mp_P fx) d 5000 973 ls [.int s0, .int s1, .ref s2, .ref s3, .int s4] h Q ↔ ww (mp_P fx) d 5000 974 ls [.int (s1 + s0), .ref s2, .ref s3, .int s4] h Q := wr_iadd rfl
set_option maxRecDepth 20000 in
theorem q5000_974 (ls : mm_V) (s0 : Int32) (s1 : Nat) (s2 : Nat) (s3 : Int32) : ww (mp_P fx) d 5000 974 ls [.int s0, .ref s1, .ref s2, .int s3] h Q ↔ ∃ x, mm_gI h s1 0 9 s0 = some x ∧ ww (mp_P fx) d 5000 975 ls [.int x, .ref s2, .int s3] h Q := wr_iaload rfl
set_option maxRecDepth 20000 in
theorem q5000_975 (ls : mm_V) (s0 : Int32) (s1 : Nat) (s2 : Int32) (hc : mm_cls h s1 = 10) : ww (mp_P fx) (d + 1) 5000 975 ls [.int s0, .ref s1, .int s2] h Q ↔ wm (mp_P fx) d 314 [.ref s1, .int s0] h (fun r h' => ww (mp_P fx) (d + 1) 5000 978 ls (r.toList ++ [.int s2]) h' Q) := wr_virtual rfl (mm_recv_ok (n := 1) (rc := 10) ⟨rfl, rfl⟩ rfl hc (by decide)) rfl
set_option maxRecDepth 20000 in
theorem q5000_978 (ls : mm_V) (s0 : Int32) (s1 : Int32) : ww (mp_P fx) d 5000 978 ls [.int s0, .int s1] h Q ↔ (if s1 = s0 then ww (mp_P fx) d 5000 1331 ls [] h Q else ww (mp_P fx) d 5000 981 ls [] h Q) := wr_icmp_eq (t := 1331) rfl
set_option maxRecDepth 20000 in
theorem q5000_981 (ls : mm_V) : ww (mp_P fx) d 5000 981 ls [] h Q ↔ ww (mp_P fx) d 5000 982 ls [.int 0] h Q := wr_iconst (i := 0) rfl
set_option maxRecDepth 20000 in
theorem q5000_982 (ls : mm_V) (s0 : Int32) (hb : mm_ret (mp_sig 5000).2.2.2 (.int s0) = true) : ww (mp_P fx) d 5000 982 ls [.int s0] h Q ↔ Q (some (.int s0)) h := wr_ireturn rfl hb
set_option maxRecDepth 20000 in
theorem q5000_983 (l0 : Option Value) (l2 : Option Value) (l3 : Option Value) (l4 : Option Value) (l5 : Option Value) (l6 : Option Value) (x : Nat) : ww (mp_P fx) d 5000 983 [l0, some (.ref x), l2, l3, l4, l5, l6] [] h Q ↔ ww (mp_P fx) d 5000 984 [l0, some (.ref x), l2, l3, l4, l5, l6] [.ref x] h Q := ww_step rfl
set_option maxRecDepth 20000 in
theorem q5000_984 (ls : mm_V) (s0 : Nat) (hc : mm_cls h s0 = 9) : ww (mp_P fx) (d + 1) 5000 984 ls [.ref s0] h Q ↔ wm (mp_P fx) d 187 [.ref s0] h (fun r h' => ww (mp_P fx) (d + 1) 5000 987 ls (r.toList ++ []) h' Q) := wr_virtual rfl (mm_recv_ok (n := 0) (rc := 9) ⟨rfl, rfl⟩ rfl hc (by decide)) rfl
set_option maxRecDepth 20000 in
theorem q5000_987 (l0 : Option Value) (l1 : Option Value) (l3 : Option Value) (l4 : Option Value) (l5 : Option Value) (l6 : Option Value) (x : Nat) (s0 : Int32) : ww (mp_P fx) d 5000 987 [l0, l1, some (.ref x), l3, l4, l5, l6] [.int s0] h Q ↔ ww (mp_P fx) d 5000 988 [l0, l1, some (.ref x), l3, l4, l5, l6] [.ref x, .int s0] h Q := ww_step rfl
set_option maxRecDepth 20000 in
theorem q5000_988 (ls : mm_V) (s0 : Nat) (s1 : Int32) (hc : mm_cls h s0 = 10) : ww (mp_P fx) (d + 1) 5000 988 ls [.ref s0, .int s1] h Q ↔ wm (mp_P fx) d 315 [.ref s0] h (fun r h' => ww (mp_P fx) (d + 1) 5000 991 ls (r.toList ++ [.int s1]) h' Q) := wr_virtual rfl (mm_recv_ok (n := 0) (rc := 10) ⟨rfl, rfl⟩ rfl hc (by decide)) rfl
set_option maxRecDepth 20000 in
theorem q5000_991 (ls : mm_V) (s0 : Int32) (s1 : Int32) : ww (mp_P fx) d 5000 991 ls [.int s0, .int s1] h Q ↔ (if s1 = s0 then ww (mp_P fx) d 5000 1331 ls [] h Q else ww (mp_P fx) d 5000 994 ls [] h Q) := wr_icmp_eq (t := 1331) rfl
set_option maxRecDepth 20000 in
theorem q5000_994 (ls : mm_V) : ww (mp_P fx) d 5000 994 ls [] h Q ↔ ww (mp_P fx) d 5000 995 ls [.int 0] h Q := wr_iconst (i := 0) rfl
set_option maxRecDepth 20000 in
theorem q5000_995 (ls : mm_V) (s0 : Int32) (hb : mm_ret (mp_sig 5000).2.2.2 (.int s0) = true) : ww (mp_P fx) d 5000 995 ls [.int s0] h Q ↔ Q (some (.int s0)) h := wr_ireturn rfl hb
set_option maxRecDepth 20000 in
theorem q5000_996 (l0 : Option Value) (l2 : Option Value) (l3 : Option Value) (l4 : Option Value) (l5 : Option Value) (l6 : Option Value) (x : Nat) : ww (mp_P fx) d 5000 996 [l0, some (.ref x), l2, l3, l4, l5, l6] [] h Q ↔ ww (mp_P fx) d 5000 997 [l0, some (.ref x), l2, l3, l4, l5, l6] [.ref x] h Q := ww_step rfl
set_option maxRecDepth 20000 in
theorem q5000_997 (l1 : Option Value) (l2 : Option Value) (l3 : Option Value) (l4 : Option Value) (l5 : Option Value) (l6 : Option Value) (x : Nat) (s0 : Nat) : ww (mp_P fx) d 5000 997 [some (.ref x), l1, l2, l3, l4, l5, l6] [.ref s0] h Q ↔ ww (mp_P fx) d 5000 998 [some (.ref x), l1, l2, l3, l4, l5, l6] [.ref x, .ref s0] h Q := ww_step rfl
set_option maxRecDepth 20000 in
theorem q5000_998 (l0 : Option Value) (l1 : Option Value) (l2 : Option Value) (l3 : Option Value) (l5 : Option Value) (l6 : Option Value) (x : Int32) (s0 : Nat) (s1 : Nat) : ww (mp_P fx) d 5000 998 [l0, l1, l2, l3, some (.int x), l5, l6] [.ref s0, .ref s1] h Q ↔ ww (mp_P fx) d 5000 1000 [l0, l1, l2, l3, some (.int x), l5, l6] [.int x, .ref s0, .ref s1] h Q := ww_step rfl
set_option maxRecDepth 20000 in
theorem q5000_1000 (ls : mm_V) (s0 : Int32) (s1 : Nat) (s2 : Nat) : ww (mp_P fx) d 5000 1000 ls [.int s0, .ref s1, .ref s2] h Q ↔ ww (mp_P fx) d 5000 1001 ls [.int 1, .int s0, .ref s1, .ref s2] h Q := wr_iconst (i := 1) rfl
set_option maxRecDepth 20000 in
theorem q5000_1001 (ls : mm_V) (s0 : Int32) (s1 : Int32) (s2 : Nat) (s3 : Nat) : ww (mp_P fx) d 5000 1001 ls [.int s0, .int s1, .ref s2, .ref s3] h Q ↔ ww (mp_P fx) d 5000 1002 ls [.int (s1 + s0), .ref s2, .ref s3] h Q := wr_iadd rfl
set_option maxRecDepth 20000 in
theorem q5000_1002 (ls : mm_V) (s0 : Int32) (s1 : Nat) (s2 : Nat) : ww (mp_P fx) d 5000 1002 ls [.int s0, .ref s1, .ref s2] h Q ↔ ∃ x, mm_gI h s1 0 9 s0 = some x ∧ ww (mp_P fx) d 5000 1003 ls [.int x, .ref s2] h Q := wr_iaload rfl
set_option maxRecDepth 20000 in
theorem q5000_1003 (l1 : Option Value) (l2 : Option Value) (l3 : Option Value) (l4 : Option Value) (l5 : Option Value) (l6 : Option Value) (x : Nat) (s0 : Int32) (s1 : Nat) : ww (mp_P fx) d 5000 1003 [some (.ref x), l1, l2, l3, l4, l5, l6] [.int s0, .ref s1] h Q ↔ ww (mp_P fx) d 5000 1004 [some (.ref x), l1, l2, l3, l4, l5, l6] [.ref x, .int s0, .ref s1] h Q := ww_step rfl
set_option maxRecDepth 20000 in
theorem q5000_1004 (l0 : Option Value) (l1 : Option Value) (l2 : Option Value) (l3 : Option Value) (l5 : Option Value) (l6 : Option Value) (x : Int32) (s0 : Nat) (s1 : Int32) (s2 : Nat) : ww (mp_P fx) d 5000 1004 [l0, l1, l2, l3, some (.int x), l5, l6] [.ref s0, .int s1, .ref s2] h Q ↔ ww (mp_P fx) d 5000 1006 [l0, l1, l2, l3, some (.int x), l5, l6] [.int x, .ref s0, .int s1, .ref s2] h Q := ww_step rfl
set_option maxRecDepth 20000 in
theorem q5000_1006 (ls : mm_V) (s0 : Int32) (s1 : Nat) (s2 : Int32) (s3 : Nat) : ww (mp_P fx) d 5000 1006 ls [.int s0, .ref s1, .int s2, .ref s3] h Q ↔ ww (mp_P fx) d 5000 1007 ls [.int 2, .int s0, .ref s1, .int s2, .ref s3] h Q := wr_iconst (i := 2) rfl
set_option maxRecDepth 20000 in
theorem q5000_1007 (ls : mm_V) (s0 : Int32) (s1 : Int32) (s2 : Nat) (s3 : Int32) (s4 : Nat) : ww (mp_P fx) d 5000 1007 ls [.int s0, .int s1, .ref s2, .int s3, .ref s4] h Q ↔ ww (mp_P fx) d 5000 1008 ls [.int (s1 + s0), .ref s2, .int s3, .ref s4] h Q := wr_iadd rfl
set_option maxRecDepth 20000 in
theorem q5000_1008 (ls : mm_V) (s0 : Int32) (s1 : Nat) (s2 : Int32) (s3 : Nat) : ww (mp_P fx) d 5000 1008 ls [.int s0, .ref s1, .int s2, .ref s3] h Q ↔ ∃ x, mm_gI h s1 0 9 s0 = some x ∧ ww (mp_P fx) d 5000 1009 ls [.int x, .int s2, .ref s3] h Q := wr_iaload rfl
set_option maxRecDepth 20000 in
theorem q5000_1009 (l1 : Option Value) (l2 : Option Value) (l3 : Option Value) (l4 : Option Value) (l5 : Option Value) (l6 : Option Value) (x : Nat) (s0 : Int32) (s1 : Int32) (s2 : Nat) : ww (mp_P fx) d 5000 1009 [some (.ref x), l1, l2, l3, l4, l5, l6] [.int s0, .int s1, .ref s2] h Q ↔ ww (mp_P fx) d 5000 1010 [some (.ref x), l1, l2, l3, l4, l5, l6] [.ref x, .int s0, .int s1, .ref s2] h Q := ww_step rfl
set_option maxRecDepth 20000 in
theorem q5000_1010 (l0 : Option Value) (l1 : Option Value) (l2 : Option Value) (l3 : Option Value) (l5 : Option Value) (l6 : Option Value) (x : Int32) (s0 : Nat) (s1 : Int32) (s2 : Int32) (s3 : Nat) : ww (mp_P fx) d 5000 1010 [l0, l1, l2, l3, some (.int x), l5, l6] [.ref s0, .int s1, .int s2, .ref s3] h Q ↔ ww (mp_P fx) d 5000 1012 [l0, l1, l2, l3, some (.int x), l5, l6] [.int x, .ref s0, .int s1, .int s2, .ref s3] h Q := ww_step rfl
set_option maxRecDepth 20000 in
theorem q5000_1012 (ls : mm_V) (s0 : Int32) (s1 : Nat) (s2 : Int32) (s3 : Int32) (s4 : Nat) : ww (mp_P fx) d 5000 1012 ls [.int s0, .ref s1, .int s2, .int s3, .ref s4] h Q ↔ ww (mp_P fx) d 5000 1013 ls [.int 3, .int s0, .ref s1, .int s2, .int s3, .ref s4] h Q := wr_iconst (i := 3) rfl
set_option maxRecDepth 20000 in
theorem q5000_1013 (ls : mm_V) (s0 : Int32) (s1 : Int32) (s2 : Nat) (s3 : Int32) (s4 : Int32) (s5 : Nat) : ww (mp_P fx) d 5000 1013 ls [.int s0, .int s1, .ref s2, .int s3, .int s4, .ref s5] h Q ↔ ww (mp_P fx) d 5000 1014 ls [.int (s1 + s0), .ref s2, .int s3, .int s4, .ref s5] h Q := wr_iadd rfl
set_option maxRecDepth 20000 in
theorem q5000_1014 (ls : mm_V) (s0 : Int32) (s1 : Nat) (s2 : Int32) (s3 : Int32) (s4 : Nat) : ww (mp_P fx) d 5000 1014 ls [.int s0, .ref s1, .int s2, .int s3, .ref s4] h Q ↔ ∃ x, mm_gI h s1 0 9 s0 = some x ∧ ww (mp_P fx) d 5000 1015 ls [.int x, .int s2, .int s3, .ref s4] h Q := wr_iaload rfl
set_option maxRecDepth 20000 in
theorem q5000_1015 (ls : mm_V) (s0 : Int32) (s1 : Int32) (s2 : Int32) (s3 : Nat) : ww (mp_P fx) d 5000 1015 ls [.int s0, .int s1, .int s2, .ref s3] h Q ↔ (if s0 = 0 then ww (mp_P fx) d 5000 1022 ls [.int s1, .int s2, .ref s3] h Q else ww (mp_P fx) d 5000 1018 ls [.int s1, .int s2, .ref s3] h Q) := wr_if_eq (t := 1022) rfl
set_option maxRecDepth 20000 in
theorem q5000_1018 (ls : mm_V) (s0 : Int32) (s1 : Int32) (s2 : Nat) : ww (mp_P fx) d 5000 1018 ls [.int s0, .int s1, .ref s2] h Q ↔ ww (mp_P fx) d 5000 1019 ls [.int 1, .int s0, .int s1, .ref s2] h Q := wr_iconst (i := 1) rfl
set_option maxRecDepth 20000 in
theorem q5000_1019 (ls : mm_V) (s0 : Int32) (s1 : Int32) (s2 : Int32) (s3 : Nat) : ww (mp_P fx) d 5000 1019 ls [.int s0, .int s1, .int s2, .ref s3] h Q ↔ ww (mp_P fx) d 5000 1023 ls [.int s0, .int s1, .int s2, .ref s3] h Q := wr_goto (t := 1023) rfl
set_option maxRecDepth 20000 in
theorem q5000_1022 (ls : mm_V) (s0 : Int32) (s1 : Int32) (s2 : Nat) : ww (mp_P fx) d 5000 1022 ls [.int s0, .int s1, .ref s2] h Q ↔ ww (mp_P fx) d 5000 1023 ls [.int 0, .int s0, .int s1, .ref s2] h Q := wr_iconst (i := 0) rfl
set_option maxRecDepth 20000 in
theorem q5000_1023 (ls : mm_V) (s0 : Int32) (s1 : Int32) (s2 : Int32) (s3 : Nat) (hc : mm_cls h s3 = 9) : ww (mp_P fx) (d + 1) 5000 1023 ls [.int s0, .int s1, .int s2, .ref s3] h Q ↔ wm (mp_P fx) d 188 [.ref s3, .int s2, .int s1, .int s0] h (fun r h' => ww (mp_P fx) (d + 1) 5000 1026 ls (r.toList ++ []) h' Q) := wr_virtual rfl (mm_recv_ok (n := 3) (rc := 9) ⟨rfl, rfl⟩ rfl hc (by decide)) rfl
set_option maxRecDepth 20000 in
theorem q5000_1026 (l0 : Option Value) (l1 : Option Value) (l3 : Option Value) (l4 : Option Value) (l5 : Option Value) (l6 : Option Value) (x : Nat) (s0 : Int32) : ww (mp_P fx) d 5000 1026 [l0, l1, some (.ref x), l3, l4, l5, l6] [.int s0] h Q ↔ ww (mp_P fx) d 5000 1027 [l0, l1, some (.ref x), l3, l4, l5, l6] [.ref x, .int s0] h Q := ww_step rfl
set_option maxRecDepth 20000 in
theorem q5000_1027 (l1 : Option Value) (l2 : Option Value) (l3 : Option Value) (l4 : Option Value) (l5 : Option Value) (l6 : Option Value) (x : Nat) (s0 : Nat) (s1 : Int32) : ww (mp_P fx) d 5000 1027 [some (.ref x), l1, l2, l3, l4, l5, l6] [.ref s0, .int s1] h Q ↔ ww (mp_P fx) d 5000 1028 [some (.ref x), l1, l2, l3, l4, l5, l6] [.ref x, .ref s0, .int s1] h Q := ww_step rfl
set_option maxRecDepth 20000 in
theorem q5000_1028 (l0 : Option Value) (l1 : Option Value) (l2 : Option Value) (l3 : Option Value) (l5 : Option Value) (l6 : Option Value) (x : Int32) (s0 : Nat) (s1 : Nat) (s2 : Int32) : ww (mp_P fx) d 5000 1028 [l0, l1, l2, l3, some (.int x), l5, l6] [.ref s0, .ref s1, .int s2] h Q ↔ ww (mp_P fx) d 5000 1030 [l0, l1, l2, l3, some (.int x), l5, l6] [.int x, .ref s0, .ref s1, .int s2] h Q := ww_step rfl
set_option maxRecDepth 20000 in
theorem q5000_1030 (ls : mm_V) (s0 : Int32) (s1 : Nat) (s2 : Nat) (s3 : Int32) : ww (mp_P fx) d 5000 1030 ls [.int s0, .ref s1, .ref s2, .int s3] h Q ↔ ww (mp_P fx) d 5000 1031 ls [.int 1, .int s0, .ref s1, .ref s2, .int s3] h Q := wr_iconst (i := 1) rfl
set_option maxRecDepth 20000 in
theorem q5000_1031 (ls : mm_V) (s0 : Int32) (s1 : Int32) (s2 : Nat) (s3 : Nat) (s4 : Int32) : ww (mp_P fx) d 5000 1031 ls [.int s0, .int s1, .ref s2, .ref s3, .int s4] h Q ↔ ww (mp_P fx) d 5000 1032 ls [.int (s1 + s0), .ref s2, .ref s3, .int s4] h Q := wr_iadd rfl
set_option maxRecDepth 20000 in
theorem q5000_1032 (ls : mm_V) (s0 : Int32) (s1 : Nat) (s2 : Nat) (s3 : Int32) : ww (mp_P fx) d 5000 1032 ls [.int s0, .ref s1, .ref s2, .int s3] h Q ↔ ∃ x, mm_gI h s1 0 9 s0 = some x ∧ ww (mp_P fx) d 5000 1033 ls [.int x, .ref s2, .int s3] h Q := wr_iaload rfl
set_option maxRecDepth 20000 in
theorem q5000_1033 (l1 : Option Value) (l2 : Option Value) (l3 : Option Value) (l4 : Option Value) (l5 : Option Value) (l6 : Option Value) (x : Nat) (s0 : Int32) (s1 : Nat) (s2 : Int32) : ww (mp_P fx) d 5000 1033 [some (.ref x), l1, l2, l3, l4, l5, l6] [.int s0, .ref s1, .int s2] h Q ↔ ww (mp_P fx) d 5000 1034 [some (.ref x), l1, l2, l3, l4, l5, l6] [.ref x, .int s0, .ref s1, .int s2] h Q := ww_step rfl
set_option maxRecDepth 20000 in
theorem q5000_1034 (l0 : Option Value) (l1 : Option Value) (l2 : Option Value) (l3 : Option Value) (l5 : Option Value) (l6 : Option Value) (x : Int32) (s0 : Nat) (s1 : Int32) (s2 : Nat) (s3 : Int32) : ww (mp_P fx) d 5000 1034 [l0, l1, l2, l3, some (.int x), l5, l6] [.ref s0, .int s1, .ref s2, .int s3] h Q ↔ ww (mp_P fx) d 5000 1036 [l0, l1, l2, l3, some (.int x), l5, l6] [.int x, .ref s0, .int s1, .ref s2, .int s3] h Q := ww_step rfl
set_option maxRecDepth 20000 in
theorem q5000_1036 (ls : mm_V) (s0 : Int32) (s1 : Nat) (s2 : Int32) (s3 : Nat) (s4 : Int32) : ww (mp_P fx) d 5000 1036 ls [.int s0, .ref s1, .int s2, .ref s3, .int s4] h Q ↔ ww (mp_P fx) d 5000 1037 ls [.int 2, .int s0, .ref s1, .int s2, .ref s3, .int s4] h Q := wr_iconst (i := 2) rfl
set_option maxRecDepth 20000 in
theorem q5000_1037 (ls : mm_V) (s0 : Int32) (s1 : Int32) (s2 : Nat) (s3 : Int32) (s4 : Nat) (s5 : Int32) : ww (mp_P fx) d 5000 1037 ls [.int s0, .int s1, .ref s2, .int s3, .ref s4, .int s5] h Q ↔ ww (mp_P fx) d 5000 1038 ls [.int (s1 + s0), .ref s2, .int s3, .ref s4, .int s5] h Q := wr_iadd rfl
set_option maxRecDepth 20000 in
theorem q5000_1038 (ls : mm_V) (s0 : Int32) (s1 : Nat) (s2 : Int32) (s3 : Nat) (s4 : Int32) : ww (mp_P fx) d 5000 1038 ls [.int s0, .ref s1, .int s2, .ref s3, .int s4] h Q ↔ ∃ x, mm_gI h s1 0 9 s0 = some x ∧ ww (mp_P fx) d 5000 1039 ls [.int x, .int s2, .ref s3, .int s4] h Q := wr_iaload rfl
set_option maxRecDepth 20000 in
theorem q5000_1039 (l1 : Option Value) (l2 : Option Value) (l3 : Option Value) (l4 : Option Value) (l5 : Option Value) (l6 : Option Value) (x : Nat) (s0 : Int32) (s1 : Int32) (s2 : Nat) (s3 : Int32) : ww (mp_P fx) d 5000 1039 [some (.ref x), l1, l2, l3, l4, l5, l6] [.int s0, .int s1, .ref s2, .int s3] h Q ↔ ww (mp_P fx) d 5000 1040 [some (.ref x), l1, l2, l3, l4, l5, l6] [.ref x, .int s0, .int s1, .ref s2, .int s3] h Q := ww_step rfl
set_option maxRecDepth 20000 in
theorem q5000_1040 (l0 : Option Value) (l1 : Option Value) (l2 : Option Value) (l3 : Option Value) (l5 : Option Value) (l6 : Option Value) (x : Int32) (s0 : Nat) (s1 : Int32) (s2 : Int32) (s3 : Nat) (s4 : Int32) : ww (mp_P fx) d 5000 1040 [l0, l1, l2, l3, some (.int x), l5, l6] [.ref s0, .int s1, .int s2, .ref s3, .int s4] h Q ↔ ww (mp_P fx) d 5000 1042 [l0, l1, l2, l3, some (.int x), l5, l6] [.int x, .ref s0, .int s1, .int s2, .ref s3, .int s4] h Q := ww_step rfl
set_option maxRecDepth 20000 in
theorem q5000_1042 (ls : mm_V) (s0 : Int32) (s1 : Nat) (s2 : Int32) (s3 : Int32) (s4 : Nat) (s5 : Int32) : ww (mp_P fx) d 5000 1042 ls [.int s0, .ref s1, .int s2, .int s3, .ref s4, .int s5] h Q ↔ ww (mp_P fx) d 5000 1043 ls [.int 3, .int s0, .ref s1, .int s2, .int s3, .ref s4, .int s5] h Q := wr_iconst (i := 3) rfl
set_option maxRecDepth 20000 in
theorem q5000_1043 (ls : mm_V) (s0 : Int32) (s1 : Int32) (s2 : Nat) (s3 : Int32) (s4 : Int32) (s5 : Nat) (s6 : Int32) : ww (mp_P fx) d 5000 1043 ls [.int s0, .int s1, .ref s2, .int s3, .int s4, .ref s5, .int s6] h Q ↔ ww (mp_P fx) d 5000 1044 ls [.int (s1 + s0), .ref s2, .int s3, .int s4, .ref s5, .int s6] h Q := wr_iadd rfl
set_option maxRecDepth 20000 in
theorem q5000_1044 (ls : mm_V) (s0 : Int32) (s1 : Nat) (s2 : Int32) (s3 : Int32) (s4 : Nat) (s5 : Int32) : ww (mp_P fx) d 5000 1044 ls [.int s0, .ref s1, .int s2, .int s3, .ref s4, .int s5] h Q ↔ ∃ x, mm_gI h s1 0 9 s0 = some x ∧ ww (mp_P fx) d 5000 1045 ls [.int x, .int s2, .int s3, .ref s4, .int s5] h Q := wr_iaload rfl
set_option maxRecDepth 20000 in
theorem q5000_1045 (ls : mm_V) (s0 : Int32) (s1 : Int32) (s2 : Int32) (s3 : Nat) (s4 : Int32) : ww (mp_P fx) d 5000 1045 ls [.int s0, .int s1, .int s2, .ref s3, .int s4] h Q ↔ (if s0 = 0 then ww (mp_P fx) d 5000 1052 ls [.int s1, .int s2, .ref s3, .int s4] h Q else ww (mp_P fx) d 5000 1048 ls [.int s1, .int s2, .ref s3, .int s4] h Q) := wr_if_eq (t := 1052) rfl
set_option maxRecDepth 20000 in
theorem q5000_1048 (ls : mm_V) (s0 : Int32) (s1 : Int32) (s2 : Nat) (s3 : Int32) : ww (mp_P fx) d 5000 1048 ls [.int s0, .int s1, .ref s2, .int s3] h Q ↔ ww (mp_P fx) d 5000 1049 ls [.int 1, .int s0, .int s1, .ref s2, .int s3] h Q := wr_iconst (i := 1) rfl
set_option maxRecDepth 20000 in
theorem q5000_1049 (ls : mm_V) (s0 : Int32) (s1 : Int32) (s2 : Int32) (s3 : Nat) (s4 : Int32) : ww (mp_P fx) d 5000 1049 ls [.int s0, .int s1, .int s2, .ref s3, .int s4] h Q ↔ ww (mp_P fx) d 5000 1053 ls [.int s0, .int s1, .int s2, .ref s3, .int s4] h Q := wr_goto (t := 1053) rfl
set_option maxRecDepth 20000 in
theorem q5000_1052 (ls : mm_V) (s0 : Int32) (s1 : Int32) (s2 : Nat) (s3 : Int32) : ww (mp_P fx) d 5000 1052 ls [.int s0, .int s1, .ref s2, .int s3] h Q ↔ ww (mp_P fx) d 5000 1053 ls [.int 0, .int s0, .int s1, .ref s2, .int s3] h Q := wr_iconst (i := 0) rfl
set_option maxRecDepth 20000 in
theorem q5000_1053 (ls : mm_V) (s0 : Int32) (s1 : Int32) (s2 : Int32) (s3 : Nat) (s4 : Int32) (hc : mm_cls h s3 = 10) : ww (mp_P fx) (d + 1) 5000 1053 ls [.int s0, .int s1, .int s2, .ref s3, .int s4] h Q ↔ wm (mp_P fx) d 316 [.ref s3, .int s2, .int s1, .int s0] h (fun r h' => ww (mp_P fx) (d + 1) 5000 1056 ls (r.toList ++ [.int s4]) h' Q) := wr_virtual rfl (mm_recv_ok (n := 3) (rc := 10) ⟨rfl, rfl⟩ rfl hc (by decide)) rfl
set_option maxRecDepth 20000 in
theorem q5000_1056 (ls : mm_V) (s0 : Int32) (s1 : Int32) : ww (mp_P fx) d 5000 1056 ls [.int s0, .int s1] h Q ↔ (if s1 = s0 then ww (mp_P fx) d 5000 1331 ls [] h Q else ww (mp_P fx) d 5000 1059 ls [] h Q) := wr_icmp_eq (t := 1331) rfl
set_option maxRecDepth 20000 in
theorem q5000_1059 (ls : mm_V) : ww (mp_P fx) d 5000 1059 ls [] h Q ↔ ww (mp_P fx) d 5000 1060 ls [.int 0] h Q := wr_iconst (i := 0) rfl
set_option maxRecDepth 20000 in
theorem q5000_1060 (ls : mm_V) (s0 : Int32) (hb : mm_ret (mp_sig 5000).2.2.2 (.int s0) = true) : ww (mp_P fx) d 5000 1060 ls [.int s0] h Q ↔ Q (some (.int s0)) h := wr_ireturn rfl hb
set_option maxRecDepth 20000 in
theorem q5000_1061 (l0 : Option Value) (l2 : Option Value) (l3 : Option Value) (l4 : Option Value) (l5 : Option Value) (l6 : Option Value) (x : Nat) : ww (mp_P fx) d 5000 1061 [l0, some (.ref x), l2, l3, l4, l5, l6] [] h Q ↔ ww (mp_P fx) d 5000 1062 [l0, some (.ref x), l2, l3, l4, l5, l6] [.ref x] h Q := ww_step rfl
set_option maxRecDepth 20000 in
theorem q5000_1062 (ls : mm_V) (s0 : Nat) (hc : mm_cls h s0 = 9) : ww (mp_P fx) (d + 1) 5000 1062 ls [.ref s0] h Q ↔ wm (mp_P fx) d 190 [.ref s0] h (fun r h' => ww (mp_P fx) (d + 1) 5000 1065 ls (r.toList ++ []) h' Q) := wr_virtual rfl (mm_recv_ok (n := 0) (rc := 9) ⟨rfl, rfl⟩ rfl hc (by decide)) rfl
set_option maxRecDepth 20000 in
theorem q5000_1065 (l0 : Option Value) (l1 : Option Value) (l3 : Option Value) (l4 : Option Value) (l5 : Option Value) (l6 : Option Value) (x : Nat) (s0 : Int32) : ww (mp_P fx) d 5000 1065 [l0, l1, some (.ref x), l3, l4, l5, l6] [.int s0] h Q ↔ ww (mp_P fx) d 5000 1066 [l0, l1, some (.ref x), l3, l4, l5, l6] [.ref x, .int s0] h Q := ww_step rfl
set_option maxRecDepth 20000 in
theorem q5000_1066 (ls : mm_V) (s0 : Nat) (s1 : Int32) (hc : mm_cls h s0 = 10) : ww (mp_P fx) (d + 1) 5000 1066 ls [.ref s0, .int s1] h Q ↔ wm (mp_P fx) d 317 [.ref s0] h (fun r h' => ww (mp_P fx) (d + 1) 5000 1069 ls (r.toList ++ [.int s1]) h' Q) := wr_virtual rfl (mm_recv_ok (n := 0) (rc := 10) ⟨rfl, rfl⟩ rfl hc (by decide)) rfl
set_option maxRecDepth 20000 in
theorem q5000_1069 (ls : mm_V) (s0 : Int32) (s1 : Int32) : ww (mp_P fx) d 5000 1069 ls [.int s0, .int s1] h Q ↔ (if s1 = s0 then ww (mp_P fx) d 5000 1331 ls [] h Q else ww (mp_P fx) d 5000 1072 ls [] h Q) := wr_icmp_eq (t := 1331) rfl
set_option maxRecDepth 20000 in
theorem q5000_1072 (ls : mm_V) : ww (mp_P fx) d 5000 1072 ls [] h Q ↔ ww (mp_P fx) d 5000 1073 ls [.int 0] h Q := wr_iconst (i := 0) rfl
set_option maxRecDepth 20000 in
theorem q5000_1073 (ls : mm_V) (s0 : Int32) (hb : mm_ret (mp_sig 5000).2.2.2 (.int s0) = true) : ww (mp_P fx) d 5000 1073 ls [.int s0] h Q ↔ Q (some (.int s0)) h := wr_ireturn rfl hb
set_option maxRecDepth 20000 in
theorem q5000_1074 (l0 : Option Value) (l2 : Option Value) (l3 : Option Value) (l4 : Option Value) (l5 : Option Value) (l6 : Option Value) (x : Nat) : ww (mp_P fx) d 5000 1074 [l0, some (.ref x), l2, l3, l4, l5, l6] [] h Q ↔ ww (mp_P fx) d 5000 1075 [l0, some (.ref x), l2, l3, l4, l5, l6] [.ref x] h Q := ww_step rfl
set_option maxRecDepth 20000 in
theorem q5000_1075 (ls : mm_V) (s0 : Nat) (hc : mm_cls h s0 = 9) : ww (mp_P fx) (d + 1) 5000 1075 ls [.ref s0] h Q ↔ wm (mp_P fx) d 195 [.ref s0] h (fun r h' => ww (mp_P fx) (d + 1) 5000 1078 ls (r.toList ++ []) h' Q) := wr_virtual rfl (mm_recv_ok (n := 0) (rc := 9) ⟨rfl, rfl⟩ rfl hc (by decide)) rfl
set_option maxRecDepth 20000 in
theorem q5000_1078 (l0 : Option Value) (l1 : Option Value) (l3 : Option Value) (l4 : Option Value) (l5 : Option Value) (l6 : Option Value) (x : Nat) (s0 : Int32) : ww (mp_P fx) d 5000 1078 [l0, l1, some (.ref x), l3, l4, l5, l6] [.int s0] h Q ↔ ww (mp_P fx) d 5000 1079 [l0, l1, some (.ref x), l3, l4, l5, l6] [.ref x, .int s0] h Q := ww_step rfl
set_option maxRecDepth 20000 in
theorem q5000_1079 (ls : mm_V) (s0 : Nat) (s1 : Int32) (hc : mm_cls h s0 = 10) : ww (mp_P fx) (d + 1) 5000 1079 ls [.ref s0, .int s1] h Q ↔ wm (mp_P fx) d 320 [.ref s0] h (fun r h' => ww (mp_P fx) (d + 1) 5000 1082 ls (r.toList ++ [.int s1]) h' Q) := wr_virtual rfl (mm_recv_ok (n := 0) (rc := 10) ⟨rfl, rfl⟩ rfl hc (by decide)) rfl
set_option maxRecDepth 20000 in
theorem q5000_1082 (ls : mm_V) (s0 : Int32) (s1 : Int32) : ww (mp_P fx) d 5000 1082 ls [.int s0, .int s1] h Q ↔ (if s1 = s0 then ww (mp_P fx) d 5000 1331 ls [] h Q else ww (mp_P fx) d 5000 1085 ls [] h Q) := wr_icmp_eq (t := 1331) rfl
set_option maxRecDepth 20000 in
theorem q5000_1085 (ls : mm_V) : ww (mp_P fx) d 5000 1085 ls [] h Q ↔ ww (mp_P fx) d 5000 1086 ls [.int 0] h Q := wr_iconst (i := 0) rfl
set_option maxRecDepth 20000 in
theorem q5000_1086 (ls : mm_V) (s0 : Int32) (hb : mm_ret (mp_sig 5000).2.2.2 (.int s0) = true) : ww (mp_P fx) d 5000 1086 ls [.int s0] h Q ↔ Q (some (.int s0)) h := wr_ireturn rfl hb
set_option maxRecDepth 20000 in
theorem q5000_1087 (l0 : Option Value) (l2 : Option Value) (l3 : Option Value) (l4 : Option Value) (l5 : Option Value) (l6 : Option Value) (x : Nat) : ww (mp_P fx) d 5000 1087 [l0, some (.ref x), l2, l3, l4, l5, l6] [] h Q ↔ ww (mp_P fx) d 5000 1088 [l0, some (.ref x), l2, l3, l4, l5, l6] [.ref x] h Q := ww_step rfl
set_option maxRecDepth 20000 in
theorem q5000_1088 (l1 : Option Value) (l2 : Option Value) (l3 : Option Value) (l4 : Option Value) (l5 : Option Value) (l6 : Option Value) (x : Nat) (s0 : Nat) : ww (mp_P fx) d 5000 1088 [some (.ref x), l1, l2, l3, l4, l5, l6] [.ref s0] h Q ↔ ww (mp_P fx) d 5000 1089 [some (.ref x), l1, l2, l3, l4, l5, l6] [.ref x, .ref s0] h Q := ww_step rfl
set_option maxRecDepth 20000 in
theorem q5000_1089 (l0 : Option Value) (l1 : Option Value) (l2 : Option Value) (l3 : Option Value) (l5 : Option Value) (l6 : Option Value) (x : Int32) (s0 : Nat) (s1 : Nat) : ww (mp_P fx) d 5000 1089 [l0, l1, l2, l3, some (.int x), l5, l6] [.ref s0, .ref s1] h Q ↔ ww (mp_P fx) d 5000 1091 [l0, l1, l2, l3, some (.int x), l5, l6] [.int x, .ref s0, .ref s1] h Q := ww_step rfl
set_option maxRecDepth 20000 in
theorem q5000_1091 (ls : mm_V) (s0 : Int32) (s1 : Nat) (s2 : Nat) : ww (mp_P fx) d 5000 1091 ls [.int s0, .ref s1, .ref s2] h Q ↔ ww (mp_P fx) d 5000 1092 ls [.int 1, .int s0, .ref s1, .ref s2] h Q := wr_iconst (i := 1) rfl
set_option maxRecDepth 20000 in
theorem q5000_1092 (ls : mm_V) (s0 : Int32) (s1 : Int32) (s2 : Nat) (s3 : Nat) : ww (mp_P fx) d 5000 1092 ls [.int s0, .int s1, .ref s2, .ref s3] h Q ↔ ww (mp_P fx) d 5000 1093 ls [.int (s1 + s0), .ref s2, .ref s3] h Q := wr_iadd rfl
set_option maxRecDepth 20000 in
theorem q5000_1093 (ls : mm_V) (s0 : Int32) (s1 : Nat) (s2 : Nat) : ww (mp_P fx) d 5000 1093 ls [.int s0, .ref s1, .ref s2] h Q ↔ ∃ x, mm_gI h s1 0 9 s0 = some x ∧ ww (mp_P fx) d 5000 1094 ls [.int x, .ref s2] h Q := wr_iaload rfl
set_option maxRecDepth 20000 in
theorem q5000_1094 (ls : mm_V) (s0 : Int32) (s1 : Nat) (hc : mm_cls h s1 = 9) : ww (mp_P fx) (d + 1) 5000 1094 ls [.int s0, .ref s1] h Q ↔ wm (mp_P fx) d 197 [.ref s1, .int s0] h (fun r h' => ww (mp_P fx) (d + 1) 5000 1097 ls (r.toList ++ []) h' Q) := wr_virtual rfl (mm_recv_ok (n := 1) (rc := 9) ⟨rfl, rfl⟩ rfl hc (by decide)) rfl
set_option maxRecDepth 20000 in
theorem q5000_1097 (l0 : Option Value) (l1 : Option Value) (l3 : Option Value) (l4 : Option Value) (l5 : Option Value) (l6 : Option Value) (x : Nat) (s0 : Int32) : ww (mp_P fx) d 5000 1097 [l0, l1, some (.ref x), l3, l4, l5, l6] [.int s0] h Q ↔ ww (mp_P fx) d 5000 1098 [l0, l1, some (.ref x), l3, l4, l5, l6] [.ref x, .int s0] h Q := ww_step rfl
set_option maxRecDepth 20000 in
theorem q5000_1098 (l1 : Option Value) (l2 : Option Value) (l3 : Option Value) (l4 : Option Value) (l5 : Option Value) (l6 : Option Value) (x : Nat) (s0 : Nat) (s1 : Int32) : ww (mp_P fx) d 5000 1098 [some (.ref x), l1, l2, l3, l4, l5, l6] [.ref s0, .int s1] h Q ↔ ww (mp_P fx) d 5000 1099 [some (.ref x), l1, l2, l3, l4, l5, l6] [.ref x, .ref s0, .int s1] h Q := ww_step rfl
set_option maxRecDepth 20000 in
theorem q5000_1099 (l0 : Option Value) (l1 : Option Value) (l2 : Option Value) (l3 : Option Value) (l5 : Option Value) (l6 : Option Value) (x : Int32) (s0 : Nat) (s1 : Nat) (s2 : Int32) : ww (mp_P fx) d 5000 1099 [l0, l1, l2, l3, some (.int x), l5, l6] [.ref s0, .ref s1, .int s2] h Q ↔ ww (mp_P fx) d 5000 1101 [l0, l1, l2, l3, some (.int x), l5, l6] [.int x, .ref s0, .ref s1, .int s2] h Q := ww_step rfl
set_option maxRecDepth 20000 in
theorem q5000_1101 (ls : mm_V) (s0 : Int32) (s1 : Nat) (s2 : Nat) (s3 : Int32) : ww (mp_P fx) d 5000 1101 ls [.int s0, .ref s1, .ref s2, .int s3] h Q ↔ ww (mp_P fx) d 5000 1102 ls [.int 1, .int s0, .ref s1, .ref s2, .int s3] h Q := wr_iconst (i := 1) rfl
set_option maxRecDepth 20000 in
theorem q5000_1102 (ls : mm_V) (s0 : Int32) (s1 : Int32) (s2 : Nat) (s3 : Nat) (s4 : Int32) : ww (mp_P fx) d 5000 1102 ls [.int s0, .int s1, .ref s2, .ref s3, .int s4] h Q ↔ ww (mp_P fx) d 5000 1103 ls [.int (s1 + s0), .ref s2, .ref s3, .int s4] h Q := wr_iadd rfl
set_option maxRecDepth 20000 in
theorem q5000_1103 (ls : mm_V) (s0 : Int32) (s1 : Nat) (s2 : Nat) (s3 : Int32) : ww (mp_P fx) d 5000 1103 ls [.int s0, .ref s1, .ref s2, .int s3] h Q ↔ ∃ x, mm_gI h s1 0 9 s0 = some x ∧ ww (mp_P fx) d 5000 1104 ls [.int x, .ref s2, .int s3] h Q := wr_iaload rfl
set_option maxRecDepth 20000 in
theorem q5000_1104 (ls : mm_V) (s0 : Int32) (s1 : Nat) (s2 : Int32) (hc : mm_cls h s1 = 10) : ww (mp_P fx) (d + 1) 5000 1104 ls [.int s0, .ref s1, .int s2] h Q ↔ wm (mp_P fx) d 321 [.ref s1, .int s0] h (fun r h' => ww (mp_P fx) (d + 1) 5000 1107 ls (r.toList ++ [.int s2]) h' Q) := wr_virtual rfl (mm_recv_ok (n := 1) (rc := 10) ⟨rfl, rfl⟩ rfl hc (by decide)) rfl
set_option maxRecDepth 20000 in
theorem q5000_1107 (ls : mm_V) (s0 : Int32) (s1 : Int32) : ww (mp_P fx) d 5000 1107 ls [.int s0, .int s1] h Q ↔ (if s1 = s0 then ww (mp_P fx) d 5000 1331 ls [] h Q else ww (mp_P fx) d 5000 1110 ls [] h Q) := wr_icmp_eq (t := 1331) rfl
set_option maxRecDepth 20000 in
theorem q5000_1110 (ls : mm_V) : ww (mp_P fx) d 5000 1110 ls [] h Q ↔ ww (mp_P fx) d 5000 1111 ls [.int 0] h Q := wr_iconst (i := 0) rfl
set_option maxRecDepth 20000 in
theorem q5000_1111 (ls : mm_V) (s0 : Int32) (hb : mm_ret (mp_sig 5000).2.2.2 (.int s0) = true) : ww (mp_P fx) d 5000 1111 ls [.int s0] h Q ↔ Q (some (.int s0)) h := wr_ireturn rfl hb
set_option maxRecDepth 20000 in
theorem q5000_1112 (l0 : Option Value) (l2 : Option Value) (l3 : Option Value) (l4 : Option Value) (l5 : Option Value) (l6 : Option Value) (x : Nat) : ww (mp_P fx) d 5000 1112 [l0, some (.ref x), l2, l3, l4, l5, l6] [] h Q ↔ ww (mp_P fx) d 5000 1113 [l0, some (.ref x), l2, l3, l4, l5, l6] [.ref x] h Q := ww_step rfl
set_option maxRecDepth 20000 in
theorem q5000_1113 (l1 : Option Value) (l2 : Option Value) (l3 : Option Value) (l4 : Option Value) (l5 : Option Value) (l6 : Option Value) (x : Nat) (s0 : Nat) : ww (mp_P fx) d 5000 1113 [some (.ref x), l1, l2, l3, l4, l5, l6] [.ref s0] h Q ↔ ww (mp_P fx) d 5000 1114 [some (.ref x), l1, l2, l3, l4, l5, l6] [.ref x, .ref s0] h Q := ww_step rfl
set_option maxRecDepth 20000 in
theorem q5000_1114 (l0 : Option Value) (l1 : Option Value) (l2 : Option Value) (l3 : Option Value) (l5 : Option Value) (l6 : Option Value) (x : Int32) (s0 : Nat) (s1 : Nat) : ww (mp_P fx) d 5000 1114 [l0, l1, l2, l3, some (.int x), l5, l6] [.ref s0, .ref s1] h Q ↔ ww (mp_P fx) d 5000 1116 [l0, l1, l2, l3, some (.int x), l5, l6] [.int x, .ref s0, .ref s1] h Q := ww_step rfl
set_option maxRecDepth 20000 in
theorem q5000_1116 (ls : mm_V) (s0 : Int32) (s1 : Nat) (s2 : Nat) : ww (mp_P fx) d 5000 1116 ls [.int s0, .ref s1, .ref s2] h Q ↔ ww (mp_P fx) d 5000 1117 ls [.int 1, .int s0, .ref s1, .ref s2] h Q := wr_iconst (i := 1) rfl
set_option maxRecDepth 20000 in
theorem q5000_1117 (ls : mm_V) (s0 : Int32) (s1 : Int32) (s2 : Nat) (s3 : Nat) : ww (mp_P fx) d 5000 1117 ls [.int s0, .int s1, .ref s2, .ref s3] h Q ↔ ww (mp_P fx) d 5000 1118 ls [.int (s1 + s0), .ref s2, .ref s3] h Q := wr_iadd rfl
set_option maxRecDepth 20000 in
theorem q5000_1118 (ls : mm_V) (s0 : Int32) (s1 : Nat) (s2 : Nat) : ww (mp_P fx) d 5000 1118 ls [.int s0, .ref s1, .ref s2] h Q ↔ ∃ x, mm_gI h s1 0 9 s0 = some x ∧ ww (mp_P fx) d 5000 1119 ls [.int x, .ref s2] h Q := wr_iaload rfl
set_option maxRecDepth 20000 in
theorem q5000_1119 (l1 : Option Value) (l2 : Option Value) (l3 : Option Value) (l4 : Option Value) (l5 : Option Value) (l6 : Option Value) (x : Nat) (s0 : Int32) (s1 : Nat) : ww (mp_P fx) d 5000 1119 [some (.ref x), l1, l2, l3, l4, l5, l6] [.int s0, .ref s1] h Q ↔ ww (mp_P fx) d 5000 1120 [some (.ref x), l1, l2, l3, l4, l5, l6] [.ref x, .int s0, .ref s1] h Q := ww_step rfl
set_option maxRecDepth 20000 in
theorem q5000_1120 (l0 : Option Value) (l1 : Option Value) (l2 : Option Value) (l3 : Option Value) (l5 : Option Value) (l6 : Option Value) (x : Int32) (s0 : Nat) (s1 : Int32) (s2 : Nat) : ww (mp_P fx) d 5000 1120 [l0, l1, l2, l3, some (.int x), l5, l6] [.ref s0, .int s1, .ref s2] h Q ↔ ww (mp_P fx) d 5000 1122 [l0, l1, l2, l3, some (.int x), l5, l6] [.int x, .ref s0, .int s1, .ref s2] h Q := ww_step rfl
set_option maxRecDepth 20000 in
theorem q5000_1122 (ls : mm_V) (s0 : Int32) (s1 : Nat) (s2 : Int32) (s3 : Nat) : ww (mp_P fx) d 5000 1122 ls [.int s0, .ref s1, .int s2, .ref s3] h Q ↔ ww (mp_P fx) d 5000 1123 ls [.int 2, .int s0, .ref s1, .int s2, .ref s3] h Q := wr_iconst (i := 2) rfl
set_option maxRecDepth 20000 in
theorem q5000_1123 (ls : mm_V) (s0 : Int32) (s1 : Int32) (s2 : Nat) (s3 : Int32) (s4 : Nat) : ww (mp_P fx) d 5000 1123 ls [.int s0, .int s1, .ref s2, .int s3, .ref s4] h Q ↔ ww (mp_P fx) d 5000 1124 ls [.int (s1 + s0), .ref s2, .int s3, .ref s4] h Q := wr_iadd rfl
set_option maxRecDepth 20000 in
theorem q5000_1124 (ls : mm_V) (s0 : Int32) (s1 : Nat) (s2 : Int32) (s3 : Nat) : ww (mp_P fx) d 5000 1124 ls [.int s0, .ref s1, .int s2, .ref s3] h Q ↔ ∃ x, mm_gI h s1 0 9 s0 = some x ∧ ww (mp_P fx) d 5000 1125 ls [.int x, .int s2, .ref s3] h Q := wr_iaload rfl
set_option maxRecDepth 20000 in
theorem q5000_1125 (l1 : Option Value) (l2 : Option Value) (l3 : Option Value) (l4 : Option Value) (l5 : Option Value) (l6 : Option Value) (x : Nat) (s0 : Int32) (s1 : Int32) (s2 : Nat) : ww (mp_P fx) d 5000 1125 [some (.ref x), l1, l2, l3, l4, l5, l6] [.int s0, .int s1, .ref s2] h Q ↔ ww (mp_P fx) d 5000 1126 [some (.ref x), l1, l2, l3, l4, l5, l6] [.ref x, .int s0, .int s1, .ref s2] h Q := ww_step rfl
set_option maxRecDepth 20000 in
theorem q5000_1126 (l0 : Option Value) (l1 : Option Value) (l2 : Option Value) (l3 : Option Value) (l5 : Option Value) (l6 : Option Value) (x : Int32) (s0 : Nat) (s1 : Int32) (s2 : Int32) (s3 : Nat) : ww (mp_P fx) d 5000 1126 [l0, l1, l2, l3, some (.int x), l5, l6] [.ref s0, .int s1, .int s2, .ref s3] h Q ↔ ww (mp_P fx) d 5000 1128 [l0, l1, l2, l3, some (.int x), l5, l6] [.int x, .ref s0, .int s1, .int s2, .ref s3] h Q := ww_step rfl
set_option maxRecDepth 20000 in
theorem q5000_1128 (ls : mm_V) (s0 : Int32) (s1 : Nat) (s2 : Int32) (s3 : Int32) (s4 : Nat) : ww (mp_P fx) d 5000 1128 ls [.int s0, .ref s1, .int s2, .int s3, .ref s4] h Q ↔ ww (mp_P fx) d 5000 1129 ls [.int 3, .int s0, .ref s1, .int s2, .int s3, .ref s4] h Q := wr_iconst (i := 3) rfl
set_option maxRecDepth 20000 in
theorem q5000_1129 (ls : mm_V) (s0 : Int32) (s1 : Int32) (s2 : Nat) (s3 : Int32) (s4 : Int32) (s5 : Nat) : ww (mp_P fx) d 5000 1129 ls [.int s0, .int s1, .ref s2, .int s3, .int s4, .ref s5] h Q ↔ ww (mp_P fx) d 5000 1130 ls [.int (s1 + s0), .ref s2, .int s3, .int s4, .ref s5] h Q := wr_iadd rfl
set_option maxRecDepth 20000 in
theorem q5000_1130 (ls : mm_V) (s0 : Int32) (s1 : Nat) (s2 : Int32) (s3 : Int32) (s4 : Nat) : ww (mp_P fx) d 5000 1130 ls [.int s0, .ref s1, .int s2, .int s3, .ref s4] h Q ↔ ∃ x, mm_gI h s1 0 9 s0 = some x ∧ ww (mp_P fx) d 5000 1131 ls [.int x, .int s2, .int s3, .ref s4] h Q := wr_iaload rfl
set_option maxRecDepth 20000 in
theorem q5000_1131 (l1 : Option Value) (l2 : Option Value) (l3 : Option Value) (l4 : Option Value) (l5 : Option Value) (l6 : Option Value) (x : Nat) (s0 : Int32) (s1 : Int32) (s2 : Int32) (s3 : Nat) : ww (mp_P fx) d 5000 1131 [some (.ref x), l1, l2, l3, l4, l5, l6] [.int s0, .int s1, .int s2, .ref s3] h Q ↔ ww (mp_P fx) d 5000 1132 [some (.ref x), l1, l2, l3, l4, l5, l6] [.ref x, .int s0, .int s1, .int s2, .ref s3] h Q := ww_step rfl
set_option maxRecDepth 20000 in
theorem q5000_1132 (l0 : Option Value) (l1 : Option Value) (l2 : Option Value) (l3 : Option Value) (l5 : Option Value) (l6 : Option Value) (x : Int32) (s0 : Nat) (s1 : Int32) (s2 : Int32) (s3 : Int32) (s4 : Nat) : ww (mp_P fx) d 5000 1132 [l0, l1, l2, l3, some (.int x), l5, l6] [.ref s0, .int s1, .int s2, .int s3, .ref s4] h Q ↔ ww (mp_P fx) d 5000 1134 [l0, l1, l2, l3, some (.int x), l5, l6] [.int x, .ref s0, .int s1, .int s2, .int s3, .ref s4] h Q := ww_step rfl
set_option maxRecDepth 20000 in
theorem q5000_1134 (ls : mm_V) (s0 : Int32) (s1 : Nat) (s2 : Int32) (s3 : Int32) (s4 : Int32) (s5 : Nat) : ww (mp_P fx) d 5000 1134 ls [.int s0, .ref s1, .int s2, .int s3, .int s4, .ref s5] h Q ↔ ww (mp_P fx) d 5000 1135 ls [.int 4, .int s0, .ref s1, .int s2, .int s3, .int s4, .ref s5] h Q := wr_iconst (i := 4) rfl
set_option maxRecDepth 20000 in
theorem q5000_1135 (ls : mm_V) (s0 : Int32) (s1 : Int32) (s2 : Nat) (s3 : Int32) (s4 : Int32) (s5 : Int32) (s6 : Nat) : ww (mp_P fx) d 5000 1135 ls [.int s0, .int s1, .ref s2, .int s3, .int s4, .int s5, .ref s6] h Q ↔ ww (mp_P fx) d 5000 1136 ls [.int (s1 + s0), .ref s2, .int s3, .int s4, .int s5, .ref s6] h Q := wr_iadd rfl
set_option maxRecDepth 20000 in
theorem q5000_1136 (ls : mm_V) (s0 : Int32) (s1 : Nat) (s2 : Int32) (s3 : Int32) (s4 : Int32) (s5 : Nat) : ww (mp_P fx) d 5000 1136 ls [.int s0, .ref s1, .int s2, .int s3, .int s4, .ref s5] h Q ↔ ∃ x, mm_gI h s1 0 9 s0 = some x ∧ ww (mp_P fx) d 5000 1137 ls [.int x, .int s2, .int s3, .int s4, .ref s5] h Q := wr_iaload rfl
set_option maxRecDepth 20000 in
theorem q5000_1137 (l0 : Option Value) (l1 : Option Value) (l2 : Option Value) (l4 : Option Value) (l5 : Option Value) (l6 : Option Value) (x : Nat) (s0 : Int32) (s1 : Int32) (s2 : Int32) (s3 : Int32) (s4 : Nat) : ww (mp_P fx) d 5000 1137 [l0, l1, l2, some (.ref x), l4, l5, l6] [.int s0, .int s1, .int s2, .int s3, .ref s4] h Q ↔ ww (mp_P fx) d 5000 1138 [l0, l1, l2, some (.ref x), l4, l5, l6] [.ref x, .int s0, .int s1, .int s2, .int s3, .ref s4] h Q := ww_step rfl
set_option maxRecDepth 20000 in
theorem q5000_1141i (l0 : Option Value) (l1 : Option Value) (l2 : Option Value) (l3 : Option Value) (l5 : Option Value) (l6 : Option Value) (y : Int32) (s0 : Int32) : ww (mp_P fx) d 5000 1141 [l0, l1, l2, l3, some (.int y), l5, l6] [.int s0] h Q ↔ ww (mp_P fx) d 5000 1143 [l0, l1, l2, l3, some (.int y), some (.int s0), l6] [] h Q := wr_istore rfl (mm_s1_ok (Nat.le_of_ble_eq_true rfl) rfl)
set_option maxRecDepth 20000 in
theorem q5000_1143 (l0 : Option Value) (l1 : Option Value) (l3 : Option Value) (l4 : Option Value) (l5 : Option Value) (l6 : Option Value) (x : Nat) : ww (mp_P fx) d 5000 1143 [l0, l1, some (.ref x), l3, l4, l5, l6] [] h Q ↔ ww (mp_P fx) d 5000 1144 [l0, l1, some (.ref x), l3, l4, l5, l6] [.ref x] h Q := ww_step rfl
set_option maxRecDepth 20000 in
theorem q5000_1144 (l1 : Option Value) (l2 : Option Value) (l3 : Option Value) (l4 : Option Value) (l5 : Option Value) (l6 : Option Value) (x : Nat) (s0 : Nat) : ww (mp_P fx) d 5000 1144 [some (.ref x), l1, l2, l3, l4, l5, l6] [.ref s0] h Q ↔ ww (mp_P fx) d 5000 1145 [some (.ref x), l1, l2, l3, l4, l5, l6] [.ref x, .ref s0] h Q := ww_step rfl
set_option maxRecDepth 20000 in
theorem q5000_1145 (l0 : Option Value) (l1 : Option Value) (l2 : Option Value) (l3 : Option Value) (l5 : Option Value) (l6 : Option Value) (x : Int32) (s0 : Nat) (s1 : Nat) : ww (mp_P fx) d 5000 1145 [l0, l1, l2, l3, some (.int x), l5, l6] [.ref s0, .ref s1] h Q ↔ ww (mp_P fx) d 5000 1147 [l0, l1, l2, l3, some (.int x), l5, l6] [.int x, .ref s0, .ref s1] h Q := ww_step rfl
set_option maxRecDepth 20000 in
theorem q5000_1147 (ls : mm_V) (s0 : Int32) (s1 : Nat) (s2 : Nat) : ww (mp_P fx) d 5000 1147 ls [.int s0, .ref s1, .ref s2] h Q ↔ ww (mp_P fx) d 5000 1148 ls [.int 1, .int s0, .ref s1, .ref s2] h Q := wr_iconst (i := 1) rfl
set_option maxRecDepth 20000 in
theorem q5000_1148 (ls : mm_V) (s0 : Int32) (s1 : Int32) (s2 : Nat) (s3 : Nat) : ww (mp_P fx) d 5000 1148 ls [.int s0, .int s1, .ref s2, .ref s3] h Q ↔ ww (mp_P fx) d 5000 1149 ls [.int (s1 + s0), .ref s2, .ref s3] h Q := wr_iadd rfl
set_option maxRecDepth 20000 in
theorem q5000_1149 (ls : mm_V) (s0 : Int32) (s1 : Nat) (s2 : Nat) : ww (mp_P fx) d 5000 1149 ls [.int s0, .ref s1, .ref s2] h Q ↔ ∃ x, mm_gI h s1 0 9 s0 = some x ∧ ww (mp_P fx) d 5000 1150 ls [.int x, .ref s2] h Q := wr_iaload rfl
set_option maxRecDepth 20000 in
theorem q5000_1150 (l1 : Option Value) (l2 : Option Value) (l3 : Option Value) (l4 : Option Value) (l5 : Option Value) (l6 : Option Value) (x : Nat) (s0 : Int32) (s1 : Nat) : ww (mp_P fx) d 5000 1150 [some (.ref x), l1, l2, l3, l4, l5, l6] [.int s0, .ref s1] h Q ↔ ww (mp_P fx) d 5000 1151 [some (.ref x), l1, l2, l3, l4, l5, l6] [.ref x, .int s0, .ref s1] h Q := ww_step rfl
set_option maxRecDepth 20000 in
theorem q5000_1151 (l0 : Option Value) (l1 : Option Value) (l2 : Option Value) (l3 : Option Value) (l5 : Option Value) (l6 : Option Value) (x : Int32) (s0 : Nat) (s1 : Int32) (s2 : Nat) : ww (mp_P fx) d 5000 1151 [l0, l1, l2, l3, some (.int x), l5, l6] [.ref s0, .int s1, .ref s2] h Q ↔ ww (mp_P fx) d 5000 1153 [l0, l1, l2, l3, some (.int x), l5, l6] [.int x, .ref s0, .int s1, .ref s2] h Q := ww_step rfl
set_option maxRecDepth 20000 in
theorem q5000_1153 (ls : mm_V) (s0 : Int32) (s1 : Nat) (s2 : Int32) (s3 : Nat) : ww (mp_P fx) d 5000 1153 ls [.int s0, .ref s1, .int s2, .ref s3] h Q ↔ ww (mp_P fx) d 5000 1154 ls [.int 2, .int s0, .ref s1, .int s2, .ref s3] h Q := wr_iconst (i := 2) rfl
set_option maxRecDepth 20000 in
theorem q5000_1154 (ls : mm_V) (s0 : Int32) (s1 : Int32) (s2 : Nat) (s3 : Int32) (s4 : Nat) : ww (mp_P fx) d 5000 1154 ls [.int s0, .int s1, .ref s2, .int s3, .ref s4] h Q ↔ ww (mp_P fx) d 5000 1155 ls [.int (s1 + s0), .ref s2, .int s3, .ref s4] h Q := wr_iadd rfl
set_option maxRecDepth 20000 in
theorem q5000_1155 (ls : mm_V) (s0 : Int32) (s1 : Nat) (s2 : Int32) (s3 : Nat) : ww (mp_P fx) d 5000 1155 ls [.int s0, .ref s1, .int s2, .ref s3] h Q ↔ ∃ x, mm_gI h s1 0 9 s0 = some x ∧ ww (mp_P fx) d 5000 1156 ls [.int x, .int s2, .ref s3] h Q := wr_iaload rfl
set_option maxRecDepth 20000 in
theorem q5000_1156 (l1 : Option Value) (l2 : Option Value) (l3 : Option Value) (l4 : Option Value) (l5 : Option Value) (l6 : Option Value) (x : Nat) (s0 : Int32) (s1 : Int32) (s2 : Nat) : ww (mp_P fx) d 5000 1156 [some (.ref x), l1, l2, l3, l4, l5, l6] [.int s0, .int s1, .ref s2] h Q ↔ ww (mp_P fx) d 5000 1157 [some (.ref x), l1, l2, l3, l4, l5, l6] [.ref x, .int s0, .int s1, .ref s2] h Q := ww_step rfl
set_option maxRecDepth 20000 in
theorem q5000_1157 (l0 : Option Value) (l1 : Option Value) (l2 : Option Value) (l3 : Option Value) (l5 : Option Value) (l6 : Option Value) (x : Int32) (s0 : Nat) (s1 : Int32) (s2 : Int32) (s3 : Nat) : ww (mp_P fx) d 5000 1157 [l0, l1, l2, l3, some (.int x), l5, l6] [.ref s0, .int s1, .int s2, .ref s3] h Q ↔ ww (mp_P fx) d 5000 1159 [l0, l1, l2, l3, some (.int x), l5, l6] [.int x, .ref s0, .int s1, .int s2, .ref s3] h Q := ww_step rfl
set_option maxRecDepth 20000 in
theorem q5000_1159 (ls : mm_V) (s0 : Int32) (s1 : Nat) (s2 : Int32) (s3 : Int32) (s4 : Nat) : ww (mp_P fx) d 5000 1159 ls [.int s0, .ref s1, .int s2, .int s3, .ref s4] h Q ↔ ww (mp_P fx) d 5000 1160 ls [.int 3, .int s0, .ref s1, .int s2, .int s3, .ref s4] h Q := wr_iconst (i := 3) rfl
set_option maxRecDepth 20000 in
theorem q5000_1160 (ls : mm_V) (s0 : Int32) (s1 : Int32) (s2 : Nat) (s3 : Int32) (s4 : Int32) (s5 : Nat) : ww (mp_P fx) d 5000 1160 ls [.int s0, .int s1, .ref s2, .int s3, .int s4, .ref s5] h Q ↔ ww (mp_P fx) d 5000 1161 ls [.int (s1 + s0), .ref s2, .int s3, .int s4, .ref s5] h Q := wr_iadd rfl
set_option maxRecDepth 20000 in
theorem q5000_1161 (ls : mm_V) (s0 : Int32) (s1 : Nat) (s2 : Int32) (s3 : Int32) (s4 : Nat) : ww (mp_P fx) d 5000 1161 ls [.int s0, .ref s1, .int s2, .int s3, .ref s4] h Q ↔ ∃ x, mm_gI h s1 0 9 s0 = some x ∧ ww (mp_P fx) d 5000 1162 ls [.int x, .int s2, .int s3, .ref s4] h Q := wr_iaload rfl
set_option maxRecDepth 20000 in
theorem q5000_1162 (l1 : Option Value) (l2 : Option Value) (l3 : Option Value) (l4 : Option Value) (l5 : Option Value) (l6 : Option Value) (x : Nat) (s0 : Int32) (s1 : Int32) (s2 : Int32) (s3 : Nat) : ww (mp_P fx) d 5000 1162 [some (.ref x), l1, l2, l3, l4, l5, l6] [.int s0, .int s1, .int s2, .ref s3] h Q ↔ ww (mp_P fx) d 5000 1163 [some (.ref x), l1, l2, l3, l4, l5, l6] [.ref x, .int s0, .int s1, .int s2, .ref s3] h Q := ww_step rfl
set_option maxRecDepth 20000 in
theorem q5000_1163 (l0 : Option Value) (l1 : Option Value) (l2 : Option Value) (l3 : Option Value) (l5 : Option Value) (l6 : Option Value) (x : Int32) (s0 : Nat) (s1 : Int32) (s2 : Int32) (s3 : Int32) (s4 : Nat) : ww (mp_P fx) d 5000 1163 [l0, l1, l2, l3, some (.int x), l5, l6] [.ref s0, .int s1, .int s2, .int s3, .ref s4] h Q ↔ ww (mp_P fx) d 5000 1165 [l0, l1, l2, l3, some (.int x), l5, l6] [.int x, .ref s0, .int s1, .int s2, .int s3, .ref s4] h Q := ww_step rfl
set_option maxRecDepth 20000 in
theorem q5000_1165 (ls : mm_V) (s0 : Int32) (s1 : Nat) (s2 : Int32) (s3 : Int32) (s4 : Int32) (s5 : Nat) : ww (mp_P fx) d 5000 1165 ls [.int s0, .ref s1, .int s2, .int s3, .int s4, .ref s5] h Q ↔ ww (mp_P fx) d 5000 1166 ls [.int 4, .int s0, .ref s1, .int s2, .int s3, .int s4, .ref s5] h Q := wr_iconst (i := 4) rfl
set_option maxRecDepth 20000 in
theorem q5000_1166 (ls : mm_V) (s0 : Int32) (s1 : Int32) (s2 : Nat) (s3 : Int32) (s4 : Int32) (s5 : Int32) (s6 : Nat) : ww (mp_P fx) d 5000 1166 ls [.int s0, .int s1, .ref s2, .int s3, .int s4, .int s5, .ref s6] h Q ↔ ww (mp_P fx) d 5000 1167 ls [.int (s1 + s0), .ref s2, .int s3, .int s4, .int s5, .ref s6] h Q := wr_iadd rfl
set_option maxRecDepth 20000 in
theorem q5000_1167 (ls : mm_V) (s0 : Int32) (s1 : Nat) (s2 : Int32) (s3 : Int32) (s4 : Int32) (s5 : Nat) : ww (mp_P fx) d 5000 1167 ls [.int s0, .ref s1, .int s2, .int s3, .int s4, .ref s5] h Q ↔ ∃ x, mm_gI h s1 0 9 s0 = some x ∧ ww (mp_P fx) d 5000 1168 ls [.int x, .int s2, .int s3, .int s4, .ref s5] h Q := wr_iaload rfl
set_option maxRecDepth 20000 in
theorem q5000_1168 (ls : mm_V) (s0 : Int32) (s1 : Int32) (s2 : Int32) (s3 : Int32) (s4 : Nat) (hc : mm_cls h s4 = 10) : ww (mp_P fx) (d + 1) 5000 1168 ls [.int s0, .int s1, .int s2, .int s3, .ref s4] h Q ↔ wm (mp_P fx) d 322 [.ref s4, .int s3, .int s2, .int s1, .int s0] h (fun r h' => ww (mp_P fx) (d + 1) 5000 1171 ls (r.toList ++ []) h' Q) := wr_virtual rfl (mm_recv_ok (n := 4) (rc := 10) ⟨rfl, rfl⟩ rfl hc (by decide)) rfl
set_option maxRecDepth 20000 in
theorem q5000_1171i (l0 : Option Value) (l1 : Option Value) (l2 : Option Value) (l3 : Option Value) (l4 : Option Value) (l6 : Option Value) (y : Int32) (s0 : Int32) : ww (mp_P fx) d 5000 1171 [l0, l1, l2, l3, l4, some (.int y), l6] [.int s0] h Q ↔ ww (mp_P fx) d 5000 1173 [l0, l1, l2, l3, l4, some (.int y), some (.int s0)] [] h Q := wr_istore rfl (mm_s1_ok (Nat.le_of_ble_eq_true rfl) rfl)
set_option maxRecDepth 20000 in
theorem q5000_1173 (l0 : Option Value) (l1 : Option Value) (l3 : Option Value) (l4 : Option Value) (l5 : Option Value) (l6 : Option Value) (x : Nat) : ww (mp_P fx) d 5000 1173 [l0, l1, some (.ref x), l3, l4, l5, l6] [] h Q ↔ ww (mp_P fx) d 5000 1174 [l0, l1, some (.ref x), l3, l4, l5, l6] [.ref x] h Q := ww_step rfl
set_option maxRecDepth 20000 in
theorem q5000_1174 (ls : mm_V) (s0 : Nat) (hc : mm_cls h s0 = 10) : ww (mp_P fx) (d + 1) 5000 1174 ls [.ref s0] h Q ↔ wm (mp_P fx) d 217 [.ref s0] h (fun r h' => ww (mp_P fx) (d + 1) 5000 1177 ls (r.toList ++ []) h' Q) := wr_virtual rfl (mm_recv_ok (n := 0) (rc := 10) ⟨rfl, rfl⟩ rfl hc (by decide)) rfl
set_option maxRecDepth 20000 in
theorem q5000_1177 (l0 : Option Value) (l1 : Option Value) (l2 : Option Value) (l3 : Option Value) (l4 : Option Value) (l6 : Option Value) (x : Int32) (s0 : Int32) : ww (mp_P fx) d 5000 1177 [l0, l1, l2, l3, l4, some (.int x), l6] [.int s0] h Q ↔ ww (mp_P fx) d 5000 1179 [l0, l1, l2, l3, l4, some (.int x), l6] [.int x, .int s0] h Q := ww_step rfl
set_option maxRecDepth 20000 in
theorem q5000_1179 (ls : mm_V) (s0 : Int32) (s1 : Int32) : ww (mp_P fx) d 5000 1179 ls [.int s0, .int s1] h Q ↔ (if s1 = s0 then ww (mp_P fx) d 5000 1184 ls [] h Q else ww (mp_P fx) d 5000 1182 ls [] h Q) := wr_icmp_eq (t := 1184) rfl
set_option maxRecDepth 20000 in
theorem q5000_1182 (ls : mm_V) : ww (mp_P fx) d 5000 1182 ls [] h Q ↔ ww (mp_P fx) d 5000 1183 ls [.int 0] h Q := wr_iconst (i := 0) rfl
set_option maxRecDepth 20000 in
theorem q5000_1183 (ls : mm_V) (s0 : Int32) (hb : mm_ret (mp_sig 5000).2.2.2 (.int s0) = true) : ww (mp_P fx) d 5000 1183 ls [.int s0] h Q ↔ Q (some (.int s0)) h := wr_ireturn rfl hb
set_option maxRecDepth 20000 in
theorem q5000_1184 (l0 : Option Value) (l1 : Option Value) (l2 : Option Value) (l3 : Option Value) (l4 : Option Value) (l6 : Option Value) (x : Int32) : ww (mp_P fx) d 5000 1184 [l0, l1, l2, l3, l4, some (.int x), l6] [] h Q ↔ ww (mp_P fx) d 5000 1186 [l0, l1, l2, l3, l4, some (.int x), l6] [.int x] h Q := ww_step rfl
set_option maxRecDepth 20000 in
theorem q5000_1186 (ls : mm_V) (s0 : Int32) : ww (mp_P fx) d 5000 1186 ls [.int s0] h Q ↔ (if ¬ s0 = 0 then ww (mp_P fx) d 5000 1201 ls [] h Q else ww (mp_P fx) d 5000 1189 ls [] h Q) := wr_if_ne (t := 1201) rfl
set_option maxRecDepth 20000 in
theorem q5000_1189 (l0 : Option Value) (l1 : Option Value) (l2 : Option Value) (l4 : Option Value) (l5 : Option Value) (l6 : Option Value) (x : Nat) : ww (mp_P fx) d 5000 1189 [l0, l1, l2, some (.ref x), l4, l5, l6] [] h Q ↔ ww (mp_P fx) d 5000 1190 [l0, l1, l2, some (.ref x), l4, l5, l6] [.ref x] h Q := ww_step rfl
set_option maxRecDepth 20000 in
theorem q5000_1190 (ls : mm_V) (s0 : Nat) : ww (mp_P fx) d 5000 1190 ls [.ref s0] h Q ↔ ww (mp_P fx) d 5000 1191 ls [.int 0, .ref s0] h Q := wr_iconst (i := 0) rfl
set_option maxRecDepth 20000 in
theorem q5000_1191 (ls : mm_V) (s0 : Int32) (s1 : Nat) : ww (mp_P fx) d 5000 1191 ls [.int s0, .ref s1] h Q ↔ ∃ x, mm_gL h s1 s0 = some x ∧ ww (mp_P fx) d 5000 1192 ls [.long x] h Q := wr_laload rfl
set_option maxRecDepth 20000 in
theorem q5000_1192 (l0 : Option Value) (l1 : Option Value) (l2 : Option Value) (l3 : Option Value) (l4 : Option Value) (l5 : Option Value) (x : Int32) (s0 : Int64) : ww (mp_P fx) d 5000 1192 [l0, l1, l2, l3, l4, l5, some (.int x)] [.long s0] h Q ↔ ww (mp_P fx) d 5000 1194 [l0, l1, l2, l3, l4, l5, some (.int x)] [.int x, .long s0] h Q := ww_step rfl
set_option maxRecDepth 20000 in
theorem q5000_1194 (ls : mm_V) (s0 : Int32) (s1 : Int64) : ww (mp_P fx) d 5000 1194 ls [.int s0, .long s1] h Q ↔ ww (mp_P fx) d 5000 1195 ls [.long s0.toInt64, .long s1] h Q := wr_i2l rfl
set_option maxRecDepth 20000 in
theorem q5000_1195 (ls : mm_V) (s0 : Int64) (s1 : Int64) : ww (mp_P fx) d 5000 1195 ls [.long s0, .long s1] h Q ↔ ww (mp_P fx) d 5000 1196 ls [.int (lg_cmp s1 s0)] h Q := wr_lcmp rfl
set_option maxRecDepth 20000 in
theorem q5000_1196 (ls : mm_V) (s0 : Int32) : ww (mp_P fx) d 5000 1196 ls [.int s0] h Q ↔ (if s0 = 0 then ww (mp_P fx) d 5000 1201 ls [] h Q else ww (mp_P fx) d 5000 1199 ls [] h Q) := wr_if_eq (t := 1201) rfl
set_option maxRecDepth 20000 in
theorem q5000_1199 (ls : mm_V) : ww (mp_P fx) d 5000 1199 ls [] h Q ↔ ww (mp_P fx) d 5000 1200 ls [.int 0] h Q := wr_iconst (i := 0) rfl
set_option maxRecDepth 20000 in
theorem q5000_1200 (ls : mm_V) (s0 : Int32) (hb : mm_ret (mp_sig 5000).2.2.2 (.int s0) = true) : ww (mp_P fx) d 5000 1200 ls [.int s0] h Q ↔ Q (some (.int s0)) h := wr_ireturn rfl hb
set_option maxRecDepth 20000 in
theorem q5000_1201 (ls : mm_V) : ww (mp_P fx) d 5000 1201 ls [] h Q ↔ ww (mp_P fx) d 5000 1331 ls [] h Q := wr_goto (t := 1331) rfl
set_option maxRecDepth 20000 in
theorem q5000_1204 (l0 : Option Value) (l2 : Option Value) (l3 : Option Value) (l4 : Option Value) (l5 : Option Value) (l6 : Option Value) (x : Nat) : ww (mp_P fx) d 5000 1204 [l0, some (.ref x), l2, l3, l4, l5, l6] [] h Q ↔ ww (mp_P fx) d 5000 1205 [l0, some (.ref x), l2, l3, l4, l5, l6] [.ref x] h Q := ww_step rfl
set_option maxRecDepth 20000 in
theorem q5000_1205 (l1 : Option Value) (l2 : Option Value) (l3 : Option Value) (l4 : Option Value) (l5 : Option Value) (l6 : Option Value) (x : Nat) (s0 : Nat) : ww (mp_P fx) d 5000 1205 [some (.ref x), l1, l2, l3, l4, l5, l6] [.ref s0] h Q ↔ ww (mp_P fx) d 5000 1206 [some (.ref x), l1, l2, l3, l4, l5, l6] [.ref x, .ref s0] h Q := ww_step rfl
set_option maxRecDepth 20000 in
theorem q5000_1206 (l0 : Option Value) (l1 : Option Value) (l2 : Option Value) (l3 : Option Value) (l5 : Option Value) (l6 : Option Value) (x : Int32) (s0 : Nat) (s1 : Nat) : ww (mp_P fx) d 5000 1206 [l0, l1, l2, l3, some (.int x), l5, l6] [.ref s0, .ref s1] h Q ↔ ww (mp_P fx) d 5000 1208 [l0, l1, l2, l3, some (.int x), l5, l6] [.int x, .ref s0, .ref s1] h Q := ww_step rfl
set_option maxRecDepth 20000 in
theorem q5000_1208 (ls : mm_V) (s0 : Int32) (s1 : Nat) (s2 : Nat) : ww (mp_P fx) d 5000 1208 ls [.int s0, .ref s1, .ref s2] h Q ↔ ww (mp_P fx) d 5000 1209 ls [.int 1, .int s0, .ref s1, .ref s2] h Q := wr_iconst (i := 1) rfl
set_option maxRecDepth 20000 in
theorem q5000_1209 (ls : mm_V) (s0 : Int32) (s1 : Int32) (s2 : Nat) (s3 : Nat) : ww (mp_P fx) d 5000 1209 ls [.int s0, .int s1, .ref s2, .ref s3] h Q ↔ ww (mp_P fx) d 5000 1210 ls [.int (s1 + s0), .ref s2, .ref s3] h Q := wr_iadd rfl
set_option maxRecDepth 20000 in
theorem q5000_1210 (ls : mm_V) (s0 : Int32) (s1 : Nat) (s2 : Nat) : ww (mp_P fx) d 5000 1210 ls [.int s0, .ref s1, .ref s2] h Q ↔ ∃ x, mm_gI h s1 0 9 s0 = some x ∧ ww (mp_P fx) d 5000 1211 ls [.int x, .ref s2] h Q := wr_iaload rfl
set_option maxRecDepth 20000 in
theorem q5000_1211 (l1 : Option Value) (l2 : Option Value) (l3 : Option Value) (l4 : Option Value) (l5 : Option Value) (l6 : Option Value) (x : Nat) (s0 : Int32) (s1 : Nat) : ww (mp_P fx) d 5000 1211 [some (.ref x), l1, l2, l3, l4, l5, l6] [.int s0, .ref s1] h Q ↔ ww (mp_P fx) d 5000 1212 [some (.ref x), l1, l2, l3, l4, l5, l6] [.ref x, .int s0, .ref s1] h Q := ww_step rfl
set_option maxRecDepth 20000 in
theorem q5000_1212 (l0 : Option Value) (l1 : Option Value) (l2 : Option Value) (l3 : Option Value) (l5 : Option Value) (l6 : Option Value) (x : Int32) (s0 : Nat) (s1 : Int32) (s2 : Nat) : ww (mp_P fx) d 5000 1212 [l0, l1, l2, l3, some (.int x), l5, l6] [.ref s0, .int s1, .ref s2] h Q ↔ ww (mp_P fx) d 5000 1214 [l0, l1, l2, l3, some (.int x), l5, l6] [.int x, .ref s0, .int s1, .ref s2] h Q := ww_step rfl
set_option maxRecDepth 20000 in
theorem q5000_1214 (ls : mm_V) (s0 : Int32) (s1 : Nat) (s2 : Int32) (s3 : Nat) : ww (mp_P fx) d 5000 1214 ls [.int s0, .ref s1, .int s2, .ref s3] h Q ↔ ww (mp_P fx) d 5000 1215 ls [.int 2, .int s0, .ref s1, .int s2, .ref s3] h Q := wr_iconst (i := 2) rfl
set_option maxRecDepth 20000 in
theorem q5000_1215 (ls : mm_V) (s0 : Int32) (s1 : Int32) (s2 : Nat) (s3 : Int32) (s4 : Nat) : ww (mp_P fx) d 5000 1215 ls [.int s0, .int s1, .ref s2, .int s3, .ref s4] h Q ↔ ww (mp_P fx) d 5000 1216 ls [.int (s1 + s0), .ref s2, .int s3, .ref s4] h Q := wr_iadd rfl
set_option maxRecDepth 20000 in
theorem q5000_1216 (ls : mm_V) (s0 : Int32) (s1 : Nat) (s2 : Int32) (s3 : Nat) : ww (mp_P fx) d 5000 1216 ls [.int s0, .ref s1, .int s2, .ref s3] h Q ↔ ∃ x, mm_gI h s1 0 9 s0 = some x ∧ ww (mp_P fx) d 5000 1217 ls [.int x, .int s2, .ref s3] h Q := wr_iaload rfl
set_option maxRecDepth 20000 in
theorem q5000_1217 (l1 : Option Value) (l2 : Option Value) (l3 : Option Value) (l4 : Option Value) (l5 : Option Value) (l6 : Option Value) (x : Nat) (s0 : Int32) (s1 : Int32) (s2 : Nat) : ww (mp_P fx) d 5000 1217 [some (.ref x), l1, l2, l3, l4, l5, l6] [.int s0, .int s1, .ref s2] h Q ↔ ww (mp_P fx) d 5000 1218 [some (.ref x), l1, l2, l3, l4, l5, l6] [.ref x, .int s0, .int s1, .ref s2] h Q := ww_step rfl
set_option maxRecDepth 20000 in
theorem q5000_1218 (l0 : Option Value) (l1 : Option Value) (l2 : Option Value) (l3 : Option Value) (l5 : Option Value) (l6 : Option Value) (x : Int32) (s0 : Nat) (s1 : Int32) (s2 : Int32) (s3 : Nat) : ww (mp_P fx) d 5000 1218 [l0, l1, l2, l3, some (.int x), l5, l6] [.ref s0, .int s1, .int s2, .ref s3] h Q ↔ ww (mp_P fx) d 5000 1220 [l0, l1, l2, l3, some (.int x), l5, l6] [.int x, .ref s0, .int s1, .int s2, .ref s3] h Q := ww_step rfl
set_option maxRecDepth 20000 in
theorem q5000_1220 (ls : mm_V) (s0 : Int32) (s1 : Nat) (s2 : Int32) (s3 : Int32) (s4 : Nat) : ww (mp_P fx) d 5000 1220 ls [.int s0, .ref s1, .int s2, .int s3, .ref s4] h Q ↔ ww (mp_P fx) d 5000 1221 ls [.int 3, .int s0, .ref s1, .int s2, .int s3, .ref s4] h Q := wr_iconst (i := 3) rfl
set_option maxRecDepth 20000 in
theorem q5000_1221 (ls : mm_V) (s0 : Int32) (s1 : Int32) (s2 : Nat) (s3 : Int32) (s4 : Int32) (s5 : Nat) : ww (mp_P fx) d 5000 1221 ls [.int s0, .int s1, .ref s2, .int s3, .int s4, .ref s5] h Q ↔ ww (mp_P fx) d 5000 1222 ls [.int (s1 + s0), .ref s2, .int s3, .int s4, .ref s5] h Q := wr_iadd rfl
set_option maxRecDepth 20000 in
theorem q5000_1222 (ls : mm_V) (s0 : Int32) (s1 : Nat) (s2 : Int32) (s3 : Int32) (s4 : Nat) : ww (mp_P fx) d 5000 1222 ls [.int s0, .ref s1, .int s2, .int s3, .ref s4] h Q ↔ ∃ x, mm_gI h s1 0 9 s0 = some x ∧ ww (mp_P fx) d 5000 1223 ls [.int x, .int s2, .int s3, .ref s4] h Q := wr_iaload rfl
set_option maxRecDepth 20000 in
theorem q5000_1223 (ls : mm_V) (s0 : Int32) (s1 : Int32) (s2 : Int32) (s3 : Nat) (hc : mm_cls h s3 = 9) : ww (mp_P fx) (d + 1) 5000 1223 ls [.int s0, .int s1, .int s2, .ref s3] h Q ↔ wm (mp_P fx) d 198 [.ref s3, .int s2, .int s1, .int s0] h (fun r h' => ww (mp_P fx) (d + 1) 5000 1226 ls (r.toList ++ []) h' Q) := wr_virtual rfl (mm_recv_ok (n := 3) (rc := 9) ⟨rfl, rfl⟩ rfl hc (by decide)) rfl
set_option maxRecDepth 20000 in
theorem q5000_1226 (l0 : Option Value) (l1 : Option Value) (l3 : Option Value) (l4 : Option Value) (l5 : Option Value) (l6 : Option Value) (x : Nat) (s0 : Int32) : ww (mp_P fx) d 5000 1226 [l0, l1, some (.ref x), l3, l4, l5, l6] [.int s0] h Q ↔ ww (mp_P fx) d 5000 1227 [l0, l1, some (.ref x), l3, l4, l5, l6] [.ref x, .int s0] h Q := ww_step rfl
set_option maxRecDepth 20000 in
theorem q5000_1227 (l1 : Option Value) (l2 : Option Value) (l3 : Option Value) (l4 : Option Value) (l5 : Option Value) (l6 : Option Value) (x : Nat) (s0 : Nat) (s1 : Int32) : ww (mp_P fx) d 5000 1227 [some (.ref x), l1, l2, l3, l4, l5, l6] [.ref s0, .int s1] h Q ↔ ww (mp_P fx) d 5000 1228 [some (.ref x), l1, l2, l3, l4, l5, l6] [.ref x, .ref s0, .int s1] h Q := ww_step rfl
set_option maxRecDepth 20000 in
theorem q5000_1228 (l0 : Option Value) (l1 : Option Value) (l2 : Option Value) (l3 : Option Value) (l5 : Option Value) (l6 : Option Value) (x : Int32) (s0 : Nat) (s1 : Nat) (s2 : Int32) : ww (mp_P fx) d 5000 1228 [l0, l1, l2, l3, some (.int x), l5, l6] [.ref s0, .ref s1, .int s2] h Q ↔ ww (mp_P fx) d 5000 1230 [l0, l1, l2, l3, some (.int x), l5, l6] [.int x, .ref s0, .ref s1, .int s2] h Q := ww_step rfl
set_option maxRecDepth 20000 in
theorem q5000_1230 (ls : mm_V) (s0 : Int32) (s1 : Nat) (s2 : Nat) (s3 : Int32) : ww (mp_P fx) d 5000 1230 ls [.int s0, .ref s1, .ref s2, .int s3] h Q ↔ ww (mp_P fx) d 5000 1231 ls [.int 1, .int s0, .ref s1, .ref s2, .int s3] h Q := wr_iconst (i := 1) rfl
set_option maxRecDepth 20000 in
theorem q5000_1231 (ls : mm_V) (s0 : Int32) (s1 : Int32) (s2 : Nat) (s3 : Nat) (s4 : Int32) : ww (mp_P fx) d 5000 1231 ls [.int s0, .int s1, .ref s2, .ref s3, .int s4] h Q ↔ ww (mp_P fx) d 5000 1232 ls [.int (s1 + s0), .ref s2, .ref s3, .int s4] h Q := wr_iadd rfl
set_option maxRecDepth 20000 in
theorem q5000_1232 (ls : mm_V) (s0 : Int32) (s1 : Nat) (s2 : Nat) (s3 : Int32) : ww (mp_P fx) d 5000 1232 ls [.int s0, .ref s1, .ref s2, .int s3] h Q ↔ ∃ x, mm_gI h s1 0 9 s0 = some x ∧ ww (mp_P fx) d 5000 1233 ls [.int x, .ref s2, .int s3] h Q := wr_iaload rfl
set_option maxRecDepth 20000 in
theorem q5000_1233 (l1 : Option Value) (l2 : Option Value) (l3 : Option Value) (l4 : Option Value) (l5 : Option Value) (l6 : Option Value) (x : Nat) (s0 : Int32) (s1 : Nat) (s2 : Int32) : ww (mp_P fx) d 5000 1233 [some (.ref x), l1, l2, l3, l4, l5, l6] [.int s0, .ref s1, .int s2] h Q ↔ ww (mp_P fx) d 5000 1234 [some (.ref x), l1, l2, l3, l4, l5, l6] [.ref x, .int s0, .ref s1, .int s2] h Q := ww_step rfl
set_option maxRecDepth 20000 in
theorem q5000_1234 (l0 : Option Value) (l1 : Option Value) (l2 : Option Value) (l3 : Option Value) (l5 : Option Value) (l6 : Option Value) (x : Int32) (s0 : Nat) (s1 : Int32) (s2 : Nat) (s3 : Int32) : ww (mp_P fx) d 5000 1234 [l0, l1, l2, l3, some (.int x), l5, l6] [.ref s0, .int s1, .ref s2, .int s3] h Q ↔ ww (mp_P fx) d 5000 1236 [l0, l1, l2, l3, some (.int x), l5, l6] [.int x, .ref s0, .int s1, .ref s2, .int s3] h Q := ww_step rfl
set_option maxRecDepth 20000 in
theorem q5000_1236 (ls : mm_V) (s0 : Int32) (s1 : Nat) (s2 : Int32) (s3 : Nat) (s4 : Int32) : ww (mp_P fx) d 5000 1236 ls [.int s0, .ref s1, .int s2, .ref s3, .int s4] h Q ↔ ww (mp_P fx) d 5000 1237 ls [.int 2, .int s0, .ref s1, .int s2, .ref s3, .int s4] h Q := wr_iconst (i := 2) rfl
set_option maxRecDepth 20000 in
theorem q5000_1237 (ls : mm_V) (s0 : Int32) (s1 : Int32) (s2 : Nat) (s3 : Int32) (s4 : Nat) (s5 : Int32) : ww (mp_P fx) d 5000 1237 ls [.int s0, .int s1, .ref s2, .int s3, .ref s4, .int s5] h Q ↔ ww (mp_P fx) d 5000 1238 ls [.int (s1 + s0), .ref s2, .int s3, .ref s4, .int s5] h Q := wr_iadd rfl
set_option maxRecDepth 20000 in
theorem q5000_1238 (ls : mm_V) (s0 : Int32) (s1 : Nat) (s2 : Int32) (s3 : Nat) (s4 : Int32) : ww (mp_P fx) d 5000 1238 ls [.int s0, .ref s1, .int s2, .ref s3, .int s4] h Q ↔ ∃ x, mm_gI h s1 0 9 s0 = some x ∧ ww (mp_P fx) d 5000 1239 ls [.int x, .int s2, .ref s3, .int s4] h Q := wr_iaload rfl
set_option maxRecDepth 20000 in
theorem q5000_1239 (l1 : Option Value) (l2 : Option Value) (l3 : Option Value) (l4 : Option Value) (l5 : Option Value) (l6 : Option Value) (x : Nat) (s0 : Int32) (s1 : Int32) (s2 : Nat) (s3 : Int32) : ww (mp_P fx) d 5000 1239 [some (.ref x), l1, l2, l3, l4, l5, l6] [.int s0, .int s1, .ref s2, .int s3] h Q ↔ ww (mp_P fx) d 5000 1240 [some (.ref x), l1, l2, l3, l4, l5, l6] [.ref x, .int s0, .int s1, .ref s2, .int s3] h Q := ww_step rfl
set_option maxRecDepth 20000 in
theorem q5000_1240 (l0 : Option Value) (l1 : Option Value) (l2 : Option Value) (l3 : Option Value) (l5 : Option Value) (l6 : Option Value) (x : Int32) (s0 : Nat) (s1 : Int32) (s2 : Int32) (s3 : Nat) (s4 : Int32) : ww (mp_P fx) d 5000 1240 [l0, l1, l2, l3, some (.int x), l5, l6] [.ref s0, .int s1, .int s2, .ref s3, .int s4] h Q ↔ ww (mp_P fx) d 5000 1242 [l0, l1, l2, l3, some (.int x), l5, l6] [.int x, .ref s0, .int s1, .int s2, .ref s3, .int s4] h Q := ww_step rfl
set_option maxRecDepth 20000 in
theorem q5000_1242 (ls : mm_V) (s0 : Int32) (s1 : Nat) (s2 : Int32) (s3 : Int32) (s4 : Nat) (s5 : Int32) : ww (mp_P fx) d 5000 1242 ls [.int s0, .ref s1, .int s2, .int s3, .ref s4, .int s5] h Q ↔ ww (mp_P fx) d 5000 1243 ls [.int 3, .int s0, .ref s1, .int s2, .int s3, .ref s4, .int s5] h Q := wr_iconst (i := 3) rfl
set_option maxRecDepth 20000 in
theorem q5000_1243 (ls : mm_V) (s0 : Int32) (s1 : Int32) (s2 : Nat) (s3 : Int32) (s4 : Int32) (s5 : Nat) (s6 : Int32) : ww (mp_P fx) d 5000 1243 ls [.int s0, .int s1, .ref s2, .int s3, .int s4, .ref s5, .int s6] h Q ↔ ww (mp_P fx) d 5000 1244 ls [.int (s1 + s0), .ref s2, .int s3, .int s4, .ref s5, .int s6] h Q := wr_iadd rfl
set_option maxRecDepth 20000 in
theorem q5000_1244 (ls : mm_V) (s0 : Int32) (s1 : Nat) (s2 : Int32) (s3 : Int32) (s4 : Nat) (s5 : Int32) : ww (mp_P fx) d 5000 1244 ls [.int s0, .ref s1, .int s2, .int s3, .ref s4, .int s5] h Q ↔ ∃ x, mm_gI h s1 0 9 s0 = some x ∧ ww (mp_P fx) d 5000 1245 ls [.int x, .int s2, .int s3, .ref s4, .int s5] h Q := wr_iaload rfl
set_option maxRecDepth 20000 in
theorem q5000_1245 (ls : mm_V) (s0 : Int32) (s1 : Int32) (s2 : Int32) (s3 : Nat) (s4 : Int32) (hc : mm_cls h s3 = 10) : ww (mp_P fx) (d + 1) 5000 1245 ls [.int s0, .int s1, .int s2, .ref s3, .int s4] h Q ↔ wm (mp_P fx) d 324 [.ref s3, .int s2, .int s1, .int s0] h (fun r h' => ww (mp_P fx) (d + 1) 5000 1248 ls (r.toList ++ [.int s4]) h' Q) := wr_virtual rfl (mm_recv_ok (n := 3) (rc := 10) ⟨rfl, rfl⟩ rfl hc (by decide)) rfl
set_option maxRecDepth 20000 in
theorem q5000_1248 (ls : mm_V) (s0 : Int32) (s1 : Int32) : ww (mp_P fx) d 5000 1248 ls [.int s0, .int s1] h Q ↔ (if s1 = s0 then ww (mp_P fx) d 5000 1331 ls [] h Q else ww (mp_P fx) d 5000 1251 ls [] h Q) := wr_icmp_eq (t := 1331) rfl
set_option maxRecDepth 20000 in
theorem q5000_1251 (ls : mm_V) : ww (mp_P fx) d 5000 1251 ls [] h Q ↔ ww (mp_P fx) d 5000 1252 ls [.int 0] h Q := wr_iconst (i := 0) rfl
set_option maxRecDepth 20000 in
theorem q5000_1252 (ls : mm_V) (s0 : Int32) (hb : mm_ret (mp_sig 5000).2.2.2 (.int s0) = true) : ww (mp_P fx) d 5000 1252 ls [.int s0] h Q ↔ Q (some (.int s0)) h := wr_ireturn rfl hb
set_option maxRecDepth 20000 in
theorem q5000_1253 (l0 : Option Value) (l2 : Option Value) (l3 : Option Value) (l4 : Option Value) (l5 : Option Value) (l6 : Option Value) (x : Nat) : ww (mp_P fx) d 5000 1253 [l0, some (.ref x), l2, l3, l4, l5, l6] [] h Q ↔ ww (mp_P fx) d 5000 1254 [l0, some (.ref x), l2, l3, l4, l5, l6] [.ref x] h Q := ww_step rfl
set_option maxRecDepth 20000 in
theorem q5000_1254 (l1 : Option Value) (l2 : Option Value) (l3 : Option Value) (l4 : Option Value) (l5 : Option Value) (l6 : Option Value) (x : Nat) (s0 : Nat) : ww (mp_P fx) d 5000 1254 [some (.ref x), l1, l2, l3, l4, l5, l6] [.ref s0] h Q ↔ ww (mp_P fx) d 5000 1255 [some (.ref x), l1, l2, l3, l4, l5, l6] [.ref x, .ref s0] h Q := ww_step rfl
set_option maxRecDepth 20000 in
theorem q5000_1255 (l0 : Option Value) (l1 : Option Value) (l2 : Option Value) (l3 : Option Value) (l5 : Option Value) (l6 : Option Value) (x : Int32) (s0 : Nat) (s1 : Nat) : ww (mp_P fx) d 5000 1255 [l0, l1, l2, l3, some (.int x), l5, l6] [.ref s0, .ref s1] h Q ↔ ww (mp_P fx) d 5000 1257 [l0, l1, l2, l3, some (.int x), l5, l6] [.int x, .ref s0, .ref s1] h Q := ww_step rfl
set_option maxRecDepth 20000 in
theorem q5000_1257 (ls : mm_V) (s0 : Int32) (s1 : Nat) (s2 : Nat) : ww (mp_P fx) d 5000 1257 ls [.int s0, .ref s1, .ref s2] h Q ↔ ww (mp_P fx) d 5000 1258 ls [.int 1, .int s0, .ref s1, .ref s2] h Q := wr_iconst (i := 1) rfl
set_option maxRecDepth 20000 in
theorem q5000_1258 (ls : mm_V) (s0 : Int32) (s1 : Int32) (s2 : Nat) (s3 : Nat) : ww (mp_P fx) d 5000 1258 ls [.int s0, .int s1, .ref s2, .ref s3] h Q ↔ ww (mp_P fx) d 5000 1259 ls [.int (s1 + s0), .ref s2, .ref s3] h Q := wr_iadd rfl
set_option maxRecDepth 20000 in
theorem q5000_1259 (ls : mm_V) (s0 : Int32) (s1 : Nat) (s2 : Nat) : ww (mp_P fx) d 5000 1259 ls [.int s0, .ref s1, .ref s2] h Q ↔ ∃ x, mm_gI h s1 0 9 s0 = some x ∧ ww (mp_P fx) d 5000 1260 ls [.int x, .ref s2] h Q := wr_iaload rfl
set_option maxRecDepth 20000 in
theorem q5000_1260 (l1 : Option Value) (l2 : Option Value) (l3 : Option Value) (l4 : Option Value) (l5 : Option Value) (l6 : Option Value) (x : Nat) (s0 : Int32) (s1 : Nat) : ww (mp_P fx) d 5000 1260 [some (.ref x), l1, l2, l3, l4, l5, l6] [.int s0, .ref s1] h Q ↔ ww (mp_P fx) d 5000 1261 [some (.ref x), l1, l2, l3, l4, l5, l6] [.ref x, .int s0, .ref s1] h Q := ww_step rfl
set_option maxRecDepth 20000 in
theorem q5000_1261 (l0 : Option Value) (l1 : Option Value) (l2 : Option Value) (l3 : Option Value) (l5 : Option Value) (l6 : Option Value) (x : Int32) (s0 : Nat) (s1 : Int32) (s2 : Nat) : ww (mp_P fx) d 5000 1261 [l0, l1, l2, l3, some (.int x), l5, l6] [.ref s0, .int s1, .ref s2] h Q ↔ ww (mp_P fx) d 5000 1263 [l0, l1, l2, l3, some (.int x), l5, l6] [.int x, .ref s0, .int s1, .ref s2] h Q := ww_step rfl
set_option maxRecDepth 20000 in
theorem q5000_1263 (ls : mm_V) (s0 : Int32) (s1 : Nat) (s2 : Int32) (s3 : Nat) : ww (mp_P fx) d 5000 1263 ls [.int s0, .ref s1, .int s2, .ref s3] h Q ↔ ww (mp_P fx) d 5000 1264 ls [.int 2, .int s0, .ref s1, .int s2, .ref s3] h Q := wr_iconst (i := 2) rfl
set_option maxRecDepth 20000 in
theorem q5000_1264 (ls : mm_V) (s0 : Int32) (s1 : Int32) (s2 : Nat) (s3 : Int32) (s4 : Nat) : ww (mp_P fx) d 5000 1264 ls [.int s0, .int s1, .ref s2, .int s3, .ref s4] h Q ↔ ww (mp_P fx) d 5000 1265 ls [.int (s1 + s0), .ref s2, .int s3, .ref s4] h Q := wr_iadd rfl
set_option maxRecDepth 20000 in
theorem q5000_1265 (ls : mm_V) (s0 : Int32) (s1 : Nat) (s2 : Int32) (s3 : Nat) : ww (mp_P fx) d 5000 1265 ls [.int s0, .ref s1, .int s2, .ref s3] h Q ↔ ∃ x, mm_gI h s1 0 9 s0 = some x ∧ ww (mp_P fx) d 5000 1266 ls [.int x, .int s2, .ref s3] h Q := wr_iaload rfl
set_option maxRecDepth 20000 in
theorem q5000_1266 (ls : mm_V) (s0 : Int32) (s1 : Int32) (s2 : Nat) : ww (mp_P fx) d 5000 1266 ls [.int s0, .int s1, .ref s2] h Q ↔ (if s0 = 0 then ww (mp_P fx) d 5000 1273 ls [.int s1, .ref s2] h Q else ww (mp_P fx) d 5000 1269 ls [.int s1, .ref s2] h Q) := wr_if_eq (t := 1273) rfl
set_option maxRecDepth 20000 in
theorem q5000_1269 (ls : mm_V) (s0 : Int32) (s1 : Nat) : ww (mp_P fx) d 5000 1269 ls [.int s0, .ref s1] h Q ↔ ww (mp_P fx) d 5000 1270 ls [.int 1, .int s0, .ref s1] h Q := wr_iconst (i := 1) rfl
set_option maxRecDepth 20000 in
theorem q5000_1270 (ls : mm_V) (s0 : Int32) (s1 : Int32) (s2 : Nat) : ww (mp_P fx) d 5000 1270 ls [.int s0, .int s1, .ref s2] h Q ↔ ww (mp_P fx) d 5000 1274 ls [.int s0, .int s1, .ref s2] h Q := wr_goto (t := 1274) rfl
set_option maxRecDepth 20000 in
theorem q5000_1273 (ls : mm_V) (s0 : Int32) (s1 : Nat) : ww (mp_P fx) d 5000 1273 ls [.int s0, .ref s1] h Q ↔ ww (mp_P fx) d 5000 1274 ls [.int 0, .int s0, .ref s1] h Q := wr_iconst (i := 0) rfl
set_option maxRecDepth 20000 in
theorem q5000_1274 (ls : mm_V) (s0 : Int32) (s1 : Int32) (s2 : Nat) (hc : mm_cls h s2 = 9) : ww (mp_P fx) (d + 1) 5000 1274 ls [.int s0, .int s1, .ref s2] h Q ↔ wm (mp_P fx) d 202 [.ref s2, .int s1, .int s0] h (fun r h' => ww (mp_P fx) (d + 1) 5000 1277 ls (r.toList ++ []) h' Q) := wr_virtual rfl (mm_recv_ok (n := 2) (rc := 9) ⟨rfl, rfl⟩ rfl hc (by decide)) rfl
set_option maxRecDepth 20000 in
theorem q5000_1277 (l0 : Option Value) (l1 : Option Value) (l3 : Option Value) (l4 : Option Value) (l5 : Option Value) (l6 : Option Value) (x : Nat) (s0 : Int32) : ww (mp_P fx) d 5000 1277 [l0, l1, some (.ref x), l3, l4, l5, l6] [.int s0] h Q ↔ ww (mp_P fx) d 5000 1278 [l0, l1, some (.ref x), l3, l4, l5, l6] [.ref x, .int s0] h Q := ww_step rfl
set_option maxRecDepth 20000 in
theorem q5000_1278 (l1 : Option Value) (l2 : Option Value) (l3 : Option Value) (l4 : Option Value) (l5 : Option Value) (l6 : Option Value) (x : Nat) (s0 : Nat) (s1 : Int32) : ww (mp_P fx) d 5000 1278 [some (.ref x), l1, l2, l3, l4, l5, l6] [.ref s0, .int s1] h Q ↔ ww (mp_P fx) d 5000 1279 [some (.ref x), l1, l2, l3, l4, l5, l6] [.ref x, .ref s0, .int s1] h Q := ww_step rfl
set_option maxRecDepth 20000 in
theorem q5000_1279 (l0 : Option Value) (l1 : Option Value) (l2 : Option Value) (l3 : Option Value) (l5 : Option Value) (l6 : Option Value) (x : Int32) (s0 : Nat) (s1 : Nat) (s2 : Int32) : ww (mp_P fx) d 5000 1279 [l0, l1, l2, l3, some (.int x), l5, l6] [.ref s0, .ref s1, .int s2] h Q ↔ ww (mp_P fx) d 5000 1281 [l0, l1, l2, l3, some (.int x), l5, l6] [.int x, .ref s0, .ref s1, .int s2] h Q := ww_step rfl
set_option maxRecDepth 20000 in
theorem q5000_1281 (ls : mm_V) (s0 : Int32) (s1 : Nat) (s2 : Nat) (s3 : Int32) : ww (mp_P fx) d 5000 1281 ls [.int s0, .ref s1, .ref s2, .int s3] h Q ↔ ww (mp_P fx) d 5000 1282 ls [.int 1, .int s0, .ref s1, .ref s2, .int s3] h Q := wr_iconst (i := 1) rfl
set_option maxRecDepth 20000 in
theorem q5000_1282 (ls : mm_V) (s0 : Int32) (s1 : Int32) (s2 : Nat) (s3 : Nat) (s4 : Int32) : ww (mp_P fx) d 5000 1282 ls [.int s0, .int s1, .ref s2, .ref s3, .int s4] h Q ↔ ww (mp_P fx) d 5000 1283 ls [.int (s1 + s0), .ref s2, .ref s3, .int s4] h Q := wr_iadd rfl
set_option maxRecDepth 20000 in
theorem q5000_1283 (ls : mm_V) (s0 : Int32) (s1 : Nat) (s2 : Nat) (s3 : Int32) : ww (mp_P fx) d 5000 1283 ls [.int s0, .ref s1, .ref s2, .int s3] h Q ↔ ∃ x, mm_gI h s1 0 9 s0 = some x ∧ ww (mp_P fx) d 5000 1284 ls [.int x, .ref s2, .int s3] h Q := wr_iaload rfl
set_option maxRecDepth 20000 in
theorem q5000_1284 (l1 : Option Value) (l2 : Option Value) (l3 : Option Value) (l4 : Option Value) (l5 : Option Value) (l6 : Option Value) (x : Nat) (s0 : Int32) (s1 : Nat) (s2 : Int32) : ww (mp_P fx) d 5000 1284 [some (.ref x), l1, l2, l3, l4, l5, l6] [.int s0, .ref s1, .int s2] h Q ↔ ww (mp_P fx) d 5000 1285 [some (.ref x), l1, l2, l3, l4, l5, l6] [.ref x, .int s0, .ref s1, .int s2] h Q := ww_step rfl
set_option maxRecDepth 20000 in
theorem q5000_1285 (l0 : Option Value) (l1 : Option Value) (l2 : Option Value) (l3 : Option Value) (l5 : Option Value) (l6 : Option Value) (x : Int32) (s0 : Nat) (s1 : Int32) (s2 : Nat) (s3 : Int32) : ww (mp_P fx) d 5000 1285 [l0, l1, l2, l3, some (.int x), l5, l6] [.ref s0, .int s1, .ref s2, .int s3] h Q ↔ ww (mp_P fx) d 5000 1287 [l0, l1, l2, l3, some (.int x), l5, l6] [.int x, .ref s0, .int s1, .ref s2, .int s3] h Q := ww_step rfl
set_option maxRecDepth 20000 in
theorem q5000_1287 (ls : mm_V) (s0 : Int32) (s1 : Nat) (s2 : Int32) (s3 : Nat) (s4 : Int32) : ww (mp_P fx) d 5000 1287 ls [.int s0, .ref s1, .int s2, .ref s3, .int s4] h Q ↔ ww (mp_P fx) d 5000 1288 ls [.int 2, .int s0, .ref s1, .int s2, .ref s3, .int s4] h Q := wr_iconst (i := 2) rfl
set_option maxRecDepth 20000 in
theorem q5000_1288 (ls : mm_V) (s0 : Int32) (s1 : Int32) (s2 : Nat) (s3 : Int32) (s4 : Nat) (s5 : Int32) : ww (mp_P fx) d 5000 1288 ls [.int s0, .int s1, .ref s2, .int s3, .ref s4, .int s5] h Q ↔ ww (mp_P fx) d 5000 1289 ls [.int (s1 + s0), .ref s2, .int s3, .ref s4, .int s5] h Q := wr_iadd rfl
set_option maxRecDepth 20000 in
theorem q5000_1289 (ls : mm_V) (s0 : Int32) (s1 : Nat) (s2 : Int32) (s3 : Nat) (s4 : Int32) : ww (mp_P fx) d 5000 1289 ls [.int s0, .ref s1, .int s2, .ref s3, .int s4] h Q ↔ ∃ x, mm_gI h s1 0 9 s0 = some x ∧ ww (mp_P fx) d 5000 1290 ls [.int x, .int s2, .ref s3, .int s4] h Q := wr_iaload rfl
set_option maxRecDepth 20000 in
theorem q5000_1290 (ls : mm_V) (s0 : Int32) (s1 : Int32) (s2 : Nat) (s3 : Int32) : ww (mp_P fx) d 5000 1290 ls [.int s0, .int s1, .ref s2, .int s3] h Q ↔ (if s0 = 0 then ww (mp_P fx) d 5000 1297 ls [.int s1, .ref s2, .int s3] h Q else ww (mp_P fx) d 5000 1293 ls [.int s1, .ref s2, .int s3] h Q) := wr_if_eq (t := 1297) rfl
set_option maxRecDepth 20000 in
theorem q5000_1293 (ls : mm_V) (s0 : Int32) (s1 : Nat) (s2 : Int32) : ww (mp_P fx) d 5000 1293 ls [.int s0, .ref s1, .int s2] h Q ↔ ww (mp_P fx) d 5000 1294 ls [.int 1, .int s0, .ref s1, .int s2] h Q := wr_iconst (i := 1) rfl
set_option maxRecDepth 20000 in
theorem q5000_1294 (ls : mm_V) (s0 : Int32) (s1 : Int32) (s2 : Nat) (s3 : Int32) : ww (mp_P fx) d 5000 1294 ls [.int s0, .int s1, .ref s2, .int s3] h Q ↔ ww (mp_P fx) d 5000 1298 ls [.int s0, .int s1, .ref s2, .int s3] h Q := wr_goto (t := 1298) rfl
set_option maxRecDepth 20000 in
theorem q5000_1297 (ls : mm_V) (s0 : Int32) (s1 : Nat) (s2 : Int32) : ww (mp_P fx) d 5000 1297 ls [.int s0, .ref s1, .int s2] h Q ↔ ww (mp_P fx) d 5000 1298 ls [.int 0, .int s0, .ref s1, .int s2] h Q := wr_iconst (i := 0) rfl
set_option maxRecDepth 20000 in
theorem q5000_1298 (ls : mm_V) (s0 : Int32) (s1 : Int32) (s2 : Nat) (s3 : Int32) (hc : mm_cls h s2 = 10) : ww (mp_P fx) (d + 1) 5000 1298 ls [.int s0, .int s1, .ref s2, .int s3] h Q ↔ wm (mp_P fx) d 327 [.ref s2, .int s1, .int s0] h (fun r h' => ww (mp_P fx) (d + 1) 5000 1301 ls (r.toList ++ [.int s3]) h' Q) := wr_virtual rfl (mm_recv_ok (n := 2) (rc := 10) ⟨rfl, rfl⟩ rfl hc (by decide)) rfl
set_option maxRecDepth 20000 in
theorem q5000_1301 (ls : mm_V) (s0 : Int32) (s1 : Int32) : ww (mp_P fx) d 5000 1301 ls [.int s0, .int s1] h Q ↔ (if s1 = s0 then ww (mp_P fx) d 5000 1331 ls [] h Q else ww (mp_P fx) d 5000 1304 ls [] h Q) := wr_icmp_eq (t := 1331) rfl
set_option maxRecDepth 20000 in
theorem q5000_1304 (ls : mm_V) : ww (mp_P fx) d 5000 1304 ls [] h Q ↔ ww (mp_P fx) d 5000 1305 ls [.int 0] h Q := wr_iconst (i := 0) rfl
set_option maxRecDepth 20000 in
theorem q5000_1305 (ls : mm_V) (s0 : Int32) (hb : mm_ret (mp_sig 5000).2.2.2 (.int s0) = true) : ww (mp_P fx) d 5000 1305 ls [.int s0] h Q ↔ Q (some (.int s0)) h := wr_ireturn rfl hb
set_option maxRecDepth 20000 in
theorem q5000_1306 (l0 : Option Value) (l2 : Option Value) (l3 : Option Value) (l4 : Option Value) (l5 : Option Value) (l6 : Option Value) (x : Nat) : ww (mp_P fx) d 5000 1306 [l0, some (.ref x), l2, l3, l4, l5, l6] [] h Q ↔ ww (mp_P fx) d 5000 1307 [l0, some (.ref x), l2, l3, l4, l5, l6] [.ref x] h Q := ww_step rfl
set_option maxRecDepth 20000 in
theorem q5000_1307 (l1 : Option Value) (l2 : Option Value) (l3 : Option Value) (l4 : Option Value) (l5 : Option Value) (l6 : Option Value) (x : Nat) (s0 : Nat) : ww (mp_P fx) d 5000 1307 [some (.ref x), l1, l2, l3, l4, l5, l6] [.ref s0] h Q ↔ ww (mp_P fx) d 5000 1308 [some (.ref x), l1, l2, l3, l4, l5, l6] [.ref x, .ref s0] h Q := ww_step rfl
set_option maxRecDepth 20000 in
theorem q5000_1308 (l0 : Option Value) (l1 : Option Value) (l2 : Option Value) (l3 : Option Value) (l5 : Option Value) (l6 : Option Value) (x : Int32) (s0 : Nat) (s1 : Nat) : ww (mp_P fx) d 5000 1308 [l0, l1, l2, l3, some (.int x), l5, l6] [.ref s0, .ref s1] h Q ↔ ww (mp_P fx) d 5000 1310 [l0, l1, l2, l3, some (.int x), l5, l6] [.int x, .ref s0, .ref s1] h Q := ww_step rfl
set_option maxRecDepth 20000 in
theorem q5000_1310 (ls : mm_V) (s0 : Int32) (s1 : Nat) (s2 : Nat) : ww (mp_P fx) d 5000 1310 ls [.int s0, .ref s1, .ref s2] h Q ↔ ww (mp_P fx) d 5000 1311 ls [.int 1, .int s0, .ref s1, .ref s2] h Q := wr_iconst (i := 1) rfl
set_option maxRecDepth 20000 in
theorem q5000_1311 (ls : mm_V) (s0 : Int32) (s1 : Int32) (s2 : Nat) (s3 : Nat) : ww (mp_P fx) d 5000 1311 ls [.int s0, .int s1, .ref s2, .ref s3] h Q ↔ ww (mp_P fx) d 5000 1312 ls [.int (s1 + s0), .ref s2, .ref s3] h Q := wr_iadd rfl
set_option maxRecDepth 20000 in
theorem q5000_1312 (ls : mm_V) (s0 : Int32) (s1 : Nat) (s2 : Nat) : ww (mp_P fx) d 5000 1312 ls [.int s0, .ref s1, .ref s2] h Q ↔ ∃ x, mm_gI h s1 0 9 s0 = some x ∧ ww (mp_P fx) d 5000 1313 ls [.int x, .ref s2] h Q := wr_iaload rfl
set_option maxRecDepth 20000 in
theorem q5000_1313 (ls : mm_V) (s0 : Int32) (s1 : Nat) (hc : mm_cls h s1 = 9) : ww (mp_P fx) (d + 1) 5000 1313 ls [.int s0, .ref s1] h Q ↔ wm (mp_P fx) d 204 [.ref s1, .int s0] h (fun r h' => ww (mp_P fx) (d + 1) 5000 1316 ls (r.toList ++ []) h' Q) := wr_virtual rfl (mm_recv_ok (n := 1) (rc := 9) ⟨rfl, rfl⟩ rfl hc (by decide)) rfl
set_option maxRecDepth 20000 in
theorem q5000_1316 (l0 : Option Value) (l1 : Option Value) (l3 : Option Value) (l4 : Option Value) (l5 : Option Value) (l6 : Option Value) (x : Nat) (s0 : Int32) : ww (mp_P fx) d 5000 1316 [l0, l1, some (.ref x), l3, l4, l5, l6] [.int s0] h Q ↔ ww (mp_P fx) d 5000 1317 [l0, l1, some (.ref x), l3, l4, l5, l6] [.ref x, .int s0] h Q := ww_step rfl
set_option maxRecDepth 20000 in
theorem q5000_1317 (l1 : Option Value) (l2 : Option Value) (l3 : Option Value) (l4 : Option Value) (l5 : Option Value) (l6 : Option Value) (x : Nat) (s0 : Nat) (s1 : Int32) : ww (mp_P fx) d 5000 1317 [some (.ref x), l1, l2, l3, l4, l5, l6] [.ref s0, .int s1] h Q ↔ ww (mp_P fx) d 5000 1318 [some (.ref x), l1, l2, l3, l4, l5, l6] [.ref x, .ref s0, .int s1] h Q := ww_step rfl
set_option maxRecDepth 20000 in
theorem q5000_1318 (l0 : Option Value) (l1 : Option Value) (l2 : Option Value) (l3 : Option Value) (l5 : Option Value) (l6 : Option Value) (x : Int32) (s0 : Nat) (s1 : Nat) (s2 : Int32) : ww (mp_P fx) d 5000 1318 [l0, l1, l2, l3, some (.int x), l5, l6] [.ref s0, .ref s1, .int s2] h Q ↔ ww (mp_P fx) d 5000 1320 [l0, l1, l2, l3, some (.int x), l5, l6] [.int x, .ref s0, .ref s1, .int s2] h Q := ww_step rfl
set_option maxRecDepth 20000 in
theorem q5000_1320 (ls : mm_V) (s0 : Int32) (s1 : Nat) (s2 : Nat) (s3 : Int32) : ww (mp_P fx) d 5000 1320 ls [.int s0, .ref s1, .ref s2, .int s3] h Q ↔ ww (mp_P fx) d 5000 1321 ls [.int 1, .int s0, .ref s1, .ref s2, .int s3] h Q := wr_iconst (i := 1) rfl
set_option maxRecDepth 20000 in
theorem q5000_1321 (ls : mm_V) (s0 : Int32) (s1 : Int32) (s2 : Nat) (s3 : Nat) (s4 : Int32) : ww (mp_P fx) d 5000 1321 ls [.int s0, .int s1, .ref s2, .ref s3, .int s4] h Q ↔ ww (mp_P fx) d 5000 1322 ls [.int (s1 + s0), .ref s2, .ref s3, .int s4] h Q := wr_iadd rfl
set_option maxRecDepth 20000 in
theorem q5000_1322 (ls : mm_V) (s0 : Int32) (s1 : Nat) (s2 : Nat) (s3 : Int32) : ww (mp_P fx) d 5000 1322 ls [.int s0, .ref s1, .ref s2, .int s3] h Q ↔ ∃ x, mm_gI h s1 0 9 s0 = some x ∧ ww (mp_P fx) d 5000 1323 ls [.int x, .ref s2, .int s3] h Q := wr_iaload rfl
set_option maxRecDepth 20000 in
theorem q5000_1323 (ls : mm_V) (s0 : Int32) (s1 : Nat) (s2 : Int32) (hc : mm_cls h s1 = 10) : ww (mp_P fx) (d + 1) 5000 1323 ls [.int s0, .ref s1, .int s2] h Q ↔ wm (mp_P fx) d 329 [.ref s1, .int s0] h (fun r h' => ww (mp_P fx) (d + 1) 5000 1326 ls (r.toList ++ [.int s2]) h' Q) := wr_virtual rfl (mm_recv_ok (n := 1) (rc := 10) ⟨rfl, rfl⟩ rfl hc (by decide)) rfl
set_option maxRecDepth 20000 in
theorem q5000_1326 (ls : mm_V) (s0 : Int32) (s1 : Int32) : ww (mp_P fx) d 5000 1326 ls [.int s0, .int s1] h Q ↔ (if s1 = s0 then ww (mp_P fx) d 5000 1331 ls [] h Q else ww (mp_P fx) d 5000 1329 ls [] h Q) := wr_icmp_eq (t := 1331) rfl
set_option maxRecDepth 20000 in
theorem q5000_1329 (ls : mm_V) : ww (mp_P fx) d 5000 1329 ls [] h Q ↔ ww (mp_P fx) d 5000 1330 ls [.int 0] h Q := wr_iconst (i := 0) rfl
set_option maxRecDepth 20000 in
theorem q5000_1330 (ls : mm_V) (s0 : Int32) (hb : mm_ret (mp_sig 5000).2.2.2 (.int s0) = true) : ww (mp_P fx) d 5000 1330 ls [.int s0] h Q ↔ Q (some (.int s0)) h := wr_ireturn rfl hb
set_option maxRecDepth 20000 in
theorem q5000_1331r (l0 : Option Value) (l1 : Option Value) (l2 : Option Value) (l5 : Option Value) (l6 : Option Value) (x : Int32) (y : Nat) : ww (mp_P fx) d 5000 1331 [l0, l1, l2, some (.ref y), some (.int x), l5, l6] [] h Q ↔ ww (mp_P fx) d 5000 1334 [l0, l1, l2, some (.ref y), some (.int (x + 7)), l5, l6] [] h Q := wr_iinc (n := 4) (i := 7) rfl rfl (mm_s1_ok (Nat.le_of_ble_eq_true rfl) rfl)
set_option maxRecDepth 20000 in
theorem q5000_1334 (ls : mm_V) : ww (mp_P fx) d 5000 1334 ls [] h Q ↔ ww (mp_P fx) d 5000 23 ls [] h Q := wr_goto (t := 23) rfl
set_option maxRecDepth 20000 in
theorem q5000_1337 (ls : mm_V) : ww (mp_P fx) d 5000 1337 ls [] h Q ↔ ww (mp_P fx) d 5000 1338 ls [.int 1] h Q := wr_iconst (i := 1) rfl
set_option maxRecDepth 20000 in
theorem q5000_1338 (ls : mm_V) (s0 : Int32) (hb : mm_ret (mp_sig 5000).2.2.2 (.int s0) = true) : ww (mp_P fx) d 5000 1338 ls [.int s0] h Q ↔ Q (some (.int s0)) h := wr_ireturn rfl hb
theorem b5000_0 : mm_ret (mp_sig 5000).2.2.2 (.int 0) = true := by decide +kernel
theorem b5000_1 : mm_ret (mp_sig 5000).2.2.2 (.int 1) = true := by decide +kernel
end RW
