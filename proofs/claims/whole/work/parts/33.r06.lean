section RW
variable (fx : List Value → mm_H → Option (List Value × mm_H)) (d : Nat) (h : mm_H) (Q : Option Value → mm_H → Prop)
/- 329 RainGrammarModel.count.(I)I -/
theorem q329_0 (l1 : Option Value) (x : Nat) : ww (mp_P fx) d 329 0 [some (.ref x), l1] [] h Q ↔ ww (mp_P fx) d 329 1 [some (.ref x), l1] [.ref x] h Q := ww_step rfl
theorem q329_1 (ls : mm_V) (s0 : Nat) : ww (mp_P fx) d 329 1 ls [.ref s0] h Q ↔ ww (mp_P fx) d 329 2 ls [.int 0, .ref s0] h Q := wr_iconst (i := 0) rfl
theorem q329_2 (ls : mm_V) (s0 : Int32) (s1 : Nat) : ww (mp_P fx) d 329 2 ls [.int s0, .ref s1] h Q ↔ ∃ h', mm_sF (mp_P fx) h s1 10 0 (.int s0) = some h' ∧ ww (mp_P fx) d 329 5 ls [] h' Q := wr_putfield (n := 1000) rfl
theorem q329_5 (l0 : Option Value) (x : Int32) : ww (mp_P fx) d 329 5 [l0, some (.int x)] [] h Q ↔ ww (mp_P fx) d 329 6 [l0, some (.int x)] [.int x] h Q := ww_step rfl
theorem q329_6 (ls : mm_V) (s0 : Int32) : ww (mp_P fx) d 329 6 ls [.int s0] h Q ↔ ww (mp_P fx) d 329 7 ls [.int 0, .int s0] h Q := wr_iconst (i := 0) rfl
theorem q329_7 (ls : mm_V) (s0 : Int32) (s1 : Int32) : ww (mp_P fx) d 329 7 ls [.int s0, .int s1] h Q ↔ ww (mp_P fx) d 329 9 ls [.int 13, .int s0, .int s1] h Q := wr_bipush (i := 13) rfl
theorem q329_9 (ls : mm_V) (s0 : Int32) (s1 : Int32) (s2 : Int32) : ww (mp_P fx) (d + 1) 329 9 ls [.int s0, .int s1, .int s2] h Q ↔ wm (mp_P fx) d 242 [.int s2, .int s1, .int s0] h (fun r h' => ww (mp_P fx) (d + 1) 329 12 ls (r.toList ++ []) h' Q) := wr_static rfl rfl
theorem q329_12 (ls : mm_V) (s0 : Int32) : ww (mp_P fx) d 329 12 ls [.int s0] h Q ↔ (if ¬ s0 = 0 then ww (mp_P fx) d 329 17 ls [] h Q else ww (mp_P fx) d 329 15 ls [] h Q) := wr_if_ne (t := 17) rfl
theorem q329_15 (ls : mm_V) : ww (mp_P fx) d 329 15 ls [] h Q ↔ ww (mp_P fx) d 329 16 ls [.int (-1)] h Q := wr_iconst (i := (-1)) rfl
theorem q329_16 (ls : mm_V) (s0 : Int32) : ww (mp_P fx) d 329 16 ls [.int s0] h Q ↔ Q (some (.int s0)) h := wr_ireturn rfl rfl
theorem q329_17 (l0 : Option Value) (x : Int32) : ww (mp_P fx) d 329 17 [l0, some (.int x)] [] h Q ↔ ww (mp_P fx) d 329 18 [l0, some (.int x)] [.int x] h Q := ww_step rfl
theorem q329_18 (ls : mm_V) (s0 : Int32) : ww (mp_P fx) d 329 18 ls [.int s0] h Q ↔ ww (mp_P fx) d 329 19 ls [.int 4, .int s0] h Q := wr_iconst (i := 4) rfl
theorem q329_19 (ls : mm_V) (s0 : Int32) (s1 : Int32) : ww (mp_P fx) d 329 19 ls [.int s0, .int s1] h Q ↔ (if s0 ≤ s1 then ww (mp_P fx) d 329 29 ls [] h Q else ww (mp_P fx) d 329 22 ls [] h Q) := wr_icmp_ge (t := 29) rfl
theorem q329_22 (l1 : Option Value) (x : Nat) : ww (mp_P fx) d 329 22 [some (.ref x), l1] [] h Q ↔ ww (mp_P fx) d 329 23 [some (.ref x), l1] [.ref x] h Q := ww_step rfl
theorem q329_23 (ls : mm_V) (s0 : Nat) : ww (mp_P fx) d 329 23 ls [.ref s0] h Q ↔ ∃ x, mm_gF h s0 10 10 = some x ∧ ww (mp_P fx) d 329 26 ls [x] h Q := wr_getfield (n := 1010) rfl
theorem q329_26 (l0 : Option Value) (x : Int32) (s0 : Nat) : ww (mp_P fx) d 329 26 [l0, some (.int x)] [.ref s0] h Q ↔ ww (mp_P fx) d 329 27 [l0, some (.int x)] [.int x, .ref s0] h Q := ww_step rfl
theorem q329_27 (ls : mm_V) (s0 : Int32) (s1 : Nat) : ww (mp_P fx) d 329 27 ls [.int s0, .ref s1] h Q ↔ ∃ x, mm_gI h s1 0 9 s0 = some x ∧ ww (mp_P fx) d 329 28 ls [.int x] h Q := wr_iaload rfl
theorem q329_28 (ls : mm_V) (s0 : Int32) : ww (mp_P fx) d 329 28 ls [.int s0] h Q ↔ Q (some (.int s0)) h := wr_ireturn rfl rfl
theorem q329_29 (l0 : Option Value) (x : Int32) : ww (mp_P fx) d 329 29 [l0, some (.int x)] [] h Q ↔ ww (mp_P fx) d 329 30 [l0, some (.int x)] [.int x] h Q := ww_step rfl
theorem q329_30 (ls : mm_V) (s0 : Int32) : ww (mp_P fx) d 329 30 ls [.int s0] h Q ↔ ww (mp_P fx) d 329 32 ls [.int 6, .int s0] h Q := wr_bipush (i := 6) rfl
theorem q329_32 (ls : mm_V) (s0 : Int32) (s1 : Int32) : ww (mp_P fx) d 329 32 ls [.int s0, .int s1] h Q ↔ (if s0 ≤ s1 then ww (mp_P fx) d 329 60 ls [] h Q else ww (mp_P fx) d 329 35 ls [] h Q) := wr_icmp_ge (t := 60) rfl
theorem q329_35 (l0 : Option Value) (x : Int32) : ww (mp_P fx) d 329 35 [l0, some (.int x)] [] h Q ↔ ww (mp_P fx) d 329 36 [l0, some (.int x)] [.int x] h Q := ww_step rfl
theorem q329_36 (ls : mm_V) (s0 : Int32) : ww (mp_P fx) d 329 36 ls [.int s0] h Q ↔ ww (mp_P fx) d 329 37 ls [.int 4, .int s0] h Q := wr_iconst (i := 4) rfl
theorem q329_37 (ls : mm_V) (s0 : Int32) (s1 : Int32) : ww (mp_P fx) d 329 37 ls [.int s0, .int s1] h Q ↔ (if ¬ s1 = s0 then ww (mp_P fx) d 329 49 ls [] h Q else ww (mp_P fx) d 329 40 ls [] h Q) := wr_icmp_ne (t := 49) rfl
theorem q329_40 (l1 : Option Value) (x : Nat) : ww (mp_P fx) d 329 40 [some (.ref x), l1] [] h Q ↔ ww (mp_P fx) d 329 41 [some (.ref x), l1] [.ref x] h Q := ww_step rfl
theorem q329_41 (ls : mm_V) (s0 : Nat) : ww (mp_P fx) d 329 41 ls [.ref s0] h Q ↔ ∃ x, mm_gF h s0 10 50 = some x ∧ ww (mp_P fx) d 329 44 ls [x] h Q := wr_getfield (n := 1050) rfl
theorem q329_44 (ls : mm_V) (s0 : Nat) : ww (mp_P fx) d 329 44 ls [.ref s0] h Q ↔ ww (mp_P fx) d 329 45 ls [.int 0, .ref s0] h Q := wr_iconst (i := 0) rfl
theorem q329_45 (ls : mm_V) (s0 : Int32) (s1 : Nat) : ww (mp_P fx) d 329 45 ls [.int s0, .ref s1] h Q ↔ ∃ x, mm_gI h s1 0 9 s0 = some x ∧ ww (mp_P fx) d 329 46 ls [.int x] h Q := wr_iaload rfl
theorem q329_46 (ls : mm_V) (s0 : Int32) : ww (mp_P fx) d 329 46 ls [.int s0] h Q ↔ ww (mp_P fx) d 329 59 ls [.int s0] h Q := wr_goto (t := 59) rfl
theorem q329_49 (l1 : Option Value) (x : Nat) : ww (mp_P fx) d 329 49 [some (.ref x), l1] [] h Q ↔ ww (mp_P fx) d 329 50 [some (.ref x), l1] [.ref x] h Q := ww_step rfl
theorem q329_50 (l1 : Option Value) (x : Nat) (s0 : Nat) : ww (mp_P fx) d 329 50 [some (.ref x), l1] [.ref s0] h Q ↔ ww (mp_P fx) d 329 51 [some (.ref x), l1] [.ref x, .ref s0] h Q := ww_step rfl
theorem q329_51 (ls : mm_V) (s0 : Nat) (s1 : Nat) : ww (mp_P fx) d 329 51 ls [.ref s0, .ref s1] h Q ↔ ∃ x, mm_gF h s0 10 50 = some x ∧ ww (mp_P fx) d 329 54 ls [x, .ref s1] h Q := wr_getfield (n := 1050) rfl
theorem q329_54 (ls : mm_V) (s0 : Nat) (s1 : Nat) : ww (mp_P fx) d 329 54 ls [.ref s0, .ref s1] h Q ↔ ww (mp_P fx) d 329 55 ls [.int 0, .ref s0, .ref s1] h Q := wr_iconst (i := 0) rfl
theorem q329_55 (ls : mm_V) (s0 : Int32) (s1 : Nat) (s2 : Nat) : ww (mp_P fx) d 329 55 ls [.int s0, .ref s1, .ref s2] h Q ↔ ∃ x, mm_gI h s1 0 9 s0 = some x ∧ ww (mp_P fx) d 329 56 ls [.int x, .ref s2] h Q := wr_iaload rfl
theorem q329_56 (ls : mm_V) (s0 : Int32) (s1 : Nat) (hc : mm_cls h s1 = 10) : ww (mp_P fx) (d + 1) 329 56 ls [.int s0, .ref s1] h Q ↔ wm (mp_P fx) d 263 [.ref s1, .int s0] h (fun r h' => ww (mp_P fx) (d + 1) 329 59 ls (r.toList ++ []) h' Q) := wr_virtual rfl (mm_recv_ok (n := 1) (rc := 10) ⟨rfl, rfl⟩ rfl hc (by decide)) rfl
theorem q329_59 (ls : mm_V) (s0 : Int32) : ww (mp_P fx) d 329 59 ls [.int s0] h Q ↔ Q (some (.int s0)) h := wr_ireturn rfl rfl
theorem q329_60 (l1 : Option Value) (x : Nat) : ww (mp_P fx) d 329 60 [some (.ref x), l1] [] h Q ↔ ww (mp_P fx) d 329 61 [some (.ref x), l1] [.ref x] h Q := ww_step rfl
theorem q329_61 (ls : mm_V) (s0 : Nat) (hc : mm_cls h s0 = 10) : ww (mp_P fx) (d + 1) 329 61 ls [.ref s0] h Q ↔ wm (mp_P fx) d 269 [.ref s0] h (fun r h' => ww (mp_P fx) (d + 1) 329 64 ls (r.toList ++ []) h' Q) := wr_virtual rfl (mm_recv_ok (n := 0) (rc := 10) ⟨rfl, rfl⟩ rfl hc (by decide)) rfl
theorem q329_64 (l0 : Option Value) (x : Int32) : ww (mp_P fx) d 329 64 [l0, some (.int x)] [] h Q ↔ ww (mp_P fx) d 329 65 [l0, some (.int x)] [.int x] h Q := ww_step rfl
theorem q329_65 (ls : mm_V) (s0 : Int32) : ww (mp_P fx) d 329 65 ls [.int s0] h Q ↔ ww (mp_P fx) d 329 67 ls [.int 8, .int s0] h Q := wr_bipush (i := 8) rfl
theorem q329_67 (ls : mm_V) (s0 : Int32) (s1 : Int32) : ww (mp_P fx) d 329 67 ls [.int s0, .int s1] h Q ↔ (if s0 ≤ s1 then ww (mp_P fx) d 329 88 ls [] h Q else ww (mp_P fx) d 329 70 ls [] h Q) := wr_icmp_ge (t := 88) rfl
theorem q329_70 (l0 : Option Value) (x : Int32) : ww (mp_P fx) d 329 70 [l0, some (.int x)] [] h Q ↔ ww (mp_P fx) d 329 71 [l0, some (.int x)] [.int x] h Q := ww_step rfl
theorem q329_71 (ls : mm_V) (s0 : Int32) : ww (mp_P fx) d 329 71 ls [.int s0] h Q ↔ ww (mp_P fx) d 329 73 ls [.int 6, .int s0] h Q := wr_bipush (i := 6) rfl
theorem q329_73 (ls : mm_V) (s0 : Int32) (s1 : Int32) : ww (mp_P fx) d 329 73 ls [.int s0, .int s1] h Q ↔ (if ¬ s1 = s0 then ww (mp_P fx) d 329 83 ls [] h Q else ww (mp_P fx) d 329 76 ls [] h Q) := wr_icmp_ne (t := 83) rfl
theorem q329_76 (l1 : Option Value) (x : Nat) : ww (mp_P fx) d 329 76 [some (.ref x), l1] [] h Q ↔ ww (mp_P fx) d 329 77 [some (.ref x), l1] [.ref x] h Q := ww_step rfl
theorem q329_77 (ls : mm_V) (s0 : Nat) : ww (mp_P fx) d 329 77 ls [.ref s0] h Q ↔ ∃ x, mm_gF h s0 10 62 = some x ∧ ww (mp_P fx) d 329 80 ls [x] h Q := wr_getfield (n := 1062) rfl
theorem q329_80 (ls : mm_V) (s0 : Int32) : ww (mp_P fx) d 329 80 ls [.int s0] h Q ↔ ww (mp_P fx) d 329 87 ls [.int s0] h Q := wr_goto (t := 87) rfl
theorem q329_83 (l1 : Option Value) (x : Nat) : ww (mp_P fx) d 329 83 [some (.ref x), l1] [] h Q ↔ ww (mp_P fx) d 329 84 [some (.ref x), l1] [.ref x] h Q := ww_step rfl
theorem q329_84 (ls : mm_V) (s0 : Nat) : ww (mp_P fx) d 329 84 ls [.ref s0] h Q ↔ ∃ x, mm_gF h s0 10 59 = some x ∧ ww (mp_P fx) d 329 87 ls [x] h Q := wr_getfield (n := 1059) rfl
theorem q329_87 (ls : mm_V) (s0 : Int32) : ww (mp_P fx) d 329 87 ls [.int s0] h Q ↔ Q (some (.int s0)) h := wr_ireturn rfl rfl
theorem q329_88 (l0 : Option Value) (x : Int32) : ww (mp_P fx) d 329 88 [l0, some (.int x)] [] h Q ↔ ww (mp_P fx) d 329 89 [l0, some (.int x)] [.int x] h Q := ww_step rfl
theorem q329_89 (ls : mm_V) (s0 : Int32) : ww (mp_P fx) d 329 89 ls [.int s0] h Q ↔ ww (mp_P fx) d 329 91 ls [.int 11, .int s0] h Q := wr_bipush (i := 11) rfl
theorem q329_91 (ls : mm_V) (s0 : Int32) (s1 : Int32) : ww (mp_P fx) d 329 91 ls [.int s0, .int s1] h Q ↔ (if s0 ≤ s1 then ww (mp_P fx) d 329 131 ls [] h Q else ww (mp_P fx) d 329 94 ls [] h Q) := wr_icmp_ge (t := 131) rfl
theorem q329_94 (l0 : Option Value) (x : Int32) : ww (mp_P fx) d 329 94 [l0, some (.int x)] [] h Q ↔ ww (mp_P fx) d 329 95 [l0, some (.int x)] [.int x] h Q := ww_step rfl
theorem q329_95 (ls : mm_V) (s0 : Int32) : ww (mp_P fx) d 329 95 ls [.int s0] h Q ↔ ww (mp_P fx) d 329 97 ls [.int 8, .int s0] h Q := wr_bipush (i := 8) rfl
theorem q329_97 (ls : mm_V) (s0 : Int32) (s1 : Int32) : ww (mp_P fx) d 329 97 ls [.int s0, .int s1] h Q ↔ (if ¬ s1 = s0 then ww (mp_P fx) d 329 109 ls [] h Q else ww (mp_P fx) d 329 100 ls [] h Q) := wr_icmp_ne (t := 109) rfl
theorem q329_100 (l1 : Option Value) (x : Nat) : ww (mp_P fx) d 329 100 [some (.ref x), l1] [] h Q ↔ ww (mp_P fx) d 329 101 [some (.ref x), l1] [.ref x] h Q := ww_step rfl
theorem q329_101 (ls : mm_V) (s0 : Nat) : ww (mp_P fx) d 329 101 ls [.ref s0] h Q ↔ ∃ x, mm_gF h s0 10 50 = some x ∧ ww (mp_P fx) d 329 104 ls [x] h Q := wr_getfield (n := 1050) rfl
theorem q329_104 (ls : mm_V) (s0 : Nat) : ww (mp_P fx) d 329 104 ls [.ref s0] h Q ↔ ww (mp_P fx) d 329 105 ls [.int 1, .ref s0] h Q := wr_iconst (i := 1) rfl
theorem q329_105 (ls : mm_V) (s0 : Int32) (s1 : Nat) : ww (mp_P fx) d 329 105 ls [.int s0, .ref s1] h Q ↔ ∃ x, mm_gI h s1 0 9 s0 = some x ∧ ww (mp_P fx) d 329 106 ls [.int x] h Q := wr_iaload rfl
theorem q329_106 (ls : mm_V) (s0 : Int32) : ww (mp_P fx) d 329 106 ls [.int s0] h Q ↔ ww (mp_P fx) d 329 130 ls [.int s0] h Q := wr_goto (t := 130) rfl
theorem q329_109 (l0 : Option Value) (x : Int32) : ww (mp_P fx) d 329 109 [l0, some (.int x)] [] h Q ↔ ww (mp_P fx) d 329 110 [l0, some (.int x)] [.int x] h Q := ww_step rfl
theorem q329_110 (ls : mm_V) (s0 : Int32) : ww (mp_P fx) d 329 110 ls [.int s0] h Q ↔ ww (mp_P fx) d 329 112 ls [.int 9, .int s0] h Q := wr_bipush (i := 9) rfl
theorem q329_112 (ls : mm_V) (s0 : Int32) (s1 : Int32) : ww (mp_P fx) d 329 112 ls [.int s0, .int s1] h Q ↔ (if ¬ s1 = s0 then ww (mp_P fx) d 329 124 ls [] h Q else ww (mp_P fx) d 329 115 ls [] h Q) := wr_icmp_ne (t := 124) rfl
theorem q329_115 (l1 : Option Value) (x : Nat) : ww (mp_P fx) d 329 115 [some (.ref x), l1] [] h Q ↔ ww (mp_P fx) d 329 116 [some (.ref x), l1] [.ref x] h Q := ww_step rfl
theorem q329_116 (ls : mm_V) (s0 : Nat) : ww (mp_P fx) d 329 116 ls [.ref s0] h Q ↔ ∃ x, mm_gF h s0 10 40 = some x ∧ ww (mp_P fx) d 329 119 ls [x] h Q := wr_getfield (n := 1040) rfl
theorem q329_119 (ls : mm_V) (s0 : Nat) : ww (mp_P fx) d 329 119 ls [.ref s0] h Q ↔ ww (mp_P fx) d 329 120 ls [.int 0, .ref s0] h Q := wr_iconst (i := 0) rfl
theorem q329_120 (ls : mm_V) (s0 : Int32) (s1 : Nat) : ww (mp_P fx) d 329 120 ls [.int s0, .ref s1] h Q ↔ ∃ x, mm_gI h s1 0 9 s0 = some x ∧ ww (mp_P fx) d 329 121 ls [.int x] h Q := wr_iaload rfl
theorem q329_121 (ls : mm_V) (s0 : Int32) : ww (mp_P fx) d 329 121 ls [.int s0] h Q ↔ ww (mp_P fx) d 329 130 ls [.int s0] h Q := wr_goto (t := 130) rfl
theorem q329_124 (l1 : Option Value) (x : Nat) : ww (mp_P fx) d 329 124 [some (.ref x), l1] [] h Q ↔ ww (mp_P fx) d 329 125 [some (.ref x), l1] [.ref x] h Q := ww_step rfl
theorem q329_125 (ls : mm_V) (s0 : Nat) : ww (mp_P fx) d 329 125 ls [.ref s0] h Q ↔ ∃ x, mm_gF h s0 10 44 = some x ∧ ww (mp_P fx) d 329 128 ls [x] h Q := wr_getfield (n := 1044) rfl
theorem q329_128 (ls : mm_V) (s0 : Nat) : ww (mp_P fx) d 329 128 ls [.ref s0] h Q ↔ ww (mp_P fx) d 329 129 ls [.int 0, .ref s0] h Q := wr_iconst (i := 0) rfl
theorem q329_129 (ls : mm_V) (s0 : Int32) (s1 : Nat) : ww (mp_P fx) d 329 129 ls [.int s0, .ref s1] h Q ↔ ∃ x, mm_gI h s1 0 9 s0 = some x ∧ ww (mp_P fx) d 329 130 ls [.int x] h Q := wr_iaload rfl
theorem q329_130 (ls : mm_V) (s0 : Int32) : ww (mp_P fx) d 329 130 ls [.int s0] h Q ↔ Q (some (.int s0)) h := wr_ireturn rfl rfl
theorem q329_131 (l0 : Option Value) (x : Int32) : ww (mp_P fx) d 329 131 [l0, some (.int x)] [] h Q ↔ ww (mp_P fx) d 329 132 [l0, some (.int x)] [.int x] h Q := ww_step rfl
theorem q329_132 (ls : mm_V) (s0 : Int32) : ww (mp_P fx) d 329 132 ls [.int s0] h Q ↔ ww (mp_P fx) d 329 134 ls [.int 11, .int s0] h Q := wr_bipush (i := 11) rfl
theorem q329_134 (ls : mm_V) (s0 : Int32) (s1 : Int32) : ww (mp_P fx) d 329 134 ls [.int s0, .int s1] h Q ↔ (if ¬ s1 = s0 then ww (mp_P fx) d 329 146 ls [] h Q else ww (mp_P fx) d 329 137 ls [] h Q) := wr_icmp_ne (t := 146) rfl
theorem q329_137 (l1 : Option Value) (x : Nat) : ww (mp_P fx) d 329 137 [some (.ref x), l1] [] h Q ↔ ww (mp_P fx) d 329 138 [some (.ref x), l1] [.ref x] h Q := ww_step rfl
theorem q329_138 (ls : mm_V) (s0 : Nat) : ww (mp_P fx) d 329 138 ls [.ref s0] h Q ↔ ∃ x, mm_gF h s0 10 46 = some x ∧ ww (mp_P fx) d 329 141 ls [x] h Q := wr_getfield (n := 1046) rfl
theorem q329_141 (ls : mm_V) (s0 : Nat) : ww (mp_P fx) d 329 141 ls [.ref s0] h Q ↔ ww (mp_P fx) d 329 142 ls [.int 0, .ref s0] h Q := wr_iconst (i := 0) rfl
theorem q329_142 (ls : mm_V) (s0 : Int32) (s1 : Nat) : ww (mp_P fx) d 329 142 ls [.int s0, .ref s1] h Q ↔ ∃ x, mm_gI h s1 0 9 s0 = some x ∧ ww (mp_P fx) d 329 143 ls [.int x] h Q := wr_iaload rfl
theorem q329_143 (ls : mm_V) (s0 : Int32) : ww (mp_P fx) d 329 143 ls [.int s0] h Q ↔ ww (mp_P fx) d 329 163 ls [.int s0] h Q := wr_goto (t := 163) rfl
theorem q329_146 (l0 : Option Value) (x : Int32) : ww (mp_P fx) d 329 146 [l0, some (.int x)] [] h Q ↔ ww (mp_P fx) d 329 147 [l0, some (.int x)] [.int x] h Q := ww_step rfl
theorem q329_147 (ls : mm_V) (s0 : Int32) : ww (mp_P fx) d 329 147 ls [.int s0] h Q ↔ ww (mp_P fx) d 329 149 ls [.int 12, .int s0] h Q := wr_bipush (i := 12) rfl
theorem q329_149 (ls : mm_V) (s0 : Int32) (s1 : Int32) : ww (mp_P fx) d 329 149 ls [.int s0, .int s1] h Q ↔ (if ¬ s1 = s0 then ww (mp_P fx) d 329 159 ls [] h Q else ww (mp_P fx) d 329 152 ls [] h Q) := wr_icmp_ne (t := 159) rfl
theorem q329_152 (l1 : Option Value) (x : Nat) : ww (mp_P fx) d 329 152 [some (.ref x), l1] [] h Q ↔ ww (mp_P fx) d 329 153 [some (.ref x), l1] [.ref x] h Q := ww_step rfl
theorem q329_153 (ls : mm_V) (s0 : Nat) : ww (mp_P fx) d 329 153 ls [.ref s0] h Q ↔ ∃ x, mm_gF h s0 10 56 = some x ∧ ww (mp_P fx) d 329 156 ls [x] h Q := wr_getfield (n := 1056) rfl
theorem q329_156 (ls : mm_V) (s0 : Int32) : ww (mp_P fx) d 329 156 ls [.int s0] h Q ↔ ww (mp_P fx) d 329 163 ls [.int s0] h Q := wr_goto (t := 163) rfl
theorem q329_159 (l1 : Option Value) (x : Nat) : ww (mp_P fx) d 329 159 [some (.ref x), l1] [] h Q ↔ ww (mp_P fx) d 329 160 [some (.ref x), l1] [.ref x] h Q := ww_step rfl
theorem q329_160 (ls : mm_V) (s0 : Nat) : ww (mp_P fx) d 329 160 ls [.ref s0] h Q ↔ ∃ x, mm_gF h s0 10 1 = some x ∧ ww (mp_P fx) d 329 163 ls [x] h Q := wr_getfield (n := 1001) rfl
theorem q329_163 (ls : mm_V) (s0 : Int32) : ww (mp_P fx) d 329 163 ls [.int s0] h Q ↔ Q (some (.int s0)) h := wr_ireturn rfl rfl
theorem e329 (a0 : Nat) (a1 : Int32) : wm (mp_P fx) d 329 [.ref a0, .int a1] h Q ↔ ww (mp_P fx) d 329 0 [some (.ref a0), some (.int a1)] [] h Q := Iff.rfl
end RW
