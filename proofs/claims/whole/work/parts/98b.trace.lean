/-! printed by wip/whole/gen98d.py: rests of the class, up to where it stops -/
theorem mm_tr_s {P : mm_P} : ∀ (n d k pc : Nat) (ls : mm_V) (st : List Value) (h : mm_H) (R : Nat × mm_V × List Value × mm_H), mm_tr P n d k pc ls st h = some R → mm_tr P (n + 1) d k pc ls st h = some R := by
  intro n
  induction n with
  | zero => intro d k pc ls st h R hs; cases hs
  | succ n ih =>
    intro d k pc ls st h R hs
    rw [mm_tr] at hs
    rw [mm_tr]
    split at hs
    · rename_i h0; rw [if_pos h0]; exact hs
    · rename_i h0
      rw [if_neg h0]
      split at hs
      · cases hs
      · rename_i pc' L' st' h' e
        exact ih _ _ _ _ _ _ _ hs
      · rename_i k' as rest e
        split at hs
        · cases hs
        · split at hs
          · cases hs
          · rename_i r1 h1 e1
            rw [mm_ex_s _ _ _ _ _ _ _ _ e1]
            exact ih _ _ _ _ _ _ _ hs
      · cases hs
theorem mm_tr_le {P : mm_P} {n m d k pc : Nat} {ls : mm_V} {st : List Value} {h : mm_H} {R : Nat × mm_V × List Value × mm_H} (hs : mm_tr P n d k pc ls st h = some R) (hm : n ≤ m) : mm_tr P m d k pc ls st h = some R := by
  induction hm with
  | refl => exact hs
  | step _ ih => exact mm_tr_s _ _ _ _ _ _ _ _ ih
def wt (P : mm_P) (d k pc : Nat) (ls : mm_V) (st : List Value) (h : mm_H) (K : Nat → mm_V → List Value → mm_H → Prop) : Prop := ∃ n pcf Lf stf hf, mm_tr P n d k pc ls st h = some (pcf, Lf, stf, hf) ∧ K pcf Lf stf hf
section WT
variable {P : mm_P} {d k pc : Nat} {ls : mm_V} {st : List Value} {h : mm_H} {K : Nat → mm_V → List Value → mm_H → Prop}
theorem wt_stop (hn : mm_stop (P.1 k pc) = true) (hk : K pc ls st h) : wt P d k pc ls st h K := ⟨1, pc, ls, st, h, by rw [mm_tr]; exact if_pos hn, hk⟩
theorem wt_step {pc' : Nat} {ls' : mm_V} {st' : List Value} {h' : mm_H} (e : mm_step P k (P.1 k pc) pc ls st h = some (.inl (pc', ls', st', h'))) (hn : mm_stop (P.1 k pc) = false) : wt P d k pc ls st h K ↔ wt P d k pc' ls' st' h' K := by
  have h0 : ¬ mm_stop (P.1 k pc) = true := by rw [hn]; decide
  constructor
  · rintro ⟨n, a, b, c, f, e1, q⟩
    cases n with
    | zero => cases e1
    | succ n =>
      rw [mm_tr, if_neg h0, e] at e1
      exact ⟨n, a, b, c, f, e1, q⟩
  · rintro ⟨n, a, b, c, f, e1, q⟩
    exact ⟨n + 1, a, b, c, f, by rw [mm_tr, if_neg h0, e]; exact e1, q⟩
theorem wt_call {k' : Nat} {as rest : List Value} (e : mm_step P k (P.1 k pc) pc ls st h = some (.inr (.inl (k', as, rest)))) (hn : mm_stop (P.1 k pc) = false) : wt P (d + 1) k pc ls st h K ↔ wm P d k' as h (fun r h' => wt P (d + 1) k (pc + 3) ls (r.toList ++ rest) h' K) := by
  have h0 : ¬ mm_stop (P.1 k pc) = true := by rw [hn]; decide
  constructor
  · rintro ⟨n, a, b, c, f, e1, q⟩
    cases n with
    | zero => cases e1
    | succ n =>
      rw [mm_tr, if_neg h0, e] at e1
      simp only [] at e1
      split at e1
      · cases e1
      · rename_i r1 h1 e2
        exact ⟨n, r1, h1, e2, n, a, b, c, f, e1, q⟩
  · rintro ⟨n1, r1, h1, e2, n, a, b, c, f, e1, q⟩
    refine ⟨n1 + n + 1, a, b, c, f, ?_, q⟩
    rw [mm_tr, if_neg h0, e]
    simp only []
    rw [mm_ex_le e2 (show n1 ≤ n1 + n by omega)]
    exact mm_tr_le e1 (show n ≤ n1 + n by omega)
theorem wt_if {cc : ClassFile.Cond} {t : Int} {x : Int32} {C : Prop} [Decidable C] (hi : P.1 k pc = .ifCond cc t) (hc : mm_test cc x 0 = true ↔ C) : wt P d k pc ls (.int x :: st) h K ↔ (if C then wt P d k t.toNat ls st h K else wt P d k (pc + 3) ls st h K) := by
  by_cases hC : C
  · rw [if_pos hC]
    exact wt_step (by rw [hi]; exact if_pos (hc.mpr hC)) (by rw [hi]; rfl)
  · rw [if_neg hC]
    exact wt_step (by rw [hi]; exact if_neg (fun z => hC (hc.mp z))) (by rw [hi]; rfl)
theorem wt_ic {cc : ClassFile.Cond} {t : Int} {x y : Int32} {C : Prop} [Decidable C] (hi : P.1 k pc = .if_icmp cc t) (hc : mm_test cc x y = true ↔ C) : wt P d k pc ls (.int y :: .int x :: st) h K ↔ (if C then wt P d k t.toNat ls st h K else wt P d k (pc + 3) ls st h K) := by
  by_cases hC : C
  · rw [if_pos hC]
    exact wt_step (by rw [hi]; exact if_pos (hc.mpr hC)) (by rw [hi]; rfl)
  · rw [if_neg hC]
    exact wt_step (by rw [hi]; exact if_neg (fun z => hC (hc.mp z))) (by rw [hi]; rfl)
end WT
section RW
variable (fx : List Value → mm_H → Option (List Value × mm_H)) (d : Nat) (h : mm_H) (K : Nat → mm_V → List Value → mm_H → Prop)
theorem u205_0 (l0 : Option Value) (l2 : Option Value) (l3 : Option Value) (l4 : Option Value) (l5 : Option Value) (l6 : Option Value) (l7 : Option Value) (l8 : Option Value) (x : Int32) : wt (mp_P fx) d 205 0 [l0, some (.int x), l2, l3, l4, l5, l6, l7, l8] [] h K ↔ wt (mp_P fx) d 205 1 [l0, some (.int x), l2, l3, l4, l5, l6, l7, l8] [.int x] h K := wt_step rfl rfl
theorem u205_1 (ls : mm_V) (s0 : Int32) : wt (mp_P fx) (d + 1) 205 1 ls [.int s0] h K ↔ wm (mp_P fx) d 206 [.int s0] h (fun r h' => wt (mp_P fx) (d + 1) 205 4 ls (r.toList ++ []) h' K) := wt_call rfl rfl
theorem u205_4 (ls : mm_V) (s0 : Int32) : wt (mp_P fx) d 205 4 ls [.int s0] h K ↔ (if s0 = 0 then wt (mp_P fx) d 205 27 ls [] h K else wt (mp_P fx) d 205 7 ls [] h K) := wt_if (cc := .eq) (t := 27) rfl (by simp [mm_test])
theorem u205_7 (l0 : Option Value) (l1 : Option Value) (l3 : Option Value) (l4 : Option Value) (l5 : Option Value) (l6 : Option Value) (l7 : Option Value) (l8 : Option Value) (x : Int32) : wt (mp_P fx) d 205 7 [l0, l1, some (.int x), l3, l4, l5, l6, l7, l8] [] h K ↔ wt (mp_P fx) d 205 8 [l0, l1, some (.int x), l3, l4, l5, l6, l7, l8] [.int x] h K := wt_step rfl rfl
theorem u205_8 (ls : mm_V) (s0 : Int32) : wt (mp_P fx) (d + 1) 205 8 ls [.int s0] h K ↔ wm (mp_P fx) d 206 [.int s0] h (fun r h' => wt (mp_P fx) (d + 1) 205 11 ls (r.toList ++ []) h' K) := wt_call rfl rfl
theorem u205_11 (ls : mm_V) (s0 : Int32) : wt (mp_P fx) d 205 11 ls [.int s0] h K ↔ (if s0 = 0 then wt (mp_P fx) d 205 27 ls [] h K else wt (mp_P fx) d 205 14 ls [] h K) := wt_if (cc := .eq) (t := 27) rfl (by simp [mm_test])
theorem u205_14 (l0 : Option Value) (l1 : Option Value) (l2 : Option Value) (l4 : Option Value) (l5 : Option Value) (l6 : Option Value) (l7 : Option Value) (l8 : Option Value) (x : Int32) : wt (mp_P fx) d 205 14 [l0, l1, l2, some (.int x), l4, l5, l6, l7, l8] [] h K ↔ wt (mp_P fx) d 205 15 [l0, l1, l2, some (.int x), l4, l5, l6, l7, l8] [.int x] h K := wt_step rfl rfl
theorem u205_15 (ls : mm_V) (s0 : Int32) : wt (mp_P fx) (d + 1) 205 15 ls [.int s0] h K ↔ wm (mp_P fx) d 206 [.int s0] h (fun r h' => wt (mp_P fx) (d + 1) 205 18 ls (r.toList ++ []) h' K) := wt_call rfl rfl
theorem u205_18 (ls : mm_V) (s0 : Int32) : wt (mp_P fx) d 205 18 ls [.int s0] h K ↔ (if s0 = 0 then wt (mp_P fx) d 205 27 ls [] h K else wt (mp_P fx) d 205 21 ls [] h K) := wt_if (cc := .eq) (t := 27) rfl (by simp [mm_test])
theorem u205_21 (l0 : Option Value) (l1 : Option Value) (l2 : Option Value) (l3 : Option Value) (l5 : Option Value) (l6 : Option Value) (l7 : Option Value) (l8 : Option Value) (x : Int32) : wt (mp_P fx) d 205 21 [l0, l1, l2, l3, some (.int x), l5, l6, l7, l8] [] h K ↔ wt (mp_P fx) d 205 23 [l0, l1, l2, l3, some (.int x), l5, l6, l7, l8] [.int x] h K := wt_step rfl rfl
theorem u205_23 (ls : mm_V) (s0 : Int32) : wt (mp_P fx) d 205 23 ls [.int s0] h K ↔ wt (mp_P fx) d 205 24 ls [.int (-1), .int s0] h K := wt_step rfl rfl
theorem u205_24 (ls : mm_V) (s0 : Int32) (s1 : Int32) : wt (mp_P fx) d 205 24 ls [.int s0, .int s1] h K ↔ (if s0 ≤ s1 then wt (mp_P fx) d 205 38 ls [] h K else wt (mp_P fx) d 205 27 ls [] h K) := wt_ic (cc := .ge) (t := 38) rfl (by simp [mm_test])
theorem u205_38 (ls : mm_V) : wt (mp_P fx) d 205 38 ls [] h K ↔ wt (mp_P fx) d 205 39 ls [.int 0] h K := wt_step rfl rfl
theorem u205_39i (l0 : Option Value) (l1 : Option Value) (l2 : Option Value) (l3 : Option Value) (l5 : Option Value) (l6 : Option Value) (l7 : Option Value) (l8 : Option Value) (y : Int32) (s0 : Int32) : wt (mp_P fx) d 205 39 [l0, l1, l2, l3, some (.int y), l5, l6, l7, l8] [.int s0] h K ↔ wt (mp_P fx) d 205 41 [l0, l1, l2, l3, some (.int y), some (.int s0), l6, l7, l8] [] h K := wt_step rfl rfl
theorem u205_41 (ls : mm_V) : wt (mp_P fx) d 205 41 ls [] h K ↔ wt (mp_P fx) d 205 42 ls [.int 0] h K := wt_step rfl rfl
theorem u205_42i (l0 : Option Value) (l1 : Option Value) (l2 : Option Value) (l3 : Option Value) (l4 : Option Value) (l6 : Option Value) (l7 : Option Value) (l8 : Option Value) (y : Int32) (s0 : Int32) : wt (mp_P fx) d 205 42 [l0, l1, l2, l3, l4, some (.int y), l6, l7, l8] [.int s0] h K ↔ wt (mp_P fx) d 205 44 [l0, l1, l2, l3, l4, some (.int y), some (.int s0), l7, l8] [] h K := wt_step rfl rfl
theorem u205_44 (l0 : Option Value) (l1 : Option Value) (l2 : Option Value) (l3 : Option Value) (l4 : Option Value) (l5 : Option Value) (l7 : Option Value) (l8 : Option Value) (x : Int32) : wt (mp_P fx) d 205 44 [l0, l1, l2, l3, l4, l5, some (.int x), l7, l8] [] h K ↔ wt (mp_P fx) d 205 46 [l0, l1, l2, l3, l4, l5, some (.int x), l7, l8] [.int x] h K := wt_step rfl rfl
theorem u205_46 (ls : mm_V) (s0 : Int32) : wt (mp_P fx) d 205 46 ls [.int s0] h K ↔ wt (mp_P fx) d 205 47 ls [.int 4, .int s0] h K := wt_step rfl rfl
theorem u205_47 (ls : mm_V) (s0 : Int32) (s1 : Int32) : wt (mp_P fx) d 205 47 ls [.int s0, .int s1] h K ↔ (if s0 ≤ s1 then wt (mp_P fx) d 205 123 ls [] h K else wt (mp_P fx) d 205 50 ls [] h K) := wt_ic (cc := .ge) (t := 123) rfl (by simp [mm_test])
theorem u205_50 (l0 : Option Value) (l1 : Option Value) (l2 : Option Value) (l3 : Option Value) (l4 : Option Value) (l5 : Option Value) (l7 : Option Value) (l8 : Option Value) (x : Int32) : wt (mp_P fx) d 205 50 [l0, l1, l2, l3, l4, l5, some (.int x), l7, l8] [] h K ↔ wt (mp_P fx) d 205 52 [l0, l1, l2, l3, l4, l5, some (.int x), l7, l8] [.int x] h K := wt_step rfl rfl
theorem u205_52 (ls : mm_V) (s0 : Int32) : wt (mp_P fx) d 205 52 ls [.int s0] h K ↔ wt (mp_P fx) d 205 53 ls [.int 1, .int s0] h K := wt_step rfl rfl
theorem u205_53 (ls : mm_V) (s0 : Int32) (s1 : Int32) : wt (mp_P fx) d 205 53 ls [.int s0, .int s1] h K ↔ (if s1 ≤ s0 then wt (mp_P fx) d 205 60 ls [] h K else wt (mp_P fx) d 205 56 ls [] h K) := wt_ic (cc := .le) (t := 60) rfl (by simp [mm_test])
theorem u205_56 (ls : mm_V) : wt (mp_P fx) d 205 56 ls [] h K ↔ wt (mp_P fx) d 205 57 ls [.int 1] h K := wt_step rfl rfl
theorem u205_57 (ls : mm_V) (s0 : Int32) : wt (mp_P fx) d 205 57 ls [.int s0] h K ↔ wt (mp_P fx) d 205 61 ls [.int s0] h K := wt_step rfl rfl
theorem u205_60 (ls : mm_V) : wt (mp_P fx) d 205 60 ls [] h K ↔ wt (mp_P fx) d 205 61 ls [.int 0] h K := wt_step rfl rfl
theorem u205_61i (l0 : Option Value) (l1 : Option Value) (l2 : Option Value) (l3 : Option Value) (l4 : Option Value) (l5 : Option Value) (l7 : Option Value) (l8 : Option Value) (y : Int32) (s0 : Int32) : wt (mp_P fx) d 205 61 [l0, l1, l2, l3, l4, l5, some (.int y), l7, l8] [.int s0] h K ↔ wt (mp_P fx) d 205 63 [l0, l1, l2, l3, l4, l5, some (.int y), some (.int s0), l8] [] h K := wt_step rfl rfl
theorem u205_63 (l0 : Option Value) (l1 : Option Value) (l2 : Option Value) (l3 : Option Value) (l4 : Option Value) (l5 : Option Value) (l7 : Option Value) (l8 : Option Value) (x : Int32) : wt (mp_P fx) d 205 63 [l0, l1, l2, l3, l4, l5, some (.int x), l7, l8] [] h K ↔ wt (mp_P fx) d 205 65 [l0, l1, l2, l3, l4, l5, some (.int x), l7, l8] [.int x] h K := wt_step rfl rfl
theorem u205_65 (ls : mm_V) (s0 : Int32) : wt (mp_P fx) d 205 65 ls [.int s0] h K ↔ wt (mp_P fx) d 205 66 ls [.int 1, .int s0] h K := wt_step rfl rfl
theorem u205_66 (ls : mm_V) (s0 : Int32) (s1 : Int32) : wt (mp_P fx) d 205 66 ls [.int s0, .int s1] h K ↔ wt (mp_P fx) d 205 67 ls [.int (s1 &&& s0)] h K := wt_step rfl rfl
theorem u205_67 (ls : mm_V) (s0 : Int32) : wt (mp_P fx) d 205 67 ls [.int s0] h K ↔ wt (mp_P fx) d 205 68 ls [.int 1, .int s0] h K := wt_step rfl rfl
theorem u205_68 (ls : mm_V) (s0 : Int32) (s1 : Int32) : wt (mp_P fx) d 205 68 ls [.int s0, .int s1] h K ↔ (if ¬ s1 = s0 then wt (mp_P fx) d 205 75 ls [] h K else wt (mp_P fx) d 205 71 ls [] h K) := wt_ic (cc := .ne) (t := 75) rfl (by simp [mm_test])
theorem u205_71 (ls : mm_V) : wt (mp_P fx) d 205 71 ls [] h K ↔ wt (mp_P fx) d 205 72 ls [.int 1] h K := wt_step rfl rfl
theorem u205_72 (ls : mm_V) (s0 : Int32) : wt (mp_P fx) d 205 72 ls [.int s0] h K ↔ wt (mp_P fx) d 205 76 ls [.int s0] h K := wt_step rfl rfl
theorem u205_75 (ls : mm_V) : wt (mp_P fx) d 205 75 ls [] h K ↔ wt (mp_P fx) d 205 76 ls [.int 0] h K := wt_step rfl rfl
theorem u205_76i (l0 : Option Value) (l1 : Option Value) (l2 : Option Value) (l3 : Option Value) (l4 : Option Value) (l5 : Option Value) (l6 : Option Value) (l8 : Option Value) (y : Int32) (s0 : Int32) : wt (mp_P fx) d 205 76 [l0, l1, l2, l3, l4, l5, l6, some (.int y), l8] [.int s0] h K ↔ wt (mp_P fx) d 205 78 [l0, l1, l2, l3, l4, l5, l6, some (.int y), some (.int s0)] [] h K := wt_step rfl rfl
theorem u205_78 (l0 : Option Value) (l1 : Option Value) (l2 : Option Value) (l3 : Option Value) (l4 : Option Value) (l5 : Option Value) (l6 : Option Value) (l8 : Option Value) (x : Int32) : wt (mp_P fx) d 205 78 [l0, l1, l2, l3, l4, l5, l6, some (.int x), l8] [] h K ↔ wt (mp_P fx) d 205 80 [l0, l1, l2, l3, l4, l5, l6, some (.int x), l8] [.int x] h K := wt_step rfl rfl
theorem u205_80 (l0 : Option Value) (l1 : Option Value) (l2 : Option Value) (l3 : Option Value) (l4 : Option Value) (l5 : Option Value) (l6 : Option Value) (l7 : Option Value) (x : Int32) (s0 : Int32) : wt (mp_P fx) d 205 80 [l0, l1, l2, l3, l4, l5, l6, l7, some (.int x)] [.int s0] h K ↔ wt (mp_P fx) d 205 82 [l0, l1, l2, l3, l4, l5, l6, l7, some (.int x)] [.int x, .int s0] h K := wt_step rfl rfl
theorem u205_82 (l0 : Option Value) (l2 : Option Value) (l3 : Option Value) (l4 : Option Value) (l5 : Option Value) (l6 : Option Value) (l7 : Option Value) (l8 : Option Value) (x : Int32) (s0 : Int32) (s1 : Int32) : wt (mp_P fx) d 205 82 [l0, some (.int x), l2, l3, l4, l5, l6, l7, l8] [.int s0, .int s1] h K ↔ wt (mp_P fx) d 205 83 [l0, some (.int x), l2, l3, l4, l5, l6, l7, l8] [.int x, .int s0, .int s1] h K := wt_step rfl rfl
theorem u205_83 (l0 : Option Value) (l1 : Option Value) (l3 : Option Value) (l4 : Option Value) (l5 : Option Value) (l6 : Option Value) (l7 : Option Value) (l8 : Option Value) (x : Int32) (s0 : Int32) (s1 : Int32) (s2 : Int32) : wt (mp_P fx) d 205 83 [l0, l1, some (.int x), l3, l4, l5, l6, l7, l8] [.int s0, .int s1, .int s2] h K ↔ wt (mp_P fx) d 205 84 [l0, l1, some (.int x), l3, l4, l5, l6, l7, l8] [.int x, .int s0, .int s1, .int s2] h K := wt_step rfl rfl
theorem u205_84 (l0 : Option Value) (l1 : Option Value) (l2 : Option Value) (l4 : Option Value) (l5 : Option Value) (l6 : Option Value) (l7 : Option Value) (l8 : Option Value) (x : Int32) (s0 : Int32) (s1 : Int32) (s2 : Int32) (s3 : Int32) : wt (mp_P fx) d 205 84 [l0, l1, l2, some (.int x), l4, l5, l6, l7, l8] [.int s0, .int s1, .int s2, .int s3] h K ↔ wt (mp_P fx) d 205 85 [l0, l1, l2, some (.int x), l4, l5, l6, l7, l8] [.int x, .int s0, .int s1, .int s2, .int s3] h K := wt_step rfl rfl
theorem u205_85 (ls : mm_V) (s0 : Int32) (s1 : Int32) (s2 : Int32) (s3 : Int32) (s4 : Int32) : wt (mp_P fx) (d + 1) 205 85 ls [.int s0, .int s1, .int s2, .int s3, .int s4] h K ↔ wm (mp_P fx) d 212 [.int s4, .int s3, .int s2, .int s1, .int s0] h (fun r h' => wt (mp_P fx) (d + 1) 205 88 ls (r.toList ++ []) h' K) := wt_call rfl rfl
theorem u205_88 (ls : mm_V) (s0 : Int32) : wt (mp_P fx) d 205 88 ls [.int s0] h K ↔ (if s0 = 0 then wt (mp_P fx) d 205 117 ls [] h K else wt (mp_P fx) d 205 91 ls [] h K) := wt_if (cc := .eq) (t := 117) rfl (by simp [mm_test])
theorem u205_91 (l0 : Option Value) (l1 : Option Value) (l2 : Option Value) (l3 : Option Value) (l4 : Option Value) (l5 : Option Value) (l6 : Option Value) (l7 : Option Value) (x : Int32) : wt (mp_P fx) d 205 91 [l0, l1, l2, l3, l4, l5, l6, l7, some (.int x)] [] h K ↔ wt (mp_P fx) d 205 93 [l0, l1, l2, l3, l4, l5, l6, l7, some (.int x)] [.int x] h K := wt_step rfl rfl
theorem u205_93 (l0 : Option Value) (l1 : Option Value) (l2 : Option Value) (l3 : Option Value) (l4 : Option Value) (l5 : Option Value) (l6 : Option Value) (l8 : Option Value) (x : Int32) (s0 : Int32) : wt (mp_P fx) d 205 93 [l0, l1, l2, l3, l4, l5, l6, some (.int x), l8] [.int s0] h K ↔ wt (mp_P fx) d 205 95 [l0, l1, l2, l3, l4, l5, l6, some (.int x), l8] [.int x, .int s0] h K := wt_step rfl rfl
theorem u205_95 (l0 : Option Value) (l2 : Option Value) (l3 : Option Value) (l4 : Option Value) (l5 : Option Value) (l6 : Option Value) (l7 : Option Value) (l8 : Option Value) (x : Int32) (s0 : Int32) (s1 : Int32) : wt (mp_P fx) d 205 95 [l0, some (.int x), l2, l3, l4, l5, l6, l7, l8] [.int s0, .int s1] h K ↔ wt (mp_P fx) d 205 96 [l0, some (.int x), l2, l3, l4, l5, l6, l7, l8] [.int x, .int s0, .int s1] h K := wt_step rfl rfl
theorem u205_96 (l0 : Option Value) (l1 : Option Value) (l3 : Option Value) (l4 : Option Value) (l5 : Option Value) (l6 : Option Value) (l7 : Option Value) (l8 : Option Value) (x : Int32) (s0 : Int32) (s1 : Int32) (s2 : Int32) : wt (mp_P fx) d 205 96 [l0, l1, some (.int x), l3, l4, l5, l6, l7, l8] [.int s0, .int s1, .int s2] h K ↔ wt (mp_P fx) d 205 97 [l0, l1, some (.int x), l3, l4, l5, l6, l7, l8] [.int x, .int s0, .int s1, .int s2] h K := wt_step rfl rfl
theorem u205_97 (l0 : Option Value) (l1 : Option Value) (l2 : Option Value) (l4 : Option Value) (l5 : Option Value) (l6 : Option Value) (l7 : Option Value) (l8 : Option Value) (x : Int32) (s0 : Int32) (s1 : Int32) (s2 : Int32) (s3 : Int32) : wt (mp_P fx) d 205 97 [l0, l1, l2, some (.int x), l4, l5, l6, l7, l8] [.int s0, .int s1, .int s2, .int s3] h K ↔ wt (mp_P fx) d 205 98 [l0, l1, l2, some (.int x), l4, l5, l6, l7, l8] [.int x, .int s0, .int s1, .int s2, .int s3] h K := wt_step rfl rfl
theorem u205_98 (ls : mm_V) (s0 : Int32) (s1 : Int32) (s2 : Int32) (s3 : Int32) (s4 : Int32) : wt (mp_P fx) (d + 1) 205 98 ls [.int s0, .int s1, .int s2, .int s3, .int s4] h K ↔ wm (mp_P fx) d 212 [.int s4, .int s3, .int s2, .int s1, .int s0] h (fun r h' => wt (mp_P fx) (d + 1) 205 101 ls (r.toList ++ []) h' K) := wt_call rfl rfl
theorem u205_101 (ls : mm_V) (s0 : Int32) : wt (mp_P fx) d 205 101 ls [.int s0] h K ↔ (if s0 = 0 then wt (mp_P fx) d 205 117 ls [] h K else wt (mp_P fx) d 205 104 ls [] h K) := wt_if (cc := .eq) (t := 117) rfl (by simp [mm_test])
theorem u205_104 (l0 : Option Value) (l1 : Option Value) (l2 : Option Value) (l3 : Option Value) (l4 : Option Value) (l6 : Option Value) (l7 : Option Value) (l8 : Option Value) (x : Int32) : wt (mp_P fx) d 205 104 [l0, l1, l2, l3, l4, some (.int x), l6, l7, l8] [] h K ↔ wt (mp_P fx) d 205 106 [l0, l1, l2, l3, l4, some (.int x), l6, l7, l8] [.int x] h K := wt_step rfl rfl
theorem u205_106 (l0 : Option Value) (l1 : Option Value) (l2 : Option Value) (l3 : Option Value) (l5 : Option Value) (l6 : Option Value) (l7 : Option Value) (l8 : Option Value) (x : Int32) (s0 : Int32) : wt (mp_P fx) d 205 106 [l0, l1, l2, l3, some (.int x), l5, l6, l7, l8] [.int s0] h K ↔ wt (mp_P fx) d 205 108 [l0, l1, l2, l3, some (.int x), l5, l6, l7, l8] [.int x, .int s0] h K := wt_step rfl rfl
theorem u205_108 (ls : mm_V) (s0 : Int32) (s1 : Int32) : wt (mp_P fx) d 205 108 ls [.int s0, .int s1] h K ↔ (if ¬ s1 = s0 then wt (mp_P fx) d 205 114 ls [] h K else wt (mp_P fx) d 205 111 ls [] h K) := wt_ic (cc := .ne) (t := 114) rfl (by simp [mm_test])
theorem u205_111 (l0 : Option Value) (l1 : Option Value) (l2 : Option Value) (l3 : Option Value) (l4 : Option Value) (l5 : Option Value) (l7 : Option Value) (l8 : Option Value) (x : Int32) : wt (mp_P fx) d 205 111 [l0, l1, l2, l3, l4, l5, some (.int x), l7, l8] [] h K ↔ wt (mp_P fx) d 205 113 [l0, l1, l2, l3, l4, l5, some (.int x), l7, l8] [.int x] h K := wt_step rfl rfl
theorem u205_114i (l0 : Option Value) (l1 : Option Value) (l2 : Option Value) (l3 : Option Value) (l6 : Option Value) (l7 : Option Value) (l8 : Option Value) (x : Int32) (y : Int32) : wt (mp_P fx) d 205 114 [l0, l1, l2, l3, some (.int y), some (.int x), l6, l7, l8] [] h K ↔ wt (mp_P fx) d 205 117 [l0, l1, l2, l3, some (.int y), some (.int (x + 1)), l6, l7, l8] [] h K := wt_step rfl rfl
theorem u205_117i (l0 : Option Value) (l1 : Option Value) (l2 : Option Value) (l3 : Option Value) (l4 : Option Value) (l7 : Option Value) (l8 : Option Value) (x : Int32) (y : Int32) : wt (mp_P fx) d 205 117 [l0, l1, l2, l3, l4, some (.int y), some (.int x), l7, l8] [] h K ↔ wt (mp_P fx) d 205 120 [l0, l1, l2, l3, l4, some (.int y), some (.int (x + 1)), l7, l8] [] h K := wt_step rfl rfl
theorem u205_120 (ls : mm_V) : wt (mp_P fx) d 205 120 ls [] h K ↔ wt (mp_P fx) d 205 44 ls [] h K := wt_step rfl rfl
theorem u205_123 (l0 : Option Value) (l1 : Option Value) (l2 : Option Value) (l3 : Option Value) (l5 : Option Value) (l6 : Option Value) (l7 : Option Value) (l8 : Option Value) (x : Int32) : wt (mp_P fx) d 205 123 [l0, l1, l2, l3, some (.int x), l5, l6, l7, l8] [] h K ↔ wt (mp_P fx) d 205 125 [l0, l1, l2, l3, some (.int x), l5, l6, l7, l8] [.int x] h K := wt_step rfl rfl
theorem u205_125 (ls : mm_V) (s0 : Int32) : wt (mp_P fx) d 205 125 ls [.int s0] h K ↔ wt (mp_P fx) d 205 126 ls [.int (-1), .int s0] h K := wt_step rfl rfl
theorem u205_126 (ls : mm_V) (s0 : Int32) (s1 : Int32) : wt (mp_P fx) d 205 126 ls [.int s0, .int s1] h K ↔ (if s1 = s0 then wt (mp_P fx) d 205 140 ls [] h K else wt (mp_P fx) d 205 129 ls [] h K) := wt_ic (cc := .eq) (t := 140) rfl (by simp [mm_test])
theorem u205_140 (l0 : Option Value) (l1 : Option Value) (l2 : Option Value) (l3 : Option Value) (l4 : Option Value) (l6 : Option Value) (l7 : Option Value) (l8 : Option Value) (x : Int32) : wt (mp_P fx) d 205 140 [l0, l1, l2, l3, l4, some (.int x), l6, l7, l8] [] h K ↔ wt (mp_P fx) d 205 142 [l0, l1, l2, l3, l4, some (.int x), l6, l7, l8] [.int x] h K := wt_step rfl rfl
end RW
section WR
variable {fx : List Value → mm_H → Option (List Value × mm_H)} {d : Nat} {h : mm_H} {Q : Option Value → mm_H → Prop} {K : Nat → mm_V → List Value → mm_H → Prop} {a b c v : Int32}
theorem t_isDigit (hq1 : 0 ≤ v → v ≤ 9 → Q (some (.int 1)) h) (hq0 : ¬ (0 ≤ v ∧ v ≤ 9) → Q (some (.int 0)) h) : wm (mp_P fx) d 206 [.int v] h Q := by
  simp only [e206, b206_0, b206_1, bn_0 b206_0, bn_1 b206_1, q206_0, q206_1, q206_4, q206_5, q206_7, q206_10, q206_11, q206_14, q206_15]
  by_cases h1 : v < 0
  · rw [if_pos h1]; exact hq0 (fun z => Int32.not_le.mpr h1 z.1)
  rw [if_neg h1]
  by_cases h2 : 9 < v
  · rw [if_pos h2]; exact hq0 (fun z => Int32.not_le.mpr h2 z.2)
  rw [if_neg h2]; exact hq1 (Int32.not_lt.mp h1) (Int32.not_lt.mp h2)
theorem t_gain {x y : Nat} (hx : x < 2) (hy : y < 2) (hq : Q (some (.int (gN a b c x y))) h) : wm (mp_P fx) d 213 [.int (nI x), .int (nI y), .int a, .int b, .int c] h Q := by
  unfold gN at hq
  simp only [e213, q213_0, q213_1, q213_4, q213_5, q213_8, q213_9, q213_10, q213_13, q213_14, q213_15, q213_16, q213_19, q213_21, q213_24, q213_25]
  have hx2 : x = 0 ∨ x = 1 := by omega
  have hy2 : y = 0 ∨ y = 1 := by omega
  rcases hx2 with rfl | rfl <;> rcases hy2 with rfl | rfl
  · rw [if_neg (by decide), if_neg (by decide)] at hq
    rw [if_pos (by decide), if_pos (by decide)]; exact hq
  · rw [if_neg (by decide), if_pos rfl] at hq
    rw [if_pos (by decide), if_neg (by decide)]; exact hq
  · rw [if_pos rfl, if_neg (by decide)] at hq
    rw [if_neg (by decide), if_pos (by decide)]; exact hq
  · rw [if_pos rfl, if_pos rfl] at hq
    rw [if_neg (by decide), if_neg (by decide)]; exact hq
theorem t_holds {x y : Nat} (hx : x < 2) (hy : y < 2) (hq1 : gN a b c (1 - x) y ≤ gN a b c x y → Q (some (.int 1)) h) (hq0 : ¬ gN a b c (1 - x) y ≤ gN a b c x y → Q (some (.int 0)) h) : wm (mp_P fx) (d + 1) 212 [.int (nI x), .int (nI y), .int a, .int b, .int c] h Q := by
  simp only [e212, b212_0, b212_1, bn_0 b212_0, bn_1 b212_1, q212_0, q212_1, q212_2, q212_3, q212_4]
  simp only [b212_0, b212_1, bn_0 b212_0, bn_1 b212_1, q212_6]
  apply t_gain hx hy
  have fin : ww (mp_P fx) (d + 1) 212 18 [some (.int (nI x)), some (.int (nI y)), some (.int a), some (.int b), some (.int c)] [.int (nI (1 - x)), .int (gN a b c x y)] h Q := by
    simp only [b212_0, b212_1, bn_0 b212_0, bn_1 b212_1, q212_18, q212_19, q212_20, q212_21]
    simp only [b212_0, b212_1, bn_0 b212_0, bn_1 b212_1, q212_23]
    apply t_gain (by omega) hy
    simp only [sl_i, b212_0, b212_1, bn_0 b212_0, bn_1 b212_1, q212_26]
    by_cases e : gN a b c (1 - x) y ≤ gN a b c x y
    · rw [if_neg (Int32.not_lt.mpr e)]
      simp only [b212_0, b212_1, bn_0 b212_0, bn_1 b212_1, q212_29, q212_30, b212_0, b212_1, bn_0 b212_0, bn_1 b212_1, q212_34]
      exact hq1 e
    · rw [if_pos (Int32.not_le.mp e)]
      simp only [b212_0, b212_1, bn_0 b212_0, bn_1 b212_1, q212_33, q212_34]
      exact hq0 e
  simp only [sl_i, b212_0, b212_1, bn_0 b212_0, bn_1 b212_1, q212_9, q212_10]
  have hx2 : x = 0 ∨ x = 1 := by omega
  rcases hx2 with rfl | rfl
  · rw [if_neg (by decide)]
    simp only [b212_0, b212_1, bn_0 b212_0, bn_1 b212_1, q212_13, q212_14]
    exact fin
  · rw [if_pos (by decide)]
    simp only [b212_0, b212_1, bn_0 b212_0, bn_1 b212_1, q212_17]
    exact fin
theorem r4_x : ∀ p, p < 4 → ((if (1 : Int32) < nI p then (1 : Int32) else 0) = nI (p / 2)) ∧ (((nI p &&& 1) = 1) ↔ p % 2 = 1) ∧ (nI p ≤ 1 ↔ p / 2 = 0) := by decide +kernel
def xrK (a b c v : Int32) (h : mm_H) : Nat → mm_V → List Value → mm_H → Prop := fun pc _ st h' => h' = h ∧ ((∃ r, sp_rests a b c v = some r ∧ st = [.int r] ∧ (pc = 113 ∨ pc = 142)) ∨ (sp_rests a b c v = none ∧ st = [] ∧ (pc = 27 ∨ pc = 129)))
theorem xr_tr {x : Nat} : wt (mp_P fx) (d + 2) 205 0 [some (.ref x), some (.int a), some (.int b), some (.int c), some (.int v), none, none, none, none] [] h (xrK a b c v h) := by
  have key : ∀ (m p f : Nat) (l7 l8 : Option Value), p + m = 4 → sp_rests a b c v = rsl a b c v m p f → wt (mp_P fx) (d + 2) 205 44 [some (.ref x), some (.int a), some (.int b), some (.int c), some (.int v), some (.int (nI f)), some (.int (nI p)), l7, l8] [] h (xrK a b c v h) := by
    intro m
    induction m with
    | zero =>
      intro p f l7 l8 hp hsp
      rw [rsl] at hsp
      rw [u205_44]
      simp only [u205_46, u205_47]
      rw [if_pos (by rw [nl_4, nI_leI (by omega) (by omega)]; omega)]
      simp only [u205_123, u205_125, u205_126]
      by_cases ev : v = -1
      · rw [if_pos ev] at hsp
        rw [if_pos ev]
        simp only [u205_140]
        exact wt_stop rfl ⟨rfl, Or.inl ⟨_, hsp, rfl, Or.inr rfl⟩⟩
      · rw [if_neg ev] at hsp
        rw [if_neg ev]
        exact wt_stop rfl ⟨rfl, Or.inr ⟨hsp, rfl, Or.inr rfl⟩⟩
    | succ m ih =>
      intro p f l7 l8 hp hsp
      obtain ⟨d1, d2, d3⟩ := r4_x p (by omega)
      have hx : p / 2 < 2 := by omega
      have hy : p % 2 < 2 := by omega
      rw [rsl] at hsp
      rw [u205_44]
      simp only [u205_46, u205_47]
      rw [if_neg (by rw [nl_4, nI_leI (by omega) (by omega)]; omega)]
      simp only [u205_50, u205_52, u205_53]
      have at78 : wt (mp_P fx) (d + 2) 205 78 [some (.ref x), some (.int a), some (.int b), some (.int c), some (.int v), some (.int (nI f)), some (.int (nI p)), some (.int (nI (p / 2))), some (.int (nI (p % 2)))] [] h (xrK a b c v h) := by
        have h117 : ∀ f', sp_rests a b c v = rsl a b c v m (p + 1) f' → wt (mp_P fx) (d + 2) 205 117 [some (.ref x), some (.int a), some (.int b), some (.int c), some (.int v), some (.int (nI f')), some (.int (nI p)), some (.int (nI (p / 2))), some (.int (nI (p % 2)))] [] h (xrK a b c v h) := by
          intro f' hf'
          simp only [u205_117i, u205_120, nI_1]
          exact ih (p + 1) f' _ _ (by omega) hf'
        simp only [u205_78, u205_80, u205_82, u205_83, u205_84]
        simp only [u205_85]
        apply t_holds hx hy
        · intro e1
          simp only [sl_i, u205_88, u205_91, u205_93, u205_95, u205_96, u205_97]
          rw [if_neg (by decide)]
          simp only [u205_98]
          apply t_holds hy hx
          · intro e2
            have hP : rsP a b c p = true := by unfold rsP; rw [decide_eq_true e1, decide_eq_true e2]; rfl
            rw [if_pos hP] at hsp
            simp only [sl_i, u205_101, u205_104, u205_106, u205_108]
            rw [if_neg (by decide)]
            by_cases e3 : nI f = v
            · rw [if_pos e3] at hsp
              rw [if_neg (fun z => z e3)]
              simp only [u205_111]
              exact wt_stop rfl ⟨rfl, Or.inl ⟨_, hsp, rfl, Or.inl rfl⟩⟩
            · rw [if_neg e3] at hsp
              rw [if_pos e3]
              simp only [u205_114i, nI_1]
              exact h117 (f + 1) hsp
          · intro e2
            have hP : ¬ rsP a b c p = true := by unfold rsP; rw [decide_eq_true e1, decide_eq_false e2]; decide
            rw [if_neg hP] at hsp
            simp only [sl_i, u205_101]
            rw [if_pos (by decide)]
            exact h117 f hsp
        · intro e1
          have hP : ¬ rsP a b c p = true := by unfold rsP; rw [decide_eq_false e1, Bool.false_and]; decide
          rw [if_neg hP] at hsp
          simp only [sl_i, u205_88]
          rw [if_pos (by decide)]
          exact h117 f hsp
      have at61 : wt (mp_P fx) (d + 2) 205 61 [some (.ref x), some (.int a), some (.int b), some (.int c), some (.int v), some (.int (nI f)), some (.int (nI p)), l7, l8] [.int (nI (p / 2))] h (xrK a b c v h) := by
        simp only [u205_61i, u205_63, u205_65, u205_66, u205_67, u205_68]
        by_cases e : p % 2 = 1
        · rw [if_neg (fun z => z (d2.mpr e))]
          simp only [u205_71, u205_72, u205_76i]
          rw [show (1 : Int32) = nI (p % 2) by rw [e]; rfl]
          exact at78
        · rw [if_pos (fun z => e (d2.mp z))]
          simp only [u205_75, u205_76i]
          rw [show (0 : Int32) = nI (p % 2) by rw [show p % 2 = 0 by omega]; rfl]
          exact at78
      by_cases e : p / 2 = 0
      · rw [if_pos (d3.mpr e)]
        simp only [u205_60]
        rw [show (0 : Int32) = nI (p / 2) by rw [e]; rfl]
        exact at61
      · rw [if_neg (fun z => e (d3.mp z))]
        simp only [u205_56, u205_57]
        rw [show (1 : Int32) = nI (p / 2) by rw [show p / 2 = 1 by omega]; rfl]
        exact at61
  have bad : ¬ ((0 ≤ a ∧ a ≤ 9) ∧ (0 ≤ b ∧ b ≤ 9) ∧ (0 ≤ c ∧ c ≤ 9) ∧ -1 ≤ v) → wt (mp_P fx) (d + 2) 205 27 [some (.ref x), some (.int a), some (.int b), some (.int c), some (.int v), none, none, none, none] [] h (xrK a b c v h) := fun hb => wt_stop rfl ⟨rfl, Or.inr ⟨if_neg hb, rfl, Or.inl rfl⟩⟩
  simp only [u205_0]
  simp only [u205_1]
  apply t_isDigit
  rotate_left
  · intro y
    simp only [sl_i, u205_4]
    rw [if_pos (by decide)]
    exact bad (fun z => y z.1)
  intro ya yb
  simp only [sl_i, u205_4, u205_7]
  rw [if_neg (by decide)]
  simp only [u205_8]
  apply t_isDigit
  rotate_left
  · intro y
    simp only [sl_i, u205_11]
    rw [if_pos (by decide)]
    exact bad (fun z => y z.2.1)
  intro yc yd
  simp only [sl_i, u205_11, u205_14]
  rw [if_neg (by decide)]
  simp only [u205_15]
  apply t_isDigit
  rotate_left
  · intro y
    simp only [sl_i, u205_18]
    rw [if_pos (by decide)]
    exact bad (fun z => y z.2.2.1)
  intro ye yf
  simp only [sl_i, u205_18, u205_21, u205_23, u205_24]
  rw [if_neg (by decide)]
  by_cases ev : -1 ≤ v
  · rw [if_pos ev]
    simp only [u205_38, u205_39i, u205_41, u205_42i]
    exact key 4 0 0 none none rfl (if_pos ⟨⟨ya, yb⟩, ⟨yc, yd⟩, ⟨ye, yf⟩, ev⟩)
  · rw [if_neg ev]
    exact bad (fun z => ev z.2.2.2)
end WR
